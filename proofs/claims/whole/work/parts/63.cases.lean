/-! 63: the law's cases -/
def tC_12 : List PT := [(1037, .aload_n 1, 1, 1, 0), (1038, .aload_n 0, 1, 2, 0), (1039, .iload 5, 2, 3, 0), (1041, .iconst 1, 1, 4, 0), (1042, .iadd, 1, 5, 0), (1043, .iaload, 1, 6, 0), (1044, .aload_n 3, 1, 7, 0), (1045, .invokestatic 193, 3, 8, 0), (1048, .istore 6, 2, 9, 0), (1050, .aload_n 2, 1, 10, 0), (1051, .aload_n 0, 1, 11, 0), (1052, .iload 5, 2, 12, 0), (1054, .iconst 1, 1, 13, 0), (1055, .iadd, 1, 14, 0), (1056, .iaload, 1, 15, 0), (1057, .invokevirtual 195, 3, 16, 0), (1060, .istore 7, 2, 17, 0), (1062, .aload_n 2, 1, 18, 0), (1063, .invokevirtual 152, 3, 19, 0), (1066, .iload 6, 2, 20, 0), (1068, .if_icmp .eq 5, 3, 21, 23), (1071, .iconst 0, 1, 22, 0), (1072, .ireturn, 1, 23, 0), (1073, .iload 6, 2, 24, 0), (1075, .ifCond .ne 15, 3, 25, 34), (1078, .aload_n 3, 1, 26, 0), (1079, .iconst 0, 1, 27, 0), (1080, .laload, 1, 28, 0), (1081, .iload 7, 2, 29, 0), (1083, .i2l, 1, 30, 0), (1084, .lcmp, 1, 31, 0), (1085, .ifCond .eq 5, 3, 32, 34), (1088, .iconst 0, 1, 33, 0), (1089, .ireturn, 1, 34, 0), (1090, .goto 1732, 3, 0, 35), (2822, .iinc 5 6, 3, 36, 0), (2825, .goto (-2797), 3, 49, 37), (28, .iload 5, 2, 38, 0), (30, .aload_n 0, 1, 39, 0), (31, .arraylength, 1, 40, 0), (32, .bipush 6, 2, 41, 0), (34, .isub, 1, 42, 0), (35, .if_icmp .gt 2793, 3, 43, 49), (38, .aload_n 0, 1, 44, 0), (39, .iload 5, 2, 45, 0), (41, .iaload, 1, 46, 0), (42, .bipush 63, 2, 47, 0), (44, .iand, 1, 48, 0), (45, .tableswitch 2777 0 47 #[207, 311, 367, 380, 424, 528, 596, 652, 708, 788, 868, 948, 992, 1048, 1092, 1105, 1118, 1162, 1218, 1286, 1342, 1421, 1504, 1559, 1603, 1671, 1755, 1823, 1891, 1959, 2015, 2071, 2126, 2181, 2207, 2232, 2246, 2302, 2358, 2414, 2457, 2471, 2536, 2615, 2671, 2726, 2739, 2764], 207, 0, 0), (2828, .iconst 1, 1, 50, 0), (2829, .ireturn, 1, 0, 0)]
set_option maxRecDepth 100000 in
theorem okC_12 : OkTab cL_law tC_12 := ⟨by decide +kernel, by decide +kernel⟩
theorem lmW_193 : LkM RL 193 yL_setStart := lw_good_in (n := 997) (by decide +kernel) rfl
theorem lmW_195 : LkM RL 195 yX8_setStart := lw_good_in (n := 1669) (by decide +kernel) rfl
set_option maxRecDepth 100000 in
set_option maxHeartbeats 1000000 in
theorem law_12 (l : Launch) (D : va_G) (cy : Nat → ClassId) (B : Nat) (od : Nat → Option Nat) {p : Program} {e : Env} {s : State} {m : MethodId} {args : Array Value} {below : List Frame} {meth : Method} {c : Code} {F : State → Prop} {cells slots : Nat} {A : AH} {L i : Nat} {xs : Nat → Int32} {W : LW} {f : MF} {mb rd r sv hy : Nat → Int32} (hl9 : l.stackTraces = false) (X : Cx p s m args meth c D cy B od cL_law 9 tC_12 RL (some .boolean)) (hs : SCR B od L xs s) (hL : L ≤ 3072) (hi : i + 5 < L) (hI : INV cy A W f mb rd r sv hy) (hcap : cells + 3 ≤ 601024 ∧ slots + 18 ≤ 7293034) (kk : ∀ A9, (∃ w, SOK cy A9 w) → G p l e room_1 s m args below meth c D B od 9 tC_12 F (cells + 3) (slots + 18) A9 0 35 (lv0 i) []) : G p l e room_1 s m args below meth c D B od 9 tC_12 F cells slots A 0 0 (lv0 i) [] := by
  obtain ⟨fs0, ho0⟩ := hI.o0
  unfold lv0
  obtain ⟨Qr, Qx, hC, hT, hE, hA, hB⟩ := pr_setStart l D cy B od hl9 hI (x0 := xs (i + 1))
  refine g_aload_n X rfl rfl ?_
  refine g_aload_n X rfl rfl ?_
  refine g_iload X rfl rfl ?_
  refine g_iconst X rfl (v := nI 1) (by decide) ?_
  refine g_iadN X rfl ?_
  refine g_sld X hs rfl (by omega) (by omega) ?_
  refine g_aload_n X rfl rfl ?_
  refine g_hp X rfl lkL_setStart lmW_193 stL_setStart (hp_L_setStart l D cy B od (hC 0) ho0 (fun r A1 h => ⟨tyI (hT r A1 h).1, (hT r A1 h).2.1⟩) hE) rfl rfl (Nat.le_of_ble_eq_true rfl) ⟨Nat.le_of_ble_eq_true rfl, Nat.le_of_ble_eq_true rfl⟩ ⟨Nat.le_trans (Nat.add_le_add_left (show rmL_setStart.cells ≤ 3 by decide) _) hcap.1, Nat.le_trans (Nat.add_le_add_left (show rmL_setStart.slots ≤ 18 by decide) _) hcap.2⟩ (fun v1 A1 z1 q1 => ?_)
  have hcp : cells + rmL_setStart.cells ≤ room_1.cells ∧ slots + rmL_setStart.slots ≤ room_1.slots := ⟨Nat.le_trans (Nat.add_le_add_left (show rmL_setStart.cells ≤ 3 by decide) _) hcap.1, Nat.le_trans (Nat.add_le_add_left (show rmL_setStart.slots ≤ 18 by decide) _) hcap.2⟩
  refine g_z0 ?_
  rcases q1 with ⟨r9, A2, g, hQ, rfl, hg, rfl⟩ | ⟨E, hx, hm, rfl⟩
  · obtain ⟨x9, rfl⟩ := tyI (hT r9 A2 hQ).1
    obtain ⟨⟨f3, hf3⟩, hMd⟩ := hA _ A2 _ hQ (Or.inl ⟨rfl, g, rfl⟩)
    refine g_istore X rfl (by decide) ?_
    refine g_aload_n X rfl rfl ?_
    refine g_aload_n X rfl rfl ?_
    refine g_iload X rfl rfl ?_
    refine g_iconst X rfl (v := nI 1) (by decide) ?_
    refine g_iadN X rfl ?_
    refine g_sld X hs rfl (by omega) (by omega) ?_
    refine g_mV X rfl lcX8_setStart lmW_195 lsX8_setStart hMd (ci := 8) hf3 rfl rfl rfl (Nat.le_of_ble_eq_true rfl) ⟨⟨Nat.le_of_ble_eq_true rfl, Nat.le_of_ble_eq_true rfl⟩, rfl, rfl⟩ hcp (fun v2 A3 q2 => ?_)
    obtain ⟨rfl, hS, ho3⟩ := q2
    obtain ⟨W3, f4, mb3, rd3, r3, sv3, hy3, hJ, hw⟩ := id hS
    refine g_istore X rfl (by decide) ?_
    refine g_aload_n X rfl rfl ?_
    refine g_rV X rfl lcX8_thrown lmW_152 lsX8_thrown (cr_X8_thrown l D cy B od hJ.2.1.1) (ci := 8) hJ.2.1.1 rfl rfl rfl (Nat.le_of_ble_eq_true rfl) ⟨⟨Nat.le_of_ble_eq_true rfl, Nat.le_of_ble_eq_true rfl⟩, rfl, rfl⟩ hcp ?_
    rw [hw]
    refine g_iload X rfl rfl ?_
    refine g_icmp_eq X rfl (fun _ => ?_) (fun q => absurd rfl q)
    refine g_iload X rfl rfl ?_
    refine g_if_ne X rfl (fun q => absurd nI_0 q) (fun _ => ?_)
    refine g_aload_n X rfl rfl ?_
    refine g_iconst X rfl (v := nI 0) (by decide) ?_
    refine g_laldN X rfl ho3 (by decide) (by decide) ?_
    refine g_iload X rfl rfl ?_
    refine g_i2l X rfl ?_
    refine g_l_eq X rfl rfl (fun _ => ?_) (fun q => absurd hg q)
    refine g_goto X rfl ?_
    refine g_wid (k := cells + 3) (n := slots + 18) (Nat.add_le_add_left (Nat.le_of_ble_eq_true rfl) _) (Nat.add_le_add_left (Nat.le_of_ble_eq_true rfl) _) ?_
    exact G.lvw (lvw6 (fun j hj => match j, hj with | 0, _ => rfl | 1, _ => rfl | 2, _ => rfl | 3, _ => rfl | 4, _ => rfl | 5, _ => rfl | j + 6, h => absurd h (by omega))) (kk _ ⟨_, hS⟩)
  · obtain ⟨⟨f3, hf3⟩, hMd⟩ := hB E A1 hx
    refine g_istore X rfl (by decide) ?_
    refine g_aload_n X rfl rfl ?_
    refine g_aload_n X rfl rfl ?_
    refine g_iload X rfl rfl ?_
    refine g_iconst X rfl (v := nI 1) (by decide) ?_
    refine g_iadN X rfl ?_
    refine g_sld X hs rfl (by omega) (by omega) ?_
    refine g_mV X rfl lcX8_setStart lmW_195 lsX8_setStart hMd (ci := 8) hf3 rfl rfl rfl (Nat.le_of_ble_eq_true rfl) ⟨⟨Nat.le_of_ble_eq_true rfl, Nat.le_of_ble_eq_true rfl⟩, rfl, rfl⟩ hcp (fun v2 A3 q2 => ?_)
    obtain ⟨⟨d9, hd9, rfl⟩, hS⟩ := q2
    obtain ⟨x9, rfl⟩ := tyI hd9
    obtain ⟨W3, f4, mb3, rd3, r3, sv3, hy3, hJ, hw⟩ := id hS
    refine g_istore X rfl (by decide) ?_
    refine g_aload_n X rfl rfl ?_
    refine g_rV X rfl lcX8_thrown lmW_152 lsX8_thrown (cr_X8_thrown l D cy B od hJ.2.1.1) (ci := 8) hJ.2.1.1 rfl rfl rfl (Nat.le_of_ble_eq_true rfl) ⟨⟨Nat.le_of_ble_eq_true rfl, Nat.le_of_ble_eq_true rfl⟩, rfl, rfl⟩ hcp ?_
    rw [hw]
    refine g_iload X rfl rfl ?_
    refine g_icmp_eq X rfl (fun _ => ?_) (fun q => absurd rfl q)
    refine g_iload X rfl rfl ?_
    refine g_if_ne X rfl (fun _ => ?_) (fun q => absurd q (cX_n0 (by decide)))
    refine g_goto X rfl ?_
    refine g_wid (k := cells + 3) (n := slots + 18) (Nat.add_le_add_left (Nat.le_of_ble_eq_true rfl) _) (Nat.add_le_add_left (Nat.le_of_ble_eq_true rfl) _) ?_
    exact G.lvw (lvw6 (fun j hj => match j, hj with | 0, _ => rfl | 1, _ => rfl | 2, _ => rfl | 3, _ => rfl | 4, _ => rfl | 5, _ => rfl | j + 6, h => absurd h (by omega))) (kk _ ⟨_, hS⟩)
def tC_13 : List PT := [(1093, .aload_n 1, 1, 1, 0), (1094, .aload_n 3, 1, 2, 0), (1095, .invokestatic 196, 3, 3, 0), (1098, .istore 6, 2, 4, 0), (1100, .aload_n 2, 1, 5, 0), (1101, .invokevirtual 198, 3, 6, 0), (1104, .istore 7, 2, 7, 0), (1106, .aload_n 2, 1, 8, 0), (1107, .invokevirtual 152, 3, 9, 0), (1110, .iload 6, 2, 10, 0), (1112, .if_icmp .eq 5, 3, 11, 13), (1115, .iconst 0, 1, 12, 0), (1116, .ireturn, 1, 13, 0), (1117, .iload 6, 2, 14, 0), (1119, .ifCond .ne 15, 3, 15, 24), (1122, .aload_n 3, 1, 16, 0), (1123, .iconst 0, 1, 17, 0), (1124, .laload, 1, 18, 0), (1125, .iload 7, 2, 19, 0), (1127, .i2l, 1, 20, 0), (1128, .lcmp, 1, 21, 0), (1129, .ifCond .eq 5, 3, 22, 24), (1132, .iconst 0, 1, 23, 0), (1133, .ireturn, 1, 24, 0), (1134, .goto 1688, 3, 0, 25), (2822, .iinc 5 6, 3, 26, 0), (2825, .goto (-2797), 3, 39, 27), (28, .iload 5, 2, 28, 0), (30, .aload_n 0, 1, 29, 0), (31, .arraylength, 1, 30, 0), (32, .bipush 6, 2, 31, 0), (34, .isub, 1, 32, 0), (35, .if_icmp .gt 2793, 3, 33, 39), (38, .aload_n 0, 1, 34, 0), (39, .iload 5, 2, 35, 0), (41, .iaload, 1, 36, 0), (42, .bipush 63, 2, 37, 0), (44, .iand, 1, 38, 0), (45, .tableswitch 2777 0 47 #[207, 311, 367, 380, 424, 528, 596, 652, 708, 788, 868, 948, 992, 1048, 1092, 1105, 1118, 1162, 1218, 1286, 1342, 1421, 1504, 1559, 1603, 1671, 1755, 1823, 1891, 1959, 2015, 2071, 2126, 2181, 2207, 2232, 2246, 2302, 2358, 2414, 2457, 2471, 2536, 2615, 2671, 2726, 2739, 2764], 207, 0, 0), (2828, .iconst 1, 1, 40, 0), (2829, .ireturn, 1, 0, 0)]
set_option maxRecDepth 100000 in
theorem okC_13 : OkTab cL_law tC_13 := ⟨by decide +kernel, by decide +kernel⟩
theorem lmW_196 : LkM RL 196 yL_undo := lw_good_in (n := 1005) (by decide +kernel) rfl
theorem lmW_198 : LkM RL 198 yX8_undo := lw_good_in (n := 1455) (by decide +kernel) rfl
set_option maxRecDepth 100000 in
set_option maxHeartbeats 1000000 in
theorem law_13 (l : Launch) (D : va_G) (cy : Nat → ClassId) (B : Nat) (od : Nat → Option Nat) {p : Program} {e : Env} {s : State} {m : MethodId} {args : Array Value} {below : List Frame} {meth : Method} {c : Code} {F : State → Prop} {cells slots : Nat} {A : AH} {L i : Nat} {xs : Nat → Int32} {W : LW} {f : MF} {mb rd r sv hy : Nat → Int32} (hl9 : l.stackTraces = false) (X : Cx p s m args meth c D cy B od cL_law 9 tC_13 RL (some .boolean)) (hs : SCR B od L xs s) (hL : L ≤ 3072) (hi : i + 5 < L) (hI : INV cy A W f mb rd r sv hy) (hcap : cells + 3 ≤ 601024 ∧ slots + 18 ≤ 7293034) (kk : ∀ A9, (∃ w, SOK cy A9 w) → G p l e room_1 s m args below meth c D B od 9 tC_13 F (cells + 3) (slots + 18) A9 0 25 (lv0 i) []) : G p l e room_1 s m args below meth c D B od 9 tC_13 F cells slots A 0 0 (lv0 i) [] := by
  obtain ⟨fs0, ho0⟩ := hI.o0
  unfold lv0
  obtain ⟨Qr, Qx, hC, hT, hE, hA, hB⟩ := pr_undo l D cy B od hl9 hI
  refine g_aload_n X rfl rfl ?_
  refine g_aload_n X rfl rfl ?_
  refine g_hp X rfl lkL_undo lmW_196 stL_undo (hp_L_undo l D cy B od (hC 0) ho0 (fun r A1 h => ⟨tyI (hT r A1 h).1, (hT r A1 h).2.1⟩) hE) rfl rfl (Nat.le_of_ble_eq_true rfl) ⟨Nat.le_of_ble_eq_true rfl, Nat.le_of_ble_eq_true rfl⟩ ⟨Nat.le_trans (Nat.add_le_add_left (show rmL_undo.cells ≤ 3 by decide) _) hcap.1, Nat.le_trans (Nat.add_le_add_left (show rmL_undo.slots ≤ 18 by decide) _) hcap.2⟩ (fun v1 A1 z1 q1 => ?_)
  have hcp : cells + rmL_undo.cells ≤ room_1.cells ∧ slots + rmL_undo.slots ≤ room_1.slots := ⟨Nat.le_trans (Nat.add_le_add_left (show rmL_undo.cells ≤ 3 by decide) _) hcap.1, Nat.le_trans (Nat.add_le_add_left (show rmL_undo.slots ≤ 18 by decide) _) hcap.2⟩
  refine g_z0 ?_
  rcases q1 with ⟨r9, A2, g, hQ, rfl, hg, rfl⟩ | ⟨E, hx, hm, rfl⟩
  · obtain ⟨x9, rfl⟩ := tyI (hT r9 A2 hQ).1
    obtain ⟨⟨f3, hf3⟩, hMd⟩ := hA _ A2 _ hQ (Or.inl ⟨rfl, g, rfl⟩)
    refine g_istore X rfl (by decide) ?_
    refine g_aload_n X rfl rfl ?_
    refine g_mV X rfl lcX8_undo lmW_198 lsX8_undo hMd (ci := 8) hf3 rfl rfl rfl (Nat.le_of_ble_eq_true rfl) ⟨⟨Nat.le_of_ble_eq_true rfl, Nat.le_of_ble_eq_true rfl⟩, rfl, rfl⟩ hcp (fun v2 A3 q2 => ?_)
    obtain ⟨rfl, hS, ho3⟩ := q2
    obtain ⟨W3, f4, mb3, rd3, r3, sv3, hy3, hJ, hw⟩ := id hS
    refine g_istore X rfl (by decide) ?_
    refine g_aload_n X rfl rfl ?_
    refine g_rV X rfl lcX8_thrown lmW_152 lsX8_thrown (cr_X8_thrown l D cy B od hJ.2.1.1) (ci := 8) hJ.2.1.1 rfl rfl rfl (Nat.le_of_ble_eq_true rfl) ⟨⟨Nat.le_of_ble_eq_true rfl, Nat.le_of_ble_eq_true rfl⟩, rfl, rfl⟩ hcp ?_
    rw [hw]
    refine g_iload X rfl rfl ?_
    refine g_icmp_eq X rfl (fun _ => ?_) (fun q => absurd rfl q)
    refine g_iload X rfl rfl ?_
    refine g_if_ne X rfl (fun q => absurd nI_0 q) (fun _ => ?_)
    refine g_aload_n X rfl rfl ?_
    refine g_iconst X rfl (v := nI 0) (by decide) ?_
    refine g_laldN X rfl ho3 (by decide) (by decide) ?_
    refine g_iload X rfl rfl ?_
    refine g_i2l X rfl ?_
    refine g_l_eq X rfl rfl (fun _ => ?_) (fun q => absurd hg q)
    refine g_goto X rfl ?_
    refine g_wid (k := cells + 3) (n := slots + 18) (Nat.add_le_add_left (Nat.le_of_ble_eq_true rfl) _) (Nat.add_le_add_left (Nat.le_of_ble_eq_true rfl) _) ?_
    exact G.lvw (lvw6 (fun j hj => match j, hj with | 0, _ => rfl | 1, _ => rfl | 2, _ => rfl | 3, _ => rfl | 4, _ => rfl | 5, _ => rfl | j + 6, h => absurd h (by omega))) (kk _ ⟨_, hS⟩)
  · obtain ⟨⟨f3, hf3⟩, hMd⟩ := hB E A1 hx
    refine g_istore X rfl (by decide) ?_
    refine g_aload_n X rfl rfl ?_
    refine g_mV X rfl lcX8_undo lmW_198 lsX8_undo hMd (ci := 8) hf3 rfl rfl rfl (Nat.le_of_ble_eq_true rfl) ⟨⟨Nat.le_of_ble_eq_true rfl, Nat.le_of_ble_eq_true rfl⟩, rfl, rfl⟩ hcp (fun v2 A3 q2 => ?_)
    obtain ⟨⟨d9, hd9, rfl⟩, hS⟩ := q2
    obtain ⟨x9, rfl⟩ := tyI hd9
    obtain ⟨W3, f4, mb3, rd3, r3, sv3, hy3, hJ, hw⟩ := id hS
    refine g_istore X rfl (by decide) ?_
    refine g_aload_n X rfl rfl ?_
    refine g_rV X rfl lcX8_thrown lmW_152 lsX8_thrown (cr_X8_thrown l D cy B od hJ.2.1.1) (ci := 8) hJ.2.1.1 rfl rfl rfl (Nat.le_of_ble_eq_true rfl) ⟨⟨Nat.le_of_ble_eq_true rfl, Nat.le_of_ble_eq_true rfl⟩, rfl, rfl⟩ hcp ?_
    rw [hw]
    refine g_iload X rfl rfl ?_
    refine g_icmp_eq X rfl (fun _ => ?_) (fun q => absurd rfl q)
    refine g_iload X rfl rfl ?_
    refine g_if_ne X rfl (fun _ => ?_) (fun q => absurd q (cX_n0 (by decide)))
    refine g_goto X rfl ?_
    refine g_wid (k := cells + 3) (n := slots + 18) (Nat.add_le_add_left (Nat.le_of_ble_eq_true rfl) _) (Nat.add_le_add_left (Nat.le_of_ble_eq_true rfl) _) ?_
    exact G.lvw (lvw6 (fun j hj => match j, hj with | 0, _ => rfl | 1, _ => rfl | 2, _ => rfl | 3, _ => rfl | 4, _ => rfl | 5, _ => rfl | j + 6, h => absurd h (by omega))) (kk _ ⟨_, hS⟩)
def tC_14 : List PT := [(1137, .aload_n 1, 1, 1, 0), (1138, .invokevirtual 199, 3, 2, 0), (1141, .aload_n 2, 1, 3, 0), (1142, .invokevirtual 202, 3, 4, 0), (1145, .if_icmp .eq 1677, 3, 5, 7), (1148, .iconst 0, 1, 6, 0), (1149, .ireturn, 1, 0, 0), (2822, .iinc 5 6, 3, 8, 0), (2825, .goto (-2797), 3, 21, 9), (28, .iload 5, 2, 10, 0), (30, .aload_n 0, 1, 11, 0), (31, .arraylength, 1, 12, 0), (32, .bipush 6, 2, 13, 0), (34, .isub, 1, 14, 0), (35, .if_icmp .gt 2793, 3, 15, 21), (38, .aload_n 0, 1, 16, 0), (39, .iload 5, 2, 17, 0), (41, .iaload, 1, 18, 0), (42, .bipush 63, 2, 19, 0), (44, .iand, 1, 20, 0), (45, .tableswitch 2777 0 47 #[207, 311, 367, 380, 424, 528, 596, 652, 708, 788, 868, 948, 992, 1048, 1092, 1105, 1118, 1162, 1218, 1286, 1342, 1421, 1504, 1559, 1603, 1671, 1755, 1823, 1891, 1959, 2015, 2071, 2126, 2181, 2207, 2232, 2246, 2302, 2358, 2414, 2457, 2471, 2536, 2615, 2671, 2726, 2739, 2764], 207, 0, 0), (2828, .iconst 1, 1, 22, 0), (2829, .ireturn, 1, 0, 0)]
set_option maxRecDepth 100000 in
theorem okC_14 : OkTab cL_law tC_14 := ⟨by decide +kernel, by decide +kernel⟩
theorem lmW_199 : LkM RL 199 yX7_undoCount := lw_good_in (n := 603) (by decide +kernel) rfl
theorem lmW_202 : LkM RL 202 yX8_undoCount := lw_good_in (n := 1459) (by decide +kernel) rfl
set_option maxRecDepth 100000 in
set_option maxHeartbeats 1000000 in
theorem law_14 (l : Launch) (D : va_G) (cy : Nat → ClassId) (B : Nat) (od : Nat → Option Nat) {p : Program} {e : Env} {s : State} {m : MethodId} {args : Array Value} {below : List Frame} {meth : Method} {c : Code} {F : State → Prop} {cells slots : Nat} {A : AH} {L i : Nat} {xs : Nat → Int32} {W : LW} {f : MF} {mb rd r sv hy : Nat → Int32} (hl9 : l.stackTraces = false) (X : Cx p s m args meth c D cy B od cL_law 9 tC_14 RL (some .boolean)) (hs : SCR B od L xs s) (hL : L ≤ 3072) (hi : i + 5 < L) (hI : INV cy A W f mb rd r sv hy) (hcap : cells + 3 ≤ 601024 ∧ slots + 18 ≤ 7293034) (kk : ∀ A9, (∃ w, SOK cy A9 w) → G p l e room_1 s m args below meth c D B od 9 tC_14 F (cells + 3) (slots + 18) A9 0 7 (lv0 i) []) : G p l e room_1 s m args below meth c D B od 9 tC_14 F cells slots A 0 0 (lv0 i) [] := by
  obtain ⟨fs0, ho0⟩ := hI.o0
  unfold lv0
  have hcp : cells ≤ room_1.cells ∧ slots ≤ room_1.slots := ⟨Nat.le_trans (Nat.le_add_right _ 3) hcap.1, Nat.le_trans (Nat.le_add_right _ 18) hcap.2⟩
  refine g_aload_n X rfl rfl ?_
  refine g_mV X rfl lcX7_undoCount lmW_199 lsX7_undoCount (cm_X7_undoCount l D cy B od hI.1) (ci := 7) ho0 rfl rfl rfl (Nat.le_of_ble_eq_true rfl) ⟨⟨Nat.le_of_ble_eq_true rfl, Nat.le_of_ble_eq_true rfl⟩, rfl, rfl⟩ hcp (fun v1 A1 q1 => ?_)
  obtain ⟨rfl, e1⟩ := q1
  have e1 := e1.symm
  subst e1
  have hJ := hI
  refine g_aload_n X rfl rfl ?_
  refine g_mV X rfl lcX8_undoCount lmW_202 lsX8_undoCount (cm_X8_undoCount l D cy B od hJ.2.1.1) (ci := 8) hJ.2.1.1 rfl rfl rfl (Nat.le_of_ble_eq_true rfl) ⟨⟨Nat.le_of_ble_eq_true rfl, Nat.le_of_ble_eq_true rfl⟩, rfl, rfl⟩ hcp (fun v2 A3 q2 => ?_)
  obtain ⟨rfl, rfl⟩ := q2
  rw [hI.2.2.1.2.2.2.1]
  refine g_icmp_eq X rfl (fun _ => ?_) (fun q => absurd rfl q)
  refine g_wid (Nat.le_add_right _ 3) (Nat.le_add_right _ 18) ?_
  exact G.lvw (lvw6 (fun j hj => match j, hj with | 0, _ => rfl | 1, _ => rfl | 2, _ => rfl | 3, _ => rfl | 4, _ => rfl | 5, _ => rfl | j + 6, h => absurd h (by omega))) (kk _ ⟨_, (⟨_, _, _, _, _, _, _, hJ.thr, rfl⟩ : SOK cy _ 0)⟩)
def tC_15 : List PT := [(1150, .aload_n 1, 1, 1, 0), (1151, .invokevirtual 203, 3, 2, 0), (1154, .aload_n 2, 1, 3, 0), (1155, .invokevirtual 206, 3, 4, 0), (1158, .if_icmp .eq 1664, 3, 5, 7), (1161, .iconst 0, 1, 6, 0), (1162, .ireturn, 1, 0, 0), (2822, .iinc 5 6, 3, 8, 0), (2825, .goto (-2797), 3, 21, 9), (28, .iload 5, 2, 10, 0), (30, .aload_n 0, 1, 11, 0), (31, .arraylength, 1, 12, 0), (32, .bipush 6, 2, 13, 0), (34, .isub, 1, 14, 0), (35, .if_icmp .gt 2793, 3, 15, 21), (38, .aload_n 0, 1, 16, 0), (39, .iload 5, 2, 17, 0), (41, .iaload, 1, 18, 0), (42, .bipush 63, 2, 19, 0), (44, .iand, 1, 20, 0), (45, .tableswitch 2777 0 47 #[207, 311, 367, 380, 424, 528, 596, 652, 708, 788, 868, 948, 992, 1048, 1092, 1105, 1118, 1162, 1218, 1286, 1342, 1421, 1504, 1559, 1603, 1671, 1755, 1823, 1891, 1959, 2015, 2071, 2126, 2181, 2207, 2232, 2246, 2302, 2358, 2414, 2457, 2471, 2536, 2615, 2671, 2726, 2739, 2764], 207, 0, 0), (2828, .iconst 1, 1, 22, 0), (2829, .ireturn, 1, 0, 0)]
set_option maxRecDepth 100000 in
theorem okC_15 : OkTab cL_law tC_15 := ⟨by decide +kernel, by decide +kernel⟩
theorem lmW_203 : LkM RL 203 yX7_save := lw_good_in (n := 607) (by decide +kernel) rfl
theorem lmW_206 : LkM RL 206 yX8_save := lw_good_in (n := 1463) (by decide +kernel) rfl
set_option maxRecDepth 100000 in
set_option maxHeartbeats 1000000 in
theorem law_15 (l : Launch) (D : va_G) (cy : Nat → ClassId) (B : Nat) (od : Nat → Option Nat) {p : Program} {e : Env} {s : State} {m : MethodId} {args : Array Value} {below : List Frame} {meth : Method} {c : Code} {F : State → Prop} {cells slots : Nat} {A : AH} {L i : Nat} {xs : Nat → Int32} {W : LW} {f : MF} {mb rd r sv hy : Nat → Int32} (hl9 : l.stackTraces = false) (X : Cx p s m args meth c D cy B od cL_law 9 tC_15 RL (some .boolean)) (hs : SCR B od L xs s) (hL : L ≤ 3072) (hi : i + 5 < L) (hI : INV cy A W f mb rd r sv hy) (hcap : cells + 3 ≤ 601024 ∧ slots + 18 ≤ 7293034) (kk : ∀ A9, (∃ w, SOK cy A9 w) → G p l e room_1 s m args below meth c D B od 9 tC_15 F (cells + 3) (slots + 18) A9 0 7 (lv0 i) []) : G p l e room_1 s m args below meth c D B od 9 tC_15 F cells slots A 0 0 (lv0 i) [] := by
  obtain ⟨fs0, ho0⟩ := hI.o0
  unfold lv0
  have hcp : cells ≤ room_1.cells ∧ slots ≤ room_1.slots := ⟨Nat.le_trans (Nat.le_add_right _ 3) hcap.1, Nat.le_trans (Nat.le_add_right _ 18) hcap.2⟩
  refine g_aload_n X rfl rfl ?_
  refine g_mV X rfl lcX7_save lmW_203 lsX7_save (cm_X7_save l D cy B od hI.1) (ci := 7) ho0 rfl rfl rfl (Nat.le_of_ble_eq_true rfl) ⟨⟨Nat.le_of_ble_eq_true rfl, Nat.le_of_ble_eq_true rfl⟩, rfl, rfl⟩ hcp (fun v1 A1 q1 => ?_)
  obtain ⟨rfl, hf, S2, hE2, hL2⟩ := q1
  refine g_aload_n X rfl rfl ?_
  have hD1 := hI.2.1.fr (A2 := A1) fun k h1 _ => hf k (by omega)
  refine g_mV X rfl lcX8_save lmW_206 lsX8_save (cm_X8_save l D cy B od ⟨hD1.1, hD1.2.2.2.1, hI.mdr.2.2⟩ hI.2.2.1.1.2.1 hI.2.2.1.1.2.2 hD1 hI.e8) (ci := 8) hD1.1 rfl rfl rfl (Nat.le_of_ble_eq_true rfl) ⟨⟨Nat.le_of_ble_eq_true rfl, Nat.le_of_ble_eq_true rfl⟩, rfl, rfl⟩ hcp (fun v2 A3 q2 => ?_)
  obtain ⟨rfl, hM, hD2⟩ := q2
  obtain ⟨W9, hS⟩ := hI.save hf hE2 hL2 hM hD2
  refine g_icmp_eq X rfl (fun _ => ?_) (fun q => absurd rfl q)
  refine g_wid (Nat.le_add_right _ 3) (Nat.le_add_right _ 18) ?_
  exact G.lvw (lvw6 (fun j hj => match j, hj with | 0, _ => rfl | 1, _ => rfl | 2, _ => rfl | 3, _ => rfl | 4, _ => rfl | 5, _ => rfl | j + 6, h => absurd h (by omega))) (kk _ ⟨_, (⟨_, _, _, _, _, _, _, hS, rfl⟩ : SOK cy _ 0)⟩)
def tC_16 : List PT := [(1163, .aload_n 1, 1, 1, 0), (1164, .aload_n 3, 1, 2, 0), (1165, .invokestatic 207, 3, 3, 0), (1168, .istore 6, 2, 4, 0), (1170, .aload_n 2, 1, 5, 0), (1171, .invokevirtual 209, 3, 6, 0), (1174, .istore 7, 2, 7, 0), (1176, .aload_n 2, 1, 8, 0), (1177, .invokevirtual 152, 3, 9, 0), (1180, .iload 6, 2, 10, 0), (1182, .if_icmp .eq 5, 3, 11, 13), (1185, .iconst 0, 1, 12, 0), (1186, .ireturn, 1, 13, 0), (1187, .iload 6, 2, 14, 0), (1189, .ifCond .ne 15, 3, 15, 24), (1192, .aload_n 3, 1, 16, 0), (1193, .iconst 0, 1, 17, 0), (1194, .laload, 1, 18, 0), (1195, .iload 7, 2, 19, 0), (1197, .i2l, 1, 20, 0), (1198, .lcmp, 1, 21, 0), (1199, .ifCond .eq 5, 3, 22, 24), (1202, .iconst 0, 1, 23, 0), (1203, .ireturn, 1, 24, 0), (1204, .goto 1618, 3, 0, 25), (2822, .iinc 5 6, 3, 26, 0), (2825, .goto (-2797), 3, 39, 27), (28, .iload 5, 2, 28, 0), (30, .aload_n 0, 1, 29, 0), (31, .arraylength, 1, 30, 0), (32, .bipush 6, 2, 31, 0), (34, .isub, 1, 32, 0), (35, .if_icmp .gt 2793, 3, 33, 39), (38, .aload_n 0, 1, 34, 0), (39, .iload 5, 2, 35, 0), (41, .iaload, 1, 36, 0), (42, .bipush 63, 2, 37, 0), (44, .iand, 1, 38, 0), (45, .tableswitch 2777 0 47 #[207, 311, 367, 380, 424, 528, 596, 652, 708, 788, 868, 948, 992, 1048, 1092, 1105, 1118, 1162, 1218, 1286, 1342, 1421, 1504, 1559, 1603, 1671, 1755, 1823, 1891, 1959, 2015, 2071, 2126, 2181, 2207, 2232, 2246, 2302, 2358, 2414, 2457, 2471, 2536, 2615, 2671, 2726, 2739, 2764], 207, 0, 0), (2828, .iconst 1, 1, 40, 0), (2829, .ireturn, 1, 0, 0)]
set_option maxRecDepth 100000 in
theorem okC_16 : OkTab cL_law tC_16 := ⟨by decide +kernel, by decide +kernel⟩
theorem lmW_207 : LkM RL 207 yL_restore := lw_good_in (n := 1019) (by decide +kernel) rfl
theorem lmW_209 : LkM RL 209 yX8_restore := lw_good_in (n := 1467) (by decide +kernel) rfl
set_option maxRecDepth 100000 in
set_option maxHeartbeats 1000000 in
theorem law_16 (l : Launch) (D : va_G) (cy : Nat → ClassId) (B : Nat) (od : Nat → Option Nat) {p : Program} {e : Env} {s : State} {m : MethodId} {args : Array Value} {below : List Frame} {meth : Method} {c : Code} {F : State → Prop} {cells slots : Nat} {A : AH} {L i : Nat} {xs : Nat → Int32} {W : LW} {f : MF} {mb rd r sv hy : Nat → Int32} (hl9 : l.stackTraces = false) (X : Cx p s m args meth c D cy B od cL_law 9 tC_16 RL (some .boolean)) (hs : SCR B od L xs s) (hL : L ≤ 3072) (hi : i + 5 < L) (hI : INV cy A W f mb rd r sv hy) (hcap : cells + 3 ≤ 601024 ∧ slots + 18 ≤ 7293034) (kk : ∀ A9, (∃ w, SOK cy A9 w) → G p l e room_1 s m args below meth c D B od 9 tC_16 F (cells + 3) (slots + 18) A9 0 25 (lv0 i) []) : G p l e room_1 s m args below meth c D B od 9 tC_16 F cells slots A 0 0 (lv0 i) [] := by
  obtain ⟨fs0, ho0⟩ := hI.o0
  unfold lv0
  obtain ⟨Qr, Qx, hC, hT, hE, hA, hB⟩ := pr_restore l D cy B od hl9 hI
  refine g_aload_n X rfl rfl ?_
  refine g_aload_n X rfl rfl ?_
  refine g_hp X rfl lkL_restore lmW_207 stL_restore (hp_L_restore l D cy B od (hC 0) ho0 (fun r A1 h => ⟨tyI (hT r A1 h).1, (hT r A1 h).2.1⟩) hE) rfl rfl (Nat.le_of_ble_eq_true rfl) ⟨Nat.le_of_ble_eq_true rfl, Nat.le_of_ble_eq_true rfl⟩ ⟨Nat.le_trans (Nat.add_le_add_left (show rmL_restore.cells ≤ 3 by decide) _) hcap.1, Nat.le_trans (Nat.add_le_add_left (show rmL_restore.slots ≤ 18 by decide) _) hcap.2⟩ (fun v1 A1 z1 q1 => ?_)
  have hcp : cells + rmL_restore.cells ≤ room_1.cells ∧ slots + rmL_restore.slots ≤ room_1.slots := ⟨Nat.le_trans (Nat.add_le_add_left (show rmL_restore.cells ≤ 3 by decide) _) hcap.1, Nat.le_trans (Nat.add_le_add_left (show rmL_restore.slots ≤ 18 by decide) _) hcap.2⟩
  refine g_z0 ?_
  rcases q1 with ⟨r9, A2, g, hQ, rfl, hg, rfl⟩ | ⟨E, hx, hm, rfl⟩
  · obtain ⟨x9, rfl⟩ := tyI (hT r9 A2 hQ).1
    obtain ⟨⟨f3, hf3⟩, hMd⟩ := hA _ A2 _ hQ (Or.inl ⟨rfl, g, rfl⟩)
    refine g_istore X rfl (by decide) ?_
    refine g_aload_n X rfl rfl ?_
    refine g_mV X rfl lcX8_restore lmW_209 lsX8_restore hMd (ci := 8) hf3 rfl rfl rfl (Nat.le_of_ble_eq_true rfl) ⟨⟨Nat.le_of_ble_eq_true rfl, Nat.le_of_ble_eq_true rfl⟩, rfl, rfl⟩ hcp (fun v2 A3 q2 => ?_)
    obtain ⟨rfl, hS, ho3⟩ := q2
    obtain ⟨W3, f4, mb3, rd3, r3, sv3, hy3, hJ, hw⟩ := id hS
    refine g_istore X rfl (by decide) ?_
    refine g_aload_n X rfl rfl ?_
    refine g_rV X rfl lcX8_thrown lmW_152 lsX8_thrown (cr_X8_thrown l D cy B od hJ.2.1.1) (ci := 8) hJ.2.1.1 rfl rfl rfl (Nat.le_of_ble_eq_true rfl) ⟨⟨Nat.le_of_ble_eq_true rfl, Nat.le_of_ble_eq_true rfl⟩, rfl, rfl⟩ hcp ?_
    rw [hw]
    refine g_iload X rfl rfl ?_
    refine g_icmp_eq X rfl (fun _ => ?_) (fun q => absurd rfl q)
    refine g_iload X rfl rfl ?_
    refine g_if_ne X rfl (fun q => absurd nI_0 q) (fun _ => ?_)
    refine g_aload_n X rfl rfl ?_
    refine g_iconst X rfl (v := nI 0) (by decide) ?_
    refine g_laldN X rfl ho3 (by decide) (by decide) ?_
    refine g_iload X rfl rfl ?_
    refine g_i2l X rfl ?_
    refine g_l_eq X rfl rfl (fun _ => ?_) (fun q => absurd hg q)
    refine g_goto X rfl ?_
    refine g_wid (k := cells + 3) (n := slots + 18) (Nat.add_le_add_left (Nat.le_of_ble_eq_true rfl) _) (Nat.add_le_add_left (Nat.le_of_ble_eq_true rfl) _) ?_
    exact G.lvw (lvw6 (fun j hj => match j, hj with | 0, _ => rfl | 1, _ => rfl | 2, _ => rfl | 3, _ => rfl | 4, _ => rfl | 5, _ => rfl | j + 6, h => absurd h (by omega))) (kk _ ⟨_, hS⟩)
  · obtain ⟨⟨f3, hf3⟩, hMd⟩ := hB E A1 hx
    refine g_istore X rfl (by decide) ?_
    refine g_aload_n X rfl rfl ?_
    refine g_mV X rfl lcX8_restore lmW_209 lsX8_restore hMd (ci := 8) hf3 rfl rfl rfl (Nat.le_of_ble_eq_true rfl) ⟨⟨Nat.le_of_ble_eq_true rfl, Nat.le_of_ble_eq_true rfl⟩, rfl, rfl⟩ hcp (fun v2 A3 q2 => ?_)
    obtain ⟨⟨d9, hd9, rfl⟩, hS⟩ := q2
    obtain ⟨x9, rfl⟩ := tyI hd9
    obtain ⟨W3, f4, mb3, rd3, r3, sv3, hy3, hJ, hw⟩ := id hS
    refine g_istore X rfl (by decide) ?_
    refine g_aload_n X rfl rfl ?_
    refine g_rV X rfl lcX8_thrown lmW_152 lsX8_thrown (cr_X8_thrown l D cy B od hJ.2.1.1) (ci := 8) hJ.2.1.1 rfl rfl rfl (Nat.le_of_ble_eq_true rfl) ⟨⟨Nat.le_of_ble_eq_true rfl, Nat.le_of_ble_eq_true rfl⟩, rfl, rfl⟩ hcp ?_
    rw [hw]
    refine g_iload X rfl rfl ?_
    refine g_icmp_eq X rfl (fun _ => ?_) (fun q => absurd rfl q)
    refine g_iload X rfl rfl ?_
    refine g_if_ne X rfl (fun _ => ?_) (fun q => absurd q (cX_n0 (by decide)))
    refine g_goto X rfl ?_
    refine g_wid (k := cells + 3) (n := slots + 18) (Nat.add_le_add_left (Nat.le_of_ble_eq_true rfl) _) (Nat.add_le_add_left (Nat.le_of_ble_eq_true rfl) _) ?_
    exact G.lvw (lvw6 (fun j hj => match j, hj with | 0, _ => rfl | 1, _ => rfl | 2, _ => rfl | 3, _ => rfl | 4, _ => rfl | 5, _ => rfl | j + 6, h => absurd h (by omega))) (kk _ ⟨_, hS⟩)
def tC_17 : List PT := [(1207, .aload_n 1, 1, 1, 0), (1208, .aload_n 0, 1, 2, 0), (1209, .iload 5, 2, 3, 0), (1211, .iconst 1, 1, 4, 0), (1212, .iadd, 1, 5, 0), (1213, .iaload, 1, 6, 0), (1214, .aload_n 3, 1, 7, 0), (1215, .invokestatic 210, 3, 8, 0), (1218, .istore 6, 2, 9, 0), (1220, .aload_n 2, 1, 10, 0), (1221, .aload_n 0, 1, 11, 0), (1222, .iload 5, 2, 12, 0), (1224, .iconst 1, 1, 13, 0), (1225, .iadd, 1, 14, 0), (1226, .iaload, 1, 15, 0), (1227, .invokevirtual 212, 3, 16, 0), (1230, .istore 7, 2, 17, 0), (1232, .aload_n 2, 1, 18, 0), (1233, .invokevirtual 152, 3, 19, 0), (1236, .iload 6, 2, 20, 0), (1238, .if_icmp .eq 5, 3, 21, 23), (1241, .iconst 0, 1, 22, 0), (1242, .ireturn, 1, 23, 0), (1243, .iload 6, 2, 24, 0), (1245, .ifCond .ne 15, 3, 25, 34), (1248, .aload_n 3, 1, 26, 0), (1249, .iconst 0, 1, 27, 0), (1250, .laload, 1, 28, 0), (1251, .iload 7, 2, 29, 0), (1253, .i2l, 1, 30, 0), (1254, .lcmp, 1, 31, 0), (1255, .ifCond .eq 5, 3, 32, 34), (1258, .iconst 0, 1, 33, 0), (1259, .ireturn, 1, 34, 0), (1260, .goto 1562, 3, 0, 35), (2822, .iinc 5 6, 3, 36, 0), (2825, .goto (-2797), 3, 49, 37), (28, .iload 5, 2, 38, 0), (30, .aload_n 0, 1, 39, 0), (31, .arraylength, 1, 40, 0), (32, .bipush 6, 2, 41, 0), (34, .isub, 1, 42, 0), (35, .if_icmp .gt 2793, 3, 43, 49), (38, .aload_n 0, 1, 44, 0), (39, .iload 5, 2, 45, 0), (41, .iaload, 1, 46, 0), (42, .bipush 63, 2, 47, 0), (44, .iand, 1, 48, 0), (45, .tableswitch 2777 0 47 #[207, 311, 367, 380, 424, 528, 596, 652, 708, 788, 868, 948, 992, 1048, 1092, 1105, 1118, 1162, 1218, 1286, 1342, 1421, 1504, 1559, 1603, 1671, 1755, 1823, 1891, 1959, 2015, 2071, 2126, 2181, 2207, 2232, 2246, 2302, 2358, 2414, 2457, 2471, 2536, 2615, 2671, 2726, 2739, 2764], 207, 0, 0), (2828, .iconst 1, 1, 50, 0), (2829, .ireturn, 1, 0, 0)]
set_option maxRecDepth 100000 in
theorem okC_17 : OkTab cL_law tC_17 := ⟨by decide +kernel, by decide +kernel⟩
theorem lmW_210 : LkM RL 210 yL_count := lw_good_in (n := 1026) (by decide +kernel) rfl
theorem lmW_212 : LkM RL 212 yX8_count := lw_good_in (n := 1674) (by decide +kernel) rfl
set_option maxRecDepth 100000 in
set_option maxHeartbeats 1000000 in
theorem law_17 (l : Launch) (D : va_G) (cy : Nat → ClassId) (B : Nat) (od : Nat → Option Nat) {p : Program} {e : Env} {s : State} {m : MethodId} {args : Array Value} {below : List Frame} {meth : Method} {c : Code} {F : State → Prop} {cells slots : Nat} {A : AH} {L i : Nat} {xs : Nat → Int32} {W : LW} {f : MF} {mb rd r sv hy : Nat → Int32} (hl9 : l.stackTraces = false) (X : Cx p s m args meth c D cy B od cL_law 9 tC_17 RL (some .boolean)) (hs : SCR B od L xs s) (hL : L ≤ 3072) (hi : i + 5 < L) (hI : INV cy A W f mb rd r sv hy) (hcap : cells + 3 ≤ 601024 ∧ slots + 18 ≤ 7293034) (kk : ∀ A9, (∃ w, SOK cy A9 w) → G p l e room_1 s m args below meth c D B od 9 tC_17 F (cells + 3) (slots + 18) A9 0 35 (lv0 i) []) : G p l e room_1 s m args below meth c D B od 9 tC_17 F cells slots A 0 0 (lv0 i) [] := by
  obtain ⟨fs0, ho0⟩ := hI.o0
  unfold lv0
  obtain ⟨Qr, Qx, hC, hT, hE, hA, hB⟩ := pr_count l D cy B od hl9 hI (x0 := xs (i + 1))
  refine g_aload_n X rfl rfl ?_
  refine g_aload_n X rfl rfl ?_
  refine g_iload X rfl rfl ?_
  refine g_iconst X rfl (v := nI 1) (by decide) ?_
  refine g_iadN X rfl ?_
  refine g_sld X hs rfl (by omega) (by omega) ?_
  refine g_aload_n X rfl rfl ?_
  refine g_hp X rfl lkL_count lmW_210 stL_count (hp_L_count l D cy B od (hC 0) ho0 (fun r A1 h => ⟨tyI (hT r A1 h).1, (hT r A1 h).2.1⟩) hE) rfl rfl (Nat.le_of_ble_eq_true rfl) ⟨Nat.le_of_ble_eq_true rfl, Nat.le_of_ble_eq_true rfl⟩ ⟨Nat.le_trans (Nat.add_le_add_left (show rmL_count.cells ≤ 3 by decide) _) hcap.1, Nat.le_trans (Nat.add_le_add_left (show rmL_count.slots ≤ 18 by decide) _) hcap.2⟩ (fun v1 A1 z1 q1 => ?_)
  have hcp : cells + rmL_count.cells ≤ room_1.cells ∧ slots + rmL_count.slots ≤ room_1.slots := ⟨Nat.le_trans (Nat.add_le_add_left (show rmL_count.cells ≤ 3 by decide) _) hcap.1, Nat.le_trans (Nat.add_le_add_left (show rmL_count.slots ≤ 18 by decide) _) hcap.2⟩
  refine g_z0 ?_
  rcases q1 with ⟨r9, A2, g, hQ, rfl, hg, rfl⟩ | ⟨E, hx, hm, rfl⟩
  · obtain ⟨x9, rfl⟩ := tyI (hT r9 A2 hQ).1
    obtain ⟨⟨f3, hf3⟩, hMd⟩ := hA _ A2 _ hQ (Or.inl ⟨rfl, g, rfl⟩)
    refine g_istore X rfl (by decide) ?_
    refine g_aload_n X rfl rfl ?_
    refine g_aload_n X rfl rfl ?_
    refine g_iload X rfl rfl ?_
    refine g_iconst X rfl (v := nI 1) (by decide) ?_
    refine g_iadN X rfl ?_
    refine g_sld X hs rfl (by omega) (by omega) ?_
    refine g_mV X rfl lcX8_count lmW_212 lsX8_count hMd (ci := 8) hf3 rfl rfl rfl (Nat.le_of_ble_eq_true rfl) ⟨⟨Nat.le_of_ble_eq_true rfl, Nat.le_of_ble_eq_true rfl⟩, rfl, rfl⟩ hcp (fun v2 A3 q2 => ?_)
    obtain ⟨rfl, hS, ho3⟩ := q2
    obtain ⟨W3, f4, mb3, rd3, r3, sv3, hy3, hJ, hw⟩ := id hS
    refine g_istore X rfl (by decide) ?_
    refine g_aload_n X rfl rfl ?_
    refine g_rV X rfl lcX8_thrown lmW_152 lsX8_thrown (cr_X8_thrown l D cy B od hJ.2.1.1) (ci := 8) hJ.2.1.1 rfl rfl rfl (Nat.le_of_ble_eq_true rfl) ⟨⟨Nat.le_of_ble_eq_true rfl, Nat.le_of_ble_eq_true rfl⟩, rfl, rfl⟩ hcp ?_
    rw [hw]
    refine g_iload X rfl rfl ?_
    refine g_icmp_eq X rfl (fun _ => ?_) (fun q => absurd rfl q)
    refine g_iload X rfl rfl ?_
    refine g_if_ne X rfl (fun q => absurd nI_0 q) (fun _ => ?_)
    refine g_aload_n X rfl rfl ?_
    refine g_iconst X rfl (v := nI 0) (by decide) ?_
    refine g_laldN X rfl ho3 (by decide) (by decide) ?_
    refine g_iload X rfl rfl ?_
    refine g_i2l X rfl ?_
    refine g_l_eq X rfl rfl (fun _ => ?_) (fun q => absurd hg q)
    refine g_goto X rfl ?_
    refine g_wid (k := cells + 3) (n := slots + 18) (Nat.add_le_add_left (Nat.le_of_ble_eq_true rfl) _) (Nat.add_le_add_left (Nat.le_of_ble_eq_true rfl) _) ?_
    exact G.lvw (lvw6 (fun j hj => match j, hj with | 0, _ => rfl | 1, _ => rfl | 2, _ => rfl | 3, _ => rfl | 4, _ => rfl | 5, _ => rfl | j + 6, h => absurd h (by omega))) (kk _ ⟨_, hS⟩)
  · obtain ⟨⟨f3, hf3⟩, hMd⟩ := hB E A1 hx
    refine g_istore X rfl (by decide) ?_
    refine g_aload_n X rfl rfl ?_
    refine g_aload_n X rfl rfl ?_
    refine g_iload X rfl rfl ?_
    refine g_iconst X rfl (v := nI 1) (by decide) ?_
    refine g_iadN X rfl ?_
    refine g_sld X hs rfl (by omega) (by omega) ?_
    refine g_mV X rfl lcX8_count lmW_212 lsX8_count hMd (ci := 8) hf3 rfl rfl rfl (Nat.le_of_ble_eq_true rfl) ⟨⟨Nat.le_of_ble_eq_true rfl, Nat.le_of_ble_eq_true rfl⟩, rfl, rfl⟩ hcp (fun v2 A3 q2 => ?_)
    obtain ⟨⟨d9, hd9, rfl⟩, hS⟩ := q2
    obtain ⟨x9, rfl⟩ := tyI hd9
    obtain ⟨W3, f4, mb3, rd3, r3, sv3, hy3, hJ, hw⟩ := id hS
    refine g_istore X rfl (by decide) ?_
    refine g_aload_n X rfl rfl ?_
    refine g_rV X rfl lcX8_thrown lmW_152 lsX8_thrown (cr_X8_thrown l D cy B od hJ.2.1.1) (ci := 8) hJ.2.1.1 rfl rfl rfl (Nat.le_of_ble_eq_true rfl) ⟨⟨Nat.le_of_ble_eq_true rfl, Nat.le_of_ble_eq_true rfl⟩, rfl, rfl⟩ hcp ?_
    rw [hw]
    refine g_iload X rfl rfl ?_
    refine g_icmp_eq X rfl (fun _ => ?_) (fun q => absurd rfl q)
    refine g_iload X rfl rfl ?_
    refine g_if_ne X rfl (fun _ => ?_) (fun q => absurd q (cX_n0 (by decide)))
    refine g_goto X rfl ?_
    refine g_wid (k := cells + 3) (n := slots + 18) (Nat.add_le_add_left (Nat.le_of_ble_eq_true rfl) _) (Nat.add_le_add_left (Nat.le_of_ble_eq_true rfl) _) ?_
    exact G.lvw (lvw6 (fun j hj => match j, hj with | 0, _ => rfl | 1, _ => rfl | 2, _ => rfl | 3, _ => rfl | 4, _ => rfl | 5, _ => rfl | j + 6, h => absurd h (by omega))) (kk _ ⟨_, hS⟩)
def tC_18 : List PT := [(1263, .aload_n 1, 1, 1, 0), (1264, .aload_n 0, 1, 2, 0), (1265, .iload 5, 2, 3, 0), (1267, .iconst 1, 1, 4, 0), (1268, .iadd, 1, 5, 0), (1269, .iaload, 1, 6, 0), (1270, .aload_n 0, 1, 7, 0), (1271, .iload 5, 2, 8, 0), (1273, .iconst 2, 1, 9, 0), (1274, .iadd, 1, 10, 0), (1275, .iaload, 1, 11, 0), (1276, .aload_n 3, 1, 12, 0), (1277, .invokestatic 213, 3, 13, 0), (1280, .istore 6, 2, 14, 0), (1282, .aload_n 2, 1, 15, 0), (1283, .aload_n 0, 1, 16, 0), (1284, .iload 5, 2, 17, 0), (1286, .iconst 1, 1, 18, 0), (1287, .iadd, 1, 19, 0), (1288, .iaload, 1, 20, 0), (1289, .aload_n 0, 1, 21, 0), (1290, .iload 5, 2, 22, 0), (1292, .iconst 2, 1, 23, 0), (1293, .iadd, 1, 24, 0), (1294, .iaload, 1, 25, 0), (1295, .invokevirtual 215, 3, 26, 0), (1298, .istore 7, 2, 27, 0), (1300, .aload_n 2, 1, 28, 0), (1301, .invokevirtual 152, 3, 29, 0), (1304, .iload 6, 2, 30, 0), (1306, .if_icmp .eq 5, 3, 31, 33), (1309, .iconst 0, 1, 32, 0), (1310, .ireturn, 1, 33, 0), (1311, .iload 6, 2, 34, 0), (1313, .ifCond .ne 15, 3, 35, 44), (1316, .aload_n 3, 1, 36, 0), (1317, .iconst 0, 1, 37, 0), (1318, .laload, 1, 38, 0), (1319, .iload 7, 2, 39, 0), (1321, .i2l, 1, 40, 0), (1322, .lcmp, 1, 41, 0), (1323, .ifCond .eq 5, 3, 42, 44), (1326, .iconst 0, 1, 43, 0), (1327, .ireturn, 1, 44, 0), (1328, .goto 1494, 3, 0, 45), (2822, .iinc 5 6, 3, 46, 0), (2825, .goto (-2797), 3, 59, 47), (28, .iload 5, 2, 48, 0), (30, .aload_n 0, 1, 49, 0), (31, .arraylength, 1, 50, 0), (32, .bipush 6, 2, 51, 0), (34, .isub, 1, 52, 0), (35, .if_icmp .gt 2793, 3, 53, 59), (38, .aload_n 0, 1, 54, 0), (39, .iload 5, 2, 55, 0), (41, .iaload, 1, 56, 0), (42, .bipush 63, 2, 57, 0), (44, .iand, 1, 58, 0), (45, .tableswitch 2777 0 47 #[207, 311, 367, 380, 424, 528, 596, 652, 708, 788, 868, 948, 992, 1048, 1092, 1105, 1118, 1162, 1218, 1286, 1342, 1421, 1504, 1559, 1603, 1671, 1755, 1823, 1891, 1959, 2015, 2071, 2126, 2181, 2207, 2232, 2246, 2302, 2358, 2414, 2457, 2471, 2536, 2615, 2671, 2726, 2739, 2764], 207, 0, 0), (2828, .iconst 1, 1, 60, 0), (2829, .ireturn, 1, 0, 0)]
set_option maxRecDepth 100000 in
theorem okC_18 : OkTab cL_law tC_18 := ⟨by decide +kernel, by decide +kernel⟩
theorem lmW_213 : LkM RL 213 yL_entry := lw_good_in (n := 1054) (by decide +kernel) rfl
theorem lmW_215 : LkM RL 215 yX8_entry := lw_good_in (n := 1694) (by decide +kernel) rfl
set_option maxRecDepth 100000 in
set_option maxHeartbeats 1000000 in
theorem law_18 (l : Launch) (D : va_G) (cy : Nat → ClassId) (B : Nat) (od : Nat → Option Nat) {p : Program} {e : Env} {s : State} {m : MethodId} {args : Array Value} {below : List Frame} {meth : Method} {c : Code} {F : State → Prop} {cells slots : Nat} {A : AH} {L i : Nat} {xs : Nat → Int32} {W : LW} {f : MF} {mb rd r sv hy : Nat → Int32} (hl9 : l.stackTraces = false) (X : Cx p s m args meth c D cy B od cL_law 9 tC_18 RL (some .boolean)) (hs : SCR B od L xs s) (hL : L ≤ 3072) (hi : i + 5 < L) (hI : INV cy A W f mb rd r sv hy) (hcap : cells + 3 ≤ 601024 ∧ slots + 18 ≤ 7293034) (kk : ∀ A9, (∃ w, SOK cy A9 w) → G p l e room_1 s m args below meth c D B od 9 tC_18 F (cells + 3) (slots + 18) A9 0 45 (lv0 i) []) : G p l e room_1 s m args below meth c D B od 9 tC_18 F cells slots A 0 0 (lv0 i) [] := by
  obtain ⟨fs0, ho0⟩ := hI.o0
  unfold lv0
  obtain ⟨Qr, Qx, hC, hT, hE, hA, hB⟩ := pr_entry l D cy B od hl9 hI (x0 := xs (i + 1)) (x1 := xs (i + 2))
  refine g_aload_n X rfl rfl ?_
  refine g_aload_n X rfl rfl ?_
  refine g_iload X rfl rfl ?_
  refine g_iconst X rfl (v := nI 1) (by decide) ?_
  refine g_iadN X rfl ?_
  refine g_sld X hs rfl (by omega) (by omega) ?_
  refine g_aload_n X rfl rfl ?_
  refine g_iload X rfl rfl ?_
  refine g_iconst X rfl (v := nI 2) (by decide) ?_
  refine g_iadN X rfl ?_
  refine g_sld X hs rfl (by omega) (by omega) ?_
  refine g_aload_n X rfl rfl ?_
  refine g_hp X rfl lkL_entry lmW_213 stL_entry (hp_L_entry l D cy B od (hC 0) ho0 (fun r A1 h => ⟨tyI (hT r A1 h).1, (hT r A1 h).2.1⟩) hE) rfl rfl (Nat.le_of_ble_eq_true rfl) ⟨Nat.le_of_ble_eq_true rfl, Nat.le_of_ble_eq_true rfl⟩ ⟨Nat.le_trans (Nat.add_le_add_left (show rmL_entry.cells ≤ 3 by decide) _) hcap.1, Nat.le_trans (Nat.add_le_add_left (show rmL_entry.slots ≤ 18 by decide) _) hcap.2⟩ (fun v1 A1 z1 q1 => ?_)
  have hcp : cells + rmL_entry.cells ≤ room_1.cells ∧ slots + rmL_entry.slots ≤ room_1.slots := ⟨Nat.le_trans (Nat.add_le_add_left (show rmL_entry.cells ≤ 3 by decide) _) hcap.1, Nat.le_trans (Nat.add_le_add_left (show rmL_entry.slots ≤ 18 by decide) _) hcap.2⟩
  refine g_z0 ?_
  rcases q1 with ⟨r9, A2, g, hQ, rfl, hg, rfl⟩ | ⟨E, hx, hm, rfl⟩
  · obtain ⟨x9, rfl⟩ := tyI (hT r9 A2 hQ).1
    obtain ⟨⟨f3, hf3⟩, hMd⟩ := hA _ A2 _ hQ (Or.inl ⟨rfl, g, rfl⟩)
    refine g_istore X rfl (by decide) ?_
    refine g_aload_n X rfl rfl ?_
    refine g_aload_n X rfl rfl ?_
    refine g_iload X rfl rfl ?_
    refine g_iconst X rfl (v := nI 1) (by decide) ?_
    refine g_iadN X rfl ?_
    refine g_sld X hs rfl (by omega) (by omega) ?_
    refine g_aload_n X rfl rfl ?_
    refine g_iload X rfl rfl ?_
    refine g_iconst X rfl (v := nI 2) (by decide) ?_
    refine g_iadN X rfl ?_
    refine g_sld X hs rfl (by omega) (by omega) ?_
    refine g_mV X rfl lcX8_entry lmW_215 lsX8_entry hMd (ci := 8) hf3 rfl rfl rfl (Nat.le_of_ble_eq_true rfl) ⟨⟨Nat.le_of_ble_eq_true rfl, Nat.le_of_ble_eq_true rfl⟩, rfl, rfl⟩ hcp (fun v2 A3 q2 => ?_)
    obtain ⟨rfl, hS, ho3⟩ := q2
    obtain ⟨W3, f4, mb3, rd3, r3, sv3, hy3, hJ, hw⟩ := id hS
    refine g_istore X rfl (by decide) ?_
    refine g_aload_n X rfl rfl ?_
    refine g_rV X rfl lcX8_thrown lmW_152 lsX8_thrown (cr_X8_thrown l D cy B od hJ.2.1.1) (ci := 8) hJ.2.1.1 rfl rfl rfl (Nat.le_of_ble_eq_true rfl) ⟨⟨Nat.le_of_ble_eq_true rfl, Nat.le_of_ble_eq_true rfl⟩, rfl, rfl⟩ hcp ?_
    rw [hw]
    refine g_iload X rfl rfl ?_
    refine g_icmp_eq X rfl (fun _ => ?_) (fun q => absurd rfl q)
    refine g_iload X rfl rfl ?_
    refine g_if_ne X rfl (fun q => absurd nI_0 q) (fun _ => ?_)
    refine g_aload_n X rfl rfl ?_
    refine g_iconst X rfl (v := nI 0) (by decide) ?_
    refine g_laldN X rfl ho3 (by decide) (by decide) ?_
    refine g_iload X rfl rfl ?_
    refine g_i2l X rfl ?_
    refine g_l_eq X rfl rfl (fun _ => ?_) (fun q => absurd hg q)
    refine g_goto X rfl ?_
    refine g_wid (k := cells + 3) (n := slots + 18) (Nat.add_le_add_left (Nat.le_of_ble_eq_true rfl) _) (Nat.add_le_add_left (Nat.le_of_ble_eq_true rfl) _) ?_
    exact G.lvw (lvw6 (fun j hj => match j, hj with | 0, _ => rfl | 1, _ => rfl | 2, _ => rfl | 3, _ => rfl | 4, _ => rfl | 5, _ => rfl | j + 6, h => absurd h (by omega))) (kk _ ⟨_, hS⟩)
  · obtain ⟨⟨f3, hf3⟩, hMd⟩ := hB E A1 hx
    refine g_istore X rfl (by decide) ?_
    refine g_aload_n X rfl rfl ?_
    refine g_aload_n X rfl rfl ?_
    refine g_iload X rfl rfl ?_
    refine g_iconst X rfl (v := nI 1) (by decide) ?_
    refine g_iadN X rfl ?_
    refine g_sld X hs rfl (by omega) (by omega) ?_
    refine g_aload_n X rfl rfl ?_
    refine g_iload X rfl rfl ?_
    refine g_iconst X rfl (v := nI 2) (by decide) ?_
    refine g_iadN X rfl ?_
    refine g_sld X hs rfl (by omega) (by omega) ?_
    refine g_mV X rfl lcX8_entry lmW_215 lsX8_entry hMd (ci := 8) hf3 rfl rfl rfl (Nat.le_of_ble_eq_true rfl) ⟨⟨Nat.le_of_ble_eq_true rfl, Nat.le_of_ble_eq_true rfl⟩, rfl, rfl⟩ hcp (fun v2 A3 q2 => ?_)
    obtain ⟨⟨d9, hd9, rfl⟩, hS⟩ := q2
    obtain ⟨x9, rfl⟩ := tyI hd9
    obtain ⟨W3, f4, mb3, rd3, r3, sv3, hy3, hJ, hw⟩ := id hS
    refine g_istore X rfl (by decide) ?_
    refine g_aload_n X rfl rfl ?_
    refine g_rV X rfl lcX8_thrown lmW_152 lsX8_thrown (cr_X8_thrown l D cy B od hJ.2.1.1) (ci := 8) hJ.2.1.1 rfl rfl rfl (Nat.le_of_ble_eq_true rfl) ⟨⟨Nat.le_of_ble_eq_true rfl, Nat.le_of_ble_eq_true rfl⟩, rfl, rfl⟩ hcp ?_
    rw [hw]
    refine g_iload X rfl rfl ?_
    refine g_icmp_eq X rfl (fun _ => ?_) (fun q => absurd rfl q)
    refine g_iload X rfl rfl ?_
    refine g_if_ne X rfl (fun _ => ?_) (fun q => absurd q (cX_n0 (by decide)))
    refine g_goto X rfl ?_
    refine g_wid (k := cells + 3) (n := slots + 18) (Nat.add_le_add_left (Nat.le_of_ble_eq_true rfl) _) (Nat.add_le_add_left (Nat.le_of_ble_eq_true rfl) _) ?_
    exact G.lvw (lvw6 (fun j hj => match j, hj with | 0, _ => rfl | 1, _ => rfl | 2, _ => rfl | 3, _ => rfl | 4, _ => rfl | 5, _ => rfl | j + 6, h => absurd h (by omega))) (kk _ ⟨_, hS⟩)
def tC_19 : List PT := [(1331, .aload_n 1, 1, 1, 0), (1332, .aload_n 0, 1, 2, 0), (1333, .iload 5, 2, 3, 0), (1335, .iconst 1, 1, 4, 0), (1336, .iadd, 1, 5, 0), (1337, .iaload, 1, 6, 0), (1338, .aload_n 3, 1, 7, 0), (1339, .invokestatic 216, 3, 8, 0), (1342, .istore 6, 2, 9, 0), (1344, .aload_n 2, 1, 10, 0), (1345, .aload_n 0, 1, 11, 0), (1346, .iload 5, 2, 12, 0), (1348, .iconst 1, 1, 13, 0), (1349, .iadd, 1, 14, 0), (1350, .iaload, 1, 15, 0), (1351, .invokevirtual 218, 3, 16, 0), (1354, .istore 7, 2, 17, 0), (1356, .aload_n 2, 1, 18, 0), (1357, .invokevirtual 152, 3, 19, 0), (1360, .iload 6, 2, 20, 0), (1362, .if_icmp .eq 5, 3, 21, 23), (1365, .iconst 0, 1, 22, 0), (1366, .ireturn, 1, 23, 0), (1367, .iload 6, 2, 24, 0), (1369, .ifCond .ne 15, 3, 25, 34), (1372, .aload_n 3, 1, 26, 0), (1373, .iconst 0, 1, 27, 0), (1374, .laload, 1, 28, 0), (1375, .iload 7, 2, 29, 0), (1377, .i2l, 1, 30, 0), (1378, .lcmp, 1, 31, 0), (1379, .ifCond .eq 5, 3, 32, 34), (1382, .iconst 0, 1, 33, 0), (1383, .ireturn, 1, 34, 0), (1384, .goto 1438, 3, 0, 35), (2822, .iinc 5 6, 3, 36, 0), (2825, .goto (-2797), 3, 49, 37), (28, .iload 5, 2, 38, 0), (30, .aload_n 0, 1, 39, 0), (31, .arraylength, 1, 40, 0), (32, .bipush 6, 2, 41, 0), (34, .isub, 1, 42, 0), (35, .if_icmp .gt 2793, 3, 43, 49), (38, .aload_n 0, 1, 44, 0), (39, .iload 5, 2, 45, 0), (41, .iaload, 1, 46, 0), (42, .bipush 63, 2, 47, 0), (44, .iand, 1, 48, 0), (45, .tableswitch 2777 0 47 #[207, 311, 367, 380, 424, 528, 596, 652, 708, 788, 868, 948, 992, 1048, 1092, 1105, 1118, 1162, 1218, 1286, 1342, 1421, 1504, 1559, 1603, 1671, 1755, 1823, 1891, 1959, 2015, 2071, 2126, 2181, 2207, 2232, 2246, 2302, 2358, 2414, 2457, 2471, 2536, 2615, 2671, 2726, 2739, 2764], 207, 0, 0), (2828, .iconst 1, 1, 50, 0), (2829, .ireturn, 1, 0, 0)]
set_option maxRecDepth 100000 in
theorem okC_19 : OkTab cL_law tC_19 := ⟨by decide +kernel, by decide +kernel⟩
theorem lmW_216 : LkM RL 216 yL_deductible := lw_good_in (n := 1061) (by decide +kernel) rfl
theorem lmW_218 : LkM RL 218 yX8_deductible := lw_good_in (n := 1699) (by decide +kernel) rfl
set_option maxRecDepth 100000 in
set_option maxHeartbeats 1000000 in
theorem law_19 (l : Launch) (D : va_G) (cy : Nat → ClassId) (B : Nat) (od : Nat → Option Nat) {p : Program} {e : Env} {s : State} {m : MethodId} {args : Array Value} {below : List Frame} {meth : Method} {c : Code} {F : State → Prop} {cells slots : Nat} {A : AH} {L i : Nat} {xs : Nat → Int32} {W : LW} {f : MF} {mb rd r sv hy : Nat → Int32} (hl9 : l.stackTraces = false) (X : Cx p s m args meth c D cy B od cL_law 9 tC_19 RL (some .boolean)) (hs : SCR B od L xs s) (hL : L ≤ 3072) (hi : i + 5 < L) (hI : INV cy A W f mb rd r sv hy) (hcap : cells + 3 ≤ 601024 ∧ slots + 18 ≤ 7293034) (kk : ∀ A9, (∃ w, SOK cy A9 w) → G p l e room_1 s m args below meth c D B od 9 tC_19 F (cells + 3) (slots + 18) A9 0 35 (lv0 i) []) : G p l e room_1 s m args below meth c D B od 9 tC_19 F cells slots A 0 0 (lv0 i) [] := by
  obtain ⟨fs0, ho0⟩ := hI.o0
  unfold lv0
  obtain ⟨Qr, Qx, hC, hT, hE, hA, hB⟩ := pr_deductible l D cy B od hl9 hI (x0 := xs (i + 1))
  refine g_aload_n X rfl rfl ?_
  refine g_aload_n X rfl rfl ?_
  refine g_iload X rfl rfl ?_
  refine g_iconst X rfl (v := nI 1) (by decide) ?_
  refine g_iadN X rfl ?_
  refine g_sld X hs rfl (by omega) (by omega) ?_
  refine g_aload_n X rfl rfl ?_
  refine g_hp X rfl lkL_deductible lmW_216 stL_deductible (hp_L_deductible l D cy B od (hC 0) ho0 (fun r A1 h => ⟨tyI (hT r A1 h).1, (hT r A1 h).2.1⟩) hE) rfl rfl (Nat.le_of_ble_eq_true rfl) ⟨Nat.le_of_ble_eq_true rfl, Nat.le_of_ble_eq_true rfl⟩ ⟨Nat.le_trans (Nat.add_le_add_left (show rmL_deductible.cells ≤ 3 by decide) _) hcap.1, Nat.le_trans (Nat.add_le_add_left (show rmL_deductible.slots ≤ 18 by decide) _) hcap.2⟩ (fun v1 A1 z1 q1 => ?_)
  have hcp : cells + rmL_deductible.cells ≤ room_1.cells ∧ slots + rmL_deductible.slots ≤ room_1.slots := ⟨Nat.le_trans (Nat.add_le_add_left (show rmL_deductible.cells ≤ 3 by decide) _) hcap.1, Nat.le_trans (Nat.add_le_add_left (show rmL_deductible.slots ≤ 18 by decide) _) hcap.2⟩
  refine g_z0 ?_
  rcases q1 with ⟨r9, A2, g, hQ, rfl, hg, rfl⟩ | ⟨E, hx, hm, rfl⟩
  · obtain ⟨x9, rfl⟩ := tyI (hT r9 A2 hQ).1
    obtain ⟨⟨f3, hf3⟩, hMd⟩ := hA _ A2 _ hQ (Or.inl ⟨rfl, g, rfl⟩)
    refine g_istore X rfl (by decide) ?_
    refine g_aload_n X rfl rfl ?_
    refine g_aload_n X rfl rfl ?_
    refine g_iload X rfl rfl ?_
    refine g_iconst X rfl (v := nI 1) (by decide) ?_
    refine g_iadN X rfl ?_
    refine g_sld X hs rfl (by omega) (by omega) ?_
    refine g_mV X rfl lcX8_deductible lmW_218 lsX8_deductible hMd (ci := 8) hf3 rfl rfl rfl (Nat.le_of_ble_eq_true rfl) ⟨⟨Nat.le_of_ble_eq_true rfl, Nat.le_of_ble_eq_true rfl⟩, rfl, rfl⟩ hcp (fun v2 A3 q2 => ?_)
    obtain ⟨rfl, hS, ho3⟩ := q2
    obtain ⟨W3, f4, mb3, rd3, r3, sv3, hy3, hJ, hw⟩ := id hS
    refine g_istore X rfl (by decide) ?_
    refine g_aload_n X rfl rfl ?_
    refine g_rV X rfl lcX8_thrown lmW_152 lsX8_thrown (cr_X8_thrown l D cy B od hJ.2.1.1) (ci := 8) hJ.2.1.1 rfl rfl rfl (Nat.le_of_ble_eq_true rfl) ⟨⟨Nat.le_of_ble_eq_true rfl, Nat.le_of_ble_eq_true rfl⟩, rfl, rfl⟩ hcp ?_
    rw [hw]
    refine g_iload X rfl rfl ?_
    refine g_icmp_eq X rfl (fun _ => ?_) (fun q => absurd rfl q)
    refine g_iload X rfl rfl ?_
    refine g_if_ne X rfl (fun q => absurd nI_0 q) (fun _ => ?_)
    refine g_aload_n X rfl rfl ?_
    refine g_iconst X rfl (v := nI 0) (by decide) ?_
    refine g_laldN X rfl ho3 (by decide) (by decide) ?_
    refine g_iload X rfl rfl ?_
    refine g_i2l X rfl ?_
    refine g_l_eq X rfl rfl (fun _ => ?_) (fun q => absurd hg q)
    refine g_goto X rfl ?_
    refine g_wid (k := cells + 3) (n := slots + 18) (Nat.add_le_add_left (Nat.le_of_ble_eq_true rfl) _) (Nat.add_le_add_left (Nat.le_of_ble_eq_true rfl) _) ?_
    exact G.lvw (lvw6 (fun j hj => match j, hj with | 0, _ => rfl | 1, _ => rfl | 2, _ => rfl | 3, _ => rfl | 4, _ => rfl | 5, _ => rfl | j + 6, h => absurd h (by omega))) (kk _ ⟨_, hS⟩)
  · obtain ⟨⟨f3, hf3⟩, hMd⟩ := hB E A1 hx
    refine g_istore X rfl (by decide) ?_
    refine g_aload_n X rfl rfl ?_
    refine g_aload_n X rfl rfl ?_
    refine g_iload X rfl rfl ?_
    refine g_iconst X rfl (v := nI 1) (by decide) ?_
    refine g_iadN X rfl ?_
    refine g_sld X hs rfl (by omega) (by omega) ?_
    refine g_mV X rfl lcX8_deductible lmW_218 lsX8_deductible hMd (ci := 8) hf3 rfl rfl rfl (Nat.le_of_ble_eq_true rfl) ⟨⟨Nat.le_of_ble_eq_true rfl, Nat.le_of_ble_eq_true rfl⟩, rfl, rfl⟩ hcp (fun v2 A3 q2 => ?_)
    obtain ⟨⟨d9, hd9, rfl⟩, hS⟩ := q2
    obtain ⟨x9, rfl⟩ := tyI hd9
    obtain ⟨W3, f4, mb3, rd3, r3, sv3, hy3, hJ, hw⟩ := id hS
    refine g_istore X rfl (by decide) ?_
    refine g_aload_n X rfl rfl ?_
    refine g_rV X rfl lcX8_thrown lmW_152 lsX8_thrown (cr_X8_thrown l D cy B od hJ.2.1.1) (ci := 8) hJ.2.1.1 rfl rfl rfl (Nat.le_of_ble_eq_true rfl) ⟨⟨Nat.le_of_ble_eq_true rfl, Nat.le_of_ble_eq_true rfl⟩, rfl, rfl⟩ hcp ?_
    rw [hw]
    refine g_iload X rfl rfl ?_
    refine g_icmp_eq X rfl (fun _ => ?_) (fun q => absurd rfl q)
    refine g_iload X rfl rfl ?_
    refine g_if_ne X rfl (fun _ => ?_) (fun q => absurd q (cX_n0 (by decide)))
    refine g_goto X rfl ?_
    refine g_wid (k := cells + 3) (n := slots + 18) (Nat.add_le_add_left (Nat.le_of_ble_eq_true rfl) _) (Nat.add_le_add_left (Nat.le_of_ble_eq_true rfl) _) ?_
    exact G.lvw (lvw6 (fun j hj => match j, hj with | 0, _ => rfl | 1, _ => rfl | 2, _ => rfl | 3, _ => rfl | 4, _ => rfl | 5, _ => rfl | j + 6, h => absurd h (by omega))) (kk _ ⟨_, hS⟩)
def tC_20 : List PT := [(1387, .aload_n 1, 1, 1, 0), (1388, .aload_n 0, 1, 2, 0), (1389, .iload 5, 2, 3, 0), (1391, .iconst 1, 1, 4, 0), (1392, .iadd, 1, 5, 0), (1393, .iaload, 1, 6, 0), (1394, .aload_n 0, 1, 7, 0), (1395, .iload 5, 2, 8, 0), (1397, .iconst 2, 1, 9, 0), (1398, .iadd, 1, 10, 0), (1399, .iaload, 1, 11, 0), (1400, .aload_n 0, 1, 12, 0), (1401, .iload 5, 2, 13, 0), (1403, .iconst 3, 1, 14, 0), (1404, .iadd, 1, 15, 0), (1405, .iaload, 1, 16, 0), (1406, .aload_n 3, 1, 17, 0), (1407, .invokestatic 219, 3, 18, 0), (1410, .istore 6, 2, 19, 0), (1412, .aload_n 2, 1, 20, 0), (1413, .aload_n 0, 1, 21, 0), (1414, .iload 5, 2, 22, 0), (1416, .iconst 1, 1, 23, 0), (1417, .iadd, 1, 24, 0), (1418, .iaload, 1, 25, 0), (1419, .aload_n 0, 1, 26, 0), (1420, .iload 5, 2, 27, 0), (1422, .iconst 2, 1, 28, 0), (1423, .iadd, 1, 29, 0), (1424, .iaload, 1, 30, 0), (1425, .aload_n 0, 1, 31, 0), (1426, .iload 5, 2, 32, 0), (1428, .iconst 3, 1, 33, 0), (1429, .iadd, 1, 34, 0), (1430, .iaload, 1, 35, 0), (1431, .invokevirtual 221, 3, 36, 0), (1434, .lstore 7, 2, 37, 0), (1436, .aload_n 2, 1, 38, 0), (1437, .invokevirtual 152, 3, 39, 0), (1440, .iload 6, 2, 40, 0), (1442, .if_icmp .eq 5, 3, 41, 43), (1445, .iconst 0, 1, 42, 0), (1446, .ireturn, 1, 43, 0), (1447, .iload 6, 2, 44, 0), (1449, .ifCond .ne 14, 3, 45, 53), (1452, .aload_n 3, 1, 46, 0), (1453, .iconst 0, 1, 47, 0), (1454, .laload, 1, 48, 0), (1455, .lload 7, 2, 49, 0), (1457, .lcmp, 1, 50, 0), (1458, .ifCond .eq 5, 3, 51, 53), (1461, .iconst 0, 1, 52, 0), (1462, .ireturn, 1, 53, 0), (1463, .goto 1359, 3, 0, 54), (2822, .iinc 5 6, 3, 55, 0), (2825, .goto (-2797), 3, 68, 56), (28, .iload 5, 2, 57, 0), (30, .aload_n 0, 1, 58, 0), (31, .arraylength, 1, 59, 0), (32, .bipush 6, 2, 60, 0), (34, .isub, 1, 61, 0), (35, .if_icmp .gt 2793, 3, 62, 68), (38, .aload_n 0, 1, 63, 0), (39, .iload 5, 2, 64, 0), (41, .iaload, 1, 65, 0), (42, .bipush 63, 2, 66, 0), (44, .iand, 1, 67, 0), (45, .tableswitch 2777 0 47 #[207, 311, 367, 380, 424, 528, 596, 652, 708, 788, 868, 948, 992, 1048, 1092, 1105, 1118, 1162, 1218, 1286, 1342, 1421, 1504, 1559, 1603, 1671, 1755, 1823, 1891, 1959, 2015, 2071, 2126, 2181, 2207, 2232, 2246, 2302, 2358, 2414, 2457, 2471, 2536, 2615, 2671, 2726, 2739, 2764], 207, 0, 0), (2828, .iconst 1, 1, 69, 0), (2829, .ireturn, 1, 0, 0)]
set_option maxRecDepth 100000 in
theorem okC_20 : OkTab cL_law tC_20 := ⟨by decide +kernel, by decide +kernel⟩
theorem lmW_219 : LkM RL 219 yL_total := lw_good_in (n := 1072) (by decide +kernel) rfl
theorem lmW_221 : LkM RL 221 yX8_total := lw_good_in (n := 1703) (by decide +kernel) rfl
set_option maxRecDepth 100000 in
set_option maxHeartbeats 1000000 in
theorem law_20 (l : Launch) (D : va_G) (cy : Nat → ClassId) (B : Nat) (od : Nat → Option Nat) {p : Program} {e : Env} {s : State} {m : MethodId} {args : Array Value} {below : List Frame} {meth : Method} {c : Code} {F : State → Prop} {cells slots : Nat} {A : AH} {L i : Nat} {xs : Nat → Int32} {W : LW} {f : MF} {mb rd r sv hy : Nat → Int32} (hl9 : l.stackTraces = false) (X : Cx p s m args meth c D cy B od cL_law 9 tC_20 RL (some .boolean)) (hs : SCR B od L xs s) (hL : L ≤ 3072) (hi : i + 5 < L) (hI : INV cy A W f mb rd r sv hy) (hcap : cells + 3 ≤ 601024 ∧ slots + 18 ≤ 7293034) (kk : ∀ A9, (∃ w, SOK cy A9 w) → G p l e room_1 s m args below meth c D B od 9 tC_20 F (cells + 3) (slots + 18) A9 0 54 (lv0 i) []) : G p l e room_1 s m args below meth c D B od 9 tC_20 F cells slots A 0 0 (lv0 i) [] := by
  obtain ⟨fs0, ho0⟩ := hI.o0
  unfold lv0
  obtain ⟨Qr, Qx, hC, hT, hE, hA, hB⟩ := pr_total l D cy B od hl9 hI (x0 := xs (i + 1)) (x1 := xs (i + 2)) (x2 := xs (i + 3))
  refine g_aload_n X rfl rfl ?_
  refine g_aload_n X rfl rfl ?_
  refine g_iload X rfl rfl ?_
  refine g_iconst X rfl (v := nI 1) (by decide) ?_
  refine g_iadN X rfl ?_
  refine g_sld X hs rfl (by omega) (by omega) ?_
  refine g_aload_n X rfl rfl ?_
  refine g_iload X rfl rfl ?_
  refine g_iconst X rfl (v := nI 2) (by decide) ?_
  refine g_iadN X rfl ?_
  refine g_sld X hs rfl (by omega) (by omega) ?_
  refine g_aload_n X rfl rfl ?_
  refine g_iload X rfl rfl ?_
  refine g_iconst X rfl (v := nI 3) (by decide) ?_
  refine g_iadN X rfl ?_
  refine g_sld X hs rfl (by omega) (by omega) ?_
  refine g_aload_n X rfl rfl ?_
  refine g_hp X rfl lkL_total lmW_219 stL_total (hp_L_total l D cy B od (hC 0) ho0 (fun r A1 h => ⟨tyL (hT r A1 h).1, (hT r A1 h).2.1⟩) hE) rfl rfl (Nat.le_of_ble_eq_true rfl) ⟨Nat.le_of_ble_eq_true rfl, Nat.le_of_ble_eq_true rfl⟩ ⟨Nat.le_trans (Nat.add_le_add_left (show rmL_total.cells ≤ 3 by decide) _) hcap.1, Nat.le_trans (Nat.add_le_add_left (show rmL_total.slots ≤ 18 by decide) _) hcap.2⟩ (fun v1 A1 z1 q1 => ?_)
  have hcp : cells + rmL_total.cells ≤ room_1.cells ∧ slots + rmL_total.slots ≤ room_1.slots := ⟨Nat.le_trans (Nat.add_le_add_left (show rmL_total.cells ≤ 3 by decide) _) hcap.1, Nat.le_trans (Nat.add_le_add_left (show rmL_total.slots ≤ 18 by decide) _) hcap.2⟩
  refine g_z0 ?_
  rcases q1 with ⟨r9, A2, g, hQ, rfl, hg, rfl⟩ | ⟨E, hx, hm, rfl⟩
  · obtain ⟨x9, rfl⟩ := tyL (hT r9 A2 hQ).1
    obtain ⟨⟨f3, hf3⟩, hMd⟩ := hA _ A2 _ hQ (Or.inl ⟨rfl, g, rfl⟩)
    refine g_istore X rfl (by decide) ?_
    refine g_aload_n X rfl rfl ?_
    refine g_aload_n X rfl rfl ?_
    refine g_iload X rfl rfl ?_
    refine g_iconst X rfl (v := nI 1) (by decide) ?_
    refine g_iadN X rfl ?_
    refine g_sld X hs rfl (by omega) (by omega) ?_
    refine g_aload_n X rfl rfl ?_
    refine g_iload X rfl rfl ?_
    refine g_iconst X rfl (v := nI 2) (by decide) ?_
    refine g_iadN X rfl ?_
    refine g_sld X hs rfl (by omega) (by omega) ?_
    refine g_aload_n X rfl rfl ?_
    refine g_iload X rfl rfl ?_
    refine g_iconst X rfl (v := nI 3) (by decide) ?_
    refine g_iadN X rfl ?_
    refine g_sld X hs rfl (by omega) (by omega) ?_
    refine g_mV X rfl lcX8_total lmW_221 lsX8_total hMd (ci := 8) hf3 rfl rfl rfl (Nat.le_of_ble_eq_true rfl) ⟨⟨Nat.le_of_ble_eq_true rfl, Nat.le_of_ble_eq_true rfl⟩, rfl, rfl⟩ hcp (fun v2 A3 q2 => ?_)
    obtain ⟨rfl, hS, ho3⟩ := q2
    obtain ⟨W3, f4, mb3, rd3, r3, sv3, hy3, hJ, hw⟩ := id hS
    refine g_lstore X rfl (by decide) ?_
    refine g_aload_n X rfl rfl ?_
    refine g_rV X rfl lcX8_thrown lmW_152 lsX8_thrown (cr_X8_thrown l D cy B od hJ.2.1.1) (ci := 8) hJ.2.1.1 rfl rfl rfl (Nat.le_of_ble_eq_true rfl) ⟨⟨Nat.le_of_ble_eq_true rfl, Nat.le_of_ble_eq_true rfl⟩, rfl, rfl⟩ hcp ?_
    rw [hw]
    refine g_iload X rfl rfl ?_
    refine g_icmp_eq X rfl (fun _ => ?_) (fun q => absurd rfl q)
    refine g_iload X rfl rfl ?_
    refine g_if_ne X rfl (fun q => absurd nI_0 q) (fun _ => ?_)
    refine g_aload_n X rfl rfl ?_
    refine g_iconst X rfl (v := nI 0) (by decide) ?_
    refine g_laldN X rfl ho3 (by decide) (by decide) ?_
    refine g_lload X rfl rfl ?_
    refine g_l_eq X rfl rfl (fun _ => ?_) (fun q => absurd hg q)
    refine g_goto X rfl ?_
    refine g_wid (k := cells + 3) (n := slots + 18) (Nat.add_le_add_left (Nat.le_of_ble_eq_true rfl) _) (Nat.add_le_add_left (Nat.le_of_ble_eq_true rfl) _) ?_
    exact G.lvw (lvw6 (fun j hj => match j, hj with | 0, _ => rfl | 1, _ => rfl | 2, _ => rfl | 3, _ => rfl | 4, _ => rfl | 5, _ => rfl | j + 6, h => absurd h (by omega))) (kk _ ⟨_, hS⟩)
  · obtain ⟨⟨f3, hf3⟩, hMd⟩ := hB E A1 hx
    refine g_istore X rfl (by decide) ?_
    refine g_aload_n X rfl rfl ?_
    refine g_aload_n X rfl rfl ?_
    refine g_iload X rfl rfl ?_
    refine g_iconst X rfl (v := nI 1) (by decide) ?_
    refine g_iadN X rfl ?_
    refine g_sld X hs rfl (by omega) (by omega) ?_
    refine g_aload_n X rfl rfl ?_
    refine g_iload X rfl rfl ?_
    refine g_iconst X rfl (v := nI 2) (by decide) ?_
    refine g_iadN X rfl ?_
    refine g_sld X hs rfl (by omega) (by omega) ?_
    refine g_aload_n X rfl rfl ?_
    refine g_iload X rfl rfl ?_
    refine g_iconst X rfl (v := nI 3) (by decide) ?_
    refine g_iadN X rfl ?_
    refine g_sld X hs rfl (by omega) (by omega) ?_
    refine g_mV X rfl lcX8_total lmW_221 lsX8_total hMd (ci := 8) hf3 rfl rfl rfl (Nat.le_of_ble_eq_true rfl) ⟨⟨Nat.le_of_ble_eq_true rfl, Nat.le_of_ble_eq_true rfl⟩, rfl, rfl⟩ hcp (fun v2 A3 q2 => ?_)
    obtain ⟨⟨d9, hd9, rfl⟩, hS⟩ := q2
    obtain ⟨x9, rfl⟩ := tyL hd9
    obtain ⟨W3, f4, mb3, rd3, r3, sv3, hy3, hJ, hw⟩ := id hS
    refine g_lstore X rfl (by decide) ?_
    refine g_aload_n X rfl rfl ?_
    refine g_rV X rfl lcX8_thrown lmW_152 lsX8_thrown (cr_X8_thrown l D cy B od hJ.2.1.1) (ci := 8) hJ.2.1.1 rfl rfl rfl (Nat.le_of_ble_eq_true rfl) ⟨⟨Nat.le_of_ble_eq_true rfl, Nat.le_of_ble_eq_true rfl⟩, rfl, rfl⟩ hcp ?_
    rw [hw]
    refine g_iload X rfl rfl ?_
    refine g_icmp_eq X rfl (fun _ => ?_) (fun q => absurd rfl q)
    refine g_iload X rfl rfl ?_
    refine g_if_ne X rfl (fun _ => ?_) (fun q => absurd q (cX_n0 (by decide)))
    refine g_goto X rfl ?_
    refine g_wid (k := cells + 3) (n := slots + 18) (Nat.add_le_add_left (Nat.le_of_ble_eq_true rfl) _) (Nat.add_le_add_left (Nat.le_of_ble_eq_true rfl) _) ?_
    exact G.lvw (lvw6 (fun j hj => match j, hj with | 0, _ => rfl | 1, _ => rfl | 2, _ => rfl | 3, _ => rfl | 4, _ => rfl | 5, _ => rfl | j + 6, h => absurd h (by omega))) (kk _ ⟨_, hS⟩)
def tC_21 : List PT := [(1466, .aload_n 1, 1, 1, 0), (1467, .aload_n 0, 1, 2, 0), (1468, .iload 5, 2, 3, 0), (1470, .iconst 1, 1, 4, 0), (1471, .iadd, 1, 5, 0), (1472, .iaload, 1, 6, 0), (1473, .aload_n 0, 1, 7, 0), (1474, .iload 5, 2, 8, 0), (1476, .iconst 2, 1, 9, 0), (1477, .iadd, 1, 10, 0), (1478, .iaload, 1, 11, 0), (1479, .ifCond .eq 7, 3, 12, 14), (1482, .iconst 1, 1, 13, 0), (1483, .goto 4, 3, 14, 15), (1486, .iconst 0, 1, 15, 0), (1487, .aload_n 3, 1, 16, 0), (1488, .invokestatic 222, 3, 17, 0), (1491, .istore 6, 2, 18, 0), (1493, .aload_n 2, 1, 19, 0), (1494, .aload_n 0, 1, 20, 0), (1495, .iload 5, 2, 21, 0), (1497, .iconst 1, 1, 22, 0), (1498, .iadd, 1, 23, 0), (1499, .iaload, 1, 24, 0), (1500, .aload_n 0, 1, 25, 0), (1501, .iload 5, 2, 26, 0), (1503, .iconst 2, 1, 27, 0), (1504, .iadd, 1, 28, 0), (1505, .iaload, 1, 29, 0), (1506, .ifCond .eq 7, 3, 30, 32), (1509, .iconst 1, 1, 31, 0), (1510, .goto 4, 3, 32, 33), (1513, .iconst 0, 1, 33, 0), (1514, .invokevirtual 225, 3, 34, 0), (1517, .lstore 7, 2, 35, 0), (1519, .aload_n 2, 1, 36, 0), (1520, .invokevirtual 152, 3, 37, 0), (1523, .iload 6, 2, 38, 0), (1525, .if_icmp .eq 5, 3, 39, 41), (1528, .iconst 0, 1, 40, 0), (1529, .ireturn, 1, 41, 0), (1530, .iload 6, 2, 42, 0), (1532, .ifCond .ne 14, 3, 43, 51), (1535, .aload_n 3, 1, 44, 0), (1536, .iconst 0, 1, 45, 0), (1537, .laload, 1, 46, 0), (1538, .lload 7, 2, 47, 0), (1540, .lcmp, 1, 48, 0), (1541, .ifCond .eq 5, 3, 49, 51), (1544, .iconst 0, 1, 50, 0), (1545, .ireturn, 1, 51, 0), (1546, .goto 1276, 3, 0, 52), (2822, .iinc 5 6, 3, 53, 0), (2825, .goto (-2797), 3, 66, 54), (28, .iload 5, 2, 55, 0), (30, .aload_n 0, 1, 56, 0), (31, .arraylength, 1, 57, 0), (32, .bipush 6, 2, 58, 0), (34, .isub, 1, 59, 0), (35, .if_icmp .gt 2793, 3, 60, 66), (38, .aload_n 0, 1, 61, 0), (39, .iload 5, 2, 62, 0), (41, .iaload, 1, 63, 0), (42, .bipush 63, 2, 64, 0), (44, .iand, 1, 65, 0), (45, .tableswitch 2777 0 47 #[207, 311, 367, 380, 424, 528, 596, 652, 708, 788, 868, 948, 992, 1048, 1092, 1105, 1118, 1162, 1218, 1286, 1342, 1421, 1504, 1559, 1603, 1671, 1755, 1823, 1891, 1959, 2015, 2071, 2126, 2181, 2207, 2232, 2246, 2302, 2358, 2414, 2457, 2471, 2536, 2615, 2671, 2726, 2739, 2764], 207, 0, 0), (2828, .iconst 1, 1, 67, 0), (2829, .ireturn, 1, 0, 0)]
set_option maxRecDepth 100000 in
theorem okC_21 : OkTab cL_law tC_21 := ⟨by decide +kernel, by decide +kernel⟩
theorem lmW_222 : LkM RL 222 yL_byCategory := lw_good_in (n := 1080) (by decide +kernel) rfl
theorem lmW_225 : LkM RL 225 yX8_byCategory := lw_good_in (n := 1707) (by decide +kernel) rfl
set_option maxRecDepth 100000 in
set_option maxHeartbeats 1000000 in
theorem law_21 (l : Launch) (D : va_G) (cy : Nat → ClassId) (B : Nat) (od : Nat → Option Nat) {p : Program} {e : Env} {s : State} {m : MethodId} {args : Array Value} {below : List Frame} {meth : Method} {c : Code} {F : State → Prop} {cells slots : Nat} {A : AH} {L i : Nat} {xs : Nat → Int32} {W : LW} {f : MF} {mb rd r sv hy : Nat → Int32} (hl9 : l.stackTraces = false) (X : Cx p s m args meth c D cy B od cL_law 9 tC_21 RL (some .boolean)) (hs : SCR B od L xs s) (hL : L ≤ 3072) (hi : i + 5 < L) (hI : INV cy A W f mb rd r sv hy) (hcap : cells + 3 ≤ 601024 ∧ slots + 18 ≤ 7293034) (kk : ∀ A9, (∃ w, SOK cy A9 w) → G p l e room_1 s m args below meth c D B od 9 tC_21 F (cells + 3) (slots + 18) A9 0 52 (lv0 i) []) : G p l e room_1 s m args below meth c D B od 9 tC_21 F cells slots A 0 0 (lv0 i) [] := by
  obtain ⟨fs0, ho0⟩ := hI.o0
  unfold lv0
  by_cases hb : xs (i + 2) = 0
  · obtain ⟨Qr, Qx, hC, hT, hE, hA, hB⟩ := pr_byCategory l D cy B od hl9 hI (x0 := xs (i + 1)) (x1 := nI 0)
    refine g_aload_n X rfl rfl ?_
    refine g_aload_n X rfl rfl ?_
    refine g_iload X rfl rfl ?_
    refine g_iconst X rfl (v := nI 1) (by decide) ?_
    refine g_iadN X rfl ?_
    refine g_sld X hs rfl (by omega) (by omega) ?_
    refine g_aload_n X rfl rfl ?_
    refine g_iload X rfl rfl ?_
    refine g_iconst X rfl (v := nI 2) (by decide) ?_
    refine g_iadN X rfl ?_
    refine g_sld X hs rfl (by omega) (by omega) ?_
    refine g_if_eq X rfl (fun _ => ?_) (fun q => absurd hb q)
    refine g_iconst X rfl (v := nI 0) (by decide) ?_
    refine g_aload_n X rfl rfl ?_
    refine g_hp X rfl lkL_byCategory lmW_222 stL_byCategory (hp_L_byCategory l D cy B od (hC 0) ho0 (fun r A1 h => ⟨tyL (hT r A1 h).1, (hT r A1 h).2.1⟩) hE) rfl rfl (Nat.le_of_ble_eq_true rfl) ⟨Nat.le_of_ble_eq_true rfl, Nat.le_of_ble_eq_true rfl⟩ ⟨Nat.le_trans (Nat.add_le_add_left (show rmL_byCategory.cells ≤ 3 by decide) _) hcap.1, Nat.le_trans (Nat.add_le_add_left (show rmL_byCategory.slots ≤ 18 by decide) _) hcap.2⟩ (fun v1 A1 z1 q1 => ?_)
    have hcp : cells + rmL_byCategory.cells ≤ room_1.cells ∧ slots + rmL_byCategory.slots ≤ room_1.slots := ⟨Nat.le_trans (Nat.add_le_add_left (show rmL_byCategory.cells ≤ 3 by decide) _) hcap.1, Nat.le_trans (Nat.add_le_add_left (show rmL_byCategory.slots ≤ 18 by decide) _) hcap.2⟩
    refine g_z0 ?_
    rcases q1 with ⟨r9, A2, g, hQ, rfl, hg, rfl⟩ | ⟨E, hx, hm, rfl⟩
    · obtain ⟨x9, rfl⟩ := tyL (hT r9 A2 hQ).1
      obtain ⟨⟨f3, hf3⟩, hMd⟩ := hA _ A2 _ hQ (Or.inl ⟨rfl, g, rfl⟩)
      refine g_istore X rfl (by decide) ?_
      refine g_aload_n X rfl rfl ?_
      refine g_aload_n X rfl rfl ?_
      refine g_iload X rfl rfl ?_
      refine g_iconst X rfl (v := nI 1) (by decide) ?_
      refine g_iadN X rfl ?_
      refine g_sld X hs rfl (by omega) (by omega) ?_
      refine g_aload_n X rfl rfl ?_
      refine g_iload X rfl rfl ?_
      refine g_iconst X rfl (v := nI 2) (by decide) ?_
      refine g_iadN X rfl ?_
      refine g_sld X hs rfl (by omega) (by omega) ?_
      refine g_if_eq X rfl (fun _ => ?_) (fun q => absurd hb q)
      refine g_iconst X rfl (v := nI 0) (by decide) ?_
      refine g_mV X rfl lcX8_byCategory lmW_225 lsX8_byCategory hMd (ci := 8) hf3 rfl rfl rfl (Nat.le_of_ble_eq_true rfl) ⟨⟨Nat.le_of_ble_eq_true rfl, Nat.le_of_ble_eq_true rfl⟩, rfl, rfl⟩ hcp (fun v2 A3 q2 => ?_)
      obtain ⟨rfl, hS, ho3⟩ := q2
      obtain ⟨W3, f4, mb3, rd3, r3, sv3, hy3, hJ, hw⟩ := id hS
      refine g_lstore X rfl (by decide) ?_
      refine g_aload_n X rfl rfl ?_
      refine g_rV X rfl lcX8_thrown lmW_152 lsX8_thrown (cr_X8_thrown l D cy B od hJ.2.1.1) (ci := 8) hJ.2.1.1 rfl rfl rfl (Nat.le_of_ble_eq_true rfl) ⟨⟨Nat.le_of_ble_eq_true rfl, Nat.le_of_ble_eq_true rfl⟩, rfl, rfl⟩ hcp ?_
      rw [hw]
      refine g_iload X rfl rfl ?_
      refine g_icmp_eq X rfl (fun _ => ?_) (fun q => absurd rfl q)
      refine g_iload X rfl rfl ?_
      refine g_if_ne X rfl (fun q => absurd nI_0 q) (fun _ => ?_)
      refine g_aload_n X rfl rfl ?_
      refine g_iconst X rfl (v := nI 0) (by decide) ?_
      refine g_laldN X rfl ho3 (by decide) (by decide) ?_
      refine g_lload X rfl rfl ?_
      refine g_l_eq X rfl rfl (fun _ => ?_) (fun q => absurd hg q)
      refine g_goto X rfl ?_
      refine g_wid (k := cells + 3) (n := slots + 18) (Nat.add_le_add_left (Nat.le_of_ble_eq_true rfl) _) (Nat.add_le_add_left (Nat.le_of_ble_eq_true rfl) _) ?_
      exact G.lvw (lvw6 (fun j hj => match j, hj with | 0, _ => rfl | 1, _ => rfl | 2, _ => rfl | 3, _ => rfl | 4, _ => rfl | 5, _ => rfl | j + 6, h => absurd h (by omega))) (kk _ ⟨_, hS⟩)
    · obtain ⟨⟨f3, hf3⟩, hMd⟩ := hB E A1 hx
      refine g_istore X rfl (by decide) ?_
      refine g_aload_n X rfl rfl ?_
      refine g_aload_n X rfl rfl ?_
      refine g_iload X rfl rfl ?_
      refine g_iconst X rfl (v := nI 1) (by decide) ?_
      refine g_iadN X rfl ?_
      refine g_sld X hs rfl (by omega) (by omega) ?_
      refine g_aload_n X rfl rfl ?_
      refine g_iload X rfl rfl ?_
      refine g_iconst X rfl (v := nI 2) (by decide) ?_
      refine g_iadN X rfl ?_
      refine g_sld X hs rfl (by omega) (by omega) ?_
      refine g_if_eq X rfl (fun _ => ?_) (fun q => absurd hb q)
      refine g_iconst X rfl (v := nI 0) (by decide) ?_
      refine g_mV X rfl lcX8_byCategory lmW_225 lsX8_byCategory hMd (ci := 8) hf3 rfl rfl rfl (Nat.le_of_ble_eq_true rfl) ⟨⟨Nat.le_of_ble_eq_true rfl, Nat.le_of_ble_eq_true rfl⟩, rfl, rfl⟩ hcp (fun v2 A3 q2 => ?_)
      obtain ⟨⟨d9, hd9, rfl⟩, hS⟩ := q2
      obtain ⟨x9, rfl⟩ := tyL hd9
      obtain ⟨W3, f4, mb3, rd3, r3, sv3, hy3, hJ, hw⟩ := id hS
      refine g_lstore X rfl (by decide) ?_
      refine g_aload_n X rfl rfl ?_
      refine g_rV X rfl lcX8_thrown lmW_152 lsX8_thrown (cr_X8_thrown l D cy B od hJ.2.1.1) (ci := 8) hJ.2.1.1 rfl rfl rfl (Nat.le_of_ble_eq_true rfl) ⟨⟨Nat.le_of_ble_eq_true rfl, Nat.le_of_ble_eq_true rfl⟩, rfl, rfl⟩ hcp ?_
      rw [hw]
      refine g_iload X rfl rfl ?_
      refine g_icmp_eq X rfl (fun _ => ?_) (fun q => absurd rfl q)
      refine g_iload X rfl rfl ?_
      refine g_if_ne X rfl (fun _ => ?_) (fun q => absurd q (cX_n0 (by decide)))
      refine g_goto X rfl ?_
      refine g_wid (k := cells + 3) (n := slots + 18) (Nat.add_le_add_left (Nat.le_of_ble_eq_true rfl) _) (Nat.add_le_add_left (Nat.le_of_ble_eq_true rfl) _) ?_
      exact G.lvw (lvw6 (fun j hj => match j, hj with | 0, _ => rfl | 1, _ => rfl | 2, _ => rfl | 3, _ => rfl | 4, _ => rfl | 5, _ => rfl | j + 6, h => absurd h (by omega))) (kk _ ⟨_, hS⟩)
  · obtain ⟨Qr, Qx, hC, hT, hE, hA, hB⟩ := pr_byCategory l D cy B od hl9 hI (x0 := xs (i + 1)) (x1 := nI 1)
    refine g_aload_n X rfl rfl ?_
    refine g_aload_n X rfl rfl ?_
    refine g_iload X rfl rfl ?_
    refine g_iconst X rfl (v := nI 1) (by decide) ?_
    refine g_iadN X rfl ?_
    refine g_sld X hs rfl (by omega) (by omega) ?_
    refine g_aload_n X rfl rfl ?_
    refine g_iload X rfl rfl ?_
    refine g_iconst X rfl (v := nI 2) (by decide) ?_
    refine g_iadN X rfl ?_
    refine g_sld X hs rfl (by omega) (by omega) ?_
    refine g_if_eq X rfl (fun q => absurd q hb) (fun _ => ?_)
    refine g_iconst X rfl (v := nI 1) (by decide) ?_
    refine g_goto X rfl ?_
    refine g_aload_n X rfl rfl ?_
    refine g_hp X rfl lkL_byCategory lmW_222 stL_byCategory (hp_L_byCategory l D cy B od (hC 0) ho0 (fun r A1 h => ⟨tyL (hT r A1 h).1, (hT r A1 h).2.1⟩) hE) rfl rfl (Nat.le_of_ble_eq_true rfl) ⟨Nat.le_of_ble_eq_true rfl, Nat.le_of_ble_eq_true rfl⟩ ⟨Nat.le_trans (Nat.add_le_add_left (show rmL_byCategory.cells ≤ 3 by decide) _) hcap.1, Nat.le_trans (Nat.add_le_add_left (show rmL_byCategory.slots ≤ 18 by decide) _) hcap.2⟩ (fun v1 A1 z1 q1 => ?_)
    have hcp : cells + rmL_byCategory.cells ≤ room_1.cells ∧ slots + rmL_byCategory.slots ≤ room_1.slots := ⟨Nat.le_trans (Nat.add_le_add_left (show rmL_byCategory.cells ≤ 3 by decide) _) hcap.1, Nat.le_trans (Nat.add_le_add_left (show rmL_byCategory.slots ≤ 18 by decide) _) hcap.2⟩
    refine g_z0 ?_
    rcases q1 with ⟨r9, A2, g, hQ, rfl, hg, rfl⟩ | ⟨E, hx, hm, rfl⟩
    · obtain ⟨x9, rfl⟩ := tyL (hT r9 A2 hQ).1
      obtain ⟨⟨f3, hf3⟩, hMd⟩ := hA _ A2 _ hQ (Or.inl ⟨rfl, g, rfl⟩)
      refine g_istore X rfl (by decide) ?_
      refine g_aload_n X rfl rfl ?_
      refine g_aload_n X rfl rfl ?_
      refine g_iload X rfl rfl ?_
      refine g_iconst X rfl (v := nI 1) (by decide) ?_
      refine g_iadN X rfl ?_
      refine g_sld X hs rfl (by omega) (by omega) ?_
      refine g_aload_n X rfl rfl ?_
      refine g_iload X rfl rfl ?_
      refine g_iconst X rfl (v := nI 2) (by decide) ?_
      refine g_iadN X rfl ?_
      refine g_sld X hs rfl (by omega) (by omega) ?_
      refine g_if_eq X rfl (fun q => absurd q hb) (fun _ => ?_)
      refine g_iconst X rfl (v := nI 1) (by decide) ?_
      refine g_goto X rfl ?_
      refine g_mV X rfl lcX8_byCategory lmW_225 lsX8_byCategory hMd (ci := 8) hf3 rfl rfl rfl (Nat.le_of_ble_eq_true rfl) ⟨⟨Nat.le_of_ble_eq_true rfl, Nat.le_of_ble_eq_true rfl⟩, rfl, rfl⟩ hcp (fun v2 A3 q2 => ?_)
      obtain ⟨rfl, hS, ho3⟩ := q2
      obtain ⟨W3, f4, mb3, rd3, r3, sv3, hy3, hJ, hw⟩ := id hS
      refine g_lstore X rfl (by decide) ?_
      refine g_aload_n X rfl rfl ?_
      refine g_rV X rfl lcX8_thrown lmW_152 lsX8_thrown (cr_X8_thrown l D cy B od hJ.2.1.1) (ci := 8) hJ.2.1.1 rfl rfl rfl (Nat.le_of_ble_eq_true rfl) ⟨⟨Nat.le_of_ble_eq_true rfl, Nat.le_of_ble_eq_true rfl⟩, rfl, rfl⟩ hcp ?_
      rw [hw]
      refine g_iload X rfl rfl ?_
      refine g_icmp_eq X rfl (fun _ => ?_) (fun q => absurd rfl q)
      refine g_iload X rfl rfl ?_
      refine g_if_ne X rfl (fun q => absurd nI_0 q) (fun _ => ?_)
      refine g_aload_n X rfl rfl ?_
      refine g_iconst X rfl (v := nI 0) (by decide) ?_
      refine g_laldN X rfl ho3 (by decide) (by decide) ?_
      refine g_lload X rfl rfl ?_
      refine g_l_eq X rfl rfl (fun _ => ?_) (fun q => absurd hg q)
      refine g_goto X rfl ?_
      refine g_wid (k := cells + 3) (n := slots + 18) (Nat.add_le_add_left (Nat.le_of_ble_eq_true rfl) _) (Nat.add_le_add_left (Nat.le_of_ble_eq_true rfl) _) ?_
      exact G.lvw (lvw6 (fun j hj => match j, hj with | 0, _ => rfl | 1, _ => rfl | 2, _ => rfl | 3, _ => rfl | 4, _ => rfl | 5, _ => rfl | j + 6, h => absurd h (by omega))) (kk _ ⟨_, hS⟩)
    · obtain ⟨⟨f3, hf3⟩, hMd⟩ := hB E A1 hx
      refine g_istore X rfl (by decide) ?_
      refine g_aload_n X rfl rfl ?_
      refine g_aload_n X rfl rfl ?_
      refine g_iload X rfl rfl ?_
      refine g_iconst X rfl (v := nI 1) (by decide) ?_
      refine g_iadN X rfl ?_
      refine g_sld X hs rfl (by omega) (by omega) ?_
      refine g_aload_n X rfl rfl ?_
      refine g_iload X rfl rfl ?_
      refine g_iconst X rfl (v := nI 2) (by decide) ?_
      refine g_iadN X rfl ?_
      refine g_sld X hs rfl (by omega) (by omega) ?_
      refine g_if_eq X rfl (fun q => absurd q hb) (fun _ => ?_)
      refine g_iconst X rfl (v := nI 1) (by decide) ?_
      refine g_goto X rfl ?_
      refine g_mV X rfl lcX8_byCategory lmW_225 lsX8_byCategory hMd (ci := 8) hf3 rfl rfl rfl (Nat.le_of_ble_eq_true rfl) ⟨⟨Nat.le_of_ble_eq_true rfl, Nat.le_of_ble_eq_true rfl⟩, rfl, rfl⟩ hcp (fun v2 A3 q2 => ?_)
      obtain ⟨⟨d9, hd9, rfl⟩, hS⟩ := q2
      obtain ⟨x9, rfl⟩ := tyL hd9
      obtain ⟨W3, f4, mb3, rd3, r3, sv3, hy3, hJ, hw⟩ := id hS
      refine g_lstore X rfl (by decide) ?_
      refine g_aload_n X rfl rfl ?_
      refine g_rV X rfl lcX8_thrown lmW_152 lsX8_thrown (cr_X8_thrown l D cy B od hJ.2.1.1) (ci := 8) hJ.2.1.1 rfl rfl rfl (Nat.le_of_ble_eq_true rfl) ⟨⟨Nat.le_of_ble_eq_true rfl, Nat.le_of_ble_eq_true rfl⟩, rfl, rfl⟩ hcp ?_
      rw [hw]
      refine g_iload X rfl rfl ?_
      refine g_icmp_eq X rfl (fun _ => ?_) (fun q => absurd rfl q)
      refine g_iload X rfl rfl ?_
      refine g_if_ne X rfl (fun _ => ?_) (fun q => absurd q (cX_n0 (by decide)))
      refine g_goto X rfl ?_
      refine g_wid (k := cells + 3) (n := slots + 18) (Nat.add_le_add_left (Nat.le_of_ble_eq_true rfl) _) (Nat.add_le_add_left (Nat.le_of_ble_eq_true rfl) _) ?_
      exact G.lvw (lvw6 (fun j hj => match j, hj with | 0, _ => rfl | 1, _ => rfl | 2, _ => rfl | 3, _ => rfl | 4, _ => rfl | 5, _ => rfl | j + 6, h => absurd h (by omega))) (kk _ ⟨_, hS⟩)
def tC_22 : List PT := [(1549, .aload_n 1, 1, 1, 0), (1550, .aload_n 0, 1, 2, 0), (1551, .iload 5, 2, 3, 0), (1553, .iconst 1, 1, 4, 0), (1554, .iadd, 1, 5, 0), (1555, .iaload, 1, 6, 0), (1556, .aload_n 3, 1, 7, 0), (1557, .invokestatic 226, 3, 8, 0), (1560, .istore 6, 2, 9, 0), (1562, .aload_n 2, 1, 10, 0), (1563, .aload_n 0, 1, 11, 0), (1564, .iload 5, 2, 12, 0), (1566, .iconst 1, 1, 13, 0), (1567, .iadd, 1, 14, 0), (1568, .iaload, 1, 15, 0), (1569, .invokevirtual 228, 3, 16, 0), (1572, .lstore 7, 2, 17, 0), (1574, .aload_n 2, 1, 18, 0), (1575, .invokevirtual 152, 3, 19, 0), (1578, .iload 6, 2, 20, 0), (1580, .if_icmp .eq 5, 3, 21, 23), (1583, .iconst 0, 1, 22, 0), (1584, .ireturn, 1, 23, 0), (1585, .iload 6, 2, 24, 0), (1587, .ifCond .ne 14, 3, 25, 33), (1590, .aload_n 3, 1, 26, 0), (1591, .iconst 0, 1, 27, 0), (1592, .laload, 1, 28, 0), (1593, .lload 7, 2, 29, 0), (1595, .lcmp, 1, 30, 0), (1596, .ifCond .eq 5, 3, 31, 33), (1599, .iconst 0, 1, 32, 0), (1600, .ireturn, 1, 33, 0), (1601, .goto 1221, 3, 0, 34), (2822, .iinc 5 6, 3, 35, 0), (2825, .goto (-2797), 3, 48, 36), (28, .iload 5, 2, 37, 0), (30, .aload_n 0, 1, 38, 0), (31, .arraylength, 1, 39, 0), (32, .bipush 6, 2, 40, 0), (34, .isub, 1, 41, 0), (35, .if_icmp .gt 2793, 3, 42, 48), (38, .aload_n 0, 1, 43, 0), (39, .iload 5, 2, 44, 0), (41, .iaload, 1, 45, 0), (42, .bipush 63, 2, 46, 0), (44, .iand, 1, 47, 0), (45, .tableswitch 2777 0 47 #[207, 311, 367, 380, 424, 528, 596, 652, 708, 788, 868, 948, 992, 1048, 1092, 1105, 1118, 1162, 1218, 1286, 1342, 1421, 1504, 1559, 1603, 1671, 1755, 1823, 1891, 1959, 2015, 2071, 2126, 2181, 2207, 2232, 2246, 2302, 2358, 2414, 2457, 2471, 2536, 2615, 2671, 2726, 2739, 2764], 207, 0, 0), (2828, .iconst 1, 1, 49, 0), (2829, .ireturn, 1, 0, 0)]
set_option maxRecDepth 100000 in
theorem okC_22 : OkTab cL_law tC_22 := ⟨by decide +kernel, by decide +kernel⟩
theorem lmW_226 : LkM RL 226 yL_open := lw_good_in (n := 1096) (by decide +kernel) rfl
theorem lmW_228 : LkM RL 228 yX8_open := lw_good_in (n := 1711) (by decide +kernel) rfl
set_option maxRecDepth 100000 in
set_option maxHeartbeats 1000000 in
theorem law_22 (l : Launch) (D : va_G) (cy : Nat → ClassId) (B : Nat) (od : Nat → Option Nat) {p : Program} {e : Env} {s : State} {m : MethodId} {args : Array Value} {below : List Frame} {meth : Method} {c : Code} {F : State → Prop} {cells slots : Nat} {A : AH} {L i : Nat} {xs : Nat → Int32} {W : LW} {f : MF} {mb rd r sv hy : Nat → Int32} (hl9 : l.stackTraces = false) (X : Cx p s m args meth c D cy B od cL_law 9 tC_22 RL (some .boolean)) (hs : SCR B od L xs s) (hL : L ≤ 3072) (hi : i + 5 < L) (hI : INV cy A W f mb rd r sv hy) (hcap : cells + 3 ≤ 601024 ∧ slots + 18 ≤ 7293034) (kk : ∀ A9, (∃ w, SOK cy A9 w) → G p l e room_1 s m args below meth c D B od 9 tC_22 F (cells + 3) (slots + 18) A9 0 34 (lv0 i) []) : G p l e room_1 s m args below meth c D B od 9 tC_22 F cells slots A 0 0 (lv0 i) [] := by
  obtain ⟨fs0, ho0⟩ := hI.o0
  unfold lv0
  obtain ⟨Qr, Qx, hC, hT, hE, hA, hB⟩ := pr_open l D cy B od hl9 hI (x0 := xs (i + 1))
  refine g_aload_n X rfl rfl ?_
  refine g_aload_n X rfl rfl ?_
  refine g_iload X rfl rfl ?_
  refine g_iconst X rfl (v := nI 1) (by decide) ?_
  refine g_iadN X rfl ?_
  refine g_sld X hs rfl (by omega) (by omega) ?_
  refine g_aload_n X rfl rfl ?_
  refine g_hp X rfl lkL_open lmW_226 stL_open (hp_L_open l D cy B od (hC 0) ho0 (fun r A1 h => ⟨tyL (hT r A1 h).1, (hT r A1 h).2.1⟩) hE) rfl rfl (Nat.le_of_ble_eq_true rfl) ⟨Nat.le_of_ble_eq_true rfl, Nat.le_of_ble_eq_true rfl⟩ ⟨Nat.le_trans (Nat.add_le_add_left (show rmL_open.cells ≤ 3 by decide) _) hcap.1, Nat.le_trans (Nat.add_le_add_left (show rmL_open.slots ≤ 18 by decide) _) hcap.2⟩ (fun v1 A1 z1 q1 => ?_)
  have hcp : cells + rmL_open.cells ≤ room_1.cells ∧ slots + rmL_open.slots ≤ room_1.slots := ⟨Nat.le_trans (Nat.add_le_add_left (show rmL_open.cells ≤ 3 by decide) _) hcap.1, Nat.le_trans (Nat.add_le_add_left (show rmL_open.slots ≤ 18 by decide) _) hcap.2⟩
  refine g_z0 ?_
  rcases q1 with ⟨r9, A2, g, hQ, rfl, hg, rfl⟩ | ⟨E, hx, hm, rfl⟩
  · obtain ⟨x9, rfl⟩ := tyL (hT r9 A2 hQ).1
    obtain ⟨⟨f3, hf3⟩, hMd⟩ := hA _ A2 _ hQ (Or.inl ⟨rfl, g, rfl⟩)
    refine g_istore X rfl (by decide) ?_
    refine g_aload_n X rfl rfl ?_
    refine g_aload_n X rfl rfl ?_
    refine g_iload X rfl rfl ?_
    refine g_iconst X rfl (v := nI 1) (by decide) ?_
    refine g_iadN X rfl ?_
    refine g_sld X hs rfl (by omega) (by omega) ?_
    refine g_mV X rfl lcX8_open lmW_228 lsX8_open hMd (ci := 8) hf3 rfl rfl rfl (Nat.le_of_ble_eq_true rfl) ⟨⟨Nat.le_of_ble_eq_true rfl, Nat.le_of_ble_eq_true rfl⟩, rfl, rfl⟩ hcp (fun v2 A3 q2 => ?_)
    obtain ⟨rfl, hS, ho3⟩ := q2
    obtain ⟨W3, f4, mb3, rd3, r3, sv3, hy3, hJ, hw⟩ := id hS
    refine g_lstore X rfl (by decide) ?_
    refine g_aload_n X rfl rfl ?_
    refine g_rV X rfl lcX8_thrown lmW_152 lsX8_thrown (cr_X8_thrown l D cy B od hJ.2.1.1) (ci := 8) hJ.2.1.1 rfl rfl rfl (Nat.le_of_ble_eq_true rfl) ⟨⟨Nat.le_of_ble_eq_true rfl, Nat.le_of_ble_eq_true rfl⟩, rfl, rfl⟩ hcp ?_
    rw [hw]
    refine g_iload X rfl rfl ?_
    refine g_icmp_eq X rfl (fun _ => ?_) (fun q => absurd rfl q)
    refine g_iload X rfl rfl ?_
    refine g_if_ne X rfl (fun q => absurd nI_0 q) (fun _ => ?_)
    refine g_aload_n X rfl rfl ?_
    refine g_iconst X rfl (v := nI 0) (by decide) ?_
    refine g_laldN X rfl ho3 (by decide) (by decide) ?_
    refine g_lload X rfl rfl ?_
    refine g_l_eq X rfl rfl (fun _ => ?_) (fun q => absurd hg q)
    refine g_goto X rfl ?_
    refine g_wid (k := cells + 3) (n := slots + 18) (Nat.add_le_add_left (Nat.le_of_ble_eq_true rfl) _) (Nat.add_le_add_left (Nat.le_of_ble_eq_true rfl) _) ?_
    exact G.lvw (lvw6 (fun j hj => match j, hj with | 0, _ => rfl | 1, _ => rfl | 2, _ => rfl | 3, _ => rfl | 4, _ => rfl | 5, _ => rfl | j + 6, h => absurd h (by omega))) (kk _ ⟨_, hS⟩)
  · obtain ⟨⟨f3, hf3⟩, hMd⟩ := hB E A1 hx
    refine g_istore X rfl (by decide) ?_
    refine g_aload_n X rfl rfl ?_
    refine g_aload_n X rfl rfl ?_
    refine g_iload X rfl rfl ?_
    refine g_iconst X rfl (v := nI 1) (by decide) ?_
    refine g_iadN X rfl ?_
    refine g_sld X hs rfl (by omega) (by omega) ?_
    refine g_mV X rfl lcX8_open lmW_228 lsX8_open hMd (ci := 8) hf3 rfl rfl rfl (Nat.le_of_ble_eq_true rfl) ⟨⟨Nat.le_of_ble_eq_true rfl, Nat.le_of_ble_eq_true rfl⟩, rfl, rfl⟩ hcp (fun v2 A3 q2 => ?_)
    obtain ⟨⟨d9, hd9, rfl⟩, hS⟩ := q2
    obtain ⟨x9, rfl⟩ := tyL hd9
    obtain ⟨W3, f4, mb3, rd3, r3, sv3, hy3, hJ, hw⟩ := id hS
    refine g_lstore X rfl (by decide) ?_
    refine g_aload_n X rfl rfl ?_
    refine g_rV X rfl lcX8_thrown lmW_152 lsX8_thrown (cr_X8_thrown l D cy B od hJ.2.1.1) (ci := 8) hJ.2.1.1 rfl rfl rfl (Nat.le_of_ble_eq_true rfl) ⟨⟨Nat.le_of_ble_eq_true rfl, Nat.le_of_ble_eq_true rfl⟩, rfl, rfl⟩ hcp ?_
    rw [hw]
    refine g_iload X rfl rfl ?_
    refine g_icmp_eq X rfl (fun _ => ?_) (fun q => absurd rfl q)
    refine g_iload X rfl rfl ?_
    refine g_if_ne X rfl (fun _ => ?_) (fun q => absurd q (cX_n0 (by decide)))
    refine g_goto X rfl ?_
    refine g_wid (k := cells + 3) (n := slots + 18) (Nat.add_le_add_left (Nat.le_of_ble_eq_true rfl) _) (Nat.add_le_add_left (Nat.le_of_ble_eq_true rfl) _) ?_
    exact G.lvw (lvw6 (fun j hj => match j, hj with | 0, _ => rfl | 1, _ => rfl | 2, _ => rfl | 3, _ => rfl | 4, _ => rfl | 5, _ => rfl | j + 6, h => absurd h (by omega))) (kk _ ⟨_, hS⟩)
def tC_23 : List PT := [(1604, .aload_n 1, 1, 1, 0), (1605, .aload_n 3, 1, 2, 0), (1606, .invokestatic 229, 3, 3, 0), (1609, .istore 6, 2, 4, 0), (1611, .aload_n 2, 1, 5, 0), (1612, .invokevirtual 231, 3, 6, 0), (1615, .istore 7, 2, 7, 0), (1617, .aload_n 2, 1, 8, 0), (1618, .invokevirtual 152, 3, 9, 0), (1621, .iload 6, 2, 10, 0), (1623, .if_icmp .eq 5, 3, 11, 13), (1626, .iconst 0, 1, 12, 0), (1627, .ireturn, 1, 13, 0), (1628, .iload 6, 2, 14, 0), (1630, .ifCond .ne 15, 3, 15, 24), (1633, .aload_n 3, 1, 16, 0), (1634, .iconst 0, 1, 17, 0), (1635, .laload, 1, 18, 0), (1636, .iload 7, 2, 19, 0), (1638, .i2l, 1, 20, 0), (1639, .lcmp, 1, 21, 0), (1640, .ifCond .eq 5, 3, 22, 24), (1643, .iconst 0, 1, 23, 0), (1644, .ireturn, 1, 24, 0), (1645, .goto 1177, 3, 0, 25), (2822, .iinc 5 6, 3, 26, 0), (2825, .goto (-2797), 3, 39, 27), (28, .iload 5, 2, 28, 0), (30, .aload_n 0, 1, 29, 0), (31, .arraylength, 1, 30, 0), (32, .bipush 6, 2, 31, 0), (34, .isub, 1, 32, 0), (35, .if_icmp .gt 2793, 3, 33, 39), (38, .aload_n 0, 1, 34, 0), (39, .iload 5, 2, 35, 0), (41, .iaload, 1, 36, 0), (42, .bipush 63, 2, 37, 0), (44, .iand, 1, 38, 0), (45, .tableswitch 2777 0 47 #[207, 311, 367, 380, 424, 528, 596, 652, 708, 788, 868, 948, 992, 1048, 1092, 1105, 1118, 1162, 1218, 1286, 1342, 1421, 1504, 1559, 1603, 1671, 1755, 1823, 1891, 1959, 2015, 2071, 2126, 2181, 2207, 2232, 2246, 2302, 2358, 2414, 2457, 2471, 2536, 2615, 2671, 2726, 2739, 2764], 207, 0, 0), (2828, .iconst 1, 1, 40, 0), (2829, .ireturn, 1, 0, 0)]
set_option maxRecDepth 100000 in
theorem okC_23 : OkTab cL_law tC_23 := ⟨by decide +kernel, by decide +kernel⟩
theorem lmW_229 : LkM RL 229 yL_oldestOpen := lw_good_in (n := 1107) (by decide +kernel) rfl
theorem lmW_231 : LkM RL 231 yX8_oldestOpen := lw_good_in (n := 1715) (by decide +kernel) rfl
set_option maxRecDepth 100000 in
set_option maxHeartbeats 1000000 in
theorem law_23 (l : Launch) (D : va_G) (cy : Nat → ClassId) (B : Nat) (od : Nat → Option Nat) {p : Program} {e : Env} {s : State} {m : MethodId} {args : Array Value} {below : List Frame} {meth : Method} {c : Code} {F : State → Prop} {cells slots : Nat} {A : AH} {L i : Nat} {xs : Nat → Int32} {W : LW} {f : MF} {mb rd r sv hy : Nat → Int32} (hl9 : l.stackTraces = false) (X : Cx p s m args meth c D cy B od cL_law 9 tC_23 RL (some .boolean)) (hs : SCR B od L xs s) (hL : L ≤ 3072) (hi : i + 5 < L) (hI : INV cy A W f mb rd r sv hy) (hcap : cells + 3 ≤ 601024 ∧ slots + 18 ≤ 7293034) (kk : ∀ A9, (∃ w, SOK cy A9 w) → G p l e room_1 s m args below meth c D B od 9 tC_23 F (cells + 3) (slots + 18) A9 0 25 (lv0 i) []) : G p l e room_1 s m args below meth c D B od 9 tC_23 F cells slots A 0 0 (lv0 i) [] := by
  obtain ⟨fs0, ho0⟩ := hI.o0
  unfold lv0
  obtain ⟨Qr, Qx, hC, hT, hE, hA, hB⟩ := pr_oldestOpen l D cy B od hl9 hI
  refine g_aload_n X rfl rfl ?_
  refine g_aload_n X rfl rfl ?_
  refine g_hp X rfl lkL_oldestOpen lmW_229 stL_oldestOpen (hp_L_oldestOpen l D cy B od (hC 0) ho0 (fun r A1 h => ⟨tyI (hT r A1 h).1, (hT r A1 h).2.1⟩) hE) rfl rfl (Nat.le_of_ble_eq_true rfl) ⟨Nat.le_of_ble_eq_true rfl, Nat.le_of_ble_eq_true rfl⟩ ⟨Nat.le_trans (Nat.add_le_add_left (show rmL_oldestOpen.cells ≤ 3 by decide) _) hcap.1, Nat.le_trans (Nat.add_le_add_left (show rmL_oldestOpen.slots ≤ 18 by decide) _) hcap.2⟩ (fun v1 A1 z1 q1 => ?_)
  have hcp : cells + rmL_oldestOpen.cells ≤ room_1.cells ∧ slots + rmL_oldestOpen.slots ≤ room_1.slots := ⟨Nat.le_trans (Nat.add_le_add_left (show rmL_oldestOpen.cells ≤ 3 by decide) _) hcap.1, Nat.le_trans (Nat.add_le_add_left (show rmL_oldestOpen.slots ≤ 18 by decide) _) hcap.2⟩
  refine g_z0 ?_
  rcases q1 with ⟨r9, A2, g, hQ, rfl, hg, rfl⟩ | ⟨E, hx, hm, rfl⟩
  · obtain ⟨x9, rfl⟩ := tyI (hT r9 A2 hQ).1
    obtain ⟨⟨f3, hf3⟩, hMd⟩ := hA _ A2 _ hQ (Or.inl ⟨rfl, g, rfl⟩)
    refine g_istore X rfl (by decide) ?_
    refine g_aload_n X rfl rfl ?_
    refine g_mV X rfl lcX8_oldestOpen lmW_231 lsX8_oldestOpen hMd (ci := 8) hf3 rfl rfl rfl (Nat.le_of_ble_eq_true rfl) ⟨⟨Nat.le_of_ble_eq_true rfl, Nat.le_of_ble_eq_true rfl⟩, rfl, rfl⟩ hcp (fun v2 A3 q2 => ?_)
    obtain ⟨rfl, hS, ho3⟩ := q2
    obtain ⟨W3, f4, mb3, rd3, r3, sv3, hy3, hJ, hw⟩ := id hS
    refine g_istore X rfl (by decide) ?_
    refine g_aload_n X rfl rfl ?_
    refine g_rV X rfl lcX8_thrown lmW_152 lsX8_thrown (cr_X8_thrown l D cy B od hJ.2.1.1) (ci := 8) hJ.2.1.1 rfl rfl rfl (Nat.le_of_ble_eq_true rfl) ⟨⟨Nat.le_of_ble_eq_true rfl, Nat.le_of_ble_eq_true rfl⟩, rfl, rfl⟩ hcp ?_
    rw [hw]
    refine g_iload X rfl rfl ?_
    refine g_icmp_eq X rfl (fun _ => ?_) (fun q => absurd rfl q)
    refine g_iload X rfl rfl ?_
    refine g_if_ne X rfl (fun q => absurd nI_0 q) (fun _ => ?_)
    refine g_aload_n X rfl rfl ?_
    refine g_iconst X rfl (v := nI 0) (by decide) ?_
    refine g_laldN X rfl ho3 (by decide) (by decide) ?_
    refine g_iload X rfl rfl ?_
    refine g_i2l X rfl ?_
    refine g_l_eq X rfl rfl (fun _ => ?_) (fun q => absurd hg q)
    refine g_goto X rfl ?_
    refine g_wid (k := cells + 3) (n := slots + 18) (Nat.add_le_add_left (Nat.le_of_ble_eq_true rfl) _) (Nat.add_le_add_left (Nat.le_of_ble_eq_true rfl) _) ?_
    exact G.lvw (lvw6 (fun j hj => match j, hj with | 0, _ => rfl | 1, _ => rfl | 2, _ => rfl | 3, _ => rfl | 4, _ => rfl | 5, _ => rfl | j + 6, h => absurd h (by omega))) (kk _ ⟨_, hS⟩)
  · obtain ⟨⟨f3, hf3⟩, hMd⟩ := hB E A1 hx
    refine g_istore X rfl (by decide) ?_
    refine g_aload_n X rfl rfl ?_
    refine g_mV X rfl lcX8_oldestOpen lmW_231 lsX8_oldestOpen hMd (ci := 8) hf3 rfl rfl rfl (Nat.le_of_ble_eq_true rfl) ⟨⟨Nat.le_of_ble_eq_true rfl, Nat.le_of_ble_eq_true rfl⟩, rfl, rfl⟩ hcp (fun v2 A3 q2 => ?_)
    obtain ⟨⟨d9, hd9, rfl⟩, hS⟩ := q2
    obtain ⟨x9, rfl⟩ := tyI hd9
    obtain ⟨W3, f4, mb3, rd3, r3, sv3, hy3, hJ, hw⟩ := id hS
    refine g_istore X rfl (by decide) ?_
    refine g_aload_n X rfl rfl ?_
    refine g_rV X rfl lcX8_thrown lmW_152 lsX8_thrown (cr_X8_thrown l D cy B od hJ.2.1.1) (ci := 8) hJ.2.1.1 rfl rfl rfl (Nat.le_of_ble_eq_true rfl) ⟨⟨Nat.le_of_ble_eq_true rfl, Nat.le_of_ble_eq_true rfl⟩, rfl, rfl⟩ hcp ?_
    rw [hw]
    refine g_iload X rfl rfl ?_
    refine g_icmp_eq X rfl (fun _ => ?_) (fun q => absurd rfl q)
    refine g_iload X rfl rfl ?_
    refine g_if_ne X rfl (fun _ => ?_) (fun q => absurd q (cX_n0 (by decide)))
    refine g_goto X rfl ?_
    refine g_wid (k := cells + 3) (n := slots + 18) (Nat.add_le_add_left (Nat.le_of_ble_eq_true rfl) _) (Nat.add_le_add_left (Nat.le_of_ble_eq_true rfl) _) ?_
    exact G.lvw (lvw6 (fun j hj => match j, hj with | 0, _ => rfl | 1, _ => rfl | 2, _ => rfl | 3, _ => rfl | 4, _ => rfl | 5, _ => rfl | j + 6, h => absurd h (by omega))) (kk _ ⟨_, hS⟩)
