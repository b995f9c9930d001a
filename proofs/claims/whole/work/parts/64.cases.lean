/-! 64: the law's cases -/
def tC_24 : List PT := [(1648, .aload_n 1, 1, 1, 0), (1649, .aload_n 0, 1, 2, 0), (1650, .iload 5, 2, 3, 0), (1652, .iconst 1, 1, 4, 0), (1653, .iadd, 1, 5, 0), (1654, .iaload, 1, 6, 0), (1655, .aload_n 0, 1, 7, 0), (1656, .iload 5, 2, 8, 0), (1658, .iconst 2, 1, 9, 0), (1659, .iadd, 1, 10, 0), (1660, .iaload, 1, 11, 0), (1661, .aload_n 3, 1, 12, 0), (1662, .invokestatic 232, 3, 13, 0), (1665, .istore 6, 2, 14, 0), (1667, .aload_n 2, 1, 15, 0), (1668, .aload_n 0, 1, 16, 0), (1669, .iload 5, 2, 17, 0), (1671, .iconst 1, 1, 18, 0), (1672, .iadd, 1, 19, 0), (1673, .iaload, 1, 20, 0), (1674, .aload_n 0, 1, 21, 0), (1675, .iload 5, 2, 22, 0), (1677, .iconst 2, 1, 23, 0), (1678, .iadd, 1, 24, 0), (1679, .iaload, 1, 25, 0), (1680, .invokevirtual 234, 3, 26, 0), (1683, .istore 7, 2, 27, 0), (1685, .aload_n 2, 1, 28, 0), (1686, .invokevirtual 152, 3, 29, 0), (1689, .iload 6, 2, 30, 0), (1691, .if_icmp .eq 5, 3, 31, 33), (1694, .iconst 0, 1, 32, 0), (1695, .ireturn, 1, 33, 0), (1696, .iload 6, 2, 34, 0), (1698, .ifCond .ne 15, 3, 35, 44), (1701, .aload_n 3, 1, 36, 0), (1702, .iconst 0, 1, 37, 0), (1703, .laload, 1, 38, 0), (1704, .iload 7, 2, 39, 0), (1706, .i2l, 1, 40, 0), (1707, .lcmp, 1, 41, 0), (1708, .ifCond .eq 5, 3, 42, 44), (1711, .iconst 0, 1, 43, 0), (1712, .ireturn, 1, 44, 0), (1713, .goto 1109, 3, 0, 45), (2822, .iinc 5 6, 3, 46, 0), (2825, .goto (-2797), 3, 59, 47), (28, .iload 5, 2, 48, 0), (30, .aload_n 0, 1, 49, 0), (31, .arraylength, 1, 50, 0), (32, .bipush 6, 2, 51, 0), (34, .isub, 1, 52, 0), (35, .if_icmp .gt 2793, 3, 53, 59), (38, .aload_n 0, 1, 54, 0), (39, .iload 5, 2, 55, 0), (41, .iaload, 1, 56, 0), (42, .bipush 63, 2, 57, 0), (44, .iand, 1, 58, 0), (45, .tableswitch 2777 0 47 #[207, 311, 367, 380, 424, 528, 596, 652, 708, 788, 868, 948, 992, 1048, 1092, 1105, 1118, 1162, 1218, 1286, 1342, 1421, 1504, 1559, 1603, 1671, 1755, 1823, 1891, 1959, 2015, 2071, 2126, 2181, 2207, 2232, 2246, 2302, 2358, 2414, 2457, 2471, 2536, 2615, 2671, 2726, 2739, 2764], 207, 0, 0), (2828, .iconst 1, 1, 60, 0), (2829, .ireturn, 1, 0, 0)]
set_option maxRecDepth 100000 in
theorem okC_24 : OkTab cL_law tC_24 := ⟨by decide +kernel, by decide +kernel⟩
theorem lmW_232 : LkM RL 232 yL_room := lw_good_in (n := 1138) (by decide +kernel) rfl
theorem lmW_234 : LkM RL 234 yX8_room := lw_good_in (n := 1719) (by decide +kernel) rfl
set_option maxRecDepth 100000 in
set_option maxHeartbeats 1000000 in
theorem law_24 (l : Launch) (D : va_G) (cy : Nat → ClassId) (B : Nat) (od : Nat → Option Nat) {p : Program} {e : Env} {s : State} {m : MethodId} {args : Array Value} {below : List Frame} {meth : Method} {c : Code} {F : State → Prop} {cells slots : Nat} {A : AH} {L i : Nat} {xs : Nat → Int32} {W : LW} {f : MF} {mb rd r sv hy : Nat → Int32} (hl9 : l.stackTraces = false) (X : Cx p s m args meth c D cy B od cL_law 9 tC_24 RL (some .boolean)) (hs : SCR B od L xs s) (hL : L ≤ 3072) (hi : i + 5 < L) (hI : INV cy A W f mb rd r sv hy) (hcap : cells + 3 ≤ 601024 ∧ slots + 18 ≤ 7293034) (kk : ∀ A9, (∃ w, SOK cy A9 w) → G p l e room_1 s m args below meth c D B od 9 tC_24 F (cells + 3) (slots + 18) A9 0 45 (lv0 i) []) : G p l e room_1 s m args below meth c D B od 9 tC_24 F cells slots A 0 0 (lv0 i) [] := by
  obtain ⟨fs0, ho0⟩ := hI.o0
  unfold lv0
  obtain ⟨Qr, Qx, hC, hT, hE, hA, hB⟩ := pr_room l D cy B od hl9 hI (x0 := xs (i + 1)) (x1 := xs (i + 2))
  refine g_aload_n X rfl rfl ?_
  refine g_aload_n X rfl rfl ?_
  refine g_iload X rfl rfl ?_
  refine g_iconst X rfl (v := nI 1) (by decide) ?_
  refine g_iadN X rfl ?_
  refine g_sld X hs rfl (by omega) (by omega) ?_
  refine g_aload_n X rfl rfl ?_
  refine g_iload X rfl rfl ?_
  refine g_iconst X rfl (v := nI 2) (by decide) ?_
  refine g_iadN X rfl ?_
  refine g_sld X hs rfl (by omega) (by omega) ?_
  refine g_aload_n X rfl rfl ?_
  refine g_hp X rfl lkL_room lmW_232 stL_room (hp_L_room l D cy B od (hC 0) ho0 (fun r A1 h => ⟨tyI (hT r A1 h).1, (hT r A1 h).2.1⟩) hE) rfl rfl (Nat.le_of_ble_eq_true rfl) ⟨Nat.le_of_ble_eq_true rfl, Nat.le_of_ble_eq_true rfl⟩ ⟨Nat.le_trans (Nat.add_le_add_left (show rmL_room.cells ≤ 3 by decide) _) hcap.1, Nat.le_trans (Nat.add_le_add_left (show rmL_room.slots ≤ 18 by decide) _) hcap.2⟩ (fun v1 A1 z1 q1 => ?_)
  have hcp : cells + rmL_room.cells ≤ room_1.cells ∧ slots + rmL_room.slots ≤ room_1.slots := ⟨Nat.le_trans (Nat.add_le_add_left (show rmL_room.cells ≤ 3 by decide) _) hcap.1, Nat.le_trans (Nat.add_le_add_left (show rmL_room.slots ≤ 18 by decide) _) hcap.2⟩
  refine g_z0 ?_
  rcases q1 with ⟨r9, A2, g, hQ, rfl, hg, rfl⟩ | ⟨E, hx, hm, rfl⟩
  · obtain ⟨x9, rfl⟩ := tyI (hT r9 A2 hQ).1
    obtain ⟨⟨f3, hf3⟩, hMd⟩ := hA _ A2 _ hQ (Or.inl ⟨rfl, g, rfl⟩)
    refine g_istore X rfl (by decide) ?_
    refine g_aload_n X rfl rfl ?_
    refine g_aload_n X rfl rfl ?_
    refine g_iload X rfl rfl ?_
    refine g_iconst X rfl (v := nI 1) (by decide) ?_
    refine g_iadN X rfl ?_
    refine g_sld X hs rfl (by omega) (by omega) ?_
    refine g_aload_n X rfl rfl ?_
    refine g_iload X rfl rfl ?_
    refine g_iconst X rfl (v := nI 2) (by decide) ?_
    refine g_iadN X rfl ?_
    refine g_sld X hs rfl (by omega) (by omega) ?_
    refine g_mV X rfl lcX8_room lmW_234 lsX8_room hMd (ci := 8) hf3 rfl rfl rfl (Nat.le_of_ble_eq_true rfl) ⟨⟨Nat.le_of_ble_eq_true rfl, Nat.le_of_ble_eq_true rfl⟩, rfl, rfl⟩ hcp (fun v2 A3 q2 => ?_)
    obtain ⟨rfl, hS, ho3⟩ := q2
    obtain ⟨W3, f4, mb3, rd3, r3, sv3, hy3, hJ, hw⟩ := id hS
    refine g_istore X rfl (by decide) ?_
    refine g_aload_n X rfl rfl ?_
    refine g_rV X rfl lcX8_thrown lmW_152 lsX8_thrown (cr_X8_thrown l D cy B od hJ.2.1.1) (ci := 8) hJ.2.1.1 rfl rfl rfl (Nat.le_of_ble_eq_true rfl) ⟨⟨Nat.le_of_ble_eq_true rfl, Nat.le_of_ble_eq_true rfl⟩, rfl, rfl⟩ hcp ?_
    rw [hw]
    refine g_iload X rfl rfl ?_
    refine g_icmp_eq X rfl (fun _ => ?_) (fun q => absurd rfl q)
    refine g_iload X rfl rfl ?_
    refine g_if_ne X rfl (fun q => absurd nI_0 q) (fun _ => ?_)
    refine g_aload_n X rfl rfl ?_
    refine g_iconst X rfl (v := nI 0) (by decide) ?_
    refine g_laldN X rfl ho3 (by decide) (by decide) ?_
    refine g_iload X rfl rfl ?_
    refine g_i2l X rfl ?_
    refine g_l_eq X rfl rfl (fun _ => ?_) (fun q => absurd hg q)
    refine g_goto X rfl ?_
    refine g_wid (k := cells + 3) (n := slots + 18) (Nat.add_le_add_left (Nat.le_of_ble_eq_true rfl) _) (Nat.add_le_add_left (Nat.le_of_ble_eq_true rfl) _) ?_
    exact G.lvw (lvw6 (fun j hj => match j, hj with | 0, _ => rfl | 1, _ => rfl | 2, _ => rfl | 3, _ => rfl | 4, _ => rfl | 5, _ => rfl | j + 6, h => absurd h (by omega))) (kk _ ⟨_, hS⟩)
  · obtain ⟨⟨f3, hf3⟩, hMd⟩ := hB E A1 hx
    refine g_istore X rfl (by decide) ?_
    refine g_aload_n X rfl rfl ?_
    refine g_aload_n X rfl rfl ?_
    refine g_iload X rfl rfl ?_
    refine g_iconst X rfl (v := nI 1) (by decide) ?_
    refine g_iadN X rfl ?_
    refine g_sld X hs rfl (by omega) (by omega) ?_
    refine g_aload_n X rfl rfl ?_
    refine g_iload X rfl rfl ?_
    refine g_iconst X rfl (v := nI 2) (by decide) ?_
    refine g_iadN X rfl ?_
    refine g_sld X hs rfl (by omega) (by omega) ?_
    refine g_mV X rfl lcX8_room lmW_234 lsX8_room hMd (ci := 8) hf3 rfl rfl rfl (Nat.le_of_ble_eq_true rfl) ⟨⟨Nat.le_of_ble_eq_true rfl, Nat.le_of_ble_eq_true rfl⟩, rfl, rfl⟩ hcp (fun v2 A3 q2 => ?_)
    obtain ⟨⟨d9, hd9, rfl⟩, hS⟩ := q2
    obtain ⟨x9, rfl⟩ := tyI hd9
    obtain ⟨W3, f4, mb3, rd3, r3, sv3, hy3, hJ, hw⟩ := id hS
    refine g_istore X rfl (by decide) ?_
    refine g_aload_n X rfl rfl ?_
    refine g_rV X rfl lcX8_thrown lmW_152 lsX8_thrown (cr_X8_thrown l D cy B od hJ.2.1.1) (ci := 8) hJ.2.1.1 rfl rfl rfl (Nat.le_of_ble_eq_true rfl) ⟨⟨Nat.le_of_ble_eq_true rfl, Nat.le_of_ble_eq_true rfl⟩, rfl, rfl⟩ hcp ?_
    rw [hw]
    refine g_iload X rfl rfl ?_
    refine g_icmp_eq X rfl (fun _ => ?_) (fun q => absurd rfl q)
    refine g_iload X rfl rfl ?_
    refine g_if_ne X rfl (fun _ => ?_) (fun q => absurd q (cX_n0 (by decide)))
    refine g_goto X rfl ?_
    refine g_wid (k := cells + 3) (n := slots + 18) (Nat.add_le_add_left (Nat.le_of_ble_eq_true rfl) _) (Nat.add_le_add_left (Nat.le_of_ble_eq_true rfl) _) ?_
    exact G.lvw (lvw6 (fun j hj => match j, hj with | 0, _ => rfl | 1, _ => rfl | 2, _ => rfl | 3, _ => rfl | 4, _ => rfl | 5, _ => rfl | j + 6, h => absurd h (by omega))) (kk _ ⟨_, hS⟩)
def tC_25 : List PT := [(1716, .aload_n 1, 1, 1, 0), (1717, .aload_n 0, 1, 2, 0), (1718, .iload 5, 2, 3, 0), (1720, .iconst 1, 1, 4, 0), (1721, .iadd, 1, 5, 0), (1722, .iaload, 1, 6, 0), (1723, .aload_n 0, 1, 7, 0), (1724, .iload 5, 2, 8, 0), (1726, .iconst 2, 1, 9, 0), (1727, .iadd, 1, 10, 0), (1728, .iaload, 1, 11, 0), (1729, .ifCond .eq 7, 3, 12, 14), (1732, .iconst 1, 1, 13, 0), (1733, .goto 4, 3, 14, 15), (1736, .iconst 0, 1, 15, 0), (1737, .aload_n 3, 1, 16, 0), (1738, .invokestatic 235, 3, 17, 0), (1741, .istore 6, 2, 18, 0), (1743, .aload_n 2, 1, 19, 0), (1744, .aload_n 0, 1, 20, 0), (1745, .iload 5, 2, 21, 0), (1747, .iconst 1, 1, 22, 0), (1748, .iadd, 1, 23, 0), (1749, .iaload, 1, 24, 0), (1750, .aload_n 0, 1, 25, 0), (1751, .iload 5, 2, 26, 0), (1753, .iconst 2, 1, 27, 0), (1754, .iadd, 1, 28, 0), (1755, .iaload, 1, 29, 0), (1756, .ifCond .eq 7, 3, 30, 32), (1759, .iconst 1, 1, 31, 0), (1760, .goto 4, 3, 32, 33), (1763, .iconst 0, 1, 33, 0), (1764, .invokevirtual 237, 3, 34, 0), (1767, .istore 7, 2, 35, 0), (1769, .aload_n 2, 1, 36, 0), (1770, .invokevirtual 152, 3, 37, 0), (1773, .iload 6, 2, 38, 0), (1775, .if_icmp .eq 5, 3, 39, 41), (1778, .iconst 0, 1, 40, 0), (1779, .ireturn, 1, 41, 0), (1780, .iload 6, 2, 42, 0), (1782, .ifCond .ne 15, 3, 43, 52), (1785, .aload_n 3, 1, 44, 0), (1786, .iconst 0, 1, 45, 0), (1787, .laload, 1, 46, 0), (1788, .iload 7, 2, 47, 0), (1790, .i2l, 1, 48, 0), (1791, .lcmp, 1, 49, 0), (1792, .ifCond .eq 5, 3, 50, 52), (1795, .iconst 0, 1, 51, 0), (1796, .ireturn, 1, 52, 0), (1797, .goto 1025, 3, 0, 53), (2822, .iinc 5 6, 3, 54, 0), (2825, .goto (-2797), 3, 67, 55), (28, .iload 5, 2, 56, 0), (30, .aload_n 0, 1, 57, 0), (31, .arraylength, 1, 58, 0), (32, .bipush 6, 2, 59, 0), (34, .isub, 1, 60, 0), (35, .if_icmp .gt 2793, 3, 61, 67), (38, .aload_n 0, 1, 62, 0), (39, .iload 5, 2, 63, 0), (41, .iaload, 1, 64, 0), (42, .bipush 63, 2, 65, 0), (44, .iand, 1, 66, 0), (45, .tableswitch 2777 0 47 #[207, 311, 367, 380, 424, 528, 596, 652, 708, 788, 868, 948, 992, 1048, 1092, 1105, 1118, 1162, 1218, 1286, 1342, 1421, 1504, 1559, 1603, 1671, 1755, 1823, 1891, 1959, 2015, 2071, 2126, 2181, 2207, 2232, 2246, 2302, 2358, 2414, 2457, 2471, 2536, 2615, 2671, 2726, 2739, 2764], 207, 0, 0), (2828, .iconst 1, 1, 68, 0), (2829, .ireturn, 1, 0, 0)]
set_option maxRecDepth 100000 in
theorem okC_25 : OkTab cL_law tC_25 := ⟨by decide +kernel, by decide +kernel⟩
theorem lmW_235 : LkM RL 235 yL_share := lw_good_in (n := 1145) (by decide +kernel) rfl
theorem lmW_237 : LkM RL 237 yX8_share := lw_good_in (n := 1724) (by decide +kernel) rfl
set_option maxRecDepth 100000 in
set_option maxHeartbeats 1000000 in
theorem law_25 (l : Launch) (D : va_G) (cy : Nat → ClassId) (B : Nat) (od : Nat → Option Nat) {p : Program} {e : Env} {s : State} {m : MethodId} {args : Array Value} {below : List Frame} {meth : Method} {c : Code} {F : State → Prop} {cells slots : Nat} {A : AH} {L i : Nat} {xs : Nat → Int32} {W : LW} {f : MF} {mb rd r sv hy : Nat → Int32} (hl9 : l.stackTraces = false) (X : Cx p s m args meth c D cy B od cL_law 9 tC_25 RL (some .boolean)) (hs : SCR B od L xs s) (hL : L ≤ 3072) (hi : i + 5 < L) (hI : INV cy A W f mb rd r sv hy) (hcap : cells + 3 ≤ 601024 ∧ slots + 18 ≤ 7293034) (kk : ∀ A9, (∃ w, SOK cy A9 w) → G p l e room_1 s m args below meth c D B od 9 tC_25 F (cells + 3) (slots + 18) A9 0 53 (lv0 i) []) : G p l e room_1 s m args below meth c D B od 9 tC_25 F cells slots A 0 0 (lv0 i) [] := by
  obtain ⟨fs0, ho0⟩ := hI.o0
  unfold lv0
  by_cases hb : xs (i + 2) = 0
  · obtain ⟨Qr, Qx, hC, hT, hE, hA, hB⟩ := pr_share l D cy B od hl9 hI (x0 := xs (i + 1)) (x1 := nI 0)
    refine g_aload_n X rfl rfl ?_
    refine g_aload_n X rfl rfl ?_
    refine g_iload X rfl rfl ?_
    refine g_iconst X rfl (v := nI 1) (by decide) ?_
    refine g_iadN X rfl ?_
    refine g_sld X hs rfl (by omega) (by omega) ?_
    refine g_aload_n X rfl rfl ?_
    refine g_iload X rfl rfl ?_
    refine g_iconst X rfl (v := nI 2) (by decide) ?_
    refine g_iadN X rfl ?_
    refine g_sld X hs rfl (by omega) (by omega) ?_
    refine g_if_eq X rfl (fun _ => ?_) (fun q => absurd hb q)
    refine g_iconst X rfl (v := nI 0) (by decide) ?_
    refine g_aload_n X rfl rfl ?_
    refine g_hp X rfl lkL_share lmW_235 stL_share (hp_L_share l D cy B od (hC 0) ho0 (fun r A1 h => ⟨tyI (hT r A1 h).1, (hT r A1 h).2.1⟩) hE) rfl rfl (Nat.le_of_ble_eq_true rfl) ⟨Nat.le_of_ble_eq_true rfl, Nat.le_of_ble_eq_true rfl⟩ ⟨Nat.le_trans (Nat.add_le_add_left (show rmL_share.cells ≤ 3 by decide) _) hcap.1, Nat.le_trans (Nat.add_le_add_left (show rmL_share.slots ≤ 18 by decide) _) hcap.2⟩ (fun v1 A1 z1 q1 => ?_)
    have hcp : cells + rmL_share.cells ≤ room_1.cells ∧ slots + rmL_share.slots ≤ room_1.slots := ⟨Nat.le_trans (Nat.add_le_add_left (show rmL_share.cells ≤ 3 by decide) _) hcap.1, Nat.le_trans (Nat.add_le_add_left (show rmL_share.slots ≤ 18 by decide) _) hcap.2⟩
    refine g_z0 ?_
    rcases q1 with ⟨r9, A2, g, hQ, rfl, hg, rfl⟩ | ⟨E, hx, hm, rfl⟩
    · obtain ⟨x9, rfl⟩ := tyI (hT r9 A2 hQ).1
      obtain ⟨⟨f3, hf3⟩, hMd⟩ := hA _ A2 _ hQ (Or.inl ⟨rfl, g, rfl⟩)
      refine g_istore X rfl (by decide) ?_
      refine g_aload_n X rfl rfl ?_
      refine g_aload_n X rfl rfl ?_
      refine g_iload X rfl rfl ?_
      refine g_iconst X rfl (v := nI 1) (by decide) ?_
      refine g_iadN X rfl ?_
      refine g_sld X hs rfl (by omega) (by omega) ?_
      refine g_aload_n X rfl rfl ?_
      refine g_iload X rfl rfl ?_
      refine g_iconst X rfl (v := nI 2) (by decide) ?_
      refine g_iadN X rfl ?_
      refine g_sld X hs rfl (by omega) (by omega) ?_
      refine g_if_eq X rfl (fun _ => ?_) (fun q => absurd hb q)
      refine g_iconst X rfl (v := nI 0) (by decide) ?_
      refine g_mV X rfl lcX8_share lmW_237 lsX8_share hMd (ci := 8) hf3 rfl rfl rfl (Nat.le_of_ble_eq_true rfl) ⟨⟨Nat.le_of_ble_eq_true rfl, Nat.le_of_ble_eq_true rfl⟩, rfl, rfl⟩ hcp (fun v2 A3 q2 => ?_)
      obtain ⟨rfl, hS, ho3⟩ := q2
      obtain ⟨W3, f4, mb3, rd3, r3, sv3, hy3, hJ, hw⟩ := id hS
      refine g_istore X rfl (by decide) ?_
      refine g_aload_n X rfl rfl ?_
      refine g_rV X rfl lcX8_thrown lmW_152 lsX8_thrown (cr_X8_thrown l D cy B od hJ.2.1.1) (ci := 8) hJ.2.1.1 rfl rfl rfl (Nat.le_of_ble_eq_true rfl) ⟨⟨Nat.le_of_ble_eq_true rfl, Nat.le_of_ble_eq_true rfl⟩, rfl, rfl⟩ hcp ?_
      rw [hw]
      refine g_iload X rfl rfl ?_
      refine g_icmp_eq X rfl (fun _ => ?_) (fun q => absurd rfl q)
      refine g_iload X rfl rfl ?_
      refine g_if_ne X rfl (fun q => absurd nI_0 q) (fun _ => ?_)
      refine g_aload_n X rfl rfl ?_
      refine g_iconst X rfl (v := nI 0) (by decide) ?_
      refine g_laldN X rfl ho3 (by decide) (by decide) ?_
      refine g_iload X rfl rfl ?_
      refine g_i2l X rfl ?_
      refine g_l_eq X rfl rfl (fun _ => ?_) (fun q => absurd hg q)
      refine g_goto X rfl ?_
      refine g_wid (k := cells + 3) (n := slots + 18) (Nat.add_le_add_left (Nat.le_of_ble_eq_true rfl) _) (Nat.add_le_add_left (Nat.le_of_ble_eq_true rfl) _) ?_
      exact G.lvw (lvw6 (fun j hj => match j, hj with | 0, _ => rfl | 1, _ => rfl | 2, _ => rfl | 3, _ => rfl | 4, _ => rfl | 5, _ => rfl | j + 6, h => absurd h (by omega))) (kk _ ⟨_, hS⟩)
    · obtain ⟨⟨f3, hf3⟩, hMd⟩ := hB E A1 hx
      refine g_istore X rfl (by decide) ?_
      refine g_aload_n X rfl rfl ?_
      refine g_aload_n X rfl rfl ?_
      refine g_iload X rfl rfl ?_
      refine g_iconst X rfl (v := nI 1) (by decide) ?_
      refine g_iadN X rfl ?_
      refine g_sld X hs rfl (by omega) (by omega) ?_
      refine g_aload_n X rfl rfl ?_
      refine g_iload X rfl rfl ?_
      refine g_iconst X rfl (v := nI 2) (by decide) ?_
      refine g_iadN X rfl ?_
      refine g_sld X hs rfl (by omega) (by omega) ?_
      refine g_if_eq X rfl (fun _ => ?_) (fun q => absurd hb q)
      refine g_iconst X rfl (v := nI 0) (by decide) ?_
      refine g_mV X rfl lcX8_share lmW_237 lsX8_share hMd (ci := 8) hf3 rfl rfl rfl (Nat.le_of_ble_eq_true rfl) ⟨⟨Nat.le_of_ble_eq_true rfl, Nat.le_of_ble_eq_true rfl⟩, rfl, rfl⟩ hcp (fun v2 A3 q2 => ?_)
      obtain ⟨⟨d9, hd9, rfl⟩, hS⟩ := q2
      obtain ⟨x9, rfl⟩ := tyI hd9
      obtain ⟨W3, f4, mb3, rd3, r3, sv3, hy3, hJ, hw⟩ := id hS
      refine g_istore X rfl (by decide) ?_
      refine g_aload_n X rfl rfl ?_
      refine g_rV X rfl lcX8_thrown lmW_152 lsX8_thrown (cr_X8_thrown l D cy B od hJ.2.1.1) (ci := 8) hJ.2.1.1 rfl rfl rfl (Nat.le_of_ble_eq_true rfl) ⟨⟨Nat.le_of_ble_eq_true rfl, Nat.le_of_ble_eq_true rfl⟩, rfl, rfl⟩ hcp ?_
      rw [hw]
      refine g_iload X rfl rfl ?_
      refine g_icmp_eq X rfl (fun _ => ?_) (fun q => absurd rfl q)
      refine g_iload X rfl rfl ?_
      refine g_if_ne X rfl (fun _ => ?_) (fun q => absurd q (cX_n0 (by decide)))
      refine g_goto X rfl ?_
      refine g_wid (k := cells + 3) (n := slots + 18) (Nat.add_le_add_left (Nat.le_of_ble_eq_true rfl) _) (Nat.add_le_add_left (Nat.le_of_ble_eq_true rfl) _) ?_
      exact G.lvw (lvw6 (fun j hj => match j, hj with | 0, _ => rfl | 1, _ => rfl | 2, _ => rfl | 3, _ => rfl | 4, _ => rfl | 5, _ => rfl | j + 6, h => absurd h (by omega))) (kk _ ⟨_, hS⟩)
  · obtain ⟨Qr, Qx, hC, hT, hE, hA, hB⟩ := pr_share l D cy B od hl9 hI (x0 := xs (i + 1)) (x1 := nI 1)
    refine g_aload_n X rfl rfl ?_
    refine g_aload_n X rfl rfl ?_
    refine g_iload X rfl rfl ?_
    refine g_iconst X rfl (v := nI 1) (by decide) ?_
    refine g_iadN X rfl ?_
    refine g_sld X hs rfl (by omega) (by omega) ?_
    refine g_aload_n X rfl rfl ?_
    refine g_iload X rfl rfl ?_
    refine g_iconst X rfl (v := nI 2) (by decide) ?_
    refine g_iadN X rfl ?_
    refine g_sld X hs rfl (by omega) (by omega) ?_
    refine g_if_eq X rfl (fun q => absurd q hb) (fun _ => ?_)
    refine g_iconst X rfl (v := nI 1) (by decide) ?_
    refine g_goto X rfl ?_
    refine g_aload_n X rfl rfl ?_
    refine g_hp X rfl lkL_share lmW_235 stL_share (hp_L_share l D cy B od (hC 0) ho0 (fun r A1 h => ⟨tyI (hT r A1 h).1, (hT r A1 h).2.1⟩) hE) rfl rfl (Nat.le_of_ble_eq_true rfl) ⟨Nat.le_of_ble_eq_true rfl, Nat.le_of_ble_eq_true rfl⟩ ⟨Nat.le_trans (Nat.add_le_add_left (show rmL_share.cells ≤ 3 by decide) _) hcap.1, Nat.le_trans (Nat.add_le_add_left (show rmL_share.slots ≤ 18 by decide) _) hcap.2⟩ (fun v1 A1 z1 q1 => ?_)
    have hcp : cells + rmL_share.cells ≤ room_1.cells ∧ slots + rmL_share.slots ≤ room_1.slots := ⟨Nat.le_trans (Nat.add_le_add_left (show rmL_share.cells ≤ 3 by decide) _) hcap.1, Nat.le_trans (Nat.add_le_add_left (show rmL_share.slots ≤ 18 by decide) _) hcap.2⟩
    refine g_z0 ?_
    rcases q1 with ⟨r9, A2, g, hQ, rfl, hg, rfl⟩ | ⟨E, hx, hm, rfl⟩
    · obtain ⟨x9, rfl⟩ := tyI (hT r9 A2 hQ).1
      obtain ⟨⟨f3, hf3⟩, hMd⟩ := hA _ A2 _ hQ (Or.inl ⟨rfl, g, rfl⟩)
      refine g_istore X rfl (by decide) ?_
      refine g_aload_n X rfl rfl ?_
      refine g_aload_n X rfl rfl ?_
      refine g_iload X rfl rfl ?_
      refine g_iconst X rfl (v := nI 1) (by decide) ?_
      refine g_iadN X rfl ?_
      refine g_sld X hs rfl (by omega) (by omega) ?_
      refine g_aload_n X rfl rfl ?_
      refine g_iload X rfl rfl ?_
      refine g_iconst X rfl (v := nI 2) (by decide) ?_
      refine g_iadN X rfl ?_
      refine g_sld X hs rfl (by omega) (by omega) ?_
      refine g_if_eq X rfl (fun q => absurd q hb) (fun _ => ?_)
      refine g_iconst X rfl (v := nI 1) (by decide) ?_
      refine g_goto X rfl ?_
      refine g_mV X rfl lcX8_share lmW_237 lsX8_share hMd (ci := 8) hf3 rfl rfl rfl (Nat.le_of_ble_eq_true rfl) ⟨⟨Nat.le_of_ble_eq_true rfl, Nat.le_of_ble_eq_true rfl⟩, rfl, rfl⟩ hcp (fun v2 A3 q2 => ?_)
      obtain ⟨rfl, hS, ho3⟩ := q2
      obtain ⟨W3, f4, mb3, rd3, r3, sv3, hy3, hJ, hw⟩ := id hS
      refine g_istore X rfl (by decide) ?_
      refine g_aload_n X rfl rfl ?_
      refine g_rV X rfl lcX8_thrown lmW_152 lsX8_thrown (cr_X8_thrown l D cy B od hJ.2.1.1) (ci := 8) hJ.2.1.1 rfl rfl rfl (Nat.le_of_ble_eq_true rfl) ⟨⟨Nat.le_of_ble_eq_true rfl, Nat.le_of_ble_eq_true rfl⟩, rfl, rfl⟩ hcp ?_
      rw [hw]
      refine g_iload X rfl rfl ?_
      refine g_icmp_eq X rfl (fun _ => ?_) (fun q => absurd rfl q)
      refine g_iload X rfl rfl ?_
      refine g_if_ne X rfl (fun q => absurd nI_0 q) (fun _ => ?_)
      refine g_aload_n X rfl rfl ?_
      refine g_iconst X rfl (v := nI 0) (by decide) ?_
      refine g_laldN X rfl ho3 (by decide) (by decide) ?_
      refine g_iload X rfl rfl ?_
      refine g_i2l X rfl ?_
      refine g_l_eq X rfl rfl (fun _ => ?_) (fun q => absurd hg q)
      refine g_goto X rfl ?_
      refine g_wid (k := cells + 3) (n := slots + 18) (Nat.add_le_add_left (Nat.le_of_ble_eq_true rfl) _) (Nat.add_le_add_left (Nat.le_of_ble_eq_true rfl) _) ?_
      exact G.lvw (lvw6 (fun j hj => match j, hj with | 0, _ => rfl | 1, _ => rfl | 2, _ => rfl | 3, _ => rfl | 4, _ => rfl | 5, _ => rfl | j + 6, h => absurd h (by omega))) (kk _ ⟨_, hS⟩)
    · obtain ⟨⟨f3, hf3⟩, hMd⟩ := hB E A1 hx
      refine g_istore X rfl (by decide) ?_
      refine g_aload_n X rfl rfl ?_
      refine g_aload_n X rfl rfl ?_
      refine g_iload X rfl rfl ?_
      refine g_iconst X rfl (v := nI 1) (by decide) ?_
      refine g_iadN X rfl ?_
      refine g_sld X hs rfl (by omega) (by omega) ?_
      refine g_aload_n X rfl rfl ?_
      refine g_iload X rfl rfl ?_
      refine g_iconst X rfl (v := nI 2) (by decide) ?_
      refine g_iadN X rfl ?_
      refine g_sld X hs rfl (by omega) (by omega) ?_
      refine g_if_eq X rfl (fun q => absurd q hb) (fun _ => ?_)
      refine g_iconst X rfl (v := nI 1) (by decide) ?_
      refine g_goto X rfl ?_
      refine g_mV X rfl lcX8_share lmW_237 lsX8_share hMd (ci := 8) hf3 rfl rfl rfl (Nat.le_of_ble_eq_true rfl) ⟨⟨Nat.le_of_ble_eq_true rfl, Nat.le_of_ble_eq_true rfl⟩, rfl, rfl⟩ hcp (fun v2 A3 q2 => ?_)
      obtain ⟨⟨d9, hd9, rfl⟩, hS⟩ := q2
      obtain ⟨x9, rfl⟩ := tyI hd9
      obtain ⟨W3, f4, mb3, rd3, r3, sv3, hy3, hJ, hw⟩ := id hS
      refine g_istore X rfl (by decide) ?_
      refine g_aload_n X rfl rfl ?_
      refine g_rV X rfl lcX8_thrown lmW_152 lsX8_thrown (cr_X8_thrown l D cy B od hJ.2.1.1) (ci := 8) hJ.2.1.1 rfl rfl rfl (Nat.le_of_ble_eq_true rfl) ⟨⟨Nat.le_of_ble_eq_true rfl, Nat.le_of_ble_eq_true rfl⟩, rfl, rfl⟩ hcp ?_
      rw [hw]
      refine g_iload X rfl rfl ?_
      refine g_icmp_eq X rfl (fun _ => ?_) (fun q => absurd rfl q)
      refine g_iload X rfl rfl ?_
      refine g_if_ne X rfl (fun _ => ?_) (fun q => absurd q (cX_n0 (by decide)))
      refine g_goto X rfl ?_
      refine g_wid (k := cells + 3) (n := slots + 18) (Nat.add_le_add_left (Nat.le_of_ble_eq_true rfl) _) (Nat.add_le_add_left (Nat.le_of_ble_eq_true rfl) _) ?_
      exact G.lvw (lvw6 (fun j hj => match j, hj with | 0, _ => rfl | 1, _ => rfl | 2, _ => rfl | 3, _ => rfl | 4, _ => rfl | 5, _ => rfl | j + 6, h => absurd h (by omega))) (kk _ ⟨_, hS⟩)
def tC_26 : List PT := [(1800, .aload_n 1, 1, 1, 0), (1801, .aload_n 0, 1, 2, 0), (1802, .iload 5, 2, 3, 0), (1804, .iconst 1, 1, 4, 0), (1805, .iadd, 1, 5, 0), (1806, .iaload, 1, 6, 0), (1807, .aload_n 0, 1, 7, 0), (1808, .iload 5, 2, 8, 0), (1810, .iconst 2, 1, 9, 0), (1811, .iadd, 1, 10, 0), (1812, .iaload, 1, 11, 0), (1813, .aload_n 3, 1, 12, 0), (1814, .invokestatic 238, 3, 13, 0), (1817, .istore 6, 2, 14, 0), (1819, .aload_n 2, 1, 15, 0), (1820, .aload_n 0, 1, 16, 0), (1821, .iload 5, 2, 17, 0), (1823, .iconst 1, 1, 18, 0), (1824, .iadd, 1, 19, 0), (1825, .iaload, 1, 20, 0), (1826, .aload_n 0, 1, 21, 0), (1827, .iload 5, 2, 22, 0), (1829, .iconst 2, 1, 23, 0), (1830, .iadd, 1, 24, 0), (1831, .iaload, 1, 25, 0), (1832, .invokevirtual 240, 3, 26, 0), (1835, .istore 7, 2, 27, 0), (1837, .aload_n 2, 1, 28, 0), (1838, .invokevirtual 152, 3, 29, 0), (1841, .iload 6, 2, 30, 0), (1843, .if_icmp .eq 5, 3, 31, 33), (1846, .iconst 0, 1, 32, 0), (1847, .ireturn, 1, 33, 0), (1848, .iload 6, 2, 34, 0), (1850, .ifCond .ne 15, 3, 35, 44), (1853, .aload_n 3, 1, 36, 0), (1854, .iconst 0, 1, 37, 0), (1855, .laload, 1, 38, 0), (1856, .iload 7, 2, 39, 0), (1858, .i2l, 1, 40, 0), (1859, .lcmp, 1, 41, 0), (1860, .ifCond .eq 5, 3, 42, 44), (1863, .iconst 0, 1, 43, 0), (1864, .ireturn, 1, 44, 0), (1865, .goto 957, 3, 0, 45), (2822, .iinc 5 6, 3, 46, 0), (2825, .goto (-2797), 3, 59, 47), (28, .iload 5, 2, 48, 0), (30, .aload_n 0, 1, 49, 0), (31, .arraylength, 1, 50, 0), (32, .bipush 6, 2, 51, 0), (34, .isub, 1, 52, 0), (35, .if_icmp .gt 2793, 3, 53, 59), (38, .aload_n 0, 1, 54, 0), (39, .iload 5, 2, 55, 0), (41, .iaload, 1, 56, 0), (42, .bipush 63, 2, 57, 0), (44, .iand, 1, 58, 0), (45, .tableswitch 2777 0 47 #[207, 311, 367, 380, 424, 528, 596, 652, 708, 788, 868, 948, 992, 1048, 1092, 1105, 1118, 1162, 1218, 1286, 1342, 1421, 1504, 1559, 1603, 1671, 1755, 1823, 1891, 1959, 2015, 2071, 2126, 2181, 2207, 2232, 2246, 2302, 2358, 2414, 2457, 2471, 2536, 2615, 2671, 2726, 2739, 2764], 207, 0, 0), (2828, .iconst 1, 1, 60, 0), (2829, .ireturn, 1, 0, 0)]
set_option maxRecDepth 100000 in
theorem okC_26 : OkTab cL_law tC_26 := ⟨by decide +kernel, by decide +kernel⟩
theorem lmW_238 : LkM RL 238 yL_asset := lw_good_in (n := 1157) (by decide +kernel) rfl
theorem lmW_240 : LkM RL 240 yX8_asset := lw_good_in (n := 1735) (by decide +kernel) rfl
set_option maxRecDepth 100000 in
set_option maxHeartbeats 1000000 in
theorem law_26 (l : Launch) (D : va_G) (cy : Nat → ClassId) (B : Nat) (od : Nat → Option Nat) {p : Program} {e : Env} {s : State} {m : MethodId} {args : Array Value} {below : List Frame} {meth : Method} {c : Code} {F : State → Prop} {cells slots : Nat} {A : AH} {L i : Nat} {xs : Nat → Int32} {W : LW} {f : MF} {mb rd r sv hy : Nat → Int32} (hl9 : l.stackTraces = false) (X : Cx p s m args meth c D cy B od cL_law 9 tC_26 RL (some .boolean)) (hs : SCR B od L xs s) (hL : L ≤ 3072) (hi : i + 5 < L) (hI : INV cy A W f mb rd r sv hy) (hcap : cells + 3 ≤ 601024 ∧ slots + 18 ≤ 7293034) (kk : ∀ A9, (∃ w, SOK cy A9 w) → G p l e room_1 s m args below meth c D B od 9 tC_26 F (cells + 3) (slots + 18) A9 0 45 (lv0 i) []) : G p l e room_1 s m args below meth c D B od 9 tC_26 F cells slots A 0 0 (lv0 i) [] := by
  obtain ⟨fs0, ho0⟩ := hI.o0
  unfold lv0
  obtain ⟨Qr, Qx, hC, hT, hE, hA, hB⟩ := pr_asset l D cy B od hl9 hI (x0 := xs (i + 1)) (x1 := xs (i + 2))
  refine g_aload_n X rfl rfl ?_
  refine g_aload_n X rfl rfl ?_
  refine g_iload X rfl rfl ?_
  refine g_iconst X rfl (v := nI 1) (by decide) ?_
  refine g_iadN X rfl ?_
  refine g_sld X hs rfl (by omega) (by omega) ?_
  refine g_aload_n X rfl rfl ?_
  refine g_iload X rfl rfl ?_
  refine g_iconst X rfl (v := nI 2) (by decide) ?_
  refine g_iadN X rfl ?_
  refine g_sld X hs rfl (by omega) (by omega) ?_
  refine g_aload_n X rfl rfl ?_
  refine g_hp X rfl lkL_asset lmW_238 stL_asset (hp_L_asset l D cy B od (hC 0) ho0 (fun r A1 h => ⟨tyI (hT r A1 h).1, (hT r A1 h).2.1⟩) hE) rfl rfl (Nat.le_of_ble_eq_true rfl) ⟨Nat.le_of_ble_eq_true rfl, Nat.le_of_ble_eq_true rfl⟩ ⟨Nat.le_trans (Nat.add_le_add_left (show rmL_asset.cells ≤ 3 by decide) _) hcap.1, Nat.le_trans (Nat.add_le_add_left (show rmL_asset.slots ≤ 18 by decide) _) hcap.2⟩ (fun v1 A1 z1 q1 => ?_)
  have hcp : cells + rmL_asset.cells ≤ room_1.cells ∧ slots + rmL_asset.slots ≤ room_1.slots := ⟨Nat.le_trans (Nat.add_le_add_left (show rmL_asset.cells ≤ 3 by decide) _) hcap.1, Nat.le_trans (Nat.add_le_add_left (show rmL_asset.slots ≤ 18 by decide) _) hcap.2⟩
  refine g_z0 ?_
  rcases q1 with ⟨r9, A2, g, hQ, rfl, hg, rfl⟩ | ⟨E, hx, hm, rfl⟩
  · obtain ⟨x9, rfl⟩ := tyI (hT r9 A2 hQ).1
    obtain ⟨⟨f3, hf3⟩, hMd⟩ := hA _ A2 _ hQ (Or.inl ⟨rfl, g, rfl⟩)
    refine g_istore X rfl (by decide) ?_
    refine g_aload_n X rfl rfl ?_
    refine g_aload_n X rfl rfl ?_
    refine g_iload X rfl rfl ?_
    refine g_iconst X rfl (v := nI 1) (by decide) ?_
    refine g_iadN X rfl ?_
    refine g_sld X hs rfl (by omega) (by omega) ?_
    refine g_aload_n X rfl rfl ?_
    refine g_iload X rfl rfl ?_
    refine g_iconst X rfl (v := nI 2) (by decide) ?_
    refine g_iadN X rfl ?_
    refine g_sld X hs rfl (by omega) (by omega) ?_
    refine g_mV X rfl lcX8_asset lmW_240 lsX8_asset hMd (ci := 8) hf3 rfl rfl rfl (Nat.le_of_ble_eq_true rfl) ⟨⟨Nat.le_of_ble_eq_true rfl, Nat.le_of_ble_eq_true rfl⟩, rfl, rfl⟩ hcp (fun v2 A3 q2 => ?_)
    obtain ⟨rfl, hS, ho3⟩ := q2
    obtain ⟨W3, f4, mb3, rd3, r3, sv3, hy3, hJ, hw⟩ := id hS
    refine g_istore X rfl (by decide) ?_
    refine g_aload_n X rfl rfl ?_
    refine g_rV X rfl lcX8_thrown lmW_152 lsX8_thrown (cr_X8_thrown l D cy B od hJ.2.1.1) (ci := 8) hJ.2.1.1 rfl rfl rfl (Nat.le_of_ble_eq_true rfl) ⟨⟨Nat.le_of_ble_eq_true rfl, Nat.le_of_ble_eq_true rfl⟩, rfl, rfl⟩ hcp ?_
    rw [hw]
    refine g_iload X rfl rfl ?_
    refine g_icmp_eq X rfl (fun _ => ?_) (fun q => absurd rfl q)
    refine g_iload X rfl rfl ?_
    refine g_if_ne X rfl (fun q => absurd nI_0 q) (fun _ => ?_)
    refine g_aload_n X rfl rfl ?_
    refine g_iconst X rfl (v := nI 0) (by decide) ?_
    refine g_laldN X rfl ho3 (by decide) (by decide) ?_
    refine g_iload X rfl rfl ?_
    refine g_i2l X rfl ?_
    refine g_l_eq X rfl rfl (fun _ => ?_) (fun q => absurd hg q)
    refine g_goto X rfl ?_
    refine g_wid (k := cells + 3) (n := slots + 18) (Nat.add_le_add_left (Nat.le_of_ble_eq_true rfl) _) (Nat.add_le_add_left (Nat.le_of_ble_eq_true rfl) _) ?_
    exact G.lvw (lvw6 (fun j hj => match j, hj with | 0, _ => rfl | 1, _ => rfl | 2, _ => rfl | 3, _ => rfl | 4, _ => rfl | 5, _ => rfl | j + 6, h => absurd h (by omega))) (kk _ ⟨_, hS⟩)
  · obtain ⟨⟨f3, hf3⟩, hMd⟩ := hB E A1 hx
    refine g_istore X rfl (by decide) ?_
    refine g_aload_n X rfl rfl ?_
    refine g_aload_n X rfl rfl ?_
    refine g_iload X rfl rfl ?_
    refine g_iconst X rfl (v := nI 1) (by decide) ?_
    refine g_iadN X rfl ?_
    refine g_sld X hs rfl (by omega) (by omega) ?_
    refine g_aload_n X rfl rfl ?_
    refine g_iload X rfl rfl ?_
    refine g_iconst X rfl (v := nI 2) (by decide) ?_
    refine g_iadN X rfl ?_
    refine g_sld X hs rfl (by omega) (by omega) ?_
    refine g_mV X rfl lcX8_asset lmW_240 lsX8_asset hMd (ci := 8) hf3 rfl rfl rfl (Nat.le_of_ble_eq_true rfl) ⟨⟨Nat.le_of_ble_eq_true rfl, Nat.le_of_ble_eq_true rfl⟩, rfl, rfl⟩ hcp (fun v2 A3 q2 => ?_)
    obtain ⟨⟨d9, hd9, rfl⟩, hS⟩ := q2
    obtain ⟨x9, rfl⟩ := tyI hd9
    obtain ⟨W3, f4, mb3, rd3, r3, sv3, hy3, hJ, hw⟩ := id hS
    refine g_istore X rfl (by decide) ?_
    refine g_aload_n X rfl rfl ?_
    refine g_rV X rfl lcX8_thrown lmW_152 lsX8_thrown (cr_X8_thrown l D cy B od hJ.2.1.1) (ci := 8) hJ.2.1.1 rfl rfl rfl (Nat.le_of_ble_eq_true rfl) ⟨⟨Nat.le_of_ble_eq_true rfl, Nat.le_of_ble_eq_true rfl⟩, rfl, rfl⟩ hcp ?_
    rw [hw]
    refine g_iload X rfl rfl ?_
    refine g_icmp_eq X rfl (fun _ => ?_) (fun q => absurd rfl q)
    refine g_iload X rfl rfl ?_
    refine g_if_ne X rfl (fun _ => ?_) (fun q => absurd q (cX_n0 (by decide)))
    refine g_goto X rfl ?_
    refine g_wid (k := cells + 3) (n := slots + 18) (Nat.add_le_add_left (Nat.le_of_ble_eq_true rfl) _) (Nat.add_le_add_left (Nat.le_of_ble_eq_true rfl) _) ?_
    exact G.lvw (lvw6 (fun j hj => match j, hj with | 0, _ => rfl | 1, _ => rfl | 2, _ => rfl | 3, _ => rfl | 4, _ => rfl | 5, _ => rfl | j + 6, h => absurd h (by omega))) (kk _ ⟨_, hS⟩)
def tC_27 : List PT := [(1868, .aload_n 1, 1, 1, 0), (1869, .aload_n 0, 1, 2, 0), (1870, .iload 5, 2, 3, 0), (1872, .iconst 1, 1, 4, 0), (1873, .iadd, 1, 5, 0), (1874, .iaload, 1, 6, 0), (1875, .aload_n 0, 1, 7, 0), (1876, .iload 5, 2, 8, 0), (1878, .iconst 2, 1, 9, 0), (1879, .iadd, 1, 10, 0), (1880, .iaload, 1, 11, 0), (1881, .aload_n 3, 1, 12, 0), (1882, .invokestatic 241, 3, 13, 0), (1885, .istore 6, 2, 14, 0), (1887, .aload_n 2, 1, 15, 0), (1888, .aload_n 0, 1, 16, 0), (1889, .iload 5, 2, 17, 0), (1891, .iconst 1, 1, 18, 0), (1892, .iadd, 1, 19, 0), (1893, .iaload, 1, 20, 0), (1894, .aload_n 0, 1, 21, 0), (1895, .iload 5, 2, 22, 0), (1897, .iconst 2, 1, 23, 0), (1898, .iadd, 1, 24, 0), (1899, .iaload, 1, 25, 0), (1900, .invokevirtual 243, 3, 26, 0), (1903, .istore 7, 2, 27, 0), (1905, .aload_n 2, 1, 28, 0), (1906, .invokevirtual 152, 3, 29, 0), (1909, .iload 6, 2, 30, 0), (1911, .if_icmp .eq 5, 3, 31, 33), (1914, .iconst 0, 1, 32, 0), (1915, .ireturn, 1, 33, 0), (1916, .iload 6, 2, 34, 0), (1918, .ifCond .ne 15, 3, 35, 44), (1921, .aload_n 3, 1, 36, 0), (1922, .iconst 0, 1, 37, 0), (1923, .laload, 1, 38, 0), (1924, .iload 7, 2, 39, 0), (1926, .i2l, 1, 40, 0), (1927, .lcmp, 1, 41, 0), (1928, .ifCond .eq 5, 3, 42, 44), (1931, .iconst 0, 1, 43, 0), (1932, .ireturn, 1, 44, 0), (1933, .goto 889, 3, 0, 45), (2822, .iinc 5 6, 3, 46, 0), (2825, .goto (-2797), 3, 59, 47), (28, .iload 5, 2, 48, 0), (30, .aload_n 0, 1, 49, 0), (31, .arraylength, 1, 50, 0), (32, .bipush 6, 2, 51, 0), (34, .isub, 1, 52, 0), (35, .if_icmp .gt 2793, 3, 53, 59), (38, .aload_n 0, 1, 54, 0), (39, .iload 5, 2, 55, 0), (41, .iaload, 1, 56, 0), (42, .bipush 63, 2, 57, 0), (44, .iand, 1, 58, 0), (45, .tableswitch 2777 0 47 #[207, 311, 367, 380, 424, 528, 596, 652, 708, 788, 868, 948, 992, 1048, 1092, 1105, 1118, 1162, 1218, 1286, 1342, 1421, 1504, 1559, 1603, 1671, 1755, 1823, 1891, 1959, 2015, 2071, 2126, 2181, 2207, 2232, 2246, 2302, 2358, 2414, 2457, 2471, 2536, 2615, 2671, 2726, 2739, 2764], 207, 0, 0), (2828, .iconst 1, 1, 60, 0), (2829, .ireturn, 1, 0, 0)]
set_option maxRecDepth 100000 in
theorem okC_27 : OkTab cL_law tC_27 := ⟨by decide +kernel, by decide +kernel⟩
theorem lmW_241 : LkM RL 241 yL_written := lw_good_in (n := 1164) (by decide +kernel) rfl
theorem lmW_243 : LkM RL 243 yX8_written := lw_good_in (n := 1740) (by decide +kernel) rfl
set_option maxRecDepth 100000 in
set_option maxHeartbeats 1000000 in
theorem law_27 (l : Launch) (D : va_G) (cy : Nat → ClassId) (B : Nat) (od : Nat → Option Nat) {p : Program} {e : Env} {s : State} {m : MethodId} {args : Array Value} {below : List Frame} {meth : Method} {c : Code} {F : State → Prop} {cells slots : Nat} {A : AH} {L i : Nat} {xs : Nat → Int32} {W : LW} {f : MF} {mb rd r sv hy : Nat → Int32} (hl9 : l.stackTraces = false) (X : Cx p s m args meth c D cy B od cL_law 9 tC_27 RL (some .boolean)) (hs : SCR B od L xs s) (hL : L ≤ 3072) (hi : i + 5 < L) (hI : INV cy A W f mb rd r sv hy) (hcap : cells + 3 ≤ 601024 ∧ slots + 18 ≤ 7293034) (kk : ∀ A9, (∃ w, SOK cy A9 w) → G p l e room_1 s m args below meth c D B od 9 tC_27 F (cells + 3) (slots + 18) A9 0 45 (lv0 i) []) : G p l e room_1 s m args below meth c D B od 9 tC_27 F cells slots A 0 0 (lv0 i) [] := by
  obtain ⟨fs0, ho0⟩ := hI.o0
  unfold lv0
  obtain ⟨Qr, Qx, hC, hT, hE, hA, hB⟩ := pr_written l D cy B od hl9 hI (x0 := xs (i + 1)) (x1 := xs (i + 2))
  refine g_aload_n X rfl rfl ?_
  refine g_aload_n X rfl rfl ?_
  refine g_iload X rfl rfl ?_
  refine g_iconst X rfl (v := nI 1) (by decide) ?_
  refine g_iadN X rfl ?_
  refine g_sld X hs rfl (by omega) (by omega) ?_
  refine g_aload_n X rfl rfl ?_
  refine g_iload X rfl rfl ?_
  refine g_iconst X rfl (v := nI 2) (by decide) ?_
  refine g_iadN X rfl ?_
  refine g_sld X hs rfl (by omega) (by omega) ?_
  refine g_aload_n X rfl rfl ?_
  refine g_hp X rfl lkL_written lmW_241 stL_written (hp_L_written l D cy B od (hC 0) ho0 (fun r A1 h => ⟨tyI (hT r A1 h).1, (hT r A1 h).2.1⟩) hE) rfl rfl (Nat.le_of_ble_eq_true rfl) ⟨Nat.le_of_ble_eq_true rfl, Nat.le_of_ble_eq_true rfl⟩ ⟨Nat.le_trans (Nat.add_le_add_left (show rmL_written.cells ≤ 3 by decide) _) hcap.1, Nat.le_trans (Nat.add_le_add_left (show rmL_written.slots ≤ 18 by decide) _) hcap.2⟩ (fun v1 A1 z1 q1 => ?_)
  have hcp : cells + rmL_written.cells ≤ room_1.cells ∧ slots + rmL_written.slots ≤ room_1.slots := ⟨Nat.le_trans (Nat.add_le_add_left (show rmL_written.cells ≤ 3 by decide) _) hcap.1, Nat.le_trans (Nat.add_le_add_left (show rmL_written.slots ≤ 18 by decide) _) hcap.2⟩
  refine g_z0 ?_
  rcases q1 with ⟨r9, A2, g, hQ, rfl, hg, rfl⟩ | ⟨E, hx, hm, rfl⟩
  · obtain ⟨x9, rfl⟩ := tyI (hT r9 A2 hQ).1
    obtain ⟨⟨f3, hf3⟩, hMd⟩ := hA _ A2 _ hQ (Or.inl ⟨rfl, g, rfl⟩)
    refine g_istore X rfl (by decide) ?_
    refine g_aload_n X rfl rfl ?_
    refine g_aload_n X rfl rfl ?_
    refine g_iload X rfl rfl ?_
    refine g_iconst X rfl (v := nI 1) (by decide) ?_
    refine g_iadN X rfl ?_
    refine g_sld X hs rfl (by omega) (by omega) ?_
    refine g_aload_n X rfl rfl ?_
    refine g_iload X rfl rfl ?_
    refine g_iconst X rfl (v := nI 2) (by decide) ?_
    refine g_iadN X rfl ?_
    refine g_sld X hs rfl (by omega) (by omega) ?_
    refine g_mV X rfl lcX8_written lmW_243 lsX8_written hMd (ci := 8) hf3 rfl rfl rfl (Nat.le_of_ble_eq_true rfl) ⟨⟨Nat.le_of_ble_eq_true rfl, Nat.le_of_ble_eq_true rfl⟩, rfl, rfl⟩ hcp (fun v2 A3 q2 => ?_)
    obtain ⟨rfl, hS, ho3⟩ := q2
    obtain ⟨W3, f4, mb3, rd3, r3, sv3, hy3, hJ, hw⟩ := id hS
    refine g_istore X rfl (by decide) ?_
    refine g_aload_n X rfl rfl ?_
    refine g_rV X rfl lcX8_thrown lmW_152 lsX8_thrown (cr_X8_thrown l D cy B od hJ.2.1.1) (ci := 8) hJ.2.1.1 rfl rfl rfl (Nat.le_of_ble_eq_true rfl) ⟨⟨Nat.le_of_ble_eq_true rfl, Nat.le_of_ble_eq_true rfl⟩, rfl, rfl⟩ hcp ?_
    rw [hw]
    refine g_iload X rfl rfl ?_
    refine g_icmp_eq X rfl (fun _ => ?_) (fun q => absurd rfl q)
    refine g_iload X rfl rfl ?_
    refine g_if_ne X rfl (fun q => absurd nI_0 q) (fun _ => ?_)
    refine g_aload_n X rfl rfl ?_
    refine g_iconst X rfl (v := nI 0) (by decide) ?_
    refine g_laldN X rfl ho3 (by decide) (by decide) ?_
    refine g_iload X rfl rfl ?_
    refine g_i2l X rfl ?_
    refine g_l_eq X rfl rfl (fun _ => ?_) (fun q => absurd hg q)
    refine g_goto X rfl ?_
    refine g_wid (k := cells + 3) (n := slots + 18) (Nat.add_le_add_left (Nat.le_of_ble_eq_true rfl) _) (Nat.add_le_add_left (Nat.le_of_ble_eq_true rfl) _) ?_
    exact G.lvw (lvw6 (fun j hj => match j, hj with | 0, _ => rfl | 1, _ => rfl | 2, _ => rfl | 3, _ => rfl | 4, _ => rfl | 5, _ => rfl | j + 6, h => absurd h (by omega))) (kk _ ⟨_, hS⟩)
  · obtain ⟨⟨f3, hf3⟩, hMd⟩ := hB E A1 hx
    refine g_istore X rfl (by decide) ?_
    refine g_aload_n X rfl rfl ?_
    refine g_aload_n X rfl rfl ?_
    refine g_iload X rfl rfl ?_
    refine g_iconst X rfl (v := nI 1) (by decide) ?_
    refine g_iadN X rfl ?_
    refine g_sld X hs rfl (by omega) (by omega) ?_
    refine g_aload_n X rfl rfl ?_
    refine g_iload X rfl rfl ?_
    refine g_iconst X rfl (v := nI 2) (by decide) ?_
    refine g_iadN X rfl ?_
    refine g_sld X hs rfl (by omega) (by omega) ?_
    refine g_mV X rfl lcX8_written lmW_243 lsX8_written hMd (ci := 8) hf3 rfl rfl rfl (Nat.le_of_ble_eq_true rfl) ⟨⟨Nat.le_of_ble_eq_true rfl, Nat.le_of_ble_eq_true rfl⟩, rfl, rfl⟩ hcp (fun v2 A3 q2 => ?_)
    obtain ⟨⟨d9, hd9, rfl⟩, hS⟩ := q2
    obtain ⟨x9, rfl⟩ := tyI hd9
    obtain ⟨W3, f4, mb3, rd3, r3, sv3, hy3, hJ, hw⟩ := id hS
    refine g_istore X rfl (by decide) ?_
    refine g_aload_n X rfl rfl ?_
    refine g_rV X rfl lcX8_thrown lmW_152 lsX8_thrown (cr_X8_thrown l D cy B od hJ.2.1.1) (ci := 8) hJ.2.1.1 rfl rfl rfl (Nat.le_of_ble_eq_true rfl) ⟨⟨Nat.le_of_ble_eq_true rfl, Nat.le_of_ble_eq_true rfl⟩, rfl, rfl⟩ hcp ?_
    rw [hw]
    refine g_iload X rfl rfl ?_
    refine g_icmp_eq X rfl (fun _ => ?_) (fun q => absurd rfl q)
    refine g_iload X rfl rfl ?_
    refine g_if_ne X rfl (fun _ => ?_) (fun q => absurd q (cX_n0 (by decide)))
    refine g_goto X rfl ?_
    refine g_wid (k := cells + 3) (n := slots + 18) (Nat.add_le_add_left (Nat.le_of_ble_eq_true rfl) _) (Nat.add_le_add_left (Nat.le_of_ble_eq_true rfl) _) ?_
    exact G.lvw (lvw6 (fun j hj => match j, hj with | 0, _ => rfl | 1, _ => rfl | 2, _ => rfl | 3, _ => rfl | 4, _ => rfl | 5, _ => rfl | j + 6, h => absurd h (by omega))) (kk _ ⟨_, hS⟩)
def tC_28 : List PT := [(1936, .aload_n 1, 1, 1, 0), (1937, .aload_n 0, 1, 2, 0), (1938, .iload 5, 2, 3, 0), (1940, .iconst 1, 1, 4, 0), (1941, .iadd, 1, 5, 0), (1942, .iaload, 1, 6, 0), (1943, .aload_n 0, 1, 7, 0), (1944, .iload 5, 2, 8, 0), (1946, .iconst 2, 1, 9, 0), (1947, .iadd, 1, 10, 0), (1948, .iaload, 1, 11, 0), (1949, .aload_n 3, 1, 12, 0), (1950, .invokestatic 244, 3, 13, 0), (1953, .istore 6, 2, 14, 0), (1955, .aload_n 2, 1, 15, 0), (1956, .aload_n 0, 1, 16, 0), (1957, .iload 5, 2, 17, 0), (1959, .iconst 1, 1, 18, 0), (1960, .iadd, 1, 19, 0), (1961, .iaload, 1, 20, 0), (1962, .aload_n 0, 1, 21, 0), (1963, .iload 5, 2, 22, 0), (1965, .iconst 2, 1, 23, 0), (1966, .iadd, 1, 24, 0), (1967, .iaload, 1, 25, 0), (1968, .invokevirtual 246, 3, 26, 0), (1971, .istore 7, 2, 27, 0), (1973, .aload_n 2, 1, 28, 0), (1974, .invokevirtual 152, 3, 29, 0), (1977, .iload 6, 2, 30, 0), (1979, .if_icmp .eq 5, 3, 31, 33), (1982, .iconst 0, 1, 32, 0), (1983, .ireturn, 1, 33, 0), (1984, .iload 6, 2, 34, 0), (1986, .ifCond .ne 15, 3, 35, 44), (1989, .aload_n 3, 1, 36, 0), (1990, .iconst 0, 1, 37, 0), (1991, .laload, 1, 38, 0), (1992, .iload 7, 2, 39, 0), (1994, .i2l, 1, 40, 0), (1995, .lcmp, 1, 41, 0), (1996, .ifCond .eq 5, 3, 42, 44), (1999, .iconst 0, 1, 43, 0), (2000, .ireturn, 1, 44, 0), (2001, .goto 821, 3, 0, 45), (2822, .iinc 5 6, 3, 46, 0), (2825, .goto (-2797), 3, 59, 47), (28, .iload 5, 2, 48, 0), (30, .aload_n 0, 1, 49, 0), (31, .arraylength, 1, 50, 0), (32, .bipush 6, 2, 51, 0), (34, .isub, 1, 52, 0), (35, .if_icmp .gt 2793, 3, 53, 59), (38, .aload_n 0, 1, 54, 0), (39, .iload 5, 2, 55, 0), (41, .iaload, 1, 56, 0), (42, .bipush 63, 2, 57, 0), (44, .iand, 1, 58, 0), (45, .tableswitch 2777 0 47 #[207, 311, 367, 380, 424, 528, 596, 652, 708, 788, 868, 948, 992, 1048, 1092, 1105, 1118, 1162, 1218, 1286, 1342, 1421, 1504, 1559, 1603, 1671, 1755, 1823, 1891, 1959, 2015, 2071, 2126, 2181, 2207, 2232, 2246, 2302, 2358, 2414, 2457, 2471, 2536, 2615, 2671, 2726, 2739, 2764], 207, 0, 0), (2828, .iconst 1, 1, 60, 0), (2829, .ireturn, 1, 0, 0)]
set_option maxRecDepth 100000 in
theorem okC_28 : OkTab cL_law tC_28 := ⟨by decide +kernel, by decide +kernel⟩
theorem lmW_244 : LkM RL 244 yL_bookValue := lw_good_in (n := 1175) (by decide +kernel) rfl
theorem lmW_246 : LkM RL 246 yX8_bookValue := lw_good_in (n := 1744) (by decide +kernel) rfl
set_option maxRecDepth 100000 in
set_option maxHeartbeats 1000000 in
theorem law_28 (l : Launch) (D : va_G) (cy : Nat → ClassId) (B : Nat) (od : Nat → Option Nat) {p : Program} {e : Env} {s : State} {m : MethodId} {args : Array Value} {below : List Frame} {meth : Method} {c : Code} {F : State → Prop} {cells slots : Nat} {A : AH} {L i : Nat} {xs : Nat → Int32} {W : LW} {f : MF} {mb rd r sv hy : Nat → Int32} (hl9 : l.stackTraces = false) (X : Cx p s m args meth c D cy B od cL_law 9 tC_28 RL (some .boolean)) (hs : SCR B od L xs s) (hL : L ≤ 3072) (hi : i + 5 < L) (hI : INV cy A W f mb rd r sv hy) (hcap : cells + 3 ≤ 601024 ∧ slots + 18 ≤ 7293034) (kk : ∀ A9, (∃ w, SOK cy A9 w) → G p l e room_1 s m args below meth c D B od 9 tC_28 F (cells + 3) (slots + 18) A9 0 45 (lv0 i) []) : G p l e room_1 s m args below meth c D B od 9 tC_28 F cells slots A 0 0 (lv0 i) [] := by
  obtain ⟨fs0, ho0⟩ := hI.o0
  unfold lv0
  obtain ⟨Qr, Qx, hC, hT, hE, hA, hB⟩ := pr_bookValue l D cy B od hl9 hI (x0 := xs (i + 1)) (x1 := xs (i + 2))
  refine g_aload_n X rfl rfl ?_
  refine g_aload_n X rfl rfl ?_
  refine g_iload X rfl rfl ?_
  refine g_iconst X rfl (v := nI 1) (by decide) ?_
  refine g_iadN X rfl ?_
  refine g_sld X hs rfl (by omega) (by omega) ?_
  refine g_aload_n X rfl rfl ?_
  refine g_iload X rfl rfl ?_
  refine g_iconst X rfl (v := nI 2) (by decide) ?_
  refine g_iadN X rfl ?_
  refine g_sld X hs rfl (by omega) (by omega) ?_
  refine g_aload_n X rfl rfl ?_
  refine g_hp X rfl lkL_bookValue lmW_244 stL_bookValue (hp_L_bookValue l D cy B od (hC 0) ho0 (fun r A1 h => ⟨tyI (hT r A1 h).1, (hT r A1 h).2.1⟩) hE) rfl rfl (Nat.le_of_ble_eq_true rfl) ⟨Nat.le_of_ble_eq_true rfl, Nat.le_of_ble_eq_true rfl⟩ ⟨Nat.le_trans (Nat.add_le_add_left (show rmL_bookValue.cells ≤ 3 by decide) _) hcap.1, Nat.le_trans (Nat.add_le_add_left (show rmL_bookValue.slots ≤ 18 by decide) _) hcap.2⟩ (fun v1 A1 z1 q1 => ?_)
  have hcp : cells + rmL_bookValue.cells ≤ room_1.cells ∧ slots + rmL_bookValue.slots ≤ room_1.slots := ⟨Nat.le_trans (Nat.add_le_add_left (show rmL_bookValue.cells ≤ 3 by decide) _) hcap.1, Nat.le_trans (Nat.add_le_add_left (show rmL_bookValue.slots ≤ 18 by decide) _) hcap.2⟩
  refine g_z0 ?_
  rcases q1 with ⟨r9, A2, g, hQ, rfl, hg, rfl⟩ | ⟨E, hx, hm, rfl⟩
  · obtain ⟨x9, rfl⟩ := tyI (hT r9 A2 hQ).1
    obtain ⟨⟨f3, hf3⟩, hMd⟩ := hA _ A2 _ hQ (Or.inl ⟨rfl, g, rfl⟩)
    refine g_istore X rfl (by decide) ?_
    refine g_aload_n X rfl rfl ?_
    refine g_aload_n X rfl rfl ?_
    refine g_iload X rfl rfl ?_
    refine g_iconst X rfl (v := nI 1) (by decide) ?_
    refine g_iadN X rfl ?_
    refine g_sld X hs rfl (by omega) (by omega) ?_
    refine g_aload_n X rfl rfl ?_
    refine g_iload X rfl rfl ?_
    refine g_iconst X rfl (v := nI 2) (by decide) ?_
    refine g_iadN X rfl ?_
    refine g_sld X hs rfl (by omega) (by omega) ?_
    refine g_mV X rfl lcX8_bookValue lmW_246 lsX8_bookValue hMd (ci := 8) hf3 rfl rfl rfl (Nat.le_of_ble_eq_true rfl) ⟨⟨Nat.le_of_ble_eq_true rfl, Nat.le_of_ble_eq_true rfl⟩, rfl, rfl⟩ hcp (fun v2 A3 q2 => ?_)
    obtain ⟨rfl, hS, ho3⟩ := q2
    obtain ⟨W3, f4, mb3, rd3, r3, sv3, hy3, hJ, hw⟩ := id hS
    refine g_istore X rfl (by decide) ?_
    refine g_aload_n X rfl rfl ?_
    refine g_rV X rfl lcX8_thrown lmW_152 lsX8_thrown (cr_X8_thrown l D cy B od hJ.2.1.1) (ci := 8) hJ.2.1.1 rfl rfl rfl (Nat.le_of_ble_eq_true rfl) ⟨⟨Nat.le_of_ble_eq_true rfl, Nat.le_of_ble_eq_true rfl⟩, rfl, rfl⟩ hcp ?_
    rw [hw]
    refine g_iload X rfl rfl ?_
    refine g_icmp_eq X rfl (fun _ => ?_) (fun q => absurd rfl q)
    refine g_iload X rfl rfl ?_
    refine g_if_ne X rfl (fun q => absurd nI_0 q) (fun _ => ?_)
    refine g_aload_n X rfl rfl ?_
    refine g_iconst X rfl (v := nI 0) (by decide) ?_
    refine g_laldN X rfl ho3 (by decide) (by decide) ?_
    refine g_iload X rfl rfl ?_
    refine g_i2l X rfl ?_
    refine g_l_eq X rfl rfl (fun _ => ?_) (fun q => absurd hg q)
    refine g_goto X rfl ?_
    refine g_wid (k := cells + 3) (n := slots + 18) (Nat.add_le_add_left (Nat.le_of_ble_eq_true rfl) _) (Nat.add_le_add_left (Nat.le_of_ble_eq_true rfl) _) ?_
    exact G.lvw (lvw6 (fun j hj => match j, hj with | 0, _ => rfl | 1, _ => rfl | 2, _ => rfl | 3, _ => rfl | 4, _ => rfl | 5, _ => rfl | j + 6, h => absurd h (by omega))) (kk _ ⟨_, hS⟩)
  · obtain ⟨⟨f3, hf3⟩, hMd⟩ := hB E A1 hx
    refine g_istore X rfl (by decide) ?_
    refine g_aload_n X rfl rfl ?_
    refine g_aload_n X rfl rfl ?_
    refine g_iload X rfl rfl ?_
    refine g_iconst X rfl (v := nI 1) (by decide) ?_
    refine g_iadN X rfl ?_
    refine g_sld X hs rfl (by omega) (by omega) ?_
    refine g_aload_n X rfl rfl ?_
    refine g_iload X rfl rfl ?_
    refine g_iconst X rfl (v := nI 2) (by decide) ?_
    refine g_iadN X rfl ?_
    refine g_sld X hs rfl (by omega) (by omega) ?_
    refine g_mV X rfl lcX8_bookValue lmW_246 lsX8_bookValue hMd (ci := 8) hf3 rfl rfl rfl (Nat.le_of_ble_eq_true rfl) ⟨⟨Nat.le_of_ble_eq_true rfl, Nat.le_of_ble_eq_true rfl⟩, rfl, rfl⟩ hcp (fun v2 A3 q2 => ?_)
    obtain ⟨⟨d9, hd9, rfl⟩, hS⟩ := q2
    obtain ⟨x9, rfl⟩ := tyI hd9
    obtain ⟨W3, f4, mb3, rd3, r3, sv3, hy3, hJ, hw⟩ := id hS
    refine g_istore X rfl (by decide) ?_
    refine g_aload_n X rfl rfl ?_
    refine g_rV X rfl lcX8_thrown lmW_152 lsX8_thrown (cr_X8_thrown l D cy B od hJ.2.1.1) (ci := 8) hJ.2.1.1 rfl rfl rfl (Nat.le_of_ble_eq_true rfl) ⟨⟨Nat.le_of_ble_eq_true rfl, Nat.le_of_ble_eq_true rfl⟩, rfl, rfl⟩ hcp ?_
    rw [hw]
    refine g_iload X rfl rfl ?_
    refine g_icmp_eq X rfl (fun _ => ?_) (fun q => absurd rfl q)
    refine g_iload X rfl rfl ?_
    refine g_if_ne X rfl (fun _ => ?_) (fun q => absurd q (cX_n0 (by decide)))
    refine g_goto X rfl ?_
    refine g_wid (k := cells + 3) (n := slots + 18) (Nat.add_le_add_left (Nat.le_of_ble_eq_true rfl) _) (Nat.add_le_add_left (Nat.le_of_ble_eq_true rfl) _) ?_
    exact G.lvw (lvw6 (fun j hj => match j, hj with | 0, _ => rfl | 1, _ => rfl | 2, _ => rfl | 3, _ => rfl | 4, _ => rfl | 5, _ => rfl | j + 6, h => absurd h (by omega))) (kk _ ⟨_, hS⟩)
def tC_29 : List PT := [(2004, .aload_n 1, 1, 1, 0), (2005, .aload_n 0, 1, 2, 0), (2006, .iload 5, 2, 3, 0), (2008, .iconst 1, 1, 4, 0), (2009, .iadd, 1, 5, 0), (2010, .iaload, 1, 6, 0), (2011, .aload_n 3, 1, 7, 0), (2012, .invokestatic 247, 3, 8, 0), (2015, .istore 6, 2, 9, 0), (2017, .aload_n 2, 1, 10, 0), (2018, .aload_n 0, 1, 11, 0), (2019, .iload 5, 2, 12, 0), (2021, .iconst 1, 1, 13, 0), (2022, .iadd, 1, 14, 0), (2023, .iaload, 1, 15, 0), (2024, .invokevirtual 249, 3, 16, 0), (2027, .istore 7, 2, 17, 0), (2029, .aload_n 2, 1, 18, 0), (2030, .invokevirtual 152, 3, 19, 0), (2033, .iload 6, 2, 20, 0), (2035, .if_icmp .eq 5, 3, 21, 23), (2038, .iconst 0, 1, 22, 0), (2039, .ireturn, 1, 23, 0), (2040, .iload 6, 2, 24, 0), (2042, .ifCond .ne 15, 3, 25, 34), (2045, .aload_n 3, 1, 26, 0), (2046, .iconst 0, 1, 27, 0), (2047, .laload, 1, 28, 0), (2048, .iload 7, 2, 29, 0), (2050, .i2l, 1, 30, 0), (2051, .lcmp, 1, 31, 0), (2052, .ifCond .eq 5, 3, 32, 34), (2055, .iconst 0, 1, 33, 0), (2056, .ireturn, 1, 34, 0), (2057, .goto 765, 3, 0, 35), (2822, .iinc 5 6, 3, 36, 0), (2825, .goto (-2797), 3, 49, 37), (28, .iload 5, 2, 38, 0), (30, .aload_n 0, 1, 39, 0), (31, .arraylength, 1, 40, 0), (32, .bipush 6, 2, 41, 0), (34, .isub, 1, 42, 0), (35, .if_icmp .gt 2793, 3, 43, 49), (38, .aload_n 0, 1, 44, 0), (39, .iload 5, 2, 45, 0), (41, .iaload, 1, 46, 0), (42, .bipush 63, 2, 47, 0), (44, .iand, 1, 48, 0), (45, .tableswitch 2777 0 47 #[207, 311, 367, 380, 424, 528, 596, 652, 708, 788, 868, 948, 992, 1048, 1092, 1105, 1118, 1162, 1218, 1286, 1342, 1421, 1504, 1559, 1603, 1671, 1755, 1823, 1891, 1959, 2015, 2071, 2126, 2181, 2207, 2232, 2246, 2302, 2358, 2414, 2457, 2471, 2536, 2615, 2671, 2726, 2739, 2764], 207, 0, 0), (2828, .iconst 1, 1, 50, 0), (2829, .ireturn, 1, 0, 0)]
set_option maxRecDepth 100000 in
theorem okC_29 : OkTab cL_law tC_29 := ⟨by decide +kernel, by decide +kernel⟩
theorem lmW_247 : LkM RL 247 yL_pool := lw_good_in (n := 1182) (by decide +kernel) rfl
theorem lmW_249 : LkM RL 249 yX8_pool := lw_good_in (n := 1748) (by decide +kernel) rfl
set_option maxRecDepth 100000 in
set_option maxHeartbeats 1000000 in
theorem law_29 (l : Launch) (D : va_G) (cy : Nat → ClassId) (B : Nat) (od : Nat → Option Nat) {p : Program} {e : Env} {s : State} {m : MethodId} {args : Array Value} {below : List Frame} {meth : Method} {c : Code} {F : State → Prop} {cells slots : Nat} {A : AH} {L i : Nat} {xs : Nat → Int32} {W : LW} {f : MF} {mb rd r sv hy : Nat → Int32} (hl9 : l.stackTraces = false) (X : Cx p s m args meth c D cy B od cL_law 9 tC_29 RL (some .boolean)) (hs : SCR B od L xs s) (hL : L ≤ 3072) (hi : i + 5 < L) (hI : INV cy A W f mb rd r sv hy) (hcap : cells + 3 ≤ 601024 ∧ slots + 18 ≤ 7293034) (kk : ∀ A9, (∃ w, SOK cy A9 w) → G p l e room_1 s m args below meth c D B od 9 tC_29 F (cells + 3) (slots + 18) A9 0 35 (lv0 i) []) : G p l e room_1 s m args below meth c D B od 9 tC_29 F cells slots A 0 0 (lv0 i) [] := by
  obtain ⟨fs0, ho0⟩ := hI.o0
  unfold lv0
  obtain ⟨Qr, Qx, hC, hT, hE, hA, hB⟩ := pr_pool l D cy B od hl9 hI (x0 := xs (i + 1))
  refine g_aload_n X rfl rfl ?_
  refine g_aload_n X rfl rfl ?_
  refine g_iload X rfl rfl ?_
  refine g_iconst X rfl (v := nI 1) (by decide) ?_
  refine g_iadN X rfl ?_
  refine g_sld X hs rfl (by omega) (by omega) ?_
  refine g_aload_n X rfl rfl ?_
  refine g_hp X rfl lkL_pool lmW_247 stL_pool (hp_L_pool l D cy B od (hC 0) ho0 (fun r A1 h => ⟨tyI (hT r A1 h).1, (hT r A1 h).2.1⟩) hE) rfl rfl (Nat.le_of_ble_eq_true rfl) ⟨Nat.le_of_ble_eq_true rfl, Nat.le_of_ble_eq_true rfl⟩ ⟨Nat.le_trans (Nat.add_le_add_left (show rmL_pool.cells ≤ 3 by decide) _) hcap.1, Nat.le_trans (Nat.add_le_add_left (show rmL_pool.slots ≤ 18 by decide) _) hcap.2⟩ (fun v1 A1 z1 q1 => ?_)
  have hcp : cells + rmL_pool.cells ≤ room_1.cells ∧ slots + rmL_pool.slots ≤ room_1.slots := ⟨Nat.le_trans (Nat.add_le_add_left (show rmL_pool.cells ≤ 3 by decide) _) hcap.1, Nat.le_trans (Nat.add_le_add_left (show rmL_pool.slots ≤ 18 by decide) _) hcap.2⟩
  refine g_z0 ?_
  rcases q1 with ⟨r9, A2, g, hQ, rfl, hg, rfl⟩ | ⟨E, hx, hm, rfl⟩
  · obtain ⟨x9, rfl⟩ := tyI (hT r9 A2 hQ).1
    obtain ⟨⟨f3, hf3⟩, hMd⟩ := hA _ A2 _ hQ (Or.inl ⟨rfl, g, rfl⟩)
    refine g_istore X rfl (by decide) ?_
    refine g_aload_n X rfl rfl ?_
    refine g_aload_n X rfl rfl ?_
    refine g_iload X rfl rfl ?_
    refine g_iconst X rfl (v := nI 1) (by decide) ?_
    refine g_iadN X rfl ?_
    refine g_sld X hs rfl (by omega) (by omega) ?_
    refine g_mV X rfl lcX8_pool lmW_249 lsX8_pool hMd (ci := 8) hf3 rfl rfl rfl (Nat.le_of_ble_eq_true rfl) ⟨⟨Nat.le_of_ble_eq_true rfl, Nat.le_of_ble_eq_true rfl⟩, rfl, rfl⟩ hcp (fun v2 A3 q2 => ?_)
    obtain ⟨rfl, hS, ho3⟩ := q2
    obtain ⟨W3, f4, mb3, rd3, r3, sv3, hy3, hJ, hw⟩ := id hS
    refine g_istore X rfl (by decide) ?_
    refine g_aload_n X rfl rfl ?_
    refine g_rV X rfl lcX8_thrown lmW_152 lsX8_thrown (cr_X8_thrown l D cy B od hJ.2.1.1) (ci := 8) hJ.2.1.1 rfl rfl rfl (Nat.le_of_ble_eq_true rfl) ⟨⟨Nat.le_of_ble_eq_true rfl, Nat.le_of_ble_eq_true rfl⟩, rfl, rfl⟩ hcp ?_
    rw [hw]
    refine g_iload X rfl rfl ?_
    refine g_icmp_eq X rfl (fun _ => ?_) (fun q => absurd rfl q)
    refine g_iload X rfl rfl ?_
    refine g_if_ne X rfl (fun q => absurd nI_0 q) (fun _ => ?_)
    refine g_aload_n X rfl rfl ?_
    refine g_iconst X rfl (v := nI 0) (by decide) ?_
    refine g_laldN X rfl ho3 (by decide) (by decide) ?_
    refine g_iload X rfl rfl ?_
    refine g_i2l X rfl ?_
    refine g_l_eq X rfl rfl (fun _ => ?_) (fun q => absurd hg q)
    refine g_goto X rfl ?_
    refine g_wid (k := cells + 3) (n := slots + 18) (Nat.add_le_add_left (Nat.le_of_ble_eq_true rfl) _) (Nat.add_le_add_left (Nat.le_of_ble_eq_true rfl) _) ?_
    exact G.lvw (lvw6 (fun j hj => match j, hj with | 0, _ => rfl | 1, _ => rfl | 2, _ => rfl | 3, _ => rfl | 4, _ => rfl | 5, _ => rfl | j + 6, h => absurd h (by omega))) (kk _ ⟨_, hS⟩)
  · obtain ⟨⟨f3, hf3⟩, hMd⟩ := hB E A1 hx
    refine g_istore X rfl (by decide) ?_
    refine g_aload_n X rfl rfl ?_
    refine g_aload_n X rfl rfl ?_
    refine g_iload X rfl rfl ?_
    refine g_iconst X rfl (v := nI 1) (by decide) ?_
    refine g_iadN X rfl ?_
    refine g_sld X hs rfl (by omega) (by omega) ?_
    refine g_mV X rfl lcX8_pool lmW_249 lsX8_pool hMd (ci := 8) hf3 rfl rfl rfl (Nat.le_of_ble_eq_true rfl) ⟨⟨Nat.le_of_ble_eq_true rfl, Nat.le_of_ble_eq_true rfl⟩, rfl, rfl⟩ hcp (fun v2 A3 q2 => ?_)
    obtain ⟨⟨d9, hd9, rfl⟩, hS⟩ := q2
    obtain ⟨x9, rfl⟩ := tyI hd9
    obtain ⟨W3, f4, mb3, rd3, r3, sv3, hy3, hJ, hw⟩ := id hS
    refine g_istore X rfl (by decide) ?_
    refine g_aload_n X rfl rfl ?_
    refine g_rV X rfl lcX8_thrown lmW_152 lsX8_thrown (cr_X8_thrown l D cy B od hJ.2.1.1) (ci := 8) hJ.2.1.1 rfl rfl rfl (Nat.le_of_ble_eq_true rfl) ⟨⟨Nat.le_of_ble_eq_true rfl, Nat.le_of_ble_eq_true rfl⟩, rfl, rfl⟩ hcp ?_
    rw [hw]
    refine g_iload X rfl rfl ?_
    refine g_icmp_eq X rfl (fun _ => ?_) (fun q => absurd rfl q)
    refine g_iload X rfl rfl ?_
    refine g_if_ne X rfl (fun _ => ?_) (fun q => absurd q (cX_n0 (by decide)))
    refine g_goto X rfl ?_
    refine g_wid (k := cells + 3) (n := slots + 18) (Nat.add_le_add_left (Nat.le_of_ble_eq_true rfl) _) (Nat.add_le_add_left (Nat.le_of_ble_eq_true rfl) _) ?_
    exact G.lvw (lvw6 (fun j hj => match j, hj with | 0, _ => rfl | 1, _ => rfl | 2, _ => rfl | 3, _ => rfl | 4, _ => rfl | 5, _ => rfl | j + 6, h => absurd h (by omega))) (kk _ ⟨_, hS⟩)
def tC_30 : List PT := [(2060, .aload_n 1, 1, 1, 0), (2061, .aload_n 0, 1, 2, 0), (2062, .iload 5, 2, 3, 0), (2064, .iconst 1, 1, 4, 0), (2065, .iadd, 1, 5, 0), (2066, .iaload, 1, 6, 0), (2067, .aload_n 3, 1, 7, 0), (2068, .invokestatic 250, 3, 8, 0), (2071, .istore 6, 2, 9, 0), (2073, .aload_n 2, 1, 10, 0), (2074, .aload_n 0, 1, 11, 0), (2075, .iload 5, 2, 12, 0), (2077, .iconst 1, 1, 13, 0), (2078, .iadd, 1, 14, 0), (2079, .iaload, 1, 15, 0), (2080, .invokevirtual 252, 3, 16, 0), (2083, .istore 7, 2, 17, 0), (2085, .aload_n 2, 1, 18, 0), (2086, .invokevirtual 152, 3, 19, 0), (2089, .iload 6, 2, 20, 0), (2091, .if_icmp .eq 5, 3, 21, 23), (2094, .iconst 0, 1, 22, 0), (2095, .ireturn, 1, 23, 0), (2096, .iload 6, 2, 24, 0), (2098, .ifCond .ne 15, 3, 25, 34), (2101, .aload_n 3, 1, 26, 0), (2102, .iconst 0, 1, 27, 0), (2103, .laload, 1, 28, 0), (2104, .iload 7, 2, 29, 0), (2106, .i2l, 1, 30, 0), (2107, .lcmp, 1, 31, 0), (2108, .ifCond .eq 5, 3, 32, 34), (2111, .iconst 0, 1, 33, 0), (2112, .ireturn, 1, 34, 0), (2113, .goto 709, 3, 0, 35), (2822, .iinc 5 6, 3, 36, 0), (2825, .goto (-2797), 3, 49, 37), (28, .iload 5, 2, 38, 0), (30, .aload_n 0, 1, 39, 0), (31, .arraylength, 1, 40, 0), (32, .bipush 6, 2, 41, 0), (34, .isub, 1, 42, 0), (35, .if_icmp .gt 2793, 3, 43, 49), (38, .aload_n 0, 1, 44, 0), (39, .iload 5, 2, 45, 0), (41, .iaload, 1, 46, 0), (42, .bipush 63, 2, 47, 0), (44, .iand, 1, 48, 0), (45, .tableswitch 2777 0 47 #[207, 311, 367, 380, 424, 528, 596, 652, 708, 788, 868, 948, 992, 1048, 1092, 1105, 1118, 1162, 1218, 1286, 1342, 1421, 1504, 1559, 1603, 1671, 1755, 1823, 1891, 1959, 2015, 2071, 2126, 2181, 2207, 2232, 2246, 2302, 2358, 2414, 2457, 2471, 2536, 2615, 2671, 2726, 2739, 2764], 207, 0, 0), (2828, .iconst 1, 1, 50, 0), (2829, .ireturn, 1, 0, 0)]
set_option maxRecDepth 100000 in
theorem okC_30 : OkTab cL_law tC_30 := ⟨by decide +kernel, by decide +kernel⟩
theorem lmW_250 : LkM RL 250 yL_poolWritten := lw_good_in (n := 1193) (by decide +kernel) rfl
theorem lmW_252 : LkM RL 252 yX8_poolWritten := lw_good_in (n := 1755) (by decide +kernel) rfl
set_option maxRecDepth 100000 in
set_option maxHeartbeats 1000000 in
theorem law_30 (l : Launch) (D : va_G) (cy : Nat → ClassId) (B : Nat) (od : Nat → Option Nat) {p : Program} {e : Env} {s : State} {m : MethodId} {args : Array Value} {below : List Frame} {meth : Method} {c : Code} {F : State → Prop} {cells slots : Nat} {A : AH} {L i : Nat} {xs : Nat → Int32} {W : LW} {f : MF} {mb rd r sv hy : Nat → Int32} (hl9 : l.stackTraces = false) (X : Cx p s m args meth c D cy B od cL_law 9 tC_30 RL (some .boolean)) (hs : SCR B od L xs s) (hL : L ≤ 3072) (hi : i + 5 < L) (hI : INV cy A W f mb rd r sv hy) (hcap : cells + 3 ≤ 601024 ∧ slots + 18 ≤ 7293034) (kk : ∀ A9, (∃ w, SOK cy A9 w) → G p l e room_1 s m args below meth c D B od 9 tC_30 F (cells + 3) (slots + 18) A9 0 35 (lv0 i) []) : G p l e room_1 s m args below meth c D B od 9 tC_30 F cells slots A 0 0 (lv0 i) [] := by
  obtain ⟨fs0, ho0⟩ := hI.o0
  unfold lv0
  obtain ⟨Qr, Qx, hC, hT, hE, hA, hB⟩ := pr_poolWritten l D cy B od hl9 hI (x0 := xs (i + 1))
  refine g_aload_n X rfl rfl ?_
  refine g_aload_n X rfl rfl ?_
  refine g_iload X rfl rfl ?_
  refine g_iconst X rfl (v := nI 1) (by decide) ?_
  refine g_iadN X rfl ?_
  refine g_sld X hs rfl (by omega) (by omega) ?_
  refine g_aload_n X rfl rfl ?_
  refine g_hp X rfl lkL_poolWritten lmW_250 stL_poolWritten (hp_L_poolWritten l D cy B od (hC 0) ho0 (fun r A1 h => ⟨tyI (hT r A1 h).1, (hT r A1 h).2.1⟩) hE) rfl rfl (Nat.le_of_ble_eq_true rfl) ⟨Nat.le_of_ble_eq_true rfl, Nat.le_of_ble_eq_true rfl⟩ ⟨Nat.le_trans (Nat.add_le_add_left (show rmL_poolWritten.cells ≤ 3 by decide) _) hcap.1, Nat.le_trans (Nat.add_le_add_left (show rmL_poolWritten.slots ≤ 18 by decide) _) hcap.2⟩ (fun v1 A1 z1 q1 => ?_)
  have hcp : cells + rmL_poolWritten.cells ≤ room_1.cells ∧ slots + rmL_poolWritten.slots ≤ room_1.slots := ⟨Nat.le_trans (Nat.add_le_add_left (show rmL_poolWritten.cells ≤ 3 by decide) _) hcap.1, Nat.le_trans (Nat.add_le_add_left (show rmL_poolWritten.slots ≤ 18 by decide) _) hcap.2⟩
  refine g_z0 ?_
  rcases q1 with ⟨r9, A2, g, hQ, rfl, hg, rfl⟩ | ⟨E, hx, hm, rfl⟩
  · obtain ⟨x9, rfl⟩ := tyI (hT r9 A2 hQ).1
    obtain ⟨⟨f3, hf3⟩, hMd⟩ := hA _ A2 _ hQ (Or.inl ⟨rfl, g, rfl⟩)
    refine g_istore X rfl (by decide) ?_
    refine g_aload_n X rfl rfl ?_
    refine g_aload_n X rfl rfl ?_
    refine g_iload X rfl rfl ?_
    refine g_iconst X rfl (v := nI 1) (by decide) ?_
    refine g_iadN X rfl ?_
    refine g_sld X hs rfl (by omega) (by omega) ?_
    refine g_mV X rfl lcX8_poolWritten lmW_252 lsX8_poolWritten hMd (ci := 8) hf3 rfl rfl rfl (Nat.le_of_ble_eq_true rfl) ⟨⟨Nat.le_of_ble_eq_true rfl, Nat.le_of_ble_eq_true rfl⟩, rfl, rfl⟩ hcp (fun v2 A3 q2 => ?_)
    obtain ⟨rfl, hS, ho3⟩ := q2
    obtain ⟨W3, f4, mb3, rd3, r3, sv3, hy3, hJ, hw⟩ := id hS
    refine g_istore X rfl (by decide) ?_
    refine g_aload_n X rfl rfl ?_
    refine g_rV X rfl lcX8_thrown lmW_152 lsX8_thrown (cr_X8_thrown l D cy B od hJ.2.1.1) (ci := 8) hJ.2.1.1 rfl rfl rfl (Nat.le_of_ble_eq_true rfl) ⟨⟨Nat.le_of_ble_eq_true rfl, Nat.le_of_ble_eq_true rfl⟩, rfl, rfl⟩ hcp ?_
    rw [hw]
    refine g_iload X rfl rfl ?_
    refine g_icmp_eq X rfl (fun _ => ?_) (fun q => absurd rfl q)
    refine g_iload X rfl rfl ?_
    refine g_if_ne X rfl (fun q => absurd nI_0 q) (fun _ => ?_)
    refine g_aload_n X rfl rfl ?_
    refine g_iconst X rfl (v := nI 0) (by decide) ?_
    refine g_laldN X rfl ho3 (by decide) (by decide) ?_
    refine g_iload X rfl rfl ?_
    refine g_i2l X rfl ?_
    refine g_l_eq X rfl rfl (fun _ => ?_) (fun q => absurd hg q)
    refine g_goto X rfl ?_
    refine g_wid (k := cells + 3) (n := slots + 18) (Nat.add_le_add_left (Nat.le_of_ble_eq_true rfl) _) (Nat.add_le_add_left (Nat.le_of_ble_eq_true rfl) _) ?_
    exact G.lvw (lvw6 (fun j hj => match j, hj with | 0, _ => rfl | 1, _ => rfl | 2, _ => rfl | 3, _ => rfl | 4, _ => rfl | 5, _ => rfl | j + 6, h => absurd h (by omega))) (kk _ ⟨_, hS⟩)
  · obtain ⟨⟨f3, hf3⟩, hMd⟩ := hB E A1 hx
    refine g_istore X rfl (by decide) ?_
    refine g_aload_n X rfl rfl ?_
    refine g_aload_n X rfl rfl ?_
    refine g_iload X rfl rfl ?_
    refine g_iconst X rfl (v := nI 1) (by decide) ?_
    refine g_iadN X rfl ?_
    refine g_sld X hs rfl (by omega) (by omega) ?_
    refine g_mV X rfl lcX8_poolWritten lmW_252 lsX8_poolWritten hMd (ci := 8) hf3 rfl rfl rfl (Nat.le_of_ble_eq_true rfl) ⟨⟨Nat.le_of_ble_eq_true rfl, Nat.le_of_ble_eq_true rfl⟩, rfl, rfl⟩ hcp (fun v2 A3 q2 => ?_)
    obtain ⟨⟨d9, hd9, rfl⟩, hS⟩ := q2
    obtain ⟨x9, rfl⟩ := tyI hd9
    obtain ⟨W3, f4, mb3, rd3, r3, sv3, hy3, hJ, hw⟩ := id hS
    refine g_istore X rfl (by decide) ?_
    refine g_aload_n X rfl rfl ?_
    refine g_rV X rfl lcX8_thrown lmW_152 lsX8_thrown (cr_X8_thrown l D cy B od hJ.2.1.1) (ci := 8) hJ.2.1.1 rfl rfl rfl (Nat.le_of_ble_eq_true rfl) ⟨⟨Nat.le_of_ble_eq_true rfl, Nat.le_of_ble_eq_true rfl⟩, rfl, rfl⟩ hcp ?_
    rw [hw]
    refine g_iload X rfl rfl ?_
    refine g_icmp_eq X rfl (fun _ => ?_) (fun q => absurd rfl q)
    refine g_iload X rfl rfl ?_
    refine g_if_ne X rfl (fun _ => ?_) (fun q => absurd q (cX_n0 (by decide)))
    refine g_goto X rfl ?_
    refine g_wid (k := cells + 3) (n := slots + 18) (Nat.add_le_add_left (Nat.le_of_ble_eq_true rfl) _) (Nat.add_le_add_left (Nat.le_of_ble_eq_true rfl) _) ?_
    exact G.lvw (lvw6 (fun j hj => match j, hj with | 0, _ => rfl | 1, _ => rfl | 2, _ => rfl | 3, _ => rfl | 4, _ => rfl | 5, _ => rfl | j + 6, h => absurd h (by omega))) (kk _ ⟨_, hS⟩)
def tC_31 : List PT := [(2116, .aload_n 1, 1, 1, 0), (2117, .aload_n 0, 1, 2, 0), (2118, .iload 5, 2, 3, 0), (2120, .iconst 1, 1, 4, 0), (2121, .iadd, 1, 5, 0), (2122, .iaload, 1, 6, 0), (2123, .aload_n 3, 1, 7, 0), (2124, .invokestatic 253, 3, 8, 0), (2127, .istore 6, 2, 9, 0), (2129, .aload_n 2, 1, 10, 0), (2130, .aload_n 0, 1, 11, 0), (2131, .iload 5, 2, 12, 0), (2133, .iconst 1, 1, 13, 0), (2134, .iadd, 1, 14, 0), (2135, .iaload, 1, 15, 0), (2136, .invokevirtual 255, 3, 16, 0), (2139, .lstore 7, 2, 17, 0), (2141, .aload_n 2, 1, 18, 0), (2142, .invokevirtual 152, 3, 19, 0), (2145, .iload 6, 2, 20, 0), (2147, .if_icmp .eq 5, 3, 21, 23), (2150, .iconst 0, 1, 22, 0), (2151, .ireturn, 1, 23, 0), (2152, .iload 6, 2, 24, 0), (2154, .ifCond .ne 14, 3, 25, 33), (2157, .aload_n 3, 1, 26, 0), (2158, .iconst 0, 1, 27, 0), (2159, .laload, 1, 28, 0), (2160, .lload 7, 2, 29, 0), (2162, .lcmp, 1, 30, 0), (2163, .ifCond .eq 5, 3, 31, 33), (2166, .iconst 0, 1, 32, 0), (2167, .ireturn, 1, 33, 0), (2168, .goto 654, 3, 0, 34), (2822, .iinc 5 6, 3, 35, 0), (2825, .goto (-2797), 3, 48, 36), (28, .iload 5, 2, 37, 0), (30, .aload_n 0, 1, 38, 0), (31, .arraylength, 1, 39, 0), (32, .bipush 6, 2, 40, 0), (34, .isub, 1, 41, 0), (35, .if_icmp .gt 2793, 3, 42, 48), (38, .aload_n 0, 1, 43, 0), (39, .iload 5, 2, 44, 0), (41, .iaload, 1, 45, 0), (42, .bipush 63, 2, 46, 0), (44, .iand, 1, 47, 0), (45, .tableswitch 2777 0 47 #[207, 311, 367, 380, 424, 528, 596, 652, 708, 788, 868, 948, 992, 1048, 1092, 1105, 1118, 1162, 1218, 1286, 1342, 1421, 1504, 1559, 1603, 1671, 1755, 1823, 1891, 1959, 2015, 2071, 2126, 2181, 2207, 2232, 2246, 2302, 2358, 2414, 2457, 2471, 2536, 2615, 2671, 2726, 2739, 2764], 207, 0, 0), (2828, .iconst 1, 1, 49, 0), (2829, .ireturn, 1, 0, 0)]
set_option maxRecDepth 100000 in
theorem okC_31 : OkTab cL_law tC_31 := ⟨by decide +kernel, by decide +kernel⟩
theorem lmW_253 : LkM RL 253 yL_profit := lw_good_in (n := 1204) (by decide +kernel) rfl
theorem lmW_255 : LkM RL 255 yX8_profit := lw_good_in (n := 1759) (by decide +kernel) rfl
set_option maxRecDepth 100000 in
set_option maxHeartbeats 1000000 in
theorem law_31 (l : Launch) (D : va_G) (cy : Nat → ClassId) (B : Nat) (od : Nat → Option Nat) {p : Program} {e : Env} {s : State} {m : MethodId} {args : Array Value} {below : List Frame} {meth : Method} {c : Code} {F : State → Prop} {cells slots : Nat} {A : AH} {L i : Nat} {xs : Nat → Int32} {W : LW} {f : MF} {mb rd r sv hy : Nat → Int32} (hl9 : l.stackTraces = false) (X : Cx p s m args meth c D cy B od cL_law 9 tC_31 RL (some .boolean)) (hs : SCR B od L xs s) (hL : L ≤ 3072) (hi : i + 5 < L) (hI : INV cy A W f mb rd r sv hy) (hcap : cells + 3 ≤ 601024 ∧ slots + 18 ≤ 7293034) (kk : ∀ A9, (∃ w, SOK cy A9 w) → G p l e room_1 s m args below meth c D B od 9 tC_31 F (cells + 3) (slots + 18) A9 0 34 (lv0 i) []) : G p l e room_1 s m args below meth c D B od 9 tC_31 F cells slots A 0 0 (lv0 i) [] := by
  obtain ⟨fs0, ho0⟩ := hI.o0
  unfold lv0
  obtain ⟨Qr, Qx, hC, hT, hE, hA, hB⟩ := pr_profit l D cy B od hl9 hI (x0 := xs (i + 1))
  refine g_aload_n X rfl rfl ?_
  refine g_aload_n X rfl rfl ?_
  refine g_iload X rfl rfl ?_
  refine g_iconst X rfl (v := nI 1) (by decide) ?_
  refine g_iadN X rfl ?_
  refine g_sld X hs rfl (by omega) (by omega) ?_
  refine g_aload_n X rfl rfl ?_
  refine g_hp X rfl lkL_profit lmW_253 stL_profit (hp_L_profit l D cy B od (hC 0) ho0 (fun r A1 h => ⟨tyL (hT r A1 h).1, (hT r A1 h).2.1⟩) hE) rfl rfl (Nat.le_of_ble_eq_true rfl) ⟨Nat.le_of_ble_eq_true rfl, Nat.le_of_ble_eq_true rfl⟩ ⟨Nat.le_trans (Nat.add_le_add_left (show rmL_profit.cells ≤ 3 by decide) _) hcap.1, Nat.le_trans (Nat.add_le_add_left (show rmL_profit.slots ≤ 18 by decide) _) hcap.2⟩ (fun v1 A1 z1 q1 => ?_)
  have hcp : cells + rmL_profit.cells ≤ room_1.cells ∧ slots + rmL_profit.slots ≤ room_1.slots := ⟨Nat.le_trans (Nat.add_le_add_left (show rmL_profit.cells ≤ 3 by decide) _) hcap.1, Nat.le_trans (Nat.add_le_add_left (show rmL_profit.slots ≤ 18 by decide) _) hcap.2⟩
  refine g_z0 ?_
  rcases q1 with ⟨r9, A2, g, hQ, rfl, hg, rfl⟩ | ⟨E, hx, hm, rfl⟩
  · obtain ⟨x9, rfl⟩ := tyL (hT r9 A2 hQ).1
    obtain ⟨⟨f3, hf3⟩, hMd⟩ := hA _ A2 _ hQ (Or.inl ⟨rfl, g, rfl⟩)
    refine g_istore X rfl (by decide) ?_
    refine g_aload_n X rfl rfl ?_
    refine g_aload_n X rfl rfl ?_
    refine g_iload X rfl rfl ?_
    refine g_iconst X rfl (v := nI 1) (by decide) ?_
    refine g_iadN X rfl ?_
    refine g_sld X hs rfl (by omega) (by omega) ?_
    refine g_mV X rfl lcX8_profit lmW_255 lsX8_profit hMd (ci := 8) hf3 rfl rfl rfl (Nat.le_of_ble_eq_true rfl) ⟨⟨Nat.le_of_ble_eq_true rfl, Nat.le_of_ble_eq_true rfl⟩, rfl, rfl⟩ hcp (fun v2 A3 q2 => ?_)
    obtain ⟨rfl, hS, ho3⟩ := q2
    obtain ⟨W3, f4, mb3, rd3, r3, sv3, hy3, hJ, hw⟩ := id hS
    refine g_lstore X rfl (by decide) ?_
    refine g_aload_n X rfl rfl ?_
    refine g_rV X rfl lcX8_thrown lmW_152 lsX8_thrown (cr_X8_thrown l D cy B od hJ.2.1.1) (ci := 8) hJ.2.1.1 rfl rfl rfl (Nat.le_of_ble_eq_true rfl) ⟨⟨Nat.le_of_ble_eq_true rfl, Nat.le_of_ble_eq_true rfl⟩, rfl, rfl⟩ hcp ?_
    rw [hw]
    refine g_iload X rfl rfl ?_
    refine g_icmp_eq X rfl (fun _ => ?_) (fun q => absurd rfl q)
    refine g_iload X rfl rfl ?_
    refine g_if_ne X rfl (fun q => absurd nI_0 q) (fun _ => ?_)
    refine g_aload_n X rfl rfl ?_
    refine g_iconst X rfl (v := nI 0) (by decide) ?_
    refine g_laldN X rfl ho3 (by decide) (by decide) ?_
    refine g_lload X rfl rfl ?_
    refine g_l_eq X rfl rfl (fun _ => ?_) (fun q => absurd hg q)
    refine g_goto X rfl ?_
    refine g_wid (k := cells + 3) (n := slots + 18) (Nat.add_le_add_left (Nat.le_of_ble_eq_true rfl) _) (Nat.add_le_add_left (Nat.le_of_ble_eq_true rfl) _) ?_
    exact G.lvw (lvw6 (fun j hj => match j, hj with | 0, _ => rfl | 1, _ => rfl | 2, _ => rfl | 3, _ => rfl | 4, _ => rfl | 5, _ => rfl | j + 6, h => absurd h (by omega))) (kk _ ⟨_, hS⟩)
  · obtain ⟨⟨f3, hf3⟩, hMd⟩ := hB E A1 hx
    refine g_istore X rfl (by decide) ?_
    refine g_aload_n X rfl rfl ?_
    refine g_aload_n X rfl rfl ?_
    refine g_iload X rfl rfl ?_
    refine g_iconst X rfl (v := nI 1) (by decide) ?_
    refine g_iadN X rfl ?_
    refine g_sld X hs rfl (by omega) (by omega) ?_
    refine g_mV X rfl lcX8_profit lmW_255 lsX8_profit hMd (ci := 8) hf3 rfl rfl rfl (Nat.le_of_ble_eq_true rfl) ⟨⟨Nat.le_of_ble_eq_true rfl, Nat.le_of_ble_eq_true rfl⟩, rfl, rfl⟩ hcp (fun v2 A3 q2 => ?_)
    obtain ⟨⟨d9, hd9, rfl⟩, hS⟩ := q2
    obtain ⟨x9, rfl⟩ := tyL hd9
    obtain ⟨W3, f4, mb3, rd3, r3, sv3, hy3, hJ, hw⟩ := id hS
    refine g_lstore X rfl (by decide) ?_
    refine g_aload_n X rfl rfl ?_
    refine g_rV X rfl lcX8_thrown lmW_152 lsX8_thrown (cr_X8_thrown l D cy B od hJ.2.1.1) (ci := 8) hJ.2.1.1 rfl rfl rfl (Nat.le_of_ble_eq_true rfl) ⟨⟨Nat.le_of_ble_eq_true rfl, Nat.le_of_ble_eq_true rfl⟩, rfl, rfl⟩ hcp ?_
    rw [hw]
    refine g_iload X rfl rfl ?_
    refine g_icmp_eq X rfl (fun _ => ?_) (fun q => absurd rfl q)
    refine g_iload X rfl rfl ?_
    refine g_if_ne X rfl (fun _ => ?_) (fun q => absurd q (cX_n0 (by decide)))
    refine g_goto X rfl ?_
    refine g_wid (k := cells + 3) (n := slots + 18) (Nat.add_le_add_left (Nat.le_of_ble_eq_true rfl) _) (Nat.add_le_add_left (Nat.le_of_ble_eq_true rfl) _) ?_
    exact G.lvw (lvw6 (fun j hj => match j, hj with | 0, _ => rfl | 1, _ => rfl | 2, _ => rfl | 3, _ => rfl | 4, _ => rfl | 5, _ => rfl | j + 6, h => absurd h (by omega))) (kk _ ⟨_, hS⟩)
def tC_32 : List PT := [(2171, .aload_n 1, 1, 1, 0), (2172, .aload_n 0, 1, 2, 0), (2173, .iload 5, 2, 3, 0), (2175, .iconst 1, 1, 4, 0), (2176, .iadd, 1, 5, 0), (2177, .iaload, 1, 6, 0), (2178, .aload_n 3, 1, 7, 0), (2179, .invokestatic 256, 3, 8, 0), (2182, .istore 6, 2, 9, 0), (2184, .aload_n 2, 1, 10, 0), (2185, .aload_n 0, 1, 11, 0), (2186, .iload 5, 2, 12, 0), (2188, .iconst 1, 1, 13, 0), (2189, .iadd, 1, 14, 0), (2190, .iaload, 1, 15, 0), (2191, .invokevirtual 258, 3, 16, 0), (2194, .lstore 7, 2, 17, 0), (2196, .aload_n 2, 1, 18, 0), (2197, .invokevirtual 152, 3, 19, 0), (2200, .iload 6, 2, 20, 0), (2202, .if_icmp .eq 5, 3, 21, 23), (2205, .iconst 0, 1, 22, 0), (2206, .ireturn, 1, 23, 0), (2207, .iload 6, 2, 24, 0), (2209, .ifCond .ne 14, 3, 25, 33), (2212, .aload_n 3, 1, 26, 0), (2213, .iconst 0, 1, 27, 0), (2214, .laload, 1, 28, 0), (2215, .lload 7, 2, 29, 0), (2217, .lcmp, 1, 30, 0), (2218, .ifCond .eq 5, 3, 31, 33), (2221, .iconst 0, 1, 32, 0), (2222, .ireturn, 1, 33, 0), (2223, .goto 599, 3, 0, 34), (2822, .iinc 5 6, 3, 35, 0), (2825, .goto (-2797), 3, 48, 36), (28, .iload 5, 2, 37, 0), (30, .aload_n 0, 1, 38, 0), (31, .arraylength, 1, 39, 0), (32, .bipush 6, 2, 40, 0), (34, .isub, 1, 41, 0), (35, .if_icmp .gt 2793, 3, 42, 48), (38, .aload_n 0, 1, 43, 0), (39, .iload 5, 2, 44, 0), (41, .iaload, 1, 45, 0), (42, .bipush 63, 2, 46, 0), (44, .iand, 1, 47, 0), (45, .tableswitch 2777 0 47 #[207, 311, 367, 380, 424, 528, 596, 652, 708, 788, 868, 948, 992, 1048, 1092, 1105, 1118, 1162, 1218, 1286, 1342, 1421, 1504, 1559, 1603, 1671, 1755, 1823, 1891, 1959, 2015, 2071, 2126, 2181, 2207, 2232, 2246, 2302, 2358, 2414, 2457, 2471, 2536, 2615, 2671, 2726, 2739, 2764], 207, 0, 0), (2828, .iconst 1, 1, 49, 0), (2829, .ireturn, 1, 0, 0)]
set_option maxRecDepth 100000 in
theorem okC_32 : OkTab cL_law tC_32 := ⟨by decide +kernel, by decide +kernel⟩
theorem lmW_256 : LkM RL 256 yL_profitTo := lw_good_in (n := 1211) (by decide +kernel) rfl
theorem lmW_258 : LkM RL 258 yX8_profitTo := lw_good_in (n := 1763) (by decide +kernel) rfl
set_option maxRecDepth 100000 in
set_option maxHeartbeats 1000000 in
theorem law_32 (l : Launch) (D : va_G) (cy : Nat → ClassId) (B : Nat) (od : Nat → Option Nat) {p : Program} {e : Env} {s : State} {m : MethodId} {args : Array Value} {below : List Frame} {meth : Method} {c : Code} {F : State → Prop} {cells slots : Nat} {A : AH} {L i : Nat} {xs : Nat → Int32} {W : LW} {f : MF} {mb rd r sv hy : Nat → Int32} (hl9 : l.stackTraces = false) (X : Cx p s m args meth c D cy B od cL_law 9 tC_32 RL (some .boolean)) (hs : SCR B od L xs s) (hL : L ≤ 3072) (hi : i + 5 < L) (hI : INV cy A W f mb rd r sv hy) (hcap : cells + 3 ≤ 601024 ∧ slots + 18 ≤ 7293034) (kk : ∀ A9, (∃ w, SOK cy A9 w) → G p l e room_1 s m args below meth c D B od 9 tC_32 F (cells + 3) (slots + 18) A9 0 34 (lv0 i) []) : G p l e room_1 s m args below meth c D B od 9 tC_32 F cells slots A 0 0 (lv0 i) [] := by
  obtain ⟨fs0, ho0⟩ := hI.o0
  unfold lv0
  obtain ⟨Qr, Qx, hC, hT, hE, hA, hB⟩ := pr_profitTo l D cy B od hl9 hI (x0 := xs (i + 1))
  refine g_aload_n X rfl rfl ?_
  refine g_aload_n X rfl rfl ?_
  refine g_iload X rfl rfl ?_
  refine g_iconst X rfl (v := nI 1) (by decide) ?_
  refine g_iadN X rfl ?_
  refine g_sld X hs rfl (by omega) (by omega) ?_
  refine g_aload_n X rfl rfl ?_
  refine g_hp X rfl lkL_profitTo lmW_256 stL_profitTo (hp_L_profitTo l D cy B od (hC 0) ho0 (fun r A1 h => ⟨tyL (hT r A1 h).1, (hT r A1 h).2.1⟩) hE) rfl rfl (Nat.le_of_ble_eq_true rfl) ⟨Nat.le_of_ble_eq_true rfl, Nat.le_of_ble_eq_true rfl⟩ ⟨Nat.le_trans (Nat.add_le_add_left (show rmL_profitTo.cells ≤ 3 by decide) _) hcap.1, Nat.le_trans (Nat.add_le_add_left (show rmL_profitTo.slots ≤ 18 by decide) _) hcap.2⟩ (fun v1 A1 z1 q1 => ?_)
  have hcp : cells + rmL_profitTo.cells ≤ room_1.cells ∧ slots + rmL_profitTo.slots ≤ room_1.slots := ⟨Nat.le_trans (Nat.add_le_add_left (show rmL_profitTo.cells ≤ 3 by decide) _) hcap.1, Nat.le_trans (Nat.add_le_add_left (show rmL_profitTo.slots ≤ 18 by decide) _) hcap.2⟩
  refine g_z0 ?_
  rcases q1 with ⟨r9, A2, g, hQ, rfl, hg, rfl⟩ | ⟨E, hx, hm, rfl⟩
  · obtain ⟨x9, rfl⟩ := tyL (hT r9 A2 hQ).1
    obtain ⟨⟨f3, hf3⟩, hMd⟩ := hA _ A2 _ hQ (Or.inl ⟨rfl, g, rfl⟩)
    refine g_istore X rfl (by decide) ?_
    refine g_aload_n X rfl rfl ?_
    refine g_aload_n X rfl rfl ?_
    refine g_iload X rfl rfl ?_
    refine g_iconst X rfl (v := nI 1) (by decide) ?_
    refine g_iadN X rfl ?_
    refine g_sld X hs rfl (by omega) (by omega) ?_
    refine g_mV X rfl lcX8_profitTo lmW_258 lsX8_profitTo hMd (ci := 8) hf3 rfl rfl rfl (Nat.le_of_ble_eq_true rfl) ⟨⟨Nat.le_of_ble_eq_true rfl, Nat.le_of_ble_eq_true rfl⟩, rfl, rfl⟩ hcp (fun v2 A3 q2 => ?_)
    obtain ⟨rfl, hS, ho3⟩ := q2
    obtain ⟨W3, f4, mb3, rd3, r3, sv3, hy3, hJ, hw⟩ := id hS
    refine g_lstore X rfl (by decide) ?_
    refine g_aload_n X rfl rfl ?_
    refine g_rV X rfl lcX8_thrown lmW_152 lsX8_thrown (cr_X8_thrown l D cy B od hJ.2.1.1) (ci := 8) hJ.2.1.1 rfl rfl rfl (Nat.le_of_ble_eq_true rfl) ⟨⟨Nat.le_of_ble_eq_true rfl, Nat.le_of_ble_eq_true rfl⟩, rfl, rfl⟩ hcp ?_
    rw [hw]
    refine g_iload X rfl rfl ?_
    refine g_icmp_eq X rfl (fun _ => ?_) (fun q => absurd rfl q)
    refine g_iload X rfl rfl ?_
    refine g_if_ne X rfl (fun q => absurd nI_0 q) (fun _ => ?_)
    refine g_aload_n X rfl rfl ?_
    refine g_iconst X rfl (v := nI 0) (by decide) ?_
    refine g_laldN X rfl ho3 (by decide) (by decide) ?_
    refine g_lload X rfl rfl ?_
    refine g_l_eq X rfl rfl (fun _ => ?_) (fun q => absurd hg q)
    refine g_goto X rfl ?_
    refine g_wid (k := cells + 3) (n := slots + 18) (Nat.add_le_add_left (Nat.le_of_ble_eq_true rfl) _) (Nat.add_le_add_left (Nat.le_of_ble_eq_true rfl) _) ?_
    exact G.lvw (lvw6 (fun j hj => match j, hj with | 0, _ => rfl | 1, _ => rfl | 2, _ => rfl | 3, _ => rfl | 4, _ => rfl | 5, _ => rfl | j + 6, h => absurd h (by omega))) (kk _ ⟨_, hS⟩)
  · obtain ⟨⟨f3, hf3⟩, hMd⟩ := hB E A1 hx
    refine g_istore X rfl (by decide) ?_
    refine g_aload_n X rfl rfl ?_
    refine g_aload_n X rfl rfl ?_
    refine g_iload X rfl rfl ?_
    refine g_iconst X rfl (v := nI 1) (by decide) ?_
    refine g_iadN X rfl ?_
    refine g_sld X hs rfl (by omega) (by omega) ?_
    refine g_mV X rfl lcX8_profitTo lmW_258 lsX8_profitTo hMd (ci := 8) hf3 rfl rfl rfl (Nat.le_of_ble_eq_true rfl) ⟨⟨Nat.le_of_ble_eq_true rfl, Nat.le_of_ble_eq_true rfl⟩, rfl, rfl⟩ hcp (fun v2 A3 q2 => ?_)
    obtain ⟨⟨d9, hd9, rfl⟩, hS⟩ := q2
    obtain ⟨x9, rfl⟩ := tyL hd9
    obtain ⟨W3, f4, mb3, rd3, r3, sv3, hy3, hJ, hw⟩ := id hS
    refine g_lstore X rfl (by decide) ?_
    refine g_aload_n X rfl rfl ?_
    refine g_rV X rfl lcX8_thrown lmW_152 lsX8_thrown (cr_X8_thrown l D cy B od hJ.2.1.1) (ci := 8) hJ.2.1.1 rfl rfl rfl (Nat.le_of_ble_eq_true rfl) ⟨⟨Nat.le_of_ble_eq_true rfl, Nat.le_of_ble_eq_true rfl⟩, rfl, rfl⟩ hcp ?_
    rw [hw]
    refine g_iload X rfl rfl ?_
    refine g_icmp_eq X rfl (fun _ => ?_) (fun q => absurd rfl q)
    refine g_iload X rfl rfl ?_
    refine g_if_ne X rfl (fun _ => ?_) (fun q => absurd q (cX_n0 (by decide)))
    refine g_goto X rfl ?_
    refine g_wid (k := cells + 3) (n := slots + 18) (Nat.add_le_add_left (Nat.le_of_ble_eq_true rfl) _) (Nat.add_le_add_left (Nat.le_of_ble_eq_true rfl) _) ?_
    exact G.lvw (lvw6 (fun j hj => match j, hj with | 0, _ => rfl | 1, _ => rfl | 2, _ => rfl | 3, _ => rfl | 4, _ => rfl | 5, _ => rfl | j + 6, h => absurd h (by omega))) (kk _ ⟨_, hS⟩)
def tC_33 : List PT := [(2226, .aload_n 1, 1, 1, 0), (2227, .aload_n 0, 1, 2, 0), (2228, .iload 5, 2, 3, 0), (2230, .iconst 1, 1, 4, 0), (2231, .iadd, 1, 5, 0), (2232, .iaload, 1, 6, 0), (2233, .invokevirtual 259, 3, 7, 0), (2236, .aload_n 2, 1, 8, 0), (2237, .aload_n 0, 1, 9, 0), (2238, .iload 5, 2, 10, 0), (2240, .iconst 1, 1, 11, 0), (2241, .iadd, 1, 12, 0), (2242, .iaload, 1, 13, 0), (2243, .invokevirtual 262, 3, 14, 0), (2246, .lcmp, 1, 15, 0), (2247, .ifCond .eq 575, 3, 16, 18), (2250, .iconst 0, 1, 17, 0), (2251, .ireturn, 1, 0, 0), (2822, .iinc 5 6, 3, 19, 0), (2825, .goto (-2797), 3, 32, 20), (28, .iload 5, 2, 21, 0), (30, .aload_n 0, 1, 22, 0), (31, .arraylength, 1, 23, 0), (32, .bipush 6, 2, 24, 0), (34, .isub, 1, 25, 0), (35, .if_icmp .gt 2793, 3, 26, 32), (38, .aload_n 0, 1, 27, 0), (39, .iload 5, 2, 28, 0), (41, .iaload, 1, 29, 0), (42, .bipush 63, 2, 30, 0), (44, .iand, 1, 31, 0), (45, .tableswitch 2777 0 47 #[207, 311, 367, 380, 424, 528, 596, 652, 708, 788, 868, 948, 992, 1048, 1092, 1105, 1118, 1162, 1218, 1286, 1342, 1421, 1504, 1559, 1603, 1671, 1755, 1823, 1891, 1959, 2015, 2071, 2126, 2181, 2207, 2232, 2246, 2302, 2358, 2414, 2457, 2471, 2536, 2615, 2671, 2726, 2739, 2764], 207, 0, 0), (2828, .iconst 1, 1, 33, 0), (2829, .ireturn, 1, 0, 0)]
set_option maxRecDepth 100000 in
theorem okC_33 : OkTab cL_law tC_33 := ⟨by decide +kernel, by decide +kernel⟩
theorem lmW_259 : LkM RL 259 yX7_tax := lw_good_in (n := 623) (by decide +kernel) rfl
theorem lmW_262 : LkM RL 262 yX8_tax := lw_good_in (n := 1767) (by decide +kernel) rfl
set_option maxRecDepth 100000 in
set_option maxHeartbeats 1000000 in
theorem law_33 (l : Launch) (D : va_G) (cy : Nat → ClassId) (B : Nat) (od : Nat → Option Nat) {p : Program} {e : Env} {s : State} {m : MethodId} {args : Array Value} {below : List Frame} {meth : Method} {c : Code} {F : State → Prop} {cells slots : Nat} {A : AH} {L i : Nat} {xs : Nat → Int32} {W : LW} {f : MF} {mb rd r sv hy : Nat → Int32} (hl9 : l.stackTraces = false) (X : Cx p s m args meth c D cy B od cL_law 9 tC_33 RL (some .boolean)) (hs : SCR B od L xs s) (hL : L ≤ 3072) (hi : i + 5 < L) (hI : INV cy A W f mb rd r sv hy) (hcap : cells + 3 ≤ 601024 ∧ slots + 18 ≤ 7293034) (kk : ∀ A9, (∃ w, SOK cy A9 w) → G p l e room_1 s m args below meth c D B od 9 tC_33 F (cells + 3) (slots + 18) A9 0 18 (lv0 i) []) : G p l e room_1 s m args below meth c D B od 9 tC_33 F cells slots A 0 0 (lv0 i) [] := by
  obtain ⟨fs0, ho0⟩ := hI.o0
  unfold lv0
  have hcp : cells ≤ room_1.cells ∧ slots ≤ room_1.slots := ⟨Nat.le_trans (Nat.le_add_right _ 3) hcap.1, Nat.le_trans (Nat.le_add_right _ 18) hcap.2⟩
  refine g_aload_n X rfl rfl ?_
  refine g_aload_n X rfl rfl ?_
  refine g_iload X rfl rfl ?_
  refine g_iconst X rfl (v := nI 1) (by decide) ?_
  refine g_iadN X rfl ?_
  refine g_sld X hs rfl (by omega) (by omega) ?_
  refine g_rV X rfl lcX7_tax lmW_259 lsX7_tax (cr_X7_tax l D cy B od hI.vw) (ci := 7) ho0 rfl rfl rfl (Nat.le_of_ble_eq_true rfl) ⟨⟨Nat.le_of_ble_eq_true rfl, Nat.le_of_ble_eq_true rfl⟩, rfl, rfl⟩ hcp ?_
  refine g_aload_n X rfl rfl ?_
  refine g_aload_n X rfl rfl ?_
  refine g_iload X rfl rfl ?_
  refine g_iconst X rfl (v := nI 1) (by decide) ?_
  refine g_iadN X rfl ?_
  refine g_sld X hs rfl (by omega) (by omega) ?_
  refine g_mV X rfl lcX8_tax lmW_262 lsX8_tax (cm_X8_tax l D cy B od hI.mdr hI.2.2.1.1.2.1 hI.2.2.1.1.2.2) (ci := 8) hI.2.1.1 rfl rfl rfl (Nat.le_of_ble_eq_true rfl) ⟨⟨Nat.le_of_ble_eq_true rfl, Nat.le_of_ble_eq_true rfl⟩, rfl, rfl⟩ hcp (fun v2 A3 q2 => ?_)
  obtain ⟨rfl, rfl⟩ := q2
  refine g_l_eq X rfl rfl (fun _ => ?_) (fun q => absurd rfl q)
  refine g_wid (Nat.le_add_right _ 3) (Nat.le_add_right _ 18) ?_
  exact G.lvw (lvw6 (fun j hj => match j, hj with | 0, _ => rfl | 1, _ => rfl | 2, _ => rfl | 3, _ => rfl | 4, _ => rfl | 5, _ => rfl | j + 6, h => absurd h (by omega))) (kk _ ⟨_, (⟨_, _, _, _, _, _, _, hI.thr (w := nI 0), rfl⟩ : SOK cy _ 0)⟩)
def tC_34 : List PT := [(2252, .aload_n 1, 1, 1, 0), (2253, .aload_n 0, 1, 2, 0), (2254, .iload 5, 2, 3, 0), (2256, .iconst 1, 1, 4, 0), (2257, .iadd, 1, 5, 0), (2258, .iaload, 1, 6, 0), (2259, .invokevirtual 263, 3, 7, 0), (2262, .aload_n 2, 1, 8, 0), (2263, .aload_n 0, 1, 9, 0), (2264, .iload 5, 2, 10, 0), (2266, .iconst 1, 1, 11, 0), (2267, .iadd, 1, 12, 0), (2268, .iaload, 1, 13, 0), (2269, .invokevirtual 266, 3, 14, 0), (2272, .if_icmp .eq 550, 3, 15, 17), (2275, .iconst 0, 1, 16, 0), (2276, .ireturn, 1, 0, 0), (2822, .iinc 5 6, 3, 18, 0), (2825, .goto (-2797), 3, 31, 19), (28, .iload 5, 2, 20, 0), (30, .aload_n 0, 1, 21, 0), (31, .arraylength, 1, 22, 0), (32, .bipush 6, 2, 23, 0), (34, .isub, 1, 24, 0), (35, .if_icmp .gt 2793, 3, 25, 31), (38, .aload_n 0, 1, 26, 0), (39, .iload 5, 2, 27, 0), (41, .iaload, 1, 28, 0), (42, .bipush 63, 2, 29, 0), (44, .iand, 1, 30, 0), (45, .tableswitch 2777 0 47 #[207, 311, 367, 380, 424, 528, 596, 652, 708, 788, 868, 948, 992, 1048, 1092, 1105, 1118, 1162, 1218, 1286, 1342, 1421, 1504, 1559, 1603, 1671, 1755, 1823, 1891, 1959, 2015, 2071, 2126, 2181, 2207, 2232, 2246, 2302, 2358, 2414, 2457, 2471, 2536, 2615, 2671, 2726, 2739, 2764], 207, 0, 0), (2828, .iconst 1, 1, 32, 0), (2829, .ireturn, 1, 0, 0)]
set_option maxRecDepth 100000 in
theorem okC_34 : OkTab cL_law tC_34 := ⟨by decide +kernel, by decide +kernel⟩
theorem lmW_263 : LkM RL 263 yX7_rate := lw_good_in (n := 638) (by decide +kernel) rfl
theorem lmW_266 : LkM RL 266 yX8_rate := lw_good_in (n := 1771) (by decide +kernel) rfl
set_option maxRecDepth 100000 in
set_option maxHeartbeats 1000000 in
theorem law_34 (l : Launch) (D : va_G) (cy : Nat → ClassId) (B : Nat) (od : Nat → Option Nat) {p : Program} {e : Env} {s : State} {m : MethodId} {args : Array Value} {below : List Frame} {meth : Method} {c : Code} {F : State → Prop} {cells slots : Nat} {A : AH} {L i : Nat} {xs : Nat → Int32} {W : LW} {f : MF} {mb rd r sv hy : Nat → Int32} (hl9 : l.stackTraces = false) (X : Cx p s m args meth c D cy B od cL_law 9 tC_34 RL (some .boolean)) (hs : SCR B od L xs s) (hL : L ≤ 3072) (hi : i + 5 < L) (hI : INV cy A W f mb rd r sv hy) (hcap : cells + 3 ≤ 601024 ∧ slots + 18 ≤ 7293034) (kk : ∀ A9, (∃ w, SOK cy A9 w) → G p l e room_1 s m args below meth c D B od 9 tC_34 F (cells + 3) (slots + 18) A9 0 17 (lv0 i) []) : G p l e room_1 s m args below meth c D B od 9 tC_34 F cells slots A 0 0 (lv0 i) [] := by
  obtain ⟨fs0, ho0⟩ := hI.o0
  unfold lv0
  have hcp : cells ≤ room_1.cells ∧ slots ≤ room_1.slots := ⟨Nat.le_trans (Nat.le_add_right _ 3) hcap.1, Nat.le_trans (Nat.le_add_right _ 18) hcap.2⟩
  refine g_aload_n X rfl rfl ?_
  refine g_aload_n X rfl rfl ?_
  refine g_iload X rfl rfl ?_
  refine g_iconst X rfl (v := nI 1) (by decide) ?_
  refine g_iadN X rfl ?_
  refine g_sld X hs rfl (by omega) (by omega) ?_
  refine g_rV X rfl lcX7_rate lmW_263 lsX7_rate (cr_X7_rate l D cy B od hI.vw) (ci := 7) ho0 rfl rfl rfl (Nat.le_of_ble_eq_true rfl) ⟨⟨Nat.le_of_ble_eq_true rfl, Nat.le_of_ble_eq_true rfl⟩, rfl, rfl⟩ hcp ?_
  refine g_aload_n X rfl rfl ?_
  refine g_aload_n X rfl rfl ?_
  refine g_iload X rfl rfl ?_
  refine g_iconst X rfl (v := nI 1) (by decide) ?_
  refine g_iadN X rfl ?_
  refine g_sld X hs rfl (by omega) (by omega) ?_
  refine g_mV X rfl lcX8_rate lmW_266 lsX8_rate (cm_X8_rate l D cy B od hI.mdr hI.2.2.1.1.2.1 hI.2.2.1.1.2.2) (ci := 8) hI.2.1.1 rfl rfl rfl (Nat.le_of_ble_eq_true rfl) ⟨⟨Nat.le_of_ble_eq_true rfl, Nat.le_of_ble_eq_true rfl⟩, rfl, rfl⟩ hcp (fun v2 A3 q2 => ?_)
  obtain ⟨rfl, rfl⟩ := q2
  refine g_icmp_eq X rfl (fun _ => ?_) (fun q => absurd rfl q)
  refine g_wid (Nat.le_add_right _ 3) (Nat.le_add_right _ 18) ?_
  exact G.lvw (lvw6 (fun j hj => match j, hj with | 0, _ => rfl | 1, _ => rfl | 2, _ => rfl | 3, _ => rfl | 4, _ => rfl | 5, _ => rfl | j + 6, h => absurd h (by omega))) (kk _ ⟨_, (⟨_, _, _, _, _, _, _, hI.thr (w := nI 0), rfl⟩ : SOK cy _ 0)⟩)
def tC_35 : List PT := [(2277, .aload_n 1, 1, 1, 0), (2278, .invokevirtual 267, 3, 2, 0), (2281, .aload_n 2, 1, 3, 0), (2282, .invokevirtual 270, 3, 4, 0), (2285, .lcmp, 1, 5, 0), (2286, .ifCond .eq 536, 3, 6, 8), (2289, .iconst 0, 1, 7, 0), (2290, .ireturn, 1, 0, 0), (2822, .iinc 5 6, 3, 9, 0), (2825, .goto (-2797), 3, 22, 10), (28, .iload 5, 2, 11, 0), (30, .aload_n 0, 1, 12, 0), (31, .arraylength, 1, 13, 0), (32, .bipush 6, 2, 14, 0), (34, .isub, 1, 15, 0), (35, .if_icmp .gt 2793, 3, 16, 22), (38, .aload_n 0, 1, 17, 0), (39, .iload 5, 2, 18, 0), (41, .iaload, 1, 19, 0), (42, .bipush 63, 2, 20, 0), (44, .iand, 1, 21, 0), (45, .tableswitch 2777 0 47 #[207, 311, 367, 380, 424, 528, 596, 652, 708, 788, 868, 948, 992, 1048, 1092, 1105, 1118, 1162, 1218, 1286, 1342, 1421, 1504, 1559, 1603, 1671, 1755, 1823, 1891, 1959, 2015, 2071, 2126, 2181, 2207, 2232, 2246, 2302, 2358, 2414, 2457, 2471, 2536, 2615, 2671, 2726, 2739, 2764], 207, 0, 0), (2828, .iconst 1, 1, 23, 0), (2829, .ireturn, 1, 0, 0)]
set_option maxRecDepth 100000 in
theorem okC_35 : OkTab cL_law tC_35 := ⟨by decide +kernel, by decide +kernel⟩
theorem lmW_267 : LkM RL 267 yX7_yearTax := lw_good_in (n := 646) (by decide +kernel) rfl
theorem lmW_270 : LkM RL 270 yX8_yearTax := lw_good_in (n := 1775) (by decide +kernel) rfl
set_option maxRecDepth 100000 in
set_option maxHeartbeats 1000000 in
theorem law_35 (l : Launch) (D : va_G) (cy : Nat → ClassId) (B : Nat) (od : Nat → Option Nat) {p : Program} {e : Env} {s : State} {m : MethodId} {args : Array Value} {below : List Frame} {meth : Method} {c : Code} {F : State → Prop} {cells slots : Nat} {A : AH} {L i : Nat} {xs : Nat → Int32} {W : LW} {f : MF} {mb rd r sv hy : Nat → Int32} (hl9 : l.stackTraces = false) (X : Cx p s m args meth c D cy B od cL_law 9 tC_35 RL (some .boolean)) (hs : SCR B od L xs s) (hL : L ≤ 3072) (hi : i + 5 < L) (hI : INV cy A W f mb rd r sv hy) (hcap : cells + 3 ≤ 601024 ∧ slots + 18 ≤ 7293034) (kk : ∀ A9, (∃ w, SOK cy A9 w) → G p l e room_1 s m args below meth c D B od 9 tC_35 F (cells + 3) (slots + 18) A9 0 8 (lv0 i) []) : G p l e room_1 s m args below meth c D B od 9 tC_35 F cells slots A 0 0 (lv0 i) [] := by
  obtain ⟨fs0, ho0⟩ := hI.o0
  unfold lv0
  have hcp : cells ≤ room_1.cells ∧ slots ≤ room_1.slots := ⟨Nat.le_trans (Nat.le_add_right _ 3) hcap.1, Nat.le_trans (Nat.le_add_right _ 18) hcap.2⟩
  refine g_aload_n X rfl rfl ?_
  refine g_rV X rfl lcX7_yearTax lmW_267 lsX7_yearTax (cr_X7_yearTax l D cy B od hI.vw) (ci := 7) ho0 rfl rfl rfl (Nat.le_of_ble_eq_true rfl) ⟨⟨Nat.le_of_ble_eq_true rfl, Nat.le_of_ble_eq_true rfl⟩, rfl, rfl⟩ hcp ?_
  refine g_aload_n X rfl rfl ?_
  refine g_mV X rfl lcX8_yearTax lmW_270 lsX8_yearTax (cm_X8_yearTax l D cy B od hI.mdr hI.2.2.1.1.2.1 hI.2.2.1.1.2.2) (ci := 8) hI.2.1.1 rfl rfl rfl (Nat.le_of_ble_eq_true rfl) ⟨⟨Nat.le_of_ble_eq_true rfl, Nat.le_of_ble_eq_true rfl⟩, rfl, rfl⟩ hcp (fun v2 A3 q2 => ?_)
  obtain ⟨rfl, rfl⟩ := q2
  refine g_l_eq X rfl rfl (fun _ => ?_) (fun q => absurd rfl q)
  refine g_wid (Nat.le_add_right _ 3) (Nat.le_add_right _ 18) ?_
  exact G.lvw (lvw6 (fun j hj => match j, hj with | 0, _ => rfl | 1, _ => rfl | 2, _ => rfl | 3, _ => rfl | 4, _ => rfl | 5, _ => rfl | j + 6, h => absurd h (by omega))) (kk _ ⟨_, (⟨_, _, _, _, _, _, _, hI.thr (w := nI 0), rfl⟩ : SOK cy _ 0)⟩)
