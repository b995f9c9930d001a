/-! 67: the law's loop -/
def tH : List PT := [(0, .new 8, 3, 1, 0), (3, .dup, 1, 2, 0), (4, .invokespecial 142, 3, 3, 0), (7, .astore_n 1, 1, 4, 0), (8, .new 143, 3, 5, 0), (11, .dup, 1, 6, 0), (12, .invokespecial 145, 3, 7, 0), (15, .astore_n 2, 1, 8, 0), (16, .iconst 1, 1, 9, 0), (17, .newarray .long, 2, 10, 0), (19, .astore_n 3, 1, 11, 0), (20, .iconst 1, 1, 12, 0), (21, .newarray .double, 2, 13, 0), (23, .astore 4, 2, 14, 0), (25, .iconst 0, 1, 15, 0), (26, .istore 5, 2, 16, 0), (28, .iload 5, 2, 17, 0), (30, .aload_n 0, 1, 18, 0), (31, .arraylength, 1, 19, 0), (32, .bipush 6, 2, 20, 0), (34, .isub, 1, 21, 0), (35, .if_icmp .gt 2793, 3, 22, 30), (38, .aload_n 0, 1, 23, 0), (39, .iload 5, 2, 24, 0), (41, .iaload, 1, 25, 0), (42, .bipush 63, 2, 26, 0), (44, .iand, 1, 27, 0), (45, .tableswitch 2777 0 47 #[207, 311, 367, 380, 424, 528, 596, 652, 708, 788, 868, 948, 992, 1048, 1092, 1105, 1118, 1162, 1218, 1286, 1342, 1421, 1504, 1559, 1603, 1671, 1755, 1823, 1891, 1959, 2015, 2071, 2126, 2181, 2207, 2232, 2246, 2302, 2358, 2414, 2457, 2471, 2536, 2615, 2671, 2726, 2739, 2764], 207, 0, 0), (2822, .iinc 5 6, 3, 29, 0), (2825, .goto (-2797), 3, 0, 16), (2828, .iconst 1, 1, 31, 0), (2829, .ireturn, 1, 0, 0)]
set_option maxRecDepth 100000 in
theorem okH : OkTab cL_law tH := ⟨by decide +kernel, by decide +kernel⟩
theorem and63 (x : Int32) : ∃ v, v < 64 ∧ x &&& nI 63 = nI v := by
  have e : x = nI x.toBitVec.toNat := by
    apply Int32.toBitVec_inj.1
    show x.toBitVec = BitVec.ofNat 32 x.toBitVec.toNat
    simp
  have ha : ∀ a b : Nat, nI a &&& nI b = nI (a &&& b) := by
    intro a b
    apply Int32.toBitVec_inj.1
    show BitVec.ofNat 32 a &&& BitVec.ofNat 32 b = BitVec.ofNat 32 (a &&& b)
    apply BitVec.eq_of_getLsbD_eq
    intro i hi
    simp [hi]
  refine ⟨x.toBitVec.toNat % 64, Nat.mod_lt _ (by omega), ?_⟩
  rw [show (64 : Nat) = 2 ^ 6 from rfl, ← Nat.and_two_pow_sub_one_eq_mod, ← ha, ← e]
theorem hd_le {L i : Nat} (hL : L ≤ 3072) (hi : i ≤ 3100) : (nI L - nI 6 < nI i) ↔ ¬ i + 6 ≤ L := by
  rw [Int32.lt_iff_toInt_lt, Int32.toInt_sub, nI_toInt (by omega), nI_toInt (by omega), nI_toInt (by omega), Int.bmod_eq_of_le (by omega) (by omega)]
  omega
section CORE67
variable {p : Program} {l : Launch} {e : Env} {R : Room} {s : State} {m : MethodId} {args : Array Value} {below : List Frame} {meth : Method} {c : Code}
variable {D : va_G} {cy : Nat → ClassId} {B : Nat} {od : Nat → Option Nat} {cc : ByteArray} {nL : Nat} {tab : List PT} {own : String} {ret : Option FieldType}
variable {F : State → Prop} {cells slots : Nat} {A : AH} {z i pc len nx tg : Nat} {lv : List (Option Value)} {st : List Value}
/-- a switch into another table of the same code -/
theorem g_tswT (X : Cx p s m args meth c D cy B od cc nL tab own ret) {dflt lo hi off : Int} {offs : Array Int} {x : Int32} {tb2 : List PT} {q2 : PT} (h9 : tab[i]? = some (pc, .tableswitch dflt lo hi offs, len, nx, tg)) (h1 : ¬ x.toInt < lo) (h2 : ¬ hi < x.toInt) (ho : offs[(x.toInt - lo).toNat]? = some off) (hj : tb2[0]? = some q2) (ht : (pc : Int) + off = (q2.1 : Int)) (kk : G p l e R s m args below meth c D B od nL tb2 F cells slots A z 0 lv st) : G p l e R s m args below meth c D B od nL tab F cells slots A z i lv (.int x :: st) := by
  intro q hq H locs ls hR hS hl
  cases Option.some.inj (h9.symm.trans hq)
  exact lv_tableIn X.1.1 X.1.2.1 (X.2.2.2.1.dec h9) h1 h2 ho ht (kk q2 hj H locs ls hR hS hl)
end CORE67
set_option maxRecDepth 100000 in
set_option maxHeartbeats 2000000 in
theorem law_loop (l : Launch) (D : va_G) (cy : Nat → ClassId) (B : Nat) (od : Nat → Option Nat) {p : Program} {e : Env} {s : State} {m : MethodId} {args : Array Value} {below : List Frame} {meth : Method} {c : Code} {L : Nat} {xs : Nat → Int32} (hl9 : l.stackTraces = false) (X : Cx p s m args meth c D cy B od cL_law 9 tH RL (some .boolean)) (hs : SCR B od L xs s) (hL : L ≤ 3072) {b : Nat} (ha : args = #[Value.ref b]) (hB : s.heap.size ≤ B) : ∀ (k n : Nat) (A : AH), 6 * n ≤ L → L - 6 * n < k → (∃ w, SOK cy A w) → G p l e room_1 s m args below meth c D B od 9 tH (lw_Z below args s) (300 + 3 * n) (20000 + 18 * n) A 0 16 (lv0 (6 * n)) [] := by
  intro k
  induction k with
  | zero => intro n A _ h; omega
  | succ k ih =>
    intro n A hn hk hw
    have hcap : 300 + 3 * n + 3 ≤ 601024 ∧ 20000 + 18 * n + 18 ≤ 7293034 := by omega
    have K : ∀ (hn2 : 6 * n + 6 ≤ L) (tb : List PT) (j : Nat) (q : PT) (A9 : AH), tb[j]? = some q → q.1 = 2822 → (∃ w, SOK cy A9 w) → G p l e room_1 s m args below meth c D B od 9 tb (lw_Z below args s) (300 + 3 * n + 3) (20000 + 18 * n + 18) A9 0 j (lv0 (6 * n)) [] := by
      intro hn2 tb j q A9 hq hpc hw9
      refine g_tab (tb2 := tH) (j := 28) hq rfl hpc.symm ?_
      unfold lv0
      refine g_iinc X rfl rfl (by decide) ?_
      rw [show nI (6 * n) + Int32.ofInt 6 = nI (6 * (n + 1)) by rw [show Int32.ofInt 6 = nI 6 by decide, nI_add, Nat.mul_succ]]
      refine g_goto X rfl ?_
      have K9 := ih (n + 1) A9 (by omega) (by omega) hw9
      rw [show 300 + 3 * (n + 1) = 300 + 3 * n + 3 by omega, show 20000 + 18 * (n + 1) = 20000 + 18 * n + 18 by omega] at K9
      exact K9
    unfold lv0
    refine g_iload X rfl rfl ?_
    refine g_aload_n X rfl rfl ?_
    refine g_slen X hs rfl ?_
    refine g_bipush X rfl (v := nI 6) (by decide) ?_
    refine g_isub X rfl ?_
    refine g_icmp_gt X rfl (fun h => ?_) (fun h => ?_)
    · refine g_iconst X rfl (v := nI 1) (by decide) ?_
      exact g_lawend X ha rfl rfl rfl hB rfl (by omega) (by omega)
    · have hn2 : 6 * n + 6 ≤ L := Classical.not_not.mp (fun q => h ((hd_le hL (by omega)).mpr q))
      refine g_aload_n X rfl rfl ?_
      refine g_iload X rfl rfl ?_
      refine g_sld X hs rfl (by omega) (by omega) ?_
      refine g_bipush X rfl (v := nI 63) (by decide) ?_
      refine g_iand X rfl ?_
      obtain ⟨v, hv, ev⟩ := and63 (xs (6 * n))
      rw [ev]
      obtain ⟨w, W, f, mb, rd, r, sv, hy, hI, hw1⟩ := id hw
      match v, hv, ev with
      | 0, _, ev9 => exact g_tswT (tb2 := tC_0) X rfl (by rw [nI_toInt (by decide)]; decide) (by rw [nI_toInt (by decide)]; decide) (off := 207) (by rw [nI_toInt (by decide)]; rfl) rfl (by decide) (law_0 l D cy B od hl9 (X.tb okC_0) hs hL (by omega) hI hcap (fun A9 hw9 => K hn2 tC_0 75 _ A9 rfl rfl hw9))
      | 1, _, ev9 => exact g_tswT (tb2 := tC_1) X rfl (by rw [nI_toInt (by decide)]; decide) (by rw [nI_toInt (by decide)]; decide) (off := 311) (by rw [nI_toInt (by decide)]; rfl) rfl (by decide) (law_1 l D cy B od hl9 (X.tb okC_1) hs hL (by omega) hI hcap (fun A9 hw9 => K hn2 tC_1 35 _ A9 rfl rfl hw9))
      | 2, _, ev9 => exact g_tswT (tb2 := tC_2) X rfl (by rw [nI_toInt (by decide)]; decide) (by rw [nI_toInt (by decide)]; decide) (off := 367) (by rw [nI_toInt (by decide)]; rfl) rfl (by decide) (law_2 l D cy B od hl9 (X.tb okC_2) hs hL (by omega) hI hcap (fun A9 hw9 => K hn2 tC_2 7 _ A9 rfl rfl hw9))
      | 3, _, ev9 => exact g_tswT (tb2 := tC_3) X rfl (by rw [nI_toInt (by decide)]; decide) (by rw [nI_toInt (by decide)]; decide) (off := 380) (by rw [nI_toInt (by decide)]; rfl) rfl (by decide) (law_3 l D cy B od hl9 (X.tb okC_3) hs hL (by omega) hI hcap (fun A9 hw9 => K hn2 tC_3 25 _ A9 rfl rfl hw9))
      | 4, _, ev9 => exact g_tswT (tb2 := tC_4) X rfl (by rw [nI_toInt (by decide)]; decide) (by rw [nI_toInt (by decide)]; decide) (off := 424) (by rw [nI_toInt (by decide)]; rfl) rfl (by decide) (law_4 l D cy B od hl9 (X.tb okC_4) hs hL (by omega) hI hcap (fun A9 hw9 => K hn2 tC_4 75 _ A9 rfl rfl hw9))
      | 5, _, ev9 => exact g_tswT (tb2 := tC_5) X rfl (by rw [nI_toInt (by decide)]; decide) (by rw [nI_toInt (by decide)]; decide) (off := 528) (by rw [nI_toInt (by decide)]; rfl) rfl (by decide) (law_5 l D cy B od hl9 (X.tb okC_5) hs hL (by omega) hI hcap (fun A9 hw9 => K hn2 tC_5 45 _ A9 rfl rfl hw9))
      | 6, _, ev9 => exact g_tswT (tb2 := tC_6) X rfl (by rw [nI_toInt (by decide)]; decide) (by rw [nI_toInt (by decide)]; decide) (off := 596) (by rw [nI_toInt (by decide)]; rfl) rfl (by decide) (law_6 l D cy B od hl9 (X.tb okC_6) hs hL (by omega) hI hcap (fun A9 hw9 => K hn2 tC_6 35 _ A9 rfl rfl hw9))
      | 7, _, ev9 => exact g_tswT (tb2 := tC_7) X rfl (by rw [nI_toInt (by decide)]; decide) (by rw [nI_toInt (by decide)]; decide) (off := 652) (by rw [nI_toInt (by decide)]; rfl) rfl (by decide) (law_7 l D cy B od hl9 (X.tb okC_7) hs hL (by omega) hI hcap (fun A9 hw9 => K hn2 tC_7 35 _ A9 rfl rfl hw9))
      | 8, _, ev9 => exact g_tswT (tb2 := tC_8) X rfl (by rw [nI_toInt (by decide)]; decide) (by rw [nI_toInt (by decide)]; decide) (off := 708) (by rw [nI_toInt (by decide)]; rfl) rfl (by decide) (law_8 l D cy B od hl9 (X.tb okC_8) hs hL (by omega) hI hcap (fun A9 hw9 => K hn2 tC_8 55 _ A9 rfl rfl hw9))
      | 9, _, ev9 => exact g_tswT (tb2 := tC_9) X rfl (by rw [nI_toInt (by decide)]; decide) (by rw [nI_toInt (by decide)]; decide) (off := 788) (by rw [nI_toInt (by decide)]; rfl) rfl (by decide) (law_9 l D cy B od hl9 (X.tb okC_9) hs hL (by omega) hI hcap (fun A9 hw9 => K hn2 tC_9 55 _ A9 rfl rfl hw9))
      | 10, _, ev9 => exact g_tswT (tb2 := tC_10) X rfl (by rw [nI_toInt (by decide)]; decide) (by rw [nI_toInt (by decide)]; decide) (off := 868) (by rw [nI_toInt (by decide)]; rfl) rfl (by decide) (law_10 l D cy B od hl9 (X.tb okC_10) hs hL (by omega) hI hcap (fun A9 hw9 => K hn2 tC_10 55 _ A9 rfl rfl hw9))
      | 11, _, ev9 => exact g_tswT (tb2 := tC_11) X rfl (by rw [nI_toInt (by decide)]; decide) (by rw [nI_toInt (by decide)]; decide) (off := 948) (by rw [nI_toInt (by decide)]; rfl) rfl (by decide) (law_11 l D cy B od hl9 (X.tb okC_11) hs hL (by omega) hI hcap (fun A9 hw9 => K hn2 tC_11 25 _ A9 rfl rfl hw9))
      | 12, _, ev9 => exact g_tswT (tb2 := tC_12) X rfl (by rw [nI_toInt (by decide)]; decide) (by rw [nI_toInt (by decide)]; decide) (off := 992) (by rw [nI_toInt (by decide)]; rfl) rfl (by decide) (law_12 l D cy B od hl9 (X.tb okC_12) hs hL (by omega) hI hcap (fun A9 hw9 => K hn2 tC_12 35 _ A9 rfl rfl hw9))
      | 13, _, ev9 => exact g_tswT (tb2 := tC_13) X rfl (by rw [nI_toInt (by decide)]; decide) (by rw [nI_toInt (by decide)]; decide) (off := 1048) (by rw [nI_toInt (by decide)]; rfl) rfl (by decide) (law_13 l D cy B od hl9 (X.tb okC_13) hs hL (by omega) hI hcap (fun A9 hw9 => K hn2 tC_13 25 _ A9 rfl rfl hw9))
      | 14, _, ev9 => exact g_tswT (tb2 := tC_14) X rfl (by rw [nI_toInt (by decide)]; decide) (by rw [nI_toInt (by decide)]; decide) (off := 1092) (by rw [nI_toInt (by decide)]; rfl) rfl (by decide) (law_14 l D cy B od hl9 (X.tb okC_14) hs hL (by omega) hI hcap (fun A9 hw9 => K hn2 tC_14 7 _ A9 rfl rfl hw9))
      | 15, _, ev9 => exact g_tswT (tb2 := tC_15) X rfl (by rw [nI_toInt (by decide)]; decide) (by rw [nI_toInt (by decide)]; decide) (off := 1105) (by rw [nI_toInt (by decide)]; rfl) rfl (by decide) (law_15 l D cy B od hl9 (X.tb okC_15) hs hL (by omega) hI hcap (fun A9 hw9 => K hn2 tC_15 7 _ A9 rfl rfl hw9))
      | 16, _, ev9 => exact g_tswT (tb2 := tC_16) X rfl (by rw [nI_toInt (by decide)]; decide) (by rw [nI_toInt (by decide)]; decide) (off := 1118) (by rw [nI_toInt (by decide)]; rfl) rfl (by decide) (law_16 l D cy B od hl9 (X.tb okC_16) hs hL (by omega) hI hcap (fun A9 hw9 => K hn2 tC_16 25 _ A9 rfl rfl hw9))
      | 17, _, ev9 => exact g_tswT (tb2 := tC_17) X rfl (by rw [nI_toInt (by decide)]; decide) (by rw [nI_toInt (by decide)]; decide) (off := 1162) (by rw [nI_toInt (by decide)]; rfl) rfl (by decide) (law_17 l D cy B od hl9 (X.tb okC_17) hs hL (by omega) hI hcap (fun A9 hw9 => K hn2 tC_17 35 _ A9 rfl rfl hw9))
      | 18, _, ev9 => exact g_tswT (tb2 := tC_18) X rfl (by rw [nI_toInt (by decide)]; decide) (by rw [nI_toInt (by decide)]; decide) (off := 1218) (by rw [nI_toInt (by decide)]; rfl) rfl (by decide) (law_18 l D cy B od hl9 (X.tb okC_18) hs hL (by omega) hI hcap (fun A9 hw9 => K hn2 tC_18 45 _ A9 rfl rfl hw9))
      | 19, _, ev9 => exact g_tswT (tb2 := tC_19) X rfl (by rw [nI_toInt (by decide)]; decide) (by rw [nI_toInt (by decide)]; decide) (off := 1286) (by rw [nI_toInt (by decide)]; rfl) rfl (by decide) (law_19 l D cy B od hl9 (X.tb okC_19) hs hL (by omega) hI hcap (fun A9 hw9 => K hn2 tC_19 35 _ A9 rfl rfl hw9))
      | 20, _, ev9 => exact g_tswT (tb2 := tC_20) X rfl (by rw [nI_toInt (by decide)]; decide) (by rw [nI_toInt (by decide)]; decide) (off := 1342) (by rw [nI_toInt (by decide)]; rfl) rfl (by decide) (law_20 l D cy B od hl9 (X.tb okC_20) hs hL (by omega) hI hcap (fun A9 hw9 => K hn2 tC_20 54 _ A9 rfl rfl hw9))
      | 21, _, ev9 => exact g_tswT (tb2 := tC_21) X rfl (by rw [nI_toInt (by decide)]; decide) (by rw [nI_toInt (by decide)]; decide) (off := 1421) (by rw [nI_toInt (by decide)]; rfl) rfl (by decide) (law_21 l D cy B od hl9 (X.tb okC_21) hs hL (by omega) hI hcap (fun A9 hw9 => K hn2 tC_21 52 _ A9 rfl rfl hw9))
      | 22, _, ev9 => exact g_tswT (tb2 := tC_22) X rfl (by rw [nI_toInt (by decide)]; decide) (by rw [nI_toInt (by decide)]; decide) (off := 1504) (by rw [nI_toInt (by decide)]; rfl) rfl (by decide) (law_22 l D cy B od hl9 (X.tb okC_22) hs hL (by omega) hI hcap (fun A9 hw9 => K hn2 tC_22 34 _ A9 rfl rfl hw9))
      | 23, _, ev9 => exact g_tswT (tb2 := tC_23) X rfl (by rw [nI_toInt (by decide)]; decide) (by rw [nI_toInt (by decide)]; decide) (off := 1559) (by rw [nI_toInt (by decide)]; rfl) rfl (by decide) (law_23 l D cy B od hl9 (X.tb okC_23) hs hL (by omega) hI hcap (fun A9 hw9 => K hn2 tC_23 25 _ A9 rfl rfl hw9))
      | 24, _, ev9 => exact g_tswT (tb2 := tC_24) X rfl (by rw [nI_toInt (by decide)]; decide) (by rw [nI_toInt (by decide)]; decide) (off := 1603) (by rw [nI_toInt (by decide)]; rfl) rfl (by decide) (law_24 l D cy B od hl9 (X.tb okC_24) hs hL (by omega) hI hcap (fun A9 hw9 => K hn2 tC_24 45 _ A9 rfl rfl hw9))
      | 25, _, ev9 => exact g_tswT (tb2 := tC_25) X rfl (by rw [nI_toInt (by decide)]; decide) (by rw [nI_toInt (by decide)]; decide) (off := 1671) (by rw [nI_toInt (by decide)]; rfl) rfl (by decide) (law_25 l D cy B od hl9 (X.tb okC_25) hs hL (by omega) hI hcap (fun A9 hw9 => K hn2 tC_25 53 _ A9 rfl rfl hw9))
      | 26, _, ev9 => exact g_tswT (tb2 := tC_26) X rfl (by rw [nI_toInt (by decide)]; decide) (by rw [nI_toInt (by decide)]; decide) (off := 1755) (by rw [nI_toInt (by decide)]; rfl) rfl (by decide) (law_26 l D cy B od hl9 (X.tb okC_26) hs hL (by omega) hI hcap (fun A9 hw9 => K hn2 tC_26 45 _ A9 rfl rfl hw9))
      | 27, _, ev9 => exact g_tswT (tb2 := tC_27) X rfl (by rw [nI_toInt (by decide)]; decide) (by rw [nI_toInt (by decide)]; decide) (off := 1823) (by rw [nI_toInt (by decide)]; rfl) rfl (by decide) (law_27 l D cy B od hl9 (X.tb okC_27) hs hL (by omega) hI hcap (fun A9 hw9 => K hn2 tC_27 45 _ A9 rfl rfl hw9))
      | 28, _, ev9 => exact g_tswT (tb2 := tC_28) X rfl (by rw [nI_toInt (by decide)]; decide) (by rw [nI_toInt (by decide)]; decide) (off := 1891) (by rw [nI_toInt (by decide)]; rfl) rfl (by decide) (law_28 l D cy B od hl9 (X.tb okC_28) hs hL (by omega) hI hcap (fun A9 hw9 => K hn2 tC_28 45 _ A9 rfl rfl hw9))
      | 29, _, ev9 => exact g_tswT (tb2 := tC_29) X rfl (by rw [nI_toInt (by decide)]; decide) (by rw [nI_toInt (by decide)]; decide) (off := 1959) (by rw [nI_toInt (by decide)]; rfl) rfl (by decide) (law_29 l D cy B od hl9 (X.tb okC_29) hs hL (by omega) hI hcap (fun A9 hw9 => K hn2 tC_29 35 _ A9 rfl rfl hw9))
      | 30, _, ev9 => exact g_tswT (tb2 := tC_30) X rfl (by rw [nI_toInt (by decide)]; decide) (by rw [nI_toInt (by decide)]; decide) (off := 2015) (by rw [nI_toInt (by decide)]; rfl) rfl (by decide) (law_30 l D cy B od hl9 (X.tb okC_30) hs hL (by omega) hI hcap (fun A9 hw9 => K hn2 tC_30 35 _ A9 rfl rfl hw9))
      | 31, _, ev9 => exact g_tswT (tb2 := tC_31) X rfl (by rw [nI_toInt (by decide)]; decide) (by rw [nI_toInt (by decide)]; decide) (off := 2071) (by rw [nI_toInt (by decide)]; rfl) rfl (by decide) (law_31 l D cy B od hl9 (X.tb okC_31) hs hL (by omega) hI hcap (fun A9 hw9 => K hn2 tC_31 34 _ A9 rfl rfl hw9))
      | 32, _, ev9 => exact g_tswT (tb2 := tC_32) X rfl (by rw [nI_toInt (by decide)]; decide) (by rw [nI_toInt (by decide)]; decide) (off := 2126) (by rw [nI_toInt (by decide)]; rfl) rfl (by decide) (law_32 l D cy B od hl9 (X.tb okC_32) hs hL (by omega) hI hcap (fun A9 hw9 => K hn2 tC_32 34 _ A9 rfl rfl hw9))
      | 33, _, ev9 => exact g_tswT (tb2 := tC_33) X rfl (by rw [nI_toInt (by decide)]; decide) (by rw [nI_toInt (by decide)]; decide) (off := 2181) (by rw [nI_toInt (by decide)]; rfl) rfl (by decide) (law_33 l D cy B od hl9 (X.tb okC_33) hs hL (by omega) hI hcap (fun A9 hw9 => K hn2 tC_33 18 _ A9 rfl rfl hw9))
      | 34, _, ev9 => exact g_tswT (tb2 := tC_34) X rfl (by rw [nI_toInt (by decide)]; decide) (by rw [nI_toInt (by decide)]; decide) (off := 2207) (by rw [nI_toInt (by decide)]; rfl) rfl (by decide) (law_34 l D cy B od hl9 (X.tb okC_34) hs hL (by omega) hI hcap (fun A9 hw9 => K hn2 tC_34 17 _ A9 rfl rfl hw9))
      | 35, _, ev9 => exact g_tswT (tb2 := tC_35) X rfl (by rw [nI_toInt (by decide)]; decide) (by rw [nI_toInt (by decide)]; decide) (off := 2232) (by rw [nI_toInt (by decide)]; rfl) rfl (by decide) (law_35 l D cy B od hl9 (X.tb okC_35) hs hL (by omega) hI hcap (fun A9 hw9 => K hn2 tC_35 8 _ A9 rfl rfl hw9))
      | 36, _, ev9 => exact g_tswT (tb2 := tC_36) X rfl (by rw [nI_toInt (by decide)]; decide) (by rw [nI_toInt (by decide)]; decide) (off := 2246) (by rw [nI_toInt (by decide)]; rfl) rfl (by decide) (law_36 l D cy B od hl9 (X.tb okC_36) hs hL (by omega) hI hcap (fun A9 hw9 => K hn2 tC_36 35 _ A9 rfl rfl hw9))
      | 37, _, ev9 => exact g_tswT (tb2 := tC_37) X rfl (by rw [nI_toInt (by decide)]; decide) (by rw [nI_toInt (by decide)]; decide) (off := 2302) (by rw [nI_toInt (by decide)]; rfl) rfl (by decide) (law_37 l D cy B od hl9 (X.tb okC_37) hs hL (by omega) hI hcap (fun A9 hw9 => K hn2 tC_37 35 _ A9 rfl rfl hw9))
      | 38, _, ev9 => exact g_tswT (tb2 := tC_38) X rfl (by rw [nI_toInt (by decide)]; decide) (by rw [nI_toInt (by decide)]; decide) (off := 2358) (by rw [nI_toInt (by decide)]; rfl) rfl (by decide) (law_38 l D cy B od hl9 (X.tb okC_38) hs hL (by omega) hI hcap (fun A9 hw9 => K hn2 tC_38 35 _ A9 rfl rfl hw9))
      | 39, _, ev9 => exact g_tswT (tb2 := tC_39) X rfl (by rw [nI_toInt (by decide)]; decide) (by rw [nI_toInt (by decide)]; decide) (off := 2414) (by rw [nI_toInt (by decide)]; rfl) rfl (by decide) (law_39 l D cy B od hl9 (X.tb okC_39) hs hL (by omega) hI hcap (fun A9 hw9 => K hn2 tC_39 24 _ A9 rfl rfl hw9))
      | 40, _, ev9 => exact g_tswT (tb2 := tC_40) X rfl (by rw [nI_toInt (by decide)]; decide) (by rw [nI_toInt (by decide)]; decide) (off := 2457) (by rw [nI_toInt (by decide)]; rfl) rfl (by decide) (law_40 l D cy B od hl9 (X.tb okC_40) hs hL (by omega) hI hcap (fun A9 hw9 => K hn2 tC_40 8 _ A9 rfl rfl hw9))
      | 41, _, ev9 => exact g_tswT (tb2 := tC_41) X rfl (by rw [nI_toInt (by decide)]; decide) (by rw [nI_toInt (by decide)]; decide) (off := 2471) (by rw [nI_toInt (by decide)]; rfl) rfl (by decide) (law_41 l D cy B od hl9 (X.tb okC_41) hs hL (by omega) hI hcap (fun A9 hw9 => K hn2 tC_41 36 _ A9 rfl rfl hw9))
      | 42, _, ev9 => exact g_tswT (tb2 := tC_42) X rfl (by rw [nI_toInt (by decide)]; decide) (by rw [nI_toInt (by decide)]; decide) (off := 2536) (by rw [nI_toInt (by decide)]; rfl) rfl (by decide) (law_42 l D cy B od hl9 (X.tb okC_42) hs hL (by omega) hI hcap (fun A9 hw9 => K hn2 tC_42 54 _ A9 rfl rfl hw9))
      | 43, _, ev9 => exact g_tswT (tb2 := tC_43) X rfl (by rw [nI_toInt (by decide)]; decide) (by rw [nI_toInt (by decide)]; decide) (off := 2615) (by rw [nI_toInt (by decide)]; rfl) rfl (by decide) (law_43 l D cy B od hl9 (X.tb okC_43) hs hL (by omega) hI hcap (fun A9 hw9 => K hn2 tC_43 35 _ A9 rfl rfl hw9))
      | 44, _, ev9 => exact g_tswT (tb2 := tC_44) X rfl (by rw [nI_toInt (by decide)]; decide) (by rw [nI_toInt (by decide)]; decide) (off := 2671) (by rw [nI_toInt (by decide)]; rfl) rfl (by decide) (law_44 l D cy B od hl9 (X.tb okC_44) hs hL (by omega) hI hcap (fun A9 hw9 => K hn2 tC_44 34 _ A9 rfl rfl hw9))
      | 45, _, ev9 => exact g_tswT (tb2 := tC_45) X rfl (by rw [nI_toInt (by decide)]; decide) (by rw [nI_toInt (by decide)]; decide) (off := 2726) (by rw [nI_toInt (by decide)]; rfl) rfl (by decide) (law_45 l D cy B od hl9 (X.tb okC_45) hs hL (by omega) hI hcap (fun A9 hw9 => K hn2 tC_45 7 _ A9 rfl rfl hw9))
      | 46, _, ev9 => exact g_tswT (tb2 := tC_46) X rfl (by rw [nI_toInt (by decide)]; decide) (by rw [nI_toInt (by decide)]; decide) (off := 2739) (by rw [nI_toInt (by decide)]; rfl) rfl (by decide) (law_46 l D cy B od hl9 (X.tb okC_46) hs hL (by omega) hI hcap (fun A9 hw9 => K hn2 tC_46 17 _ A9 rfl rfl hw9))
      | 47, _, ev9 => exact g_tswT (tb2 := tC_47) X rfl (by rw [nI_toInt (by decide)]; decide) (by rw [nI_toInt (by decide)]; decide) (off := 2764) (by rw [nI_toInt (by decide)]; rfl) rfl (by decide) (law_47 l D cy B od hl9 (X.tb okC_47) hs hL (by omega) hI hcap (fun A9 hw9 => K hn2 tC_47 7 _ A9 rfl rfl hw9))
      | v + 48, hv, ev9 =>
        refine g_tswO (x := nI (v + 48)) (j := 28) X rfl (Or.inr (by rw [nI_toInt (by omega)]; omega)) rfl (by decide) ?_
        refine g_wid (k := 300 + 3 * n + 3) (n := 20000 + 18 * n + 18) (by omega) (by omega) ?_
        exact K hn2 tH 28 _ A rfl rfl hw
