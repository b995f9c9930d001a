/-! 58: texts are typed, four chars an int -/
theorem by_t (n sh : Nat) (hn : n < 2 ^ 31) (s : Int32) (hs : (s.toUInt32 &&& Int32.toUInt32 31).toNat % 32 = sh) : ((nI n).toUInt32 >>> (s.toUInt32 &&& Int32.toUInt32 31)).toInt32 &&& nI 255 = nI (n / 2 ^ sh % 256) := by
  apply Int32.toBitVec_inj.mp
  show (((nI n).toUInt32.toBitVec >>> ((s.toUInt32 &&& Int32.toUInt32 31).toBitVec % 32)) &&& (nI 255).toBitVec) = BitVec.ofNat 32 (n / 2 ^ sh % 256)
  apply BitVec.eq_of_toNat_eq
  rw [BitVec.toNat_and]
  have e1 : ((nI n).toUInt32.toBitVec >>> ((s.toUInt32 &&& Int32.toUInt32 31).toBitVec % 32)).toNat = n / 2 ^ sh := by
    show ((nI n).toUInt32.toBitVec.toNat >>> ((s.toUInt32 &&& Int32.toUInt32 31).toBitVec % 32).toNat) = _
    rw [Nat.shiftRight_eq_div_pow, BitVec.toNat_umod]
    have hs2 : (s.toUInt32 &&& Int32.toUInt32 31).toBitVec.toNat % BitVec.toNat (32 : BitVec 32) = sh := hs
    rw [hs2]
    congr 1
    show (BitVec.ofNat 32 n).toNat = n
    rw [BitVec.toNat_ofNat]
    exact Nat.mod_eq_of_lt (by omega)
  rw [e1, show (nI 255).toBitVec.toNat = 2 ^ 8 - 1 from rfl, Nat.and_two_pow_sub_one_eq_mod, BitVec.toNat_ofNat]
  have : n / 2 ^ sh % 256 < 256 := Nat.mod_lt _ (by decide)
  exact (Nat.mod_eq_of_lt (by omega)).symm
theorem by_N {n : Nat} (hn : n < 2 ^ 31) : byW (nI n) 0 = nI (n / 2 ^ 24 % 256) ∧ byW (nI n) 1 = nI (n / 2 ^ 16 % 256) ∧ byW (nI n) 2 = nI (n / 2 ^ 8 % 256) ∧ byW (nI n) 3 = nI (n % 256) := by
  refine ⟨by_t n 24 hn _ rfl, by_t n 16 hn _ rfl, by_t n 8 hn _ rfl, ?_⟩
  have h := by_t n 0 hn (shI 3) rfl
  rw [Nat.pow_zero, Nat.div_one] at h
  exact h
theorem or_N {a c : Nat} (ha : a < 2 ^ 23) (hc : c < 256) : (nI a <<< (nI 8 &&& 31)) ||| nI c = nI (256 * a + c) := by
  apply Int32.toBitVec_inj.mp
  apply BitVec.eq_of_toNat_eq
  show (((BitVec.ofNat 32 a) <<< (8 : Nat)) ||| BitVec.ofNat 32 c).toNat = (BitVec.ofNat 32 (256 * a + c)).toNat
  rw [BitVec.toNat_or, BitVec.toNat_shiftLeft, BitVec.toNat_ofNat, BitVec.toNat_ofNat, BitVec.toNat_ofNat, Nat.mod_eq_of_lt (show a < 2 ^ 32 by omega), Nat.mod_eq_of_lt (show c < 2 ^ 32 by omega), Nat.mod_eq_of_lt (show 256 * a + c < 2 ^ 32 by omega), Nat.shiftLeft_eq, Nat.mod_eq_of_lt (show a * 2 ^ 8 < 2 ^ 32 by omega)]
  rw [Nat.mul_comm a, show 256 * a + c = 2 ^ 8 * a + c by omega]
  exact (Nat.two_pow_add_eq_or_of_lt hc a).symm
def chN (tx : List Nat) (m : Nat) : Nat := if m < tx.length then tx.getD m 0 else 0
def pkN (tx : List Nat) (k : Nat) : Nat → Nat
  | 0 => 0
  | j + 1 => 256 * pkN tx k j + chN tx (k + j)
def tPos (tx : List Nat) : Prop := ∀ k, k < tx.length → 1 ≤ tx.getD k 0
theorem chN_lt {tx : List Nat} (h : tAsc tx) (m : Nat) : chN tx m < 128 := by
  unfold chN
  by_cases e : m < tx.length
  · rw [if_pos e]; exact h m e
  · rw [if_neg e]; decide
theorem pk_4 {tx : List Nat} (h : tAsc tx) (k : Nat) : pkN tx k 4 < 2 ^ 31 ∧ pkN tx k 4 / 2 ^ 24 % 256 = chN tx k ∧ pkN tx k 4 / 2 ^ 16 % 256 = chN tx (k + 1) ∧ pkN tx k 4 / 2 ^ 8 % 256 = chN tx (k + 2) ∧ pkN tx k 4 % 256 = chN tx (k + 3) := by
  have a0 := chN_lt h (k + 0)
  have a1 := chN_lt h (k + 1)
  have a2 := chN_lt h (k + 2)
  have a3 := chN_lt h (k + 3)
  have e : pkN tx k 4 = 256 * (256 * (256 * (256 * 0 + chN tx (k + 0)) + chN tx (k + 1)) + chN tx (k + 2)) + chN tx (k + 3) := rfl
  rw [Nat.add_zero] at a0 e
  rw [e]
  generalize chN tx k = c0 at *
  generalize chN tx (k + 1) = c1 at *
  generalize chN tx (k + 2) = c2 at *
  generalize chN tx (k + 3) = c3 at *
  omega
theorem pkc_lt {tx : List Nat} (h : tAsc tx) (k : Nat) : ∀ j, j < 4 → pkN tx k j < 2 ^ 23
  | 0, _ => (by decide : 0 < 2 ^ 23)
  | 1, _ => by have := chN_lt h (k + 0); show 256 * 0 + chN tx (k + 0) < 2 ^ 23; omega
  | 2, _ => by have := chN_lt h (k + 0); have := chN_lt h (k + 1); show 256 * (256 * 0 + chN tx (k + 0)) + chN tx (k + 1) < 2 ^ 23; omega
  | 3, _ => by have := chN_lt h (k + 0); have := chN_lt h (k + 1); have := chN_lt h (k + 2); show 256 * (256 * (256 * 0 + chN tx (k + 0)) + chN tx (k + 1)) + chN tx (k + 2) < 2 ^ 23; omega
  | j + 4, h => by omega
/-- the buffer holds the first k chars -/
def Gd (tx : List Nat) (st : (Nat → Int32) × Nat) (k : Nat) : Prop := st.2 = k ∧ ∀ j, j < k → st.1 j = txB tx j
theorem Gd.step {tx : List Nat} {st : (Nat → Int32) × Nat} {m : Nat} (h : Gd tx st (min m tx.length)) (ha : tAsc tx) (hp : tPos tx) (hl : tx.length ≤ 400) : Gd tx (pushC st (nI (chN tx m))) (min (m + 1) tx.length) := by
  unfold chN pushC
  by_cases e : m < tx.length
  · have h1 := hp m e
    have h2 := ha m e
    obtain ⟨g1, g2⟩ := h
    rw [Nat.min_eq_left (by omega)] at g1 g2
    rw [if_pos e, if_neg (by rw [nI_eq0 (by omega)]; omega), Nat.min_eq_left (by omega)]
    refine ⟨by show st.2 + 1 = _; omega, fun j hj => ?_⟩
    show (if j = st.2 then nI (tx.getD m 0) else st.1 j) = _
    by_cases e2 : j = st.2
    · rw [if_pos e2, e2, g1]; rfl
    · rw [if_neg e2]; exact g2 j (by omega)
  · rw [if_neg e, if_pos (Or.inl nI_0), Nat.min_eq_right (by omega)]
    rw [Nat.min_eq_right (by omega)] at h
    exact h
theorem put_0 (st : (Nat → Int32) × Nat) : putW st (nI 0) 4 = st := by
  have h := by_N (n := 0) (by decide)
  have hp : ∀ s : (Nat → Int32) × Nat, pushC s (nI 0) = s := fun s => if_pos (Or.inl nI_0)
  show pushC (pushC (pushC (pushC st (byW (nI 0) 0)) (byW (nI 0) 1)) (byW (nI 0) 2)) (byW (nI 0) 3) = st
  rw [h.1, h.2.1, h.2.2.1, h.2.2.2]
  show pushC (pushC (pushC (pushC st (nI 0)) (nI 0)) (nI 0)) (nI 0) = st
  rw [hp, hp, hp, hp]
theorem put_ch {tx : List Nat} {st : (Nat → Int32) × Nat} {k : Nat} (h : Gd tx st k) (hk : k ≤ tx.length) (ha : tAsc tx) (hp : tPos tx) (hl : tx.length ≤ 400) : Gd tx (putL st [nI (pkN tx k 4), nI 0, nI 0, nI 0, nI 0]) (min (k + 4) tx.length) := by
  obtain ⟨p0, p1, p2, p3, p4⟩ := pk_4 ha k
  obtain ⟨b0, b1, b2, b3⟩ := by_N p0
  show Gd tx (putW (putW (putW (putW (putW st (nI (pkN tx k 4)) 4) (nI 0) 4) (nI 0) 4) (nI 0) 4) (nI 0) 4) _
  rw [put_0, put_0, put_0, put_0]
  show Gd tx (pushC (pushC (pushC (pushC st (byW (nI (pkN tx k 4)) 0)) (byW (nI (pkN tx k 4)) 1)) (byW (nI (pkN tx k 4)) 2)) (byW (nI (pkN tx k 4)) 3)) _
  rw [b0, b1, b2, b3, p1, p2, p3, p4]
  have h0 : Gd tx st (min k tx.length) := by rw [Nat.min_eq_left hk]; exact h
  exact (((h0.step ha hp hl).step ha hp hl).step ha hp hl).step ha hp hl
theorem cnt_0 : bCnt (nI 0) 4 = 0 := by decide
theorem cnt_ch {tx : List Nat} {k : Nat} (hk : k ≤ tx.length) (ha : tAsc tx) : k + bCnt (nI (pkN tx k 4)) 4 ≤ max k tx.length := by
  obtain ⟨p0, p1, p2, p3, p4⟩ := pk_4 ha k
  obtain ⟨b0, b1, b2, b3⟩ := by_N p0
  have hz : ∀ m, tx.length ≤ m → chN tx m = 0 := fun m hm => if_neg (by omega)
  have hc : ∀ (i m n : Nat), byW (nI (pkN tx k 4)) i = nI (chN tx m) → (tx.length ≤ m → cntN (fun i => !(byW (nI (pkN tx k 4)) i == 0)) (i + 1) = cntN (fun i => !(byW (nI (pkN tx k 4)) i == 0)) i) ∧ cntN (fun i => !(byW (nI (pkN tx k 4)) i == 0)) (i + 1) ≤ cntN (fun i => !(byW (nI (pkN tx k 4)) i == 0)) i + 1 := by
    intro i m n hb
    show (_ → (if (!(byW (nI (pkN tx k 4)) i == 0)) = true then _ else _) = _) ∧ (if (!(byW (nI (pkN tx k 4)) i == 0)) = true then cntN _ i + 1 else cntN _ i) ≤ _
    refine ⟨fun hm => ?_, ?_⟩
    · rw [hb, hz m hm]; rfl
    · split <;> omega
  rw [p1] at b0; rw [p2] at b1; rw [p3] at b2; rw [p4] at b3
  have c0 := hc 0 k 0 b0
  have c1 := hc 1 (k + 1) 0 b1
  have c2 := hc 2 (k + 2) 0 b2
  have c3 := hc 3 (k + 3) 0 b3
  have z : cntN (fun i => !(byW (nI (pkN tx k 4)) i == 0)) 0 = 0 := rfl
  simp only [Nat.zero_add, Nat.reduceAdd] at c0 c1 c2 c3
  show k + cntN (fun i => !(byW (nI (pkN tx k 4)) i == 0)) 4 ≤ _
  by_cases e0 : tx.length ≤ k
  · have := c0.1 e0; have := c1.1 (by omega); have := c2.1 (by omega); have := c3.1 (by omega); omega
  · by_cases e1 : tx.length ≤ k + 1
    · have := c1.1 (by omega); have := c2.1 (by omega); have := c3.1 (by omega); omega
    · by_cases e2 : tx.length ≤ k + 2
      · have := c2.1 (by omega); have := c3.1 (by omega); omega
      · by_cases e3 : tx.length ≤ k + 3
        · have := c3.1 (by omega); omega
        · omega

set_option maxRecDepth 100000 in
set_option maxHeartbeats 4000000 in
theorem ct_L_type (l : Launch) (D : va_G) (cy : Nat → ClassId) (B : Nat) (od : Nat → Option Nat) (hl9 : l.stackTraces = false) {A : AH} {W : LW} {a : Nat} {tx : List Nat} (hW : LedA cy A W) (hs : ∀ A9 : AH, (∀ k, 231 ≤ k → A9 k = A k) → StrA cy A9 a tx) (ha : tAsc tx) (hp : tPos tx) (hl : tx.length ≤ 400) : ∀ z, CT l D cy B od yL_type cL_type 6 (some .boolean) rmL_type [.ref 0, .ref a] A z (fun v A' _ => v = some (.int (nI 1)) ∧ (∀ k, 231 ≤ k → A' k = A k) ∧ ∃ f, (∀ j, j < tx.length → f j = txB tx j) ∧ LedA cy A' ((W.1.1, tx.length, W.1.2.2), f, W.2.2)) := by
  intro z
  refine CT.of (by decide) tL_type okL_type (Nat.le_of_ble_eq_true rfl) (q0 := tL_type[0]) rfl rfl ?_
  intro p e s m args below meth c X hnm
  have htr : ocTrun W.1 (nI 0) = .inr (.int (nI 0)) := by
    unfold ocTrun within9
    rw [if_pos]
    rw [Bool.and_eq_true, decide_eq_true_eq, decide_eq_true_eq]
    exact ⟨Int32.le_refl _, nI_le (Nat.zero_le _) (by have := hW.2.2.2.1.2; omega)⟩
  have loop : ∀ (d i : Nat) (A1 : AH) (z1 : Nat) (st : (Nat → Int32) × Nat), tx.length ≤ 4 * i + 4 * d → i ≤ 100 → Gd tx st (min (4 * i) tx.length) → LedA cy A1 ((W.1.1, st.2, W.1.2.2), st.1, W.2.2) → (∀ k, 231 ≤ k → A1 k = A k) → G p l e rmL_type s m args below meth c D B od 6 tL_type (FinQ false D B od (fun v A' _ => v = some (.int (nI 1)) ∧ (∀ k, 231 ≤ k → A' k = A k) ∧ ∃ f, (∀ j, j < tx.length → f j = txB tx j) ∧ LedA cy A' ((W.1.1, tx.length, W.1.2.2), f, W.2.2)) (fun _ _ => True) args s below rmL_type.cells rmL_type.slots) (1 + i) (6 + 6 * i) A1 z1 8 [some (.ref 0), some (.ref a), some (.int (nI (min (4 * i) tx.length))), some (.int (nI (4 * i))), none, none] [] := by
    intro d
    induction d with
    | zero =>
      intro i A1 z1 st hid hi1 hGd hW1 hf
      have hs1 := hs A1 hf
      refine g_iload_n X rfl rfl ?_
      refine g_aload_n X rfl rfl ?_
      refine g_sV X rfl lcJ0_length_8abf5 lmL_34 lsJ0_length_8abf5 rfl (cr_s_length l D cy B od hs1) hs1 rfl rfl (Nat.le_of_ble_eq_true rfl) ⟨⟨by decide, by decide⟩, rfl, rfl⟩ ⟨by show _ ≤ 110; omega, by show _ ≤ 660; omega⟩ ?_
      refine g_ic_geN X rfl (by omega) (by omega) (fun _ => ?_) (fun h => absurd h (by omega))
      · skip
        refine g_iload_n X rfl rfl ?_
        refine g_aload_n X rfl rfl ?_
        refine g_sV X rfl lcJ0_length_8abf5 lmL_34 lsJ0_length_8abf5 rfl (cr_s_length l D cy B od hs1) hs1 rfl rfl (Nat.le_of_ble_eq_true rfl) ⟨⟨by decide, by decide⟩, rfl, rfl⟩ ⟨by show _ ≤ 110; omega, by show _ ≤ 660; omega⟩ ?_
        refine g_ic_neN X rfl (by omega) (by omega) (fun h => absurd (Nat.min_eq_right (by omega)) h) (fun _ => ?_)
        · skip
          refine g_iconst X rfl (v := nI 1) (by decide) ?_
          refine g_goto X rfl ?_
          rw [Nat.min_eq_right (show tx.length ≤ 4 * i by omega)] at hGd
          refine g_iret X rfl rfl (by rfl) (by show 1 + i ≤ 110; omega) (by show 6 + 6 * i ≤ 660; omega) ⟨rfl, hf, st.1, hGd.2, ?_⟩
          rw [hGd.1] at hW1; exact hW1
    | succ d ih =>
      intro i A1 z1 st hid hi1 hGd hW1 hf
      have hs1 := hs A1 hf
      by_cases hk : tx.length ≤ 4 * i
      · refine g_iload_n X rfl rfl ?_
        refine g_aload_n X rfl rfl ?_
        refine g_sV X rfl lcJ0_length_8abf5 lmL_34 lsJ0_length_8abf5 rfl (cr_s_length l D cy B od hs1) hs1 rfl rfl (Nat.le_of_ble_eq_true rfl) ⟨⟨by decide, by decide⟩, rfl, rfl⟩ ⟨by show _ ≤ 110; omega, by show _ ≤ 660; omega⟩ ?_
        refine g_ic_geN X rfl (by omega) (by omega) (fun _ => ?_) (fun h => absurd h (by omega))
        · skip
          refine g_iload_n X rfl rfl ?_
          refine g_aload_n X rfl rfl ?_
          refine g_sV X rfl lcJ0_length_8abf5 lmL_34 lsJ0_length_8abf5 rfl (cr_s_length l D cy B od hs1) hs1 rfl rfl (Nat.le_of_ble_eq_true rfl) ⟨⟨by decide, by decide⟩, rfl, rfl⟩ ⟨by show _ ≤ 110; omega, by show _ ≤ 660; omega⟩ ?_
          refine g_ic_neN X rfl (by omega) (by omega) (fun h => absurd (Nat.min_eq_right (by omega)) h) (fun _ => ?_)
          · skip
            refine g_iconst X rfl (v := nI 1) (by decide) ?_
            refine g_goto X rfl ?_
            rw [Nat.min_eq_right (show tx.length ≤ 4 * i by omega)] at hGd
            refine g_iret X rfl rfl (by rfl) (by show 1 + i ≤ 110; omega) (by show 6 + 6 * i ≤ 660; omega) ⟨rfl, hf, st.1, hGd.2, ?_⟩
            rw [hGd.1] at hW1; exact hW1
      · rw [Nat.min_eq_left (by omega)] at hGd
        have hP := put_ch hGd (by omega) ha hp hl
        have inn : ∀ (d2 j : Nat), j + d2 = 4 → G p l e rmL_type s m args below meth c D B od 6 tL_type (FinQ false D B od (fun v A' _ => v = some (.int (nI 1)) ∧ (∀ k, 231 ≤ k → A' k = A k) ∧ ∃ f, (∀ j, j < tx.length → f j = txB tx j) ∧ LedA cy A' ((W.1.1, tx.length, W.1.2.2), f, W.2.2)) (fun _ _ => True) args s below rmL_type.cells rmL_type.slots) (1 + i) (6 + 6 * i) A1 z1 16 [some (.ref 0), some (.ref a), some (.int (nI (min (4 * i) tx.length))), some (.int (nI (4 * i))), some (.int (nI (pkN tx (4 * i) j))), some (.int (nI j))] [] := by
          intro d2
          induction d2 with
          | zero =>
            intro j hjd
            have e : j = 4 := by omega
            subst e
            refine g_iload X rfl rfl ?_
            refine g_iconst X rfl (v := nI 4) (by decide) ?_
            refine g_ic_geN X rfl (by omega) (by omega) (fun _ => ?_) (fun h => absurd h (by omega))
            · skip
              refine g_aload_n X rfl rfl ?_
              refine g_iload X rfl rfl ?_
              obtain ⟨W9, hW9⟩ : ∃ W9 : LW, W9 = ((W.1.1, st.2, W.1.2.2), st.1, W.2.2) := ⟨_, rfl⟩
              have hW1b : LedA cy A1 W9 := by rw [hW9]; exact hW1
              have hoc : ocApp W9.1 (nI (pkN tx (4 * i) 4)) (nI 0) (nI 0) (nI 0) (nI 0) (putL (W9.2.1, W9.1.2.1) [nI (pkN tx (4 * i) 4), nI 0, nI 0, nI 0, nI 0]).2 = .inr (.int (nI (min (4 * i + 4) tx.length))) := by
                subst hW9
                unfold ocApp
                refine (if_pos ?_).trans ?_
                · show st.2 + (bCnt (nI (pkN tx (4 * i) 4)) 4 + bCnt (nI 0) 4 + bCnt (nI 0) 4 + bCnt (nI 0) 4 + bCnt (nI 0) 4) ≤ 400
                  rw [cnt_0]; have := cnt_ch (k := 4 * i) (by omega) ha (tx := tx); have := hGd.1; omega
                · show (Sum.inr (Value.int (nI (putL st [nI (pkN tx (4 * i) 4), nI 0, nI 0, nI 0, nI 0]).2)) : OC) = _
                  rw [hP.1]
              refine g_hp X rfl lwL_append lmL_43 stL_append (hp_L_append l D cy B od (cp_X7_append l D cy B od hl9 hW1b (a9 := nI (pkN tx (4 * i) 4)) (b9 := nI 0) (c9 := nI 0) (d9 := nI 0) (e9 := nI 0)) hW1b.1.1 (fun r hr => by rw [hoc] at hr; cases hr; exact ⟨_, rfl⟩) (fun E hE => by rw [hoc] at hE; cases hE) _) rfl rfl (Nat.le_of_ble_eq_true rfl) ⟨by decide, by decide⟩ ⟨by show 1 + i + 1 ≤ 110; omega, by show 6 + 6 * i + 6 ≤ 660; omega⟩ (fun v2 A2 z2 q2 => ?_)
              obtain ⟨rfl, q2⟩ := q2
              obtain ⟨r2, -, hf2, hW2⟩ := q2.resolve_right (fun ⟨E, hE, _⟩ => by rw [hoc] at hE; cases hE)
              rw [hoc]
              subst hW9
              first | refine g_istore_nS X rfl (by decide) rfl ?_ | refine g_istore_n X rfl (by decide) ?_
              first | refine g_iincS X rfl rfl (by decide) rfl ?_ | refine g_iinc X rfl rfl (by decide) ?_
              rw [show nI (4 * i) + Int32.ofInt 4 = nI (4 * (i + 1)) from nI_add (4 * i) 4]
              refine g_goto X rfl ?_
              refine g_forget (lv' := [some (.ref 0), some (.ref a), some (.int (nI (min (4 * (i + 1)) tx.length))), some (.int (nI (4 * (i + 1)))), none, none]) ⟨rfl, rfl, rfl, rfl, trivial⟩ ?_
              exact ih (i + 1) A2 z2 _ (by omega) (by omega) hP hW2 (fun k hk => (hf2 k (Or.inr hk)).trans (hf k hk))
          | succ d2 ih2 =>
            intro j hjd
            have hj : j < 4 := by omega
            refine g_iload X rfl rfl ?_
            refine g_iconst X rfl (v := nI 4) (by decide) ?_
            refine g_ic_geN X rfl (by omega) (by omega) (fun h => absurd h (by omega)) (fun _ => ?_)
            · skip
              refine g_iload X rfl rfl ?_
              refine g_bipush X rfl (v := nI 8) (by decide) ?_
              refine g_ishl X rfl ?_
              refine g_iload_n X rfl rfl ?_
              refine g_iload X rfl rfl ?_
              refine g_iadd X rfl ?_
              rw [nI_add]
              refine g_aload_n X rfl rfl ?_
              refine g_sV X rfl lcJ0_length_8abf5 lmL_34 lsJ0_length_8abf5 rfl (cr_s_length l D cy B od hs1) hs1 rfl rfl (Nat.le_of_ble_eq_true rfl) ⟨⟨by decide, by decide⟩, rfl, rfl⟩ ⟨by show _ ≤ 110; omega, by show _ ≤ 660; omega⟩ ?_
              refine g_ic_geN X rfl (by omega) (by omega) (fun h => ?_) (fun h => ?_)
              · have hc : chN tx (4 * i + j) = 0 := if_neg (by omega)
                refine g_iconst X rfl (v := nI 0) (by decide) ?_
                rw [show nI 0 = nI (chN tx (4 * i + j)) from by rw [hc]]
                refine g_ior X rfl ?_
                rw [or_N (pkc_lt ha (4 * i) j hj) (by have := chN_lt ha (4 * i + j); omega)]
                first | refine g_istoreS X rfl (by decide) rfl ?_ | refine g_istore X rfl (by decide) ?_
                first | refine g_iinc1S X rfl rfl (by decide) rfl ?_ | refine g_iinc1 X rfl rfl (by decide) ?_
                refine g_goto X rfl ?_
                exact ih2 (j + 1) (by omega)
              · have hc : chN tx (4 * i + j) = tx.getD (4 * i + j) 0 := if_pos h
                refine g_aload_n X rfl rfl ?_
                refine g_iload_n X rfl rfl ?_
                refine g_iload X rfl rfl ?_
                refine g_iadd X rfl ?_
                rw [nI_add]
                refine g_sV X rfl lcJ0_charAt_5068e lmL_39 lsJ0_charAt_5068e rfl (cr_s_charAt l D cy B od hs1 h) hs1 rfl rfl (Nat.le_of_ble_eq_true rfl) ⟨⟨by decide, by decide⟩, rfl, rfl⟩ ⟨by show _ ≤ 110; omega, by show _ ≤ 660; omega⟩ ?_
                rw [show txB tx (4 * i + j) = nI (chN tx (4 * i + j)) from by rw [hc]; rfl]
                refine g_goto X rfl ?_
                refine g_ior X rfl ?_
                rw [or_N (pkc_lt ha (4 * i) j hj) (by have := chN_lt ha (4 * i + j); omega)]
                first | refine g_istoreS X rfl (by decide) rfl ?_ | refine g_istore X rfl (by decide) ?_
                first | refine g_iinc1S X rfl rfl (by decide) rfl ?_ | refine g_iinc1 X rfl rfl (by decide) ?_
                refine g_goto X rfl ?_
                exact ih2 (j + 1) (by omega)
        refine g_iload_n X rfl rfl ?_
        refine g_aload_n X rfl rfl ?_
        refine g_sV X rfl lcJ0_length_8abf5 lmL_34 lsJ0_length_8abf5 rfl (cr_s_length l D cy B od hs1) hs1 rfl rfl (Nat.le_of_ble_eq_true rfl) ⟨⟨by decide, by decide⟩, rfl, rfl⟩ ⟨by show _ ≤ 110; omega, by show _ ≤ 660; omega⟩ ?_
        refine g_ic_geN X rfl (by omega) (by omega) (fun h => absurd h (by omega)) (fun _ => ?_)
        · skip
          refine g_iconst X rfl (v := nI 0) (by decide) ?_
          first | refine g_istoreS X rfl (by decide) rfl ?_ | refine g_istore X rfl (by decide) ?_
          refine g_iconst X rfl (v := nI 0) (by decide) ?_
          first | refine g_istoreS X rfl (by decide) rfl ?_ | refine g_istore X rfl (by decide) ?_
          exact inn 4 0 rfl
  refine g_aload_n X rfl rfl ?_
  refine g_iconst X rfl (v := nI 0) (by decide) ?_
  refine g_hV X rfl lcX7_truncate lmL_30 lsX7_truncate ((cp_X7_truncate l D cy B od hl9 hW (x := nI 0)).cm htr) (ci := 7) hW.1.1 rfl rfl rfl (Nat.le_of_ble_eq_true rfl) ⟨by decide, by decide⟩ ⟨Nat.le_of_ble_eq_true rfl, Nat.le_of_ble_eq_true rfl⟩ (fun v1 A1 q1 => ?_)
  obtain ⟨rfl, hf1, hW1⟩ := q1
  refine g_pop X rfl rfl ?_
  refine g_iconst X rfl (v := nI 0) (by decide) ?_
  first | refine g_istore_nS X rfl (by decide) rfl ?_ | refine g_istore_n X rfl (by decide) ?_
  refine g_iconst X rfl (v := nI 0) (by decide) ?_
  first | refine g_istore_nS X rfl (by decide) rfl ?_ | refine g_istore_n X rfl (by decide) ?_
  have K9 := loop 100 0 A1 z (W.2.1, 0) (by omega) (by decide) ⟨(Nat.zero_min _).symm, fun j hj => absurd hj (by rw [Nat.mul_zero, Nat.zero_min]; exact Nat.not_lt_zero _)⟩ hW1 (fun k hk => hf1 k (Or.inr hk))
  rw [show min (4 * 0) tx.length = 0 from Nat.zero_min _] at K9
  exact K9
