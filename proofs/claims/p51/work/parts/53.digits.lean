/-! 53: numbers in texts -/
/-- a number's digits -/
def decF : Nat → Nat → List Nat
  | 0, n => [48 + n % 10]
  | k + 1, n => if n < 10 then [48 + n] else decF k (n / 10) ++ [48 + n % 10]
def decN (n : Nat) : List Nat := decF 9 n
theorem decF_s : ∀ k n, n < 10 ^ (k + 1) → decF (k + 1) n = decF k n
  | 0, n, h => by
    show (if n < 10 then [48 + n] else _) = [48 + n % 10]
    rw [if_pos (by omega), Nat.mod_eq_of_lt (by omega)]
  | k + 1, n, h => by
    show (if n < 10 then [48 + n] else decF (k + 1) (n / 10) ++ [48 + n % 10]) = (if n < 10 then [48 + n] else decF k (n / 10) ++ [48 + n % 10])
    rw [decF_s k (n / 10) (by rw [Nat.div_lt_iff_lt_mul (by decide), ← Nat.pow_succ]; exact h)]
theorem decN_lt {n : Nat} (h : n < 10) : decN n = [48 + n] := if_pos h
theorem decN_ge {n : Nat} (h : ¬ n < 10) (hn : n < 1000000000) : decN n = decN (n / 10) ++ [48 + n % 10] := by
  show (if n < 10 then [48 + n] else decF 8 (n / 10) ++ [48 + n % 10]) = _
  rw [if_neg h]
  congr 1
  exact (decF_s 8 (n / 10) (by omega)).symm
theorem decN_2 {n : Nat} (h : ¬ n < 100) (hn : n < 1000000000) : decN n = decN (n / 100) ++ [48 + n % 100 / 10, 48 + n % 100 % 10] := by
  rw [decN_ge (by omega) hn, decN_ge (n := n / 10) (by omega) (by omega), List.append_assoc]
  congr 1
  · congr 1; omega
  · show [48 + n / 10 % 10, 48 + n % 10] = _
    congr 1
    · omega
    · congr 1; omega
theorem decN_1 {n : Nat} (h : ¬ n < 10) (hn : n < 100) : decN n = [48 + n / 10, 48 + n % 10] := by
  rw [decN_ge h (by omega), decN_lt (by omega)]
  rfl
theorem decN_len : ∀ i n, n < 10 ^ (i + 1) → (i = 0 ∨ 10 ^ i ≤ n) → i < 9 → (decN n).length = i + 1
  | 0, n, h, _, _ => by rw [decN_lt (by omega)]; rfl
  | i + 1, n, h, h2, h3 => by
    have h4 : 10 ^ (i + 1) ≤ n := h2.resolve_left (by omega)
    have h5 : 10 ≤ 10 ^ (i + 1) := by rw [Nat.pow_succ]; have := Nat.one_le_two_pow (n := 0); have : 1 ≤ 10 ^ i := Nat.one_le_pow _ _ (by decide); omega
    have h6 : n < 1000000000 := Nat.lt_of_lt_of_le h (Nat.pow_le_pow_right (by decide) (show i + 1 + 1 ≤ 9 by omega))
    rw [decN_ge (by omega) h6, List.length_append, decN_len i (n / 10) (by rw [Nat.div_lt_iff_lt_mul (by decide), ← Nat.pow_succ]; exact h) (by
      by_cases e : i = 0
      · exact Or.inl e
      · right; rw [Nat.le_div_iff_mul_le (by decide), ← Nat.pow_succ]; exact h4) (by omega)]
    rfl
theorem decN_asc : ∀ k n, tAsc (decF k n)
  | 0, n => by intro j hj; have e : j = 0 := Nat.lt_one_iff.mp hj; subst e; show 48 + n % 10 < 128; omega
  | k + 1, n => by
    show tAsc (if n < 10 then [48 + n] else decF k (n / 10) ++ [48 + n % 10])
    by_cases h : n < 10
    · rw [if_pos h]; intro j hj; have e : j = 0 := Nat.lt_one_iff.mp hj; subst e; show 48 + n < 128; omega
    · rw [if_neg h]
      exact tAsc_app (decN_asc k (n / 10)) (by intro j hj; have e : j = 0 := Nat.lt_one_iff.mp hj; subst e; show 48 + n % 10 < 128; omega)
theorem decN_pos (n : Nat) : 1 ≤ (decN n).length := by
  unfold decN
  by_cases h : n < 10
  · show 1 ≤ (if n < 10 then [48 + n] else decF 8 (n / 10) ++ [48 + n % 10]).length
    rw [if_pos h]; exact Nat.le_refl _
  · show 1 ≤ (if n < 10 then [48 + n] else decF 8 (n / 10) ++ [48 + n % 10]).length
    rw [if_neg h, List.length_append]; exact Nat.le_add_left _ _
theorem neg_lt {a b : Nat} (ha : a < 2 ^ 31) (hb : b < 2 ^ 31) : -(nI a) < -(nI b) ↔ b < a := by
  have t : ∀ x, x < 2 ^ 31 → (-(nI x)).toInt = -(x : Int) := by
    intro x hx
    rw [Int32.toInt_neg, nI_toInt hx]
    exact Int.bmod_eq_of_le (by omega) (by omega)
  rw [Int32.lt_iff_toInt_lt, t a ha, t b hb]
  omega
theorem neg_le {a b : Nat} (ha : a < 2 ^ 31) (hb : b < 2 ^ 31) : -(nI a) ≤ -(nI b) ↔ b ≤ a := by
  have t : ∀ x, x < 2 ^ 31 → (-(nI x)).toInt = -(x : Int) := by
    intro x hx
    rw [Int32.toInt_neg, nI_toInt hx]
    exact Int.bmod_eq_of_le (by omega) (by omega)
  rw [Int32.le_iff_toInt_le, t a ha, t b hb]
  omega
theorem neg_div {a d : Nat} (ha : a < 2 ^ 31) (h0 : 0 < d) (hd : d < 2 ^ 31) : -(nI a) / nI d = -(nI (a / d)) := by
  have t : ∀ x, x < 2 ^ 31 → (-(nI x)).toInt = -(x : Int) := by
    intro x hx
    rw [Int32.toInt_neg, nI_toInt hx]
    exact Int.bmod_eq_of_le (by omega) (by omega)
  have hq : a / d ≤ a := Nat.div_le_self a d
  apply Int32.toInt_inj.mp
  rw [Int32.toInt_div, t a ha, nI_toInt hd, t _ (by omega), Int.neg_tdiv, show ((a : Int).tdiv (d : Int)) = ((a / d : Nat) : Int) from rfl]
  generalize a / d = k at hq
  exact Int.bmod_eq_of_le (by omega) (by omega)
theorem neg_neg (x : Int32) : -(-x) = x := by grind
theorem sub_neg (a b : Nat) (h : b ≤ a) : -(nI b) - -(nI a) = nI (a - b) := by
  rw [← pk_sub h]; grind
theorem neg_mul (a b : Nat) : -(nI a) * nI b = -(nI (a * b)) := by rw [← pk_mul]; grind
theorem mul_neg (a b : Nat) : nI b * -(nI a) = -(nI (b * a)) := by rw [← pk_mul]; grind
/-- fewer locals known -/
def lvW : List (Option Value) → List (Option Value) → Prop
  | [], _ => True
  | none :: a, _ :: b => lvW a b
  | some x :: a, y :: b => y = some x ∧ lvW a b
  | _ :: _, [] => False
theorem lvW.at : ∀ {a b : List (Option Value)}, lvW a b → ∀ (i : Nat) (v : Value), a[i]? = some (some v) → b[i]? = some (some v)
  | [], _, _, i, v, h => by simp at h
  | none :: a, _ :: b, hw, 0, v, h => by simp at h
  | none :: a, _ :: b, hw, i + 1, v, h => by
    rw [List.getElem?_cons_succ] at h ⊢
    exact lvW.at (a := a) (b := b) hw i v h
  | some x :: a, y :: b, hw, 0, v, h => by
    have e : y = some x := hw.1
    rw [List.getElem?_cons_zero] at h ⊢
    rw [e]; exact h
  | some x :: a, y :: b, hw, i + 1, v, h => by
    rw [List.getElem?_cons_succ] at h ⊢
    exact lvW.at (a := a) (b := b) hw.2 i v h
theorem g_forget {p : Program} {l : Launch} {e : Env} {R : Room} {s : State} {m : MethodId} {args : Array Value} {below : List Frame} {meth : Method} {c : Code} {D : va_G} {B : Nat} {od : Nat → Option Nat} {nL : Nat} {tab : List PT} {F : State → Prop} {cells slots : Nat} {A : AH} {z i : Nat} {lv lv' : List (Option Value)} {st : List Value} (h : lvW lv' lv) (kk : G p l e R s m args below meth c D B od nL tab F cells slots A z i lv' st) : G p l e R s m args below meth c D B od nL tab F cells slots A z i lv st :=
  fun q hq H locs ls hR hS hl => kk q hq H locs ls hR hS ⟨hl.1, hl.2.1, fun j v hv => hl.2.2 j v (h.at j v hv)⟩
set_option maxRecDepth 100000 in
set_option maxHeartbeats 400000 in
theorem cr_stringSize (l : Launch) (D : va_G) (cy : Nat → ClassId) (B : Nat) (od : Nat → Option Nat) {A : AH} {n : Nat} (hn : n < 1000000000) : CR l D cy B od yJ6_stringSize_0f7a4 cJ6_stringSize_0f7a4 4 (some .int) rmJ6_stringSize_0f7a4 [.int (nI n)] A (.int (nI (decN n).length)) := by
  intro z
  refine CT.of (by decide) tJ6_stringSize_0f7a4 okJ6_stringSize_0f7a4 (Nat.le_of_ble_eq_true rfl) (q0 := tJ6_stringSize_0f7a4[0]) rfl rfl ?_
  intro p e s m args below meth c X hnm
  have loop : ∀ (d i : Nat), i + d = 8 → (i = 0 ∨ 10 ^ i ≤ n) → G p l e rmJ6_stringSize_0f7a4 s m args below meth c D B od 4 tJ6_stringSize_0f7a4 (FinQ false D B od (fun v A' z' => v = some (.int (nI (decN n).length)) ∧ A' = A ∧ z' = z) (fun _ _ => True) args s below rmJ6_stringSize_0f7a4.cells rmJ6_stringSize_0f7a4.slots) 0 0 A z 13 [some (.int (-(nI n))), some (.int (nI 0)), some (.int (-(nI (10 ^ (i + 1))))), some (.int (nI (i + 1)))] [] := by
    intro d
    induction d with
    | zero =>
      intro i hid hge
      have e : i = 8 := by omega
      subst e
      refine g_iload_n X rfl rfl ?_
      refine g_bipush X rfl (v := nI 10) (by decide) ?_
      refine g_ic_geN X rfl (by omega) (by omega) (fun h => absurd h (by omega)) (fun _ => ?_)
      · skip
        refine g_iload_n X rfl rfl ?_
        refine g_iload_n X rfl rfl ?_
        refine g_icmp_le X rfl (fun h => absurd ((neg_le (by omega) (by decide)).mp h) (by omega)) (fun _ => ?_)
        · skip
          refine g_iload_n X rfl rfl ?_
          refine g_iload_n X rfl rfl ?_
          refine g_iadd X rfl ?_
          rw [nI_add]
          exact g_iret X rfl rfl (by rfl) (Nat.le_of_ble_eq_true rfl) (Nat.le_of_ble_eq_true rfl) ⟨by rw [decN_len _ n (by omega) hge (by omega)], rfl, rfl⟩
    | succ d ih =>
      intro i hid hge
      have hp : 10 ^ (i + 1) < 2 ^ 31 := Nat.lt_of_le_of_lt (Nat.pow_le_pow_right (by decide) (show i + 1 ≤ 9 by omega)) (by decide)
      have hp2 : 10 * 10 ^ (i + 1) = 10 ^ (i + 1 + 1) := by rw [Nat.pow_succ 10 (i + 1), Nat.mul_comm]
      refine g_iload_n X rfl rfl ?_
      refine g_bipush X rfl (v := nI 10) (by decide) ?_
      refine g_ic_geN X rfl (by omega) (by omega) (fun h => absurd h (by omega)) (fun _ => ?_)
      · skip
        refine g_iload_n X rfl rfl ?_
        refine g_iload_n X rfl rfl ?_
        refine g_icmp_le X rfl (fun h => ?_) (fun h => ?_)
        · have hge2 : 10 ^ (i + 1) ≤ n := (neg_le (by omega) hp).mp h
          refine g_bipush X rfl (v := nI 10) (by decide) ?_
          refine g_iload_n X rfl rfl ?_
          refine g_imul X rfl ?_
          rw [mul_neg, hp2]
          first | refine g_istore_nS X rfl (by decide) rfl ?_ | refine g_istore_n X rfl (by decide) ?_
          first | refine g_iinc1S X rfl rfl (by decide) rfl ?_ | refine g_iinc1 X rfl rfl (by decide) ?_
          refine g_goto X rfl ?_
          exact ih (i + 1) (by omega) (Or.inr hge2)
        · have hlt : n < 10 ^ (i + 1) := by
            by_cases e : 10 ^ (i + 1) ≤ n
            · exact absurd ((neg_le (by omega) hp).mpr e) h
            · omega
          refine g_iload_n X rfl rfl ?_
          refine g_iload_n X rfl rfl ?_
          refine g_iadd X rfl ?_
          rw [nI_add]
          exact g_iret X rfl rfl (by rfl) (Nat.le_of_ble_eq_true rfl) (Nat.le_of_ble_eq_true rfl) ⟨by rw [decN_len _ n hlt hge (by omega)], rfl, rfl⟩
  refine g_iconst X rfl (v := nI 1) (by decide) ?_
  first | refine g_istore_nS X rfl (by decide) rfl ?_ | refine g_istore_n X rfl (by decide) ?_
  refine g_iload_n X rfl rfl ?_
  refine g_if_lt X rfl (fun h => absurd h (nI_pos (by omega))) (fun _ => ?_)
  · skip
    refine g_iconst X rfl (v := nI 0) (by decide) ?_
    first | refine g_istore_nS X rfl (by decide) rfl ?_ | refine g_istore_n X rfl (by decide) ?_
    refine g_iload_n X rfl rfl ?_
    refine g_ineg X rfl ?_
    first | refine g_istore_nS X rfl (by decide) rfl ?_ | refine g_istore_n X rfl (by decide) ?_
    refine g_bipush X rfl (v := -(nI (10 ^ (0 + 1)))) (by decide) ?_
    first | refine g_istore_nS X rfl (by decide) rfl ?_ | refine g_istore_n X rfl (by decide) ?_
    refine g_iconst X rfl (v := nI 1) (by decide) ?_
    first | refine g_istore_nS X rfl (by decide) rfl ?_ | refine g_istore_n X rfl (by decide) ?_
    exact loop 8 0 rfl (Or.inl rfl)
theorem nI_m1 (a : Nat) : nI (a + 1) + Int32.ofInt (-1) = nI a := by
  rw [show Int32.ofInt (-1) = -(nI 1) from by decide, ← nI_1b a]; grind
theorem dg_b (k : Nat) : (dgO k).toInt8.toInt32 = dgO k ∧ (k < 100 → (dgT k).toInt8.toInt32 = dgT k) := ⟨i2b_c _ (by omega), fun h => i2b_c _ (by omega)⟩
/-- what stands behind the digits, with one or two more in front -/
theorem put2 {f f1 : Nat → Int32} {dp n1 cap : Nat} {suf : List Nat} {x y : Nat} (h : ∀ k, k < cap → f1 k = if dp + n1 + 2 ≤ k ∧ k < dp + n1 + 2 + suf.length then txB suf (k - (dp + n1 + 2)) else f k) : ∀ k, k < cap → upd (upd f1 (dp + n1 + 1) (nI y)) (dp + n1) (nI x) k = if dp + n1 ≤ k ∧ k < dp + n1 + (x :: y :: suf).length then txB (x :: y :: suf) (k - (dp + n1)) else f k := by
  intro k hk
  unfold upd
  simp only [List.length_cons]
  by_cases e1 : k = dp + n1
  · subst e1; rw [if_pos rfl, if_pos (by omega), Nat.sub_self]; rfl
  · rw [if_neg e1]
    by_cases e2 : k = dp + n1 + 1
    · subst e2; rw [if_pos rfl, if_pos (by omega), show dp + n1 + 1 - (dp + n1) = 1 by omega]; rfl
    · rw [if_neg e2, h k hk]
      by_cases e3 : dp + n1 + 2 ≤ k ∧ k < dp + n1 + 2 + suf.length
      · rw [if_pos e3, if_pos (by omega), show k - (dp + n1) = k - (dp + n1 + 2) + 2 by omega]; rfl
      · rw [if_neg e3, if_neg (by omega)]
theorem put1 {f f1 : Nat → Int32} {dp cap : Nat} {suf : List Nat} {x : Nat} (h : ∀ k, k < cap → f1 k = if dp + 1 ≤ k ∧ k < dp + 1 + suf.length then txB suf (k - (dp + 1)) else f k) : ∀ k, k < cap → upd f1 dp (nI x) k = if dp ≤ k ∧ k < dp + (x :: suf).length then txB (x :: suf) (k - dp) else f k := by
  intro k hk
  unfold upd
  simp only [List.length_cons]
  by_cases e1 : k = dp
  · subst e1; rw [if_pos rfl, if_pos (by omega), Nat.sub_self]; rfl
  · rw [if_neg e1, h k hk]
    by_cases e3 : dp + 1 ≤ k ∧ k < dp + 1 + suf.length
    · rw [if_pos e3, if_pos (by omega), show k - dp = k - (dp + 1) + 1 by omega]; rfl
    · rw [if_neg e3, if_neg (by omega)]
set_option maxRecDepth 100000 in
set_option maxHeartbeats 4000000 in
theorem cm_getChars (l : Launch) (D : va_G) (cy : Nat → ClassId) (B : Nat) (od : Nat → Option Nat) {A : AH} {v cap dp n e9 : Nat} {f : Nat → Int32} (h3 : A v = some (.inl (cy 3, cap, .inl f))) (hn9 : n < 1000000000) (he9 : dp + (decN n).length = e9) (hc : e9 ≤ cap) (hc2 : cap ≤ 602) : CM l D cy B od yJ6_getChars_ba4f3 cJ6_getChars_ba4f3 7 (some .int) rmJ6_getChars_ba4f3 [.int (nI n), .int (nI e9), .ref v] A (fun v9 A' => v9 = some (.int (nI dp)) ∧ ∃ f', A' = upA A v (.inl (cy 3, cap, .inl f')) ∧ ∀ k, k < cap → f' k = if dp ≤ k ∧ k < dp + (decN n).length then txB (decN n) (k - dp) else f k) := by
  intro z
  refine CT.of (by decide) tJ6_getChars_ba4f3 okJ6_getChars_ba4f3 (Nat.le_of_ble_eq_true rfl) (q0 := tJ6_getChars_ba4f3[0]) rfl rfl ?_
  intro p e s m args below meth c X hnm
  subst he9
  have fin : ∀ (m9 : Nat) (f1 : Nat → Int32) (suf : List Nat), m9 < 100 → decN n = decN m9 ++ suf → dp + (decN m9).length + suf.length ≤ cap → (∀ k, k < cap → f1 k = if dp + (decN m9).length ≤ k ∧ k < dp + (decN m9).length + suf.length then txB suf (k - (dp + (decN m9).length)) else f k) → G p l e rmJ6_getChars_ba4f3 s m args below meth c D B od 7 tJ6_getChars_ba4f3 (FinQ false D B od (fun v9 A' z' => z' = z ∧ v9 = some (.int (nI dp)) ∧ ∃ f', A' = upA A v (.inl (cy 3, cap, .inl f')) ∧ ∀ k, k < cap → f' k = if dp ≤ k ∧ k < dp + (decN n).length then txB (decN n) (k - dp) else f k) (fun _ _ => True) args s below rmJ6_getChars_ba4f3.cells rmJ6_getChars_ba4f3.slots) 0 0 (upA A v (.inl (cy 3, cap, .inl f1))) z 13 [some (.int (-(nI m9))), some (.int (nI (dp + (decN n).length))), some (.ref v), none, none, some (.int (nI (dp + (decN m9).length))), some (.int (nI 0))] [] := by
    intro m9 f1 suf h100 hn hcap hf1
    by_cases h10 : m9 < 10
    · rw [decN_lt h10] at hf1 hcap ⊢
      have hcap : dp + 1 + suf.length ≤ cap := hcap
      have hf1 : ∀ k, k < cap → f1 k = if dp + 1 ≤ k ∧ k < dp + 1 + suf.length then txB suf (k - (dp + 1)) else f k := hf1
      show G p l e rmJ6_getChars_ba4f3 s m args below meth c D B od 7 tJ6_getChars_ba4f3 (FinQ false D B od (fun v9 A' z' => z' = z ∧ v9 = some (.int (nI dp)) ∧ ∃ f', A' = upA A v (.inl (cy 3, cap, .inl f')) ∧ ∀ k, k < cap → f' k = if dp ≤ k ∧ k < dp + (decN n).length then txB (decN n) (k - dp) else f k) (fun _ _ => True) args s below rmJ6_getChars_ba4f3.cells rmJ6_getChars_ba4f3.slots) 0 0 (upA A v (.inl (cy 3, cap, .inl f1))) z 13 [some (.int (-(nI m9))), some (.int (nI (dp + (decN n).length))), some (.ref v), none, none, some (.int (nI (dp + 1))), some (.int (nI 0))] []
      refine g_iload_n X rfl rfl ?_
      refine g_bipush X rfl (v := (-100)) (by decide) ?_
      refine g_icmp_gt X rfl (fun _ => ?_) (fun h => absurd ((neg_lt (by decide) (by omega)).mpr (show m9 < 100 by omega)) h)
      · skip
        refine g_aload_n X rfl rfl ?_
        first | refine g_iincS X rfl rfl (by decide) rfl ?_ | refine g_iinc X rfl rfl (by decide) ?_
        rw [show nI (dp + 1) + Int32.ofInt (-1) = nI (dp) from by rw [show dp + 1 = dp + 1 by omega]; exact nI_m1 _]
        refine g_iload X rfl rfl ?_
        refine g_gst X rfl gsJ6_83 X.zO ?_
        refine g_iload_n X rfl rfl ?_
        refine g_ineg X rfl ?_
        rw [neg_neg]
        refine g_dgO X (by omega) rfl ?_
        refine g_bast X rfl upA_eq (by omega) (by omega) (dg_b m9).1 ?_
        rw [upA_up]
        refine g_iload_n X rfl rfl ?_
        refine g_bipush X rfl (v := (-9)) (by decide) ?_
        refine g_icmp_ge X rfl (fun _ => ?_) (fun h => absurd ((neg_le (a := 9) (b := m9) (by decide) (by omega)).mpr (by omega)) h)
        · skip
          refine g_iload X rfl rfl ?_
          refine g_if_eq X rfl (fun _ => ?_) (fun h => absurd rfl h)
          · skip
            refine g_iload X rfl rfl ?_
            refine g_iret X rfl rfl (by rfl) (Nat.le_of_ble_eq_true rfl) (Nat.le_of_ble_eq_true rfl) ⟨rfl, rfl, _, rfl, ?_⟩
            rw [hn, decN_lt h10]
            have e9 : dgO m9 = nI (48 + m9) := by unfold dgO; rw [Nat.mod_eq_of_lt h10]
            rw [e9]
            exact put1 hf1
    · rw [decN_1 h10 h100] at hf1 hcap ⊢
      have hcap : dp + 2 + suf.length ≤ cap := hcap
      have hf1 : ∀ k, k < cap → f1 k = if dp + 0 + 2 ≤ k ∧ k < dp + 0 + 2 + suf.length then txB suf (k - (dp + 0 + 2)) else f k := hf1
      show G p l e rmJ6_getChars_ba4f3 s m args below meth c D B od 7 tJ6_getChars_ba4f3 (FinQ false D B od (fun v9 A' z' => z' = z ∧ v9 = some (.int (nI dp)) ∧ ∃ f', A' = upA A v (.inl (cy 3, cap, .inl f')) ∧ ∀ k, k < cap → f' k = if dp ≤ k ∧ k < dp + (decN n).length then txB (decN n) (k - dp) else f k) (fun _ _ => True) args s below rmJ6_getChars_ba4f3.cells rmJ6_getChars_ba4f3.slots) 0 0 (upA A v (.inl (cy 3, cap, .inl f1))) z 13 [some (.int (-(nI m9))), some (.int (nI (dp + (decN n).length))), some (.ref v), none, none, some (.int (nI (dp + 2))), some (.int (nI 0))] []
      refine g_iload_n X rfl rfl ?_
      refine g_bipush X rfl (v := (-100)) (by decide) ?_
      refine g_icmp_gt X rfl (fun _ => ?_) (fun h => absurd ((neg_lt (by decide) (by omega)).mpr (show m9 < 100 by omega)) h)
      · skip
        refine g_aload_n X rfl rfl ?_
        first | refine g_iincS X rfl rfl (by decide) rfl ?_ | refine g_iinc X rfl rfl (by decide) ?_
        rw [show nI (dp + 2) + Int32.ofInt (-1) = nI (dp + 1) from by rw [show dp + 2 = dp + 1 + 1 by omega]; exact nI_m1 _]
        refine g_iload X rfl rfl ?_
        refine g_gst X rfl gsJ6_83 X.zO ?_
        refine g_iload_n X rfl rfl ?_
        refine g_ineg X rfl ?_
        rw [neg_neg]
        refine g_dgO X (by omega) rfl ?_
        refine g_bast X rfl upA_eq (by omega) (by omega) (dg_b m9).1 ?_
        rw [upA_up]
        refine g_iload_n X rfl rfl ?_
        refine g_bipush X rfl (v := (-9)) (by decide) ?_
        refine g_icmp_ge X rfl (fun h => absurd ((neg_le (a := 9) (b := m9) (by decide) (by omega)).mp h) (by omega)) (fun _ => ?_)
        · skip
          refine g_aload_n X rfl rfl ?_
          first | refine g_iincS X rfl rfl (by decide) rfl ?_ | refine g_iinc X rfl rfl (by decide) ?_
          rw [show nI (dp + 1) + Int32.ofInt (-1) = nI (dp) from by rw [show dp + 1 = dp + 1 by omega]; exact nI_m1 _]
          refine g_iload X rfl rfl ?_
          refine g_gst X rfl gsJ6_87 X.zT ?_
          refine g_iload_n X rfl rfl ?_
          refine g_ineg X rfl ?_
          rw [neg_neg]
          refine g_dgT X (by omega) rfl ?_
          refine g_bast X rfl upA_eq (by omega) (by omega) ((dg_b m9).2 (by omega)) ?_
          rw [upA_up]
          refine g_iload X rfl rfl ?_
          refine g_if_eq X rfl (fun _ => ?_) (fun h => absurd rfl h)
          · skip
            refine g_iload X rfl rfl ?_
            refine g_iret X rfl rfl (by rfl) (Nat.le_of_ble_eq_true rfl) (Nat.le_of_ble_eq_true rfl) ⟨rfl, rfl, _, rfl, ?_⟩
            rw [hn, decN_1 h10 h100]
            exact put2 (n1 := 0) hf1
  have loop : ∀ (d m9 : Nat) (f1 : Nat → Int32) (suf : List Nat), m9 < 100 ^ (d + 1) → m9 < 1000000000 → decN n = decN m9 ++ suf → dp + (decN m9).length + suf.length ≤ cap → (∀ k, k < cap → f1 k = if dp + (decN m9).length ≤ k ∧ k < dp + (decN m9).length + suf.length then txB suf (k - (dp + (decN m9).length)) else f k) → G p l e rmJ6_getChars_ba4f3 s m args below meth c D B od 7 tJ6_getChars_ba4f3 (FinQ false D B od (fun v9 A' z' => z' = z ∧ v9 = some (.int (nI dp)) ∧ ∃ f', A' = upA A v (.inl (cy 3, cap, .inl f')) ∧ ∀ k, k < cap → f' k = if dp ≤ k ∧ k < dp + (decN n).length then txB (decN n) (k - dp) else f k) (fun _ _ => True) args s below rmJ6_getChars_ba4f3.cells rmJ6_getChars_ba4f3.slots) 0 0 (upA A v (.inl (cy 3, cap, .inl f1))) z 13 [some (.int (-(nI m9))), some (.int (nI (dp + (decN n).length))), some (.ref v), none, none, some (.int (nI (dp + (decN m9).length))), some (.int (nI 0))] [] := by
    intro d
    induction d with
    | zero =>
      intro m9 f1 suf hb hb2 hn hcap hf1
      exact fin m9 f1 suf (by omega) hn hcap hf1
    | succ d ih =>
      intro m9 f1 suf hb hb2 hn hcap hf1
      by_cases h100 : m9 < 100
      · exact fin m9 f1 suf h100 hn hcap hf1
      · obtain ⟨q9, hq9⟩ : ∃ q9, (decN (m9 / 100)).length = q9 := ⟨_, rfl⟩
        have hl : (decN m9).length = q9 + 2 := by rw [decN_2 h100 hb2, List.length_append, hq9]; rfl
        rw [hl] at hcap hf1 ⊢
        have hf1 : ∀ k, k < cap → f1 k = if dp + q9 + 2 ≤ k ∧ k < dp + q9 + 2 + suf.length then txB suf (k - (dp + q9 + 2)) else f k := hf1
        have hcap : dp + q9 + 2 + suf.length ≤ cap := hcap
        show G p l e rmJ6_getChars_ba4f3 s m args below meth c D B od 7 tJ6_getChars_ba4f3 (FinQ false D B od (fun v9 A' z' => z' = z ∧ v9 = some (.int (nI dp)) ∧ ∃ f', A' = upA A v (.inl (cy 3, cap, .inl f')) ∧ ∀ k, k < cap → f' k = if dp ≤ k ∧ k < dp + (decN n).length then txB (decN n) (k - dp) else f k) (fun _ _ => True) args s below rmJ6_getChars_ba4f3.cells rmJ6_getChars_ba4f3.slots) 0 0 (upA A v (.inl (cy 3, cap, .inl f1))) z 13 [some (.int (-(nI m9))), some (.int (nI (dp + (decN n).length))), some (.ref v), none, none, some (.int (nI (dp + q9 + 2))), some (.int (nI 0))] []
        refine g_iload_n X rfl rfl ?_
        refine g_bipush X rfl (v := (-100)) (by decide) ?_
        refine g_icmp_gt X rfl (fun h => absurd ((neg_lt (a := 100) (b := m9) (by decide) (by omega)).mp h) (by omega)) (fun _ => ?_)
        · skip
          refine g_iload_n X rfl rfl ?_
          refine g_bipush X rfl (v := nI 100) (by decide) ?_
          refine g_idiv X rfl (by decide) ?_
          rw [neg_div (by omega) (by decide) (by decide)]
          first | refine g_istore_nS X rfl (by decide) rfl ?_ | refine g_istore_n X rfl (by decide) ?_
          refine g_iload_n X rfl rfl ?_
          refine g_bipush X rfl (v := nI 100) (by decide) ?_
          refine g_imul X rfl ?_
          rw [neg_mul]
          refine g_iload_n X rfl rfl ?_
          refine g_isub X rfl ?_
          rw [sub_neg _ _ (Nat.div_mul_le_self m9 100), show m9 - m9 / 100 * 100 = m9 % 100 by omega]
          first | refine g_istoreS X rfl (by decide) rfl ?_ | refine g_istore X rfl (by decide) ?_
          refine g_iload_n X rfl rfl ?_
          first | refine g_istore_nS X rfl (by decide) rfl ?_ | refine g_istore_n X rfl (by decide) ?_
          refine g_aload_n X rfl rfl ?_
          first | refine g_iincS X rfl rfl (by decide) rfl ?_ | refine g_iinc X rfl rfl (by decide) ?_
          rw [show nI (dp + q9 + 2) + Int32.ofInt (-1) = nI (dp + q9 + 1) from by rw [show dp + q9 + 2 = dp + q9 + 1 + 1 by omega]; exact nI_m1 _]
          refine g_iload X rfl rfl ?_
          refine g_gst X rfl gsJ6_83 X.zO ?_
          refine g_iload X rfl rfl ?_
          refine g_dgO X (by omega) rfl ?_
          refine g_bast X rfl upA_eq (by omega) (by omega) (dg_b (m9 % 100)).1 ?_
          rw [upA_up]
          refine g_aload_n X rfl rfl ?_
          first | refine g_iincS X rfl rfl (by decide) rfl ?_ | refine g_iinc X rfl rfl (by decide) ?_
          rw [show nI (dp + q9 + 1) + Int32.ofInt (-1) = nI (dp + q9) from by rw [show dp + q9 + 1 = dp + q9 + 1 by omega]; exact nI_m1 _]
          refine g_iload X rfl rfl ?_
          refine g_gst X rfl gsJ6_87 X.zT ?_
          refine g_iload X rfl rfl ?_
          refine g_dgT X (by omega) rfl ?_
          refine g_bast X rfl upA_eq (by omega) (by omega) ((dg_b (m9 % 100)).2 (by omega)) ?_
          rw [upA_up]
          refine g_goto X rfl ?_
          refine g_forget (lv' := [some (.int (-(nI (m9 / 100)))), some (.int (nI (dp + (decN n).length))), some (.ref v), none, none, some (.int (nI (dp + q9))), some (.int (nI 0))]) ⟨rfl, rfl, rfl, rfl, rfl, trivial⟩ ?_
          have K9 := ih (m9 / 100) (upd (upd f1 (dp + q9 + 1) (dgO (m9 % 100))) (dp + q9) (dgT (m9 % 100))) ((48 + m9 % 100 / 10) :: (48 + m9 % 100 % 10) :: suf) (by rw [Nat.div_lt_iff_lt_mul (by decide), ← Nat.pow_succ]; exact hb) (by omega) (by rw [hn, decN_2 h100 hb2, List.append_assoc]; rfl) (by simp only [List.length_cons]; omega) (by rw [hq9]; exact put2 hf1)
          rw [hq9] at K9
          exact K9
  refine g_iload_n X rfl rfl ?_
  first | refine g_istoreS X rfl (by decide) rfl ?_ | refine g_istore X rfl (by decide) ?_
  refine g_iload_n X rfl rfl ?_
  refine g_if_ge X rfl (fun _ => ?_) (fun h => absurd (nI_pos' (by omega)) h)
  · skip
    refine g_iconst X rfl (v := nI 0) (by decide) ?_
    first | refine g_istoreS X rfl (by decide) rfl ?_ | refine g_istore X rfl (by decide) ?_
    refine g_iload X rfl rfl ?_
    refine g_if_ne X rfl (fun h => absurd rfl h) (fun _ => ?_)
    · skip
      refine g_iload_n X rfl rfl ?_
      refine g_ineg X rfl ?_
      first | refine g_istore_nS X rfl (by decide) rfl ?_ | refine g_istore_n X rfl (by decide) ?_
      have K9 := loop 4 n f [] (by omega) hn9 (List.append_nil _).symm (by show dp + (decN n).length + 0 ≤ cap; omega) (fun k hk => by rw [if_neg (by show ¬ (_ ∧ k < _ + 0); omega)])
      rw [upA_same h3] at K9
      exact K9
set_option maxRecDepth 100000 in
set_option maxHeartbeats 400000 in
theorem ct_appendI5 (l : Launch) (D : va_G) (cy : Nat → ClassId) (B : Nat) (od : Nat → Option Nat) {A : AH} {b v cap : Nat} {tx : List Nat} {ml : Int32} {f : Nat → Int32} (hb : SbE cy A b v tx cap ml f) {n z : Nat} (hn9 : n < 1000000000) (hlen : tx.length + (decN n).length ≤ 300) (hF : FRs A z) (hz : z < 1000000) : CT l D cy B od yJ5_append_c97b9 cJ5_append_c97b9 4 (some (.object "java/lang/AbstractStringBuilder")) rmJ5_append_c97b9 [.ref b, .int (nI n)] A (z + 1) (fun v9 A' z' => v9 = some (.ref b) ∧ AppQ cy A A' b v z z' (tx ++ decN n)) := by
  refine CT.of (by decide) tJ5_append_c97b9 okJ5_append_c97b9 (Nat.le_of_ble_eq_true rfl) (q0 := tJ5_append_c97b9[0]) rfl rfl ?_
  intro p e s m args below meth c X hnm
  obtain ⟨hasc, h2, h3, h4, h5, h6, h7⟩ := id hb
  refine g_aload_n X rfl rfl ?_
  refine g_get X rfl flJ5_79 (ci := 12) rfl (h2) rfl ?_
  first | refine g_istore_nS X rfl (by decide) rfl ?_ | refine g_istore_n X rfl (by decide) ?_
  refine g_iload_n X rfl rfl ?_
  refine g_iload_n X rfl rfl ?_
  refine g_rS X rfl lcJ6_stringSize_0f7a4 lmJ5_245 stJ6_stringSize_0f7a4 (cr_stringSize l D cy B od hn9) rfl rfl (Nat.le_of_ble_eq_true rfl) ⟨⟨by decide, by decide⟩, rfl, rfl⟩ ⟨Nat.le_of_ble_eq_true rfl, Nat.le_of_ble_eq_true rfl⟩ ?_
  refine g_iadd X rfl ?_
  rw [nI_add]
  first | refine g_istore_nS X rfl (by decide) rfl ?_ | refine g_istore_n X rfl (by decide) ?_
  refine g_aload_n X rfl rfl ?_
  refine g_iload_n X rfl rfl ?_
  refine g_pV X rfl lcJ5_ensureCapacityInternal_d00df lmJ5_100 liJ5_ensureCapacityInternal_d00df (by simp [privL]) rfl (ct_ensure l D cy B od hb hlen hF hz) (h2) rfl rfl (Nat.le_of_ble_eq_true rfl) ⟨by decide, by decide⟩ ⟨Nat.le_of_ble_eq_true rfl, Nat.le_of_ble_eq_true rfl⟩ (fun v9 A1 z9 q9 => ?_)
  obtain ⟨rfl, v1, z1, cap1, ml1, f1, rfl, hv1, hF1, hb1, hm1, hf1⟩ := q9
  obtain ⟨-, e2, e3, e4, e5, e6, e7⟩ := id hb1
  refine g_aload_n X rfl rfl ?_
  refine g_callVC X (C := RJ4) rfl lcJ5_isLatin1_aae02 lmJ5_83 liJ5_isLatin1_aae02 (X.1.2.2.2.2 _ sel_l1) (cr_sb_isLatin1 l D cy B od ⟨_, _, _, hb1⟩ _) (ci := 12) (e2) rfl rfl rfl (Nat.le_of_ble_eq_true rfl) ⟨by decide, by decide⟩ ⟨Nat.le_of_ble_eq_true rfl, Nat.le_of_ble_eq_true rfl⟩ (fun w1 B1 y1 p1 => ?_)
  obtain ⟨rfl, rfl, rfl⟩ := p1
  refine g_if_eq X rfl (fun h => absurd h (by decide)) (fun _ => ?_)
  · skip
    refine g_iload_n X rfl rfl ?_
    refine g_iload_n X rfl rfl ?_
    refine g_aload_n X rfl rfl ?_
    refine g_get X rfl flJ5_15 (ci := 12) rfl (e2) rfl ?_
    refine g_mS X rfl lcJ6_getChars_ba4f3 lmJ5_248 stJ6_getChars_ba4f3 (cm_getChars l D cy B od (dp := tx.length) e3 hn9 rfl hm1 e5) rfl rfl (Nat.le_of_ble_eq_true rfl) ⟨⟨by decide, by decide⟩, rfl, rfl⟩ ⟨Nat.le_of_ble_eq_true rfl, Nat.le_of_ble_eq_true rfl⟩ (fun v8 A2 q8 => ?_)
    obtain ⟨rfl, f2, rfl, hf2⟩ := q8
    refine g_pop X rfl rfl ?_
    refine g_goto X rfl ?_
    refine g_aload_n X rfl rfl ?_
    refine g_iload_n X rfl rfl ?_
    refine g_put X rfl flJ5_79 rfl (ci := 12) rfl ((upA_ne hb1.ne).trans e2) (Nat.le_of_ble_eq_true rfl) (by rfl) (by rfl) ?_
    refine g_aload_n X rfl rfl ?_
    refine g_aret X rfl rfl (Nat.le_of_ble_eq_true rfl) (Nat.le_of_ble_eq_true rfl) ⟨rfl, v1, z1, rfl, hv1, (hF1.up (hF1.lt e3)).up (hF1.lt e2), ⟨cap1, ml1, f2, tAsc_app hasc (decN_asc 9 n), ?_, (upA_ne (Ne.symm hb1.ne)).trans upA_eq, by rw [List.length_append]; omega, e5, fun k hk => ?_, fun k hk => ?_⟩, fun q n1 n2 n3 => ?_⟩
    · rw [List.length_append]; exact upA_eq
    · rw [List.length_append] at hk; rw [hf2 k (by omega), txB_app]
      by_cases e : k < tx.length
      · rw [if_neg (by omega), if_pos e]; exact e6 k e
      · rw [if_pos (by omega), if_neg e]
    · rw [hf2 k hk]
      by_cases e : tx.length ≤ k ∧ k < tx.length + (decN n).length
      · rw [if_pos e]; exact fits_c _ (decN_asc 9 n _ (by show k - tx.length < (decN n).length; omega))
      · rw [if_neg e]; exact e7 k hk
    · rw [upA_ne n1, upA_ne (show q ≠ v1 from by rcases hv1 with h | h; (rw [h.1]; exact n2); (rw [h.1]; exact n3))]; exact hf1 q n1 n3
set_option maxRecDepth 100000 in
set_option maxHeartbeats 400000 in
theorem ct_appendI (l : Launch) (D : va_G) (cy : Nat → ClassId) (B : Nat) (od : Nat → Option Nat) {A : AH} {b v cap : Nat} {tx : List Nat} {ml : Int32} {f : Nat → Int32} (hb : SbE cy A b v tx cap ml f) {n z : Nat} (hn9 : n < 1000000000) (hlen : tx.length + (decN n).length ≤ 300) (hF : FRs A z) (hz : z < 1000000) : CT l D cy B od yJ4_append_bf812 cJ4_append_bf812 2 (some (.object "java/lang/StringBuilder")) rmJ4_append_bf812 [.ref b, .int (nI n)] A (z + 1) (fun v9 A' z' => v9 = some (.ref b) ∧ AppQ cy A A' b v z z' (tx ++ decN n)) := by
  refine CT.of (by decide) tJ4_append_bf812 okJ4_append_bf812 (Nat.le_of_ble_eq_true rfl) (q0 := tJ4_append_bf812[0]) rfl rfl ?_
  intro p e s m args below meth c X hnm
  refine g_aload_n X rfl rfl ?_
  refine g_iload_n X rfl rfl ?_
  refine g_callSU X rfl lcJ5_append_c97b9 lmJ4_53 liJ5_append_c97b9 sm_append_i su_sb (by decide) (ct_appendI5 l D cy B od hb hn9 hlen hF hz) (C := RJ4) (ci := 12) (hb.2.1) rfl rfl rfl (Nat.le_of_ble_eq_true rfl) ⟨by decide, by decide⟩ ⟨Nat.le_of_ble_eq_true rfl, Nat.le_of_ble_eq_true rfl⟩ (fun v1 A1 z1 q1 => ?_)
  obtain ⟨rfl, q1⟩ := q1
  refine g_pop X rfl rfl ?_
  refine g_aload_n X rfl rfl ?_
  exact g_aret X rfl rfl (Nat.le_of_ble_eq_true rfl) (Nat.le_of_ble_eq_true rfl) ⟨rfl, q1⟩
