/-! 57: numbers that are drawn -/
/-- a number in bounds, now and then just beyond one of them; N: how many there are -/
def numI (n : Nat) (lo hi : Int32) (N : Nat) : Int32 := if n % 23 = 0 then hi + nI 1 else if n % 29 = 0 then lo - nI 1 else lo + nI (n / 3 % N)
def numN (n lo hi : Nat) : Nat := if n % 23 = 0 then hi + 1 else if n % 29 = 0 then lo - 1 else lo + n / 3 % (hi - lo + 1)
theorem numI_N {n lo hi : Nat} (h1 : 1 ≤ lo) (h2 : lo ≤ hi) : numI n (nI lo) (nI hi) (hi - lo + 1) = nI (numN n lo hi) := by
  unfold numI numN
  by_cases a : n % 23 = 0
  · rw [if_pos a, if_pos a, nI_add]
  · rw [if_neg a, if_neg a]
    by_cases b : n % 29 = 0
    · rw [if_pos b, if_pos b, pk_sub h1]
    · rw [if_neg b, if_neg b, nI_add]
theorem numN_le {n lo hi : Nat} (h2 : lo ≤ hi) : numN n lo hi ≤ hi + 1 := by
  unfold numN
  have := Nat.mod_lt (n / 3) (show 0 < hi - lo + 1 by omega)
  split
  · omega
  · split <;> omega
def dayI (n : Nat) : Int32 := if n % 7 = 0 then -1 else numI (n / 7) (nI 0) (nI 359) 360
def amtN (n : Nat) : Nat := if n % 5 = 0 then numN (n / 5) 1 10000000 else numN (n / 5) 1 300000 % 300001 + (if n / 5 % 29 = 0 then 0 else 1)
set_option maxRecDepth 100000 in
set_option maxHeartbeats 400000 in
theorem cr_L_number (l : Launch) (D : va_G) (cy : Nat → ClassId) (B : Nat) (od : Nat → Option Nat) {A : AH} {n N : Nat} {lo hi : Int32} (hn : n < 2 ^ 31) (hN0 : 0 < N) (hN : N < 2 ^ 31) (hd : hi - lo + nI 1 = nI N) : CR l D cy B od yL_number cL_number 3 (some .int) rmL_number [.int (nI n), .int lo, .int hi] A (.int (numI n lo hi N)) := by
  intro z
  refine CT.of (by decide) tL_number okL_number (Nat.le_of_ble_eq_true rfl) (q0 := tL_number[0]) rfl rfl ?_
  intro p e s m args below meth c X hnm
  refine g_iload_n X rfl rfl ?_
  refine g_bipush X rfl (v := nI 23) (by decide) ?_
  refine g_irem X rfl (by decide) ?_
  rw [rem_N (by omega) (by decide) (by decide)]
  refine g_if_ne X rfl (fun h => ?_) (fun h => ?_)
  · have h1 : ¬ n % 23 = 0 := fun q => h (by rw [q]; rfl)
    refine g_iload_n X rfl rfl ?_
    refine g_bipush X rfl (v := nI 29) (by decide) ?_
    refine g_irem X rfl (by decide) ?_
    rw [rem_N (by omega) (by decide) (by decide)]
    refine g_if_ne X rfl (fun h => ?_) (fun h => ?_)
    · have h2 : ¬ n % 29 = 0 := fun q => h (by rw [q]; rfl)
      refine g_iload_n X rfl rfl ?_
      refine g_iload_n X rfl rfl ?_
      refine g_iconst X rfl (v := nI 3) (by decide) ?_
      refine g_idiv X rfl (by decide) ?_
      rw [pk_div (by omega) (by decide) (by decide)]
      refine g_iload_n X rfl rfl ?_
      refine g_iload_n X rfl rfl ?_
      refine g_isub X rfl ?_
      refine g_iconst X rfl (v := nI 1) (by decide) ?_
      refine g_iadd X rfl ?_
      rw [hd]
      refine g_irem X rfl (fun q => by rw [nI_eq0 (by omega)] at q; omega) ?_
      rw [rem_N (by omega) hN0 hN]
      refine g_iadd X rfl ?_
      exact g_iret X rfl rfl (by rfl) (Nat.le_of_ble_eq_true rfl) (Nat.le_of_ble_eq_true rfl) ⟨by rw [numI, if_neg h1, if_neg h2], rfl, rfl⟩
    · have h2 : n % 29 = 0 := (nI_eq0 (by omega)).mp h
      refine g_iload_n X rfl rfl ?_
      refine g_iconst X rfl (v := nI 1) (by decide) ?_
      refine g_isub X rfl ?_
      refine g_goto X rfl ?_
      exact g_iret X rfl rfl (by rfl) (Nat.le_of_ble_eq_true rfl) (Nat.le_of_ble_eq_true rfl) ⟨by rw [numI, if_neg h1, if_pos h2], rfl, rfl⟩
  · have h1 : n % 23 = 0 := (nI_eq0 (by omega)).mp h
    refine g_iload_n X rfl rfl ?_
    refine g_iconst X rfl (v := nI 1) (by decide) ?_
    refine g_iadd X rfl ?_
    refine g_goto X rfl ?_
    exact g_iret X rfl rfl (by rfl) (Nat.le_of_ble_eq_true rfl) (Nat.le_of_ble_eq_true rfl) ⟨by rw [numI, if_pos h1], rfl, rfl⟩
set_option maxRecDepth 100000 in
set_option maxHeartbeats 400000 in
theorem cr_L_is (l : Launch) (D : va_G) (cy : Nat → ClassId) (B : Nat) (od : Nat → Option Nat) {A : AH} {v lo hi : Int32} : CR l D cy B od yL_is cL_is 3 (some .boolean) rmL_is [.int v, .int lo, .int hi] A (.int (bI (within9 v lo hi))) := by
  intro z
  refine CT.of (by decide) tL_is okL_is (Nat.le_of_ble_eq_true rfl) (q0 := tL_is[0]) rfl rfl ?_
  intro p e s m args below meth c X hnm
  refine g_iload_n X rfl rfl ?_
  refine g_iload_n X rfl rfl ?_
  refine g_icmp_lt X rfl (fun h => ?_) (fun h => ?_)
  · have hq : within9 v lo hi = false := by unfold within9; rw [decide_eq_false (Int32.not_le.mpr h)]; rfl
    refine g_iconst X rfl (v := nI 0) (by decide) ?_
    exact g_iret X rfl rfl (by decide) (Nat.le_of_ble_eq_true rfl) (Nat.le_of_ble_eq_true rfl) ⟨by rw [hq]; rfl, rfl, rfl⟩
  · skip
    refine g_iload_n X rfl rfl ?_
    refine g_iload_n X rfl rfl ?_
    refine g_icmp_gt X rfl (fun h2 => ?_) (fun h2 => ?_)
    · have hq : within9 v lo hi = false := by unfold within9; rw [decide_eq_false (Int32.not_le.mpr h2), Bool.and_false]
      refine g_iconst X rfl (v := nI 0) (by decide) ?_
      exact g_iret X rfl rfl (by decide) (Nat.le_of_ble_eq_true rfl) (Nat.le_of_ble_eq_true rfl) ⟨by rw [hq]; rfl, rfl, rfl⟩
    · have hq : within9 v lo hi = true := by unfold within9; rw [decide_eq_true (Int32.not_lt.mp h), decide_eq_true (Int32.not_lt.mp h2)]; rfl
      refine g_iconst X rfl (v := nI 1) (by decide) ?_
      refine g_goto X rfl ?_
      exact g_iret X rfl rfl (by decide) (Nat.le_of_ble_eq_true rfl) (Nat.le_of_ble_eq_true rfl) ⟨by rw [hq]; rfl, rfl, rfl⟩
def isErr (v : Int32) : Bool := decide (v ≤ -1000000001) && decide (-1000000004 ≤ v)
set_option maxRecDepth 100000 in
set_option maxHeartbeats 400000 in
theorem cr_L_isError (l : Launch) (D : va_G) (cy : Nat → ClassId) (B : Nat) (od : Nat → Option Nat) {A : AH} {v : Int32} : CR l D cy B od yL_isError cL_isError 1 (some .boolean) rmL_isError [.int v] A (.int (bI (isErr v))) := by
  intro z
  refine CT.of (by decide) tL_isError okL_isError (Nat.le_of_ble_eq_true rfl) (q0 := tL_isError[0]) rfl rfl ?_
  intro p e s m args below meth c X hnm
  refine g_iload_n X rfl rfl ?_
  refine g_ldc X rfl kcL_58 ?_
  refine g_icmp_gt X rfl (fun h => ?_) (fun h => ?_)
  · have hq : isErr v = false := by unfold isErr; rw [decide_eq_false (Int32.not_le.mpr h)]; rfl
    refine g_iconst X rfl (v := nI 0) (by decide) ?_
    exact g_iret X rfl rfl (by decide) (Nat.le_of_ble_eq_true rfl) (Nat.le_of_ble_eq_true rfl) ⟨by rw [hq]; rfl, rfl, rfl⟩
  · skip
    refine g_iload_n X rfl rfl ?_
    refine g_ldc X rfl kcL_84 ?_
    refine g_icmp_lt X rfl (fun h2 => ?_) (fun h2 => ?_)
    · have hq : isErr v = false := by unfold isErr; rw [decide_eq_false (Int32.not_le.mpr h2), Bool.and_false]
      refine g_iconst X rfl (v := nI 0) (by decide) ?_
      exact g_iret X rfl rfl (by decide) (Nat.le_of_ble_eq_true rfl) (Nat.le_of_ble_eq_true rfl) ⟨by rw [hq]; rfl, rfl, rfl⟩
    · have hq : isErr v = true := by unfold isErr; rw [decide_eq_true (Int32.not_lt.mp h), decide_eq_true (Int32.not_lt.mp h2)]; rfl
      refine g_iconst X rfl (v := nI 1) (by decide) ?_
      refine g_goto X rfl ?_
      exact g_iret X rfl rfl (by decide) (Nat.le_of_ble_eq_true rfl) (Nat.le_of_ble_eq_true rfl) ⟨by rw [hq]; rfl, rfl, rfl⟩
set_option maxRecDepth 100000 in
set_option maxHeartbeats 400000 in
theorem cr_L_day (l : Launch) (D : va_G) (cy : Nat → ClassId) (B : Nat) (od : Nat → Option Nat) {A : AH} {n : Nat} (hn : n < 2 ^ 31) : CR l D cy B od yL_day cL_day 1 (some .int) rmL_day [.int (nI n)] A (.int (dayI n)) := by
  intro z
  refine CT.of (by decide) tL_day okL_day (Nat.le_of_ble_eq_true rfl) (q0 := tL_day[0]) rfl rfl ?_
  intro p e s m args below meth c X hnm
  refine g_iload_n X rfl rfl ?_
  refine g_bipush X rfl (v := nI 7) (by decide) ?_
  refine g_irem X rfl (by decide) ?_
  rw [rem_N (by omega) (by decide) (by decide)]
  refine g_if_ne X rfl (fun h => ?_) (fun h => ?_)
  · have h1 : ¬ n % 7 = 0 := fun q => h (by rw [q]; rfl)
    refine g_iload_n X rfl rfl ?_
    refine g_bipush X rfl (v := nI 7) (by decide) ?_
    refine g_idiv X rfl (by decide) ?_
    rw [pk_div (by omega) (by decide) (by decide)]
    refine g_iconst X rfl (v := nI 0) (by decide) ?_
    refine g_sipush X rfl (v := nI 359) (by decide) ?_
    refine g_rS X rfl lcL_number lmL_86 stL_number (cr_L_number l D cy B od (n := n / 7) (N := 360) (lo := nI 0) (hi := nI 359) (by omega) (by decide) (by decide) (by decide)) rfl rfl (Nat.le_of_ble_eq_true rfl) ⟨⟨by decide, by decide⟩, rfl, rfl⟩ ⟨Nat.le_of_ble_eq_true rfl, Nat.le_of_ble_eq_true rfl⟩ ?_
    exact g_iret X rfl rfl (by rfl) (Nat.le_of_ble_eq_true rfl) (Nat.le_of_ble_eq_true rfl) ⟨by rw [dayI, if_neg h1], rfl, rfl⟩
  · have h1 : n % 7 = 0 := (nI_eq0 (by omega)).mp h
    refine g_iconst X rfl (v := (-1)) (by decide) ?_
    refine g_goto X rfl ?_
    exact g_iret X rfl rfl (by rfl) (Nat.le_of_ble_eq_true rfl) (Nat.le_of_ble_eq_true rfl) ⟨by rw [dayI, if_pos h1], rfl, rfl⟩
set_option maxRecDepth 100000 in
set_option maxHeartbeats 400000 in
theorem cr_L_amount (l : Launch) (D : va_G) (cy : Nat → ClassId) (B : Nat) (od : Nat → Option Nat) {A : AH} {n : Nat} (hn : n < 2 ^ 31) : CR l D cy B od yL_amount cL_amount 1 (some .int) rmL_amount [.int (nI n)] A (.int (nI (amtN n))) := by
  intro z
  refine CT.of (by decide) tL_amount okL_amount (Nat.le_of_ble_eq_true rfl) (q0 := tL_amount[0]) rfl rfl ?_
  intro p e s m args below meth c X hnm
  refine g_iload_n X rfl rfl ?_
  refine g_iconst X rfl (v := nI 5) (by decide) ?_
  refine g_irem X rfl (by decide) ?_
  rw [rem_N (by omega) (by decide) (by decide)]
  refine g_if_ne X rfl (fun h => ?_) (fun h => ?_)
  · have h1 : ¬ n % 5 = 0 := fun q => h (by rw [q]; rfl)
    refine g_iload_n X rfl rfl ?_
    refine g_iconst X rfl (v := nI 5) (by decide) ?_
    refine g_idiv X rfl (by decide) ?_
    rw [pk_div (by omega) (by decide) (by decide)]
    refine g_iconst X rfl (v := nI 1) (by decide) ?_
    refine g_ldc X rfl kcL_89 ?_
    refine g_rS X rfl lcL_number lmL_86 stL_number (cr_L_number l D cy B od (n := n / 5) (N := (300000 - 1 + 1)) (lo := nI 1) (hi := nI 300000) (by omega) (by decide) (by decide) (by decide)) rfl rfl (Nat.le_of_ble_eq_true rfl) ⟨⟨by decide, by decide⟩, rfl, rfl⟩ ⟨Nat.le_of_ble_eq_true rfl, Nat.le_of_ble_eq_true rfl⟩ ?_
    rw [numI_N (by decide) (by decide)]
    have hnn := @numN_le (n / 5) 1 300000 (by decide)
    refine g_ldc X rfl kcL_90 ?_
    refine g_irem X rfl (by decide) ?_
    rw [rem_N (by omega) (by decide) (by decide)]
    refine g_iload_n X rfl rfl ?_
    refine g_iconst X rfl (v := nI 5) (by decide) ?_
    refine g_idiv X rfl (by decide) ?_
    rw [pk_div (by omega) (by decide) (by decide)]
    refine g_bipush X rfl (v := nI 29) (by decide) ?_
    refine g_irem X rfl (by decide) ?_
    rw [rem_N (by omega) (by decide) (by decide)]
    refine g_if_ne X rfl (fun h => ?_) (fun h => ?_)
    · have h2 : ¬ n / 5 % 29 = 0 := fun q => h (by rw [q]; rfl)
      refine g_iconst X rfl (v := nI 1) (by decide) ?_
      refine g_iadd X rfl ?_
      rw [nI_add]
      exact g_iret X rfl rfl (by rfl) (Nat.le_of_ble_eq_true rfl) (Nat.le_of_ble_eq_true rfl) ⟨by rw [amtN, if_neg h1, if_neg h2], rfl, rfl⟩
    · have h2 : n / 5 % 29 = 0 := (nI_eq0 (by omega)).mp h
      refine g_iconst X rfl (v := nI 0) (by decide) ?_
      refine g_goto X rfl ?_
      refine g_iadd X rfl ?_
      rw [nI_add]
      exact g_iret X rfl rfl (by rfl) (Nat.le_of_ble_eq_true rfl) (Nat.le_of_ble_eq_true rfl) ⟨by rw [amtN, if_neg h1, if_pos h2], rfl, rfl⟩
  · have h1 : n % 5 = 0 := (nI_eq0 (by omega)).mp h
    refine g_iload_n X rfl rfl ?_
    refine g_iconst X rfl (v := nI 5) (by decide) ?_
    refine g_idiv X rfl (by decide) ?_
    rw [pk_div (by omega) (by decide) (by decide)]
    refine g_iconst X rfl (v := nI 1) (by decide) ?_
    refine g_ldc X rfl kcL_85 ?_
    refine g_rS X rfl lcL_number lmL_86 stL_number (cr_L_number l D cy B od (n := n / 5) (N := (10000000 - 1 + 1)) (lo := nI 1) (hi := nI 10000000) (by omega) (by decide) (by decide) (by decide)) rfl rfl (Nat.le_of_ble_eq_true rfl) ⟨⟨by decide, by decide⟩, rfl, rfl⟩ ⟨Nat.le_of_ble_eq_true rfl, Nat.le_of_ble_eq_true rfl⟩ ?_
    rw [numI_N (by decide) (by decide)]
    refine g_goto X rfl ?_
    exact g_iret X rfl rfl (by rfl) (Nat.le_of_ble_eq_true rfl) (Nat.le_of_ble_eq_true rfl) ⟨by rw [amtN, if_pos h1], rfl, rfl⟩
