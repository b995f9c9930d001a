/-! 09: rules over numbers of a known range, pure contracts, and how they are called -/
def bI (q : Bool) : Int32 := if q then 1 else 0
theorem bI_0 {q : Bool} : bI q = 0 ↔ q = false := by cases q <;> simp [bI]
theorem bI_n0 {q : Bool} : ¬ bI q = 0 ↔ q = true := by cases q <;> simp [bI]
theorem bI_01 (q : Bool) : bI q = 0 ∨ bI q = 1 := by cases q <;> simp [bI]
theorem bI_nar (q : Bool) : narrow .boolean (.int (bI q)) = .int (bI q) := by cases q <;> rfl
theorem bR0 {q : Bool} (h : q = false) : some (Value.int (nI 0)) = some (Value.int (bI q)) := by subst h; rfl
theorem bR1 {q : Bool} (h : q = true) : some (Value.int (nI 1)) = some (Value.int (bI q)) := by subst h; rfl
theorem ints_c {x : Int32} (a : Int32) (h : x = a) : x = a := h
/-- a method that leaves the heap as it is, its answer r -/
def CR (l : Launch) (D : va_G) (cy : Nat → ClassId) (B : Nat) (od : Nat → Option Nat) (y : MethodName) (bytes : ByteArray) (maxL : Nat) (rt : Option FieldType) (rm : Room) (av : List Value) (A : AH) (r : Value) : Prop := ∀ z, CT l D cy B od y bytes maxL rt rm av A z (fun v A' z' => v = some r ∧ A' = A ∧ z' = z)
section CORE9
variable {p : Program} {l : Launch} {e : Env} {R : Room} {s : State} {m : MethodId} {args : Array Value} {below : List Frame} {meth : Method} {c : Code}
variable {D : va_G} {cy : Nat → ClassId} {B : Nat} {od : Nat → Option Nat} {cc : ByteArray} {nL : Nat} {tab : List PT} {own : String} {ret : Option FieldType}
variable {F : State → Prop} {cells slots : Nat} {A : AH} {z i pc len nx tg : Nat} {lv : List (Option Value)} {st : List Value}
theorem g_ic_eqN (X : Cx p s m args meth c D cy B od cc nL tab own ret) {a b : Nat} {d : Int} (hi : tab[i]? = some (pc, .if_icmp .eq d, 3, nx, tg)) (ha : a < 2 ^ 31) (hb : b < 2 ^ 31) (kt : a = b → G p l e R s m args below meth c D B od nL tab F cells slots A z tg lv st) (kf : ¬ a = b → G p l e R s m args below meth c D B od nL tab F cells slots A z nx lv st) : G p l e R s m args below meth c D B od nL tab F cells slots A z i lv (.int (nI b) :: .int (nI a) :: st) :=
  g_icmp_eq X hi (fun h => kt ((nI_eq ha hb).mp h)) (fun h => kf (fun q => h ((nI_eq ha hb).mpr q)))
theorem g_ic_neN (X : Cx p s m args meth c D cy B od cc nL tab own ret) {a b : Nat} {d : Int} (hi : tab[i]? = some (pc, .if_icmp .ne d, 3, nx, tg)) (ha : a < 2 ^ 31) (hb : b < 2 ^ 31) (kt : ¬ a = b → G p l e R s m args below meth c D B od nL tab F cells slots A z tg lv st) (kf : a = b → G p l e R s m args below meth c D B od nL tab F cells slots A z nx lv st) : G p l e R s m args below meth c D B od nL tab F cells slots A z i lv (.int (nI b) :: .int (nI a) :: st) :=
  g_icmp_ne X hi (fun h => kt (fun q => h ((nI_eq ha hb).mpr q))) (fun h => kf ((nI_eq ha hb).mp h))
theorem g_ic_ltN (X : Cx p s m args meth c D cy B od cc nL tab own ret) {a b : Nat} {d : Int} (hi : tab[i]? = some (pc, .if_icmp .lt d, 3, nx, tg)) (ha : a < 2 ^ 31) (hb : b < 2 ^ 31) (kt : a < b → G p l e R s m args below meth c D B od nL tab F cells slots A z tg lv st) (kf : b ≤ a → G p l e R s m args below meth c D B od nL tab F cells slots A z nx lv st) : G p l e R s m args below meth c D B od nL tab F cells slots A z i lv (.int (nI b) :: .int (nI a) :: st) :=
  g_icmp_lt X hi (fun h => kt ((nI_ltI ha hb).mp h)) (fun h => kf (Nat.not_lt.mp (fun q => h ((nI_ltI ha hb).mpr q))))
theorem g_ic_geN (X : Cx p s m args meth c D cy B od cc nL tab own ret) {a b : Nat} {d : Int} (hi : tab[i]? = some (pc, .if_icmp .ge d, 3, nx, tg)) (ha : a < 2 ^ 31) (hb : b < 2 ^ 31) (kt : b ≤ a → G p l e R s m args below meth c D B od nL tab F cells slots A z tg lv st) (kf : a < b → G p l e R s m args below meth c D B od nL tab F cells slots A z nx lv st) : G p l e R s m args below meth c D B od nL tab F cells slots A z i lv (.int (nI b) :: .int (nI a) :: st) :=
  g_icmp_ge X hi (fun h => kt ((nI_leI hb ha).mp h)) (fun h => kf (Nat.not_le.mp (fun q => h ((nI_leI hb ha).mpr q))))
theorem g_ic_gtN (X : Cx p s m args meth c D cy B od cc nL tab own ret) {a b : Nat} {d : Int} (hi : tab[i]? = some (pc, .if_icmp .gt d, 3, nx, tg)) (ha : a < 2 ^ 31) (hb : b < 2 ^ 31) (kt : b < a → G p l e R s m args below meth c D B od nL tab F cells slots A z tg lv st) (kf : a ≤ b → G p l e R s m args below meth c D B od nL tab F cells slots A z nx lv st) : G p l e R s m args below meth c D B od nL tab F cells slots A z i lv (.int (nI b) :: .int (nI a) :: st) :=
  g_icmp_gt X hi (fun h => kt ((nI_ltI hb ha).mp h)) (fun h => kf (Nat.not_lt.mp (fun q => h ((nI_ltI hb ha).mpr q))))
theorem g_ic_leN (X : Cx p s m args meth c D cy B od cc nL tab own ret) {a b : Nat} {d : Int} (hi : tab[i]? = some (pc, .if_icmp .le d, 3, nx, tg)) (ha : a < 2 ^ 31) (hb : b < 2 ^ 31) (kt : a ≤ b → G p l e R s m args below meth c D B od nL tab F cells slots A z tg lv st) (kf : b < a → G p l e R s m args below meth c D B od nL tab F cells slots A z nx lv st) : G p l e R s m args below meth c D B od nL tab F cells slots A z i lv (.int (nI b) :: .int (nI a) :: st) :=
  g_icmp_le X hi (fun h => kt ((nI_leI ha hb).mp h)) (fun h => kf (Nat.not_le.mp (fun q => h ((nI_leI ha hb).mpr q))))
theorem g_if_eqB (X : Cx p s m args meth c D cy B od cc nL tab own ret) {q : Bool} {d : Int} (hi : tab[i]? = some (pc, .ifCond .eq d, 3, nx, tg)) (kt : q = false → G p l e R s m args below meth c D B od nL tab F cells slots A z tg lv st) (kf : q = true → G p l e R s m args below meth c D B od nL tab F cells slots A z nx lv st) : G p l e R s m args below meth c D B od nL tab F cells slots A z i lv (.int (bI q) :: st) :=
  g_if_eq X hi (fun h => kt (bI_0.mp h)) (fun h => kf (bI_n0.mp h))
theorem g_if_neB (X : Cx p s m args meth c D cy B od cc nL tab own ret) {q : Bool} {d : Int} (hi : tab[i]? = some (pc, .ifCond .ne d, 3, nx, tg)) (kt : q = true → G p l e R s m args below meth c D B od nL tab F cells slots A z tg lv st) (kf : q = false → G p l e R s m args below meth c D B od nL tab F cells slots A z nx lv st) : G p l e R s m args below meth c D B od nL tab F cells slots A z i lv (.int (bI q) :: st) :=
  g_if_ne X hi (fun h => kt (bI_n0.mp h)) (fun h => kf (bI_0.mp h))
theorem lg_eq9 (x y : Int64) : (lg_cmp x y = 0) ↔ (x = y) := by
  rcases Int64.lt_or_le y x with h | h
  · have e1 : lg_cmp x y = 1 := by unfold lg_cmp; rw [if_pos h]
    have n1 : x ≠ y := fun q => absurd h (q ▸ (Int64.lt_irrefl : ¬ x < x))
    have n2 : ¬ x ≤ y := Int64.not_le.mpr h
    have n3 : ¬ x < y := fun q => n2 (Int64.le_of_lt q)
    have n4 : y ≤ x := Int64.le_of_lt h
    rw [e1]; simp [h, n1, n2, n3, n4]
  · by_cases e : x = y
    · subst e
      have e1 : lg_cmp x x = 0 := by unfold lg_cmp; rw [if_neg (Int64.lt_irrefl : ¬ x < x), if_pos rfl]
      rw [e1]; simp [Int64.lt_irrefl]
    · have n0 : ¬ y < x := Int64.not_lt.mpr h
      have e1 : lg_cmp x y = -1 := by unfold lg_cmp; rw [if_neg n0, if_neg e]
      have n1 : x < y := Int64.lt_of_le_of_ne h e
      have n4 : ¬ y ≤ x := Int64.not_le.mpr n1
      rw [e1]; simp [h, e, n1, n4, n0]
theorem g_l_eq (X : Cx p s m args meth c D cy B od cc nL tab own ret) {x y : Int64} {d : Int} {i2 pc2 nx2 tg2 : Nat} (hi : tab[i]? = some (pc, .lcmp, 1, i2, tg)) (hi2 : tab[i2]? = some (pc2, .ifCond .eq d, 3, nx2, tg2)) (kt : x = y → G p l e R s m args below meth c D B od nL tab F cells slots A z tg2 lv st) (kf : ¬ x = y → G p l e R s m args below meth c D B od nL tab F cells slots A z nx2 lv st) : G p l e R s m args below meth c D B od nL tab F cells slots A z i lv (.long y :: .long x :: st) :=
  g_lcmp X hi (g_if_eq X hi2 (fun h => kt ((lg_eq9 x y).mp h)) (fun h => kf (fun q => h ((lg_eq9 x y).mpr q))))
theorem lg_ne9 (x y : Int64) : (¬ lg_cmp x y = 0) ↔ (¬ x = y) := by
  rcases Int64.lt_or_le y x with h | h
  · have e1 : lg_cmp x y = 1 := by unfold lg_cmp; rw [if_pos h]
    have n1 : x ≠ y := fun q => absurd h (q ▸ (Int64.lt_irrefl : ¬ x < x))
    have n2 : ¬ x ≤ y := Int64.not_le.mpr h
    have n3 : ¬ x < y := fun q => n2 (Int64.le_of_lt q)
    have n4 : y ≤ x := Int64.le_of_lt h
    rw [e1]; simp [h, n1, n2, n3, n4]
  · by_cases e : x = y
    · subst e
      have e1 : lg_cmp x x = 0 := by unfold lg_cmp; rw [if_neg (Int64.lt_irrefl : ¬ x < x), if_pos rfl]
      rw [e1]; simp [Int64.lt_irrefl]
    · have n0 : ¬ y < x := Int64.not_lt.mpr h
      have e1 : lg_cmp x y = -1 := by unfold lg_cmp; rw [if_neg n0, if_neg e]
      have n1 : x < y := Int64.lt_of_le_of_ne h e
      have n4 : ¬ y ≤ x := Int64.not_le.mpr n1
      rw [e1]; simp [h, e, n1, n4, n0]
theorem g_l_ne (X : Cx p s m args meth c D cy B od cc nL tab own ret) {x y : Int64} {d : Int} {i2 pc2 nx2 tg2 : Nat} (hi : tab[i]? = some (pc, .lcmp, 1, i2, tg)) (hi2 : tab[i2]? = some (pc2, .ifCond .ne d, 3, nx2, tg2)) (kt : ¬ x = y → G p l e R s m args below meth c D B od nL tab F cells slots A z tg2 lv st) (kf : x = y → G p l e R s m args below meth c D B od nL tab F cells slots A z nx2 lv st) : G p l e R s m args below meth c D B od nL tab F cells slots A z i lv (.long y :: .long x :: st) :=
  g_lcmp X hi (g_if_ne X hi2 (fun h => kt ((lg_ne9 x y).mp h)) (fun h => kf (Classical.not_not.mp (fun q => (Classical.not_not.mpr h) ((lg_ne9 x y).mpr q)))))
theorem lg_lt9 (x y : Int64) : (lg_cmp x y < 0) ↔ (x < y) := by
  rcases Int64.lt_or_le y x with h | h
  · have e1 : lg_cmp x y = 1 := by unfold lg_cmp; rw [if_pos h]
    have n1 : x ≠ y := fun q => absurd h (q ▸ (Int64.lt_irrefl : ¬ x < x))
    have n2 : ¬ x ≤ y := Int64.not_le.mpr h
    have n3 : ¬ x < y := fun q => n2 (Int64.le_of_lt q)
    have n4 : y ≤ x := Int64.le_of_lt h
    rw [e1]; simp [h, n1, n2, n3, n4]
  · by_cases e : x = y
    · subst e
      have e1 : lg_cmp x x = 0 := by unfold lg_cmp; rw [if_neg (Int64.lt_irrefl : ¬ x < x), if_pos rfl]
      rw [e1]; simp [Int64.lt_irrefl]
    · have n0 : ¬ y < x := Int64.not_lt.mpr h
      have e1 : lg_cmp x y = -1 := by unfold lg_cmp; rw [if_neg n0, if_neg e]
      have n1 : x < y := Int64.lt_of_le_of_ne h e
      have n4 : ¬ y ≤ x := Int64.not_le.mpr n1
      rw [e1]; simp [h, e, n1, n4, n0]
theorem g_l_lt (X : Cx p s m args meth c D cy B od cc nL tab own ret) {x y : Int64} {d : Int} {i2 pc2 nx2 tg2 : Nat} (hi : tab[i]? = some (pc, .lcmp, 1, i2, tg)) (hi2 : tab[i2]? = some (pc2, .ifCond .lt d, 3, nx2, tg2)) (kt : x < y → G p l e R s m args below meth c D B od nL tab F cells slots A z tg2 lv st) (kf : ¬ x < y → G p l e R s m args below meth c D B od nL tab F cells slots A z nx2 lv st) : G p l e R s m args below meth c D B od nL tab F cells slots A z i lv (.long y :: .long x :: st) :=
  g_lcmp X hi (g_if_lt X hi2 (fun h => kt ((lg_lt9 x y).mp h)) (fun h => kf (fun q => h ((lg_lt9 x y).mpr q))))
theorem lg_ge9 (x y : Int64) : (0 ≤ lg_cmp x y) ↔ (y ≤ x) := by
  rcases Int64.lt_or_le y x with h | h
  · have e1 : lg_cmp x y = 1 := by unfold lg_cmp; rw [if_pos h]
    have n1 : x ≠ y := fun q => absurd h (q ▸ (Int64.lt_irrefl : ¬ x < x))
    have n2 : ¬ x ≤ y := Int64.not_le.mpr h
    have n3 : ¬ x < y := fun q => n2 (Int64.le_of_lt q)
    have n4 : y ≤ x := Int64.le_of_lt h
    rw [e1]; simp [h, n1, n2, n3, n4]
  · by_cases e : x = y
    · subst e
      have e1 : lg_cmp x x = 0 := by unfold lg_cmp; rw [if_neg (Int64.lt_irrefl : ¬ x < x), if_pos rfl]
      rw [e1]; simp [Int64.lt_irrefl]
    · have n0 : ¬ y < x := Int64.not_lt.mpr h
      have e1 : lg_cmp x y = -1 := by unfold lg_cmp; rw [if_neg n0, if_neg e]
      have n1 : x < y := Int64.lt_of_le_of_ne h e
      have n4 : ¬ y ≤ x := Int64.not_le.mpr n1
      rw [e1]; simp [h, e, n1, n4, n0]
theorem g_l_ge (X : Cx p s m args meth c D cy B od cc nL tab own ret) {x y : Int64} {d : Int} {i2 pc2 nx2 tg2 : Nat} (hi : tab[i]? = some (pc, .lcmp, 1, i2, tg)) (hi2 : tab[i2]? = some (pc2, .ifCond .ge d, 3, nx2, tg2)) (kt : y ≤ x → G p l e R s m args below meth c D B od nL tab F cells slots A z tg2 lv st) (kf : ¬ y ≤ x → G p l e R s m args below meth c D B od nL tab F cells slots A z nx2 lv st) : G p l e R s m args below meth c D B od nL tab F cells slots A z i lv (.long y :: .long x :: st) :=
  g_lcmp X hi (g_if_ge X hi2 (fun h => kt ((lg_ge9 x y).mp h)) (fun h => kf (fun q => h ((lg_ge9 x y).mpr q))))
theorem lg_gt9 (x y : Int64) : (0 < lg_cmp x y) ↔ (y < x) := by
  rcases Int64.lt_or_le y x with h | h
  · have e1 : lg_cmp x y = 1 := by unfold lg_cmp; rw [if_pos h]
    have n1 : x ≠ y := fun q => absurd h (q ▸ (Int64.lt_irrefl : ¬ x < x))
    have n2 : ¬ x ≤ y := Int64.not_le.mpr h
    have n3 : ¬ x < y := fun q => n2 (Int64.le_of_lt q)
    have n4 : y ≤ x := Int64.le_of_lt h
    rw [e1]; simp [h, n1, n2, n3, n4]
  · by_cases e : x = y
    · subst e
      have e1 : lg_cmp x x = 0 := by unfold lg_cmp; rw [if_neg (Int64.lt_irrefl : ¬ x < x), if_pos rfl]
      rw [e1]; simp [Int64.lt_irrefl]
    · have n0 : ¬ y < x := Int64.not_lt.mpr h
      have e1 : lg_cmp x y = -1 := by unfold lg_cmp; rw [if_neg n0, if_neg e]
      have n1 : x < y := Int64.lt_of_le_of_ne h e
      have n4 : ¬ y ≤ x := Int64.not_le.mpr n1
      rw [e1]; simp [h, e, n1, n4, n0]
theorem g_l_gt (X : Cx p s m args meth c D cy B od cc nL tab own ret) {x y : Int64} {d : Int} {i2 pc2 nx2 tg2 : Nat} (hi : tab[i]? = some (pc, .lcmp, 1, i2, tg)) (hi2 : tab[i2]? = some (pc2, .ifCond .gt d, 3, nx2, tg2)) (kt : y < x → G p l e R s m args below meth c D B od nL tab F cells slots A z tg2 lv st) (kf : ¬ y < x → G p l e R s m args below meth c D B od nL tab F cells slots A z nx2 lv st) : G p l e R s m args below meth c D B od nL tab F cells slots A z i lv (.long y :: .long x :: st) :=
  g_lcmp X hi (g_if_gt X hi2 (fun h => kt ((lg_gt9 x y).mp h)) (fun h => kf (fun q => h ((lg_gt9 x y).mpr q))))
theorem lg_le9 (x y : Int64) : (lg_cmp x y ≤ 0) ↔ (x ≤ y) := by
  rcases Int64.lt_or_le y x with h | h
  · have e1 : lg_cmp x y = 1 := by unfold lg_cmp; rw [if_pos h]
    have n1 : x ≠ y := fun q => absurd h (q ▸ (Int64.lt_irrefl : ¬ x < x))
    have n2 : ¬ x ≤ y := Int64.not_le.mpr h
    have n3 : ¬ x < y := fun q => n2 (Int64.le_of_lt q)
    have n4 : y ≤ x := Int64.le_of_lt h
    rw [e1]; simp [h, n1, n2, n3, n4]
  · by_cases e : x = y
    · subst e
      have e1 : lg_cmp x x = 0 := by unfold lg_cmp; rw [if_neg (Int64.lt_irrefl : ¬ x < x), if_pos rfl]
      rw [e1]; simp [Int64.lt_irrefl]
    · have n0 : ¬ y < x := Int64.not_lt.mpr h
      have e1 : lg_cmp x y = -1 := by unfold lg_cmp; rw [if_neg n0, if_neg e]
      have n1 : x < y := Int64.lt_of_le_of_ne h e
      have n4 : ¬ y ≤ x := Int64.not_le.mpr n1
      rw [e1]; simp [h, e, n1, n4, n0]
theorem g_l_le (X : Cx p s m args meth c D cy B od cc nL tab own ret) {x y : Int64} {d : Int} {i2 pc2 nx2 tg2 : Nat} (hi : tab[i]? = some (pc, .lcmp, 1, i2, tg)) (hi2 : tab[i2]? = some (pc2, .ifCond .le d, 3, nx2, tg2)) (kt : x ≤ y → G p l e R s m args below meth c D B od nL tab F cells slots A z tg2 lv st) (kf : ¬ x ≤ y → G p l e R s m args below meth c D B od nL tab F cells slots A z nx2 lv st) : G p l e R s m args below meth c D B od nL tab F cells slots A z i lv (.long y :: .long x :: st) :=
  g_lcmp X hi (g_if_le X hi2 (fun h => kt ((lg_le9 x y).mp h)) (fun h => kf (fun q => h ((lg_le9 x y).mpr q))))
theorem g_iinc1 (X : Cx p s m args meth c D cy B od cc nL tab own ret) {k j : Nat} (hi : tab[i]? = some (pc, .iinc k 1, 3, nx, tg)) (hk : lv[k]? = some (some (.int (nI j)))) (hn : k < nL) (kk : G p l e R s m args below meth c D B od nL tab F cells slots A z nx (lset1 lv k (.int (nI (j + 1)))) st) : G p l e R s m args below meth c D B od nL tab F cells slots A z i lv st := by
  refine g_iinc X hi hk hn ?_
  rw [show nI j + Int32.ofInt 1 = nI (j + 1) from nI_1 j]
  exact kk
theorem g_ialdN (X : Cx p s m args meth c D cy B od cc nL tab own ret) (hi : tab[i]? = some (pc, .iaload, 1, nx, tg)) {a n j : Nat} {f : Nat → Int32} (hA : A a = some (.inl (cy 0, n, .inl f))) (hj : j < n) (hn : n < 2 ^ 31) (kk : G p l e R s m args below meth c D B od nL tab F cells slots A z nx lv (.int (f j) :: st)) : G p l e R s m args below meth c D B od nL tab F cells slots A z i lv (.int (nI j) :: .ref a :: st) := by
  refine g_iald X hi hA (vp_in_nI hj hn) ?_
  rw [nI_clamp (Nat.lt_trans hj hn)]
  exact kk
theorem g_zaldN (X : Cx p s m args meth c D cy B od cc nL tab own ret) (hi : tab[i]? = some (pc, .baload, 1, nx, tg)) {a n j : Nat} {f : Nat → Int32} (hA : A a = some (.inl (cy 2, n, .inl f))) (hj : j < n) (hn : n < 2 ^ 31) (kk : G p l e R s m args below meth c D B od nL tab F cells slots A z nx lv (.int (f j) :: st)) : G p l e R s m args below meth c D B od nL tab F cells slots A z i lv (.int (nI j) :: .ref a :: st) := by
  refine g_zald X hi hA (vp_in_nI hj hn) ?_
  rw [nI_clamp (Nat.lt_trans hj hn)]
  exact kk
theorem g_laldN (X : Cx p s m args meth c D cy B od cc nL tab own ret) (hi : tab[i]? = some (pc, .laload, 1, nx, tg)) {a n j : Nat} {f : Nat → Int64} (hA : A a = some (.inl (cy 1, n, .inr (.inl f)))) (hj : j < n) (hn : n < 2 ^ 31) (kk : G p l e R s m args below meth c D B od nL tab F cells slots A z nx lv (.long (f j) :: st)) : G p l e R s m args below meth c D B od nL tab F cells slots A z i lv (.int (nI j) :: .ref a :: st) := by
  refine g_lald X hi hA (vp_in_nI hj hn) ?_
  rw [nI_clamp (Nat.lt_trans hj hn)]
  exact kk
theorem g_iastN (X : Cx p s m args meth c D cy B od cc nL tab own ret) (hi : tab[i]? = some (pc, .iastore, 1, nx, tg)) {a n j : Nat} {f : Nat → Int32} {v : Int32} (hA : A a = some (.inl (cy 0, n, .inl f))) (hj : j < n) (hn : n < 2 ^ 31) (kk : G p l e R s m args below meth c D B od nL tab F cells slots (upA A a (.inl (cy 0, n, .inl (upd f j v)))) z nx lv st) : G p l e R s m args below meth c D B od nL tab F cells slots A z i lv (.int v :: .int (nI j) :: .ref a :: st) := by
  refine g_iast X hi hA (vp_in_nI hj hn) ?_
  rw [nI_clamp (Nat.lt_trans hj hn)]
  exact kk
theorem g_zastN (X : Cx p s m args meth c D cy B od cc nL tab own ret) (hi : tab[i]? = some (pc, .bastore, 1, nx, tg)) {a n j : Nat} {f : Nat → Int32} {v : Int32} (hA : A a = some (.inl (cy 2, n, .inl f))) (hj : j < n) (hn : n < 2 ^ 31) (hv : v = 0 ∨ v = 1) (kk : G p l e R s m args below meth c D B od nL tab F cells slots (upA A a (.inl (cy 2, n, .inl (upd f j v)))) z nx lv st) : G p l e R s m args below meth c D B od nL tab F cells slots A z i lv (.int v :: .int (nI j) :: .ref a :: st) := by
  refine g_zast X hi hA (vp_in_nI hj hn) hv ?_
  rw [nI_clamp (Nat.lt_trans hj hn)]
  exact kk
theorem g_lastN (X : Cx p s m args meth c D cy B od cc nL tab own ret) (hi : tab[i]? = some (pc, .lastore, 1, nx, tg)) {a n j : Nat} {f : Nat → Int64} {v : Int64} (hA : A a = some (.inl (cy 1, n, .inr (.inl f)))) (hj : j < n) (hn : n < 2 ^ 31) (kk : G p l e R s m args below meth c D B od nL tab F cells slots (upA A a (.inl (cy 1, n, .inr (.inl (vp_updL f j v))))) z nx lv st) : G p l e R s m args below meth c D B od nL tab F cells slots A z i lv (.long v :: .int (nI j) :: .ref a :: st) := by
  refine g_last X hi hA (vp_in_nI hj hn) ?_
  rw [nI_clamp (Nat.lt_trans hj hn)]
  exact kk
section PCALLS
variable {y : MethodName} {bytes : ByteArray} {maxL n ix : Nat} {rt : Option FieldType} {rm : Room} {As rest : List Value} {b : Nat} {r : Value}
theorem g_rV (X : Cx p s m args meth c D cy B od cc nL tab own ret) (hi : tab[i]? = some (pc, .invokevirtual ix, 3, nx, tg)) (hL : LkC y bytes maxL rt n) (hM : LkM own ix y) (hSe : LkSel y) (hC : CR l D cy B od y bytes maxL rt rm (.ref b :: As) A r) {ci : Nat} {fs : List Value} {T : u_T} {N : Nat} (hA : A b = some (.inr (ci, fs))) (hc : vwCl[ci]? = some (y.cls, T, N)) (hst : st = As.reverse ++ .ref b :: rest) (hn : As.length = n) (hw : (rest.map fun v => v.category).sum ≤ 8) (hRm : (rm.frames + 1 ≤ R.frames ∧ 8 + (maxL + 11) + rm.locals ≤ R.locals) ∧ rm.cells = 0 ∧ rm.slots = 0) (hf : cells ≤ R.cells ∧ slots ≤ R.slots)
    (kk : G p l e R s m args below meth c D B od nL tab F cells slots A z nx lv (r :: rest)) : G p l e R s m args below meth c D B od nL tab F cells slots A z i lv st := by
  refine g_callV X hi hL hM hSe (hC z) hA hc hst hn hw hRm.1 (by rw [hRm.2.1, hRm.2.2]; exact hf) (fun v A' z' h => ?_)
  obtain ⟨rfl, rfl, rfl⟩ := h
  rw [hRm.2.1, hRm.2.2]
  exact kk
theorem g_rVN (X : Cx p s m args meth c D cy B od cc nL tab own ret) (hi : tab[i]? = some (pc, .invokevirtual ix, 3, nx, tg)) (hL : LkC y bytes maxL rt n) (hM : LkN own ix y) (hSe : LkSel y) (hC : CR l D cy B od y bytes maxL rt rm (.ref b :: As) A r) {ci : Nat} {fs : List Value} {T : u_T} {N : Nat} (hA : A b = some (.inr (ci, fs))) (hc : vwCl[ci]? = some (y.cls, T, N)) (hst : st = As.reverse ++ .ref b :: rest) (hn : As.length = n) (hw : (rest.map fun v => v.category).sum ≤ 8) (hRm : (rm.frames + 1 ≤ R.frames ∧ 8 + (maxL + 11) + rm.locals ≤ R.locals) ∧ rm.cells = 0 ∧ rm.slots = 0) (hf : cells ≤ R.cells ∧ slots ≤ R.slots)
    (kk : G p l e R s m args below meth c D B od nL tab F cells slots A z nx lv (r :: rest)) : G p l e R s m args below meth c D B od nL tab F cells slots A z i lv st := by
  refine g_callVN X hi hL hM hSe (hC z) hA hc hst hn hw hRm.1 (by rw [hRm.2.1, hRm.2.2]; exact hf) (fun v A' z' h => ?_)
  obtain ⟨rfl, rfl, rfl⟩ := h
  rw [hRm.2.1, hRm.2.2]
  exact kk
theorem g_rS (X : Cx p s m args meth c D cy B od cc nL tab own ret) (hi : tab[i]? = some (pc, .invokestatic ix, 3, nx, tg)) (hL : LkC y bytes maxL rt n) (hM : LkM own ix y) (hSt : Cond.static y ∈ lw_good) (hC : CR l D cy B od y bytes maxL rt rm As A r) (hst : st = As.reverse ++ rest) (hn : As.length = n) (hw : (rest.map fun v => v.category).sum ≤ 8) (hRm : (rm.frames + 1 ≤ R.frames ∧ 8 + (maxL + 11) + rm.locals ≤ R.locals) ∧ rm.cells = 0 ∧ rm.slots = 0) (hf : cells ≤ R.cells ∧ slots ≤ R.slots)
    (kk : G p l e R s m args below meth c D B od nL tab F cells slots A z nx lv (r :: rest)) : G p l e R s m args below meth c D B od nL tab F cells slots A z i lv st := by
  refine g_callS X hi hL hM hSt (hC z) hst hn hw hRm.1 (by rw [hRm.2.1, hRm.2.2]; exact hf) (fun v A' z' h => ?_)
  obtain ⟨rfl, rfl, rfl⟩ := h
  rw [hRm.2.1, hRm.2.2]
  exact kk
theorem g_rSN (X : Cx p s m args meth c D cy B od cc nL tab own ret) (hi : tab[i]? = some (pc, .invokestatic ix, 3, nx, tg)) (hL : LkC y bytes maxL rt n) (hM : LkN own ix y) (hSt : Cond.static y ∈ lw_good) (hC : CR l D cy B od y bytes maxL rt rm As A r) (hst : st = As.reverse ++ rest) (hn : As.length = n) (hw : (rest.map fun v => v.category).sum ≤ 8) (hRm : (rm.frames + 1 ≤ R.frames ∧ 8 + (maxL + 11) + rm.locals ≤ R.locals) ∧ rm.cells = 0 ∧ rm.slots = 0) (hf : cells ≤ R.cells ∧ slots ≤ R.slots)
    (kk : G p l e R s m args below meth c D B od nL tab F cells slots A z nx lv (r :: rest)) : G p l e R s m args below meth c D B od nL tab F cells slots A z i lv st := by
  refine g_callSN X hi hL hM hSt (hC z) hst hn hw hRm.1 (by rw [hRm.2.1, hRm.2.2]; exact hf) (fun v A' z' h => ?_)
  obtain ⟨rfl, rfl, rfl⟩ := h
  rw [hRm.2.1, hRm.2.2]
  exact kk
-- the machine's own max and min
theorem g_math (X : Cx p s m args meth c D cy B od cc nL tab own ret) {y : MethodName} (hi : tab[i]? = some (pc, .invokestatic ix, 3, nx, tg)) (hst : (st.map fun v => v.category).sum ≤ 8) (hR : 1 ≤ R.frames ∧ 21 ≤ R.locals) (hf : cells ≤ R.cells ∧ slots ≤ R.slots) {vs : List Value} {v : Value}
    (row : ∀ (H : Heap) (locs : List Loc) (ls : Array Slot), c.maxLocals = ls.size → W p l e R s m args below meth c H locs cells slots F (F0 m (pc + 3) ls (trV B od v :: st.map (trV B od))) → W p l e R s m args below meth c H locs cells slots F (F0 m pc ls ((vs ++ st).map (trV B od))))
    (kk : G p l e R s m args below meth c D B od nL tab F cells slots A z nx lv (v :: st)) : G p l e R s m args below meth c D B od nL tab F cells slots A z i lv (vs ++ st) := by
  intro q hq H locs ls hR hS hl
  cases Option.some.inj (hi.symm.trans hq)
  obtain ⟨q2, hq2, e2⟩ := X.2.2.2.1.fall hi rfl
  have K := kk q2 hq2 H locs ls hR hS hl
  rw [e2] at K
  exact row H locs ls (X.1.2.2.1.trans hl.1.symm) K

end PCALLS
end CORE9
