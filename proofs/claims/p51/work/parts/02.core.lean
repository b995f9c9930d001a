/-! 02: the abstract heap (positions), the judgement G, a rule an instruction, contracts CT (returns) and CX (returns or throws) -/
def lw_good : List Cond := lw_tbl.filter goodWord
theorem lw_good_in {v : Cond} {n : Nat} (h : lw_tbl[n]? = some v) (hg : goodWord v = true) : v ∈ lw_good := List.mem_filter.mpr ⟨List.mem_of_getElem? h, hg⟩
theorem lw_good_ok {v : Cond} (h : v ∈ lw_good) : GoodIn lw_good (v :: lw_good) := fun x hx => by
  have hm : x ∈ lw_good := (List.mem_cons.mp hx).elim (fun e => e ▸ h) id
  exact ⟨hm, good_of_word (List.mem_filter.mp hm).2⟩
def nw_is (v : Cond) : Bool := match v with
  | .fieldLinkNest _ _ _ _ _ _ => true
  | .methodLinkNest _ _ _ _ => true
  | _ => false
def nw_all : List Cond := lw_tbl.filter nw_is
def NW (U : State) : Prop := ∀ v ∈ nw_all, va_Nw v U
theorem NW.warm {s U : State} (hW : s.WarmedH U.vm) (h : NW s) : NW U := by
  intro v hv
  have h1 := h v hv
  have h2 := (List.mem_filter.mp hv).2
  unfold nw_is at h2
  split at h2
  · exact va_Nw.warmF hW h1
  · exact va_Nw.warmM hW h1
  · cases h2
theorem NW.same {s U : State} (hv : s.vm = U.vm) (h : NW s) : NW U := by
  intro v hm
  have h1 := h v hm
  have h2 := (List.mem_filter.mp hm).2
  unfold nw_is at h2
  split at h2
  · exact va_Nw.same rfl hv h1
  · exact va_Nw.same rfl hv h1
  · cases h2
def rho (B : Nat) (od : Nat → Option Nat) (k : Nat) : Nat := match od k with
  | none => B + k
  | some a => a
def trV (B : Nat) (od : Nat → Option Nat) (v : Value) : Value := match v with
  | .ref k => .ref (rho B od k)
  | x => x
theorem trV_cat (B : Nat) (od : Nat → Option Nat) (v : Value) : (trV B od v).category = v.category := by cases v <;> rfl
theorem rho_inj {B : Nat} {od : Nat → Option Nat} {a b : Nat} (ha : od a = none) (hb : od b = none) (h : a ≠ b) : rho B od a ≠ rho B od b := by
  unfold rho; rw [ha, hb]; dsimp only; omega
theorem rho_lo {B : Nat} {od : Nat → Option Nat} {a : Nat} (ha : od a = none) : rho B od a = B + a := by
  unfold rho; rw [ha]
def trE (B : Nat) (od : Nat → Option Nat) (x : va_E) : va_E := match x with
  | .inl (cA, n, .inr (.inr (.inr (.inr f)))) => .inl (cA, n, .inr (.inr (.inr (.inr (fun j => (f j).map (rho B od))))))
  | .inl (cA, n, .inl f) => .inl (cA, n, .inl f)
  | .inl (cA, n, .inr (.inl f)) => .inl (cA, n, .inr (.inl f))
  | .inl (cA, n, .inr (.inr (.inl f))) => .inl (cA, n, .inr (.inr (.inl f)))
  | .inl (cA, n, .inr (.inr (.inr (.inl f)))) => .inl (cA, n, .inr (.inr (.inr (.inl f))))
  | .inr (ci, fs) => .inr (ci, fs.map (trV B od))
abbrev AH : Type := Nat → Option va_E
def upA (A : AH) (k : Nat) (x : va_E) : AH := fun j => if j = k then some x else A j
def RelA (D : va_G) (B : Nat) (od : Nat → Option Nat) (A : AH) (z : Nat) (H : Heap) : Prop := (∀ k x, A k = some x → od k = none ∧ va_at D vwCl (rho B od k, trE B od x) H) ∧ (z ≠ 0 → H.size + 1 = B + z)
def tysc (cy : Nat → ClassId) : List (ClassId × FieldType) := [(cy 0, .int), (cy 1, .long), (cy 2, .boolean), (cy 3, .byte), (cy 4, .object RX6), (cy 5, .object "java/lang/Object")]
/-- writing one position: the rest stays -/
theorem RelA.put {D : va_G} {B : Nat} {od : Nat → Option Nat} {A : AH} {z k : Nat} {x : va_E} {H H1 : Heap} (h : RelA D B od A z H) (hk : od k = none) (hx : va_at D vwCl (rho B od k, trE B od x) H1) (hz : H1.size = H.size) (ho : ∀ q : Nat, q ≠ rho B od k → H1[q]? = H[q]?) : RelA D B od (upA A k x) z H1 := by
  refine ⟨fun j y hj => ?_, fun hz0 => by rw [hz]; exact h.2 hz0⟩
  unfold upA at hj
  by_cases e : j = k
  · rw [if_pos e] at hj
    cases hj
    subst e
    exact ⟨hk, hx⟩
  · rw [if_neg e] at hj
    obtain ⟨h1, h2⟩ := h.1 j y hj
    exact ⟨h1, h2.kept (ho _ (rho_inj h1 hk e))⟩
/-- a new cell at the end -/
theorem RelA.push {D : va_G} {B : Nat} {od : Nat → Option Nat} {A : AH} {z : Nat} {x : va_E} {H H1 : Heap} (h : RelA D B od A (z + 1) H) (hk : od z = none) (hx : va_at D vwCl (H.size, trE B od x) H1) (hz : H1.size = H.size + 1) (ho : ∀ q : Nat, q < H.size → H1[q]? = H[q]?) : RelA D B od (upA A z x) (z + 2) H1 ∧ H.size = rho B od z := by
  have hs := h.2 (by omega)
  have hr : H.size = rho B od z := by rw [rho_lo hk]; omega
  refine ⟨⟨fun j y hj => ?_, fun _ => by omega⟩, hr⟩
  unfold upA at hj
  by_cases e : j = z
  · rw [if_pos e] at hj
    cases hj
    subst e
    exact ⟨hk, by rw [← hr]; exact hx⟩
  · rw [if_neg e] at hj
    obtain ⟨h1, h2⟩ := h.1 j y hj
    exact ⟨h1, h2.kept (ho _ h2.lt)⟩
theorem RelA.weak {D : va_G} {B : Nat} {od : Nat → Option Nat} {A A' : AH} {z z' : Nat} {H : Heap} (h : RelA D B od A z H) (hA : ∀ k x, A' k = some x → A k = some x) (hz : z' = z ∨ z' = 0) : RelA D B od A' z' H :=
  ⟨fun k x hk => h.1 k x (hA k x hk), fun hz0 => hz.elim (fun e => by rw [e]; exact h.2 (e ▸ hz0)) (fun e => absurd e hz0)⟩
-- locals
def LR (B : Nat) (od : Nat → Option Nat) (ls : Array Slot) (nL : Nat) (lv : List (Option Value)) : Prop := ls.size = nL ∧ lv_wf ls ∧ ∀ (i : Nat) (v : Value), lv[i]? = some (some v) → ls[i]? = some (.val (trV B od v))
def lvP (B : Nat) (od : Nat → Option Nat) (lv : List (Option Value)) : List (Nat × Value) := (List.range lv.length).filterMap (fun i => (lv.getD i none).map (fun v => (i, trV B od v)))
theorem lvP_mem {B : Nat} {od : Nat → Option Nat} {lv : List (Option Value)} {q : Nat × Value} : q ∈ lvP B od lv ↔ ∃ v, lv[q.1]? = some (some v) ∧ q.2 = trV B od v := by
  unfold lvP
  rw [List.mem_filterMap]
  constructor
  · rintro ⟨i, hi, h⟩
    have hl := List.mem_range.mp hi
    rw [List.getD_eq_getElem?_getD, List.getElem?_eq_getElem hl, Option.getD_some] at h
    cases hv : lv[i] with
    | none => rw [hv] at h; cases h
    | some v =>
      rw [hv] at h
      cases h
      exact ⟨v, by rw [List.getElem?_eq_getElem hl, hv], rfl⟩
  · rintro ⟨v, h1, h2⟩
    refine ⟨q.1, List.mem_range.mpr (List.getElem?_eq_some_iff.mp h1).1, ?_⟩
    rw [List.getD_eq_getElem?_getD, h1]
    obtain ⟨a, b⟩ := q
    dsimp only at h2
    rw [h2]; rfl
theorem LR.has {B : Nat} {od : Nat → Option Nat} {ls : Array Slot} {nL : Nat} {lv : List (Option Value)} (h : LR B od ls nL lv) : lv_has ls nL (lvP B od lv) := by
  refine ⟨h.1, h.2.1, fun q hq => ?_⟩
  obtain ⟨v, h1, h2⟩ := lvP_mem.mp hq
  rw [h2]; exact h.2.2 _ _ h1
theorem LR.at {B : Nat} {od : Nat → Option Nat} {ls : Array Slot} {nL : Nat} {lv : List (Option Value)} (h : LR B od ls nL lv) {i : Nat} {v : Value} (hi : lv[i]? = some (some v)) : ls[i]? = some (.val (trV B od v)) := h.2.2 i v hi
def isC2 (v : Option (Option Value)) : Bool := match v with
  | some (some (.long _)) => true
  | some (some (.double _)) => true
  | _ => false
theorem isC2_cat {v : Value} : v.category = 2 → isC2 (some (some v)) = true := by cases v <;> simp [Value.category, isC2]
def lset1 (lv : List (Option Value)) (i : Nat) (v : Value) : List (Option Value) := match i with
  | 0 => lv.set 0 (some v)
  | j + 1 => if isC2 lv[j]? = true then (lv.set j none).set (j + 1) (some v) else lv.set (j + 1) (some v)
def lset2 (lv : List (Option Value)) (i : Nat) (v : Value) : List (Option Value) := (lset1 lv i v).set (i + 1) none
theorem lset1_get {lv : List (Option Value)} {i j : Nat} {v x : Value} (h : (lset1 lv i v)[j]? = some (some x)) : (j = i ∧ x = v) ∨ (j ≠ i ∧ lv[j]? = some (some x) ∧ ¬ (j + 1 = i ∧ x.category = 2)) := by
  cases i with
  | zero =>
    unfold lset1 at h
    rw [List.getElem?_set] at h
    by_cases e : 0 = j
    · rw [if_pos e] at h
      split at h
      · cases h; exact Or.inl ⟨e.symm, rfl⟩
      · cases h
    · rw [if_neg e] at h
      exact Or.inr ⟨fun q => e q.symm, h, fun q => by omega⟩
  | succ k =>
    unfold lset1 at h
    dsimp only at h
    by_cases hc : isC2 lv[k]? = true
    · rw [if_pos hc, List.getElem?_set, List.getElem?_set] at h
      by_cases e : k + 1 = j
      · rw [if_pos e] at h
        split at h
        · cases h; exact Or.inl ⟨e.symm, rfl⟩
        · cases h
      · rw [if_neg e] at h
        by_cases e2 : k = j
        · rw [if_pos e2] at h
          split at h
          · cases h
          · cases h
        · rw [if_neg e2] at h
          exact Or.inr ⟨fun q => e q.symm, h, fun q => e2 (by omega)⟩
    · rw [if_neg hc, List.getElem?_set] at h
      by_cases e : k + 1 = j
      · rw [if_pos e] at h
        split at h
        · cases h; exact Or.inl ⟨e.symm, rfl⟩
        · cases h
      · rw [if_neg e] at h
        refine Or.inr ⟨fun q => e q.symm, h, fun q => hc ?_⟩
        have hj : j = k := by omega
        rw [← hj, h]
        exact isC2_cat q.2
theorem LR.set1 {B : Nat} {od : Nat → Option Nat} {ls : Array Slot} {nL : Nat} {lv : List (Option Value)} (h : LR B od ls nL lv) {i : Nat} {v : Value} (hi : i < nL) (hc : v.category = 1) : ∃ l2, (i, trV B od v) :: (lvP B od lv).filter (fun q => !(q.1 == i) && !(q.1 + 1 == i && q.2.category == 2)) = l2 ∧ ∀ ls', lv_has ls' nL l2 → LR B od ls' nL (lset1 lv i v) := by
  refine ⟨_, rfl, fun ls' h' => ⟨h'.1, h'.2.1, fun j x hx => ?_⟩⟩
  rcases lset1_get hx with ⟨rfl, rfl⟩ | ⟨h1, h2, h3⟩
  · exact h'.2.2 _ List.mem_cons_self
  · refine h'.2.2 (j, trV B od x) (List.mem_cons_of_mem _ (List.mem_filter.mpr ⟨lvP_mem.mpr ⟨x, h2, rfl⟩, ?_⟩))
    simp only [trV_cat, Bool.and_eq_true, Bool.not_eq_true', beq_eq_false_iff_ne, ne_eq]
    refine ⟨h1, ?_⟩
    cases hq : (j + 1 == i && x.category == 2) with
    | false => rfl
    | true =>
      simp only [Bool.and_eq_true, beq_iff_eq] at hq
      exact absurd hq h3
theorem LR.set2 {B : Nat} {od : Nat → Option Nat} {ls : Array Slot} {nL : Nat} {lv : List (Option Value)} (h : LR B od ls nL lv) {i : Nat} {v : Value} (hi : i + 1 < nL) (hc : v.category = 2) : ∃ l2, (i, trV B od v) :: (lvP B od lv).filter (fun q => !(q.1 == i) && (!(q.1 == i + 1) && !(q.1 + 1 == i && q.2.category == 2))) = l2 ∧ ∀ ls', lv_has ls' nL l2 → LR B od ls' nL (lset2 lv i v) := by
  refine ⟨_, rfl, fun ls' h' => ⟨h'.1, h'.2.1, fun j x hx => ?_⟩⟩
  unfold lset2 at hx
  rw [List.getElem?_set] at hx
  by_cases e : i + 1 = j
  · rw [if_pos e] at hx
    split at hx
    · cases hx
    · cases hx
  · rw [if_neg e] at hx
    rcases lset1_get hx with ⟨rfl, rfl⟩ | ⟨h1, h2, h3⟩
    · exact h'.2.2 _ List.mem_cons_self
    · refine h'.2.2 (j, trV B od x) (List.mem_cons_of_mem _ (List.mem_filter.mpr ⟨lvP_mem.mpr ⟨x, h2, rfl⟩, ?_⟩))
      simp only [trV_cat, Bool.and_eq_true, Bool.not_eq_true', beq_eq_false_iff_ne, ne_eq]
      refine ⟨h1, fun q => e q.symm, ?_⟩
      cases hq : (j + 1 == i && x.category == 2) with
      | false => rfl
      | true =>
        simp only [Bool.and_eq_true, beq_iff_eq] at hq
        exact absurd hq h3
-- the entry's locals
def entL : List Value → List (Option Value)
  | [] => []
  | v :: vs => if v.category = 2 then some v :: none :: entL vs else some v :: entL vs
theorem entL_mem {B : Nat} {od : Nat → Option Nat} : ∀ (vs : List Value) (b i : Nat) (v : Value), (entL vs)[i]? = some (some v) → (b + i, trV B od v) ∈ lv_args b (vs.map (trV B od)) := by
  intro vs
  induction vs with
  | nil => intro b i v h; simp [entL] at h
  | cons x xs ih =>
    intro b i v h
    unfold entL at h
    rw [List.map_cons]
    unfold lv_args
    by_cases hc : x.category = 2
    · rw [if_pos hc] at h
      rw [trV_cat, if_pos hc]
      match i, h with
      | 0, h => simp at h; subst h; exact List.mem_cons_self
      | 1, h => simp at h
      | k + 2, h =>
        have h' : (entL xs)[k]? = some (some v) := by simpa using h
        have := ih (b + 2) k v h'
        rw [show b + (k + 2) = b + 2 + k by omega]
        exact List.mem_cons_of_mem _ this
    · rw [if_neg hc] at h
      rw [trV_cat, if_neg hc]
      match i, h with
      | 0, h => simp at h; subst h; exact List.mem_cons_self
      | k + 1, h =>
        have h' : (entL xs)[k]? = some (some v) := by simpa using h
        have := ih (b + 1) k v h'
        rw [show b + (k + 1) = b + 1 + k by omega]
        exact List.mem_cons_of_mem _ this
def entN (vs : List Value) (n : Nat) : List (Option Value) := entL vs ++ List.replicate (n - (entL vs).length) none
theorem LR.entry {B : Nat} {od : Nat → Option Nat} {vs : List Value} {n : Nat} {ls : Array Slot} (h : lv_has ls n (lv_args 0 (vs.map (trV B od)))) : LR B od ls n (entN vs n) := by
  refine ⟨h.1, h.2.1, fun i v hv => ?_⟩
  unfold entN at hv
  rw [List.getElem?_append] at hv
  split at hv
  · have := h.2.2 _ (entL_mem (B := B) (od := od) vs 0 i v hv)
    rw [Nat.zero_add] at this
    exact this
  · rw [List.getElem?_replicate] at hv
    split at hv
    · cases hv
    · cases hv
theorem lg_len (B : Nat) (od : Nat → Option Nat) (vs : List Value) : (lg_sl (vs.map (trV B od))).length = (entL vs).length := by
  induction vs with
  | nil => rfl
  | cons x xs ih =>
    unfold lg_sl at ih ⊢
    rw [List.map_cons, List.flatMap_cons, List.length_append, ih]
    rw [show entL (x :: xs) = if x.category = 2 then some x :: none :: entL xs else some x :: entL xs from rfl, trV_cat]
    by_cases hc : x.category = 2
    · rw [if_pos hc, if_pos hc]; simp; omega
    · rw [if_neg hc, if_neg hc]; simp; omega
-- the code's table: (pc, instruction, length, the next row, the target row)
abbrev PT : Type := Nat × Instr × Nat × Nat × Nat
def isTerm (x : Instr) : Bool := match x with
  | .goto _ => true
  | .ireturn => true
  | .lreturn => true
  | .dreturn => true
  | .areturn => true
  | .return_ => true
  | .athrow => true
  | .tableswitch _ _ _ _ => true
  | _ => false
def brOff (x : Instr) : Option Int := match x with
  | .goto o => some o
  | .ifCond _ o => some o
  | .if_icmp _ o => some o
  | .if_acmp _ o => some o
  | .ifnull o => some o
  | .ifnonnull o => some o
  | _ => none
def okRow (tab : List PT) (q : PT) : Bool := (isTerm q.2.1 || (match tab[q.2.2.2.1]? with | some r => r.1 == q.1 + q.2.2.1 | none => false)) && (match brOff q.2.1 with | none => true | some d => (match tab[q.2.2.2.2]? with | some r => (q.1 : Int) + d == (r.1 : Int) | none => false))
def OkTab (cc : ByteArray) (tab : List PT) : Prop := (∀ q ∈ tab, decode cc q.1 = .ok (q.2.1, q.2.2.1)) ∧ (tab.all (okRow tab)) = true
theorem OkTab.dec {cc : ByteArray} {tab : List PT} (h : OkTab cc tab) {i pc len nx tg : Nat} {x : Instr} (hi : tab[i]? = some (pc, x, len, nx, tg)) : decode cc pc = .ok (x, len) := h.1 (pc, x, len, nx, tg) (List.mem_of_getElem? hi)
theorem OkTab.fall {cc : ByteArray} {tab : List PT} (h : OkTab cc tab) {i pc len nx tg : Nat} {x : Instr} (hi : tab[i]? = some (pc, x, len, nx, tg)) (ht : isTerm x = false) : ∃ q, tab[nx]? = some q ∧ q.1 = pc + len := by
  have h1 := List.all_eq_true.mp h.2 _ (List.mem_of_getElem? hi)
  unfold okRow at h1
  rw [Bool.and_eq_true, Bool.or_eq_true] at h1
  rcases h1.1 with h2 | h2
  · exact absurd (ht.symm.trans h2) (by decide)
  · dsimp only at h2
    split at h2
    · rename_i r hr
      exact ⟨r, hr, by simpa using h2⟩
    · cases h2
theorem OkTab.br {cc : ByteArray} {tab : List PT} (h : OkTab cc tab) {i pc len nx tg : Nat} {x : Instr} {d : Int} (hi : tab[i]? = some (pc, x, len, nx, tg)) (hd : brOff x = some d) : ∃ q, tab[tg]? = some q ∧ (pc : Int) + d = (q.1 : Int) := by
  have h1 := List.all_eq_true.mp h.2 _ (List.mem_of_getElem? hi)
  unfold okRow at h1
  rw [Bool.and_eq_true] at h1
  have h2 := h1.2
  dsimp only at h2
  rw [hd] at h2
  dsimp only at h2
  split at h2
  · rename_i r hr
    exact ⟨r, hr, by simpa using h2⟩
  · cases h2
/-- string constants: the class that names it, its number there, its text -/
def strT : List (String × Nat × String) := [("CashLedger$SetupReader", 68, "start"), ("CashLedger$SetupReader", 77, "assets"), ("CashLedger$SetupReader", 82, "interest"), ("CashLedger$SetupReader", 87, "top"), ("CashLedger$SetupReader", 92, "bracket"), ("CashLedger$SetupReader", 97, "room"), ("CashLedger$SetupReader", 142, "office"), ("CashLedger", 343, "the ledger's state does not allow this call"), ("CashLedger", 339, "an argument is out of range, or the text is not valid"), ("CashLedger", 353, "there is nothing of this number"), ("CashLedger", 230, "what is out of range"), ("CashLedger", 348, "there is no such value"), ("CashLedgerLaw$Book", 98, "start "), ("CashLedgerLaw$Book", 114, ";assets "), ("CashLedgerLaw$Book", 119, ";interest "), ("CashLedgerLaw$Book", 121, " ; top "), ("CashLedgerLaw$Book", 123, ";bracket "), ("CashLedgerLaw$Book", 125, ";room "), ("CashLedgerLaw$Book", 127, " office "), ("CashLedgerLaw", 247, ""), ("CashLedgerLaw", 253, "start 10000001"), ("CashLedgerLaw", 255, "assets 5 4"), ("CashLedgerLaw", 257, "assets 1000001 5"), ("CashLedgerLaw", 259, "interest 101"), ("CashLedgerLaw", 261, "top 901"), ("CashLedgerLaw", 263, "bracket 0 5"), ("CashLedgerLaw", 265, "bracket 5 5;bracket 5 6"), ("CashLedgerLaw", 267, "bracket 5 901"), ("CashLedgerLaw", 269, "room 501"), ("CashLedgerLaw", 271, "room 5 office 9 8"), ("CashLedgerLaw", 273, "room 5 office 360 8"), ("CashLedgerLaw", 275, "room 5 office 3"), ("CashLedgerLaw", 277, "start 1;start 2"), ("CashLedgerLaw", 279, "start 1;"), ("CashLedgerLaw", 281, "start 000000001"), ("CashLedgerLaw", 283, "start -1"), ("CashLedgerLaw", 285, "rooms 5"), ("CashLedgerLaw", 287, "room 1;room 1;room 1;room 1;room 1;room 1;room 1"), ("java/util/Arrays", 337, " > ")]
def strB : List (List Int32) := [[115, 116, 97, 114, 116], [97, 115, 115, 101, 116, 115], [105, 110, 116, 101, 114, 101, 115, 116], [116, 111, 112], [98, 114, 97, 99, 107, 101, 116], [114, 111, 111, 109], [111, 102, 102, 105, 99, 101], [116, 104, 101, 32, 108, 101, 100, 103, 101, 114, 39, 115, 32, 115, 116, 97, 116, 101, 32, 100, 111, 101, 115, 32, 110, 111, 116, 32, 97, 108, 108, 111, 119, 32, 116, 104, 105, 115, 32, 99, 97, 108, 108], [97, 110, 32, 97, 114, 103, 117, 109, 101, 110, 116, 32, 105, 115, 32, 111, 117, 116, 32, 111, 102, 32, 114, 97, 110, 103, 101, 44, 32, 111, 114, 32, 116, 104, 101, 32, 116, 101, 120, 116, 32, 105, 115, 32, 110, 111, 116, 32, 118, 97, 108, 105, 100], [116, 104, 101, 114, 101, 32, 105, 115, 32, 110, 111, 116, 104, 105, 110, 103, 32, 111, 102, 32, 116, 104, 105, 115, 32, 110, 117, 109, 98, 101, 114], [119, 104, 97, 116, 32, 105, 115, 32, 111, 117, 116, 32, 111, 102, 32, 114, 97, 110, 103, 101], [116, 104, 101, 114, 101, 32, 105, 115, 32, 110, 111, 32, 115, 117, 99, 104, 32, 118, 97, 108, 117, 101], [115, 116, 97, 114, 116, 32], [59, 97, 115, 115, 101, 116, 115, 32], [59, 105, 110, 116, 101, 114, 101, 115, 116, 32], [32, 59, 32, 116, 111, 112, 32], [59, 98, 114, 97, 99, 107, 101, 116, 32], [59, 114, 111, 111, 109, 32], [32, 111, 102, 102, 105, 99, 101, 32], [], [115, 116, 97, 114, 116, 32, 49, 48, 48, 48, 48, 48, 48, 49], [97, 115, 115, 101, 116, 115, 32, 53, 32, 52], [97, 115, 115, 101, 116, 115, 32, 49, 48, 48, 48, 48, 48, 49, 32, 53], [105, 110, 116, 101, 114, 101, 115, 116, 32, 49, 48, 49], [116, 111, 112, 32, 57, 48, 49], [98, 114, 97, 99, 107, 101, 116, 32, 48, 32, 53], [98, 114, 97, 99, 107, 101, 116, 32, 53, 32, 53, 59, 98, 114, 97, 99, 107, 101, 116, 32, 53, 32, 54], [98, 114, 97, 99, 107, 101, 116, 32, 53, 32, 57, 48, 49], [114, 111, 111, 109, 32, 53, 48, 49], [114, 111, 111, 109, 32, 53, 32, 111, 102, 102, 105, 99, 101, 32, 57, 32, 56], [114, 111, 111, 109, 32, 53, 32, 111, 102, 102, 105, 99, 101, 32, 51, 54, 48, 32, 56], [114, 111, 111, 109, 32, 53, 32, 111, 102, 102, 105, 99, 101, 32, 51], [115, 116, 97, 114, 116, 32, 49, 59, 115, 116, 97, 114, 116, 32, 50], [115, 116, 97, 114, 116, 32, 49, 59], [115, 116, 97, 114, 116, 32, 48, 48, 48, 48, 48, 48, 48, 48, 49], [115, 116, 97, 114, 116, 32, 45, 49], [114, 111, 111, 109, 115, 32, 53], [114, 111, 111, 109, 32, 49, 59, 114, 111, 111, 109, 32, 49, 59, 114, 111, 111, 109, 32, 49, 59, 114, 111, 111, 109, 32, 49, 59, 114, 111, 111, 109, 32, 49, 59, 114, 111, 111, 109, 32, 49, 59, 114, 111, 111, 109, 32, 49], [32, 62, 32]]
def exL : List String := ["java/lang/IllegalArgumentException", "java/lang/IllegalStateException", "java/lang/IndexOutOfBoundsException"]
/-- arrays of bytes that the JDK's own numbers are written by -/
def dgO (k : Nat) : Int32 := nI (48 + k % 10)
def dgT (k : Nat) : Int32 := nI (48 + k / 10)
def castL : List (String × String) := [("[I", "java/lang/Object"), ("CashLedgerLaw$Book", "java/lang/Object"), ("java/lang/Integer", "java/lang/Object"), ("[I", "java/lang/Cloneable"), ("[B", "java/lang/Cloneable")]
def faceL : List (String × MethodName × MethodName) := [("java/util/ArrayList$Itr", ⟨"java/util/Iterator", "hasNext", "()Z"⟩, yJx35411_hasNext_aae02), ("java/util/ArrayList$Itr", ⟨"java/util/Iterator", "next", "()Ljava/lang/Object;"⟩, yJx35411_next_0502b)]
def privL : List MethodName := [yJ5_ensureCapacityInternal_d00df, yJ5_newCapacity_0f7a4, yJ5_inflateIfNeededFor_a7421, yJ5_putStringAt_47b60]
/-- the script: how long, what it holds -/
def scL (od : Nat → Option Nat) : Nat := (od 4000001).getD 0
def scX (od : Nat → Option Nat) (j : Nat) : Int32 := nI ((od (4000002 + j)).getD 0)
def ScX (B : Nat) (od : Nat → Option Nat) (U : State) (H : Heap) : Prop := ∃ b, od 4000000 = some b ∧ va_X b (scL od) (scX od) U H ∧ ¬ B ≤ b ∧ scL od ≤ 260
theorem ScX.kept {B : Nat} {od : Nat → Option Nat} {U : State} {H H1 : Heap} (h : ScX B od U H) (hq : ∀ a : Nat, a < H.size → ¬ B ≤ a → H1[a]? = H[a]?) : ScX B od U H1 := by
  obtain ⟨b, h1, h2, h3, h4⟩ := h
  have h2' := h2
  obtain ⟨scr, h5, -⟩ := h2'
  exact ⟨b, h1, h2.kept (hq b (by rw [Array.getElem?_eq_some_iff] at h5; exact h5.1) h3), h3, h4⟩
theorem ScX.moved {B : Nat} {od : Nat → Option Nat} {u U : State} {H : Heap} (hvm : u.vm.Alike U.vm) (h : ScX B od u H) : ScX B od U H := by
  obtain ⟨b, h1, h2, h3, h4⟩ := h
  exact ⟨b, h1, h2.moved hvm, h3, h4⟩
/-- what else is old: the empty list's array, the cached Integers, the rows of digits; what can be cast to what; interfaces; a class object -/
def OldX (B : Nat) (od : Nat → Option Nat) (U : State) (H : Heap) : Prop := va_AO "java/lang/Object" U ∧ (∀ q ∈ castL, va_Nw (.castable q.1 q.2) U) ∧ (∀ q ∈ faceL, va_Fw q.1 q.2.1 q.2.2 U) ∧ (va_Dc U ∧ ∀ y ∈ privL, va_Nw (.privateMethod y) U) ∧ (∃ mi, od 3000005 = some mi ∧ va_Mi "[Ljava/lang/Object;" mi U) ∧ (∃ a, od 3000001 = some a ∧ va_Z "java/util/ArrayList" "DEFAULTCAPACITY_EMPTY_ELEMENTDATA" "[Ljava/lang/Object;" (.ref a) (fun q => B ≤ q) U H ∧ va_T (.object "java/lang/Object") a 0 (fun _ => .null) (fun q => B ≤ q) U H ∧ ¬ B ≤ a) ∧ (va_Z "java/lang/Integer$IntegerCache" "high" "I" (.int (nI 127)) (fun q => B ≤ q) U H ∧ ∃ a, od 3000002 = some a ∧ va_Z "java/lang/Integer$IntegerCache" "cache" "[Ljava/lang/Integer;" (.ref a) (fun q => B ≤ q) U H ∧ ∃ ad : Nat → Nat, (∀ k, k < 256 → od (3001000 + k) = some (ad k)) ∧ va_T (.object "java/lang/Integer") a 256 (fun k => .ref (ad k)) (fun q => B ≤ q) U H ∧ vb_C ad (fun q => B ≤ q) U H) ∧ (∃ a, od 3000003 = some a ∧ va_Z "java/lang/Integer" "DigitOnes" "[B" (.ref a) (fun q => B ≤ q) U H ∧ va_T .byte a 100 (fun k => .int (dgO k)) (fun q => B ≤ q) U H) ∧ (∃ a, od 3000004 = some a ∧ va_Z "java/lang/Integer" "DigitTens" "[B" (.ref a) (fun q => B ≤ q) U H ∧ va_T .byte a 100 (fun k => .int (dgT k)) (fun q => B ≤ q) U H) ∧ ScX B od U H
theorem OldX.kept {B : Nat} {od : Nat → Option Nat} {U : State} {H H1 : Heap} (h : OldX B od U H) (hq : ∀ a : Nat, a < H.size → ¬ B ≤ a → H1[a]? = H[a]?) : OldX B od U H1 := by
  obtain ⟨h1, h2, h3, h4, h5, ⟨a, a1, a2, a3, a4⟩, ⟨b0, b, b1, b2, ad, b3, b4, b5⟩, ⟨c, c1, c2, c3⟩, ⟨d, d1, d2, d3⟩, sc⟩ := h
  exact ⟨h1, h2, h3, h4, h5, ⟨a, a1, a2.kept hq, a3.kept hq, a4⟩, ⟨b0.kept hq, b, b1, b2.kept hq, ad, b3, b4.kept hq, b5.kept hq⟩, ⟨c, c1, c2.kept hq, c3.kept hq⟩, ⟨d, d1, d2.kept hq, d3.kept hq⟩, sc.kept hq⟩
theorem OldX.moved {B : Nat} {od : Nat → Option Nat} {u U : State} {H : Heap} (hvm : u.vm.Alike U.vm) (h : OldX B od u H) : OldX B od U H := by
  obtain ⟨h1, h2, h3, h4, ⟨mi, e1, e2⟩, ⟨a, a1, a2, a3, a4⟩, ⟨b0, b, b1, b2, ad, b3, b4, b5⟩, ⟨c, c1, c2, c3⟩, ⟨d, d1, d2, d3⟩, sc⟩ := h
  refine ⟨h1.moved hvm, fun q hq => va_tabs rfl (rfl : (u.setVm U.vm).vm = U.vm) (by rw [Cond.castable_setVm hvm]; exact h2 q hq), fun q hq => ?_, ⟨va_Dc.moved hvm h4.1, fun y hy => va_tabs rfl (rfl : (u.setVm U.vm).vm = U.vm) (by rw [Cond.privateMethod_setVm hvm]; exact h4.2 y hy)⟩, ⟨mi, e1, va_Mi.moved hvm e2⟩, ⟨a, a1, a2.moved hvm, a3.moved hvm, a4⟩, ⟨b0.moved hvm, b, b1, b2.moved hvm, ad, b3, b4.moved hvm, b5.moved hvm⟩, ⟨c, c1, c2.moved hvm, c3.moved hvm⟩, ⟨d, d1, d2.moved hvm, d3.moved hvm⟩, sc.moved hvm⟩
  have h9 := h3 q hq
  simp only [faceL, List.mem_cons, List.not_mem_nil, or_false] at hq
  rcases hq with rfl | rfl
  · exact va_Fw.moved ⟨by decide, by decide⟩ hvm h9
  · exact va_Fw.moved ⟨by decide, by decide⟩ hvm h9
/-- strings and statics of the machine's own; which throwables aren't which -/
def StrW (B : Nat) (od : Nat → Option Nat) (U : State) (H : Heap) : Prop := va_Z "java/lang/String" "COMPACT_STRINGS" "Z" (.int 1) (fun q => B ≤ q) U H ∧ (va_Z "jdk/internal/util/Preconditions" "SIOOBE_FORMATTER" "Ljava/util/function/BiFunction;" .null (fun q => B ≤ q) U H ∨ ∃ t, od 3000000 = some t ∧ va_Z "jdk/internal/util/Preconditions" "SIOOBE_FORMATTER" "Ljava/util/function/BiFunction;" (.ref t) (fun q => B ≤ q) U H) ∧ (∀ j, j < 39 → ∃ a v, od (1000000 + j) = some a ∧ od (2000000 + j) = some v ∧ va_O "java/lang/String" a (fun q => B ≤ q) U H ∧ va_OF "java/lang/String" "coder" "B" (.int 0) a (fun q => B ≤ q) U H ∧ va_OF "java/lang/String" "value" "[B" (.ref v) a (fun q => B ≤ q) U H ∧ va_T .byte v (strB.getD j []).length (fun k => .int ((strB.getD j []).getD k 0)) (fun q => B ≤ q) U H) ∧ (∀ E ∈ exL, ∀ E2 ∈ exL, E ≠ E2 → va_Nc E E2 U) ∧ va_AO RX6 U ∧ OldX B od U H
theorem StrW.kept {B : Nat} {od : Nat → Option Nat} {U : State} {H H1 : Heap} (h : StrW B od U H) (hq : ∀ a : Nat, a < H.size → ¬ B ≤ a → H1[a]? = H[a]?) : StrW B od U H1 := by
  obtain ⟨h1, h2, h3, h4, h5, h6⟩ := h
  refine ⟨h1.kept hq, ?_, fun j hj => ?_, h4, h5, h6.kept hq⟩
  · rcases h2 with h | ⟨t, ht, h⟩
    · exact Or.inl (h.kept hq)
    · exact Or.inr ⟨t, ht, h.kept hq⟩
  · obtain ⟨a, v, g1, g2, g3, g4, g5, g6⟩ := h3 j hj
    exact ⟨a, v, g1, g2, g3.kept hq, g4.kept hq, g5.kept hq, g6.kept hq⟩
theorem StrW.moved {B : Nat} {od : Nat → Option Nat} {u U : State} {H : Heap} (hvm : u.vm.Alike U.vm) (h : StrW B od u H) : StrW B od U H := by
  obtain ⟨h1, h2, h3, h4, h5, h6⟩ := h
  refine ⟨h1.moved hvm, ?_, fun j hj => ?_, fun E hE E2 hE2 hn => (h4 E hE E2 hE2 hn).moved hvm, h5.moved hvm, h6.moved hvm⟩
  · rcases h2 with h | ⟨t, ht, h⟩
    · exact Or.inl (h.moved hvm)
    · exact Or.inr ⟨t, ht, h.moved hvm⟩
  · obtain ⟨a, v, g1, g2, g3, g4, g5, g6⟩ := h3 j hj
    exact ⟨a, v, g1, g2, g3.moved hvm, g4.moved hvm, g5.moved hvm, g6.moved hvm⟩
def OldF (B : Nat) (od : Nat → Option Nat) (U : State) (H : Heap) : Prop := vx_Zq Bundle.tN "UNASSIGNED_STACK" Bundle.steD (fun q => B ≤ q) U H ∧ vx_Zq Bundle.tN "SUPPRESSED_SENTINEL" Bundle.listD (fun q => B ≤ q) U H ∧ (∀ (j : Nat) (q : String × Nat × String), strT[j]? = some q → ∃ a, od (1000000 + j) = some a ∧ vk_R q.1 q.2.1 q.2.2 a U) ∧ (∀ k, k < 1000000 → od k = none) ∧ StrW B od U H
def Wd (D : va_G) (cy : Nat → ClassId) (B : Nat) (od : Nat → Option Nat) (A : AH) (z : Nat) (U : State) : Prop := va_K D vwCl (tysc cy) U ∧ NW U ∧ RelA D B od A z U.heap ∧ B ≤ U.heap.size ∧ OldF B od U U.heap
theorem OldF.kept {B : Nat} {od : Nat → Option Nat} {U : State} {H H1 : Heap} (h : OldF B od U H) (hq : ∀ a : Nat, a < H.size → ¬ B ≤ a → H1[a]? = H[a]?) : OldF B od U H1 := ⟨h.1.kept hq, h.2.1.kept hq, h.2.2.1, h.2.2.2.1, h.2.2.2.2.kept hq⟩
theorem OldF.warm {B : Nat} {od : Nat → Option Nat} {s U : State} {H : Heap} (hW : s.WarmedH U.vm) (h : OldF B od s H) : OldF B od U H := ⟨vx_Zq.moved hW.alike h.1, vx_Zq.moved hW.alike h.2.1, fun j q hj => by obtain ⟨a, h1, h2⟩ := h.2.2.1 j q hj; exact ⟨a, h1, h2.warm hW⟩, h.2.2.2.1, h.2.2.2.2.moved hW.alike⟩
theorem OldF.same {B : Nat} {od : Nat → Option Nat} {s U : State} {H : Heap} (hv : U.vm = s.vm) (h : OldF B od s H) : OldF B od U H := ⟨vx_Zq.moved (hv ▸ Vm.Alike.refl s.vm) h.1, vx_Zq.moved (hv ▸ Vm.Alike.refl s.vm) h.2.1, fun j q hj => by obtain ⟨a, h1, h2⟩ := h.2.2.1 j q hj; exact ⟨a, h1, h2.same hv⟩, h.2.2.2.1, h.2.2.2.2.moved (hv ▸ Vm.Alike.refl s.vm)⟩
theorem Wd.same {D : va_G} {cy : Nat → ClassId} {B : Nat} {od : Nat → Option Nat} {A : AH} {z : Nat} {s U : State} (hv : U.vm = s.vm) (hh : U.heap = s.heap) (h : Wd D cy B od A z s) : Wd D cy B od A z U := by
  obtain ⟨h1, h2, h3, h4, h5⟩ := h
  exact ⟨va_K.moved (hv ▸ Vm.Alike.refl s.vm) h1, NW.same hv.symm h2, by rw [hh]; exact h3, by rw [hh]; exact h4, by rw [hh]; exact OldF.same hv h5⟩
def PcA (D : va_G) (cy : Nat → ClassId) (B : Nat) (od : Nat → Option Nat) (av : List Value) (A : AH) (z : Nat) : Array Value → State → Prop := fun v U => v = (av.map (trV B od)).toArray ∧ Wd D cy B od A z U
theorem PcA.blind {D : va_G} {cy : Nat → ClassId} {B : Nat} {od : Nat → Option Nat} {av : List Value} {A : AH} {z : Nat} : FrameBlind (PcA D cy B od av A z) := fun _ U _ _ h => ⟨h.1, Wd.same (s := U) rfl rfl h.2⟩
abbrev QT : Type := Option Value → AH → Nat → Prop
abbrev QX : Type := String → AH → Prop
def QcA (D : va_G) (B : Nat) (od : Nat → Option Nat) (Q : QT) : Array Value → State → Outcome → State → Prop := fun _ st oc t => (∃ (v : Option Value) (A' : AH) (z' : Nat), oc = .returned (v.map (trV B od)) ∧ Q v A' z' ∧ RelA D B od A' z' t.heap) ∧ va_F (fun q => B ≤ q) st t
def XcA (D : va_G) (B : Nat) (od : Nat → Option Nat) (Q : QX) : String → State → State → Prop := fun E st t => (∃ A' : AH, Q E A' ∧ RelA D B od A' 0 t.heap) ∧ va_F (fun q => B ≤ q) st t
def CT (l : Launch) (D : va_G) (cy : Nat → ClassId) (B : Nat) (od : Nat → Option Nat) (y : MethodName) (bytes : ByteArray) (maxL : Nat) (ret : Option FieldType) (rm : Room) (av : List Value) (A : AH) (z : Nat) (Q : QT) : Prop := Met l y (Cond.code y bytes maxL ret :: lw_good) rm (PcA D cy B od av A z) (QcA D B od Q) rm.cells rm.slots (fun q => B ≤ q)
def CX (l : Launch) (D : va_G) (cy : Nat → ClassId) (B : Nat) (od : Nat → Option Nat) (y : MethodName) (bytes : ByteArray) (maxL : Nat) (ret : Option FieldType) (rm : Room) (av : List Value) (A : AH) (z : Nat) (Q : QT) (Qx : QX) : Prop := vx_Met l y (Cond.code y bytes maxL ret :: lw_good) rm (PcA D cy B od av A z) (QcA D B od Q) (XcA D B od Qx) rm.cells rm.slots (fun q => B ≤ q)
section CORE
variable {p : Program} {l : Launch} {e : Env} {R : Room} {s : State} {m : MethodId} {args : Array Value} {below : List Frame} {meth : Method} {c : Code}
variable {D : va_G} {cy : Nat → ClassId} {B : Nat} {od : Nat → Option Nat} {cc : ByteArray} {nL : Nat} {tab : List PT} {own : String} {ret : Option FieldType}
/-- what holds all through a method's body -/
def Cx (p : Program) (s : State) (m : MethodId) (args : Array Value) (meth : Method) (c : Code) (D : va_G) (cy : Nat → ClassId) (B : Nat) (od : Nat → Option Nat) (cc : ByteArray) (nL : Nat) (tab : List PT) (own : String) (ret : Option FieldType) : Prop :=
  (p.tables.exec = Jvm.exec ∧ c.code = cc ∧ c.maxLocals = nL ∧ s.vm.findClass own = some m.cls ∧ ∀ v ∈ lw_good, v.before args s = true) ∧ va_K D vwCl (tysc cy) s ∧ NW s ∧ OkTab cc tab ∧ meth.sig.returnType = ret ∧ meth.locks = false ∧ B ≤ s.heap.size ∧ OldF B od s s.heap
/-- the end: b tells whether the body may throw -/
def FinQ (b : Bool) (D : va_G) (B : Nat) (od : Nat → Option Nat) (Q : QT) (Qx : QX) (args : Array Value) (s : State) (below : List Frame) (mc ms : Nat) : State → Prop := match b with
  | false => MQ below (QcA D B od Q) args s mc ms (fun q => B ≤ q)
  | true => vx_MQ below (QcA D B od Q) (XcA D B od Qx) args s mc ms (fun q => B ≤ q)
def G (p : Program) (l : Launch) (e : Env) (R : Room) (s : State) (m : MethodId) (args : Array Value) (below : List Frame) (meth : Method) (c : Code) (D : va_G) (B : Nat) (od : Nat → Option Nat) (nL : Nat) (tab : List PT) (F : State → Prop) (cells slots : Nat) (A : AH) (z i : Nat) (lv : List (Option Value)) (st : List Value) : Prop :=
  ∀ q, tab[i]? = some q → ∀ (H : Heap) (locs : List Loc) (ls : Array Slot), RelA D B od A z H → va_S (fun q => B ≤ q) s.heap H locs → LR B od ls nL lv → W p l e R s m args below meth c H locs cells slots F (F0 m q.1 ls (st.map (trV B od)))
theorem Cx.world {A : AH} {z : Nat} {H : Heap} {locs : List Loc} (X : Cx p s m args meth c D cy B od cc nL tab own ret) (hR : RelA D B od A z H) (hS : va_S (fun q => B ≤ q) s.heap H locs) : ∀ U : State, U.heap = H → s.WarmedH U.vm → Wd D cy B od A z U := by
  obtain ⟨-, hK, hN, -, -, -, hB, hO⟩ := X
  intro U hU hW
  refine ⟨va_K.moved hW.alike hK, hN.warm hW, by rw [hU]; exact hR, by rw [hU]; exact Nat.le_trans hB hS.1, ?_⟩
  rw [hU]
  exact OldF.warm hW (hO.kept (fun a h1 h2 => hS.2.1 a h1 h2))
variable {F : State → Prop} {cells slots : Nat} {A : AH} {z i pc len nx tg : Nat} {lv : List (Option Value)} {st : List Value}

theorem g_iconst (X : Cx p s m args meth c D cy B od cc nL tab own ret) {n : Int} {v : Int32} (hi : tab[i]? = some (pc, .iconst n, 1, nx, tg)) (hv : Int32.ofInt n = v) (kk : G p l e R s m args below meth c D B od nL tab F cells slots A z nx lv (.int v :: st)) : G p l e R s m args below meth c D B od nL tab F cells slots A z i lv st := by
  intro q hq H locs ls hR hS hl
  cases Option.some.inj (hi.symm.trans hq)
  obtain ⟨q2, hq2, e2⟩ := X.2.2.2.1.fall hi rfl
  have K := kk q2 hq2 H locs ls hR hS hl
  rw [e2] at K
  exact lv_iconst X.1.1 X.1.2.1 (X.2.2.2.1.dec hi) hv K
theorem g_bipush (X : Cx p s m args meth c D cy B od cc nL tab own ret) {n : Int} {v : Int32} (hi : tab[i]? = some (pc, .bipush n, 2, nx, tg)) (hv : (Int8.ofInt n).toInt32 = v) (kk : G p l e R s m args below meth c D B od nL tab F cells slots A z nx lv (.int v :: st)) : G p l e R s m args below meth c D B od nL tab F cells slots A z i lv st := by
  intro q hq H locs ls hR hS hl
  cases Option.some.inj (hi.symm.trans hq)
  obtain ⟨q2, hq2, e2⟩ := X.2.2.2.1.fall hi rfl
  have K := kk q2 hq2 H locs ls hR hS hl
  rw [e2] at K
  exact lv_bipush X.1.1 X.1.2.1 (X.2.2.2.1.dec hi) hv K
theorem g_sipush (X : Cx p s m args meth c D cy B od cc nL tab own ret) {n : Int} {v : Int32} (hi : tab[i]? = some (pc, .sipush n, 3, nx, tg)) (hv : (Int16.ofInt n).toInt32 = v) (kk : G p l e R s m args below meth c D B od nL tab F cells slots A z nx lv (.int v :: st)) : G p l e R s m args below meth c D B od nL tab F cells slots A z i lv st := by
  intro q hq H locs ls hR hS hl
  cases Option.some.inj (hi.symm.trans hq)
  obtain ⟨q2, hq2, e2⟩ := X.2.2.2.1.fall hi rfl
  have K := kk q2 hq2 H locs ls hR hS hl
  rw [e2] at K
  exact lv_sipush X.1.1 X.1.2.1 (X.2.2.2.1.dec hi) hv K
theorem g_lconst (X : Cx p s m args meth c D cy B od cc nL tab own ret) {n : Fin 2} {v : Int64} (hi : tab[i]? = some (pc, .lconst n, 1, nx, tg)) (hv : Int64.ofNat (n : Nat) = v) (kk : G p l e R s m args below meth c D B od nL tab F cells slots A z nx lv (.long v :: st)) : G p l e R s m args below meth c D B od nL tab F cells slots A z i lv st := by
  intro q hq H locs ls hR hS hl
  cases Option.some.inj (hi.symm.trans hq)
  obtain ⟨q2, hq2, e2⟩ := X.2.2.2.1.fall hi rfl
  have K := kk q2 hq2 H locs ls hR hS hl
  rw [e2] at K
  exact lv_lconst X.1.1 X.1.2.1 (X.2.2.2.1.dec hi) hv K
theorem g_dconst0 (X : Cx p s m args meth c D cy B od cc nL tab own ret)  (hi : tab[i]? = some (pc, .dconst 0, 1, nx, tg))  (kk : G p l e R s m args below meth c D B od nL tab F cells slots A z nx lv (.double 0 :: st)) : G p l e R s m args below meth c D B od nL tab F cells slots A z i lv st := by
  intro q hq H locs ls hR hS hl
  cases Option.some.inj (hi.symm.trans hq)
  obtain ⟨q2, hq2, e2⟩ := X.2.2.2.1.fall hi rfl
  have K := kk q2 hq2 H locs ls hR hS hl
  rw [e2] at K
  exact lv_dconst0 X.1.1 X.1.2.1 (X.2.2.2.1.dec hi) K
theorem g_ldc (X : Cx p s m args meth c D cy B od cc nL tab own ret) {ix : Nat} {v : Int32} (hi : tab[i]? = some (pc, .ldc ix, 2, nx, tg)) (hw : Cond.constant own ix v ∈ lw_good) (kk : G p l e R s m args below meth c D B od nL tab F cells slots A z nx lv (.int v :: st)) : G p l e R s m args below meth c D B od nL tab F cells slots A z i lv st := by
  intro q hq H locs ls hR hS hl
  cases Option.some.inj (hi.symm.trans hq)
  obtain ⟨q2, hq2, e2⟩ := X.2.2.2.1.fall hi rfl
  have K := kk q2 hq2 H locs ls hR hS hl
  rw [e2] at K
  exact lv_ldc X.1.1 X.1.2.1 X.1.2.2.2.1 (X.1.2.2.2.2 _ hw) (X.2.2.2.1.dec hi) K
theorem g_ldcw (X : Cx p s m args meth c D cy B od cc nL tab own ret) {ix : Nat} {v : Int32} (hi : tab[i]? = some (pc, .ldc_w ix, 3, nx, tg)) (hw : Cond.constant own ix v ∈ lw_good) (kk : G p l e R s m args below meth c D B od nL tab F cells slots A z nx lv (.int v :: st)) : G p l e R s m args below meth c D B od nL tab F cells slots A z i lv st := by
  intro q hq H locs ls hR hS hl
  cases Option.some.inj (hi.symm.trans hq)
  obtain ⟨q2, hq2, e2⟩ := X.2.2.2.1.fall hi rfl
  have K := kk q2 hq2 H locs ls hR hS hl
  rw [e2] at K
  exact lv_ldcw X.1.1 X.1.2.1 X.1.2.2.2.1 (X.1.2.2.2.2 _ hw) (X.2.2.2.1.dec hi) K
theorem g_ldc2 (X : Cx p s m args meth c D cy B od cc nL tab own ret) {ix : Nat} {v : Int64} (hi : tab[i]? = some (pc, .ldc2_w ix, 3, nx, tg)) (hw : Cond.constantLong own ix v ∈ lw_good) (kk : G p l e R s m args below meth c D B od nL tab F cells slots A z nx lv (.long v :: st)) : G p l e R s m args below meth c D B od nL tab F cells slots A z i lv st := by
  intro q hq H locs ls hR hS hl
  cases Option.some.inj (hi.symm.trans hq)
  obtain ⟨q2, hq2, e2⟩ := X.2.2.2.1.fall hi rfl
  have K := kk q2 hq2 H locs ls hR hS hl
  rw [e2] at K
  exact lv_ldc2 X.1.1 X.1.2.1 X.1.2.2.2.1 (X.1.2.2.2.2 _ hw) (X.2.2.2.1.dec hi) K
theorem g_ldc2d (X : Cx p s m args meth c D cy B od cc nL tab own ret) {ix : Nat} {v : UInt64} (hi : tab[i]? = some (pc, .ldc2_w ix, 3, nx, tg)) (hw : Cond.constantDouble own ix v ∈ lw_good) (kk : G p l e R s m args below meth c D B od nL tab F cells slots A z nx lv (.double v :: st)) : G p l e R s m args below meth c D B od nL tab F cells slots A z i lv st := by
  intro q hq H locs ls hR hS hl
  cases Option.some.inj (hi.symm.trans hq)
  obtain ⟨q2, hq2, e2⟩ := X.2.2.2.1.fall hi rfl
  have K := kk q2 hq2 H locs ls hR hS hl
  rw [e2] at K
  exact lv_ldc2d X.1.1 X.1.2.1 X.1.2.2.2.1 (X.1.2.2.2.2 _ hw) (X.2.2.2.1.dec hi) K
theorem g_iload (X : Cx p s m args meth c D cy B od cc nL tab own ret) {k : Nat} {x : Int32} (hi : tab[i]? = some (pc, .iload k, 2, nx, tg)) (hk : lv[k]? = some (some (.int x))) (kk : G p l e R s m args below meth c D B od nL tab F cells slots A z nx lv (.int x :: st)) : G p l e R s m args below meth c D B od nL tab F cells slots A z i lv st := by
  intro q hq H locs ls hR hS hl
  cases Option.some.inj (hi.symm.trans hq)
  obtain ⟨q2, hq2, e2⟩ := X.2.2.2.1.fall hi rfl
  have K := kk q2 hq2 H locs ls hR hS hl
  rw [e2] at K
  exact lv_iload X.1.1 X.1.2.1 (X.2.2.2.1.dec hi) (hl.at hk) K
theorem g_iload_n (X : Cx p s m args meth c D cy B od cc nL tab own ret) {k : Fin 4} {x : Int32} (hi : tab[i]? = some (pc, .iload_n k, 1, nx, tg)) (hk : lv[(k : Nat)]? = some (some (.int x))) (kk : G p l e R s m args below meth c D B od nL tab F cells slots A z nx lv (.int x :: st)) : G p l e R s m args below meth c D B od nL tab F cells slots A z i lv st := by
  intro q hq H locs ls hR hS hl
  cases Option.some.inj (hi.symm.trans hq)
  obtain ⟨q2, hq2, e2⟩ := X.2.2.2.1.fall hi rfl
  have K := kk q2 hq2 H locs ls hR hS hl
  rw [e2] at K
  exact lv_iload_n X.1.1 X.1.2.1 (X.2.2.2.1.dec hi) rfl (hl.at hk) K
theorem g_lload (X : Cx p s m args meth c D cy B od cc nL tab own ret) {k : Nat} {x : Int64} (hi : tab[i]? = some (pc, .lload k, 2, nx, tg)) (hk : lv[k]? = some (some (.long x))) (kk : G p l e R s m args below meth c D B od nL tab F cells slots A z nx lv (.long x :: st)) : G p l e R s m args below meth c D B od nL tab F cells slots A z i lv st := by
  intro q hq H locs ls hR hS hl
  cases Option.some.inj (hi.symm.trans hq)
  obtain ⟨q2, hq2, e2⟩ := X.2.2.2.1.fall hi rfl
  have K := kk q2 hq2 H locs ls hR hS hl
  rw [e2] at K
  exact lv_lload X.1.1 X.1.2.1 (X.2.2.2.1.dec hi) (hl.at hk) K
theorem g_lload_n (X : Cx p s m args meth c D cy B od cc nL tab own ret) {k : Fin 4} {x : Int64} (hi : tab[i]? = some (pc, .lload_n k, 1, nx, tg)) (hk : lv[(k : Nat)]? = some (some (.long x))) (kk : G p l e R s m args below meth c D B od nL tab F cells slots A z nx lv (.long x :: st)) : G p l e R s m args below meth c D B od nL tab F cells slots A z i lv st := by
  intro q hq H locs ls hR hS hl
  cases Option.some.inj (hi.symm.trans hq)
  obtain ⟨q2, hq2, e2⟩ := X.2.2.2.1.fall hi rfl
  have K := kk q2 hq2 H locs ls hR hS hl
  rw [e2] at K
  exact lv_lload_n X.1.1 X.1.2.1 (X.2.2.2.1.dec hi) rfl (hl.at hk) K
theorem g_dload (X : Cx p s m args meth c D cy B od cc nL tab own ret) {k : Nat} {x : UInt64} (hi : tab[i]? = some (pc, .dload k, 2, nx, tg)) (hk : lv[k]? = some (some (.double x))) (kk : G p l e R s m args below meth c D B od nL tab F cells slots A z nx lv (.double x :: st)) : G p l e R s m args below meth c D B od nL tab F cells slots A z i lv st := by
  intro q hq H locs ls hR hS hl
  cases Option.some.inj (hi.symm.trans hq)
  obtain ⟨q2, hq2, e2⟩ := X.2.2.2.1.fall hi rfl
  have K := kk q2 hq2 H locs ls hR hS hl
  rw [e2] at K
  exact lv_dload X.1.1 X.1.2.1 (X.2.2.2.1.dec hi) (hl.at hk) K
theorem g_dload_n (X : Cx p s m args meth c D cy B od cc nL tab own ret) {k : Fin 4} {x : UInt64} (hi : tab[i]? = some (pc, .dload_n k, 1, nx, tg)) (hk : lv[(k : Nat)]? = some (some (.double x))) (kk : G p l e R s m args below meth c D B od nL tab F cells slots A z nx lv (.double x :: st)) : G p l e R s m args below meth c D B od nL tab F cells slots A z i lv st := by
  intro q hq H locs ls hR hS hl
  cases Option.some.inj (hi.symm.trans hq)
  obtain ⟨q2, hq2, e2⟩ := X.2.2.2.1.fall hi rfl
  have K := kk q2 hq2 H locs ls hR hS hl
  rw [e2] at K
  exact lv_dload_n X.1.1 X.1.2.1 (X.2.2.2.1.dec hi) rfl (hl.at hk) K
theorem g_aload (X : Cx p s m args meth c D cy B od cc nL tab own ret) {k : Nat} {x : Nat} (hi : tab[i]? = some (pc, .aload k, 2, nx, tg)) (hk : lv[k]? = some (some (.ref x))) (kk : G p l e R s m args below meth c D B od nL tab F cells slots A z nx lv (.ref x :: st)) : G p l e R s m args below meth c D B od nL tab F cells slots A z i lv st := by
  intro q hq H locs ls hR hS hl
  cases Option.some.inj (hi.symm.trans hq)
  obtain ⟨q2, hq2, e2⟩ := X.2.2.2.1.fall hi rfl
  have K := kk q2 hq2 H locs ls hR hS hl
  rw [e2] at K
  exact lv_aload X.1.1 X.1.2.1 (X.2.2.2.1.dec hi) (hl.at hk) K
theorem g_aload_n (X : Cx p s m args meth c D cy B od cc nL tab own ret) {k : Fin 4} {x : Nat} (hi : tab[i]? = some (pc, .aload_n k, 1, nx, tg)) (hk : lv[(k : Nat)]? = some (some (.ref x))) (kk : G p l e R s m args below meth c D B od nL tab F cells slots A z nx lv (.ref x :: st)) : G p l e R s m args below meth c D B od nL tab F cells slots A z i lv st := by
  intro q hq H locs ls hR hS hl
  cases Option.some.inj (hi.symm.trans hq)
  obtain ⟨q2, hq2, e2⟩ := X.2.2.2.1.fall hi rfl
  have K := kk q2 hq2 H locs ls hR hS hl
  rw [e2] at K
  exact lv_aload_n X.1.1 X.1.2.1 (X.2.2.2.1.dec hi) rfl (hl.at hk) K
theorem g_istore (X : Cx p s m args meth c D cy B od cc nL tab own ret) {k : Nat} {x : Int32} (hi : tab[i]? = some (pc, .istore k, 2, nx, tg)) (hn : k < nL) (kk : G p l e R s m args below meth c D B od nL tab F cells slots A z nx (lset1 lv k (.int x)) st) : G p l e R s m args below meth c D B od nL tab F cells slots A z i lv (.int x :: st) := by
  intro q hq H locs ls hR hS hl
  cases Option.some.inj (hi.symm.trans hq)
  obtain ⟨q2, hq2, e2⟩ := X.2.2.2.1.fall hi rfl
  obtain ⟨l2, h2, h3⟩ := hl.set1 (v := .int x) hn rfl
  refine lv_istore X.1.1 X.1.2.1 (X.2.2.2.1.dec hi) hl.has hn h2 (fun ls2 hl2 => ?_)
  have K := kk q2 hq2 H locs ls2 hR hS (h3 ls2 hl2)
  rw [e2] at K
  exact K
theorem g_istore_n (X : Cx p s m args meth c D cy B od cc nL tab own ret) {k : Fin 4} {x : Int32} (hi : tab[i]? = some (pc, .istore_n k, 1, nx, tg)) (hn : (k : Nat) < nL) (kk : G p l e R s m args below meth c D B od nL tab F cells slots A z nx (lset1 lv (k : Nat) (.int x)) st) : G p l e R s m args below meth c D B od nL tab F cells slots A z i lv (.int x :: st) := by
  intro q hq H locs ls hR hS hl
  cases Option.some.inj (hi.symm.trans hq)
  obtain ⟨q2, hq2, e2⟩ := X.2.2.2.1.fall hi rfl
  obtain ⟨l2, h2, h3⟩ := hl.set1 (v := .int x) hn rfl
  refine lv_istore_n X.1.1 X.1.2.1 (X.2.2.2.1.dec hi) rfl hl.has hn h2 (fun ls2 hl2 => ?_)
  have K := kk q2 hq2 H locs ls2 hR hS (h3 ls2 hl2)
  rw [e2] at K
  exact K
theorem g_lstore (X : Cx p s m args meth c D cy B od cc nL tab own ret) {k : Nat} {x : Int64} (hi : tab[i]? = some (pc, .lstore k, 2, nx, tg)) (hn : k + 1 < nL) (kk : G p l e R s m args below meth c D B od nL tab F cells slots A z nx (lset2 lv k (.long x)) st) : G p l e R s m args below meth c D B od nL tab F cells slots A z i lv (.long x :: st) := by
  intro q hq H locs ls hR hS hl
  cases Option.some.inj (hi.symm.trans hq)
  obtain ⟨q2, hq2, e2⟩ := X.2.2.2.1.fall hi rfl
  obtain ⟨l2, h2, h3⟩ := hl.set2 (v := .long x) hn rfl
  refine lv_lstore X.1.1 X.1.2.1 (X.2.2.2.1.dec hi) hl.has hn h2 (fun ls2 hl2 => ?_)
  have K := kk q2 hq2 H locs ls2 hR hS (h3 ls2 hl2)
  rw [e2] at K
  exact K
theorem g_lstore_n (X : Cx p s m args meth c D cy B od cc nL tab own ret) {k : Fin 4} {x : Int64} (hi : tab[i]? = some (pc, .lstore_n k, 1, nx, tg)) (hn : (k : Nat) + 1 < nL) (kk : G p l e R s m args below meth c D B od nL tab F cells slots A z nx (lset2 lv (k : Nat) (.long x)) st) : G p l e R s m args below meth c D B od nL tab F cells slots A z i lv (.long x :: st) := by
  intro q hq H locs ls hR hS hl
  cases Option.some.inj (hi.symm.trans hq)
  obtain ⟨q2, hq2, e2⟩ := X.2.2.2.1.fall hi rfl
  obtain ⟨l2, h2, h3⟩ := hl.set2 (v := .long x) hn rfl
  refine lv_lstore_n X.1.1 X.1.2.1 (X.2.2.2.1.dec hi) rfl hl.has hn h2 (fun ls2 hl2 => ?_)
  have K := kk q2 hq2 H locs ls2 hR hS (h3 ls2 hl2)
  rw [e2] at K
  exact K
theorem g_dstore (X : Cx p s m args meth c D cy B od cc nL tab own ret) {k : Nat} {x : UInt64} (hi : tab[i]? = some (pc, .dstore k, 2, nx, tg)) (hn : k + 1 < nL) (kk : G p l e R s m args below meth c D B od nL tab F cells slots A z nx (lset2 lv k (.double x)) st) : G p l e R s m args below meth c D B od nL tab F cells slots A z i lv (.double x :: st) := by
  intro q hq H locs ls hR hS hl
  cases Option.some.inj (hi.symm.trans hq)
  obtain ⟨q2, hq2, e2⟩ := X.2.2.2.1.fall hi rfl
  obtain ⟨l2, h2, h3⟩ := hl.set2 (v := .double x) hn rfl
  refine lv_dstore X.1.1 X.1.2.1 (X.2.2.2.1.dec hi) hl.has hn h2 (fun ls2 hl2 => ?_)
  have K := kk q2 hq2 H locs ls2 hR hS (h3 ls2 hl2)
  rw [e2] at K
  exact K
theorem g_dstore_n (X : Cx p s m args meth c D cy B od cc nL tab own ret) {k : Fin 4} {x : UInt64} (hi : tab[i]? = some (pc, .dstore_n k, 1, nx, tg)) (hn : (k : Nat) + 1 < nL) (kk : G p l e R s m args below meth c D B od nL tab F cells slots A z nx (lset2 lv (k : Nat) (.double x)) st) : G p l e R s m args below meth c D B od nL tab F cells slots A z i lv (.double x :: st) := by
  intro q hq H locs ls hR hS hl
  cases Option.some.inj (hi.symm.trans hq)
  obtain ⟨q2, hq2, e2⟩ := X.2.2.2.1.fall hi rfl
  obtain ⟨l2, h2, h3⟩ := hl.set2 (v := .double x) hn rfl
  refine lv_dstore_n X.1.1 X.1.2.1 (X.2.2.2.1.dec hi) rfl hl.has hn h2 (fun ls2 hl2 => ?_)
  have K := kk q2 hq2 H locs ls2 hR hS (h3 ls2 hl2)
  rw [e2] at K
  exact K
theorem g_astore (X : Cx p s m args meth c D cy B od cc nL tab own ret) {k : Nat} {x : Nat} (hi : tab[i]? = some (pc, .astore k, 2, nx, tg)) (hn : k < nL) (kk : G p l e R s m args below meth c D B od nL tab F cells slots A z nx (lset1 lv k (.ref x)) st) : G p l e R s m args below meth c D B od nL tab F cells slots A z i lv (.ref x :: st) := by
  intro q hq H locs ls hR hS hl
  cases Option.some.inj (hi.symm.trans hq)
  obtain ⟨q2, hq2, e2⟩ := X.2.2.2.1.fall hi rfl
  obtain ⟨l2, h2, h3⟩ := hl.set1 (v := .ref x) hn rfl
  refine lv_astore X.1.1 X.1.2.1 (X.2.2.2.1.dec hi) hl.has hn h2 (fun ls2 hl2 => ?_)
  have K := kk q2 hq2 H locs ls2 hR hS (h3 ls2 hl2)
  rw [e2] at K
  exact K
theorem g_astore_n (X : Cx p s m args meth c D cy B od cc nL tab own ret) {k : Fin 4} {x : Nat} (hi : tab[i]? = some (pc, .astore_n k, 1, nx, tg)) (hn : (k : Nat) < nL) (kk : G p l e R s m args below meth c D B od nL tab F cells slots A z nx (lset1 lv (k : Nat) (.ref x)) st) : G p l e R s m args below meth c D B od nL tab F cells slots A z i lv (.ref x :: st) := by
  intro q hq H locs ls hR hS hl
  cases Option.some.inj (hi.symm.trans hq)
  obtain ⟨q2, hq2, e2⟩ := X.2.2.2.1.fall hi rfl
  obtain ⟨l2, h2, h3⟩ := hl.set1 (v := .ref x) hn rfl
  refine lv_astore_n X.1.1 X.1.2.1 (X.2.2.2.1.dec hi) rfl hl.has hn h2 (fun ls2 hl2 => ?_)
  have K := kk q2 hq2 H locs ls2 hR hS (h3 ls2 hl2)
  rw [e2] at K
  exact K
theorem g_iinc (X : Cx p s m args meth c D cy B od cc nL tab own ret) {k : Nat} {n : Int} {x : Int32} (hi : tab[i]? = some (pc, .iinc k n, 3, nx, tg)) (hk : lv[k]? = some (some (.int x))) (hn : k < nL) (kk : G p l e R s m args below meth c D B od nL tab F cells slots A z nx (lset1 lv k (.int (x + Int32.ofInt n))) st) : G p l e R s m args below meth c D B od nL tab F cells slots A z i lv st := by
  intro q hq H locs ls hR hS hl
  cases Option.some.inj (hi.symm.trans hq)
  obtain ⟨q2, hq2, e2⟩ := X.2.2.2.1.fall hi rfl
  obtain ⟨l2, h2, h3⟩ := hl.set1 (v := .int (x + Int32.ofInt n)) hn rfl
  obtain ⟨k2, hk2⟩ := List.getElem?_of_mem (lvP_mem.mpr ⟨.int x, hk, rfl⟩ : ((k, trV B od (.int x)) : Nat × Value) ∈ lvP B od lv)
  refine lv_iinc X.1.1 X.1.2.1 (X.2.2.2.1.dec hi) hl.has hk2 rfl hn h2 (fun ls2 hl2 => ?_)
  have K := kk q2 hq2 H locs ls2 hR hS (h3 ls2 hl2)
  rw [e2] at K
  exact K
theorem g_iadd (X : Cx p s m args meth c D cy B od cc nL tab own ret) {x y : Int32} (hi : tab[i]? = some (pc, .iadd, 1, nx, tg))  (kk : G p l e R s m args below meth c D B od nL tab F cells slots A z nx lv (.int (x + y) :: st)) : G p l e R s m args below meth c D B od nL tab F cells slots A z i lv (.int y :: .int x :: st) := by
  intro q hq H locs ls hR hS hl
  cases Option.some.inj (hi.symm.trans hq)
  obtain ⟨q2, hq2, e2⟩ := X.2.2.2.1.fall hi rfl
  have K := kk q2 hq2 H locs ls hR hS hl
  rw [e2] at K
  exact lv_iadd X.1.1 X.1.2.1 (X.2.2.2.1.dec hi) K
theorem g_isub (X : Cx p s m args meth c D cy B od cc nL tab own ret) {x y : Int32} (hi : tab[i]? = some (pc, .isub, 1, nx, tg))  (kk : G p l e R s m args below meth c D B od nL tab F cells slots A z nx lv (.int (x - y) :: st)) : G p l e R s m args below meth c D B od nL tab F cells slots A z i lv (.int y :: .int x :: st) := by
  intro q hq H locs ls hR hS hl
  cases Option.some.inj (hi.symm.trans hq)
  obtain ⟨q2, hq2, e2⟩ := X.2.2.2.1.fall hi rfl
  have K := kk q2 hq2 H locs ls hR hS hl
  rw [e2] at K
  exact lv_isub X.1.1 X.1.2.1 (X.2.2.2.1.dec hi) K
theorem g_imul (X : Cx p s m args meth c D cy B od cc nL tab own ret) {x y : Int32} (hi : tab[i]? = some (pc, .imul, 1, nx, tg))  (kk : G p l e R s m args below meth c D B od nL tab F cells slots A z nx lv (.int (x * y) :: st)) : G p l e R s m args below meth c D B od nL tab F cells slots A z i lv (.int y :: .int x :: st) := by
  intro q hq H locs ls hR hS hl
  cases Option.some.inj (hi.symm.trans hq)
  obtain ⟨q2, hq2, e2⟩ := X.2.2.2.1.fall hi rfl
  have K := kk q2 hq2 H locs ls hR hS hl
  rw [e2] at K
  exact lv_imul X.1.1 X.1.2.1 (X.2.2.2.1.dec hi) K
theorem g_iand (X : Cx p s m args meth c D cy B od cc nL tab own ret) {x y : Int32} (hi : tab[i]? = some (pc, .iand, 1, nx, tg))  (kk : G p l e R s m args below meth c D B od nL tab F cells slots A z nx lv (.int (x &&& y) :: st)) : G p l e R s m args below meth c D B od nL tab F cells slots A z i lv (.int y :: .int x :: st) := by
  intro q hq H locs ls hR hS hl
  cases Option.some.inj (hi.symm.trans hq)
  obtain ⟨q2, hq2, e2⟩ := X.2.2.2.1.fall hi rfl
  have K := kk q2 hq2 H locs ls hR hS hl
  rw [e2] at K
  exact lv_iand X.1.1 X.1.2.1 (X.2.2.2.1.dec hi) K
theorem g_ior (X : Cx p s m args meth c D cy B od cc nL tab own ret) {x y : Int32} (hi : tab[i]? = some (pc, .ior, 1, nx, tg))  (kk : G p l e R s m args below meth c D B od nL tab F cells slots A z nx lv (.int (x ||| y) :: st)) : G p l e R s m args below meth c D B od nL tab F cells slots A z i lv (.int y :: .int x :: st) := by
  intro q hq H locs ls hR hS hl
  cases Option.some.inj (hi.symm.trans hq)
  obtain ⟨q2, hq2, e2⟩ := X.2.2.2.1.fall hi rfl
  have K := kk q2 hq2 H locs ls hR hS hl
  rw [e2] at K
  exact lv_ior X.1.1 X.1.2.1 (X.2.2.2.1.dec hi) K
theorem g_ishl (X : Cx p s m args meth c D cy B od cc nL tab own ret) {x y : Int32} (hi : tab[i]? = some (pc, .ishl, 1, nx, tg))  (kk : G p l e R s m args below meth c D B od nL tab F cells slots A z nx lv (.int (x <<< (y &&& 31)) :: st)) : G p l e R s m args below meth c D B od nL tab F cells slots A z i lv (.int y :: .int x :: st) := by
  intro q hq H locs ls hR hS hl
  cases Option.some.inj (hi.symm.trans hq)
  obtain ⟨q2, hq2, e2⟩ := X.2.2.2.1.fall hi rfl
  have K := kk q2 hq2 H locs ls hR hS hl
  rw [e2] at K
  exact lv_ishl X.1.1 X.1.2.1 (X.2.2.2.1.dec hi) K
theorem g_ishr (X : Cx p s m args meth c D cy B od cc nL tab own ret) {x y : Int32} (hi : tab[i]? = some (pc, .ishr, 1, nx, tg))  (kk : G p l e R s m args below meth c D B od nL tab F cells slots A z nx lv (.int (x >>> (y &&& 31)) :: st)) : G p l e R s m args below meth c D B od nL tab F cells slots A z i lv (.int y :: .int x :: st) := by
  intro q hq H locs ls hR hS hl
  cases Option.some.inj (hi.symm.trans hq)
  obtain ⟨q2, hq2, e2⟩ := X.2.2.2.1.fall hi rfl
  have K := kk q2 hq2 H locs ls hR hS hl
  rw [e2] at K
  exact lv_ishr X.1.1 X.1.2.1 (X.2.2.2.1.dec hi) K
theorem g_iushr (X : Cx p s m args meth c D cy B od cc nL tab own ret) {x y : Int32} (hi : tab[i]? = some (pc, .iushr, 1, nx, tg))  (kk : G p l e R s m args below meth c D B od nL tab F cells slots A z nx lv (.int ((x.toUInt32 >>> (y.toUInt32 &&& Int32.toUInt32 31)).toInt32) :: st)) : G p l e R s m args below meth c D B od nL tab F cells slots A z i lv (.int y :: .int x :: st) := by
  intro q hq H locs ls hR hS hl
  cases Option.some.inj (hi.symm.trans hq)
  obtain ⟨q2, hq2, e2⟩ := X.2.2.2.1.fall hi rfl
  have K := kk q2 hq2 H locs ls hR hS hl
  rw [e2] at K
  exact lv_iushr X.1.1 X.1.2.1 (X.2.2.2.1.dec hi) rfl K
theorem g_idiv (X : Cx p s m args meth c D cy B od cc nL tab own ret) {x y : Int32} (hi : tab[i]? = some (pc, .idiv, 1, nx, tg)) (hne : ¬ y = 0) (kk : G p l e R s m args below meth c D B od nL tab F cells slots A z nx lv (.int (x / y) :: st)) : G p l e R s m args below meth c D B od nL tab F cells slots A z i lv (.int y :: .int x :: st) := by
  intro q hq H locs ls hR hS hl
  cases Option.some.inj (hi.symm.trans hq)
  obtain ⟨q2, hq2, e2⟩ := X.2.2.2.1.fall hi rfl
  have K := kk q2 hq2 H locs ls hR hS hl
  rw [e2] at K
  exact lv_idiv X.1.1 X.1.2.1 (X.2.2.2.1.dec hi) hne K
theorem g_irem (X : Cx p s m args meth c D cy B od cc nL tab own ret) {x y : Int32} (hi : tab[i]? = some (pc, .irem, 1, nx, tg)) (hne : ¬ y = 0) (kk : G p l e R s m args below meth c D B od nL tab F cells slots A z nx lv (.int (x - x / y * y) :: st)) : G p l e R s m args below meth c D B od nL tab F cells slots A z i lv (.int y :: .int x :: st) := by
  intro q hq H locs ls hR hS hl
  cases Option.some.inj (hi.symm.trans hq)
  obtain ⟨q2, hq2, e2⟩ := X.2.2.2.1.fall hi rfl
  have K := kk q2 hq2 H locs ls hR hS hl
  rw [e2] at K
  exact lv_irem X.1.1 X.1.2.1 (X.2.2.2.1.dec hi) hne K
theorem g_ladd (X : Cx p s m args meth c D cy B od cc nL tab own ret) {x y : Int64} (hi : tab[i]? = some (pc, .ladd, 1, nx, tg))  (kk : G p l e R s m args below meth c D B od nL tab F cells slots A z nx lv (.long (x + y) :: st)) : G p l e R s m args below meth c D B od nL tab F cells slots A z i lv (.long y :: .long x :: st) := by
  intro q hq H locs ls hR hS hl
  cases Option.some.inj (hi.symm.trans hq)
  obtain ⟨q2, hq2, e2⟩ := X.2.2.2.1.fall hi rfl
  have K := kk q2 hq2 H locs ls hR hS hl
  rw [e2] at K
  exact lv_ladd X.1.1 X.1.2.1 (X.2.2.2.1.dec hi) K
theorem g_lsub (X : Cx p s m args meth c D cy B od cc nL tab own ret) {x y : Int64} (hi : tab[i]? = some (pc, .lsub, 1, nx, tg))  (kk : G p l e R s m args below meth c D B od nL tab F cells slots A z nx lv (.long (x - y) :: st)) : G p l e R s m args below meth c D B od nL tab F cells slots A z i lv (.long y :: .long x :: st) := by
  intro q hq H locs ls hR hS hl
  cases Option.some.inj (hi.symm.trans hq)
  obtain ⟨q2, hq2, e2⟩ := X.2.2.2.1.fall hi rfl
  have K := kk q2 hq2 H locs ls hR hS hl
  rw [e2] at K
  exact lv_lsub X.1.1 X.1.2.1 (X.2.2.2.1.dec hi) K
theorem g_lmul (X : Cx p s m args meth c D cy B od cc nL tab own ret) {x y : Int64} (hi : tab[i]? = some (pc, .lmul, 1, nx, tg))  (kk : G p l e R s m args below meth c D B od nL tab F cells slots A z nx lv (.long (x * y) :: st)) : G p l e R s m args below meth c D B od nL tab F cells slots A z i lv (.long y :: .long x :: st) := by
  intro q hq H locs ls hR hS hl
  cases Option.some.inj (hi.symm.trans hq)
  obtain ⟨q2, hq2, e2⟩ := X.2.2.2.1.fall hi rfl
  have K := kk q2 hq2 H locs ls hR hS hl
  rw [e2] at K
  exact lv_lmul X.1.1 X.1.2.1 (X.2.2.2.1.dec hi) K
theorem g_ldiv (X : Cx p s m args meth c D cy B od cc nL tab own ret) {x y : Int64} (hi : tab[i]? = some (pc, .ldiv, 1, nx, tg)) (hne : ¬ y = 0) (kk : G p l e R s m args below meth c D B od nL tab F cells slots A z nx lv (.long (x / y) :: st)) : G p l e R s m args below meth c D B od nL tab F cells slots A z i lv (.long y :: .long x :: st) := by
  intro q hq H locs ls hR hS hl
  cases Option.some.inj (hi.symm.trans hq)
  obtain ⟨q2, hq2, e2⟩ := X.2.2.2.1.fall hi rfl
  have K := kk q2 hq2 H locs ls hR hS hl
  rw [e2] at K
  exact lv_ldiv X.1.1 X.1.2.1 (X.2.2.2.1.dec hi) hne K
theorem g_ineg (X : Cx p s m args meth c D cy B od cc nL tab own ret) {x : Int32} (hi : tab[i]? = some (pc, .ineg, 1, nx, tg))  (kk : G p l e R s m args below meth c D B od nL tab F cells slots A z nx lv (.int (-x) :: st)) : G p l e R s m args below meth c D B od nL tab F cells slots A z i lv (.int x :: st) := by
  intro q hq H locs ls hR hS hl
  cases Option.some.inj (hi.symm.trans hq)
  obtain ⟨q2, hq2, e2⟩ := X.2.2.2.1.fall hi rfl
  have K := kk q2 hq2 H locs ls hR hS hl
  rw [e2] at K
  exact lv_ineg X.1.1 X.1.2.1 (X.2.2.2.1.dec hi) K
theorem g_lneg (X : Cx p s m args meth c D cy B od cc nL tab own ret) {x : Int64} (hi : tab[i]? = some (pc, .lneg, 1, nx, tg))  (kk : G p l e R s m args below meth c D B od nL tab F cells slots A z nx lv (.long (-x) :: st)) : G p l e R s m args below meth c D B od nL tab F cells slots A z i lv (.long x :: st) := by
  intro q hq H locs ls hR hS hl
  cases Option.some.inj (hi.symm.trans hq)
  obtain ⟨q2, hq2, e2⟩ := X.2.2.2.1.fall hi rfl
  have K := kk q2 hq2 H locs ls hR hS hl
  rw [e2] at K
  exact lv_lneg X.1.1 X.1.2.1 (X.2.2.2.1.dec hi) K
theorem g_i2l (X : Cx p s m args meth c D cy B od cc nL tab own ret) {x : Int32} (hi : tab[i]? = some (pc, .i2l, 1, nx, tg))  (kk : G p l e R s m args below meth c D B od nL tab F cells slots A z nx lv (.long x.toInt64 :: st)) : G p l e R s m args below meth c D B od nL tab F cells slots A z i lv (.int x :: st) := by
  intro q hq H locs ls hR hS hl
  cases Option.some.inj (hi.symm.trans hq)
  obtain ⟨q2, hq2, e2⟩ := X.2.2.2.1.fall hi rfl
  have K := kk q2 hq2 H locs ls hR hS hl
  rw [e2] at K
  exact lv_i2l X.1.1 X.1.2.1 (X.2.2.2.1.dec hi) rfl K
theorem g_l2i (X : Cx p s m args meth c D cy B od cc nL tab own ret) {x : Int64} (hi : tab[i]? = some (pc, .l2i, 1, nx, tg))  (kk : G p l e R s m args below meth c D B od nL tab F cells slots A z nx lv (.int x.toInt32 :: st)) : G p l e R s m args below meth c D B od nL tab F cells slots A z i lv (.long x :: st) := by
  intro q hq H locs ls hR hS hl
  cases Option.some.inj (hi.symm.trans hq)
  obtain ⟨q2, hq2, e2⟩ := X.2.2.2.1.fall hi rfl
  have K := kk q2 hq2 H locs ls hR hS hl
  rw [e2] at K
  exact lv_l2i X.1.1 X.1.2.1 (X.2.2.2.1.dec hi) rfl K
theorem g_i2c (X : Cx p s m args meth c D cy B od cc nL tab own ret) {x : Int32} (hi : tab[i]? = some (pc, .i2c, 1, nx, tg))  (kk : G p l e R s m args below meth c D B od nL tab F cells slots A z nx lv (.int (x.toUInt32 % 65536).toInt32 :: st)) : G p l e R s m args below meth c D B od nL tab F cells slots A z i lv (.int x :: st) := by
  intro q hq H locs ls hR hS hl
  cases Option.some.inj (hi.symm.trans hq)
  obtain ⟨q2, hq2, e2⟩ := X.2.2.2.1.fall hi rfl
  have K := kk q2 hq2 H locs ls hR hS hl
  rw [e2] at K
  exact lv_i2c X.1.1 X.1.2.1 (X.2.2.2.1.dec hi) rfl K
theorem g_l2d (X : Cx p s m args meth c D cy B od cc nL tab own ret) {x : Int64} (hi : tab[i]? = some (pc, .l2d, 1, nx, tg))  (kk : G p l e R s m args below meth c D B od nL tab F cells slots A z nx lv (.double (FP.l2d x) :: st)) : G p l e R s m args below meth c D B od nL tab F cells slots A z i lv (.long x :: st) := by
  intro q hq H locs ls hR hS hl
  cases Option.some.inj (hi.symm.trans hq)
  obtain ⟨q2, hq2, e2⟩ := X.2.2.2.1.fall hi rfl
  have K := kk q2 hq2 H locs ls hR hS hl
  rw [e2] at K
  exact lv_l2d X.1.1 X.1.2.1 (X.2.2.2.1.dec hi) K
theorem g_dmul (X : Cx p s m args meth c D cy B od cc nL tab own ret) {x y : UInt64} (hi : tab[i]? = some (pc, .dmul, 1, nx, tg)) (hne : vf_n64 (FP.dmul x y)) (kk : G p l e R s m args below meth c D B od nL tab F cells slots A z nx lv (.double (FP.dmul x y) :: st)) : G p l e R s m args below meth c D B od nL tab F cells slots A z i lv (.double y :: .double x :: st) := by
  intro q hq H locs ls hR hS hl
  cases Option.some.inj (hi.symm.trans hq)
  obtain ⟨q2, hq2, e2⟩ := X.2.2.2.1.fall hi rfl
  have K := kk q2 hq2 H locs ls hR hS hl
  rw [e2] at K
  exact lv_dmul X.1.1 X.1.2.1 (X.2.2.2.1.dec hi) hne K
theorem g_ddiv (X : Cx p s m args meth c D cy B od cc nL tab own ret) {x y : UInt64} (hi : tab[i]? = some (pc, .ddiv, 1, nx, tg)) (hne : vf_n64 (FP.ddiv x y)) (kk : G p l e R s m args below meth c D B od nL tab F cells slots A z nx lv (.double (FP.ddiv x y) :: st)) : G p l e R s m args below meth c D B od nL tab F cells slots A z i lv (.double y :: .double x :: st) := by
  intro q hq H locs ls hR hS hl
  cases Option.some.inj (hi.symm.trans hq)
  obtain ⟨q2, hq2, e2⟩ := X.2.2.2.1.fall hi rfl
  have K := kk q2 hq2 H locs ls hR hS hl
  rw [e2] at K
  exact lv_ddiv X.1.1 X.1.2.1 (X.2.2.2.1.dec hi) hne K
theorem g_dcmp (X : Cx p s m args meth c D cy B od cc nL tab own ret) {op : CmpOp} {x y : UInt64} (hi : tab[i]? = some (pc, .dcmp op, 1, nx, tg))  (kk : G p l e R s m args below meth c D B od nL tab F cells slots A z nx lv (.int (Op.cmpValue (FP.dcmp x y) op) :: st)) : G p l e R s m args below meth c D B od nL tab F cells slots A z i lv (.double y :: .double x :: st) := by
  intro q hq H locs ls hR hS hl
  cases Option.some.inj (hi.symm.trans hq)
  obtain ⟨q2, hq2, e2⟩ := X.2.2.2.1.fall hi rfl
  have K := kk q2 hq2 H locs ls hR hS hl
  rw [e2] at K
  exact lv_dcmp X.1.1 X.1.2.1 (X.2.2.2.1.dec hi) K
theorem g_lcmp (X : Cx p s m args meth c D cy B od cc nL tab own ret) {x y : Int64} (hi : tab[i]? = some (pc, .lcmp, 1, nx, tg))  (kk : G p l e R s m args below meth c D B od nL tab F cells slots A z nx lv (.int (lg_cmp x y) :: st)) : G p l e R s m args below meth c D B od nL tab F cells slots A z i lv (.long y :: .long x :: st) := by
  intro q hq H locs ls hR hS hl
  cases Option.some.inj (hi.symm.trans hq)
  obtain ⟨q2, hq2, e2⟩ := X.2.2.2.1.fall hi rfl
  have K := kk q2 hq2 H locs ls hR hS hl
  rw [e2] at K
  exact W.lcmp X.1.1 X.1.2.1 (X.2.2.2.1.dec hi) K
theorem g_dup (X : Cx p s m args meth c D cy B od cc nL tab own ret) {va : Value} (hi : tab[i]? = some (pc, .dup, 1, nx, tg)) (hva : va.category = 1) (kk : G p l e R s m args below meth c D B od nL tab F cells slots A z nx lv (va :: va :: st)) : G p l e R s m args below meth c D B od nL tab F cells slots A z i lv (va :: st) := by
  intro q hq H locs ls hR hS hl
  cases Option.some.inj (hi.symm.trans hq)
  obtain ⟨q2, hq2, e2⟩ := X.2.2.2.1.fall hi rfl
  have K := kk q2 hq2 H locs ls hR hS hl
  rw [e2] at K
  exact lv_dup X.1.1 X.1.2.1 (X.2.2.2.1.dec hi) ((trV_cat B od va).trans hva) K
theorem g_dup2 (X : Cx p s m args meth c D cy B od cc nL tab own ret) {va vb : Value} (hi : tab[i]? = some (pc, .dup2, 1, nx, tg)) (hva : va.category = 1) (hvb : vb.category = 1) (kk : G p l e R s m args below meth c D B od nL tab F cells slots A z nx lv (va :: vb :: va :: vb :: st)) : G p l e R s m args below meth c D B od nL tab F cells slots A z i lv (va :: vb :: st) := by
  intro q hq H locs ls hR hS hl
  cases Option.some.inj (hi.symm.trans hq)
  obtain ⟨q2, hq2, e2⟩ := X.2.2.2.1.fall hi rfl
  have K := kk q2 hq2 H locs ls hR hS hl
  rw [e2] at K
  exact lv_dup2_11 X.1.1 X.1.2.1 (X.2.2.2.1.dec hi) ((trV_cat B od va).trans hva) ((trV_cat B od vb).trans hvb) K
theorem g_pop (X : Cx p s m args meth c D cy B od cc nL tab own ret) {va : Value} (hi : tab[i]? = some (pc, .pop, 1, nx, tg)) (hva : va.category = 1) (kk : G p l e R s m args below meth c D B od nL tab F cells slots A z nx lv st) : G p l e R s m args below meth c D B od nL tab F cells slots A z i lv (va :: st) := by
  intro q hq H locs ls hR hS hl
  cases Option.some.inj (hi.symm.trans hq)
  obtain ⟨q2, hq2, e2⟩ := X.2.2.2.1.fall hi rfl
  have K := kk q2 hq2 H locs ls hR hS hl
  rw [e2] at K
  exact lv_pop X.1.1 X.1.2.1 (X.2.2.2.1.dec hi) ((trV_cat B od va).trans hva) K
theorem g_goto (X : Cx p s m args meth c D cy B od cc nL tab own ret) {d : Int} (hi : tab[i]? = some (pc, .goto d, 3, nx, tg)) (kk : G p l e R s m args below meth c D B od nL tab F cells slots A z tg lv st) : G p l e R s m args below meth c D B od nL tab F cells slots A z i lv st := by
  intro q hq H locs ls hR hS hl
  cases Option.some.inj (hi.symm.trans hq)
  obtain ⟨q2, hq2, e2⟩ := X.2.2.2.1.br hi rfl
  exact lv_goto X.1.1 X.1.2.1 (X.2.2.2.1.dec hi) e2 (kk q2 hq2 H locs ls hR hS hl)
theorem g_if_eq (X : Cx p s m args meth c D cy B od cc nL tab own ret) {x : Int32} {d : Int} (hi : tab[i]? = some (pc, .ifCond .eq d, 3, nx, tg)) (kt : x = 0 → G p l e R s m args below meth c D B od nL tab F cells slots A z tg lv st) (kf : ¬ x = 0 → G p l e R s m args below meth c D B od nL tab F cells slots A z nx lv st) : G p l e R s m args below meth c D B od nL tab F cells slots A z i lv (.int x :: st) := by
  intro q hq H locs ls hR hS hl
  cases Option.some.inj (hi.symm.trans hq)
  obtain ⟨q2, hq2, e2⟩ := X.2.2.2.1.fall hi rfl
  obtain ⟨q3, hq3, e3⟩ := X.2.2.2.1.br hi rfl
  refine lv_if_eq X.1.1 X.1.2.1 (X.2.2.2.1.dec hi) e3 (fun h => kt h q3 hq3 H locs ls hR hS hl) (fun h => ?_)
  have K := kf h q2 hq2 H locs ls hR hS hl
  rw [e2] at K
  exact K
theorem g_if_ne (X : Cx p s m args meth c D cy B od cc nL tab own ret) {x : Int32} {d : Int} (hi : tab[i]? = some (pc, .ifCond .ne d, 3, nx, tg)) (kt : ¬ x = 0 → G p l e R s m args below meth c D B od nL tab F cells slots A z tg lv st) (kf : x = 0 → G p l e R s m args below meth c D B od nL tab F cells slots A z nx lv st) : G p l e R s m args below meth c D B od nL tab F cells slots A z i lv (.int x :: st) := by
  intro q hq H locs ls hR hS hl
  cases Option.some.inj (hi.symm.trans hq)
  obtain ⟨q2, hq2, e2⟩ := X.2.2.2.1.fall hi rfl
  obtain ⟨q3, hq3, e3⟩ := X.2.2.2.1.br hi rfl
  refine lv_if_ne X.1.1 X.1.2.1 (X.2.2.2.1.dec hi) e3 (fun h => kt h q3 hq3 H locs ls hR hS hl) (fun h => ?_)
  have K := kf h q2 hq2 H locs ls hR hS hl
  rw [e2] at K
  exact K
theorem g_if_lt (X : Cx p s m args meth c D cy B od cc nL tab own ret) {x : Int32} {d : Int} (hi : tab[i]? = some (pc, .ifCond .lt d, 3, nx, tg)) (kt : x < 0 → G p l e R s m args below meth c D B od nL tab F cells slots A z tg lv st) (kf : ¬ x < 0 → G p l e R s m args below meth c D B od nL tab F cells slots A z nx lv st) : G p l e R s m args below meth c D B od nL tab F cells slots A z i lv (.int x :: st) := by
  intro q hq H locs ls hR hS hl
  cases Option.some.inj (hi.symm.trans hq)
  obtain ⟨q2, hq2, e2⟩ := X.2.2.2.1.fall hi rfl
  obtain ⟨q3, hq3, e3⟩ := X.2.2.2.1.br hi rfl
  refine lv_if_lt X.1.1 X.1.2.1 (X.2.2.2.1.dec hi) e3 (fun h => kt h q3 hq3 H locs ls hR hS hl) (fun h => ?_)
  have K := kf h q2 hq2 H locs ls hR hS hl
  rw [e2] at K
  exact K
theorem g_if_ge (X : Cx p s m args meth c D cy B od cc nL tab own ret) {x : Int32} {d : Int} (hi : tab[i]? = some (pc, .ifCond .ge d, 3, nx, tg)) (kt : 0 ≤ x → G p l e R s m args below meth c D B od nL tab F cells slots A z tg lv st) (kf : ¬ 0 ≤ x → G p l e R s m args below meth c D B od nL tab F cells slots A z nx lv st) : G p l e R s m args below meth c D B od nL tab F cells slots A z i lv (.int x :: st) := by
  intro q hq H locs ls hR hS hl
  cases Option.some.inj (hi.symm.trans hq)
  obtain ⟨q2, hq2, e2⟩ := X.2.2.2.1.fall hi rfl
  obtain ⟨q3, hq3, e3⟩ := X.2.2.2.1.br hi rfl
  refine lv_if_ge X.1.1 X.1.2.1 (X.2.2.2.1.dec hi) e3 (fun h => kt h q3 hq3 H locs ls hR hS hl) (fun h => ?_)
  have K := kf h q2 hq2 H locs ls hR hS hl
  rw [e2] at K
  exact K
theorem g_if_gt (X : Cx p s m args meth c D cy B od cc nL tab own ret) {x : Int32} {d : Int} (hi : tab[i]? = some (pc, .ifCond .gt d, 3, nx, tg)) (kt : 0 < x → G p l e R s m args below meth c D B od nL tab F cells slots A z tg lv st) (kf : ¬ 0 < x → G p l e R s m args below meth c D B od nL tab F cells slots A z nx lv st) : G p l e R s m args below meth c D B od nL tab F cells slots A z i lv (.int x :: st) := by
  intro q hq H locs ls hR hS hl
  cases Option.some.inj (hi.symm.trans hq)
  obtain ⟨q2, hq2, e2⟩ := X.2.2.2.1.fall hi rfl
  obtain ⟨q3, hq3, e3⟩ := X.2.2.2.1.br hi rfl
  refine lv_if_gt X.1.1 X.1.2.1 (X.2.2.2.1.dec hi) e3 (fun h => kt h q3 hq3 H locs ls hR hS hl) (fun h => ?_)
  have K := kf h q2 hq2 H locs ls hR hS hl
  rw [e2] at K
  exact K
theorem g_if_le (X : Cx p s m args meth c D cy B od cc nL tab own ret) {x : Int32} {d : Int} (hi : tab[i]? = some (pc, .ifCond .le d, 3, nx, tg)) (kt : x ≤ 0 → G p l e R s m args below meth c D B od nL tab F cells slots A z tg lv st) (kf : ¬ x ≤ 0 → G p l e R s m args below meth c D B od nL tab F cells slots A z nx lv st) : G p l e R s m args below meth c D B od nL tab F cells slots A z i lv (.int x :: st) := by
  intro q hq H locs ls hR hS hl
  cases Option.some.inj (hi.symm.trans hq)
  obtain ⟨q2, hq2, e2⟩ := X.2.2.2.1.fall hi rfl
  obtain ⟨q3, hq3, e3⟩ := X.2.2.2.1.br hi rfl
  refine lv_if_le X.1.1 X.1.2.1 (X.2.2.2.1.dec hi) e3 (fun h => kt h q3 hq3 H locs ls hR hS hl) (fun h => ?_)
  have K := kf h q2 hq2 H locs ls hR hS hl
  rw [e2] at K
  exact K
theorem g_icmp_eq (X : Cx p s m args meth c D cy B od cc nL tab own ret) {x y : Int32} {d : Int} (hi : tab[i]? = some (pc, .if_icmp .eq d, 3, nx, tg)) (kt : x = y → G p l e R s m args below meth c D B od nL tab F cells slots A z tg lv st) (kf : ¬ x = y → G p l e R s m args below meth c D B od nL tab F cells slots A z nx lv st) : G p l e R s m args below meth c D B od nL tab F cells slots A z i lv (.int y :: .int x :: st) := by
  intro q hq H locs ls hR hS hl
  cases Option.some.inj (hi.symm.trans hq)
  obtain ⟨q2, hq2, e2⟩ := X.2.2.2.1.fall hi rfl
  obtain ⟨q3, hq3, e3⟩ := X.2.2.2.1.br hi rfl
  refine lv_icmp_eq X.1.1 X.1.2.1 (X.2.2.2.1.dec hi) e3 (fun h => kt h q3 hq3 H locs ls hR hS hl) (fun h => ?_)
  have K := kf h q2 hq2 H locs ls hR hS hl
  rw [e2] at K
  exact K
theorem g_icmp_ne (X : Cx p s m args meth c D cy B od cc nL tab own ret) {x y : Int32} {d : Int} (hi : tab[i]? = some (pc, .if_icmp .ne d, 3, nx, tg)) (kt : ¬ x = y → G p l e R s m args below meth c D B od nL tab F cells slots A z tg lv st) (kf : x = y → G p l e R s m args below meth c D B od nL tab F cells slots A z nx lv st) : G p l e R s m args below meth c D B od nL tab F cells slots A z i lv (.int y :: .int x :: st) := by
  intro q hq H locs ls hR hS hl
  cases Option.some.inj (hi.symm.trans hq)
  obtain ⟨q2, hq2, e2⟩ := X.2.2.2.1.fall hi rfl
  obtain ⟨q3, hq3, e3⟩ := X.2.2.2.1.br hi rfl
  refine lv_icmp_ne X.1.1 X.1.2.1 (X.2.2.2.1.dec hi) e3 (fun h => kt h q3 hq3 H locs ls hR hS hl) (fun h => ?_)
  have K := kf h q2 hq2 H locs ls hR hS hl
  rw [e2] at K
  exact K
theorem g_icmp_lt (X : Cx p s m args meth c D cy B od cc nL tab own ret) {x y : Int32} {d : Int} (hi : tab[i]? = some (pc, .if_icmp .lt d, 3, nx, tg)) (kt : x < y → G p l e R s m args below meth c D B od nL tab F cells slots A z tg lv st) (kf : ¬ x < y → G p l e R s m args below meth c D B od nL tab F cells slots A z nx lv st) : G p l e R s m args below meth c D B od nL tab F cells slots A z i lv (.int y :: .int x :: st) := by
  intro q hq H locs ls hR hS hl
  cases Option.some.inj (hi.symm.trans hq)
  obtain ⟨q2, hq2, e2⟩ := X.2.2.2.1.fall hi rfl
  obtain ⟨q3, hq3, e3⟩ := X.2.2.2.1.br hi rfl
  refine lv_icmp_lt X.1.1 X.1.2.1 (X.2.2.2.1.dec hi) e3 (fun h => kt h q3 hq3 H locs ls hR hS hl) (fun h => ?_)
  have K := kf h q2 hq2 H locs ls hR hS hl
  rw [e2] at K
  exact K
theorem g_icmp_ge (X : Cx p s m args meth c D cy B od cc nL tab own ret) {x y : Int32} {d : Int} (hi : tab[i]? = some (pc, .if_icmp .ge d, 3, nx, tg)) (kt : y ≤ x → G p l e R s m args below meth c D B od nL tab F cells slots A z tg lv st) (kf : ¬ y ≤ x → G p l e R s m args below meth c D B od nL tab F cells slots A z nx lv st) : G p l e R s m args below meth c D B od nL tab F cells slots A z i lv (.int y :: .int x :: st) := by
  intro q hq H locs ls hR hS hl
  cases Option.some.inj (hi.symm.trans hq)
  obtain ⟨q2, hq2, e2⟩ := X.2.2.2.1.fall hi rfl
  obtain ⟨q3, hq3, e3⟩ := X.2.2.2.1.br hi rfl
  refine lv_icmp_ge X.1.1 X.1.2.1 (X.2.2.2.1.dec hi) e3 (fun h => kt h q3 hq3 H locs ls hR hS hl) (fun h => ?_)
  have K := kf h q2 hq2 H locs ls hR hS hl
  rw [e2] at K
  exact K
theorem g_icmp_gt (X : Cx p s m args meth c D cy B od cc nL tab own ret) {x y : Int32} {d : Int} (hi : tab[i]? = some (pc, .if_icmp .gt d, 3, nx, tg)) (kt : y < x → G p l e R s m args below meth c D B od nL tab F cells slots A z tg lv st) (kf : ¬ y < x → G p l e R s m args below meth c D B od nL tab F cells slots A z nx lv st) : G p l e R s m args below meth c D B od nL tab F cells slots A z i lv (.int y :: .int x :: st) := by
  intro q hq H locs ls hR hS hl
  cases Option.some.inj (hi.symm.trans hq)
  obtain ⟨q2, hq2, e2⟩ := X.2.2.2.1.fall hi rfl
  obtain ⟨q3, hq3, e3⟩ := X.2.2.2.1.br hi rfl
  refine lv_icmp_gt X.1.1 X.1.2.1 (X.2.2.2.1.dec hi) e3 (fun h => kt h q3 hq3 H locs ls hR hS hl) (fun h => ?_)
  have K := kf h q2 hq2 H locs ls hR hS hl
  rw [e2] at K
  exact K
theorem g_icmp_le (X : Cx p s m args meth c D cy B od cc nL tab own ret) {x y : Int32} {d : Int} (hi : tab[i]? = some (pc, .if_icmp .le d, 3, nx, tg)) (kt : x ≤ y → G p l e R s m args below meth c D B od nL tab F cells slots A z tg lv st) (kf : ¬ x ≤ y → G p l e R s m args below meth c D B od nL tab F cells slots A z nx lv st) : G p l e R s m args below meth c D B od nL tab F cells slots A z i lv (.int y :: .int x :: st) := by
  intro q hq H locs ls hR hS hl
  cases Option.some.inj (hi.symm.trans hq)
  obtain ⟨q2, hq2, e2⟩ := X.2.2.2.1.fall hi rfl
  obtain ⟨q3, hq3, e3⟩ := X.2.2.2.1.br hi rfl
  refine lv_icmp_le X.1.1 X.1.2.1 (X.2.2.2.1.dec hi) e3 (fun h => kt h q3 hq3 H locs ls hR hS hl) (fun h => ?_)
  have K := kf h q2 hq2 H locs ls hR hS hl
  rw [e2] at K
  exact K
theorem g_ifnull (X : Cx p s m args meth c D cy B od cc nL tab own ret) {d : Int} {x : Nat} (hi : tab[i]? = some (pc, .ifnull d, 3, nx, tg)) (kk : G p l e R s m args below meth c D B od nL tab F cells slots A z nx lv st) : G p l e R s m args below meth c D B od nL tab F cells slots A z i lv (.ref x :: st) := by
  intro q hq H locs ls hR hS hl
  cases Option.some.inj (hi.symm.trans hq)
  obtain ⟨q2, hq2, e2⟩ := X.2.2.2.1.fall hi rfl
  have K := kk q2 hq2 H locs ls hR hS hl
  rw [e2] at K
  exact lv_ifnull X.1.1 X.1.2.1 (X.2.2.2.1.dec hi) K
end CORE
