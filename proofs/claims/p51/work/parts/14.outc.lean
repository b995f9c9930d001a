/-! 14: outcomes: an answer or the name of what is thrown; checks; switches -/
/-- the outcome of a call: what is thrown, or an answer -/
abbrev OC : Type := String ⊕ Value
def CO (l : Launch) (D : va_G) (cy : Nat → ClassId) (B : Nat) (od : Nat → Option Nat) (y : MethodName) (bytes : ByteArray) (maxL : Nat) (rt : Option FieldType) (rm : Room) (av : List Value) (A : AH) (oc : OC) (A2 : AH) : Prop := ∀ z, CX l D cy B od y bytes maxL rt rm av A z (fun v A' z' => ∃ r, oc = .inr r ∧ v = some r ∧ A' = A2 ∧ z' = z) (fun E A' => oc = .inl E ∧ A' = A)
theorem tsw_out {x : Int32} (n : Nat) (h : ∀ k, k ≤ n → ¬ x = nI k) (hn : n < 2 ^ 31) : x.toInt < 0 ∨ (n : Int) < x.toInt := by
  by_cases h0 : x.toInt < 0
  · exact Or.inl h0
  · refine Or.inr ?_
    obtain ⟨j, hj, rfl⟩ := nI_of (x := x) (fun q => h0 (by have := Int32.lt_iff_toInt_lt.mp q; simpa using this))
    rw [nI_toInt hj]
    by_cases hjn : j ≤ n
    · exact absurd rfl (h j hjn)
    · omega
section CORE14
variable {p : Program} {l : Launch} {e : Env} {R : Room} {s : State} {m : MethodId} {args : Array Value} {below : List Frame} {meth : Method} {c : Code}
variable {D : va_G} {cy : Nat → ClassId} {B : Nat} {od : Nat → Option Nat} {cc : ByteArray} {nL : Nat} {tab : List PT} {own : String} {ret : Option FieldType}
variable {F : State → Prop} {cells slots : Nat} {A : AH} {z i pc len nx tg : Nat} {lv : List (Option Value)} {st : List Value}
theorem g_tsw (X : Cx p s m args meth c D cy B od cc nL tab own ret) {dflt lo hi off : Int} {offs : Array Int} {x : Int32} {j : Nat} {q2 : PT} (h9 : tab[i]? = some (pc, .tableswitch dflt lo hi offs, len, nx, tg)) (h1 : ¬ x.toInt < lo) (h2 : ¬ hi < x.toInt) (ho : offs[(x.toInt - lo).toNat]? = some off) (hj : tab[j]? = some q2) (ht : (pc : Int) + off = (q2.1 : Int)) (kk : G p l e R s m args below meth c D B od nL tab F cells slots A z j lv st) : G p l e R s m args below meth c D B od nL tab F cells slots A z i lv (.int x :: st) := by
  intro q hq H locs ls hR hS hl
  cases Option.some.inj (h9.symm.trans hq)
  exact lv_tableIn X.1.1 X.1.2.1 (X.2.2.2.1.dec h9) h1 h2 ho ht (kk q2 hj H locs ls hR hS hl)
theorem g_tswO (X : Cx p s m args meth c D cy B od cc nL tab own ret) {dflt lo hi : Int} {offs : Array Int} {x : Int32} {j : Nat} {q2 : PT} (h9 : tab[i]? = some (pc, .tableswitch dflt lo hi offs, len, nx, tg)) (h1 : x.toInt < lo ∨ hi < x.toInt) (hj : tab[j]? = some q2) (ht : (pc : Int) + dflt = (q2.1 : Int)) (kk : G p l e R s m args below meth c D B od nL tab F cells slots A z j lv st) : G p l e R s m args below meth c D B od nL tab F cells slots A z i lv (.int x :: st) := by
  intro q hq H locs ls hR hS hl
  cases Option.some.inj (h9.symm.trans hq)
  exact lv_tableOut X.1.1 X.1.2.1 (X.2.2.2.1.dec h9) h1 ht (kk q2 hj H locs ls hR hS hl)
section REQ
variable {y : MethodName} {bytes : ByteArray} {maxL n ix : Nat} {rt : Option FieldType} {rm : Room} {As rest : List Value} {E : String} {q : Prop} {mc ms : Nat} {Q : QT} {Qx : QX}
theorem g_req (X : Cx p s m args meth c D cy B od cc nL tab own ret) (hnt : ∀ x ∈ c.exceptionTable.toList, False) (hi : tab[i]? = some (pc, .invokestatic ix, 3, nx, tg)) (hL : LkC y bytes maxL rt n) (hM : LkM own ix y) (hSt : Cond.static y ∈ lw_good) (hC : CQ l D cy B od y bytes maxL rt rm As A E q) (hst : st = As.reverse ++ rest) (hn : As.length = n) (hw : (rest.map fun v => v.category).sum ≤ 8) (hRm : rm.frames + 1 ≤ R.frames ∧ 8 + (maxL + 11) + rm.locals ≤ R.locals) (hf : cells + rm.cells ≤ R.cells ∧ slots + rm.slots ≤ R.slots) (hc : cells + rm.cells ≤ mc) (hs : slots + rm.slots ≤ ms) (hx : ¬ q → Qx E A)
    (kk : q → G p l e R s m args below meth c D B od nL tab (FinQ true D B od Q Qx args s below mc ms) (cells + rm.cells) (slots + rm.slots) A z nx lv rest) : G p l e R s m args below meth c D B od nL tab (FinQ true D B od Q Qx args s below mc ms) cells slots A z i lv st := by
  refine gx_callS X hnt hi hL hM hSt (hC z) hst hn hw hRm hf hc hs (fun E' A' h => ?_) (fun v A' z' h => ?_)
  · obtain ⟨rfl, rfl, h3⟩ := h
    exact hx h3
  · obtain ⟨rfl, rfl, rfl, h4⟩ := h
    exact kk h4
end REQ
end CORE14
