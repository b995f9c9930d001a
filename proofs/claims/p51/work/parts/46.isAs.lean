/-! 46: balances of the Book; whether it is as the ledger -/
theorem CX.ct {l : Launch} {D : va_G} {cy : Nat → ClassId} {B : Nat} {od : Nat → Option Nat} {A : AH} {y : MethodName} {bytes : ByteArray} {maxL : Nat} {rt : Option FieldType} {rm : Room} {av : List Value} {Q : QT} {Qx : QX} {z : Nat} (h : CX l D cy B od y bytes maxL rt rm av A z Q Qx) (hx : ∀ E A', ¬ Qx E A') : CT l D cy B od y bytes maxL rt rm av A z Q := by
  unfold CT Met
  refine MetFree.mono h (fun _ _ h => h) (fun _ _ _ _ _ h => h) (fun a s o t _ h => ?_)
  rcases h with ⟨⟨⟨v, A', z', h1, h2, h3⟩, h4⟩, h5⟩ | ⟨q, h1, E, ce, L, ⟨⟨A', h2, h3⟩, h4⟩, h5⟩
  · exact ⟨⟨⟨v, A', z', h1, h2, h3⟩, h4⟩, h5⟩
  · exact absurd h2 (hx _ _)
theorem CO.cr {l : Launch} {D : va_G} {cy : Nat → ClassId} {B : Nat} {od : Nat → Option Nat} {A : AH} {y : MethodName} {bytes : ByteArray} {maxL : Nat} {rt : Option FieldType} {rm : Room} {av : List Value} {oc : OC} {r : Value} (h : CO l D cy B od y bytes maxL rt rm av A oc A) (ho : oc = .inr r) : CR l D cy B od y bytes maxL rt rm av A r := fun z => ((h z).ct (fun E A' q => by rw [ho] at q; exact absurd q.1 (by simp))).mono (fun v A' z' q => by
  obtain ⟨r2, h1, h2, h3, h4⟩ := q
  rw [ho] at h1
  cases h1
  exact ⟨h2, h3, h4⟩)
theorem CP.cm {l : Launch} {D : va_G} {cy : Nat → ClassId} {B : Nat} {od : Nat → Option Nat} {A : AH} {y : MethodName} {bytes : ByteArray} {maxL : Nat} {rt : Option FieldType} {rm : Room} {av : List Value} {oc : OC} {r : Value} {P Px : AH → Prop} (h : CP l D cy B od y bytes maxL rt rm av A oc P Px) (ho : oc = .inr r) : CM l D cy B od y bytes maxL rt rm av A (fun v A' => v = some r ∧ P A') := fun z => ((h z).ct (fun E A' q => by rw [ho] at q; exact absurd q.1 (by simp))).mono (fun v A' z' q => by
  obtain ⟨r2, h1, h2, h3, h4⟩ := q
  rw [ho] at h1
  cases h1
  exact ⟨h3, h2, h4⟩)
section CORE46
variable {p : Program} {l : Launch} {e : Env} {R : Room} {s : State} {m : MethodId} {args : Array Value} {below : List Frame} {meth : Method} {c : Code}
variable {D : va_G} {cy : Nat → ClassId} {B : Nat} {od : Nat → Option Nat} {cc : ByteArray} {nL : Nat} {tab : List PT} {own : String} {ret : Option FieldType}
variable {F : State → Prop} {cells slots : Nat} {A : AH} {z i pc len nx tg : Nat} {lv : List (Option Value)} {st : List Value}
variable {y : MethodName} {bytes : ByteArray} {maxL n ix : Nat} {rt : Option FieldType} {rm : Room} {As rest : List Value} {b : Nat} {r : Value} {Q : Option Value → AH → Prop}
/-- a call that answers r and leaves all as it is, within a room -/
theorem g_kV (X : Cx p s m args meth c D cy B od cc nL tab own ret) (hi : tab[i]? = some (pc, .invokevirtual ix, 3, nx, tg)) (hL : LkC y bytes maxL rt n) (hM : LkM own ix y) (hSe : LkSel y) (hC : CR l D cy B od y bytes maxL rt rm (.ref b :: As) A r) {ci : Nat} {fs : List Value} {T : u_T} {N : Nat} (hA : A b = some (.inr (ci, fs))) (hc : vwCl[ci]? = some (y.cls, T, N)) (hst : st = As.reverse ++ .ref b :: rest) (hn : As.length = n) (hw : (rest.map fun v => v.category).sum ≤ 8) (hRm : rm.frames + 1 ≤ R.frames ∧ 8 + (maxL + 11) + rm.locals ≤ R.locals) (hf : cells + rm.cells ≤ R.cells ∧ slots + rm.slots ≤ R.slots)
    (kk : G p l e R s m args below meth c D B od nL tab F (cells + rm.cells) (slots + rm.slots) A z nx lv (r :: rest)) : G p l e R s m args below meth c D B od nL tab F cells slots A z i lv st := by
  refine g_callV X hi hL hM hSe (hC z) hA hc hst hn hw hRm hf (fun v A' z' h => ?_)
  obtain ⟨rfl, rfl, rfl⟩ := h
  exact kk
/-- a call that changes the heap, within a room -/
theorem g_hV (X : Cx p s m args meth c D cy B od cc nL tab own ret) (hi : tab[i]? = some (pc, .invokevirtual ix, 3, nx, tg)) (hL : LkC y bytes maxL rt n) (hM : LkM own ix y) (hSe : LkSel y) (hC : CM l D cy B od y bytes maxL rt rm (.ref b :: As) A Q) {ci : Nat} {fs : List Value} {T : u_T} {N : Nat} (hA : A b = some (.inr (ci, fs))) (hc : vwCl[ci]? = some (y.cls, T, N)) (hst : st = As.reverse ++ .ref b :: rest) (hn : As.length = n) (hw : (rest.map fun v => v.category).sum ≤ 8) (hRm : rm.frames + 1 ≤ R.frames ∧ 8 + (maxL + 11) + rm.locals ≤ R.locals) (hf : cells + rm.cells ≤ R.cells ∧ slots + rm.slots ≤ R.slots)
    (kk : ∀ (v : Option Value) (A' : AH), Q v A' → G p l e R s m args below meth c D B od nL tab F (cells + rm.cells) (slots + rm.slots) A' z nx lv (v.toList ++ rest)) : G p l e R s m args below meth c D B od nL tab F cells slots A z i lv st := by
  refine g_callV X hi hL hM hSe (hC z) hA hc hst hn hw hRm hf (fun v A' z' h => ?_)
  obtain ⟨rfl, h⟩ := h
  exact kk v A' h
end CORE46
theorem LedA.off {cy : Nat → ClassId} {A A' : AH} {W : LW} (h : LedA cy A W) (hf : ∀ k, k < 231 → A' k = A k) : LedA cy A' W := by
  have hu := h.u
  obtain ⟨⟨v1, v2, v3, v4, v5⟩, h2, ⟨Rm, h3, h4⟩, ⟨h5, h5b⟩, ⟨h6, h6b⟩, ⟨h7, h7b⟩, ⟨f, h8⟩, h9⟩ := h
  have hs : ∀ b c, c ≤ 231 → SameOn A A' b c := fun b c hc k _ hk => hf k (by omega)
  exact ⟨⟨(hf 0 (by decide)).trans v1, v2.same (hs _ _ (by omega)), v3, v4.same (hs _ _ (by omega)), v5⟩, h2, ⟨Rm, h3.same (hs _ _ (by omega)), h4⟩, ⟨(hf 1 (by decide)).trans h5, h5b⟩, ⟨h6.same (hs _ _ (by omega)), h6b⟩, ⟨h7.same (hs _ _ (by omega)), h7b⟩, ⟨f, (hf 230 (by decide)).trans h8⟩, h9.same (hs _ _ (by omega))⟩
/-- a book that lies above the ledger -/
def BkHi (g : Nat) (L : BL) (S : StV) (Z : SV) : Prop := 231 ≤ g ∧ ∀ t, t < 5 → 231 ≤ L.1 t ∧ 231 ≤ L.2.2.1 t ∧ ∀ j, j < bN S Z t → 231 ≤ L.2.2.2 t j
theorem ObjA.off {cy : Nat → ClassId} {A A' : AH} {b : Nat} (h : ObjA cy A b) (hb : A' b = A b) : ObjA cy A' b := by
  rcases h with ⟨n, f, h⟩ | ⟨gs, h⟩ | ⟨gs, h⟩ | h
  · exact Or.inl ⟨n, f, hb.trans h⟩
  · exact Or.inr (Or.inl ⟨gs, hb.trans h⟩)
  · exact Or.inr (Or.inr (Or.inl ⟨gs, hb.trans h⟩))
  · exact Or.inr (Or.inr (Or.inr h))
theorem RwA.off {cy : Nat → ClassId} {A A' : AH} {a n : Nat} {h : Nat → Int32} (h1 : RwA cy A a n h) (hb : A' a = A a) : RwA cy A' a n h := by
  obtain ⟨r, h2, h3⟩ := h1
  exact ⟨r, hb.trans h2, h3⟩
theorem IntA.off {A A' : AH} {r : Nat} {v : Int32} (h : IntA A r v) (hb : A' r = A r) : IntA A' r v := by
  rcases h with h | h
  · exact Or.inl (hb.trans h)
  · exact Or.inr h
theorem BkR.off {cy : Nat → ClassId} {A A' : AH} {g : Nat} {L : BL} {S : StV} {Z : SV} (h : BkR cy A g L S Z) (hh : BkHi g L S Z) (hf : ∀ k, 231 ≤ k → A' k = A k) : BkR cy A' g L S Z := by
  obtain ⟨h1, h2, h3, h4, h5, h6, h7⟩ := h
  exact ⟨(hf _ hh.1).trans h1, fun t ht => (h2 t ht).fr (hf _ (hh.2 t ht).1) (fun _ => hf _ (hh.2 t ht).2.1) (fun j hj q => q.off (hf _ ((hh.2 t ht).2.2 j hj))), fun j hj => (h3 j hj).off (hf _ ((hh.2 0 (by decide)).2.2 j hj)), fun j hj => (h4 j hj).off (hf _ ((hh.2 1 (by decide)).2.2 j hj)), fun j hj => (h5 j hj).off (hf _ ((hh.2 2 (by decide)).2.2 j hj)), fun j hj => (h6 j hj).off (hf _ ((hh.2 3 (by decide)).2.2 j hj)), fun j hj => (h7 j hj).off (hf _ ((hh.2 4 (by decide)).2.2 j hj))⟩
theorem negl {p : Nat} (hp : p < 2 ^ 30) : (-(nI p)).toInt64 = -(lN p) := by
  rw [show -(nI p) = nI 0 - nI p by rw [nI_0]; grind, i2l_sub (by decide) hp]
  show lN 0 - lN p = _
  rw [show lN 0 = 0 from rfl]; grind
theorem dIn_N {x d : Nat} (hx : x < 2 ^ 31) (hd : d < 2 ^ 31) : dIn (nI x) d = decide (x ≤ d) := by
  unfold dIn
  rw [show decide (0 ≤ nI x) = true from decide_eq_true (nI_pos' hx), Bool.true_and]
  exact decide_eq_decide.mpr (nI_leI hx hd)
theorem r_ba (s a y x : Int64) : s + (a + -y + x) = s + a + (x - y) := by grind
theorem r_bq (s a y : Int64) : s + (a + -y) = s + a - y := by grind
theorem r_b0 (s a : Int64) : s + (a + 0) = s + a - 0 := by grind
set_option maxRecDepth 100000 in
set_option maxHeartbeats 400000 in
theorem cg_X8_balance (l : Launch) (D : va_G) (cy : Nat → ClassId) (B : Nat) (od : Nat → Option Nat) {A : AH} {g : Nat} {L : BL} {S : StV} {Z : SV} (hb : BkR cy A g L S Z) (hg : Rng Z S) {d9 : Nat} (hd : d9 ≤ 359) : CG l D cy B od yX8_balance cX8_balance 6 (some .long) rmX8_balance [.ref g, .int (nI d9)] A (fun v A' => v = some (.long (balC S d9))) := by
  intro z hF hz
  refine CT.of (by decide) tX8_balance okX8_balance (Nat.le_of_ble_eq_true rfl) (q0 := tX8_balance[0]) rfl rfl ?_
  intro p e s m args below meth c X hnm
  have hz9 : z + 2 ≤ 900000 := hz
  have hL : LsC cy A (L.1 2) (L.2.1 2) (L.2.2.1 2) S.1.1 (L.2.2.2 2) := hb.2.1 2 (by decide)
  have hn9 := hL.2.1
  have loop : ∀ (d i : Nat) (A1 : AH) (z1 : Nat) (lr : Int32) (o : Option Value), i + d = S.1.1 → Grw A z A1 z1 (1) → A1 z = some (itE i lr (L.2.1 2) (L.1 2)) → G p l e rmX8_balance s m args below meth c D B od 6 tX8_balance (FinQ false D B od (fun v A' z' => (fun v A' => v = some (.long (balC S d9))) v A' ∧ ∃ z1, z' = z1 + 1 ∧ Grw A z A' z1 rmX8_balance.cells) (fun _ _ => True) args s below rmX8_balance.cells rmX8_balance.slots) (1) (4) A1 (z1 + 1) 8 [some (.ref g), some (.int (nI d9)), some (.long (S.2.2.2.2.2.toInt64 + cE S.1 d9 (i))), none, some (.ref z), o] [] := by
    intro d
    induction d with
    | zero =>
      intro i A1e z1e lre oe  hid hGe hIe 
      have e : i = S.1.1 := by omega
      subst e
      refine g_aload X rfl rfl ?_
      refine g_hasNext X rfl lmX8_52 (hL.le hGe.1).1 hIe (by omega) hn9 (Nat.le_of_ble_eq_true rfl) ⟨by decide, by decide⟩ ⟨Nat.le_of_ble_eq_true rfl, Nat.le_of_ble_eq_true rfl⟩ ?_
      refine g_if_eqB X rfl (fun _ => ?_) (fun h => absurd (of_decide_eq_true h) (by omega))
      refine g_aload_n X rfl rfl ?_
      have hL3 : LsC cy A (L.1 3) (L.2.1 3) (L.2.2.1 3) S.2.2.1.1 (L.2.2.2 3) := hb.2.1 3 (by decide)
      refine g_get X rfl flX8_39 (ci := 8) rfl (hGe.1 _ _ hb.1) rfl ?_
      refine g_iter X rfl lmX8_48 (hL3.le hGe.1) hGe.2.2.2 (by have := hGe.2.2.1; omega) (Nat.le_of_ble_eq_true rfl) ⟨by decide, by decide⟩ ⟨Nat.le_of_ble_eq_true rfl, Nat.le_of_ble_eq_true rfl⟩ ?_
      have hGq : Grw A z (upA A1e z1e (itE 0 (-1) (L.2.1 3) (L.1 3))) (z1e + 1) 2 := (hGe.new hF).wide (by omega)
      have hze : z ≤ z1e := hGe.2.1
      have hL : LsC cy A (L.1 3) (L.2.1 3) (L.2.2.1 3) S.2.2.1.1 (L.2.2.2 3) := hb.2.1 3 (by decide)
      have hn9 := hL.2.1
      have loop2 : ∀ (d i : Nat) (A1 : AH) (z1 : Nat) (lr : Int32) (o : Option Value), i + d = S.2.2.1.1 → Grw A z A1 z1 (2) → A1 z1e = some (itE i lr (L.2.1 3) (L.1 3)) → G p l e rmX8_balance s m args below meth c D B od 6 tX8_balance (FinQ false D B od (fun v A' z' => (fun v A' => v = some (.long (balC S d9))) v A' ∧ ∃ z1, z' = z1 + 1 ∧ Grw A z A' z1 rmX8_balance.cells) (fun _ _ => True) args s below rmX8_balance.cells rmX8_balance.slots) (2) (8) A1 (z1 + 1) 46 [some (.ref g), some (.int (nI d9)), some (.long ((S.2.2.2.2.2.toInt64 + cE S.1 d9 S.1.1) + cA S.2.2.1 d9 (i))), none, some (.ref z1e), o] [] := by
        intro d
        induction d with
        | zero =>
          intro i A1f z1f lrf of  hid hGf hIf 
          have e : i = S.2.2.1.1 := by omega
          subst e
          refine g_aload X rfl rfl ?_
          refine g_hasNext X rfl lmX8_52 (hL.le hGf.1).1 hIf (by omega) hn9 (Nat.le_of_ble_eq_true rfl) ⟨by decide, by decide⟩ ⟨Nat.le_of_ble_eq_true rfl, Nat.le_of_ble_eq_true rfl⟩ ?_
          refine g_if_eqB X rfl (fun _ => ?_) (fun h => absurd (of_decide_eq_true h) (by omega))
          refine g_iconst X rfl (v := nI 0) (by decide) ?_
          first | refine g_istoreS X rfl (by decide) rfl ?_ | refine g_istore X rfl (by decide) ?_
          have hL4 : LsC cy A (L.1 4) (L.2.1 4) (L.2.2.1 4) S.2.2.2.2.1 (L.2.2.2 4) := hb.2.1 4 (by decide)
          have hL5 := hL4.le hGf.1
          have hn5 := hL4.2.1
          have hg5 := hGf.1 _ _ hb.1
          have loop5 : ∀ (d i : Nat) (o5 : Option Value), i + d = S.2.2.2.2.1 → G p l e rmX8_balance s m args below meth c D B od 6 tX8_balance (FinQ false D B od (fun v A' z' => (fun v A' => v = some (.long (balC S d9))) v A' ∧ ∃ z1, z' = z1 + 1 ∧ Grw A z A' z1 rmX8_balance.cells) (fun _ _ => True) args s below rmX8_balance.cells rmX8_balance.slots) 2 8 A1f (z1f + 1) 86 [some (.ref g), some (.int (nI d9)), some (.long ((S.2.2.2.2.2.toInt64 + cE S.1 d9 S.1.1 + cA S.2.2.1 d9 S.2.2.1.1) + cQ S.2.2.2.1 d9 i)), none, some (.int (nI i)), o5] [] := by
            intro d
            induction d with
            | zero =>
              intro i o5 hid
              have e : i = S.2.2.2.2.1 := by omega
              subst e
              refine g_iload X rfl rfl ?_
              refine g_aload_n X rfl rfl ?_
              refine g_get X rfl flX8_42 (ci := 8) rfl (hg5) rfl ?_
              refine g_rV X rfl lcJx4a65c_size_8abf5 lmX8_188 lsJx4a65c_size_8abf5 (cr_size l D cy B od hL5) (ci := 9) (hL5.1) rfl rfl rfl (Nat.le_of_ble_eq_true rfl) ⟨⟨by decide, by decide⟩, rfl, rfl⟩ ⟨Nat.le_of_ble_eq_true rfl, Nat.le_of_ble_eq_true rfl⟩ ?_
              refine g_ic_geN X rfl (by omega) (by omega) (fun _ => ?_) (fun h => absurd h (by omega))
              · skip
                refine g_lload_n X rfl rfl ?_
                exact g_lret X rfl rfl (Nat.le_of_ble_eq_true rfl) (Nat.le_of_ble_eq_true rfl) ⟨rfl, z1f, rfl, hGf⟩
            | succ d ih =>
              intro i o5 hid
              have hi : i < S.2.2.2.2.1 := by omega
              obtain ⟨pp, -, hpp, epp⟩ := hg.2.2.2 i hi
              have hr := (hb.2.2.2.2.2.2 i hi).le hGf.1
              refine g_iload X rfl rfl ?_
              refine g_aload_n X rfl rfl ?_
              refine g_get X rfl flX8_42 (ci := 8) rfl (hg5) rfl ?_
              refine g_rV X rfl lcJx4a65c_size_8abf5 lmX8_188 lsJx4a65c_size_8abf5 (cr_size l D cy B od hL5) (ci := 9) (hL5.1) rfl rfl rfl (Nat.le_of_ble_eq_true rfl) ⟨⟨by decide, by decide⟩, rfl, rfl⟩ ⟨Nat.le_of_ble_eq_true rfl, Nat.le_of_ble_eq_true rfl⟩ ?_
              refine g_ic_geN X rfl (by omega) (by omega) (fun h => absurd h (by omega)) (fun _ => ?_)
              · skip
                refine g_lload_n X rfl rfl ?_
                refine g_iload_n X rfl rfl ?_
                refine g_bipush X rfl (v := nI 90) (by decide) ?_
                refine g_iload X rfl rfl ?_
                refine g_imul X rfl ?_
                rw [pk_mul]
                refine g_bipush X rfl (v := nI 89) (by decide) ?_
                refine g_iadd X rfl ?_
                rw [nI_add]
                refine g_ic_ltN X rfl (by omega) (by omega) (fun h => ?_) (fun h => ?_)
                · have hq : (S.2.2.2.2.2.toInt64 + cE S.1 d9 S.1.1 + cA S.2.2.1 d9 S.2.2.1.1) + cQ S.2.2.2.1 d9 (i + 1) = (S.2.2.2.2.2.toInt64 + cE S.1 d9 S.1.1 + cA S.2.2.1 d9 S.2.2.1.1) + cQ S.2.2.2.1 d9 i - 0 := by
                    rw [cQ, show (nI i + nI 1) * nI 90 - nI 1 = nI (90 * i + 89) from by rw [nI_add, pk_mul, pk_sub (by omega)]; congr 1; omega, dIn_N (by omega) (by omega), if_neg (by simp; omega)]
                    exact r_b0 _ _
                  refine g_lconst X rfl (v := 0) (by decide) ?_
                  refine g_lsub X rfl ?_
                  rw [← hq]
                  first | refine g_lstore_nS X rfl (by decide) rfl ?_ | refine g_lstore_n X rfl (by decide) ?_
                  first | refine g_iinc1S X rfl rfl (by decide) rfl ?_ | refine g_iinc1 X rfl rfl (by decide) ?_
                  refine g_goto X rfl ?_
                  exact ih (i + 1) _ (by omega)
                · have hq : (S.2.2.2.2.2.toInt64 + cE S.1 d9 S.1.1 + cA S.2.2.1 d9 S.2.2.1.1) + cQ S.2.2.2.1 d9 (i + 1) = (S.2.2.2.2.2.toInt64 + cE S.1 d9 S.1.1 + cA S.2.2.1 d9 S.2.2.1.1) + cQ S.2.2.2.1 d9 i - (nI pp).toInt64 := by
                    rw [cQ, show (nI i + nI 1) * nI 90 - nI 1 = nI (90 * i + 89) from by rw [nI_add, pk_mul, pk_sub (by omega)]; congr 1; omega, dIn_N (by omega) (by omega), if_pos (by simp; omega), epp, negl (by omega), nI_l (by omega)]
                    exact r_bq _ _ _
                  refine g_aload_n X rfl rfl ?_
                  refine g_get X rfl flX8_42 (ci := 8) rfl (hg5) rfl ?_
                  refine g_iload X rfl rfl ?_
                  refine g_rV X rfl lcJx4a65c_get_915e3 lmX8_184 lsJx4a65c_get_915e3 (cr_get l D cy B od hL5 (j := i) hi) (ci := 9) (hL5.1) rfl rfl rfl (Nat.le_of_ble_eq_true rfl) ⟨⟨by decide, by decide⟩, rfl, rfl⟩ ⟨Nat.le_of_ble_eq_true rfl, Nat.le_of_ble_eq_true rfl⟩ ?_
                  refine g_castN X rfl clX8_71 hr ?_
                  refine g_unbox X rfl lmX8_73 hr (Nat.le_of_ble_eq_true rfl) ⟨by decide, by decide⟩ ⟨Nat.le_of_ble_eq_true rfl, Nat.le_of_ble_eq_true rfl⟩ ?_
                  rw [epp]
                  refine g_i2l X rfl ?_
                  refine g_goto X rfl ?_
                  refine g_lsub X rfl ?_
                  rw [← hq]
                  first | refine g_lstore_nS X rfl (by decide) rfl ?_ | refine g_lstore_n X rfl (by decide) ?_
                  first | refine g_iinc1S X rfl rfl (by decide) rfl ?_ | refine g_iinc1 X rfl rfl (by decide) ?_
                  refine g_goto X rfl ?_
                  exact ih (i + 1) _ (by omega)
          have K9 := loop5 S.2.2.2.2.1 0 of (Nat.zero_add _)
          rw [show (S.2.2.2.2.2.toInt64 + cE S.1 d9 S.1.1 + cA S.2.2.1 d9 S.2.2.1.1) + cQ S.2.2.2.1 d9 0 = (S.2.2.2.2.2.toInt64 + cE S.1 d9 S.1.1 + cA S.2.2.1 d9 S.2.2.1.1) from Int64.add_zero _] at K9
          exact K9
        | succ d ih =>
          intro i A1 z1 lr o  hid hG hI 
          have hi : i < S.2.2.1.1 := by omega
          refine g_aload X rfl rfl ?_
          refine g_hasNext X rfl lmX8_52 (hL.le hG.1).1 hI (by omega) hn9 (Nat.le_of_ble_eq_true rfl) ⟨by decide, by decide⟩ ⟨Nat.le_of_ble_eq_true rfl, Nat.le_of_ble_eq_true rfl⟩ ?_
          refine g_if_eqB X rfl (fun h => absurd hi (of_decide_eq_false h)) (fun _ => ?_)
          refine g_aload X rfl rfl ?_
          refine g_next X rfl lmX8_58 (hL.le hG.1) hI hi (Nat.le_of_ble_eq_true rfl) ⟨by decide, by decide⟩ ⟨Nat.le_of_ble_eq_true rfl, Nat.le_of_ble_eq_true rfl⟩ ?_
          have hG2 : Grw A z (upA A1 z1e (itE (i + 1) (nI i) (L.2.1 3) (L.1 3))) z1 (2) := hG.up hF hze (hG.2.2.2.lt hI)
          obtain ⟨r, hr0, hrv⟩ : ∃ r, A (L.2.2.2 3 i) = some (.inl (cy 0, 5, .inl r)) ∧ ∀ j, j < 5 → r j = S.2.2.1.2 (asC j) i := hb.2.2.2.2.2.1 i hi
          have hr := hG2.1 _ _ hr0
          refine g_castI X rfl clX8_62 hr ?_
          first | refine g_astoreS X rfl (by decide) rfl ?_ | refine g_astore X rfl (by decide) ?_
          obtain ⟨⟨pr, -, hpr, epr⟩, ⟨dy, -, hdy, edy⟩, -, -, hso⟩ := hg.2.2.1 i hi
          refine g_lload_n X rfl rfl ?_
          refine g_aload X rfl rfl ?_
          refine g_iconst X rfl (v := nI 3) (by decide) ?_
          refine g_ialdN X rfl hr (by decide) (by decide) ?_
          rw [show r 3 = S.2.2.1.2 4 i from hrv 3 (by decide)]
          refine g_iconst X rfl (v := (-1)) (by decide) ?_
          refine g_icmp_eq X rfl (fun h => ?_) (fun h => ?_)
          · have hc2 : cA2 S.2.2.1 d9 i = lN 0 := by unfold cA2; rw [if_neg (fun q => q.1 h)]; rfl
            refine g_iconst X rfl (v := nI 0) (by decide) ?_
            refine g_aload X rfl rfl ?_
            refine g_iconst X rfl (v := nI 1) (by decide) ?_
            refine g_ialdN X rfl hr (by decide) (by decide) ?_
            rw [show r 1 = S.2.2.1.2 1 i from hrv 1 (by decide), edy]
            refine g_iload_n X rfl rfl ?_
            refine g_ic_gtN X rfl (by omega) (by omega) (fun h3 => ?_) (fun h3 => ?_)
            · have hc1 : cA1 S.2.2.1 d9 i = -lN 0 := by unfold cA1; rw [edy, dIn_N (by omega) (by omega), if_neg (by simp; omega)]; rfl
              refine g_iconst X rfl (v := nI 0) (by decide) ?_
              refine g_isub X rfl ?_
              refine g_i2l X rfl ?_
              rw [i2l_sub (by omega) (by omega)]
              refine g_ladd X rfl ?_
              rw [show (S.2.2.2.2.2.toInt64 + cE S.1 d9 S.1.1) + cA S.2.2.1 d9 i + (lN 0 - lN 0) = (S.2.2.2.2.2.toInt64 + cE S.1 d9 S.1.1) + cA S.2.2.1 d9 (i + 1) from by rw [cA, hc1, hc2]; exact (r_ba _ _ _ _).symm]
              first | refine g_lstore_nS X rfl (by decide) rfl ?_ | refine g_lstore_n X rfl (by decide) ?_
              refine g_goto X rfl ?_
              exact ih (i + 1) _ z1 _ _ (by omega) hG2 upA_eq
            · have hc1 : cA1 S.2.2.1 d9 i = -lN pr := by unfold cA1; rw [edy, dIn_N (by omega) (by omega), if_pos (by simp; omega), epr, negl (by omega)]
              refine g_aload X rfl rfl ?_
              refine g_iconst X rfl (v := nI 0) (by decide) ?_
              refine g_ialdN X rfl hr (by decide) (by decide) ?_
              rw [show r 0 = S.2.2.1.2 0 i from hrv 0 (by decide), epr]
              refine g_goto X rfl ?_
              refine g_isub X rfl ?_
              refine g_i2l X rfl ?_
              rw [i2l_sub (by omega) (by omega)]
              refine g_ladd X rfl ?_
              rw [show (S.2.2.2.2.2.toInt64 + cE S.1 d9 S.1.1) + cA S.2.2.1 d9 i + (lN 0 - lN pr) = (S.2.2.2.2.2.toInt64 + cE S.1 d9 S.1.1) + cA S.2.2.1 d9 (i + 1) from by rw [cA, hc1, hc2]; exact (r_ba _ _ _ _).symm]
              first | refine g_lstore_nS X rfl (by decide) rfl ?_ | refine g_lstore_n X rfl (by decide) ?_
              refine g_goto X rfl ?_
              exact ih (i + 1) _ z1 _ _ (by omega) hG2 upA_eq
          · obtain ⟨⟨sd, -, hsd, esd⟩, ⟨sp, -, hsp, esp⟩⟩ := hso.resolve_left h
            refine g_aload X rfl rfl ?_
            refine g_iconst X rfl (v := nI 3) (by decide) ?_
            refine g_ialdN X rfl hr (by decide) (by decide) ?_
            rw [show r 3 = S.2.2.1.2 4 i from hrv 3 (by decide), esd]
            refine g_iload_n X rfl rfl ?_
            refine g_ic_gtN X rfl (by omega) (by omega) (fun h2 => ?_) (fun h2 => ?_)
            · have hc2 : cA2 S.2.2.1 d9 i = lN 0 := by unfold cA2; rw [if_neg (by rw [esd, dIn_N (by omega) (by omega)]; simp; omega)]; rfl
              refine g_iconst X rfl (v := nI 0) (by decide) ?_
              refine g_aload X rfl rfl ?_
              refine g_iconst X rfl (v := nI 1) (by decide) ?_
              refine g_ialdN X rfl hr (by decide) (by decide) ?_
              rw [show r 1 = S.2.2.1.2 1 i from hrv 1 (by decide), edy]
              refine g_iload_n X rfl rfl ?_
              refine g_ic_gtN X rfl (by omega) (by omega) (fun h3 => ?_) (fun h3 => ?_)
              · have hc1 : cA1 S.2.2.1 d9 i = -lN 0 := by unfold cA1; rw [edy, dIn_N (by omega) (by omega), if_neg (by simp; omega)]; rfl
                refine g_iconst X rfl (v := nI 0) (by decide) ?_
                refine g_isub X rfl ?_
                refine g_i2l X rfl ?_
                rw [i2l_sub (by omega) (by omega)]
                refine g_ladd X rfl ?_
                rw [show (S.2.2.2.2.2.toInt64 + cE S.1 d9 S.1.1) + cA S.2.2.1 d9 i + (lN 0 - lN 0) = (S.2.2.2.2.2.toInt64 + cE S.1 d9 S.1.1) + cA S.2.2.1 d9 (i + 1) from by rw [cA, hc1, hc2]; exact (r_ba _ _ _ _).symm]
                first | refine g_lstore_nS X rfl (by decide) rfl ?_ | refine g_lstore_n X rfl (by decide) ?_
                refine g_goto X rfl ?_
                exact ih (i + 1) _ z1 _ _ (by omega) hG2 upA_eq
              · have hc1 : cA1 S.2.2.1 d9 i = -lN pr := by unfold cA1; rw [edy, dIn_N (by omega) (by omega), if_pos (by simp; omega), epr, negl (by omega)]
                refine g_aload X rfl rfl ?_
                refine g_iconst X rfl (v := nI 0) (by decide) ?_
                refine g_ialdN X rfl hr (by decide) (by decide) ?_
                rw [show r 0 = S.2.2.1.2 0 i from hrv 0 (by decide), epr]
                refine g_goto X rfl ?_
                refine g_isub X rfl ?_
                refine g_i2l X rfl ?_
                rw [i2l_sub (by omega) (by omega)]
                refine g_ladd X rfl ?_
                rw [show (S.2.2.2.2.2.toInt64 + cE S.1 d9 S.1.1) + cA S.2.2.1 d9 i + (lN 0 - lN pr) = (S.2.2.2.2.2.toInt64 + cE S.1 d9 S.1.1) + cA S.2.2.1 d9 (i + 1) from by rw [cA, hc1, hc2]; exact (r_ba _ _ _ _).symm]
                first | refine g_lstore_nS X rfl (by decide) rfl ?_ | refine g_lstore_n X rfl (by decide) ?_
                refine g_goto X rfl ?_
                exact ih (i + 1) _ z1 _ _ (by omega) hG2 upA_eq
            · have hc2 : cA2 S.2.2.1 d9 i = lN sp := by unfold cA2; rw [if_pos (by rw [esd, dIn_N (by omega) (by omega)]; exact ⟨nI_nm1 (by omega), decide_eq_true (by omega)⟩), esp, nI_l (by omega)]
              refine g_aload X rfl rfl ?_
              refine g_iconst X rfl (v := nI 4) (by decide) ?_
              refine g_ialdN X rfl hr (by decide) (by decide) ?_
              rw [show r 4 = S.2.2.1.2 5 i from hrv 4 (by decide), esp]
              refine g_goto X rfl ?_
              refine g_aload X rfl rfl ?_
              refine g_iconst X rfl (v := nI 1) (by decide) ?_
              refine g_ialdN X rfl hr (by decide) (by decide) ?_
              rw [show r 1 = S.2.2.1.2 1 i from hrv 1 (by decide), edy]
              refine g_iload_n X rfl rfl ?_
              refine g_ic_gtN X rfl (by omega) (by omega) (fun h3 => ?_) (fun h3 => ?_)
              · have hc1 : cA1 S.2.2.1 d9 i = -lN 0 := by unfold cA1; rw [edy, dIn_N (by omega) (by omega), if_neg (by simp; omega)]; rfl
                refine g_iconst X rfl (v := nI 0) (by decide) ?_
                refine g_isub X rfl ?_
                refine g_i2l X rfl ?_
                rw [i2l_sub (by omega) (by omega)]
                refine g_ladd X rfl ?_
                rw [show (S.2.2.2.2.2.toInt64 + cE S.1 d9 S.1.1) + cA S.2.2.1 d9 i + (lN sp - lN 0) = (S.2.2.2.2.2.toInt64 + cE S.1 d9 S.1.1) + cA S.2.2.1 d9 (i + 1) from by rw [cA, hc1, hc2]; exact (r_ba _ _ _ _).symm]
                first | refine g_lstore_nS X rfl (by decide) rfl ?_ | refine g_lstore_n X rfl (by decide) ?_
                refine g_goto X rfl ?_
                exact ih (i + 1) _ z1 _ _ (by omega) hG2 upA_eq
              · have hc1 : cA1 S.2.2.1 d9 i = -lN pr := by unfold cA1; rw [edy, dIn_N (by omega) (by omega), if_pos (by simp; omega), epr, negl (by omega)]
                refine g_aload X rfl rfl ?_
                refine g_iconst X rfl (v := nI 0) (by decide) ?_
                refine g_ialdN X rfl hr (by decide) (by decide) ?_
                rw [show r 0 = S.2.2.1.2 0 i from hrv 0 (by decide), epr]
                refine g_goto X rfl ?_
                refine g_isub X rfl ?_
                refine g_i2l X rfl ?_
                rw [i2l_sub (by omega) (by omega)]
                refine g_ladd X rfl ?_
                rw [show (S.2.2.2.2.2.toInt64 + cE S.1 d9 S.1.1) + cA S.2.2.1 d9 i + (lN sp - lN pr) = (S.2.2.2.2.2.toInt64 + cE S.1 d9 S.1.1) + cA S.2.2.1 d9 (i + 1) from by rw [cA, hc1, hc2]; exact (r_ba _ _ _ _).symm]
                first | refine g_lstore_nS X rfl (by decide) rfl ?_ | refine g_lstore_n X rfl (by decide) ?_
                refine g_goto X rfl ?_
                exact ih (i + 1) _ z1 _ _ (by omega) hG2 upA_eq
      first | refine g_astoreS X rfl (by decide) rfl ?_ | refine g_astore X rfl (by decide) ?_
      have K9 := loop2 S.2.2.1.1 0 _ (z1e + 1) (-1) oe (Nat.zero_add _) hGq upA_eq
      rw [show (S.2.2.2.2.2.toInt64 + cE S.1 d9 S.1.1) + cA S.2.2.1 d9 0 = (S.2.2.2.2.2.toInt64 + cE S.1 d9 S.1.1) from Int64.add_zero _] at K9
      exact K9
    | succ d ih =>
      intro i A1 z1 lr o  hid hG hI 
      have hi : i < S.1.1 := by omega
      refine g_aload X rfl rfl ?_
      refine g_hasNext X rfl lmX8_52 (hL.le hG.1).1 hI (by omega) hn9 (Nat.le_of_ble_eq_true rfl) ⟨by decide, by decide⟩ ⟨Nat.le_of_ble_eq_true rfl, Nat.le_of_ble_eq_true rfl⟩ ?_
      refine g_if_eqB X rfl (fun h => absurd hi (of_decide_eq_false h)) (fun _ => ?_)
      refine g_aload X rfl rfl ?_
      refine g_next X rfl lmX8_58 (hL.le hG.1) hI hi (Nat.le_of_ble_eq_true rfl) ⟨by decide, by decide⟩ ⟨Nat.le_of_ble_eq_true rfl, Nat.le_of_ble_eq_true rfl⟩ ?_
      have hG2 : Grw A z (upA A1 z (itE (i + 1) (nI i) (L.2.1 2) (L.1 2))) z1 (1) := hG.up hF (Nat.le_refl _) (hG.2.2.2.lt hI)
      obtain ⟨r, hr0, hrv⟩ : ∃ r, A (L.2.2.2 2 i) = some (.inl (cy 0, 7, .inl r)) ∧ ∀ j, j < 7 → r j = S.1.2 j i := hb.2.2.2.2.1 i hi
      have hr := hG2.1 _ _ hr0
      refine g_castI X rfl clX8_62 hr ?_
      first | refine g_astoreS X rfl (by decide) rfl ?_ | refine g_astore X rfl (by decide) ?_
      refine g_aload_n X rfl rfl ?_
      refine g_aload X rfl rfl ?_
      refine g_rV X rfl lcX8_counts lmX8_167 lsX8_counts (cr_X8_counts l D cy B od (E := S.1) (j := i) hr (hrv 4 (by decide)) (hrv 5 (by decide))) (ci := 8) (hG2.1 _ _ hb.1) rfl rfl rfl (Nat.le_of_ble_eq_true rfl) ⟨⟨by decide, by decide⟩, rfl, rfl⟩ ⟨Nat.le_of_ble_eq_true rfl, Nat.le_of_ble_eq_true rfl⟩ ?_
      refine g_if_eqB X rfl (fun hc => ?_) (fun hc => ?_)
      · have hq : cE S.1 d9 (i + 1) = cE S.1 d9 i := by rw [cE, if_neg (fun q => by rw [hc] at q; exact absurd q.1 (by decide))]
        rw [← hq]
        refine g_goto X rfl ?_
        exact ih (i + 1) _ z1 _ _ (by omega) hG2 upA_eq
      · obtain ⟨pd, hpd, ep⟩ := paid_N hg hi hc
        refine g_aload X rfl rfl ?_
        refine g_iconst X rfl (v := nI 4) (by decide) ?_
        refine g_ialdN X rfl hr (by decide) (by decide) ?_
        rw [hrv 4 (by decide), ep]
        refine g_iload_n X rfl rfl ?_
        refine g_ic_gtN X rfl (by omega) (by omega) (fun h => ?_) (fun h => ?_)
        · have hq : cE S.1 d9 (i + 1) = cE S.1 d9 i := by rw [cE, if_neg (fun q => by rw [ep, dIn_N (by omega) (by omega)] at q; have := of_decide_eq_true q.2; omega)]
          rw [← hq]
          refine g_goto X rfl ?_
          exact ih (i + 1) _ z1 _ _ (by omega) hG2 upA_eq
        · have hq : cE S.1 d9 (i + 1) = cE S.1 d9 i + (if S.1.2 0 i = 0 then S.1.2 2 i else -S.1.2 2 i).toInt64 := by rw [cE, if_pos ⟨hc, by rw [ep, dIn_N (by omega) (by omega)]; exact decide_eq_true (by omega)⟩]
          refine g_lload_n X rfl rfl ?_
          refine g_aload X rfl rfl ?_
          refine g_iconst X rfl (v := nI 0) (by decide) ?_
          refine g_ialdN X rfl hr (by decide) (by decide) ?_
          rw [hrv 0 (by decide)]
          refine g_if_ne X rfl (fun h0 => ?_) (fun h0 => ?_)
          · rw [if_neg h0] at hq
            refine g_aload X rfl rfl ?_
            refine g_iconst X rfl (v := nI 2) (by decide) ?_
            refine g_ialdN X rfl hr (by decide) (by decide) ?_
            rw [hrv 2 (by decide)]
            refine g_ineg X rfl ?_
            refine g_i2l X rfl ?_
            refine g_ladd X rfl ?_
            rw [Int64.add_assoc, ← hq]
            first | refine g_lstore_nS X rfl (by decide) rfl ?_ | refine g_lstore_n X rfl (by decide) ?_
            refine g_goto X rfl ?_
            exact ih (i + 1) _ z1 _ _ (by omega) hG2 upA_eq
          · rw [if_pos h0] at hq
            refine g_aload X rfl rfl ?_
            refine g_iconst X rfl (v := nI 2) (by decide) ?_
            refine g_ialdN X rfl hr (by decide) (by decide) ?_
            rw [hrv 2 (by decide)]
            refine g_i2l X rfl ?_
            refine g_goto X rfl ?_
            refine g_ladd X rfl ?_
            rw [Int64.add_assoc, ← hq]
            first | refine g_lstore_nS X rfl (by decide) rfl ?_ | refine g_lstore_n X rfl (by decide) ?_
            refine g_goto X rfl ?_
            exact ih (i + 1) _ z1 _ _ (by omega) hG2 upA_eq
  refine g_aload_n X rfl rfl ?_
  refine g_get X rfl flX8_45 (ci := 8) rfl (hb.1) rfl ?_
  refine g_i2l X rfl ?_
  first | refine g_lstore_nS X rfl (by decide) rfl ?_ | refine g_lstore_n X rfl (by decide) ?_
  refine g_aload_n X rfl rfl ?_
  refine g_get X rfl flX8_36 (ci := 8) rfl (hb.1) rfl ?_
  refine g_iter X rfl lmX8_48 hL hF (by omega) (Nat.le_of_ble_eq_true rfl) ⟨by decide, by decide⟩ ⟨Nat.le_of_ble_eq_true rfl, Nat.le_of_ble_eq_true rfl⟩ ?_
  first | refine g_astoreS X rfl (by decide) rfl ?_ | refine g_astore X rfl (by decide) ?_
  have K9 := loop S.1.1 0 _ (z + 1) (-1) none (Nat.zero_add _) ((Grw.rf hF).new hF) upA_eq
  rw [show S.2.2.2.2.2.toInt64 + cE S.1 d9 0 = S.2.2.2.2.2.toInt64 from Int64.add_zero _] at K9
  exact K9
