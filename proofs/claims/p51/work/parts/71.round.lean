/-! 71: a round of the law: undo, save, restore -/
section PKR
variable {cy : Nat → ClassId} {A A' : AH} {Z : SV} {own own' : Nat → Nat} {hk ed n g z : Nat} {mc : Int32} {f : Nat → Nat} {S : StV} {H : Nat → StV} {E : Nat → StV → Prop} {W : LW}
/-- a live book, by the rows that it holds -/
def PkSrc (n : Nat) (f : Nat → Nat) (g : Nat) (S : StV) (H : Nat → StV) (E : Nat → StV → Prop) (r : Nat) (T : StV) : Prop := ∃ T0, StB T0 T ∧ ((r = g ∧ T0 = S) ∨ (∃ i, i < n ∧ r = f i ∧ T0 = H i) ∨ E r T0)
theorem PkSrc.e {r : Nat} {T : StV} (h : E r T) : PkSrc n f g S H E r T := ⟨T, StB.rf T, Or.inr (Or.inr h)⟩
theorem PkSrc.cur : PkSrc n f g S H E g S := ⟨S, StB.rf S, Or.inl ⟨rfl, rfl⟩⟩
theorem PkSrc.i {i : Nat} (h : i < n) : PkSrc n f g S H E (f i) (H i) := ⟨H i, StB.rf _, Or.inr (Or.inl ⟨i, h, rfl, rfl⟩)⟩
theorem PkSrc.stb {r : Nat} {T T2 : StV} (h : PkSrc n f g S H E r T) (e : StE T T2) : PkSrc n f g S H E r T2 := by
  obtain ⟨T0, ⟨e1, e2, e3, e4, e5, e6, e7, e8, e9⟩, h2⟩ := h
  obtain ⟨d1, d2, d3, d4, d5, d6, d7, d8, d9⟩ := e.b
  exact ⟨T0, ⟨d1.trans e1, fun q hq j hj => (d2 q hq j (by omega)).trans (e2 q hq j hj), d3.trans e3, fun q hq j hj => (d4 q hq j (by omega)).trans (e4 q hq j hj), d5.trans e5, fun q hq j hj => (d6 q hq j (by omega)).trans (e6 q hq j hj), d7.trans e7, d8.trans e8, fun j hj => (d9 j (by omega)).trans (e9 j hj)⟩, h2⟩
theorem Pk.src (h : Pk cy A Z own hk mc ed n f g S H E) {r : Nat} {T : StV} (hs : PkSrc n f g S H E r T) : LBk cy A Z own r T := by
  obtain ⟨T0, e, ⟨rfl, rfl⟩ | ⟨i, h1, rfl, rfl⟩ | h1⟩ := hs
  · exact h.2.stb e
  · exact (h.1.2.2.2.1 i h1).1.stb e
  · exact (h.1.2.2.2.2.2 _ _ h1).1.stb e
/-- the list changes, and who is current, listed, or lives besides -/
theorem Pk.re {mc' : Int32} {ed' n' g' : Nat} {f' : Nat → Nat} {S' : StV} {H' : Nat → StV} {E' : Nat → StV → Prop} (h : Pk cy A Z own hk mc ed n f g S H E) (hF : FRs A z) (hz : z ≤ 900000) (hz0 : 231 ≤ z) (hL : LsC cy A' hk mc' ed' n' f') (hed : ed' = ed ∨ z ≤ ed') (hf : ∀ q, q ≠ hk → q ≠ ed → q < z → A' q = A q) (hg : PkSrc n f g S H E g' S') (hm : ∀ j, j < n' → PkSrc n f g S H E (f' j) (H' j) ∧ f' j ≠ g') (hj : ∀ i j, i < n' → j < n' → f' i = f' j → i = j) (hE : ∀ b T, E' b T → PkSrc n f g S H E b T ∧ b ≠ g' ∧ ∀ j, j < n' → b ≠ f' j) : Pk cy A' Z (fun q => if z ≤ q then hk else own q) hk mc' ed' n' f' g' S' H' E' := by
  have hsrc := fun {r : Nat} {T : StV} (hs : PkSrc n f g S H E r T) => h.src hs
  obtain ⟨⟨a1, ⟨a2, a3, a4⟩, a5, a6, a7, a8⟩, a9⟩ := h
  have hkz : hk < z := hF.lt a5.1
  have hP : ∀ q y, (q = hk ∨ (q = ed ∧ ed ≠ 3000001)) → A q = some y → ¬ isRw y 2 ∧ ¬ isBx y := by
    rintro q y (rfl | ⟨rfl, e⟩) hy
    · rw [a5.1] at hy; cases hy
      exact ⟨fun q => q.ls ⟨_, rfl⟩, fun q => q.ls ⟨_, rfl⟩⟩
    · rcases a5.ed with e2 | ⟨y2, h1, h2⟩
      · exact absurd e2 e
      · rw [hy] at h1; cases h1
        exact ⟨fun q => q.oa h2, fun q => q.oa h2⟩
  have hfr : ∀ q y, A q = some y → ¬ (q = hk ∨ (q = ed ∧ ed ≠ 3000001)) → A' q = some y := by
    intro q y hy hn
    have hq := hF.lt hy
    refine (hf q (fun e => hn (Or.inl e)) (fun e => ?_) hq).trans hy
    by_cases e3 : ed = 3000001
    · omega
    · exact hn (Or.inr ⟨e, e3⟩)
  have hne : ∀ {r : Nat} {T : StV}, LBk cy A Z own r T → ∀ q, (q = hk ∨ (q = ed ∧ ed ≠ 3000001)) → own q ≠ r := by
    rintro r T hr q (rfl | ⟨rfl, e⟩) h1
    · obtain ⟨fs, h2⟩ := hr.at
      rw [a3] at h1
      rw [← h1, a5.1] at h2; cases h2
    · obtain ⟨fs, h2⟩ := hr.at
      rw [a4 e] at h1
      rw [← h1, a5.1] at h2; cases h2
  have hk9 : ∀ {r : Nat} {T : StV}, PkSrc n f g S H E r T → LBk cy A' Z (fun q => if z ≤ q then hk else own q) r T := fun hs => (hsrc hs).fr hF hz hP hfr (hne (hsrc hs)) (fun q hq => if_neg (by omega))
  refine ⟨⟨fun q hq => ?_, ⟨a2, ?_, fun e => ?_⟩, hL, fun j hj9 => ⟨hk9 (hm j hj9).1, (hm j hj9).2⟩, hj, fun b T hb => ⟨hk9 (hE b T hb).1, (hE b T hb).2⟩⟩, hk9 hg⟩
  · show (if z ≤ q then hk else own q) = 0
    rw [if_neg (by omega)]; exact a1 q hq
  · show (if z ≤ hk then hk else own hk) = hk
    rw [if_neg (by omega)]; exact a3
  · show (if z ≤ ed' then hk else own ed') = hk
    rcases hed with e2 | e2
    · subst e2
      by_cases e3 : z ≤ ed'
      · exact if_pos e3
      · rw [if_neg e3]; exact a4 e
    · exact if_pos e2
/-- one extra is left, its rows read anew -/
theorem Pk.one {b : Nat} {T T2 : StV} (h : Pk cy A Z own hk mc ed n f g S H E) (hE : E b T) (e : StE T T2) : Pk cy A Z own hk mc ed n f g S H (fun c U => some b = some c ∧ U = T2) := by
  obtain ⟨w1, w2, w3⟩ := h.1.2.2.2.2.2 b T hE
  refine ⟨⟨h.1.1, h.1.2.1, h.1.2.2.1, h.1.2.2.2.1, h.1.2.2.2.2.1, fun c U hb => ?_⟩, h.2⟩
  obtain ⟨h1, rfl⟩ := hb
  cases h1
  exact ⟨w1.stb e.b, w2, w3⟩
end PKR
theorem undo_r {K : HV} : (∀ r, ocUndo K = .inr r → ∃ x, r = .int x) ∧ ∀ E, ocUndo K = .inl E → E ∈ [eISE] := by
  unfold ocUndo
  constructor
  · intro r h
    split at h
    · exact ⟨_, (Sum.inr.inj h).symm⟩
    · cases h
  · intro E h
    split at h
    · cases h
    · obtain rfl := Sum.inl.inj h; simp
theorem rest_r {W : LW} : (∀ r, ocRest W = .inr r → ∃ x, r = .int x) ∧ ∀ E, ocRest W = .inl E → E ∈ [eISE] := by
  unfold ocRest
  constructor
  · intro r h
    split at h
    · cases h
    · exact ⟨_, (Sum.inr.inj h).symm⟩
  · intro E h
    split at h
    · obtain rfl := Sum.inl.inj h; simp
    · cases h
theorem his_pop {W W1 : LW} (hW : W1.2.2.2 = ((W.2.2.2.1 + 7) % 8, W.2.2.2.2.1 - 1, W.2.2.2.2.2)) (h8 : W.2.2.2.1 < 8) (hn : W.2.2.2.2.1 ≤ 8) (h1 : 1 ≤ W.2.2.2.2.1) : ∀ j, hisS W1 j = hisS W j := by
  intro j
  unfold hisS
  rw [hW]
  exact congrArg W.2.2.2.2.2 (show ((W.2.2.2.1 + 7) % 8 + 8 - (W.2.2.2.2.1 - 1) + j) % 8 = (W.2.2.2.1 + 8 - W.2.2.2.2.1 + j) % 8 by omega)
theorem his_last {W : LW} {n : Nat} (h8 : W.2.2.2.1 < 8) (hn : W.2.2.2.2.1 ≤ 8) (h1 : W.2.2.2.2.1 = n + 1) : hisS W n = W.2.2.2.2.2 ((W.2.2.2.1 + 7) % 8) := by
  unfold hisS
  exact congrArg W.2.2.2.2.2 (by omega)
theorem his_push {W W1 : LW} {S2 : StV} (hW : W1.2.2.2 = remK W.2.2.2 S2) (h8 : W.2.2.2.1 < 8) (hn : W.2.2.2.2.1 < 8) : W1.2.2.2.2.1 = W.2.2.2.2.1 + 1 ∧ (∀ j, j < W.2.2.2.2.1 → hisS W1 j = hisS W j) ∧ hisS W1 W.2.2.2.2.1 = S2 := by
  have e : W1.2.2.2.2.1 = W.2.2.2.2.1 + 1 := by rw [hW]; exact if_pos hn
  refine ⟨e, fun j hj => ?_, ?_⟩
  · unfold hisS
    rw [e, hW]
    show (if ((W.2.2.2.1 + 1) % 8 + 8 - (W.2.2.2.2.1 + 1) + j) % 8 = W.2.2.2.1 then S2 else W.2.2.2.2.2 (((W.2.2.2.1 + 1) % 8 + 8 - (W.2.2.2.2.1 + 1) + j) % 8)) = _
    rw [if_neg (by omega)]
    exact congrArg W.2.2.2.2.2 (by omega)
  · unfold hisS
    rw [e, hW]
    show (if ((W.2.2.2.1 + 1) % 8 + 8 - (W.2.2.2.2.1 + 1) + W.2.2.2.2.1) % 8 = W.2.2.2.1 then S2 else _) = _
    rw [if_pos (by omega)]
theorem his_full {W W1 : LW} {S2 : StV} (hW : W1.2.2.2 = remK W.2.2.2 S2) (h8 : W.2.2.2.1 < 8) (hn : W.2.2.2.2.1 = 8) : W1.2.2.2.2.1 = 7 + 1 ∧ (∀ j, j < 7 → hisS W1 j = hisS W (j + 1)) ∧ hisS W1 7 = S2 := by
  have e : W1.2.2.2.2.1 = 8 := by rw [hW]; exact if_neg (by omega)
  refine ⟨e, fun j hj => ?_, ?_⟩
  · unfold hisS
    rw [e, hn, hW]
    show (if ((W.2.2.2.1 + 1) % 8 + 8 - 8 + j) % 8 = W.2.2.2.1 then S2 else W.2.2.2.2.2 (((W.2.2.2.1 + 1) % 8 + 8 - 8 + j) % 8)) = _
    rw [if_neg (by omega)]
    exact congrArg W.2.2.2.2.2 (by omega)
  · unfold hisS
    rw [e, hW]
    show (if ((W.2.2.2.1 + 1) % 8 + 8 - 8 + 7) % 8 = W.2.2.2.1 then S2 else _) = _
    rw [if_pos (by omega)]
section CORE71
variable {p : Program} {l : Launch} {e : Env} {R : Room} {s : State} {m : MethodId} {args : Array Value} {below : List Frame} {meth : Method} {c : Code}
variable {D : va_G} {cy : Nat → ClassId} {B : Nat} {od : Nat → Option Nat} {cc : ByteArray} {nL : Nat} {tab : List PT} {own : String} {ret : Option FieldType}
variable {F : State → Prop} {cells slots : Nat} {A : AH} {z i pc len nx tg : Nat} {lv : List (Option Value)} {st : List Value}
theorem g_aloadN (X : Cx p s m args meth c D cy B od cc nL tab own ret) {k : Nat} (hi : tab[i]? = some (pc, .aload k, 2, nx, tg)) (hk : lv[k]? = some (some .null)) (kk : G p l e R s m args below meth c D B od nL tab F cells slots A z nx lv (.null :: st)) : G p l e R s m args below meth c D B od nL tab F cells slots A z i lv st := by
  intro q hq H locs ls hR hS hl
  cases Option.some.inj (hi.symm.trans hq)
  obtain ⟨q2, hq2, e2⟩ := X.2.2.2.1.fall hi rfl
  have K := kk q2 hq2 H locs ls hR hS hl
  rw [e2] at K
  exact lv_aloadN X.1.1 X.1.2.1 (X.2.2.2.1.dec hi) (hl.at hk) K
end CORE71
set_option maxRecDepth 100000 in
set_option maxHeartbeats 1000000 in
theorem law_undo (l : Launch) (D : va_G) (cy : Nat → ClassId) (B : Nat) (od : Nat → Option Nat) (hl9 : l.stackTraces = false) {p : Program} {e : Env} {s : State} {m : MethodId} {args : Array Value} {below : List Frame} {meth : Method} {c : Code} {A : AH} {W : LW} {hk g : Nat} {sv : Option Nat} {cl sl i z : Nat} {o6 o7 o8 o9 : Option Value} (X : Cx p s m args meth c D cy B od cL_law 10 tL RL (some .boolean)) (hB : s.heap.size ≤ B) (hcl : cl + 1000 ≤ 600000 ∧ sl + 17000 ≤ 7000000) (h : LHd cy A W hk g sv) (kk : ∀ A' W' g' sv' p6 p7 p8 p9, LHd cy A' W' hk g' sv' → G p l e room_1 s m args below meth c D B od 10 tL (lw_Z below args s) (cl + 1000) (sl + 17000) A' (0) 203 (lwL g' hk sv' i p6 p7 p8 p9) []) : G p l e room_1 s m args below meth c D B od 10 tL (lw_Z below args s) cl sl A (z) 87 (lwL g hk sv i o6 o7 o8 o9) [] := by
  have h9 := h
  obtain ⟨hL, hgz, hi, hH, hsv, own, mc, ed, f, hP⟩ := h
  obtain ⟨hcl1, hcl2⟩ := hcl
  have hK := hL.2.2.2.2.2.1.2
  refine g_fr X (fun z9 hF hz9 _ _ => ?_)
  have hz231 := hL.z hF
  have hWf := hL.1.2.2.1
  have hz5 := hL.1.2.2.2.2
  by_cases hn : W.2.2.2.2.1 = 0
  · refine g_aload_n X rfl rfl ?_
    refine g_hp X rfl lwL_undo lmL_178 stL_undo (hp_L_undo l D cy B od (cp_X7_undo l D cy B od hl9 hL) hL.1.1 undo_r.1 undo_r.2 (z9 + 1)) rfl rfl (Nat.le_of_ble_eq_true rfl) ⟨by decide, by decide⟩ ⟨by show cl + 1 ≤ 641696; omega, by show sl + 6 ≤ 7176609; omega⟩ (fun v1 A1 z1 q1 => ?_)
    obtain ⟨rfl, q1⟩ := q1
    have hoc : ocUndo W.2.2.2 = .inl eISE := if_neg (by omega)
    have hv : ocI (ocUndo W.2.2.2) = -1000000003 := by rw [hoc]; decide
    rw [hv]
    obtain rfl : A1 = A := by
      rcases q1 with ⟨r, h1, -⟩ | ⟨E, -, h2⟩
      · rw [hoc] at h1; cases h1
      · exact h2
    refine g_aload_n X rfl rfl ?_
    refine g_rV X rfl lcJx4a65c_isEmpty_aae02 lmL_213 lsJx4a65c_isEmpty_aae02 (cr_isEmpty l D cy B od hP.1.2.2.1) (ci := 9) hP.1.2.2.1.1 rfl rfl rfl (Nat.le_of_ble_eq_true rfl) ⟨⟨by decide, by decide⟩, rfl, rfl⟩ ⟨by show cl + 1 ≤ 641696; omega, by show sl + 6 ≤ 7176609; omega⟩ ?_
    refine g_if_eq X rfl (fun h => ?_) (fun _ => ?_)
    · exact absurd ((bI_iff _).mp h) (by rw [decide_eq_true hn]; decide)
    · refine g_ldc X rfl kcL_22 ?_
      refine g_goto X rfl ?_
      refine g_icmp_eq X rfl (fun _ => ?_) (fun h => absurd rfl h)
      · skip
        refine g_aload_n X rfl rfl ?_
        refine g_rV X rfl lcJx4a65c_isEmpty_aae02 lmL_213 lsJx4a65c_isEmpty_aae02 (cr_isEmpty l D cy B od hP.1.2.2.1) (ci := 9) hP.1.2.2.1.1 rfl rfl rfl (Nat.le_of_ble_eq_true rfl) ⟨⟨by decide, by decide⟩, rfl, rfl⟩ ⟨by show cl + 1 ≤ 641696; omega, by show sl + 6 ≤ 7176609; omega⟩ ?_
        refine g_if_ne X rfl (fun _ => ?_) (fun h => ?_)
        · skip
          exact g_z0 (g_more (c' := cl + 1000) (s' := sl + 17000) (by show cl + 1 ≤ _; omega) (by show sl + 6 ≤ _; omega) (kk A1 W g sv _ _ _ _ h9))
        · exact absurd ((bI_iff _).mp h) (by rw [decide_eq_true hn]; decide)
  · obtain ⟨n, hn1⟩ : ∃ n, W.2.2.2.2.1 = n + 1 := ⟨W.2.2.2.2.1 - 1, by omega⟩
    refine g_aload_n X rfl rfl ?_
    refine g_hp X rfl lwL_undo lmL_178 stL_undo (hp_L_undo l D cy B od (cp_X7_undo l D cy B od hl9 hL) hL.1.1 undo_r.1 undo_r.2 (z9 + 1)) rfl rfl (Nat.le_of_ble_eq_true rfl) ⟨by decide, by decide⟩ ⟨by show cl + 1 ≤ 641696; omega, by show sl + 6 ≤ 7176609; omega⟩ (fun v1 A1 z1 q1 => ?_)
    obtain ⟨rfl, q1⟩ := q1
    have hoc : ocUndo W.2.2.2 = .inr (.int (nI (W.2.2.2.2.1 - 1))) := if_pos (by omega)
    have hv : ocI (ocUndo W.2.2.2) = nI n := by rw [hoc]; show nI (W.2.2.2.2.1 - 1) = nI n; rw [hn1]; rfl
    rw [hv]
    obtain ⟨ho1, -, S2, hE, hL1⟩ : SameOff A A1 0 231 ∧ 0 < W.2.2.2.2.1 ∧ ∃ S2 : StV, StE (W.2.2.2.2.2 ((W.2.2.2.1 + 7) % 8)) S2 ∧ LedA cy A1 (vNow W.1 S2, W.2.1, W.2.2.1, ((W.2.2.2.1 + 7) % 8, W.2.2.2.2.1 - 1, W.2.2.2.2.2)) := by
      rcases q1 with ⟨r, -, h2⟩ | ⟨E, h1, -⟩
      · exact h2
      · rw [hoc] at h1; cases h1
    have hP1 := hP.led hF (by omega) hL (fun q y hq hy => (ho1 q (Or.inr hq)).trans hy)
    rw [hn1] at hP1
    have hF1 : FRs A1 z9 := fun k hk9 => (ho1 k (Or.inr (by omega))).trans (hF k hk9)
    have hPn := hP1.1.2.2.1
    refine g_aload_n X rfl rfl ?_
    refine g_rV X rfl lcJx4a65c_isEmpty_aae02 lmL_213 lsJx4a65c_isEmpty_aae02 (cr_isEmpty l D cy B od hPn) (ci := 9) hPn.1 rfl rfl rfl (Nat.le_of_ble_eq_true rfl) ⟨⟨by decide, by decide⟩, rfl, rfl⟩ ⟨by show cl + 1 ≤ 641696; omega, by show sl + 6 ≤ 7176609; omega⟩ ?_
    refine g_if_eq X rfl (fun _ => ?_) (fun h => ?_)
    · skip
      refine g_aload_n X rfl rfl ?_
      refine g_rV X rfl lcJx4a65c_size_8abf5 lmL_97 lsJx4a65c_size_8abf5 (cr_size l D cy B od hPn) (ci := 9) hPn.1 rfl rfl rfl (Nat.le_of_ble_eq_true rfl) ⟨⟨by decide, by decide⟩, rfl, rfl⟩ ⟨by show cl + 1 ≤ 641696; omega, by show sl + 6 ≤ 7176609; omega⟩ ?_
      refine g_iconst X rfl (v := nI 1) (by decide) ?_
      refine g_isub X rfl ?_
      rw [pk_sub (by omega), Nat.add_sub_cancel]
      refine g_icmp_eq X rfl (fun _ => ?_) (fun h => absurd rfl h)
      · skip
        refine g_aload_n X rfl rfl ?_
        refine g_rV X rfl lcJx4a65c_isEmpty_aae02 lmL_213 lsJx4a65c_isEmpty_aae02 (cr_isEmpty l D cy B od hPn) (ci := 9) hPn.1 rfl rfl rfl (Nat.le_of_ble_eq_true rfl) ⟨⟨by decide, by decide⟩, rfl, rfl⟩ ⟨by show cl + 1 ≤ 641696; omega, by show sl + 6 ≤ 7176609; omega⟩ ?_
        refine g_if_ne X rfl (fun h => ?_) (fun _ => ?_)
        · exact absurd ((bI_iff _).mpr (decide_eq_false (by omega))) h
        · skip
          refine g_aload_n X rfl rfl ?_
          refine g_aload_n X rfl rfl ?_
          refine g_rV X rfl lcJx4a65c_size_8abf5 lmL_97 lsJx4a65c_size_8abf5 (cr_size l D cy B od hPn) (ci := 9) hPn.1 rfl rfl rfl (Nat.le_of_ble_eq_true rfl) ⟨⟨by decide, by decide⟩, rfl, rfl⟩ ⟨by show cl + 1 ≤ 641696; omega, by show sl + 6 ≤ 7176609; omega⟩ ?_
          refine g_iconst X rfl (v := nI 1) (by decide) ?_
          refine g_isub X rfl ?_
          rw [pk_sub (by omega), Nat.add_sub_cancel]
          refine g_mV X rfl lcJx4a65c_remove_915e3 lmL_217 lsJx4a65c_remove_915e3 (cm_AL_remove l D cy B od hPn (i := n) (by omega)) (ci := 9) hPn.1 rfl rfl rfl (Nat.le_of_ble_eq_true rfl) ⟨⟨by decide, by decide⟩, rfl, rfl⟩ ⟨by show cl + 1 ≤ 641696; omega, by show sl + 6 ≤ 7176609; omega⟩ (fun v2 A2 q2 => ?_)
          obtain ⟨rfl, hL2, hf2⟩ := q2
          have hP2 := hP1.re (A' := A2) (n' := n) (g' := f n) (S' := S2) (H' := hisS (vNow W.1 S2, W.2.1, W.2.2.1, ((W.2.2.2.1 + 7) % 8, W.2.2.2.2.1 - 1, W.2.2.2.2.2))) (E' := fun b T => sv = some b ∧ T = W.2.2.1) hF1 (by omega) hz231 hL2 (Or.inl rfl) (fun q q1 q2 _ => hf2 q q1 q2) ((PkSrc.i (i := n) (by omega)).stb (by rw [his_last hK.1 hK.2.1 hn1]; exact hE)) (fun j hj => by
            rw [his_pop (W := W) rfl hK.1 hK.2.1 (by omega) j]
            show PkSrc _ _ _ _ _ _ (if j < n then f j else f (j + 1)) _ ∧ (if j < n then f j else f (j + 1)) ≠ f n
            rw [if_pos hj]
            exact ⟨PkSrc.i (by omega), fun e => by have := hP1.1.2.2.2.2.1 j n (by omega) (by omega) e; omega⟩) (fun a b ha hb e => hP1.1.2.2.2.2.1 a b (by omega) (by omega) (by simpa [ha, hb] using e)) (fun b T hb => ⟨PkSrc.e hb, (hP1.1.2.2.2.2.2 b T hb).2.2 n (by omega), fun j hj => by
            show b ≠ (if j < n then f j else f (j + 1))
            rw [if_pos hj]
            exact (hP1.1.2.2.2.2.2 b T hb).2.2 j (by omega)⟩)
          obtain ⟨fs8, h8⟩ := hP2.2.at
          refine g_castC X rfl clL_92 (ci := 8) rfl h8 ?_
          first | refine g_astore_nS X rfl (by decide) rfl ?_ | refine g_astore_n X rfl (by decide) ?_
          refine g_goto X rfl ?_
          have hL3 : LedA cy A2 (vNow W.1 S2, W.2.1, W.2.2.1, ((W.2.2.2.1 + 7) % 8, W.2.2.2.2.1 - 1, W.2.2.2.2.2)) := hL1.st (fun q y hq hy => (hf2 q (by have := hP1.1.2.1.1; omega) (fun e => by subst e; by_cases e3 : q = 3000001; omega; have a1 := hP1.1.2.1.2.2 e3; have a2 := hP1.1.1 q hq; have := hP1.1.2.1.1; omega)).trans hy)
          have hI2 : Inv3 (vZ W.1) S2 := by
            have := hH n (by omega)
            rw [his_last hK.1 hK.2.1 hn1] at this
            exact this.ste hE
          exact g_z0 (g_more (c' := cl + 1000) (s' := sl + 17000) (by show cl + 1 ≤ _; omega) (by show sl + 6 ≤ _; omega) (kk A2 (vNow W.1 S2, W.2.1, W.2.2.1, ((W.2.2.2.1 + 7) % 8, W.2.2.2.2.1 - 1, W.2.2.2.2.2)) (f n) sv _ _ _ _ ⟨hL3, hgz, hI2, fun j hj => by rw [his_pop (W := W) rfl hK.1 hK.2.1 (by omega) j]; exact hH j (by have hj : j < W.2.2.2.2.1 - 1 := hj; omega), hsv, _, _, _, _, (by rw [show (vNow W.1 S2, W.2.1, W.2.2.1, ((W.2.2.2.1 + 7) % 8, W.2.2.2.2.1 - 1, W.2.2.2.2.2)).2.2.2.2.1 = n by show W.2.2.2.2.1 - 1 = n; omega]; exact hP2)⟩))
    · exact absurd ((bI_iff _).mpr (decide_eq_false (by omega))) h
set_option maxRecDepth 100000 in
set_option maxHeartbeats 1000000 in
theorem law_save (l : Launch) (D : va_G) (cy : Nat → ClassId) (B : Nat) (od : Nat → Option Nat) (hl9 : l.stackTraces = false) {p : Program} {e : Env} {s : State} {m : MethodId} {args : Array Value} {below : List Frame} {meth : Method} {c : Code} {A : AH} {W : LW} {hk g : Nat} {sv : Option Nat} {cl sl i z : Nat} {o6 o7 o8 o9 : Option Value} (X : Cx p s m args meth c D cy B od cL_law 10 tL RL (some .boolean)) (hB : s.heap.size ≤ B) (hcl : cl + 1000 ≤ 600000 ∧ sl + 17000 ≤ 7000000) (h : LHd cy A W hk g sv) (kk : ∀ A' W' g' sv' p6 p7 p8 p9, LHd cy A' W' hk g' sv' → G p l e room_1 s m args below meth c D B od 10 tL (lw_Z below args s) (cl + 1000) (sl + 17000) A' (0) 203 (lwL g' hk sv' i p6 p7 p8 p9) []) : G p l e room_1 s m args below meth c D B od 10 tL (lw_Z below args s) cl sl A (z) 120 (lwL g hk sv i o6 o7 o8 o9) [] := by
  have h9 := h
  obtain ⟨hL, hgz, hi, hH, hsv, own, mc, ed, f, hP⟩ := h
  obtain ⟨hcl1, hcl2⟩ := hcl
  have hK := hL.2.2.2.2.2.1.2
  refine g_fr X (fun z9 hF hz9 _ _ => ?_)
  have hz231 := hL.z hF
  have hWf := hL.1.2.2.1
  have hz5 := hL.1.2.2.2.2
  refine g_aload_n X rfl rfl ?_
  refine g_mV X rfl lcX7_save lmL_220 lsX7_save (cm_X7_save l D cy B od hL) (ci := 7) hL.1.1 rfl rfl rfl (Nat.le_of_ble_eq_true rfl) ⟨⟨by decide, by decide⟩, rfl, rfl⟩ ⟨by show cl + 0 ≤ 641696; omega, by show sl + 0 ≤ 7176609; omega⟩ (fun v1 A1 q1 => ?_)
  obtain ⟨rfl, ho1, S2, hE, hL1⟩ := q1
  have hP1 := hP.led hF (by omega) hL (fun q y hq hy => (ho1 q (Or.inr hq)).trans hy)
  have hF1 : FRs A1 z9 := fun k hk9 => (ho1 k (Or.inr (by omega))).trans (hF k hk9)
  obtain ⟨Lg, hbg, hfg⟩ := hP1.2
  refine g_aload_n X rfl rfl ?_
  refine g_get X rfl flL_91 (ci := 8) rfl (hbg.1.1) rfl ?_
  refine g_rV X rfl lcJx4a65c_size_8abf5 lmL_97 lsJx4a65c_size_8abf5 (cr_size l D cy B od (hbg.1.2.1 2 (by decide))) (ci := 9) (hbg.1.2.1 2 (by decide)).1 rfl rfl rfl (Nat.le_of_ble_eq_true rfl) ⟨⟨by decide, by decide⟩, rfl, rfl⟩ ⟨by show cl + 0 ≤ 641696; omega, by show sl + 0 ≤ 7176609; omega⟩ ?_
  refine g_icmp_eq X rfl (fun _ => ?_) (fun h => absurd rfl h)
  · skip
    refine g_new X rfl nwL_92 (ci := 8) rfl (fs := [.int (nI 0), .int (nI 0), .int (nI 0), .int (nI 0), .int (nI 0), .null, .null, .null, .null, .null]) rfl rfl (by omega) (by show cl + 1 ≤ 641696; omega) (by show sl + 10 ≤ 7176609; omega) ?_
    refine g_dup X rfl rfl ?_
    refine g_aload_n X rfl rfl ?_
    refine g_callI X rfl lcX8_init_ lmL_223 liX8_init_ rfl (ct_X8_init_ l D cy B od (A0 := A1) (g := z9) hF1 (by omega) hbg.1 hWf hz5) rfl rfl (Nat.le_of_ble_eq_true rfl) ⟨by decide, by decide⟩ ⟨by show cl + 201 ≤ 641696; omega, by show sl + 12010 ≤ 7176609; omega⟩ (fun v2 A2 z2 q2 => ?_)
    obtain ⟨rfl, y2, rfl, hG2, L2, hB2, hFt2⟩ := q2
    refine g_astoreS X rfl (by decide) rfl ?_
    refine g_goto X rfl ?_
    have hP2 := hP1.copy hF1 (by omega) hz231 hG2 hB2 hFt2
    have hL2 := hL1.st (A' := A2) (fun q y _ hy => hG2.1 _ _ hy)
    exact g_z0 (g_more (c' := cl + 1000) (s' := sl + 17000) (by show cl + 201 ≤ _; omega) (by show sl + 12010 ≤ _; omega) (kk A2 ((W.1.1, W.1.2.1, nI 1, W.1.2.2.2), W.2.1, S2, W.2.2.2) g (some z9) _ _ _ _ ⟨hL2, hgz, hi, hH, Or.inr ⟨z9, rfl, (fun q => absurd (show nI 1 = 0 from q) (by decide)), hi.ste hE⟩, _, _, _, _, hP2.one (Or.inr ⟨rfl, rfl⟩) hE⟩))
set_option maxRecDepth 100000 in
set_option maxHeartbeats 1000000 in
theorem law_restore (l : Launch) (D : va_G) (cy : Nat → ClassId) (B : Nat) (od : Nat → Option Nat) (hl9 : l.stackTraces = false) {p : Program} {e : Env} {s : State} {m : MethodId} {args : Array Value} {below : List Frame} {meth : Method} {c : Code} {A : AH} {W : LW} {hk g : Nat} {sv : Option Nat} {cl sl i z : Nat} {o6 o7 o8 o9 : Option Value} (X : Cx p s m args meth c D cy B od cL_law 10 tL RL (some .boolean)) (hB : s.heap.size ≤ B) (hcl : cl + 1000 ≤ 600000 ∧ sl + 17000 ≤ 7000000) (h : LHd cy A W hk g sv) (kk : ∀ A' W' g' sv' p6 p7 p8 p9, LHd cy A' W' hk g' sv' → G p l e room_1 s m args below meth c D B od 10 tL (lw_Z below args s) (cl + 1000) (sl + 17000) A' (0) 203 (lwL g' hk sv' i p6 p7 p8 p9) []) : G p l e room_1 s m args below meth c D B od 10 tL (lw_Z below args s) cl sl A (z) 134 (lwL g hk sv i o6 o7 o8 o9) [] := by
  have h9 := h
  obtain ⟨hL, hgz, hi, hH, hsv, own, mc, ed, f, hP⟩ := h
  obtain ⟨hcl1, hcl2⟩ := hcl
  have hK := hL.2.2.2.2.2.1.2
  refine g_fr X (fun z9 hF hz9 _ _ => ?_)
  have hz231 := hL.z hF
  have hWf := hL.1.2.2.1
  have hz5 := hL.1.2.2.2.2
  rcases hsv with ⟨rfl, hs0⟩ | ⟨b, rfl, hs0, hsi⟩
  · refine g_aload_n X rfl rfl ?_
    refine g_hp X rfl lwL_restore lmL_180 stL_restore (hp_L_restore l D cy B od (cp_X7_restore l D cy B od hl9 hL) hL.1.1 rest_r.1 rest_r.2 (z9 + 1)) rfl rfl (Nat.le_of_ble_eq_true rfl) ⟨by decide, by decide⟩ ⟨by show cl + 1 ≤ 641696; omega, by show sl + 6 ≤ 7176609; omega⟩ (fun v1 A1 z1 q1 => ?_)
    obtain ⟨rfl, q1⟩ := q1
    have hoc : ocRest W = .inl eISE := if_pos hs0
    have hv : ocI (ocRest W) = -1000000003 := by rw [hoc]; decide
    rw [hv]
    obtain rfl : A1 = A := by
      rcases q1 with ⟨r, h1, -⟩ | ⟨E, -, h2⟩
      · rw [hoc] at h1; cases h1
      · exact h2
    refine g_aloadN X rfl rfl ?_
    refine g_ifnonnullN X rfl ?_
    refine g_ldc X rfl kcL_22 ?_
    refine g_goto X rfl ?_
    refine g_icmp_eq X rfl (fun _ => ?_) (fun h => absurd rfl h)
    · skip
      refine g_aloadN X rfl rfl ?_
      refine g_ifnullN X rfl ?_
      exact g_z0 (g_more (c' := cl + 1000) (s' := sl + 17000) (by show cl + 1 ≤ _; omega) (by show sl + 6 ≤ _; omega) (kk A1 W g none _ _ _ _ h9))
  · refine g_aload_n X rfl rfl ?_
    refine g_hp X rfl lwL_restore lmL_180 stL_restore (hp_L_restore l D cy B od (cp_X7_restore l D cy B od hl9 hL) hL.1.1 rest_r.1 rest_r.2 (z9 + 1)) rfl rfl (Nat.le_of_ble_eq_true rfl) ⟨by decide, by decide⟩ ⟨by show cl + 1 ≤ 641696; omega, by show sl + 6 ≤ 7176609; omega⟩ (fun v1 A1 z1 q1 => ?_)
    obtain ⟨rfl, q1⟩ := q1
    have hoc : ocRest W = .inr (.int (nI W.2.2.1.1.1)) := if_neg hs0
    have hv : ocI (ocRest W) = nI W.2.2.1.1.1 := by rw [hoc]; rfl
    rw [hv]
    obtain ⟨ho1, S2, hE, hL1⟩ : SameOff A A1 0 231 ∧ ∃ S2 : StV, StE W.2.2.1 S2 ∧ LedA cy A1 (vNow W.1 S2, W.2.1, W.2.2.1, (0, 0, W.2.2.2.2.2)) := by
      rcases q1 with ⟨r, -, h2⟩ | ⟨E, h1, -⟩
      · exact h2
      · rw [hoc] at h1; cases h1
    have hP1 := hP.led hF (by omega) hL (fun q y hq hy => (ho1 q (Or.inr hq)).trans hy)
    have hF1 : FRs A1 z9 := fun k hk9 => (ho1 k (Or.inr (by omega))).trans (hF k hk9)
    obtain ⟨⟨Lb, hbb, hfb⟩, hbg, hbf⟩ := hP1.1.2.2.2.2.2 b W.2.2.1 ⟨rfl, rfl⟩
    refine g_aload X rfl rfl ?_
    refine g_ifnonnull X rfl ?_
    refine g_aload X rfl rfl ?_
    refine g_get X rfl flL_91 (ci := 8) rfl (hbb.1.1) rfl ?_
    refine g_rV X rfl lcJx4a65c_size_8abf5 lmL_97 lsJx4a65c_size_8abf5 (cr_size l D cy B od (hbb.1.2.1 2 (by decide))) (ci := 9) (hbb.1.2.1 2 (by decide)).1 rfl rfl rfl (Nat.le_of_ble_eq_true rfl) ⟨⟨by decide, by decide⟩, rfl, rfl⟩ ⟨by show cl + 1 ≤ 641696; omega, by show sl + 6 ≤ 7176609; omega⟩ ?_
    refine g_icmp_eq X rfl (fun _ => ?_) (fun h => absurd rfl h)
    · skip
      refine g_aload X rfl rfl ?_
      refine g_ifnull X rfl ?_
      refine g_fr X (fun z8 hF8 hz8 _ _ => ?_)
      have hz8 : B + z8 ≤ s.heap.size + (cl + 1) := hz8
      refine g_new X rfl nwL_92 (ci := 8) rfl (fs := [.int (nI 0), .int (nI 0), .int (nI 0), .int (nI 0), .int (nI 0), .null, .null, .null, .null, .null]) rfl rfl (by omega) (by show cl + 2 ≤ 641696; omega) (by show sl + 16 ≤ 7176609; omega) ?_
      refine g_dup X rfl rfl ?_
      refine g_aload X rfl rfl ?_
      refine g_callI X rfl lcX8_init_ lmL_223 liX8_init_ rfl (ct_X8_init_ l D cy B od (A0 := A1) (g := z8) hF8 (by omega) hbb.1 hL.2.2.2.2.1.2.1 hz5) rfl rfl (Nat.le_of_ble_eq_true rfl) ⟨by decide, by decide⟩ ⟨by show cl + 202 ≤ 641696; omega, by show sl + 12016 ≤ 7176609; omega⟩ (fun v2 A2 z2 q2 => ?_)
      obtain ⟨rfl, y2, rfl, hG2, L2, hB2, hFt2⟩ := q2
      have hz81 := hL1.z hF8
      have hP2 := hP1.copy hF8 (by omega) hz81 hG2 hB2 hFt2
      have hn8 : ∀ {c : Nat} {T : StV}, (some b = some c ∧ T = W.2.2.1) → c ≠ z8 := fun hc => hP1.newE hF8 hc
      refine g_astore_nS X rfl (by decide) rfl ?_
      refine g_aload_n X rfl rfl ?_
      refine g_mV X rfl lcJx4a65c_clear_da8c8 lmL_226 lsJx4a65c_clear_da8c8 (cm_clear l D cy B od hP2.1.2.2.1) (ci := 9) hP2.1.2.2.1.1 rfl rfl rfl (Nat.le_of_ble_eq_true rfl) ⟨⟨by decide, by decide⟩, rfl, rfl⟩ ⟨by show cl + 202 ≤ 641696; omega, by show sl + 12016 ≤ 7176609; omega⟩ (fun v3 A3 q3 => ?_)
      obtain ⟨rfl, hL3, hf3⟩ := q3
      refine g_goto X rfl ?_
      have hL2 := hL1.st (A' := A2) (fun q y _ hy => hG2.1 _ _ hy)
      have hy2 := hG2.2.2.1
      have hP3 := hP2.re (A' := A3) (n' := 0) (g' := z8) (S' := S2) (H' := hisS (vNow W.1 S2, W.2.1, W.2.2.1, (0, 0, W.2.2.2.2.2))) (E' := fun c T => some b = some c ∧ T = W.2.2.1) (z := y2) hG2.2.2.2 (by omega) (by have := hG2.2.1; omega) hL3 (Or.inl rfl) (fun q q1 q2 _ => hf3 q q1 q2) ((PkSrc.e (Or.inr ⟨rfl, rfl⟩)).stb hE) (fun j hj => absurd hj (Nat.not_lt_zero j)) (fun a b ha => absurd ha (Nat.not_lt_zero a)) (fun c T hc => ⟨PkSrc.e (Or.inl hc), hn8 hc, fun j hj => absurd hj (Nat.not_lt_zero j)⟩)
      have hL4 : LedA cy A3 (vNow W.1 S2, W.2.1, W.2.2.1, (0, 0, W.2.2.2.2.2)) := hL2.st (fun q y hq hy => (hf3 q (by have := hP2.1.2.1.1; omega) (fun e => by subst e; by_cases e3 : q = 3000001; omega; have a1 := hP2.1.2.1.2.2 e3; have a2 := hP2.1.1 q hq; have := hP2.1.2.1.1; omega)).trans hy)
      exact g_z0 (g_more (c' := cl + 1000) (s' := sl + 17000) (by show cl + 202 ≤ _; omega) (by show sl + 12016 ≤ _; omega) (kk A3 (vNow W.1 S2, W.2.1, W.2.2.1, (0, 0, W.2.2.2.2.2)) z8 (some b) _ _ _ _ ⟨hL4, hgz, hsi.ste hE, fun j hj => absurd hj (Nat.not_lt_zero j), Or.inr ⟨b, rfl, hs0, hsi⟩, _, _, _, _, hP3⟩))
