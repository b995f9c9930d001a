/-! 51: texts: strings, old and new; builders of texts -/
theorem ins_sb : Cond.instantiable RJ4 4 ∈ lw_good := lw_good_in (n := 803) (by decide +kernel) rfl
theorem sel_l1 : Cond.selects RJ4 yJ5_isLatin1_aae02 yJ5_isLatin1_aae02 ∈ lw_good := lw_good_in (n := 865) (by decide +kernel) rfl
theorem sel_gv : Cond.selects RJ4 yJ5_getValue_6d5f1 yJ5_getValue_6d5f1 ∈ lw_good := lw_good_in (n := 958) (by decide +kernel) rfl
theorem sel_ln : Cond.selects RJ4 yJ5_length_8abf5 yJ4_length_8abf5 ∈ lw_good := lw_good_in (n := 963) (by decide +kernel) rfl
theorem sel_ap : Cond.selects RJ4 yJ5_append_cf1ce yJ4_append_cf1ce ∈ lw_good := lw_good_in (n := 1647) (by decide +kernel) rfl
theorem cw_b : ClW RJ7 310 "[B" := ⟨lw_good_in (n := 857) (by decide +kernel) rfl, lw_good_in (n := 858) (by decide +kernel) rfl, lw_good_in (n := 707) (by decide +kernel) rfl, lw_good_in (n := 708) (by decide +kernel) rfl, lw_good_in (n := 859) (by decide +kernel) rfl⟩
def tAsc (tx : List Nat) : Prop := ∀ k, k < tx.length → tx.getD k 0 < 128
def txB (tx : List Nat) (k : Nat) : Int32 := nI (tx.getD k 0)
theorem fits_c : ∀ c, c < 128 → fits .byte (.int (nI c)) = true := by decide
theorem chr_c : ∀ c, c < 128 → ((nI c &&& nI 255).toUInt32 % 65536).toInt32 = nI c ∧ narrow .char (.int (nI c)) = .int (nI c) := by decide
/-- a string: a new one, or one that the machine keeps -/
def StrA (cy : Nat → ClassId) (A : AH) (a : Nat) (tx : List Nat) : Prop := tAsc tx ∧ tx.length < 10000 ∧ ((∃ v f, A a = some (.inr (13, [.ref v, .int (nI 0), .int (nI 0), .int (nI 0)])) ∧ A v = some (.inl (cy 3, tx.length, .inl f)) ∧ ∀ k, k < tx.length → f k = txB tx k) ∨ ∃ j, j < 39 ∧ a = 1000000 + j ∧ (sB j).length = tx.length ∧ ∀ k, k < tx.length → (sB j).getD k 0 = txB tx k)
theorem StrA.le {cy : Nat → ClassId} {A A' : AH} {a : Nat} {tx : List Nat} (h : StrA cy A a tx) (hl : HLe A A') : StrA cy A' a tx := by
  obtain ⟨h1, h2, ⟨v, f, h3, h4, h5⟩ | h3⟩ := h
  · exact ⟨h1, h2, Or.inl ⟨v, f, hl _ _ h3, hl _ _ h4, h5⟩⟩
  · exact ⟨h1, h2, Or.inr h3⟩
/-- a builder of texts at b, its bytes at v, room for cap -/
def SbE (cy : Nat → ClassId) (A : AH) (b v : Nat) (tx : List Nat) (cap : Nat) (ml : Int32) (f : Nat → Int32) : Prop := tAsc tx ∧ A b = some (.inr (12, [.ref v, .int (nI 0), .int ml, .int (nI tx.length)])) ∧ A v = some (.inl (cy 3, cap, .inl f)) ∧ tx.length ≤ cap ∧ cap ≤ 602 ∧ (∀ k, k < tx.length → f k = txB tx k) ∧ ∀ k, k < cap → fits .byte (.int (f k)) = true
def SbA (cy : Nat → ClassId) (A : AH) (b v : Nat) (tx : List Nat) : Prop := ∃ cap ml f, SbE cy A b v tx cap ml f
theorem SbA.le {cy : Nat → ClassId} {A A' : AH} {b v : Nat} {tx : List Nat} (h : SbA cy A b v tx) (hl : HLe A A') : SbA cy A' b v tx := by
  obtain ⟨cap, ml, f, h1, h2, h3, h4⟩ := h
  exact ⟨cap, ml, f, h1, hl _ _ h2, hl _ _ h3, h4⟩
section CORE51
variable {p : Program} {l : Launch} {e : Env} {R : Room} {s : State} {m : MethodId} {args : Array Value} {below : List Frame} {meth : Method} {c : Code}
variable {D : va_G} {cy : Nat → ClassId} {B : Nat} {od : Nat → Option Nat} {cc : ByteArray} {nL : Nat} {tab : List PT} {own : String} {ret : Option FieldType}
variable {F : State → Prop} {cells slots : Nat} {A : AH} {z i pc len nx tg : Nat} {lv : List (Option Value)} {st : List Value}
variable {y : MethodName} {bytes : ByteArray} {maxL n ix : Nat} {rt : Option FieldType} {rm : Room} {As rest : List Value} {b a : Nat} {r : Value} {Q : Option Value → AH → Prop} {Q' : QT} {tx : List Nat}
/-- a call on a string -/
theorem g_sV (X : Cx p s m args meth c D cy B od cc nL tab own ret) (hi : tab[i]? = some (pc, .invokevirtual ix, 3, nx, tg)) (hL : LkC y bytes maxL rt n) (hM : LkM own ix y) (hSe : LkSel y) (hy : y.cls = RJ0) (hC : CR l D cy B od y bytes maxL rt rm (.ref a :: As) A r) (hs : StrA cy A a tx) (hst : st = As.reverse ++ .ref a :: rest) (hn : As.length = n) (hw : (rest.map fun v => v.category).sum ≤ 8) (hRm : (rm.frames + 1 ≤ R.frames ∧ 8 + (maxL + 11) + rm.locals ≤ R.locals) ∧ rm.cells = 0 ∧ rm.slots = 0) (hf : cells ≤ R.cells ∧ slots ≤ R.slots)
    (kk : G p l e R s m args below meth c D B od nL tab F cells slots A z nx lv (r :: rest)) : G p l e R s m args below meth c D B od nL tab F cells slots A z i lv st := by
  obtain ⟨-, -, ⟨v, f, h3, -⟩ | ⟨j, hj, rfl, -⟩⟩ := hs
  · exact g_rV X hi hL hM hSe hC (ci := 13) h3 (by rw [hy]; rfl) hst hn hw hRm hf kk
  · exact g_rVO X hj hi hL hM hSe hy hC hst hn hw hRm hf kk
theorem g_sM (X : Cx p s m args meth c D cy B od cc nL tab own ret) (hi : tab[i]? = some (pc, .invokevirtual ix, 3, nx, tg)) (hL : LkC y bytes maxL rt n) (hM : LkM own ix y) (hSe : LkSel y) (hy : y.cls = RJ0) (hC : CM l D cy B od y bytes maxL rt rm (.ref a :: As) A Q) (hs : StrA cy A a tx) (hst : st = As.reverse ++ .ref a :: rest) (hn : As.length = n) (hw : (rest.map fun v => v.category).sum ≤ 8) (hRm : (rm.frames + 1 ≤ R.frames ∧ 8 + (maxL + 11) + rm.locals ≤ R.locals) ∧ rm.cells = 0 ∧ rm.slots = 0) (hf : cells ≤ R.cells ∧ slots ≤ R.slots)
    (kk : ∀ (v : Option Value) (A' : AH), Q v A' → G p l e R s m args below meth c D B od nL tab F cells slots A' z nx lv (v.toList ++ rest)) : G p l e R s m args below meth c D B od nL tab F cells slots A z i lv st := by
  obtain ⟨-, -, ⟨v, f, h3, -⟩ | ⟨j, hj, rfl, -⟩⟩ := hs
  · exact g_mV X hi hL hM hSe hC (ci := 13) h3 (by rw [hy]; rfl) hst hn hw hRm hf kk
  · intro q hq H locs ls hR hS hl
    cases Option.some.inj (hi.symm.trans hq)
    obtain ⟨q2, hq2, e2⟩ := X.2.2.2.1.fall hi rfl
    subst hst
    rw [List.map_append, List.map_reverse, List.map_cons]
    obtain ⟨a, v, h1, h2, h3, h4, h5, h6⟩ := X.str.2.2.1 j hj
    obtain ⟨cell, c1, c2, c3, -⟩ := h3.kept hS.2.1
    refine run_go (va_runV (As := As.map (trV B od)) (b := rho B od (1000000 + j)) (rest := rest.map (trV B od)) X.1 (hC z) ⟨mkB X hL hM hRm.1, X.1.2.2.2.2 _ hSe.1, X.1.2.2.2.2 _ hSe.2⟩ ⟨PcA.blind, ⟨cell, by rw [rho_od h1]; exact c1, c2, by rw [hy]; exact c3⟩, fun U hU hW => ⟨rfl, X.world hR hS U hU hW⟩⟩ rfl ((List.length_map _).trans hn) hl.1 rfl (lv_room (st_cat hw)) (X.2.2.2.1.dec hi) (by rw [hRm.2.1, hRm.2.2]; exact hf)) hS (fun v A' z' H1 locs1 hq hR1 hS1 => ?_)
    obtain ⟨rfl, hq⟩ := hq
    have K := kk v A' hq q2 hq2 H1 locs1 ls hR1 hS1 hl
    rw [e2, ← st_ret] at K
    rw [hRm.2.1, hRm.2.2]
    exact K
/-- a private call on a builder -/
theorem g_pV (X : Cx p s m args meth c D cy B od cc nL tab own ret) (hi : tab[i]? = some (pc, .invokevirtual ix, 3, nx, tg)) (hL : LkC y bytes maxL rt n) (hM : LkM own ix y) (hIn : Cond.instanceMethod y ∈ lw_good) (hpr : y ∈ privL) (hy : y.cls = RJ5) (hC : CT l D cy B od y bytes maxL rt rm (.ref b :: As) A z Q') {fs : List Value} (hA : A b = some (.inr (12, fs))) (hst : st = As.reverse ++ .ref b :: rest) (hn : As.length = n) (hw : (rest.map fun v => v.category).sum ≤ 8) (hRm : rm.frames + 1 ≤ R.frames ∧ 8 + (maxL + 11) + rm.locals ≤ R.locals) (hf : cells + rm.cells ≤ R.cells ∧ slots + rm.slots ≤ R.slots)
    (kk : ∀ (v : Option Value) (A' : AH) (z' : Nat), Q' v A' z' → G p l e R s m args below meth c D B od nL tab F (cells + rm.cells) (slots + rm.slots) A' z' nx lv (v.toList ++ rest)) : G p l e R s m args below meth c D B od nL tab F cells slots A z i lv st :=
  g_callVC X (C := RJ4) hi hL hM hIn (sel_priv (X.1.2.2.2.2 _ ins_sb) hL.2.2.1 (va_Nw.use rfl (X.ox.2.2.2.1.2 y hpr)) (X.1.2.2.2.2 _ hIn) (X.1.2.2.2.2 _ sel_l1) hy.symm) hC (ci := 12) hA rfl hst hn hw hRm hf kk
/-- an array of bytes cloned -/
theorem g_castBy (X : Cx p s m args meth c D cy B od cc nL tab own ret) (hi : tab[i]? = some (pc, .checkcast ix, 3, nx, tg)) (hw : Cond.classLink own ix "[B" ∈ lw_good) {a n : Nat} {f : Nat → Int32} (hA : A a = some (.inl (cy 3, n, .inl f))) (kk : G p l e R s m args below meth c D B od nL tab F cells slots A z nx lv (.ref a :: st)) : G p l e R s m args below meth c D B od nL tab F cells slots A z i lv (.ref a :: st) := by
  intro q hq H locs ls hR hS hl
  cases Option.some.inj (hi.symm.trans hq)
  obtain ⟨q2, hq2, e2⟩ := X.2.2.2.1.fall hi rfl
  have K := kk q2 hq2 H locs ls hR hS hl
  rw [e2] at K
  exact va_castA X.1.1 X.1.2.1 X.1.2.2.2.1 (X.1.2.2.2.2 _ hw) (va_P1 (hR.1 a _ hA).2) 0 rfl (tysc_cls (t0 := 3) (ty := .byte) X.2.1 rfl) (X.2.2.2.1.dec hi) K
end CORE51
set_option maxRecDepth 100000 in
set_option maxHeartbeats 400000 in
theorem cr_n_coder (l : Launch) (D : va_G) (cy : Nat → ClassId) (B : Nat) (od : Nat → Option Nat) {A : AH} {a v : Nat} (hs : A a = some (.inr (13, [.ref v, .int (nI 0), .int (nI 0), .int (nI 0)]))) : CR l D cy B od yJ0_coder_7d493 cJ0_coder_7d493 1 (some .byte) rmJ0_coder_7d493 [.ref a] A (.int (nI 0)) := by
  intro z
  refine CT.of (by decide) tJ0_coder_7d493 okJ0_coder_7d493 (Nat.le_of_ble_eq_true rfl) (q0 := tJ0_coder_7d493[0]) rfl rfl ?_
  intro p e s m args below meth c X hnm
  refine g_gcs X rfl fsK ?_
  refine g_if_eq X rfl (fun h => absurd h (by decide)) (fun _ => ?_)
  · skip
    refine g_aload_n X rfl rfl ?_
    refine g_get X rfl flJ0_15 (ci := 13) rfl (hs) rfl ?_
    refine g_goto X rfl ?_
    exact g_iret X rfl rfl (by first | rfl | exact bI_nar _ | decide) (Nat.le_of_ble_eq_true rfl) (Nat.le_of_ble_eq_true rfl) ⟨rfl, rfl, rfl⟩
set_option maxRecDepth 100000 in
set_option maxHeartbeats 400000 in
theorem cr_n_length (l : Launch) (D : va_G) (cy : Nat → ClassId) (B : Nat) (od : Nat → Option Nat) {A : AH} {a v n : Nat} {f : Nat → Int32} (hs : A a = some (.inr (13, [.ref v, .int (nI 0), .int (nI 0), .int (nI 0)]))) (hv : A v = some (.inl (cy 3, n, .inl f))) (hn : n < 10000) : CR l D cy B od yJ0_length_8abf5 cJ0_length_8abf5 1 (some .int) rmJ0_length_8abf5 [.ref a] A (.int (nI n)) := by
  intro z
  refine CT.of (by decide) tJ0_length_8abf5 okJ0_length_8abf5 (Nat.le_of_ble_eq_true rfl) (q0 := tJ0_length_8abf5[0]) rfl rfl ?_
  intro p e s m args below meth c X hnm
  refine g_aload_n X rfl rfl ?_
  refine g_get X rfl flJ0_9 (ci := 13) rfl (hs) rfl ?_
  refine g_alenb X rfl hv ?_
  refine g_aload_n X rfl rfl ?_
  refine g_rV X rfl lcJ0_coder_7d493 lmJ0_335 lsJ0_coder_7d493 (cr_n_coder l D cy B od hs) (ci := 13) (hs) rfl rfl rfl (Nat.le_of_ble_eq_true rfl) ⟨⟨by decide, by decide⟩, rfl, rfl⟩ ⟨Nat.le_of_ble_eq_true rfl, Nat.le_of_ble_eq_true rfl⟩ ?_
  refine g_ishr X rfl ?_
  rw [show (nI n >>> (nI 0 &&& 31)) = nI n from shr0 _]
  exact g_iret X rfl rfl (by first | rfl | exact bI_nar _ | decide) (Nat.le_of_ble_eq_true rfl) (Nat.le_of_ble_eq_true rfl) ⟨rfl, rfl, rfl⟩
set_option maxRecDepth 100000 in
set_option maxHeartbeats 400000 in
theorem cr_n_isLatin1 (l : Launch) (D : va_G) (cy : Nat → ClassId) (B : Nat) (od : Nat → Option Nat) {A : AH} {a v : Nat} (hs : A a = some (.inr (13, [.ref v, .int (nI 0), .int (nI 0), .int (nI 0)]))) : CR l D cy B od yJ0_isLatin1_aae02 cJ0_isLatin1_aae02 1 (some .boolean) rmJ0_isLatin1_aae02 [.ref a] A (.int (nI 1)) := by
  intro z
  refine CT.of (by decide) tJ0_isLatin1_aae02 okJ0_isLatin1_aae02 (Nat.le_of_ble_eq_true rfl) (q0 := tJ0_isLatin1_aae02[0]) rfl rfl ?_
  intro p e s m args below meth c X hnm
  refine g_gcs X rfl fsK ?_
  refine g_if_eq X rfl (fun h => absurd h (by decide)) (fun _ => ?_)
  · skip
    refine g_aload_n X rfl rfl ?_
    refine g_get X rfl flJ0_15 (ci := 13) rfl (hs) rfl ?_
    refine g_if_ne X rfl (fun h => absurd rfl h) (fun _ => ?_)
    · skip
      refine g_iconst X rfl (v := nI 1) (by decide) ?_
      refine g_goto X rfl ?_
      exact g_iret X rfl rfl (by decide) (Nat.le_of_ble_eq_true rfl) (Nat.le_of_ble_eq_true rfl) ⟨rfl, rfl, rfl⟩
set_option maxRecDepth 100000 in
set_option maxHeartbeats 400000 in
theorem cr_n_latChar (l : Launch) (D : va_G) (cy : Nat → ClassId) (B : Nat) (od : Nat → Option Nat) {A : AH} {v n k ch : Nat} {f : Nat → Int32} (hv : A v = some (.inl (cy 3, n, .inl f))) (hn : n < 10000) (hk : k < n) (hc : f k = nI ch) (hc2 : ch < 128) : CR l D cy B od yJ1_charAt_3b067 cJ1_charAt_3b067 2 (some .char) rmJ1_charAt_3b067 [.ref v, .int (nI k)] A (.int (nI ch)) := by
  intro z
  refine CT.of (by decide) tJ1_charAt_3b067 okJ1_charAt_3b067 (Nat.le_of_ble_eq_true rfl) (q0 := tJ1_charAt_3b067[0]) rfl rfl ?_
  intro p e s m args below meth c X hnm
  refine g_iload_n X rfl rfl ?_
  refine g_aload_n X rfl rfl ?_
  refine g_alenb X rfl hv ?_
  refine g_mS X rfl lcJ0_checkIndex_df160 lmJ1_9 stJ0_checkIndex_df160 (cm_J0_checkIndex_df160 l D cy B od hk (by omega)) rfl rfl (Nat.le_of_ble_eq_true rfl) ⟨⟨by decide, by decide⟩, rfl, rfl⟩ ⟨Nat.le_of_ble_eq_true rfl, Nat.le_of_ble_eq_true rfl⟩ (fun v A1 q => ?_)
  obtain ⟨rfl, rfl⟩ := q
  refine g_aload_n X rfl rfl ?_
  refine g_iload_n X rfl rfl ?_
  refine g_bald X rfl hv hk (by omega) ?_
  rw [hc]
  refine g_sipush X rfl (v := nI 255) (by decide) ?_
  refine g_iand X rfl ?_
  refine g_i2c X rfl ?_
  rw [(chr_c ch hc2).1]
  exact g_iret X rfl rfl (chr_c ch hc2).2 (Nat.le_of_ble_eq_true rfl) (Nat.le_of_ble_eq_true rfl) ⟨rfl, rfl, rfl⟩
set_option maxRecDepth 100000 in
set_option maxHeartbeats 400000 in
theorem cr_n_charAt (l : Launch) (D : va_G) (cy : Nat → ClassId) (B : Nat) (od : Nat → Option Nat) {A : AH} {a v n : Nat} {f : Nat → Int32} (hs : A a = some (.inr (13, [.ref v, .int (nI 0), .int (nI 0), .int (nI 0)]))) (hv : A v = some (.inl (cy 3, n, .inl f))) (hn : n < 10000) {k ch : Nat} (hk : k < n) (hc : f k = nI ch) (hc2 : ch < 128) : CR l D cy B od yJ0_charAt_5068e cJ0_charAt_5068e 2 (some .char) rmJ0_charAt_5068e [.ref a, .int (nI k)] A (.int (nI ch)) := by
  intro z
  refine CT.of (by decide) tJ0_charAt_5068e okJ0_charAt_5068e (Nat.le_of_ble_eq_true rfl) (q0 := tJ0_charAt_5068e[0]) rfl rfl ?_
  intro p e s m args below meth c X hnm
  refine g_aload_n X rfl rfl ?_
  refine g_rV X rfl lcJ0_isLatin1_aae02 lmJ0_492 lsJ0_isLatin1_aae02 (cr_n_isLatin1 l D cy B od hs) (ci := 13) (hs) rfl rfl rfl (Nat.le_of_ble_eq_true rfl) ⟨⟨by decide, by decide⟩, rfl, rfl⟩ ⟨Nat.le_of_ble_eq_true rfl, Nat.le_of_ble_eq_true rfl⟩ ?_
  refine g_if_eq X rfl (fun h => absurd h (by decide)) (fun _ => ?_)
  · skip
    refine g_aload_n X rfl rfl ?_
    refine g_get X rfl flJ0_9 (ci := 13) rfl (hs) rfl ?_
    refine g_iload_n X rfl rfl ?_
    refine g_rS X rfl lcJ1_charAt_3b067 lmJ0_495 stJ1_charAt_3b067 (cr_n_latChar l D cy B od hv hn hk hc hc2) rfl rfl (Nat.le_of_ble_eq_true rfl) ⟨⟨by decide, by decide⟩, rfl, rfl⟩ ⟨Nat.le_of_ble_eq_true rfl, Nat.le_of_ble_eq_true rfl⟩ ?_
    exact g_iret X rfl rfl (chr_c ch hc2).2 (Nat.le_of_ble_eq_true rfl) (Nat.le_of_ble_eq_true rfl) ⟨rfl, rfl, rfl⟩
theorem cr_s_coder (l : Launch) (D : va_G) (cy : Nat → ClassId) (B : Nat) (od : Nat → Option Nat) {A : AH} {a : Nat} {tx : List Nat} (hs : StrA cy A a tx) : CR l D cy B od yJ0_coder_7d493 cJ0_coder_7d493 1 (some .byte) rmJ0_coder_7d493 [.ref a] A (.int (nI 0)) := by
  obtain ⟨-, -, ⟨v, f, h3, -⟩ | ⟨j, hj, rfl, -⟩⟩ := hs
  · exact cr_n_coder l D cy B od h3
  · exact cr_J0_coder_7d493 l D cy B od hj
theorem cr_s_length (l : Launch) (D : va_G) (cy : Nat → ClassId) (B : Nat) (od : Nat → Option Nat) {A : AH} {a : Nat} {tx : List Nat} (hs : StrA cy A a tx) : CR l D cy B od yJ0_length_8abf5 cJ0_length_8abf5 1 (some .int) rmJ0_length_8abf5 [.ref a] A (.int (nI tx.length)) := by
  obtain ⟨-, h9, ⟨v, f, h3, h4, -⟩ | ⟨j, hj, rfl, h4, -⟩⟩ := hs
  · exact cr_n_length l D cy B od h3 h4 h9
  · rw [← h4]; exact cr_J0_length_8abf5 l D cy B od hj
theorem cr_s_charAt (l : Launch) (D : va_G) (cy : Nat → ClassId) (B : Nat) (od : Nat → Option Nat) {A : AH} {a : Nat} {tx : List Nat} (hs : StrA cy A a tx) {k : Nat} (hk : k < tx.length) : CR l D cy B od yJ0_charAt_5068e cJ0_charAt_5068e 2 (some .char) rmJ0_charAt_5068e [.ref a, .int (nI k)] A (.int (txB tx k)) := by
  obtain ⟨h8, h9, ⟨v, f, h3, h4, h5⟩ | ⟨j, hj, rfl, h4, h5⟩⟩ := hs
  · exact cr_n_charAt l D cy B od h3 h4 h9 hk (h5 k hk) (h8 k hk)
  · rw [← h5 k hk]; exact cr_J0_charAt_5068e l D cy B od hj (by omega)
theorem shl0 (x : Int32) : x <<< ((0 : Int32) &&& 31) = x := by
  rw [show ((0 : Int32) &&& 31) = 0 by decide]
  simp
set_option maxRecDepth 100000 in
set_option maxHeartbeats 400000 in
theorem cm_getBytes (l : Launch) (D : va_G) (cy : Nat → ClassId) (B : Nat) (od : Nat → Option Nat) {A : AH} {a d cap dp : Nat} {tx : List Nat} {g : Nat → Int32} (hs : StrA cy A a tx) (hd : A d = some (.inl (cy 3, cap, .inl g))) (hc : dp + tx.length ≤ cap) (hc2 : cap < 10000) : CM l D cy B od yJ0_getBytes_840e7 cJ0_getBytes_840e7 4 none rmJ0_getBytes_840e7 [.ref a, .ref d, .int (nI dp), .int (nI 0)] A (fun v A' => v = none ∧ ∃ g', A' = upA A d (.inl (cy 3, cap, .inl g')) ∧ ∀ k, k < cap → g' k = if dp ≤ k ∧ k < dp + tx.length then txB tx (k - dp) else g k) := by
  intro z
  refine CT.of (by decide) tJ0_getBytes_840e7 okJ0_getBytes_840e7 (Nat.le_of_ble_eq_true rfl) (q0 := tJ0_getBytes_840e7[0]) rfl rfl ?_
  intro p e s m args below meth c X hnm
  obtain ⟨h8, h9, ⟨v, f, h3, h4, h5⟩ | ⟨j, hj, rfl, h4, h5⟩⟩ := id hs
  · refine g_aload_n X rfl rfl ?_
    refine g_sV X rfl lcJ0_coder_7d493 lmJ0_335 lsJ0_coder_7d493 rfl (cr_s_coder l D cy B od hs) hs rfl rfl (Nat.le_of_ble_eq_true rfl) ⟨⟨by decide, by decide⟩, rfl, rfl⟩ ⟨Nat.le_of_ble_eq_true rfl, Nat.le_of_ble_eq_true rfl⟩ ?_
    refine g_iload_n X rfl rfl ?_
    refine g_icmp_ne X rfl (fun h => absurd rfl h) (fun _ => ?_)
    · skip
      refine g_aload_n X rfl rfl ?_
      refine g_get X rfl flJ0_9 (ci := 13) rfl (h3) rfl ?_
      refine g_iconst X rfl (v := nI 0) (by decide) ?_
      refine g_aload_n X rfl rfl ?_
      refine g_iload_n X rfl rfl ?_
      refine g_iload_n X rfl rfl ?_
      refine g_ishl X rfl ?_
      rw [show (nI dp <<< (nI 0 &&& 31)) = nI dp from shl0 _]
      refine g_aload_n X rfl rfl ?_
      refine g_get X rfl flJ0_9 (ci := 13) rfl (h3) rfl ?_
      refine g_alenb X rfl h4 ?_
      refine g_copyb X rfl cpJ0_212 (sp := 0) (dp := dp) h4 hd (by omega) hc (by omega) (by omega) (fun j hj => by rw [Nat.zero_add, h5 j hj]; exact fits_c _ (h8 j hj)) (Nat.le_of_ble_eq_true rfl) ⟨by decide, by decide⟩ ?_
      refine g_goto X rfl ?_
      refine g_vret X rfl rfl (Nat.le_of_ble_eq_true rfl) (Nat.le_of_ble_eq_true rfl) ⟨rfl, rfl, _, rfl, fun k hk => ?_⟩
      unfold va_cpy
      by_cases e9 : dp ≤ k ∧ k < dp + tx.length
      · rw [if_pos e9, if_pos e9, Nat.zero_add]; exact h5 _ (by omega)
      · rw [if_neg e9, if_neg e9]
  · refine g_aload_n X rfl rfl ?_
    refine g_sV X rfl lcJ0_coder_7d493 lmJ0_335 lsJ0_coder_7d493 rfl (cr_s_coder l D cy B od hs) hs rfl rfl (Nat.le_of_ble_eq_true rfl) ⟨⟨by decide, by decide⟩, rfl, rfl⟩ ⟨Nat.le_of_ble_eq_true rfl, Nat.le_of_ble_eq_true rfl⟩ ?_
    refine g_iload_n X rfl rfl ?_
    refine g_icmp_ne X rfl (fun h => absurd rfl h) (fun _ => ?_)
    · skip
      refine g_aload_n X rfl rfl ?_
      refine g_sval X hj rfl fsV ?_
      refine g_iconst X rfl (v := nI 0) (by decide) ?_
      refine g_aload_n X rfl rfl ?_
      refine g_iload_n X rfl rfl ?_
      refine g_iload_n X rfl rfl ?_
      refine g_ishl X rfl ?_
      rw [show (nI dp <<< (nI 0 &&& 31)) = nI dp from shl0 _]
      refine g_aload_n X rfl rfl ?_
      refine g_sval X hj rfl fsV ?_
      refine g_salen X hj rfl ?_
      rw [h4]
      refine g_copys X rfl cpJ0_212 (sp := 0) (dp := dp) (n := tx.length) hj hd (by omega) hc (by omega) (fun j2 hj2 => by rw [Nat.zero_add, h5 j2 hj2]; exact fits_c _ (h8 j2 hj2)) (Nat.le_of_ble_eq_true rfl) ⟨by decide, by decide⟩ ?_
      refine g_goto X rfl ?_
      refine g_vret X rfl rfl (Nat.le_of_ble_eq_true rfl) (Nat.le_of_ble_eq_true rfl) ⟨rfl, rfl, _, rfl, fun k hk => ?_⟩
      unfold va_cpy
      by_cases e9 : dp ≤ k ∧ k < dp + tx.length
      · rw [if_pos e9, if_pos e9, Nat.zero_add]; exact h5 _ (by omega)
      · rw [if_neg e9, if_neg e9]
set_option maxRecDepth 100000 in
set_option maxHeartbeats 400000 in
theorem cr_sb_isLatin1 (l : Launch) (D : va_G) (cy : Nat → ClassId) (B : Nat) (od : Nat → Option Nat) {A : AH} {b v : Nat} {tx : List Nat} (hb : SbA cy A b v tx) : CR l D cy B od yJ5_isLatin1_aae02 cJ5_isLatin1_aae02 1 (some .boolean) rmJ5_isLatin1_aae02 [.ref b] A (.int (nI 1)) := by
  intro z
  refine CT.of (by decide) tJ5_isLatin1_aae02 okJ5_isLatin1_aae02 (Nat.le_of_ble_eq_true rfl) (q0 := tJ5_isLatin1_aae02[0]) rfl rfl ?_
  intro p e s m args below meth c X hnm
  obtain ⟨cap, ml, f, hasc, h2, h3, h4, h5, h6, h7⟩ := id hb
  refine g_gcs X rfl gsJ5_18 ?_
  refine g_if_eq X rfl (fun h => absurd h (by decide)) (fun _ => ?_)
  · skip
    refine g_aload_n X rfl rfl ?_
    refine g_get X rfl flJ5_22 (ci := 12) rfl (h2) rfl ?_
    refine g_if_ne X rfl (fun h => absurd rfl h) (fun _ => ?_)
    · skip
      refine g_iconst X rfl (v := nI 1) (by decide) ?_
      refine g_goto X rfl ?_
      exact g_iret X rfl rfl (by decide) (Nat.le_of_ble_eq_true rfl) (Nat.le_of_ble_eq_true rfl) ⟨rfl, rfl, rfl⟩
set_option maxRecDepth 100000 in
set_option maxHeartbeats 400000 in
theorem cr_sb_length5 (l : Launch) (D : va_G) (cy : Nat → ClassId) (B : Nat) (od : Nat → Option Nat) {A : AH} {b v : Nat} {tx : List Nat} (hb : SbA cy A b v tx) : CR l D cy B od yJ5_length_8abf5 cJ5_length_8abf5 1 (some .int) rmJ5_length_8abf5 [.ref b] A (.int (nI tx.length)) := by
  intro z
  refine CT.of (by decide) tJ5_length_8abf5 okJ5_length_8abf5 (Nat.le_of_ble_eq_true rfl) (q0 := tJ5_length_8abf5[0]) rfl rfl ?_
  intro p e s m args below meth c X hnm
  obtain ⟨cap, ml, f, hasc, h2, h3, h4, h5, h6, h7⟩ := id hb
  refine g_aload_n X rfl rfl ?_
  refine g_get X rfl flJ5_79 (ci := 12) rfl (h2) rfl ?_
  exact g_iret X rfl rfl (by first | rfl | exact bI_nar _ | decide) (Nat.le_of_ble_eq_true rfl) (Nat.le_of_ble_eq_true rfl) ⟨rfl, rfl, rfl⟩
set_option maxRecDepth 100000 in
set_option maxHeartbeats 400000 in
theorem cr_sb_getValue (l : Launch) (D : va_G) (cy : Nat → ClassId) (B : Nat) (od : Nat → Option Nat) {A : AH} {b v : Nat} {tx : List Nat} (hb : SbA cy A b v tx) : CR l D cy B od yJ5_getValue_6d5f1 cJ5_getValue_6d5f1 1 (some (.array .byte)) rmJ5_getValue_6d5f1 [.ref b] A (.ref v) := by
  intro z
  refine CT.of (by decide) tJ5_getValue_6d5f1 okJ5_getValue_6d5f1 (Nat.le_of_ble_eq_true rfl) (q0 := tJ5_getValue_6d5f1[0]) rfl rfl ?_
  intro p e s m args below meth c X hnm
  obtain ⟨cap, ml, f, hasc, h2, h3, h4, h5, h6, h7⟩ := id hb
  refine g_aload_n X rfl rfl ?_
  refine g_get X rfl flJ5_15 (ci := 12) rfl (h2) rfl ?_
  exact g_aretA X rfl rfl (Nat.le_of_ble_eq_true rfl) (Nat.le_of_ble_eq_true rfl) ⟨rfl, rfl, rfl⟩
set_option maxRecDepth 100000 in
set_option maxHeartbeats 400000 in
theorem cr_canEncode (l : Launch) (D : va_G) (cy : Nat → ClassId) (B : Nat) (od : Nat → Option Nat) {A : AH} {ch : Nat} (hc : ch < 128) : CR l D cy B od yJ1_canEncode_fc78d cJ1_canEncode_fc78d 1 (some .boolean) rmJ1_canEncode_fc78d [.int (nI ch)] A (.int (nI 1)) := by
  intro z
  refine CT.of (by decide) tJ1_canEncode_fc78d okJ1_canEncode_fc78d (Nat.le_of_ble_eq_true rfl) (q0 := tJ1_canEncode_fc78d[0]) rfl rfl ?_
  intro p e s m args below meth c X hnm
  refine g_iload_n X rfl rfl ?_
  refine g_sipush X rfl (v := nI 255) (by decide) ?_
  refine g_ic_gtN X rfl (by omega) (by omega) (fun h => absurd h (by omega)) (fun _ => ?_)
  · skip
    refine g_iconst X rfl (v := nI 1) (by decide) ?_
    refine g_goto X rfl ?_
    exact g_iret X rfl rfl (by decide) (Nat.le_of_ble_eq_true rfl) (Nat.le_of_ble_eq_true rfl) ⟨rfl, rfl, rfl⟩
set_option maxRecDepth 100000 in
set_option maxHeartbeats 400000 in
theorem cr_newLen2 (l : Launch) (D : va_G) (cy : Nat → ClassId) (B : Nat) (od : Nat → Option Nat) {A : AH} {n k h : Nat} (hn : n < 1000) (h1 : k < 1000) (h2 : h < 1000) (h3 : 1 ≤ h) : CR l D cy B od yJ8_newLength_cabcc cJ8_newLength_cabcc 4 (some .int) rmJ8_newLength_cabcc [.int (nI n), .int (nI k), .int (nI h)] A (.int (nI (n + max k h))) := by
  intro z
  refine CT.of (by decide) tJ8_newLength_cabcc okJ8_newLength_cabcc (Nat.le_of_ble_eq_true rfl) (q0 := tJ8_newLength_cabcc[0]) rfl rfl ?_
  intro p e s m args below meth c X hnm
  refine g_iload_n X rfl rfl ?_
  refine g_iload_n X rfl rfl ?_
  refine g_iload_n X rfl rfl ?_
  refine g_m_max_i X rfl lmJ8_194 (Nat.le_of_ble_eq_true rfl) ⟨by decide, by decide⟩ ⟨Nat.le_of_ble_eq_true rfl, Nat.le_of_ble_eq_true rfl⟩ ?_
  rw [show (if nI k < nI h then nI h else nI k) = nI (max k h) from by rw [ltN (by omega) (by omega)]; by_cases e : k < h; (rw [if_pos e, Nat.max_eq_right (by omega)]); rw [if_neg e, Nat.max_eq_left (by omega)]]
  refine g_iadd X rfl ?_
  rw [nI_add]
  first | refine g_istore_nS X rfl (by decide) rfl ?_ | refine g_istore_n X rfl (by decide) ?_
  refine g_iconst X rfl (v := nI 0) (by decide) ?_
  refine g_iload_n X rfl rfl ?_
  refine g_icmp_ge X rfl (fun q => absurd q (nI_ge (by omega) (by omega))) (fun _ => ?_)
  · refine g_iload_n X rfl rfl ?_
    refine g_ldc X rfl kcJ8_200 ?_
    refine g_icmp_gt X rfl (fun q => absurd q (nI_nlt (by omega) (by omega))) (fun _ => ?_)
    · refine g_iload_n X rfl rfl ?_
      exact g_iret X rfl rfl (by first | rfl | exact bI_nar _ | decide) (Nat.le_of_ble_eq_true rfl) (Nat.le_of_ble_eq_true rfl) ⟨rfl, rfl, rfl⟩
set_option maxRecDepth 100000 in
set_option maxHeartbeats 400000 in
theorem cr_newCap (l : Launch) (D : va_G) (cy : Nat → ClassId) (B : Nat) (od : Nat → Option Nat) {A : AH} {b v cap mn len9 : Nat} {ml : Int32} {f : Nat → Int32} (h2 : A b = some (.inr (12, [.ref v, .int (nI 0), .int ml, .int (nI len9)]))) (h3 : A v = some (.inl (cy 3, cap, .inl f))) (hc : cap < mn) (hm : mn ≤ 300) : CR l D cy B od yJ5_newCapacity_0f7a4 cJ5_newCapacity_0f7a4 6 (some .int) rmJ5_newCapacity_0f7a4 [.ref b, .int (nI mn)] A (.int (nI (cap + max (mn - cap) (cap + 2)))) := by
  intro z
  refine CT.of (by decide) tJ5_newCapacity_0f7a4 okJ5_newCapacity_0f7a4 (Nat.le_of_ble_eq_true rfl) (q0 := tJ5_newCapacity_0f7a4[0]) rfl rfl ?_
  intro p e s m args below meth c X hnm
  refine g_aload_n X rfl rfl ?_
  refine g_get X rfl flJ5_15 (ci := 12) rfl (h2) rfl ?_
  refine g_alenb X rfl h3 ?_
  first | refine g_istore_nS X rfl (by decide) rfl ?_ | refine g_istore_n X rfl (by decide) ?_
  refine g_iload_n X rfl rfl ?_
  refine g_aload_n X rfl rfl ?_
  refine g_get X rfl flJ5_22 (ci := 12) rfl (h2) rfl ?_
  refine g_ishl X rfl ?_
  rw [show (nI mn <<< (nI 0 &&& 31)) = nI mn from shl0 _]
  first | refine g_istore_nS X rfl (by decide) rfl ?_ | refine g_istore_n X rfl (by decide) ?_
  refine g_iload_n X rfl rfl ?_
  refine g_iload_n X rfl rfl ?_
  refine g_isub X rfl ?_
  rw [pk_sub (by omega)]
  first | refine g_istoreS X rfl (by decide) rfl ?_ | refine g_istore X rfl (by decide) ?_
  refine g_iload_n X rfl rfl ?_
  refine g_iload X rfl rfl ?_
  refine g_iload_n X rfl rfl ?_
  refine g_iconst X rfl (v := nI 2) (by decide) ?_
  refine g_aload_n X rfl rfl ?_
  refine g_get X rfl flJ5_22 (ci := 12) rfl (h2) rfl ?_
  refine g_ishl X rfl ?_
  rw [show (nI 2 <<< (nI 0 &&& 31)) = nI 2 from shl0 _]
  refine g_iadd X rfl ?_
  rw [nI_add]
  refine g_rS X rfl lcJ8_newLength_cabcc lmJ5_114 stJ8_newLength_cabcc (cr_newLen2 l D cy B od (by omega) (by omega) (by omega) (by omega)) rfl rfl (Nat.le_of_ble_eq_true rfl) ⟨⟨by decide, by decide⟩, rfl, rfl⟩ ⟨Nat.le_of_ble_eq_true rfl, Nat.le_of_ble_eq_true rfl⟩ ?_
  first | refine g_istoreS X rfl (by decide) rfl ?_ | refine g_istore X rfl (by decide) ?_
  refine g_iload X rfl rfl ?_
  refine g_ldc X rfl kcJ5_39 ?_
  refine g_ic_neN X rfl (by omega) (by omega) (fun _ => ?_) (fun h => absurd h (by omega))
  · skip
    refine g_iload X rfl rfl ?_
    refine g_aload_n X rfl rfl ?_
    refine g_get X rfl flJ5_22 (ci := 12) rfl (h2) rfl ?_
    refine g_ishr X rfl ?_
    rw [show (nI (cap + max (mn - cap) (cap + 2)) >>> (nI 0 &&& 31)) = nI (cap + max (mn - cap) (cap + 2)) from shr0 _]
    exact g_iret X rfl rfl (by first | rfl | exact bI_nar _ | decide) (Nat.le_of_ble_eq_true rfl) (Nat.le_of_ble_eq_true rfl) ⟨rfl, rfl, rfl⟩
set_option maxRecDepth 100000 in
set_option maxHeartbeats 400000 in
theorem ct_copyOfB (l : Launch) (D : va_G) (cy : Nat → ClassId) (B : Nat) (od : Nat → Option Nat) {A : AH} {v cap N z : Nat} {f : Nat → Int32} (h3 : A v = some (.inl (cy 3, cap, .inl f))) (hN : cap < N) (hN2 : N ≤ 602) (hfit : ∀ j, j < cap → fits .byte (.int (f j)) = true) (hF : FRs A z) (hz : z < 1000000) : CT l D cy B od yJ7_copyOf_9075b cJ7_copyOf_9075b 3 (some (.array .byte)) rmJ7_copyOf_9075b [.ref v, .int (nI N)] A (z + 1) (fun v A' z' => v = some (.ref z) ∧ z' = z + 2 ∧ A' = upA A z (.inl (cy 3, N, .inl (va_cpy f (fun _ => 0) 0 0 cap)))) := by
  refine CT.of (by decide) tJ7_copyOf_9075b okJ7_copyOf_9075b (Nat.le_of_ble_eq_true rfl) (q0 := tJ7_copyOf_9075b[0]) rfl rfl ?_
  intro p e s m args below meth c X hnm
  have hvz : v ≠ z := fun e => by subst e; rw [hF.at] at h3; cases h3
  refine g_iload_n X rfl rfl ?_
  refine g_aload_n X rfl rfl ?_
  refine g_alenb X rfl h3 ?_
  refine g_ic_neN X rfl (by omega) (by omega) (fun _ => ?_) (fun h => absurd h (by omega))
  · skip
    refine g_iload_n X rfl rfl ?_
    refine g_newab X rfl aw_b (N := N) (nI_pos (by omega)) (nI_clamp (by omega)) (by omega) hz (Nat.le_of_ble_eq_true rfl) (by show 0 + N ≤ 1000; omega) ?_
    first | refine g_astore_nS X rfl (by decide) rfl ?_ | refine g_astore_n X rfl (by decide) ?_
    refine g_aload_n X rfl rfl ?_
    refine g_iconst X rfl (v := nI 0) (by decide) ?_
    refine g_aload_n X rfl rfl ?_
    refine g_iconst X rfl (v := nI 0) (by decide) ?_
    refine g_aload_n X rfl rfl ?_
    refine g_alenb X rfl ((upA_ne hvz).trans h3) ?_
    refine g_iload_n X rfl rfl ?_
    refine g_m_min_i X rfl lmJ7_304 (Nat.le_of_ble_eq_true rfl) ⟨by decide, by decide⟩ ⟨(Nat.le_of_ble_eq_true rfl), (by show 0 + N ≤ 1000; omega)⟩ ?_
    rw [show (if nI N < nI cap then nI N else nI cap) = nI cap from if_neg (nI_nlt (by omega) (by omega))]
    refine g_copyb X rfl cpJ7_150 (sp := 0) (dp := 0) ((upA_ne hvz).trans h3) upA_eq (by omega) (by omega) (by omega) (by omega) (fun j hj => by rw [Nat.zero_add]; exact hfit j hj) (Nat.le_of_ble_eq_true rfl) ⟨by decide, by decide⟩ ?_
    refine g_aload_n X rfl rfl ?_
    refine g_aretA X rfl rfl (Nat.le_of_ble_eq_true rfl) (by show 0 + N ≤ 1000; omega) ⟨rfl, rfl, ?_⟩
    exact upA_up
