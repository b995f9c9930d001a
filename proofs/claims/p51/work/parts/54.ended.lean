/-! 54: builders are made and end as strings -/
/-- rooms with what is really run in them -/
abbrev rqJ5_init_a7421 : Room := { frames := 7, cells := 2, slots := 1200, locals := 155 }
abbrev rqJ4_init_a7421 : Room := { frames := 8, cells := 2, slots := 1200, locals := 179 }
abbrev rqJ4_length_8abf5 : Room := { frames := 1, cells := 0, slots := 0, locals := 20 }
section CORE54
variable {p : Program} {l : Launch} {e : Env} {R : Room} {s : State} {m : MethodId} {args : Array Value} {below : List Frame} {meth : Method} {c : Code}
variable {D : va_G} {cy : Nat → ClassId} {B : Nat} {od : Nat → Option Nat} {cc : ByteArray} {nL : Nat} {tab : List PT} {own : String} {ret : Option FieldType}
variable {F : State → Prop} {cells slots : Nat} {A : AH} {z i pc len nx tg : Nat} {lv : List (Option Value)} {st : List Value}
theorem g_cloneB (X : Cx p s m args meth c D cy B od cc nL tab own ret) {ix : Nat} (hi : tab[i]? = some (pc, .invokevirtual ix, 3, nx, tg)) (hw : ClW own ix "[B") {a n : Nat} {f : Nat → Int32} (hA : A a = some (.inl (cy 3, n, .inl f))) (hfit : ∀ j, j < n → fits .byte (.int (f j)) = true) (hz : z < 1000000) (hst : (st.map fun v => v.category).sum ≤ 8) (hRm : 1 ≤ R.frames ∧ 40 ≤ R.locals) (hcells : cells + 1 ≤ R.cells) (hslots : slots + n ≤ R.slots)
    (kk : G p l e R s m args below meth c D B od nL tab F (cells + 1) (slots + n) (upA A z (.inl (cy 3, n, .inl f))) (z + 2) nx lv (.ref z :: st)) : G p l e R s m args below meth c D B od nL tab F cells slots A (z + 1) i lv (.ref a :: st) := by
  intro q hq H locs ls hR hS hl
  cases Option.some.inj (hi.symm.trans hq)
  obtain ⟨q2, hq2, e2⟩ := X.2.2.2.1.fall hi rfl
  obtain ⟨hlt, hat⟩ := hR.1 a _ hA
  have c0 : H[rho B od a]? = some (vp_cell (cy 3) (n, .inl f)) := hat
  have hnm : s.vm.findClass "[B" = some (cy 3) := tysc_cls (t0 := 3) (ty := .byte) X.2.1 rfl
  have hcl := X.ox.2.1 ("[B", "java/lang/Cloneable") (by simp [castL])
  obtain ⟨c9, t9, f1, f2, f3⟩ := Cond.castable_spec (va_Nw.use (A := args) rfl hcl)
  cases hnm.symm.trans f1
  have h9 : ((st.map (trV B od)).map fun v => v.category).sum = (st.map fun v => v.category).sum := by
    rw [List.map_map, show ((fun v : Value => v.category) ∘ trV B od) = (fun v => v.category) from funext fun v => trV_cat B od v]
  have hsz : (vp_cell (cy 3) (n, .inl f)).slots.size = n := arrV_size _ _ _
  show W p l e R s m args below meth c H locs cells slots F (F0 m pc ls (.ref (rho B od a) :: st.map (trV B od)))
  intro T hT XS
  have hcellT : T.heap[rho B od a]? = some (vp_cell (cy 3) (n, .inl f)) := by rw [hT]; exact c0
  obtain ⟨-, kA, hkA, comp, hkind⟩ := State.isArrayOf_alike XS.warmed.alike ((X.2.1.2 3 _ rfl).1 0 (fun _ => .null))
  obtain ⟨-, kS, hkS, compS, hkindS⟩ := (X.2.1.2 3 _ rfl).1 0 (fun _ => .null)
  obtain ⟨vm', X', step⟩ := XS.cloneArray X.1.1 X.1.2.2.2.1 (X.1.2.2.2.2 _ hw.1) (X.1.2.2.2.2 _ hw.2.1) (X.1.2.2.2.2 _ hw.2.2.1) (X.1.2.2.2.2 _ hw.2.2.2.1) (X.1.2.2.2.2 _ hw.2.2.2.2) (a := rho B od a) (cell := vp_cell (cy 3) (n, .inl f)) hcellT (fun k h => by cases h) (fun h => by cases h) hnm f2 f3
    (fun j v hv => by
      have hk' : T.vm.classes[cy 3]? = some kA := hkA
      have hv2 : (arrV (cy 3) n (fun j => .int (f j))).slots[j]? = some v := hv
      have hjn : j < n := by
        have := (Array.getElem?_eq_some_iff.mp hv2).1
        rw [arrV_size] at this; exact this
      rw [arrV_read _ _ hjn] at hv2
      cases hv2
      show T.fitsSlot (cy 3) _ _ _ = true
      simp [State.fitsSlot, State.slotType?, hk', hkind, hfit j hjn])
    (g := F0 m pc ls (.ref (rho B od a) :: st.map (trV B od))) rfl (by show ls.size = c.maxLocals; rw [hl.1, X.1.2.2.1]) rfl (by rw [X.1.2.1]; exact X.2.2.2.1.dec hi) hRm.1 (by show 2 * 0 + _ + 14 ≤ _; rw [h9]; omega) hcells (by rw [hsz]; exact hslots) (hloader := Vm.clonesLoader_of_array hkS hkindS)
  rw [hsz] at X'
  generalize hH1 : H.push (vp_cell (cy 3) (n, .inl f)) = H1
  have z1 : H1.size = H.size + 1 := by rw [← hH1, Array.size_push]
  have e1 : H1[H.size]? = some (vp_cell (cy 3) (n, .inl f)) := by rw [← hH1, Array.getElem?_push_size]
  have o1 : ∀ q : Nat, q < H.size → H1[q]? = H[q]? := fun q hq => by rw [← hH1, Array.getElem?_push, if_neg (Nat.ne_of_lt hq)]
  have hat1 : va_at D vwCl (H.size, trE B od (.inl (cy 3, n, .inl f))) H1 := e1
  obtain ⟨hR2, hr⟩ := hR.push (X.od0 hz) hat1 z1 o1
  have K := kk q2 hq2 H1 locs ls hR2 (va_Spush hS z1 o1) hl
  rw [e2] at K
  obtain ⟨t, b1, b2⟩ := K ((T.setVm vm').pushCell (vp_cell (cy 3) (n, .inl f))) (by rw [← hH1, ← hT]; rfl) X'
  refine ⟨t, step t ?_, b2⟩
  rw [hT, hr]
  exact b1
end CORE54
set_option maxRecDepth 100000 in
set_option maxHeartbeats 400000 in
theorem ct_sb_init5 (l : Launch) (D : va_G) (cy : Nat → ClassId) (B : Nat) (od : Nat → Option Nat) {A : AH} {b z : Nat} (hb : A b = some (.inr (12, [.null, .int (nI 0), .int (nI 0), .int (nI 0)]))) (hF : FRs A z) (hz : z < 1000000) : CT l D cy B od yJ5_init_d00df cJ5_init_d00df 2 none rmJ5_init_d00df [.ref b, .int (nI 16)] A (z + 1) (fun v9 A' z' => v9 = none ∧ z' = z + 2 ∧ FRs A' (z + 1) ∧ SbE cy A' b z [] 16 (nI 0) (fun _ => 0) ∧ ∀ q, q ≠ b → q ≠ z → A' q = A q) := by
  refine CT.of (by decide) tJ5_init_d00df okJ5_init_d00df (Nat.le_of_ble_eq_true rfl) (q0 := tJ5_init_d00df[0]) rfl rfl ?_
  intro p e s m args below meth c X hnm
  have hbz : b ≠ z := fun e => by subst e; rw [hF.at] at hb; cases hb
  refine g_aload_n X rfl rfl ?_
  refine g_objInit X rfl oiJ5_3 (by decide) (Nat.le_of_ble_eq_true rfl) (by decide) ?_
  refine g_gcs X rfl gsJ5_18 ?_
  refine g_if_eq X rfl (fun h => absurd h (by decide)) (fun _ => ?_)
  · skip
    refine g_aload_n X rfl rfl ?_
    refine g_iload_n X rfl rfl ?_
    refine g_newab X rfl aw_b (N := 16) (nI_pos (by decide)) (nI_clamp (by decide)) (by decide) hz (Nat.le_of_ble_eq_true rfl) (Nat.le_of_ble_eq_true rfl) ?_
    refine g_put X rfl flJ5_15 rfl (ci := 12) rfl ((upA_ne hbz).trans hb) (Nat.le_of_ble_eq_true rfl) (by rfl) (by rfl) ?_
    refine g_aload_n X rfl rfl ?_
    refine g_iconst X rfl (v := nI 0) (by decide) ?_
    refine g_put X rfl flJ5_22 rfl (ci := 12) rfl (upA_eq) (Nat.le_of_ble_eq_true rfl) (by rfl) (by rfl) ?_
    rw [upA_up]
    refine g_goto X rfl ?_
    exact g_vret X rfl rfl (Nat.le_of_ble_eq_true rfl) (Nat.le_of_ble_eq_true rfl) ⟨rfl, rfl, hF.new.up (Nat.lt_succ_of_lt (hF.lt hb)), ⟨fun k hk => absurd hk (Nat.not_lt_zero _), upA_eq, (upA_ne (Ne.symm hbz)).trans upA_eq, Nat.zero_le _, by decide, fun k hk => absurd hk (Nat.not_lt_zero _), fun k _ => rfl⟩, fun q h1 h2 => by rw [upA_ne h1, upA_ne h2]⟩
set_option maxRecDepth 100000 in
set_option maxHeartbeats 400000 in
theorem ct_sb_init (l : Launch) (D : va_G) (cy : Nat → ClassId) (B : Nat) (od : Nat → Option Nat) {A : AH} {b z : Nat} (hb : A b = some (.inr (12, [.null, .int (nI 0), .int (nI 0), .int (nI 0)]))) (hF : FRs A z) (hz : z < 1000000) : CT l D cy B od yJ4_init_da8c8 cJ4_init_da8c8 1 none rmJ4_init_da8c8 [.ref b] A (z + 1) (fun v9 A' z' => v9 = none ∧ z' = z + 2 ∧ FRs A' (z + 1) ∧ SbE cy A' b z [] 16 (nI 0) (fun _ => 0) ∧ ∀ q, q ≠ b → q ≠ z → A' q = A q) := by
  refine CT.of (by decide) tJ4_init_da8c8 okJ4_init_da8c8 (Nat.le_of_ble_eq_true rfl) (q0 := tJ4_init_da8c8[0]) rfl rfl ?_
  intro p e s m args below meth c X hnm
  refine g_aload_n X rfl rfl ?_
  refine g_bipush X rfl (v := nI 16) (by decide) ?_
  refine g_callI X rfl lcJ5_init_d00df lmJ4_1 liJ5_init_d00df rfl (ct_sb_init5 l D cy B od hb hF hz) rfl rfl (Nat.le_of_ble_eq_true rfl) ⟨by decide, by decide⟩ ⟨Nat.le_of_ble_eq_true rfl, Nat.le_of_ble_eq_true rfl⟩ (fun v1 A1 z1 q1 => ?_)
  obtain ⟨rfl, q1⟩ := q1
  exact g_vret X rfl rfl (Nat.le_of_ble_eq_true rfl) (Nat.le_of_ble_eq_true rfl) ⟨rfl, q1⟩
set_option maxRecDepth 100000 in
set_option maxHeartbeats 400000 in
theorem ct_sb_initS5 (l : Launch) (D : va_G) (cy : Nat → ClassId) (B : Nat) (od : Nat → Option Nat) {A : AH} {b a z : Nat} {tx : List Nat} (hb : A b = some (.inr (12, [.null, .int (nI 0), .int (nI 0), .int (nI 0)]))) (hs : StrA cy A a tx) (hlen : tx.length ≤ 100) (hF : FRs A z) (hz : z + 2 ≤ 900000) : CT l D cy B od yJ5_init_a7421 cJ5_init_a7421 5 none rqJ5_init_a7421 [.ref b, .ref a] A (z + 1) (fun v9 A' z' => v9 = none ∧ ∃ v1 z1, z' = z1 + 1 ∧ z ≤ z1 ∧ z1 ≤ z + 2 ∧ z ≤ v1 ∧ FRs A' z1 ∧ SbA cy A' b v1 tx ∧ ∀ q, q ≠ b → q < z → A' q = A q) := by
  refine CT.of (by decide) tJ5_init_a7421 okJ5_init_a7421 (Nat.le_of_ble_eq_true rfl) (q0 := tJ5_init_a7421[0]) rfl rfl ?_
  intro p e s m args below meth c X hnm
  have hbz : b ≠ z := fun e => by subst e; rw [hF.at] at hb; cases hb
  refine g_aload_n X rfl rfl ?_
  refine g_objInit X rfl oiJ5_3 (by decide) (Nat.le_of_ble_eq_true rfl) (by decide) ?_
  refine g_aload_n X rfl rfl ?_
  refine g_sV X rfl lcJ0_length_8abf5 lmJ5_32 lsJ0_length_8abf5 rfl (cr_s_length l D cy B od hs) hs rfl rfl (Nat.le_of_ble_eq_true rfl) ⟨⟨by decide, by decide⟩, rfl, rfl⟩ ⟨Nat.le_of_ble_eq_true rfl, Nat.le_of_ble_eq_true rfl⟩ ?_
  first | refine g_istore_nS X rfl (by decide) rfl ?_ | refine g_istore_n X rfl (by decide) ?_
  refine g_iload_n X rfl rfl ?_
  refine g_ldc X rfl kcJ5_38 ?_
  refine g_ic_geN X rfl (by omega) (by omega) (fun h => absurd h (by omega)) (fun _ => ?_)
  · skip
    refine g_iload_n X rfl rfl ?_
    refine g_bipush X rfl (v := nI 16) (by decide) ?_
    refine g_iadd X rfl ?_
    rw [nI_add]
    refine g_goto X rfl ?_
    first | refine g_istore_nS X rfl (by decide) rfl ?_ | refine g_istore_n X rfl (by decide) ?_
    refine g_aload_n X rfl rfl ?_
    refine g_sV X rfl lcJ0_coder_7d493 lmJ5_40 lsJ0_coder_7d493 rfl (cr_s_coder l D cy B od hs) hs rfl rfl (Nat.le_of_ble_eq_true rfl) ⟨⟨by decide, by decide⟩, rfl, rfl⟩ ⟨Nat.le_of_ble_eq_true rfl, Nat.le_of_ble_eq_true rfl⟩ ?_
    first | refine g_istoreS X rfl (by decide) rfl ?_ | refine g_istore X rfl (by decide) ?_
    refine g_aload_n X rfl rfl ?_
    refine g_iload X rfl rfl ?_
    refine g_put X rfl flJ5_22 rfl (ci := 12) rfl (hb) (Nat.le_of_ble_eq_true rfl) (by rfl) (by rfl) ?_
    refine g_aload_n X rfl rfl ?_
    refine g_iload X rfl rfl ?_
    refine g_if_ne X rfl (fun h => absurd rfl h) (fun _ => ?_)
    · skip
      refine g_iload_n X rfl rfl ?_
      refine g_newab X rfl aw_b (N := tx.length + 16) (nI_pos (by omega)) (nI_clamp (by omega)) (by omega) (by omega) (Nat.le_of_ble_eq_true rfl) (by show 0 + (tx.length + 16) ≤ 1200; omega) ?_
      refine g_goto X rfl ?_
      refine g_put X rfl flJ5_15 rfl (ci := 12) rfl ((upA_ne hbz).trans upA_eq) (Nat.le_of_ble_eq_true rfl) (by rfl) (by rfl) ?_
      refine g_aload_n X rfl rfl ?_
      refine g_aload_n X rfl rfl ?_
      have hE : SbE cy (upA (upA (upA A b (.inr (12, [.null, .int (nI 0), .int (nI 0), .int (nI 0)]))) z (.inl (cy 3, tx.length + 16, .inl (fun _ => 0)))) b (.inr (12, [.ref z, .int (nI 0), .int (nI 0), .int (nI 0)]))) b z [] (tx.length + 16) (nI 0) (fun _ => 0) := ⟨fun k hk => absurd hk (Nat.not_lt_zero _), upA_eq, (upA_ne (Ne.symm hbz)).trans upA_eq, Nat.zero_le _, by omega, fun k hk => absurd hk (Nat.not_lt_zero _), fun k _ => rfl⟩
      have hF2 := ((hF.up (hF.lt hb) (x := .inr (12, [.null, .int (nI 0), .int (nI 0), .int (nI 0)]))).new (x := .inl (cy 3, tx.length + 16, .inl (fun _ => 0)))).up (Nat.lt_succ_of_lt (hF.lt hb)) (x := .inr (12, [.ref z, .int (nI 0), .int (nI 0), .int (nI 0)]))
      have hs2 := hs.fr hF hb (A' := upA (upA (upA A b (.inr (12, [.null, .int (nI 0), .int (nI 0), .int (nI 0)]))) z (.inl (cy 3, tx.length + 16, .inl (fun _ => 0)))) b (.inr (12, [.ref z, .int (nI 0), .int (nI 0), .int (nI 0)]))) (fun q h1 h2 => by rw [upA_ne h1, upA_ne h2, upA_ne h1])
      refine g_callVO X (x := yJ5_append_cf1ce) (C := RJ4) rfl lcJ4_append_cf1ce lmJ5_43 sm_append_s liJ5_append_cf1ce lcJ5_append_cf1ce.1 liJ4_append_cf1ce sel_ap ⟨by decide, by decide +kernel⟩ (ct_appendB l D cy B od hE hs2 (by show 0 + tx.length ≤ 300; omega) hF2 (by omega)) (ci := 12) hE.2.1 rfl rfl rfl (Nat.le_of_ble_eq_true rfl) ⟨by decide, by decide⟩ ⟨by decide, by show 0 + (tx.length + 16) + 1000 ≤ 1200; omega⟩ (fun v9 A9 z9 q9 => ?_)
      obtain ⟨rfl, v1, z1, rfl, hv1, hF1, hb1, hf1⟩ := q9
      refine g_pop X rfl rfl ?_
      refine g_vret X rfl rfl (Nat.le_of_ble_eq_true rfl) (by show 0 + (tx.length + 16) + 1000 ≤ 1200; omega) ⟨rfl, v1, z1, rfl, by omega, by omega, by omega, hF1, hb1, fun q h1 h2 => ?_⟩
      rw [hf1 q h1 (by omega) (by omega), upA_ne h1, upA_ne (by omega), upA_ne h1]
set_option maxRecDepth 100000 in
set_option maxHeartbeats 400000 in
theorem ct_sb_initS (l : Launch) (D : va_G) (cy : Nat → ClassId) (B : Nat) (od : Nat → Option Nat) {A : AH} {b a z : Nat} {tx : List Nat} (hb : A b = some (.inr (12, [.null, .int (nI 0), .int (nI 0), .int (nI 0)]))) (hs : StrA cy A a tx) (hlen : tx.length ≤ 100) (hF : FRs A z) (hz : z + 2 ≤ 900000) : CT l D cy B od yJ4_init_a7421 cJ4_init_a7421 2 none rqJ4_init_a7421 [.ref b, .ref a] A (z + 1) (fun v9 A' z' => v9 = none ∧ ∃ v1 z1, z' = z1 + 1 ∧ z ≤ z1 ∧ z1 ≤ z + 2 ∧ z ≤ v1 ∧ FRs A' z1 ∧ SbA cy A' b v1 tx ∧ ∀ q, q ≠ b → q < z → A' q = A q) := by
  refine CT.of (by decide) tJ4_init_a7421 okJ4_init_a7421 (Nat.le_of_ble_eq_true rfl) (q0 := tJ4_init_a7421[0]) rfl rfl ?_
  intro p e s m args below meth c X hnm
  refine g_aload_n X rfl rfl ?_
  refine g_aload_n X rfl rfl ?_
  refine g_callI X rfl lcJ5_init_a7421 lmJ4_7 liJ5_init_a7421 rfl (ct_sb_initS5 l D cy B od hb hs hlen hF hz) rfl rfl (Nat.le_of_ble_eq_true rfl) ⟨by decide, by decide⟩ ⟨Nat.le_of_ble_eq_true rfl, Nat.le_of_ble_eq_true rfl⟩ (fun v1 A1 z1 q1 => ?_)
  obtain ⟨rfl, q1⟩ := q1
  exact g_vret X rfl rfl (Nat.le_of_ble_eq_true rfl) (Nat.le_of_ble_eq_true rfl) ⟨rfl, q1⟩
set_option maxRecDepth 100000 in
set_option maxHeartbeats 400000 in
theorem cm_checkLength (l : Launch) (D : va_G) (cy : Nat → ClassId) (B : Nat) (od : Nat → Option Nat) {A : AH} {n : Nat} (hn : n < 1000) : CM l D cy B od yJ7_checkLength_df160 cJ7_checkLength_df160 2 none rmJ7_checkLength_df160 [.int (nI 0), .int (nI n)] A (fun v A' => v = none ∧ A' = A) := by
  intro z
  refine CT.of (by decide) tJ7_checkLength_df160 okJ7_checkLength_df160 (Nat.le_of_ble_eq_true rfl) (q0 := tJ7_checkLength_df160[0]) rfl rfl ?_
  intro p e s m args below meth c X hnm
  refine g_iload_n X rfl rfl ?_
  refine g_iload_n X rfl rfl ?_
  refine g_ic_geN X rfl (by omega) (by omega) (fun _ => ?_) (fun h => absurd h (by omega))
  · skip
    exact g_vret X rfl rfl (Nat.le_of_ble_eq_true rfl) (Nat.le_of_ble_eq_true rfl) ⟨rfl, rfl, rfl⟩
set_option maxRecDepth 100000 in
set_option maxHeartbeats 400000 in
theorem ct_copyOfRangeB (l : Launch) (D : va_G) (cy : Nat → ClassId) (B : Nat) (od : Nat → Option Nat) {A : AH} {v cap n z : Nat} {f : Nat → Int32} (h3 : A v = some (.inl (cy 3, cap, .inl f))) (hn : n ≤ cap) (hc : cap ≤ 602) (hn5 : n ≤ 300) (hfit : ∀ j, j < cap → fits .byte (.int (f j)) = true) (hF : FRs A z) (hz : z < 1000000) : CT l D cy B od yJ7_copyOfRangeByte_39247 cJ7_copyOfRangeByte_39247 5 (some (.array .byte)) rmJ7_copyOfRangeByte_39247 [.ref v, .int (nI 0), .int (nI n)] A (z + 1) (fun v9 A' z' => v9 = some (.ref z) ∧ z' = z + 2 ∧ ∃ f', A' = upA A z (.inl (cy 3, n, .inl f')) ∧ ∀ k, k < n → f' k = f k) := by
  refine CT.of (by decide) tJ7_copyOfRangeByte_39247 okJ7_copyOfRangeByte_39247 (Nat.le_of_ble_eq_true rfl) (q0 := tJ7_copyOfRangeByte_39247[0]) rfl rfl ?_
  intro p e s m args below meth c X hnm
  have hvz : v ≠ z := fun e => by subst e; rw [hF.at] at h3; cases h3
  refine g_iload_n X rfl rfl ?_
  refine g_iload_n X rfl rfl ?_
  refine g_mS X rfl lcJ7_checkLength_df160 lmJ7_343 stJ7_checkLength_df160 (cm_checkLength l D cy B od (by omega)) rfl rfl (Nat.le_of_ble_eq_true rfl) ⟨⟨by decide, by decide⟩, rfl, rfl⟩ ⟨Nat.le_of_ble_eq_true rfl, Nat.le_of_ble_eq_true rfl⟩ (fun v1 A1 q1 => ?_)
  obtain ⟨rfl, rfl⟩ := q1
  refine g_iload_n X rfl rfl ?_
  refine g_iload_n X rfl rfl ?_
  refine g_isub X rfl ?_
  rw [pk_sub (Nat.zero_le _), Nat.sub_zero]
  first | refine g_istore_nS X rfl (by decide) rfl ?_ | refine g_istore_n X rfl (by decide) ?_
  refine g_iload_n X rfl rfl ?_
  refine g_newab X rfl aw_b (N := n) (nI_pos (by omega)) (nI_clamp (by omega)) (by omega) hz (Nat.le_of_ble_eq_true rfl) (by show 0 + n ≤ 500; omega) ?_
  first | refine g_astoreS X rfl (by decide) rfl ?_ | refine g_astore X rfl (by decide) ?_
  refine g_aload_n X rfl rfl ?_
  refine g_iload_n X rfl rfl ?_
  refine g_aload X rfl rfl ?_
  refine g_iconst X rfl (v := nI 0) (by decide) ?_
  refine g_aload_n X rfl rfl ?_
  refine g_alenb X rfl ((upA_ne hvz).trans h3) ?_
  refine g_iload_n X rfl rfl ?_
  refine g_isub X rfl ?_
  rw [pk_sub (Nat.zero_le _), Nat.sub_zero]
  refine g_iload_n X rfl rfl ?_
  refine g_m_min_i X rfl lmJ7_304 (Nat.le_of_ble_eq_true rfl) ⟨by decide, by decide⟩ ⟨(Nat.le_of_ble_eq_true rfl), (by show 0 + n ≤ 500; omega)⟩ ?_
  rw [show (if nI n < nI cap then nI n else nI cap) = nI n from by rw [ltN (by omega) (by omega)]; by_cases e : n < cap; (rw [if_pos e]); rw [if_neg e, show cap = n by omega]]
  refine g_copyb X rfl cpJ7_150 (sp := 0) (dp := 0) (n := n) ((upA_ne hvz).trans h3) upA_eq (by omega) (by omega) (by omega) (by omega) (fun j hj => by rw [Nat.zero_add]; exact hfit j (by omega)) (Nat.le_of_ble_eq_true rfl) ⟨by decide, by decide⟩ ?_
  refine g_aload X rfl rfl ?_
  refine g_aretA X rfl rfl (Nat.le_of_ble_eq_true rfl) (by show 0 + n ≤ 500; omega) ⟨rfl, rfl, _, upA_up, fun k hk => ?_⟩
  unfold va_cpy; rw [if_pos ⟨Nat.zero_le _, by omega⟩, Nat.zero_add, Nat.sub_zero]
set_option maxRecDepth 100000 in
set_option maxHeartbeats 400000 in
theorem ct_copyOfRange (l : Launch) (D : va_G) (cy : Nat → ClassId) (B : Nat) (od : Nat → Option Nat) {A : AH} {v cap n z : Nat} {f : Nat → Int32} (h3 : A v = some (.inl (cy 3, cap, .inl f))) (hn : n ≤ cap) (hc : cap ≤ 602) (hn5 : n ≤ 300) (hfit : ∀ j, j < cap → fits .byte (.int (f j)) = true) (hF : FRs A z) (hz : z < 1000000) : CT l D cy B od yJ7_copyOfRange_39247 cJ7_copyOfRange_39247 3 (some (.array .byte)) rmJ7_copyOfRange_39247 [.ref v, .int (nI 0), .int (nI n)] A (z + 1) (fun v9 A' z' => v9 = some (.ref z) ∧ z' = z + 2 ∧ ∃ f', A' = upA A z (.inl (cy 3, n, .inl f')) ∧ ∀ k, k < n → f' k = f k) := by
  refine CT.of (by decide) tJ7_copyOfRange_39247 okJ7_copyOfRange_39247 (Nat.le_of_ble_eq_true rfl) (q0 := tJ7_copyOfRange_39247[0]) rfl rfl ?_
  intro p e s m args below meth c X hnm
  refine g_iload_n X rfl rfl ?_
  refine g_if_ne X rfl (fun h => absurd rfl h) (fun _ => ?_)
  · skip
    refine g_iload_n X rfl rfl ?_
    refine g_aload_n X rfl rfl ?_
    refine g_alenb X rfl h3 ?_
    refine g_ic_eqN X rfl (by omega) (by omega) (fun h => ?_) (fun h => ?_)
    · subst h
      refine g_aload_n X rfl rfl ?_
      refine g_cloneB X rfl cw_b h3 hfit hz (Nat.le_of_ble_eq_true rfl) ⟨by decide, by decide⟩ (Nat.le_of_ble_eq_true rfl) (by show 0 + n ≤ 500; omega) ?_
      refine g_castBy X rfl clJ7_311 upA_eq ?_
      exact g_aretA X rfl rfl (Nat.le_of_ble_eq_true rfl) (by show 0 + n ≤ 500; omega) ⟨rfl, rfl, f, rfl, fun _ _ => rfl⟩
    · skip
      refine g_aload_n X rfl rfl ?_
      refine g_iload_n X rfl rfl ?_
      refine g_iload_n X rfl rfl ?_
      refine g_callS X rfl lcJ7_copyOfRangeByte_39247 lmJ7_339 stJ7_copyOfRangeByte_39247 (ct_copyOfRangeB l D cy B od h3 hn hc hn5 hfit hF hz) rfl rfl (Nat.le_of_ble_eq_true rfl) ⟨by decide, by decide⟩ ⟨Nat.le_of_ble_eq_true rfl, Nat.le_of_ble_eq_true rfl⟩ (fun v1 A1 z1 q1 => ?_)
      obtain ⟨rfl, q1⟩ := q1
      exact g_aretA X rfl rfl (Nat.le_of_ble_eq_true rfl) (Nat.le_of_ble_eq_true rfl) ⟨rfl, q1⟩
set_option maxRecDepth 100000 in
set_option maxHeartbeats 400000 in
theorem cr_sb_length (l : Launch) (D : va_G) (cy : Nat → ClassId) (B : Nat) (od : Nat → Option Nat) {A : AH} {b v cap : Nat} {tx : List Nat} {ml : Int32} {f : Nat → Int32} (hb : SbE cy A b v tx cap ml f) : CR l D cy B od yJ4_length_8abf5 cJ4_length_8abf5 1 (some .int) rqJ4_length_8abf5 [.ref b] A (.int (nI tx.length)) := by
  intro z
  refine CT.of (by decide) tJ4_length_8abf5 okJ4_length_8abf5 (Nat.le_of_ble_eq_true rfl) (q0 := tJ4_length_8abf5[0]) rfl rfl ?_
  intro p e s m args below meth c X hnm
  refine g_aload_n X rfl rfl ?_
  refine g_callSU X rfl lcJ5_length_8abf5 lmJ4_343 liJ5_length_8abf5 sm_length su_sb (by decide) (cr_sb_length5 l D cy B od ⟨_, _, _, hb⟩ z) (C := RJ4) (ci := 12) (hb.2.1) rfl rfl rfl (Nat.le_of_ble_eq_true rfl) ⟨by decide, by decide⟩ ⟨Nat.le_of_ble_eq_true rfl, Nat.le_of_ble_eq_true rfl⟩ (fun v1 A1 z1 q1 => ?_)
  obtain ⟨rfl, rfl, rfl⟩ := q1
  exact g_iret X rfl rfl (by first | rfl | exact bI_nar _ | decide) (Nat.le_of_ble_eq_true rfl) (Nat.le_of_ble_eq_true rfl) ⟨rfl, rfl, rfl⟩
set_option maxRecDepth 100000 in
set_option maxHeartbeats 400000 in
theorem ct_str_init3 (l : Launch) (D : va_G) (cy : Nat → ClassId) (B : Nat) (od : Nat → Option Nat) {A : AH} {a : Nat} (ha : A a = some (.inr (13, [.null, .int (nI 0), .int (nI 0), .int (nI 0)]))) {b v cap : Nat} {tx : List Nat} {ml : Int32} {f : Nat → Int32} (hb : SbE cy A b v tx cap ml f) {z : Nat} (hlen : tx.length ≤ 300) (hF : FRs A z) (hz : z < 1000000) : CT l D cy B od yJ0_init_db425 cJ0_init_db425 5 none rmJ0_init_db425 [.ref a, .ref b, .null] A (z + 1) (fun v9 A' z' => v9 = none ∧ z' = z + 2 ∧ FRs A' (z + 1) ∧ StrA cy A' a tx ∧ ∀ q, q ≠ a → q ≠ z → A' q = A q) := by
  refine CT.of (by decide) tJ0_init_db425 okJ0_init_db425 (Nat.le_of_ble_eq_true rfl) (q0 := tJ0_init_db425[0]) rfl rfl ?_
  intro p e s m args below meth c X hnm
  obtain ⟨hasc, h2, h3, h4, h5, h6, h7⟩ := id hb
  have haz : a ≠ z := fun e => by subst e; rw [hF.at] at ha; cases ha
  have hva : v ≠ a := AH.ne h3 ha (by intro q; cases q)
  refine g_aload_n X rfl rfl ?_
  refine g_objInit X rfl oiJ0_1 (by decide) (Nat.le_of_ble_eq_true rfl) (by decide) ?_
  refine g_aload_n X rfl rfl ?_
  refine g_callVC X (C := RJ4) rfl lcJ5_getValue_6d5f1 lmJ0_552 liJ5_getValue_6d5f1 (X.1.2.2.2.2 _ sel_gv) (cr_sb_getValue l D cy B od ⟨_, _, _, hb⟩ _) (ci := 12) (h2) rfl rfl rfl (Nat.le_of_ble_eq_true rfl) ⟨by decide, by decide⟩ ⟨Nat.le_of_ble_eq_true rfl, Nat.le_of_ble_eq_true rfl⟩ (fun w1 B1 y1 p1 => ?_)
  obtain ⟨rfl, e1, e2⟩ := p1
  rw [e1, e2]
  first | refine g_astore_nS X rfl (by decide) rfl ?_ | refine g_astore_n X rfl (by decide) ?_
  refine g_aload_n X rfl rfl ?_
  refine g_callVO X (x := yJ5_length_8abf5) (C := RJ4) rfl lcJ4_length_8abf5 lmJ0_549 sm_length liJ5_length_8abf5 lcJ5_length_8abf5.1 liJ4_length_8abf5 sel_ln ⟨by decide, by decide +kernel⟩ (cr_sb_length l D cy B od hb _) (ci := 12) h2 rfl rfl rfl (Nat.le_of_ble_eq_true rfl) ⟨by decide, by decide⟩ ⟨Nat.le_of_ble_eq_true rfl, Nat.le_of_ble_eq_true rfl⟩ (fun w1 B1 y1 p1 => ?_)
  obtain ⟨rfl, e1, e2⟩ := p1
  rw [e1, e2]
  first | refine g_istoreS X rfl (by decide) rfl ?_ | refine g_istore X rfl (by decide) ?_
  refine g_aload_n X rfl rfl ?_
  refine g_callVC X (C := RJ4) rfl lcJ5_isLatin1_aae02 lmJ0_1047 liJ5_isLatin1_aae02 (X.1.2.2.2.2 _ sel_l1) (cr_sb_isLatin1 l D cy B od ⟨_, _, _, hb⟩ _) (ci := 12) (h2) rfl rfl rfl (Nat.le_of_ble_eq_true rfl) ⟨by decide, by decide⟩ ⟨Nat.le_of_ble_eq_true rfl, Nat.le_of_ble_eq_true rfl⟩ (fun w1 B1 y1 p1 => ?_)
  obtain ⟨rfl, e1, e2⟩ := p1
  rw [e1, e2]
  refine g_if_eq X rfl (fun h => absurd h (by decide)) (fun _ => ?_)
  · skip
    refine g_aload_n X rfl rfl ?_
    refine g_iconst X rfl (v := nI 0) (by decide) ?_
    refine g_putF X rfl flJ0_15 rfl hnm rfl ffJ0_15 (ci := 13) rfl ha (Nat.le_of_ble_eq_true rfl) (by rfl) (by rfl) ?_
    refine g_aload_n X rfl rfl ?_
    refine g_aload_n X rfl rfl ?_
    refine g_iconst X rfl (v := nI 0) (by decide) ?_
    refine g_iload X rfl rfl ?_
    refine g_callS X rfl lcJ7_copyOfRange_39247 lmJ0_54 stJ7_copyOfRange_39247 (ct_copyOfRange l D cy B od (A := upA A a (.inr (13, [.null, .int (nI 0), .int (nI 0), .int (nI 0)]))) ((upA_ne hva).trans h3) h4 h5 hlen h7 (hF.up (hF.lt ha)) hz) rfl rfl (Nat.le_of_ble_eq_true rfl) ⟨by decide, by decide⟩ ⟨Nat.le_of_ble_eq_true rfl, Nat.le_of_ble_eq_true rfl⟩ (fun v1 A1 z1 q1 => ?_)
    obtain ⟨rfl, rfl, f2, rfl, hf2⟩ := q1
    refine g_putF X rfl flJ0_9 rfl hnm rfl ffJ0_9 (ci := 13) rfl ((upA_ne haz).trans upA_eq) (Nat.le_of_ble_eq_true rfl) (by rfl) (by rfl) ?_
    refine g_goto X rfl ?_
    exact g_vret X rfl rfl (Nat.le_of_ble_eq_true rfl) (Nat.le_of_ble_eq_true rfl) ⟨rfl, rfl, ((hF.up (hF.lt ha)).new).up (Nat.lt_succ_of_lt (hF.lt ha)), ⟨hasc, by omega, Or.inl ⟨z, f2, upA_eq, (upA_ne (Ne.symm haz)).trans upA_eq, fun k hk => (hf2 k hk).trans (h6 k hk)⟩⟩, fun q n1 n2 => by rw [upA_ne n1, upA_ne n2, upA_ne n1]⟩
set_option maxRecDepth 100000 in
set_option maxHeartbeats 400000 in
theorem ct_str_init (l : Launch) (D : va_G) (cy : Nat → ClassId) (B : Nat) (od : Nat → Option Nat) {A : AH} {a : Nat} (ha : A a = some (.inr (13, [.null, .int (nI 0), .int (nI 0), .int (nI 0)]))) {b v cap : Nat} {tx : List Nat} {ml : Int32} {f : Nat → Int32} (hb : SbE cy A b v tx cap ml f) {z : Nat} (hlen : tx.length ≤ 300) (hF : FRs A z) (hz : z < 1000000) : CT l D cy B od yJ0_init_81219 cJ0_init_81219 2 none rmJ0_init_81219 [.ref a, .ref b] A (z + 1) (fun v9 A' z' => v9 = none ∧ z' = z + 2 ∧ FRs A' (z + 1) ∧ StrA cy A' a tx ∧ ∀ q, q ≠ a → q ≠ z → A' q = A q) := by
  refine CT.of (by decide) tJ0_init_81219 okJ0_init_81219 (Nat.le_of_ble_eq_true rfl) (q0 := tJ0_init_81219[0]) rfl rfl ?_
  intro p e s m args below meth c X hnm
  refine g_aload_n X rfl rfl ?_
  refine g_aload_n X rfl rfl ?_
  refine g_null X rfl ?_
  refine g_callI X rfl lcJ0_init_db425 lmJ0_489 liJ0_init_db425 rfl (ct_str_init3 l D cy B od ha hb hlen hF hz) rfl rfl (Nat.le_of_ble_eq_true rfl) ⟨by decide, by decide⟩ ⟨Nat.le_of_ble_eq_true rfl, Nat.le_of_ble_eq_true rfl⟩ (fun v1 A1 z1 q1 => ?_)
  obtain ⟨rfl, q1⟩ := q1
  exact g_vret X rfl rfl (Nat.le_of_ble_eq_true rfl) (Nat.le_of_ble_eq_true rfl) ⟨rfl, q1⟩
set_option maxRecDepth 100000 in
set_option maxHeartbeats 400000 in
theorem ct_toString (l : Launch) (D : va_G) (cy : Nat → ClassId) (B : Nat) (od : Nat → Option Nat) {A : AH} {b v cap : Nat} {tx : List Nat} {ml : Int32} {f : Nat → Int32} (hb : SbE cy A b v tx cap ml f) {z : Nat} (hlen : tx.length ≤ 300) (hF : FRs A z) (hz : z + 2 ≤ 900000) : CT l D cy B od yJ4_toString_0e30d cJ4_toString_0e30d 1 (some (.object "java/lang/String")) rmJ4_toString_0e30d [.ref b] A (z + 1) (fun v9 A' z' => v9 = some (.ref z) ∧ z' = z + 3 ∧ FRs A' (z + 2) ∧ StrA cy A' z tx ∧ ∀ q, q < z → A' q = A q) := by
  refine CT.of (by decide) tJ4_toString_0e30d okJ4_toString_0e30d (Nat.le_of_ble_eq_true rfl) (q0 := tJ4_toString_0e30d[0]) rfl rfl ?_
  intro p e s m args below meth c X hnm
  refine g_new X rfl nwJ4_18 (ci := 13) rfl (fs := [.null, .int (nI 0), .int (nI 0), .int (nI 0)]) rfl rfl (by omega) (Nat.le_of_ble_eq_true rfl) (Nat.le_of_ble_eq_true rfl) ?_
  refine g_dup X rfl rfl ?_
  refine g_aload_n X rfl rfl ?_
  have hb2 : SbE cy (upA A z (.inr (13, [.null, .int (nI 0), .int (nI 0), .int (nI 0)]))) b v tx cap ml f := ⟨hb.1, (upA_ne (Nat.ne_of_lt (hF.lt hb.2.1))).trans hb.2.1, (upA_ne (Nat.ne_of_lt (hF.lt hb.2.2.1))).trans hb.2.2.1, hb.2.2.2⟩
  refine g_callI X rfl lcJ0_init_81219 lmJ4_137 liJ0_init_81219 rfl (ct_str_init l D cy B od upA_eq hb2 hlen hF.new (by omega)) rfl rfl (Nat.le_of_ble_eq_true rfl) ⟨by decide, by decide⟩ ⟨Nat.le_of_ble_eq_true rfl, Nat.le_of_ble_eq_true rfl⟩ (fun v1 A1 z1 q1 => ?_)
  obtain ⟨rfl, rfl, hF1, hs1, hf1⟩ := q1
  exact g_aret X rfl rfl (Nat.le_of_ble_eq_true rfl) (Nat.le_of_ble_eq_true rfl) ⟨rfl, rfl, hF1, hs1, fun q h1 => (hf1 q (by omega) (by omega)).trans (upA_ne (by omega))⟩
