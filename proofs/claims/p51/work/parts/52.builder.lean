/-! 52: builders of texts: room, strings, chars -/
theorem sub_le0 {a b : Nat} (ha : a < 2 ^ 30) (hb : b < 2 ^ 30) : nI a - nI b ≤ 0 ↔ a ≤ b := by
  rw [Int32.le_iff_toInt_le, pk_sub_toInt ha hb]
  show _ ≤ (0 : Int) ↔ _
  omega
theorem i2b_c : ∀ c, c < 128 → (nI c).toInt8.toInt32 = nI c := by decide
theorem getD_app (tx ty : List Nat) (k : Nat) : (tx ++ ty).getD k 0 = if k < tx.length then tx.getD k 0 else ty.getD (k - tx.length) 0 := by
  rw [List.getD_eq_getElem?_getD, List.getElem?_append]
  by_cases h : k < tx.length
  · rw [if_pos h, if_pos h, List.getD_eq_getElem?_getD]
  · rw [if_neg h, if_neg h, List.getD_eq_getElem?_getD]
theorem txB_app (tx ty : List Nat) (k : Nat) : txB (tx ++ ty) k = if k < tx.length then txB tx k else txB ty (k - tx.length) := by
  unfold txB
  rw [getD_app]
  by_cases h : k < tx.length
  · rw [if_pos h, if_pos h]
  · rw [if_neg h, if_neg h]
theorem tAsc_app {tx ty : List Nat} (h1 : tAsc tx) (h2 : tAsc ty) : tAsc (tx ++ ty) := by
  intro k hk
  rw [List.length_append] at hk
  by_cases h : k < tx.length
  · rw [getD_app, if_pos h]; exact h1 k h
  · rw [getD_app, if_neg h]; exact h2 _ (by omega)
theorem SbE.ne {cy : Nat → ClassId} {A : AH} {b v cap : Nat} {tx : List Nat} {ml : Int32} {f : Nat → Int32} (h : SbE cy A b v tx cap ml f) : b ≠ v := AH.ne h.2.1 h.2.2.1 (by intro q; cases q)
/-- more room, or the same -/
def SbG (cy : Nat → ClassId) (A A' : AH) (b v z z' : Nat) (tx : List Nat) (mn : Nat) : Prop := ∃ v' z1 cap' ml' f', z' = z1 + 1 ∧ ((v' = v ∧ z1 = z) ∨ (v' = z ∧ z1 = z + 1)) ∧ FRs A' z1 ∧ SbE cy A' b v' tx cap' ml' f' ∧ mn ≤ cap' ∧ ∀ q, q ≠ b → q ≠ z → A' q = A q
set_option maxRecDepth 100000 in
set_option maxHeartbeats 400000 in
theorem ct_ensure (l : Launch) (D : va_G) (cy : Nat → ClassId) (B : Nat) (od : Nat → Option Nat) {A : AH} {b v cap : Nat} {tx : List Nat} {ml : Int32} {f : Nat → Int32} (hb : SbE cy A b v tx cap ml f) {mn z : Nat} (hm : mn ≤ 300) (hF : FRs A z) (hz : z < 1000000) : CT l D cy B od yJ5_ensureCapacityInternal_d00df cJ5_ensureCapacityInternal_d00df 3 none rmJ5_ensureCapacityInternal_d00df [.ref b, .int (nI mn)] A (z + 1) (fun v9 A' z' => v9 = none ∧ SbG cy A A' b v z z' tx mn) := by
  refine CT.of (by decide) tJ5_ensureCapacityInternal_d00df okJ5_ensureCapacityInternal_d00df (Nat.le_of_ble_eq_true rfl) (q0 := tJ5_ensureCapacityInternal_d00df[0]) rfl rfl ?_
  intro p e s m args below meth c X hnm
  obtain ⟨hasc, h2, h3, h4, h5, h6, h7⟩ := id hb
  have hbz : b ≠ z := fun e => by subst e; rw [hF.at] at h2; cases h2
  refine g_aload_n X rfl rfl ?_
  refine g_get X rfl flJ5_15 (ci := 12) rfl (h2) rfl ?_
  refine g_alenb X rfl h3 ?_
  refine g_aload_n X rfl rfl ?_
  refine g_get X rfl flJ5_22 (ci := 12) rfl (h2) rfl ?_
  refine g_ishr X rfl ?_
  rw [show (nI cap >>> (nI 0 &&& 31)) = nI cap from shr0 _]
  first | refine g_istore_nS X rfl (by decide) rfl ?_ | refine g_istore_n X rfl (by decide) ?_
  refine g_iload_n X rfl rfl ?_
  refine g_iload_n X rfl rfl ?_
  refine g_isub X rfl ?_
  refine g_if_le X rfl (fun h => ?_) (fun h => ?_)
  · refine g_vret X rfl rfl (Nat.le_of_ble_eq_true rfl) (Nat.le_of_ble_eq_true rfl) ⟨rfl, v, z, cap, ml, f, rfl, Or.inl ⟨rfl, rfl⟩, hF, hb, (sub_le0 (by omega) (by omega)).mp h, fun _ _ _ => rfl⟩
  · have hlt : cap < mn := by
      by_cases e : mn ≤ cap
      · exact absurd ((sub_le0 (by omega) (by omega)).mpr e) h
      · omega
    refine g_aload_n X rfl rfl ?_
    refine g_aload_n X rfl rfl ?_
    refine g_get X rfl flJ5_15 (ci := 12) rfl (h2) rfl ?_
    refine g_aload_n X rfl rfl ?_
    refine g_iload_n X rfl rfl ?_
    refine g_pV X rfl lcJ5_newCapacity_0f7a4 lmJ5_104 liJ5_newCapacity_0f7a4 (by simp [privL]) rfl (cr_newCap l D cy B od h2 h3 hlt hm _) (h2) rfl rfl (Nat.le_of_ble_eq_true rfl) ⟨by decide, by decide⟩ ⟨Nat.le_of_ble_eq_true rfl, Nat.le_of_ble_eq_true rfl⟩ (fun v1 A1 z1 q1 => ?_)
    obtain ⟨rfl, rfl, rfl⟩ := q1
    refine g_aload_n X rfl rfl ?_
    refine g_get X rfl flJ5_22 (ci := 12) rfl (h2) rfl ?_
    refine g_ishl X rfl ?_
    rw [show (nI (cap + max (mn - cap) (cap + 2)) <<< (nI 0 &&& 31)) = nI (cap + max (mn - cap) (cap + 2)) from shl0 _]
    refine g_callS X rfl lcJ7_copyOf_9075b lmJ5_108 stJ7_copyOf_9075b (ct_copyOfB l D cy B od h3 (N := cap + max (mn - cap) (cap + 2)) (by omega) (by omega) h7 hF hz) rfl rfl (Nat.le_of_ble_eq_true rfl) ⟨by decide, by decide⟩ ⟨Nat.le_of_ble_eq_true rfl, Nat.le_of_ble_eq_true rfl⟩ (fun v2 A2 z2 q2 => ?_)
    obtain ⟨rfl, rfl, rfl⟩ := q2
    refine g_put X rfl flJ5_15 rfl (ci := 12) rfl ((upA_ne hbz).trans h2) (Nat.le_of_ble_eq_true rfl) (by rfl) (by rfl) ?_
    refine g_vret X rfl rfl (Nat.le_of_ble_eq_true rfl) (Nat.le_of_ble_eq_true rfl) ⟨rfl, z, z + 1, cap + max (mn - cap) (cap + 2), ml, va_cpy f (fun _ => 0) 0 0 cap, rfl, Or.inr ⟨rfl, rfl⟩, hF.new.up (Nat.lt_succ_of_lt (hF.lt h2)), ⟨hasc, upA_eq, (upA_ne hbz.symm).trans upA_eq, by omega, by omega, fun k hk => ?_, fun k hk => ?_⟩, by omega, fun q h1 h2 => by rw [upA_ne h1, upA_ne h2]⟩
    · unfold va_cpy; rw [if_pos ⟨Nat.zero_le _, by omega⟩, Nat.zero_add, Nat.sub_zero]; exact h6 k hk
    · unfold va_cpy
      by_cases e : 0 ≤ k ∧ k < 0 + cap
      · rw [if_pos e, Nat.zero_add, Nat.sub_zero]; exact h7 k (by omega)
      · rw [if_neg e]; rfl
set_option maxRecDepth 100000 in
set_option maxHeartbeats 400000 in
theorem cm_inflateIf (l : Launch) (D : va_G) (cy : Nat → ClassId) (B : Nat) (od : Nat → Option Nat) {A : AH} {b v a : Nat} {tx : List Nat} {ml c9 : Int32} (h2 : A b = some (.inr (12, [.ref v, .int (nI 0), .int ml, .int c9]))) (hs : StrA cy A a tx) : CM l D cy B od yJ5_inflateIfNeededFor_a7421 cJ5_inflateIfNeededFor_a7421 2 none rmJ5_inflateIfNeededFor_a7421 [.ref b, .ref a] A (fun v A' => v = none ∧ A' = A) := by
  intro z
  refine CT.of (by decide) tJ5_inflateIfNeededFor_a7421 okJ5_inflateIfNeededFor_a7421 (Nat.le_of_ble_eq_true rfl) (q0 := tJ5_inflateIfNeededFor_a7421[0]) rfl rfl ?_
  intro p e s m args below meth c X hnm
  refine g_gcs X rfl gsJ5_18 ?_
  refine g_if_eq X rfl (fun h => absurd h (by decide)) (fun _ => ?_)
  · skip
    refine g_aload_n X rfl rfl ?_
    refine g_get X rfl flJ5_22 (ci := 12) rfl (h2) rfl ?_
    refine g_aload_n X rfl rfl ?_
    refine g_sV X rfl lcJ0_coder_7d493 lmJ5_40 lsJ0_coder_7d493 rfl (cr_s_coder l D cy B od hs) hs rfl rfl (Nat.le_of_ble_eq_true rfl) ⟨⟨by decide, by decide⟩, rfl, rfl⟩ ⟨Nat.le_of_ble_eq_true rfl, Nat.le_of_ble_eq_true rfl⟩ ?_
    refine g_icmp_eq X rfl (fun _ => ?_) (fun h => absurd rfl h)
    · skip
      exact g_vret X rfl rfl (Nat.le_of_ble_eq_true rfl) (Nat.le_of_ble_eq_true rfl) ⟨rfl, rfl, rfl⟩
set_option maxRecDepth 100000 in
set_option maxHeartbeats 400000 in
theorem cm_putStringAt (l : Launch) (D : va_G) (cy : Nat → ClassId) (B : Nat) (od : Nat → Option Nat) {A : AH} {b v a cap dp : Nat} {tx : List Nat} {ml c9 : Int32} {f : Nat → Int32} (h2 : A b = some (.inr (12, [.ref v, .int (nI 0), .int ml, .int c9]))) (h3 : A v = some (.inl (cy 3, cap, .inl f))) (hs : StrA cy A a tx) (hc : dp + tx.length ≤ cap) (hc2 : cap < 10000) : CM l D cy B od yJ5_putStringAt_47b60 cJ5_putStringAt_47b60 3 none rmJ5_putStringAt_47b60 [.ref b, .int (nI dp), .ref a] A (fun v9 A' => v9 = none ∧ ∃ f', A' = upA A v (.inl (cy 3, cap, .inl f')) ∧ ∀ k, k < cap → f' k = if dp ≤ k ∧ k < dp + tx.length then txB tx (k - dp) else f k) := by
  intro z
  refine CT.of (by decide) tJ5_putStringAt_47b60 okJ5_putStringAt_47b60 (Nat.le_of_ble_eq_true rfl) (q0 := tJ5_putStringAt_47b60[0]) rfl rfl ?_
  intro p e s m args below meth c X hnm
  refine g_aload_n X rfl rfl ?_
  refine g_aload_n X rfl rfl ?_
  refine g_pV X rfl lcJ5_inflateIfNeededFor_a7421 lmJ5_397 liJ5_inflateIfNeededFor_a7421 (by simp [privL]) rfl (cm_inflateIf l D cy B od h2 hs _) (h2) rfl rfl (Nat.le_of_ble_eq_true rfl) ⟨by decide, by decide⟩ ⟨Nat.le_of_ble_eq_true rfl, Nat.le_of_ble_eq_true rfl⟩ (fun v1 A1 z1 q1 => ?_)
  obtain ⟨rfl, rfl, rfl⟩ := q1
  refine g_aload_n X rfl rfl ?_
  refine g_aload_n X rfl rfl ?_
  refine g_get X rfl flJ5_15 (ci := 12) rfl (h2) rfl ?_
  refine g_iload_n X rfl rfl ?_
  refine g_aload_n X rfl rfl ?_
  refine g_get X rfl flJ5_22 (ci := 12) rfl (h2) rfl ?_
  refine g_sM X rfl lcJ0_getBytes_840e7 lmJ5_399 lsJ0_getBytes_840e7 rfl (cm_getBytes l D cy B od hs h3 hc hc2) hs rfl rfl (Nat.le_of_ble_eq_true rfl) ⟨⟨by decide, by decide⟩, rfl, rfl⟩ ⟨Nat.le_of_ble_eq_true rfl, Nat.le_of_ble_eq_true rfl⟩ (fun v2 A2 q2 => ?_)
  obtain ⟨rfl, f2, rfl, hf2⟩ := q2
  exact g_vret X rfl rfl (Nat.le_of_ble_eq_true rfl) (Nat.le_of_ble_eq_true rfl) ⟨rfl, rfl, f2, rfl, hf2⟩
/-- after something was appended -/
def AppQ (cy : Nat → ClassId) (A A' : AH) (b v z z' : Nat) (tx : List Nat) : Prop := ∃ v' z1, z' = z1 + 1 ∧ ((v' = v ∧ z1 = z) ∨ (v' = z ∧ z1 = z + 1)) ∧ FRs A' z1 ∧ SbA cy A' b v' tx ∧ ∀ q, q ≠ b → q ≠ v → q ≠ z → A' q = A q
theorem StrA.fr {cy : Nat → ClassId} {A A' : AH} {a z b : Nat} {tx : List Nat} {fs : List Value} (h : StrA cy A a tx) (hF : FRs A z) (hb : A b = some (.inr (12, fs))) (hf : ∀ q, q ≠ b → q ≠ z → A' q = A q) : StrA cy A' a tx := by
  obtain ⟨h1, h2, ⟨v, f, h3, h4, h5⟩ | h3⟩ := h
  · refine ⟨h1, h2, Or.inl ⟨v, f, (hf a ?_ ?_).trans h3, (hf v ?_ ?_).trans h4, h5⟩⟩
    · exact AH.ne h3 hb (by intro q; cases q)
    · have := hF.lt h3; omega
    · exact AH.ne h4 hb (by intro q; cases q)
    · have := hF.lt h4; omega
  · exact ⟨h1, h2, Or.inr h3⟩
set_option maxRecDepth 100000 in
set_option maxHeartbeats 400000 in
theorem ct_append5 (l : Launch) (D : va_G) (cy : Nat → ClassId) (B : Nat) (od : Nat → Option Nat) {A : AH} {b v cap : Nat} {tx : List Nat} {ml : Int32} {f : Nat → Int32} (hb : SbE cy A b v tx cap ml f) {a z : Nat} {ty : List Nat} (hs : StrA cy A a ty) (hlen : tx.length + ty.length ≤ 300) (hF : FRs A z) (hz : z < 1000000) : CT l D cy B od yJ5_append_cf1ce cJ5_append_cf1ce 3 (some (.object "java/lang/AbstractStringBuilder")) rmJ5_append_cf1ce [.ref b, .ref a] A (z + 1) (fun v9 A' z' => v9 = some (.ref b) ∧ AppQ cy A A' b v z z' (tx ++ ty)) := by
  refine CT.of (by decide) tJ5_append_cf1ce okJ5_append_cf1ce (Nat.le_of_ble_eq_true rfl) (q0 := tJ5_append_cf1ce[0]) rfl rfl ?_
  intro p e s m args below meth c X hnm
  obtain ⟨hasc, h2, h3, h4, h5, h6, h7⟩ := id hb
  refine g_aload_n X rfl rfl ?_
  refine g_ifnonnull X rfl ?_
  refine g_aload_n X rfl rfl ?_
  refine g_sV X rfl lcJ0_length_8abf5 lmJ5_32 lsJ0_length_8abf5 rfl (cr_s_length l D cy B od hs) hs rfl rfl (Nat.le_of_ble_eq_true rfl) ⟨⟨by decide, by decide⟩, rfl, rfl⟩ ⟨Nat.le_of_ble_eq_true rfl, Nat.le_of_ble_eq_true rfl⟩ ?_
  first | refine g_istore_nS X rfl (by decide) rfl ?_ | refine g_istore_n X rfl (by decide) ?_
  refine g_aload_n X rfl rfl ?_
  refine g_aload_n X rfl rfl ?_
  refine g_get X rfl flJ5_79 (ci := 12) rfl (h2) rfl ?_
  refine g_iload_n X rfl rfl ?_
  refine g_iadd X rfl ?_
  rw [nI_add]
  refine g_pV X rfl lcJ5_ensureCapacityInternal_d00df lmJ5_100 liJ5_ensureCapacityInternal_d00df (by simp [privL]) rfl (ct_ensure l D cy B od hb hlen hF hz) (h2) rfl rfl (Nat.le_of_ble_eq_true rfl) ⟨by decide, by decide⟩ ⟨Nat.le_of_ble_eq_true rfl, Nat.le_of_ble_eq_true rfl⟩ (fun v9 A1 z9 q9 => ?_)
  obtain ⟨rfl, v1, z1, cap1, ml1, f1, rfl, hv1, hF1, hb1, hm1, hf1⟩ := q9
  obtain ⟨-, e2, e3, e4, e5, e6, e7⟩ := id hb1
  have hs1 := hs.fr hF h2 hf1
  refine g_aload_n X rfl rfl ?_
  refine g_aload_n X rfl rfl ?_
  refine g_get X rfl flJ5_79 (ci := 12) rfl (e2) rfl ?_
  refine g_aload_n X rfl rfl ?_
  refine g_pV X rfl lcJ5_putStringAt_47b60 lmJ5_208 liJ5_putStringAt_47b60 (by simp [privL]) rfl (cm_putStringAt l D cy B od e2 e3 hs1 hm1 (by omega) _) (e2) rfl rfl (Nat.le_of_ble_eq_true rfl) ⟨by decide, by decide⟩ ⟨Nat.le_of_ble_eq_true rfl, Nat.le_of_ble_eq_true rfl⟩ (fun v8 A2 z8 q8 => ?_)
  obtain ⟨rfl, rfl, f2, rfl, hf2⟩ := q8
  refine g_aload_n X rfl rfl ?_
  refine g_dup X rfl rfl ?_
  refine g_get X rfl flJ5_79 (ci := 12) rfl ((upA_ne hb1.ne).trans e2) rfl ?_
  refine g_iload_n X rfl rfl ?_
  refine g_iadd X rfl ?_
  rw [nI_add]
  refine g_put X rfl flJ5_79 rfl (ci := 12) rfl ((upA_ne hb1.ne).trans e2) (Nat.le_of_ble_eq_true rfl) (by rfl) (by rfl) ?_
  refine g_aload_n X rfl rfl ?_
  refine g_aret X rfl rfl (Nat.le_of_ble_eq_true rfl) (Nat.le_of_ble_eq_true rfl) ⟨rfl, v1, z1, rfl, hv1, (hF1.up (hF1.lt e3)).up (hF1.lt e2), ⟨cap1, ml1, f2, tAsc_app hasc hs.1, ?_, (upA_ne (Ne.symm hb1.ne)).trans upA_eq, by rw [List.length_append]; omega, e5, fun k hk => ?_, fun k hk => ?_⟩, fun q n1 n2 n3 => ?_⟩
  · rw [List.length_append]; exact upA_eq
  · rw [List.length_append] at hk; rw [hf2 k (by omega), txB_app]
    by_cases e : k < tx.length
    · rw [if_neg (by omega), if_pos e]; exact e6 k e
    · rw [if_pos (by omega), if_neg e]
  · rw [hf2 k hk]
    by_cases e : tx.length ≤ k ∧ k < tx.length + ty.length
    · rw [if_pos e]; exact fits_c _ (hs.1 _ (by omega))
    · rw [if_neg e]; exact e7 k hk
  · rw [upA_ne n1, upA_ne (show q ≠ v1 from by rcases hv1 with h | h; (rw [h.1]; exact n2); (rw [h.1]; exact n3))]; exact hf1 q n1 n3
set_option maxRecDepth 100000 in
set_option maxHeartbeats 400000 in
theorem ct_appendS (l : Launch) (D : va_G) (cy : Nat → ClassId) (B : Nat) (od : Nat → Option Nat) {A : AH} {b v cap : Nat} {tx : List Nat} {ml : Int32} {f : Nat → Int32} (hb : SbE cy A b v tx cap ml f) {a z : Nat} {ty : List Nat} (hs : StrA cy A a ty) (hlen : tx.length + ty.length ≤ 300) (hF : FRs A z) (hz : z < 1000000) : CT l D cy B od yJ4_append_15ec4 cJ4_append_15ec4 2 (some (.object "java/lang/StringBuilder")) rmJ4_append_15ec4 [.ref b, .ref a] A (z + 1) (fun v9 A' z' => v9 = some (.ref b) ∧ AppQ cy A A' b v z z' (tx ++ ty)) := by
  refine CT.of (by decide) tJ4_append_15ec4 okJ4_append_15ec4 (Nat.le_of_ble_eq_true rfl) (q0 := tJ4_append_15ec4[0]) rfl rfl ?_
  intro p e s m args below meth c X hnm
  refine g_aload_n X rfl rfl ?_
  refine g_aload_n X rfl rfl ?_
  refine g_callSU X rfl lcJ5_append_cf1ce lmJ4_29 liJ5_append_cf1ce sm_append_s su_sb (by decide) (ct_append5 l D cy B od hb hs hlen hF hz) (C := RJ4) (ci := 12) (hb.2.1) rfl rfl rfl (Nat.le_of_ble_eq_true rfl) ⟨by decide, by decide⟩ ⟨Nat.le_of_ble_eq_true rfl, Nat.le_of_ble_eq_true rfl⟩ (fun v1 A1 z1 q1 => ?_)
  obtain ⟨rfl, q1⟩ := q1
  refine g_pop X rfl rfl ?_
  refine g_aload_n X rfl rfl ?_
  exact g_aret X rfl rfl (Nat.le_of_ble_eq_true rfl) (Nat.le_of_ble_eq_true rfl) ⟨rfl, q1⟩
set_option maxRecDepth 100000 in
set_option maxHeartbeats 400000 in
theorem ct_appendB (l : Launch) (D : va_G) (cy : Nat → ClassId) (B : Nat) (od : Nat → Option Nat) {A : AH} {b v cap : Nat} {tx : List Nat} {ml : Int32} {f : Nat → Int32} (hb : SbE cy A b v tx cap ml f) {a z : Nat} {ty : List Nat} (hs : StrA cy A a ty) (hlen : tx.length + ty.length ≤ 300) (hF : FRs A z) (hz : z < 1000000) : CT l D cy B od yJ4_append_cf1ce cJ4_append_cf1ce 2 (some (.object "java/lang/AbstractStringBuilder")) rmJ4_append_cf1ce [.ref b, .ref a] A (z + 1) (fun v9 A' z' => v9 = some (.ref b) ∧ AppQ cy A A' b v z z' (tx ++ ty)) := by
  refine CT.of (by decide) tJ4_append_cf1ce okJ4_append_cf1ce (Nat.le_of_ble_eq_true rfl) (q0 := tJ4_append_cf1ce[0]) rfl rfl ?_
  intro p e s m args below meth c X hnm
  refine g_aload_n X rfl rfl ?_
  refine g_aload_n X rfl rfl ?_
  refine g_callV X rfl lcJ4_append_15ec4 lmJ4_23 lsJ4_append_15ec4 (ct_appendS l D cy B od hb hs hlen hF hz) (ci := 12) (hb.2.1) rfl rfl rfl (Nat.le_of_ble_eq_true rfl) ⟨by decide, by decide⟩ ⟨Nat.le_of_ble_eq_true rfl, Nat.le_of_ble_eq_true rfl⟩ (fun v1 A1 z1 q1 => ?_)
  obtain ⟨rfl, q1⟩ := q1
  exact g_aret X rfl rfl (Nat.le_of_ble_eq_true rfl) (Nat.le_of_ble_eq_true rfl) ⟨rfl, q1⟩
set_option maxRecDepth 100000 in
set_option maxHeartbeats 400000 in
theorem ct_appendC5 (l : Launch) (D : va_G) (cy : Nat → ClassId) (B : Nat) (od : Nat → Option Nat) {A : AH} {b v cap : Nat} {tx : List Nat} {ml : Int32} {f : Nat → Int32} (hb : SbE cy A b v tx cap ml f) {ch z : Nat} (hch : ch < 128) (hlen : tx.length + 1 ≤ 300) (hF : FRs A z) (hz : z < 1000000) : CT l D cy B od yJ5_append_3fe6f cJ5_append_3fe6f 2 (some (.object "java/lang/AbstractStringBuilder")) rmJ5_append_3fe6f [.ref b, .int (nI ch)] A (z + 1) (fun v9 A' z' => v9 = some (.ref b) ∧ AppQ cy A A' b v z z' (tx ++ [ch])) := by
  refine CT.of (by decide) tJ5_append_3fe6f okJ5_append_3fe6f (Nat.le_of_ble_eq_true rfl) (q0 := tJ5_append_3fe6f[0]) rfl rfl ?_
  intro p e s m args below meth c X hnm
  obtain ⟨hasc, h2, h3, h4, h5, h6, h7⟩ := id hb
  refine g_aload_n X rfl rfl ?_
  refine g_aload_n X rfl rfl ?_
  refine g_get X rfl flJ5_79 (ci := 12) rfl (h2) rfl ?_
  refine g_iconst X rfl (v := nI 1) (by decide) ?_
  refine g_iadd X rfl ?_
  rw [nI_1b]
  refine g_pV X rfl lcJ5_ensureCapacityInternal_d00df lmJ5_100 liJ5_ensureCapacityInternal_d00df (by simp [privL]) rfl (ct_ensure l D cy B od hb hlen hF hz) (h2) rfl rfl (Nat.le_of_ble_eq_true rfl) ⟨by decide, by decide⟩ ⟨Nat.le_of_ble_eq_true rfl, Nat.le_of_ble_eq_true rfl⟩ (fun v9 A1 z9 q9 => ?_)
  obtain ⟨rfl, v1, z1, cap1, ml1, f1, rfl, hv1, hF1, hb1, hm1, hf1⟩ := q9
  obtain ⟨-, e2, e3, e4, e5, e6, e7⟩ := id hb1
  refine g_aload_n X rfl rfl ?_
  refine g_callVC X (C := RJ4) rfl lcJ5_isLatin1_aae02 lmJ5_83 liJ5_isLatin1_aae02 (X.1.2.2.2.2 _ sel_l1) (cr_sb_isLatin1 l D cy B od ⟨_, _, _, hb1⟩ _) (ci := 12) (e2) rfl rfl rfl (Nat.le_of_ble_eq_true rfl) ⟨by decide, by decide⟩ ⟨Nat.le_of_ble_eq_true rfl, Nat.le_of_ble_eq_true rfl⟩ (fun w1 B1 y1 p1 => ?_)
  obtain ⟨rfl, rfl, rfl⟩ := p1
  refine g_if_eq X rfl (fun h => absurd h (by decide)) (fun _ => ?_)
  · skip
    refine g_iload_n X rfl rfl ?_
    refine g_rS X rfl lcJ1_canEncode_fc78d lmJ5_191 stJ1_canEncode_fc78d (cr_canEncode l D cy B od hch) rfl rfl (Nat.le_of_ble_eq_true rfl) ⟨⟨by decide, by decide⟩, rfl, rfl⟩ ⟨Nat.le_of_ble_eq_true rfl, Nat.le_of_ble_eq_true rfl⟩ ?_
    refine g_if_eq X rfl (fun h => absurd h (by decide)) (fun _ => ?_)
    · skip
      refine g_aload_n X rfl rfl ?_
      refine g_get X rfl flJ5_15 (ci := 12) rfl (e2) rfl ?_
      refine g_aload_n X rfl rfl ?_
      refine g_dup X rfl rfl ?_
      refine g_get X rfl flJ5_79 (ci := 12) rfl (e2) rfl ?_
      refine g_dup_x1 X rfl rfl rfl ?_
      refine g_iconst X rfl (v := nI 1) (by decide) ?_
      refine g_iadd X rfl ?_
      rw [nI_1b]
      refine g_put X rfl flJ5_79 rfl (ci := 12) rfl (e2) (Nat.le_of_ble_eq_true rfl) (by rfl) (by rfl) ?_
      refine g_iload_n X rfl rfl ?_
      refine g_i2b X rfl ?_
      rw [i2b_c ch hch]
      refine g_bast X rfl ((upA_ne (Ne.symm hb1.ne)).trans e3) (by omega) (by omega) (i2b_c ch hch) ?_
      refine g_goto X rfl ?_
      refine g_aload_n X rfl rfl ?_
      refine g_aret X rfl rfl (Nat.le_of_ble_eq_true rfl) (Nat.le_of_ble_eq_true rfl) ⟨rfl, v1, z1, rfl, hv1, (hF1.up (hF1.lt e2)).up (hF1.lt e3), ⟨cap1, ml1, upd f1 tx.length (nI ch), tAsc_app hasc (fun k hk => ?_), ?_, upA_eq, by rw [List.length_append]; exact hm1, e5, fun k hk => ?_, fun k hk => ?_⟩, fun q n1 n2 n3 => ?_⟩
      · have e : k = 0 := Nat.lt_one_iff.mp hk
        subst e; exact hch
      · rw [List.length_append, upA_ne hb1.ne]; exact upA_eq
      · rw [List.length_append] at hk; rw [txB_app]
        by_cases e : k < tx.length
        · rw [if_pos e]; exact (if_neg (by omega)).trans (e6 k e)
        · have e9 : k = tx.length := by have : ([ch] : List Nat).length = 1 := rfl; omega
          subst e9; rw [if_neg e, Nat.sub_self]; exact if_pos rfl
      · unfold upd
        by_cases e : k = tx.length
        · rw [if_pos e]; exact fits_c _ hch
        · rw [if_neg e]; exact e7 k hk
      · rw [upA_ne (show q ≠ v1 from by rcases hv1 with h | h; (rw [h.1]; exact n2); (rw [h.1]; exact n3)), upA_ne n1]; exact hf1 q n1 n3
set_option maxRecDepth 100000 in
set_option maxHeartbeats 400000 in
theorem ct_appendC (l : Launch) (D : va_G) (cy : Nat → ClassId) (B : Nat) (od : Nat → Option Nat) {A : AH} {b v cap : Nat} {tx : List Nat} {ml : Int32} {f : Nat → Int32} (hb : SbE cy A b v tx cap ml f) {ch z : Nat} (hch : ch < 128) (hlen : tx.length + 1 ≤ 300) (hF : FRs A z) (hz : z < 1000000) : CT l D cy B od yJ4_append_cf468 cJ4_append_cf468 2 (some (.object "java/lang/StringBuilder")) rmJ4_append_cf468 [.ref b, .int (nI ch)] A (z + 1) (fun v9 A' z' => v9 = some (.ref b) ∧ AppQ cy A A' b v z z' (tx ++ [ch])) := by
  refine CT.of (by decide) tJ4_append_cf468 okJ4_append_cf468 (Nat.le_of_ble_eq_true rfl) (q0 := tJ4_append_cf468[0]) rfl rfl ?_
  intro p e s m args below meth c X hnm
  refine g_aload_n X rfl rfl ?_
  refine g_iload_n X rfl rfl ?_
  refine g_callSU X rfl lcJ5_append_3fe6f lmJ4_50 liJ5_append_3fe6f sm_append_c su_sb (by decide) (ct_appendC5 l D cy B od hb hch hlen hF hz) (C := RJ4) (ci := 12) (hb.2.1) rfl rfl rfl (Nat.le_of_ble_eq_true rfl) ⟨by decide, by decide⟩ ⟨Nat.le_of_ble_eq_true rfl, Nat.le_of_ble_eq_true rfl⟩ (fun v1 A1 z1 q1 => ?_)
  obtain ⟨rfl, q1⟩ := q1
  refine g_pop X rfl rfl ?_
  refine g_aload_n X rfl rfl ?_
  exact g_aret X rfl rfl (Nat.le_of_ble_eq_true rfl) (Nat.le_of_ble_eq_true rfl) ⟨rfl, q1⟩
