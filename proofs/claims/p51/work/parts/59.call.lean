/-! 59: the law calls the ledger -/
def pcI (y : Nat) : Int32 := if y % 3 = 0 then numI y (nI 1) (nI 5000000) 5000000 else nI (1 + y % 250000)
set_option maxRecDepth 100000 in
set_option maxHeartbeats 400000 in
theorem ct_L_call_0 (l : Launch) (D : va_G) (cy : Nat → ClassId) (B : Nat) (od : Nat → Option Nat) {A : AH} {g n : Nat} {L : BL} {S : StV} {Z : SV} (hb : BkR cy A g L S Z) (hw : WfS S) (hn : n < 10000000) {oc : OC} {P : AH → Prop} (hC : CP l D cy B od yX7_addEntry cX7_addEntry 7 (some .int) rmX7_addEntry [.ref 0, .int (numI n (nI 0) (nI 3) 4), .int (numI (n / 64) (nI 0) (nI 9) 10), .int (nI (amtN (n / 64))), .int (numI (n / 64 / 9) (nI 0) (nI 359) 360), .int (dayI (n / 64 / 3))] A oc P (fun A' => A' = A)) {fs : List Value} (h0 : A 0 = some (.inr (7, fs))) (hr : ∀ r, oc = .inr r → ∃ x, r = .int x) (hE : ∀ E, oc = .inl E → E ∈ [eIAE, eISE]) (z : Nat) : CT l D cy B od yL_call cL_call 6 (some .int) rmL_call [.ref 0, .ref g, .int (nI 0), .int (nI n)] A z (HQ2 oc P A) := by
  refine CT.of (by decide) tL_call okL_call (Nat.le_of_ble_eq_true rfl) (q0 := tL_call[0]) rfl rfl ?_
  intro p e s m args below meth c X hnm
  have hw1 := hw.1
  have hw2 := hw.2.1
  have hw3 := hw.2.2.1
  refine g_iload_n X rfl rfl ?_
  refine g_bipush X rfl (v := nI 64) (by decide) ?_
  refine g_idiv X rfl (by decide) ?_
  rw [pk_div (by omega) (by decide) (by decide)]
  first | refine g_istoreS X rfl (by decide) rfl ?_ | refine g_istore X rfl (by decide) ?_
  refine g_iload_n X rfl rfl ?_
  refine g_aload_n X rfl rfl ?_
  refine g_get X rfl flL_91 (ci := 8) rfl (hb.1) rfl ?_
  refine g_rV X rfl lcJx4a65c_size_8abf5 lmL_97 lsJx4a65c_size_8abf5 (cr_size l D cy B od (show LsC cy A (L.1 2) (L.2.1 2) (L.2.2.1 2) S.1.1 (L.2.2.2 2) from hb.2.1 2 (by decide))) (ci := 9) ((hb.2.1 2 (by decide)).1) rfl rfl rfl (Nat.le_of_ble_eq_true rfl) ⟨⟨by decide, by decide⟩, rfl, rfl⟩ ⟨Nat.le_of_ble_eq_true rfl, Nat.le_of_ble_eq_true rfl⟩ ?_
  refine g_iconst X rfl (v := nI 1) (by decide) ?_
  refine g_iadd X rfl ?_
  rw [nI_1b]
  refine g_irem X rfl (fun q => by rw [nI_eq0 (by omega)] at q; omega) ?_
  rw [rem_N (by omega) (by omega) (by omega)]
  first | refine g_istoreS X rfl (by decide) rfl ?_ | refine g_istore X rfl (by decide) ?_
  refine g_iload_n X rfl rfl ?_
  refine g_tsw X rfl (j := 14) (by decide) (by decide) rfl rfl (by decide) ?_
  refine g_aload_n X rfl rfl ?_
  refine g_iload_n X rfl rfl ?_
  refine g_iconst X rfl (v := nI 0) (by decide) ?_
  refine g_iconst X rfl (v := nI 3) (by decide) ?_
  refine g_rS X rfl lcL_number lmL_86 stL_number (cr_L_number l D cy B od (n := n) (N := 4) (lo := nI 0) (hi := nI 3) (by omega) (by decide) (by decide) (by decide)) rfl rfl (Nat.le_of_ble_eq_true rfl) ⟨⟨by decide, by decide⟩, rfl, rfl⟩ ⟨Nat.le_of_ble_eq_true rfl, Nat.le_of_ble_eq_true rfl⟩ ?_
  refine g_iload X rfl rfl ?_
  refine g_iconst X rfl (v := nI 0) (by decide) ?_
  refine g_bipush X rfl (v := nI 9) (by decide) ?_
  refine g_rS X rfl lcL_number lmL_86 stL_number (cr_L_number l D cy B od (n := n / 64) (N := 10) (lo := nI 0) (hi := nI 9) (by omega) (by decide) (by decide) (by decide)) rfl rfl (Nat.le_of_ble_eq_true rfl) ⟨⟨by decide, by decide⟩, rfl, rfl⟩ ⟨Nat.le_of_ble_eq_true rfl, Nat.le_of_ble_eq_true rfl⟩ ?_
  refine g_iload X rfl rfl ?_
  refine g_rS X rfl lcL_amount lmL_108 stL_amount (cr_L_amount l D cy B od (n := n / 64) (by omega)) rfl rfl (Nat.le_of_ble_eq_true rfl) ⟨⟨by decide, by decide⟩, rfl, rfl⟩ ⟨Nat.le_of_ble_eq_true rfl, Nat.le_of_ble_eq_true rfl⟩ ?_
  refine g_iload X rfl rfl ?_
  refine g_bipush X rfl (v := nI 9) (by decide) ?_
  refine g_idiv X rfl (by decide) ?_
  rw [pk_div (by omega) (by decide) (by decide)]
  refine g_iconst X rfl (v := nI 0) (by decide) ?_
  refine g_sipush X rfl (v := nI 359) (by decide) ?_
  refine g_rS X rfl lcL_number lmL_86 stL_number (cr_L_number l D cy B od (n := n / 64 / 9) (N := 360) (lo := nI 0) (hi := nI 359) (by omega) (by decide) (by decide) (by decide)) rfl rfl (Nat.le_of_ble_eq_true rfl) ⟨⟨by decide, by decide⟩, rfl, rfl⟩ ⟨Nat.le_of_ble_eq_true rfl, Nat.le_of_ble_eq_true rfl⟩ ?_
  refine g_iload X rfl rfl ?_
  refine g_iconst X rfl (v := nI 3) (by decide) ?_
  refine g_idiv X rfl (by decide) ?_
  rw [pk_div (by omega) (by decide) (by decide)]
  refine g_rS X rfl lcL_day lmL_111 stL_day (cr_L_day l D cy B od (n := n / 64 / 3) (by omega)) rfl rfl (Nat.le_of_ble_eq_true rfl) ⟨⟨by decide, by decide⟩, rfl, rfl⟩ ⟨Nat.le_of_ble_eq_true rfl, Nat.le_of_ble_eq_true rfl⟩ ?_
  refine g_hp X rfl lwL_addEntry lmL_155 stL_addEntry (hp_L_addEntry l D cy B od hC h0 hr hE _) rfl rfl (Nat.le_of_ble_eq_true rfl) ⟨by decide, by decide⟩ ⟨Nat.le_of_ble_eq_true rfl, Nat.le_of_ble_eq_true rfl⟩ (fun v1 A1 z1 q1 => ?_)
  obtain ⟨rfl, q1⟩ := q1
  exact g_iret X rfl rfl (by rfl) (Nat.le_of_ble_eq_true rfl) (Nat.le_of_ble_eq_true rfl) ⟨rfl, q1⟩
set_option maxRecDepth 100000 in
set_option maxHeartbeats 400000 in
theorem ct_L_call_1 (l : Launch) (D : va_G) (cy : Nat → ClassId) (B : Nat) (od : Nat → Option Nat) {A : AH} {g n : Nat} {L : BL} {S : StV} {Z : SV} (hb : BkR cy A g L S Z) (hw : WfS S) (hn : n < 10000000) {oc : OC} {P : AH → Prop} (hC : CP l D cy B od yX7_addEntry cX7_addEntry 7 (some .int) rmX7_addEntry [.ref 0, .int (numI n (nI 0) (nI 3) 4), .int (numI (n / 64) (nI 0) (nI 9) 10), .int (nI (amtN (n / 64))), .int (numI (n / 64 / 9) (nI 0) (nI 359) 360), .int (dayI (n / 64 / 3))] A oc P (fun A' => A' = A)) {fs : List Value} (h0 : A 0 = some (.inr (7, fs))) (hr : ∀ r, oc = .inr r → ∃ x, r = .int x) (hE : ∀ E, oc = .inl E → E ∈ [eIAE, eISE]) (z : Nat) : CT l D cy B od yL_call cL_call 6 (some .int) rmL_call [.ref 0, .ref g, .int (nI 1), .int (nI n)] A z (HQ2 oc P A) := by
  refine CT.of (by decide) tL_call okL_call (Nat.le_of_ble_eq_true rfl) (q0 := tL_call[0]) rfl rfl ?_
  intro p e s m args below meth c X hnm
  have hw1 := hw.1
  have hw2 := hw.2.1
  have hw3 := hw.2.2.1
  refine g_iload_n X rfl rfl ?_
  refine g_bipush X rfl (v := nI 64) (by decide) ?_
  refine g_idiv X rfl (by decide) ?_
  rw [pk_div (by omega) (by decide) (by decide)]
  first | refine g_istoreS X rfl (by decide) rfl ?_ | refine g_istore X rfl (by decide) ?_
  refine g_iload_n X rfl rfl ?_
  refine g_aload_n X rfl rfl ?_
  refine g_get X rfl flL_91 (ci := 8) rfl (hb.1) rfl ?_
  refine g_rV X rfl lcJx4a65c_size_8abf5 lmL_97 lsJx4a65c_size_8abf5 (cr_size l D cy B od (show LsC cy A (L.1 2) (L.2.1 2) (L.2.2.1 2) S.1.1 (L.2.2.2 2) from hb.2.1 2 (by decide))) (ci := 9) ((hb.2.1 2 (by decide)).1) rfl rfl rfl (Nat.le_of_ble_eq_true rfl) ⟨⟨by decide, by decide⟩, rfl, rfl⟩ ⟨Nat.le_of_ble_eq_true rfl, Nat.le_of_ble_eq_true rfl⟩ ?_
  refine g_iconst X rfl (v := nI 1) (by decide) ?_
  refine g_iadd X rfl ?_
  rw [nI_1b]
  refine g_irem X rfl (fun q => by rw [nI_eq0 (by omega)] at q; omega) ?_
  rw [rem_N (by omega) (by omega) (by omega)]
  first | refine g_istoreS X rfl (by decide) rfl ?_ | refine g_istore X rfl (by decide) ?_
  refine g_iload_n X rfl rfl ?_
  refine g_tsw X rfl (j := 14) (by decide) (by decide) rfl rfl (by decide) ?_
  refine g_aload_n X rfl rfl ?_
  refine g_iload_n X rfl rfl ?_
  refine g_iconst X rfl (v := nI 0) (by decide) ?_
  refine g_iconst X rfl (v := nI 3) (by decide) ?_
  refine g_rS X rfl lcL_number lmL_86 stL_number (cr_L_number l D cy B od (n := n) (N := 4) (lo := nI 0) (hi := nI 3) (by omega) (by decide) (by decide) (by decide)) rfl rfl (Nat.le_of_ble_eq_true rfl) ⟨⟨by decide, by decide⟩, rfl, rfl⟩ ⟨Nat.le_of_ble_eq_true rfl, Nat.le_of_ble_eq_true rfl⟩ ?_
  refine g_iload X rfl rfl ?_
  refine g_iconst X rfl (v := nI 0) (by decide) ?_
  refine g_bipush X rfl (v := nI 9) (by decide) ?_
  refine g_rS X rfl lcL_number lmL_86 stL_number (cr_L_number l D cy B od (n := n / 64) (N := 10) (lo := nI 0) (hi := nI 9) (by omega) (by decide) (by decide) (by decide)) rfl rfl (Nat.le_of_ble_eq_true rfl) ⟨⟨by decide, by decide⟩, rfl, rfl⟩ ⟨Nat.le_of_ble_eq_true rfl, Nat.le_of_ble_eq_true rfl⟩ ?_
  refine g_iload X rfl rfl ?_
  refine g_rS X rfl lcL_amount lmL_108 stL_amount (cr_L_amount l D cy B od (n := n / 64) (by omega)) rfl rfl (Nat.le_of_ble_eq_true rfl) ⟨⟨by decide, by decide⟩, rfl, rfl⟩ ⟨Nat.le_of_ble_eq_true rfl, Nat.le_of_ble_eq_true rfl⟩ ?_
  refine g_iload X rfl rfl ?_
  refine g_bipush X rfl (v := nI 9) (by decide) ?_
  refine g_idiv X rfl (by decide) ?_
  rw [pk_div (by omega) (by decide) (by decide)]
  refine g_iconst X rfl (v := nI 0) (by decide) ?_
  refine g_sipush X rfl (v := nI 359) (by decide) ?_
  refine g_rS X rfl lcL_number lmL_86 stL_number (cr_L_number l D cy B od (n := n / 64 / 9) (N := 360) (lo := nI 0) (hi := nI 359) (by omega) (by decide) (by decide) (by decide)) rfl rfl (Nat.le_of_ble_eq_true rfl) ⟨⟨by decide, by decide⟩, rfl, rfl⟩ ⟨Nat.le_of_ble_eq_true rfl, Nat.le_of_ble_eq_true rfl⟩ ?_
  refine g_iload X rfl rfl ?_
  refine g_iconst X rfl (v := nI 3) (by decide) ?_
  refine g_idiv X rfl (by decide) ?_
  rw [pk_div (by omega) (by decide) (by decide)]
  refine g_rS X rfl lcL_day lmL_111 stL_day (cr_L_day l D cy B od (n := n / 64 / 3) (by omega)) rfl rfl (Nat.le_of_ble_eq_true rfl) ⟨⟨by decide, by decide⟩, rfl, rfl⟩ ⟨Nat.le_of_ble_eq_true rfl, Nat.le_of_ble_eq_true rfl⟩ ?_
  refine g_hp X rfl lwL_addEntry lmL_155 stL_addEntry (hp_L_addEntry l D cy B od hC h0 hr hE _) rfl rfl (Nat.le_of_ble_eq_true rfl) ⟨by decide, by decide⟩ ⟨Nat.le_of_ble_eq_true rfl, Nat.le_of_ble_eq_true rfl⟩ (fun v1 A1 z1 q1 => ?_)
  obtain ⟨rfl, q1⟩ := q1
  exact g_iret X rfl rfl (by rfl) (Nat.le_of_ble_eq_true rfl) (Nat.le_of_ble_eq_true rfl) ⟨rfl, q1⟩
set_option maxRecDepth 100000 in
set_option maxHeartbeats 400000 in
theorem ct_L_call_2 (l : Launch) (D : va_G) (cy : Nat → ClassId) (B : Nat) (od : Nat → Option Nat) {A : AH} {g n : Nat} {L : BL} {S : StV} {Z : SV} (hb : BkR cy A g L S Z) (hw : WfS S) (hn : n < 10000000) {oc : OC} {P : AH → Prop} (hC : CP l D cy B od yX7_addEntry cX7_addEntry 7 (some .int) rmX7_addEntry [.ref 0, .int (numI n (nI 0) (nI 3) 4), .int (numI (n / 64) (nI 0) (nI 9) 10), .int (nI (amtN (n / 64))), .int (numI (n / 64 / 9) (nI 0) (nI 359) 360), .int (dayI (n / 64 / 3))] A oc P (fun A' => A' = A)) {fs : List Value} (h0 : A 0 = some (.inr (7, fs))) (hr : ∀ r, oc = .inr r → ∃ x, r = .int x) (hE : ∀ E, oc = .inl E → E ∈ [eIAE, eISE]) (z : Nat) : CT l D cy B od yL_call cL_call 6 (some .int) rmL_call [.ref 0, .ref g, .int (nI 2), .int (nI n)] A z (HQ2 oc P A) := by
  refine CT.of (by decide) tL_call okL_call (Nat.le_of_ble_eq_true rfl) (q0 := tL_call[0]) rfl rfl ?_
  intro p e s m args below meth c X hnm
  have hw1 := hw.1
  have hw2 := hw.2.1
  have hw3 := hw.2.2.1
  refine g_iload_n X rfl rfl ?_
  refine g_bipush X rfl (v := nI 64) (by decide) ?_
  refine g_idiv X rfl (by decide) ?_
  rw [pk_div (by omega) (by decide) (by decide)]
  first | refine g_istoreS X rfl (by decide) rfl ?_ | refine g_istore X rfl (by decide) ?_
  refine g_iload_n X rfl rfl ?_
  refine g_aload_n X rfl rfl ?_
  refine g_get X rfl flL_91 (ci := 8) rfl (hb.1) rfl ?_
  refine g_rV X rfl lcJx4a65c_size_8abf5 lmL_97 lsJx4a65c_size_8abf5 (cr_size l D cy B od (show LsC cy A (L.1 2) (L.2.1 2) (L.2.2.1 2) S.1.1 (L.2.2.2 2) from hb.2.1 2 (by decide))) (ci := 9) ((hb.2.1 2 (by decide)).1) rfl rfl rfl (Nat.le_of_ble_eq_true rfl) ⟨⟨by decide, by decide⟩, rfl, rfl⟩ ⟨Nat.le_of_ble_eq_true rfl, Nat.le_of_ble_eq_true rfl⟩ ?_
  refine g_iconst X rfl (v := nI 1) (by decide) ?_
  refine g_iadd X rfl ?_
  rw [nI_1b]
  refine g_irem X rfl (fun q => by rw [nI_eq0 (by omega)] at q; omega) ?_
  rw [rem_N (by omega) (by omega) (by omega)]
  first | refine g_istoreS X rfl (by decide) rfl ?_ | refine g_istore X rfl (by decide) ?_
  refine g_iload_n X rfl rfl ?_
  refine g_tsw X rfl (j := 14) (by decide) (by decide) rfl rfl (by decide) ?_
  refine g_aload_n X rfl rfl ?_
  refine g_iload_n X rfl rfl ?_
  refine g_iconst X rfl (v := nI 0) (by decide) ?_
  refine g_iconst X rfl (v := nI 3) (by decide) ?_
  refine g_rS X rfl lcL_number lmL_86 stL_number (cr_L_number l D cy B od (n := n) (N := 4) (lo := nI 0) (hi := nI 3) (by omega) (by decide) (by decide) (by decide)) rfl rfl (Nat.le_of_ble_eq_true rfl) ⟨⟨by decide, by decide⟩, rfl, rfl⟩ ⟨Nat.le_of_ble_eq_true rfl, Nat.le_of_ble_eq_true rfl⟩ ?_
  refine g_iload X rfl rfl ?_
  refine g_iconst X rfl (v := nI 0) (by decide) ?_
  refine g_bipush X rfl (v := nI 9) (by decide) ?_
  refine g_rS X rfl lcL_number lmL_86 stL_number (cr_L_number l D cy B od (n := n / 64) (N := 10) (lo := nI 0) (hi := nI 9) (by omega) (by decide) (by decide) (by decide)) rfl rfl (Nat.le_of_ble_eq_true rfl) ⟨⟨by decide, by decide⟩, rfl, rfl⟩ ⟨Nat.le_of_ble_eq_true rfl, Nat.le_of_ble_eq_true rfl⟩ ?_
  refine g_iload X rfl rfl ?_
  refine g_rS X rfl lcL_amount lmL_108 stL_amount (cr_L_amount l D cy B od (n := n / 64) (by omega)) rfl rfl (Nat.le_of_ble_eq_true rfl) ⟨⟨by decide, by decide⟩, rfl, rfl⟩ ⟨Nat.le_of_ble_eq_true rfl, Nat.le_of_ble_eq_true rfl⟩ ?_
  refine g_iload X rfl rfl ?_
  refine g_bipush X rfl (v := nI 9) (by decide) ?_
  refine g_idiv X rfl (by decide) ?_
  rw [pk_div (by omega) (by decide) (by decide)]
  refine g_iconst X rfl (v := nI 0) (by decide) ?_
  refine g_sipush X rfl (v := nI 359) (by decide) ?_
  refine g_rS X rfl lcL_number lmL_86 stL_number (cr_L_number l D cy B od (n := n / 64 / 9) (N := 360) (lo := nI 0) (hi := nI 359) (by omega) (by decide) (by decide) (by decide)) rfl rfl (Nat.le_of_ble_eq_true rfl) ⟨⟨by decide, by decide⟩, rfl, rfl⟩ ⟨Nat.le_of_ble_eq_true rfl, Nat.le_of_ble_eq_true rfl⟩ ?_
  refine g_iload X rfl rfl ?_
  refine g_iconst X rfl (v := nI 3) (by decide) ?_
  refine g_idiv X rfl (by decide) ?_
  rw [pk_div (by omega) (by decide) (by decide)]
  refine g_rS X rfl lcL_day lmL_111 stL_day (cr_L_day l D cy B od (n := n / 64 / 3) (by omega)) rfl rfl (Nat.le_of_ble_eq_true rfl) ⟨⟨by decide, by decide⟩, rfl, rfl⟩ ⟨Nat.le_of_ble_eq_true rfl, Nat.le_of_ble_eq_true rfl⟩ ?_
  refine g_hp X rfl lwL_addEntry lmL_155 stL_addEntry (hp_L_addEntry l D cy B od hC h0 hr hE _) rfl rfl (Nat.le_of_ble_eq_true rfl) ⟨by decide, by decide⟩ ⟨Nat.le_of_ble_eq_true rfl, Nat.le_of_ble_eq_true rfl⟩ (fun v1 A1 z1 q1 => ?_)
  obtain ⟨rfl, q1⟩ := q1
  exact g_iret X rfl rfl (by rfl) (Nat.le_of_ble_eq_true rfl) (Nat.le_of_ble_eq_true rfl) ⟨rfl, q1⟩
set_option maxRecDepth 100000 in
set_option maxHeartbeats 400000 in
theorem ct_L_call_3 (l : Launch) (D : va_G) (cy : Nat → ClassId) (B : Nat) (od : Nat → Option Nat) {A : AH} {g n : Nat} {L : BL} {S : StV} {Z : SV} (hb : BkR cy A g L S Z) (hw : WfS S) (hn : n < 10000000) {oc : OC} {P : AH → Prop} (hC : CP l D cy B od yX7_addEntry cX7_addEntry 7 (some .int) rmX7_addEntry [.ref 0, .int (numI n (nI 0) (nI 3) 4), .int (numI (n / 64) (nI 0) (nI 9) 10), .int (nI (amtN (n / 64))), .int (numI (n / 64 / 9) (nI 0) (nI 359) 360), .int (dayI (n / 64 / 3))] A oc P (fun A' => A' = A)) {fs : List Value} (h0 : A 0 = some (.inr (7, fs))) (hr : ∀ r, oc = .inr r → ∃ x, r = .int x) (hE : ∀ E, oc = .inl E → E ∈ [eIAE, eISE]) (z : Nat) : CT l D cy B od yL_call cL_call 6 (some .int) rmL_call [.ref 0, .ref g, .int (nI 3), .int (nI n)] A z (HQ2 oc P A) := by
  refine CT.of (by decide) tL_call okL_call (Nat.le_of_ble_eq_true rfl) (q0 := tL_call[0]) rfl rfl ?_
  intro p e s m args below meth c X hnm
  have hw1 := hw.1
  have hw2 := hw.2.1
  have hw3 := hw.2.2.1
  refine g_iload_n X rfl rfl ?_
  refine g_bipush X rfl (v := nI 64) (by decide) ?_
  refine g_idiv X rfl (by decide) ?_
  rw [pk_div (by omega) (by decide) (by decide)]
  first | refine g_istoreS X rfl (by decide) rfl ?_ | refine g_istore X rfl (by decide) ?_
  refine g_iload_n X rfl rfl ?_
  refine g_aload_n X rfl rfl ?_
  refine g_get X rfl flL_91 (ci := 8) rfl (hb.1) rfl ?_
  refine g_rV X rfl lcJx4a65c_size_8abf5 lmL_97 lsJx4a65c_size_8abf5 (cr_size l D cy B od (show LsC cy A (L.1 2) (L.2.1 2) (L.2.2.1 2) S.1.1 (L.2.2.2 2) from hb.2.1 2 (by decide))) (ci := 9) ((hb.2.1 2 (by decide)).1) rfl rfl rfl (Nat.le_of_ble_eq_true rfl) ⟨⟨by decide, by decide⟩, rfl, rfl⟩ ⟨Nat.le_of_ble_eq_true rfl, Nat.le_of_ble_eq_true rfl⟩ ?_
  refine g_iconst X rfl (v := nI 1) (by decide) ?_
  refine g_iadd X rfl ?_
  rw [nI_1b]
  refine g_irem X rfl (fun q => by rw [nI_eq0 (by omega)] at q; omega) ?_
  rw [rem_N (by omega) (by omega) (by omega)]
  first | refine g_istoreS X rfl (by decide) rfl ?_ | refine g_istore X rfl (by decide) ?_
  refine g_iload_n X rfl rfl ?_
  refine g_tsw X rfl (j := 14) (by decide) (by decide) rfl rfl (by decide) ?_
  refine g_aload_n X rfl rfl ?_
  refine g_iload_n X rfl rfl ?_
  refine g_iconst X rfl (v := nI 0) (by decide) ?_
  refine g_iconst X rfl (v := nI 3) (by decide) ?_
  refine g_rS X rfl lcL_number lmL_86 stL_number (cr_L_number l D cy B od (n := n) (N := 4) (lo := nI 0) (hi := nI 3) (by omega) (by decide) (by decide) (by decide)) rfl rfl (Nat.le_of_ble_eq_true rfl) ⟨⟨by decide, by decide⟩, rfl, rfl⟩ ⟨Nat.le_of_ble_eq_true rfl, Nat.le_of_ble_eq_true rfl⟩ ?_
  refine g_iload X rfl rfl ?_
  refine g_iconst X rfl (v := nI 0) (by decide) ?_
  refine g_bipush X rfl (v := nI 9) (by decide) ?_
  refine g_rS X rfl lcL_number lmL_86 stL_number (cr_L_number l D cy B od (n := n / 64) (N := 10) (lo := nI 0) (hi := nI 9) (by omega) (by decide) (by decide) (by decide)) rfl rfl (Nat.le_of_ble_eq_true rfl) ⟨⟨by decide, by decide⟩, rfl, rfl⟩ ⟨Nat.le_of_ble_eq_true rfl, Nat.le_of_ble_eq_true rfl⟩ ?_
  refine g_iload X rfl rfl ?_
  refine g_rS X rfl lcL_amount lmL_108 stL_amount (cr_L_amount l D cy B od (n := n / 64) (by omega)) rfl rfl (Nat.le_of_ble_eq_true rfl) ⟨⟨by decide, by decide⟩, rfl, rfl⟩ ⟨Nat.le_of_ble_eq_true rfl, Nat.le_of_ble_eq_true rfl⟩ ?_
  refine g_iload X rfl rfl ?_
  refine g_bipush X rfl (v := nI 9) (by decide) ?_
  refine g_idiv X rfl (by decide) ?_
  rw [pk_div (by omega) (by decide) (by decide)]
  refine g_iconst X rfl (v := nI 0) (by decide) ?_
  refine g_sipush X rfl (v := nI 359) (by decide) ?_
  refine g_rS X rfl lcL_number lmL_86 stL_number (cr_L_number l D cy B od (n := n / 64 / 9) (N := 360) (lo := nI 0) (hi := nI 359) (by omega) (by decide) (by decide) (by decide)) rfl rfl (Nat.le_of_ble_eq_true rfl) ⟨⟨by decide, by decide⟩, rfl, rfl⟩ ⟨Nat.le_of_ble_eq_true rfl, Nat.le_of_ble_eq_true rfl⟩ ?_
  refine g_iload X rfl rfl ?_
  refine g_iconst X rfl (v := nI 3) (by decide) ?_
  refine g_idiv X rfl (by decide) ?_
  rw [pk_div (by omega) (by decide) (by decide)]
  refine g_rS X rfl lcL_day lmL_111 stL_day (cr_L_day l D cy B od (n := n / 64 / 3) (by omega)) rfl rfl (Nat.le_of_ble_eq_true rfl) ⟨⟨by decide, by decide⟩, rfl, rfl⟩ ⟨Nat.le_of_ble_eq_true rfl, Nat.le_of_ble_eq_true rfl⟩ ?_
  refine g_hp X rfl lwL_addEntry lmL_155 stL_addEntry (hp_L_addEntry l D cy B od hC h0 hr hE _) rfl rfl (Nat.le_of_ble_eq_true rfl) ⟨by decide, by decide⟩ ⟨Nat.le_of_ble_eq_true rfl, Nat.le_of_ble_eq_true rfl⟩ (fun v1 A1 z1 q1 => ?_)
  obtain ⟨rfl, q1⟩ := q1
  exact g_iret X rfl rfl (by rfl) (Nat.le_of_ble_eq_true rfl) (Nat.le_of_ble_eq_true rfl) ⟨rfl, q1⟩
set_option maxRecDepth 100000 in
set_option maxHeartbeats 400000 in
theorem ct_L_call_4 (l : Launch) (D : va_G) (cy : Nat → ClassId) (B : Nat) (od : Nat → Option Nat) {A : AH} {g n : Nat} {L : BL} {S : StV} {Z : SV} (hb : BkR cy A g L S Z) (hw : WfS S) (hn : n < 10000000) {oc : OC} {P : AH → Prop} (hC : CP l D cy B od yX7_pay cX7_pay 4 (some .int) rmX7_pay [.ref 0, .int (nI (n % (S.1.1 + 1))), .int (dayI (n / 64))] A oc P (fun A' => A' = A)) {fs : List Value} (h0 : A 0 = some (.inr (7, fs))) (hr : ∀ r, oc = .inr r → ∃ x, r = .int x) (hE : ∀ E, oc = .inl E → E ∈ [eIOB, eIAE, eISE]) (z : Nat) : CT l D cy B od yL_call cL_call 6 (some .int) rmL_call [.ref 0, .ref g, .int (nI 4), .int (nI n)] A z (HQ2 oc P A) := by
  refine CT.of (by decide) tL_call okL_call (Nat.le_of_ble_eq_true rfl) (q0 := tL_call[0]) rfl rfl ?_
  intro p e s m args below meth c X hnm
  have hw1 := hw.1
  have hw2 := hw.2.1
  have hw3 := hw.2.2.1
  refine g_iload_n X rfl rfl ?_
  refine g_bipush X rfl (v := nI 64) (by decide) ?_
  refine g_idiv X rfl (by decide) ?_
  rw [pk_div (by omega) (by decide) (by decide)]
  first | refine g_istoreS X rfl (by decide) rfl ?_ | refine g_istore X rfl (by decide) ?_
  refine g_iload_n X rfl rfl ?_
  refine g_aload_n X rfl rfl ?_
  refine g_get X rfl flL_91 (ci := 8) rfl (hb.1) rfl ?_
  refine g_rV X rfl lcJx4a65c_size_8abf5 lmL_97 lsJx4a65c_size_8abf5 (cr_size l D cy B od (show LsC cy A (L.1 2) (L.2.1 2) (L.2.2.1 2) S.1.1 (L.2.2.2 2) from hb.2.1 2 (by decide))) (ci := 9) ((hb.2.1 2 (by decide)).1) rfl rfl rfl (Nat.le_of_ble_eq_true rfl) ⟨⟨by decide, by decide⟩, rfl, rfl⟩ ⟨Nat.le_of_ble_eq_true rfl, Nat.le_of_ble_eq_true rfl⟩ ?_
  refine g_iconst X rfl (v := nI 1) (by decide) ?_
  refine g_iadd X rfl ?_
  rw [nI_1b]
  refine g_irem X rfl (fun q => by rw [nI_eq0 (by omega)] at q; omega) ?_
  rw [rem_N (by omega) (by omega) (by omega)]
  first | refine g_istoreS X rfl (by decide) rfl ?_ | refine g_istore X rfl (by decide) ?_
  refine g_iload_n X rfl rfl ?_
  refine g_tsw X rfl (j := 37) (by decide) (by decide) rfl rfl (by decide) ?_
  refine g_aload_n X rfl rfl ?_
  refine g_iload X rfl rfl ?_
  refine g_iload X rfl rfl ?_
  refine g_rS X rfl lcL_day lmL_111 stL_day (cr_L_day l D cy B od (n := n / 64) (by omega)) rfl rfl (Nat.le_of_ble_eq_true rfl) ⟨⟨by decide, by decide⟩, rfl, rfl⟩ ⟨Nat.le_of_ble_eq_true rfl, Nat.le_of_ble_eq_true rfl⟩ ?_
  refine g_hp X rfl lwL_pay lmL_158 stL_pay (hp_L_pay l D cy B od hC h0 hr hE _) rfl rfl (Nat.le_of_ble_eq_true rfl) ⟨by decide, by decide⟩ ⟨Nat.le_of_ble_eq_true rfl, Nat.le_of_ble_eq_true rfl⟩ (fun v1 A1 z1 q1 => ?_)
  obtain ⟨rfl, q1⟩ := q1
  exact g_iret X rfl rfl (by rfl) (Nat.le_of_ble_eq_true rfl) (Nat.le_of_ble_eq_true rfl) ⟨rfl, q1⟩
set_option maxRecDepth 100000 in
set_option maxHeartbeats 400000 in
theorem ct_L_call_5 (l : Launch) (D : va_G) (cy : Nat → ClassId) (B : Nat) (od : Nat → Option Nat) {A : AH} {g n : Nat} {L : BL} {S : StV} {Z : SV} (hb : BkR cy A g L S Z) (hw : WfS S) (hn : n < 10000000) {oc : OC} {P : AH → Prop} (hC : CP l D cy B od yX7_pay cX7_pay 4 (some .int) rmX7_pay [.ref 0, .int (nI (n % (S.1.1 + 1))), .int (dayI (n / 64))] A oc P (fun A' => A' = A)) {fs : List Value} (h0 : A 0 = some (.inr (7, fs))) (hr : ∀ r, oc = .inr r → ∃ x, r = .int x) (hE : ∀ E, oc = .inl E → E ∈ [eIOB, eIAE, eISE]) (z : Nat) : CT l D cy B od yL_call cL_call 6 (some .int) rmL_call [.ref 0, .ref g, .int (nI 5), .int (nI n)] A z (HQ2 oc P A) := by
  refine CT.of (by decide) tL_call okL_call (Nat.le_of_ble_eq_true rfl) (q0 := tL_call[0]) rfl rfl ?_
  intro p e s m args below meth c X hnm
  have hw1 := hw.1
  have hw2 := hw.2.1
  have hw3 := hw.2.2.1
  refine g_iload_n X rfl rfl ?_
  refine g_bipush X rfl (v := nI 64) (by decide) ?_
  refine g_idiv X rfl (by decide) ?_
  rw [pk_div (by omega) (by decide) (by decide)]
  first | refine g_istoreS X rfl (by decide) rfl ?_ | refine g_istore X rfl (by decide) ?_
  refine g_iload_n X rfl rfl ?_
  refine g_aload_n X rfl rfl ?_
  refine g_get X rfl flL_91 (ci := 8) rfl (hb.1) rfl ?_
  refine g_rV X rfl lcJx4a65c_size_8abf5 lmL_97 lsJx4a65c_size_8abf5 (cr_size l D cy B od (show LsC cy A (L.1 2) (L.2.1 2) (L.2.2.1 2) S.1.1 (L.2.2.2 2) from hb.2.1 2 (by decide))) (ci := 9) ((hb.2.1 2 (by decide)).1) rfl rfl rfl (Nat.le_of_ble_eq_true rfl) ⟨⟨by decide, by decide⟩, rfl, rfl⟩ ⟨Nat.le_of_ble_eq_true rfl, Nat.le_of_ble_eq_true rfl⟩ ?_
  refine g_iconst X rfl (v := nI 1) (by decide) ?_
  refine g_iadd X rfl ?_
  rw [nI_1b]
  refine g_irem X rfl (fun q => by rw [nI_eq0 (by omega)] at q; omega) ?_
  rw [rem_N (by omega) (by omega) (by omega)]
  first | refine g_istoreS X rfl (by decide) rfl ?_ | refine g_istore X rfl (by decide) ?_
  refine g_iload_n X rfl rfl ?_
  refine g_tsw X rfl (j := 37) (by decide) (by decide) rfl rfl (by decide) ?_
  refine g_aload_n X rfl rfl ?_
  refine g_iload X rfl rfl ?_
  refine g_iload X rfl rfl ?_
  refine g_rS X rfl lcL_day lmL_111 stL_day (cr_L_day l D cy B od (n := n / 64) (by omega)) rfl rfl (Nat.le_of_ble_eq_true rfl) ⟨⟨by decide, by decide⟩, rfl, rfl⟩ ⟨Nat.le_of_ble_eq_true rfl, Nat.le_of_ble_eq_true rfl⟩ ?_
  refine g_hp X rfl lwL_pay lmL_158 stL_pay (hp_L_pay l D cy B od hC h0 hr hE _) rfl rfl (Nat.le_of_ble_eq_true rfl) ⟨by decide, by decide⟩ ⟨Nat.le_of_ble_eq_true rfl, Nat.le_of_ble_eq_true rfl⟩ (fun v1 A1 z1 q1 => ?_)
  obtain ⟨rfl, q1⟩ := q1
  exact g_iret X rfl rfl (by rfl) (Nat.le_of_ble_eq_true rfl) (Nat.le_of_ble_eq_true rfl) ⟨rfl, q1⟩
set_option maxRecDepth 100000 in
set_option maxHeartbeats 400000 in
theorem ct_L_call_6 (l : Launch) (D : va_G) (cy : Nat → ClassId) (B : Nat) (od : Nat → Option Nat) {A : AH} {g n : Nat} {L : BL} {S : StV} {Z : SV} (hb : BkR cy A g L S Z) (hw : WfS S) (hn : n < 10000000) {oc : OC} {P : AH → Prop} (hC : CP l D cy B od yX7_cancel cX7_cancel 2 (some .int) rmX7_cancel [.ref 0, .int (nI (n % (S.1.1 + 1)))] A oc P (fun A' => A' = A)) {fs : List Value} (h0 : A 0 = some (.inr (7, fs))) (hr : ∀ r, oc = .inr r → ∃ x, r = .int x) (hE : ∀ E, oc = .inl E → E ∈ [eIOB, eISE]) (z : Nat) : CT l D cy B od yL_call cL_call 6 (some .int) rmL_call [.ref 0, .ref g, .int (nI 6), .int (nI n)] A z (HQ2 oc P A) := by
  refine CT.of (by decide) tL_call okL_call (Nat.le_of_ble_eq_true rfl) (q0 := tL_call[0]) rfl rfl ?_
  intro p e s m args below meth c X hnm
  have hw1 := hw.1
  have hw2 := hw.2.1
  have hw3 := hw.2.2.1
  refine g_iload_n X rfl rfl ?_
  refine g_bipush X rfl (v := nI 64) (by decide) ?_
  refine g_idiv X rfl (by decide) ?_
  rw [pk_div (by omega) (by decide) (by decide)]
  first | refine g_istoreS X rfl (by decide) rfl ?_ | refine g_istore X rfl (by decide) ?_
  refine g_iload_n X rfl rfl ?_
  refine g_aload_n X rfl rfl ?_
  refine g_get X rfl flL_91 (ci := 8) rfl (hb.1) rfl ?_
  refine g_rV X rfl lcJx4a65c_size_8abf5 lmL_97 lsJx4a65c_size_8abf5 (cr_size l D cy B od (show LsC cy A (L.1 2) (L.2.1 2) (L.2.2.1 2) S.1.1 (L.2.2.2 2) from hb.2.1 2 (by decide))) (ci := 9) ((hb.2.1 2 (by decide)).1) rfl rfl rfl (Nat.le_of_ble_eq_true rfl) ⟨⟨by decide, by decide⟩, rfl, rfl⟩ ⟨Nat.le_of_ble_eq_true rfl, Nat.le_of_ble_eq_true rfl⟩ ?_
  refine g_iconst X rfl (v := nI 1) (by decide) ?_
  refine g_iadd X rfl ?_
  rw [nI_1b]
  refine g_irem X rfl (fun q => by rw [nI_eq0 (by omega)] at q; omega) ?_
  rw [rem_N (by omega) (by omega) (by omega)]
  first | refine g_istoreS X rfl (by decide) rfl ?_ | refine g_istore X rfl (by decide) ?_
  refine g_iload_n X rfl rfl ?_
  refine g_tsw X rfl (j := 43) (by decide) (by decide) rfl rfl (by decide) ?_
  refine g_aload_n X rfl rfl ?_
  refine g_iload X rfl rfl ?_
  refine g_hp X rfl lwL_cancel lmL_161 stL_cancel (hp_L_cancel l D cy B od hC h0 hr hE _) rfl rfl (Nat.le_of_ble_eq_true rfl) ⟨by decide, by decide⟩ ⟨Nat.le_of_ble_eq_true rfl, Nat.le_of_ble_eq_true rfl⟩ (fun v1 A1 z1 q1 => ?_)
  obtain ⟨rfl, q1⟩ := q1
  exact g_iret X rfl rfl (by rfl) (Nat.le_of_ble_eq_true rfl) (Nat.le_of_ble_eq_true rfl) ⟨rfl, q1⟩
set_option maxRecDepth 100000 in
set_option maxHeartbeats 400000 in
theorem ct_L_call_7 (l : Launch) (D : va_G) (cy : Nat → ClassId) (B : Nat) (od : Nat → Option Nat) {A : AH} {g n : Nat} {L : BL} {S : StV} {Z : SV} (hb : BkR cy A g L S Z) (hw : WfS S) (hn : n < 10000000) {oc : OC} {P : AH → Prop} (hC : CP l D cy B od yX7_addRoom cX7_addRoom 2 (some .int) rmX7_addRoom [.ref 0, .int (numI n (nI 1) (nI 500) 500)] A oc P (fun A' => A' = A)) {fs : List Value} (h0 : A 0 = some (.inr (7, fs))) (hr : ∀ r, oc = .inr r → ∃ x, r = .int x) (hE : ∀ E, oc = .inl E → E ∈ [eIAE, eISE]) (z : Nat) : CT l D cy B od yL_call cL_call 6 (some .int) rmL_call [.ref 0, .ref g, .int (nI 7), .int (nI n)] A z (HQ2 oc P A) := by
  refine CT.of (by decide) tL_call okL_call (Nat.le_of_ble_eq_true rfl) (q0 := tL_call[0]) rfl rfl ?_
  intro p e s m args below meth c X hnm
  have hw1 := hw.1
  have hw2 := hw.2.1
  have hw3 := hw.2.2.1
  refine g_iload_n X rfl rfl ?_
  refine g_bipush X rfl (v := nI 64) (by decide) ?_
  refine g_idiv X rfl (by decide) ?_
  rw [pk_div (by omega) (by decide) (by decide)]
  first | refine g_istoreS X rfl (by decide) rfl ?_ | refine g_istore X rfl (by decide) ?_
  refine g_iload_n X rfl rfl ?_
  refine g_aload_n X rfl rfl ?_
  refine g_get X rfl flL_91 (ci := 8) rfl (hb.1) rfl ?_
  refine g_rV X rfl lcJx4a65c_size_8abf5 lmL_97 lsJx4a65c_size_8abf5 (cr_size l D cy B od (show LsC cy A (L.1 2) (L.2.1 2) (L.2.2.1 2) S.1.1 (L.2.2.2 2) from hb.2.1 2 (by decide))) (ci := 9) ((hb.2.1 2 (by decide)).1) rfl rfl rfl (Nat.le_of_ble_eq_true rfl) ⟨⟨by decide, by decide⟩, rfl, rfl⟩ ⟨Nat.le_of_ble_eq_true rfl, Nat.le_of_ble_eq_true rfl⟩ ?_
  refine g_iconst X rfl (v := nI 1) (by decide) ?_
  refine g_iadd X rfl ?_
  rw [nI_1b]
  refine g_irem X rfl (fun q => by rw [nI_eq0 (by omega)] at q; omega) ?_
  rw [rem_N (by omega) (by omega) (by omega)]
  first | refine g_istoreS X rfl (by decide) rfl ?_ | refine g_istore X rfl (by decide) ?_
  refine g_iload_n X rfl rfl ?_
  refine g_tsw X rfl (j := 47) (by decide) (by decide) rfl rfl (by decide) ?_
  refine g_aload_n X rfl rfl ?_
  refine g_iload_n X rfl rfl ?_
  refine g_iconst X rfl (v := nI 1) (by decide) ?_
  refine g_sipush X rfl (v := nI 500) (by decide) ?_
  refine g_rS X rfl lcL_number lmL_86 stL_number (cr_L_number l D cy B od (n := n) (N := 500) (lo := nI 1) (hi := nI 500) (by omega) (by decide) (by decide) (by decide)) rfl rfl (Nat.le_of_ble_eq_true rfl) ⟨⟨by decide, by decide⟩, rfl, rfl⟩ ⟨Nat.le_of_ble_eq_true rfl, Nat.le_of_ble_eq_true rfl⟩ ?_
  refine g_hp X rfl lwL_addRoom lmL_163 stL_addRoom (hp_L_addRoom l D cy B od hC h0 hr hE _) rfl rfl (Nat.le_of_ble_eq_true rfl) ⟨by decide, by decide⟩ ⟨Nat.le_of_ble_eq_true rfl, Nat.le_of_ble_eq_true rfl⟩ (fun v1 A1 z1 q1 => ?_)
  obtain ⟨rfl, q1⟩ := q1
  exact g_iret X rfl rfl (by rfl) (Nat.le_of_ble_eq_true rfl) (Nat.le_of_ble_eq_true rfl) ⟨rfl, q1⟩
set_option maxRecDepth 100000 in
set_option maxHeartbeats 400000 in
theorem ct_L_call_8 (l : Launch) (D : va_G) (cy : Nat → ClassId) (B : Nat) (od : Nat → Option Nat) {A : AH} {g n : Nat} {L : BL} {S : StV} {Z : SV} (hb : BkR cy A g L S Z) (hw : WfS S) (hn : n < 10000000) {oc : OC} {P : AH → Prop} (hC : CP l D cy B od yX7_setOffice cX7_setOffice 5 (some .int) rmX7_setOffice [.ref 0, .int (nI (n % (S.2.1.1 + 1))), .int (dayI (n / 64)), .int (numI (n / 64 / 5) (nI 0) (nI 359) 360)] A oc P (fun A' => A' = A)) {fs : List Value} (h0 : A 0 = some (.inr (7, fs))) (hr : ∀ r, oc = .inr r → ∃ x, r = .int x) (hE : ∀ E, oc = .inl E → E ∈ [eIOB, eIAE]) (z : Nat) : CT l D cy B od yL_call cL_call 6 (some .int) rmL_call [.ref 0, .ref g, .int (nI 8), .int (nI n)] A z (HQ2 oc P A) := by
  refine CT.of (by decide) tL_call okL_call (Nat.le_of_ble_eq_true rfl) (q0 := tL_call[0]) rfl rfl ?_
  intro p e s m args below meth c X hnm
  have hw1 := hw.1
  have hw2 := hw.2.1
  have hw3 := hw.2.2.1
  refine g_iload_n X rfl rfl ?_
  refine g_bipush X rfl (v := nI 64) (by decide) ?_
  refine g_idiv X rfl (by decide) ?_
  rw [pk_div (by omega) (by decide) (by decide)]
  first | refine g_istoreS X rfl (by decide) rfl ?_ | refine g_istore X rfl (by decide) ?_
  refine g_iload_n X rfl rfl ?_
  refine g_aload_n X rfl rfl ?_
  refine g_get X rfl flL_91 (ci := 8) rfl (hb.1) rfl ?_
  refine g_rV X rfl lcJx4a65c_size_8abf5 lmL_97 lsJx4a65c_size_8abf5 (cr_size l D cy B od (show LsC cy A (L.1 2) (L.2.1 2) (L.2.2.1 2) S.1.1 (L.2.2.2 2) from hb.2.1 2 (by decide))) (ci := 9) ((hb.2.1 2 (by decide)).1) rfl rfl rfl (Nat.le_of_ble_eq_true rfl) ⟨⟨by decide, by decide⟩, rfl, rfl⟩ ⟨Nat.le_of_ble_eq_true rfl, Nat.le_of_ble_eq_true rfl⟩ ?_
  refine g_iconst X rfl (v := nI 1) (by decide) ?_
  refine g_iadd X rfl ?_
  rw [nI_1b]
  refine g_irem X rfl (fun q => by rw [nI_eq0 (by omega)] at q; omega) ?_
  rw [rem_N (by omega) (by omega) (by omega)]
  first | refine g_istoreS X rfl (by decide) rfl ?_ | refine g_istore X rfl (by decide) ?_
  refine g_iload_n X rfl rfl ?_
  refine g_tsw X rfl (j := 54) (by decide) (by decide) rfl rfl (by decide) ?_
  refine g_aload_n X rfl rfl ?_
  refine g_iload_n X rfl rfl ?_
  refine g_aload_n X rfl rfl ?_
  refine g_get X rfl flL_105 (ci := 8) rfl (hb.1) rfl ?_
  refine g_rV X rfl lcJx4a65c_size_8abf5 lmL_97 lsJx4a65c_size_8abf5 (cr_size l D cy B od (show LsC cy A (L.1 1) (L.2.1 1) (L.2.2.1 1) S.2.1.1 (L.2.2.2 1) from hb.2.1 1 (by decide))) (ci := 9) ((hb.2.1 1 (by decide)).1) rfl rfl rfl (Nat.le_of_ble_eq_true rfl) ⟨⟨by decide, by decide⟩, rfl, rfl⟩ ⟨Nat.le_of_ble_eq_true rfl, Nat.le_of_ble_eq_true rfl⟩ ?_
  refine g_iconst X rfl (v := nI 1) (by decide) ?_
  refine g_iadd X rfl ?_
  rw [nI_1b]
  refine g_irem X rfl (fun q => by rw [nI_eq0 (by omega)] at q; omega) ?_
  rw [rem_N (by omega) (by omega) (by omega)]
  refine g_iload X rfl rfl ?_
  refine g_rS X rfl lcL_day lmL_111 stL_day (cr_L_day l D cy B od (n := n / 64) (by omega)) rfl rfl (Nat.le_of_ble_eq_true rfl) ⟨⟨by decide, by decide⟩, rfl, rfl⟩ ⟨Nat.le_of_ble_eq_true rfl, Nat.le_of_ble_eq_true rfl⟩ ?_
  refine g_iload X rfl rfl ?_
  refine g_iconst X rfl (v := nI 5) (by decide) ?_
  refine g_idiv X rfl (by decide) ?_
  rw [pk_div (by omega) (by decide) (by decide)]
  refine g_iconst X rfl (v := nI 0) (by decide) ?_
  refine g_sipush X rfl (v := nI 359) (by decide) ?_
  refine g_rS X rfl lcL_number lmL_86 stL_number (cr_L_number l D cy B od (n := n / 64 / 5) (N := 360) (lo := nI 0) (hi := nI 359) (by omega) (by decide) (by decide) (by decide)) rfl rfl (Nat.le_of_ble_eq_true rfl) ⟨⟨by decide, by decide⟩, rfl, rfl⟩ ⟨Nat.le_of_ble_eq_true rfl, Nat.le_of_ble_eq_true rfl⟩ ?_
  refine g_hp X rfl lwL_setOffice lmL_165 stL_setOffice (hp_L_setOffice l D cy B od hC h0 hr hE _) rfl rfl (Nat.le_of_ble_eq_true rfl) ⟨by decide, by decide⟩ ⟨Nat.le_of_ble_eq_true rfl, Nat.le_of_ble_eq_true rfl⟩ (fun v1 A1 z1 q1 => ?_)
  obtain ⟨rfl, q1⟩ := q1
  exact g_iret X rfl rfl (by rfl) (Nat.le_of_ble_eq_true rfl) (Nat.le_of_ble_eq_true rfl) ⟨rfl, q1⟩
set_option maxRecDepth 100000 in
set_option maxHeartbeats 400000 in
theorem ct_L_call_9 (l : Launch) (D : va_G) (cy : Nat → ClassId) (B : Nat) (od : Nat → Option Nat) {A : AH} {g n : Nat} {L : BL} {S : StV} {Z : SV} (hb : BkR cy A g L S Z) (hw : WfS S) (hn : n < 10000000) {oc : OC} {P : AH → Prop} (hC : CP l D cy B od yX7_addAsset cX7_addAsset 4 (some .int) rmX7_addAsset [.ref 0, .int (pcI (n / 64)), .int (numI n (nI 0) (nI 359) 360), .int (numI (n / 64 / 7) (nI 1) (nI 120) 120)] A oc P (fun A' => A' = A)) {fs : List Value} (h0 : A 0 = some (.inr (7, fs))) (hr : ∀ r, oc = .inr r → ∃ x, r = .int x) (hE : ∀ E, oc = .inl E → E ∈ [eIAE, eISE]) (z : Nat) : CT l D cy B od yL_call cL_call 6 (some .int) rmL_call [.ref 0, .ref g, .int (nI 9), .int (nI n)] A z (HQ2 oc P A) := by
  refine CT.of (by decide) tL_call okL_call (Nat.le_of_ble_eq_true rfl) (q0 := tL_call[0]) rfl rfl ?_
  intro p e s m args below meth c X hnm
  have hw1 := hw.1
  have hw2 := hw.2.1
  have hw3 := hw.2.2.1
  refine g_iload_n X rfl rfl ?_
  refine g_bipush X rfl (v := nI 64) (by decide) ?_
  refine g_idiv X rfl (by decide) ?_
  rw [pk_div (by omega) (by decide) (by decide)]
  first | refine g_istoreS X rfl (by decide) rfl ?_ | refine g_istore X rfl (by decide) ?_
  refine g_iload_n X rfl rfl ?_
  refine g_aload_n X rfl rfl ?_
  refine g_get X rfl flL_91 (ci := 8) rfl (hb.1) rfl ?_
  refine g_rV X rfl lcJx4a65c_size_8abf5 lmL_97 lsJx4a65c_size_8abf5 (cr_size l D cy B od (show LsC cy A (L.1 2) (L.2.1 2) (L.2.2.1 2) S.1.1 (L.2.2.2 2) from hb.2.1 2 (by decide))) (ci := 9) ((hb.2.1 2 (by decide)).1) rfl rfl rfl (Nat.le_of_ble_eq_true rfl) ⟨⟨by decide, by decide⟩, rfl, rfl⟩ ⟨Nat.le_of_ble_eq_true rfl, Nat.le_of_ble_eq_true rfl⟩ ?_
  refine g_iconst X rfl (v := nI 1) (by decide) ?_
  refine g_iadd X rfl ?_
  rw [nI_1b]
  refine g_irem X rfl (fun q => by rw [nI_eq0 (by omega)] at q; omega) ?_
  rw [rem_N (by omega) (by omega) (by omega)]
  first | refine g_istoreS X rfl (by decide) rfl ?_ | refine g_istore X rfl (by decide) ?_
  refine g_iload_n X rfl rfl ?_
  refine g_tsw X rfl (j := 72) (by decide) (by decide) rfl rfl (by decide) ?_
  refine g_aload_n X rfl rfl ?_
  refine g_iload X rfl rfl ?_
  refine g_iconst X rfl (v := nI 3) (by decide) ?_
  refine g_irem X rfl (by decide) ?_
  rw [rem_N (by omega) (by decide) (by decide)]
  refine g_if_ne X rfl (fun h => ?_) (fun h => ?_)
  · have h3 : pcI (n / 64) = nI (1 + n / 64 % 250000) := if_neg (fun q => h (by rw [q]; rfl))
    refine g_iconst X rfl (v := nI 1) (by decide) ?_
    refine g_iload X rfl rfl ?_
    refine g_ldc X rfl kcL_132 ?_
    refine g_irem X rfl (by decide) ?_
    rw [rem_N (by omega) (by decide) (by decide)]
    refine g_iadd X rfl ?_
    rw [nI_add, ← h3]
    refine g_iload_n X rfl rfl ?_
    refine g_iconst X rfl (v := nI 0) (by decide) ?_
    refine g_sipush X rfl (v := nI 359) (by decide) ?_
    refine g_rS X rfl lcL_number lmL_86 stL_number (cr_L_number l D cy B od (n := n) (N := 360) (lo := nI 0) (hi := nI 359) (by omega) (by decide) (by decide) (by decide)) rfl rfl (Nat.le_of_ble_eq_true rfl) ⟨⟨by decide, by decide⟩, rfl, rfl⟩ ⟨Nat.le_of_ble_eq_true rfl, Nat.le_of_ble_eq_true rfl⟩ ?_
    refine g_iload X rfl rfl ?_
    refine g_bipush X rfl (v := nI 7) (by decide) ?_
    refine g_idiv X rfl (by decide) ?_
    rw [pk_div (by omega) (by decide) (by decide)]
    refine g_iconst X rfl (v := nI 1) (by decide) ?_
    refine g_bipush X rfl (v := nI 120) (by decide) ?_
    refine g_rS X rfl lcL_number lmL_86 stL_number (cr_L_number l D cy B od (n := n / 64 / 7) (N := 120) (lo := nI 1) (hi := nI 120) (by omega) (by decide) (by decide) (by decide)) rfl rfl (Nat.le_of_ble_eq_true rfl) ⟨⟨by decide, by decide⟩, rfl, rfl⟩ ⟨Nat.le_of_ble_eq_true rfl, Nat.le_of_ble_eq_true rfl⟩ ?_
    refine g_hp X rfl lwL_addAsset lmL_168 stL_addAsset (hp_L_addAsset l D cy B od hC h0 hr hE _) rfl rfl (Nat.le_of_ble_eq_true rfl) ⟨by decide, by decide⟩ ⟨Nat.le_of_ble_eq_true rfl, Nat.le_of_ble_eq_true rfl⟩ (fun v1 A1 z1 q1 => ?_)
    obtain ⟨rfl, q1⟩ := q1
    exact g_iret X rfl rfl (by rfl) (Nat.le_of_ble_eq_true rfl) (Nat.le_of_ble_eq_true rfl) ⟨rfl, q1⟩
  · have h3 : pcI (n / 64) = numI (n / 64) (nI 1) (nI 5000000) 5000000 := if_pos ((nI_eq0 (by omega)).mp h)
    refine g_iload X rfl rfl ?_
    refine g_iconst X rfl (v := nI 1) (by decide) ?_
    refine g_ldc X rfl kcL_131 ?_
    refine g_rS X rfl lcL_number lmL_86 stL_number (cr_L_number l D cy B od (n := n / 64) (N := 5000000) (lo := nI 1) (hi := nI 5000000) (by omega) (by decide) (by decide) (by decide)) rfl rfl (Nat.le_of_ble_eq_true rfl) ⟨⟨by decide, by decide⟩, rfl, rfl⟩ ⟨Nat.le_of_ble_eq_true rfl, Nat.le_of_ble_eq_true rfl⟩ ?_
    rw [← h3]
    refine g_goto X rfl ?_
    refine g_iload_n X rfl rfl ?_
    refine g_iconst X rfl (v := nI 0) (by decide) ?_
    refine g_sipush X rfl (v := nI 359) (by decide) ?_
    refine g_rS X rfl lcL_number lmL_86 stL_number (cr_L_number l D cy B od (n := n) (N := 360) (lo := nI 0) (hi := nI 359) (by omega) (by decide) (by decide) (by decide)) rfl rfl (Nat.le_of_ble_eq_true rfl) ⟨⟨by decide, by decide⟩, rfl, rfl⟩ ⟨Nat.le_of_ble_eq_true rfl, Nat.le_of_ble_eq_true rfl⟩ ?_
    refine g_iload X rfl rfl ?_
    refine g_bipush X rfl (v := nI 7) (by decide) ?_
    refine g_idiv X rfl (by decide) ?_
    rw [pk_div (by omega) (by decide) (by decide)]
    refine g_iconst X rfl (v := nI 1) (by decide) ?_
    refine g_bipush X rfl (v := nI 120) (by decide) ?_
    refine g_rS X rfl lcL_number lmL_86 stL_number (cr_L_number l D cy B od (n := n / 64 / 7) (N := 120) (lo := nI 1) (hi := nI 120) (by omega) (by decide) (by decide) (by decide)) rfl rfl (Nat.le_of_ble_eq_true rfl) ⟨⟨by decide, by decide⟩, rfl, rfl⟩ ⟨Nat.le_of_ble_eq_true rfl, Nat.le_of_ble_eq_true rfl⟩ ?_
    refine g_hp X rfl lwL_addAsset lmL_168 stL_addAsset (hp_L_addAsset l D cy B od hC h0 hr hE _) rfl rfl (Nat.le_of_ble_eq_true rfl) ⟨by decide, by decide⟩ ⟨Nat.le_of_ble_eq_true rfl, Nat.le_of_ble_eq_true rfl⟩ (fun v1 A1 z1 q1 => ?_)
    obtain ⟨rfl, q1⟩ := q1
    exact g_iret X rfl rfl (by rfl) (Nat.le_of_ble_eq_true rfl) (Nat.le_of_ble_eq_true rfl) ⟨rfl, q1⟩
set_option maxRecDepth 100000 in
set_option maxHeartbeats 400000 in
theorem ct_L_call_10 (l : Launch) (D : va_G) (cy : Nat → ClassId) (B : Nat) (od : Nat → Option Nat) {A : AH} {g n : Nat} {L : BL} {S : StV} {Z : SV} (hb : BkR cy A g L S Z) (hw : WfS S) (hn : n < 10000000) {oc : OC} {P : AH → Prop} (hC : CP l D cy B od yX7_addAsset cX7_addAsset 4 (some .int) rmX7_addAsset [.ref 0, .int (pcI (n / 64)), .int (numI n (nI 0) (nI 359) 360), .int (numI (n / 64 / 7) (nI 1) (nI 120) 120)] A oc P (fun A' => A' = A)) {fs : List Value} (h0 : A 0 = some (.inr (7, fs))) (hr : ∀ r, oc = .inr r → ∃ x, r = .int x) (hE : ∀ E, oc = .inl E → E ∈ [eIAE, eISE]) (z : Nat) : CT l D cy B od yL_call cL_call 6 (some .int) rmL_call [.ref 0, .ref g, .int (nI 10), .int (nI n)] A z (HQ2 oc P A) := by
  refine CT.of (by decide) tL_call okL_call (Nat.le_of_ble_eq_true rfl) (q0 := tL_call[0]) rfl rfl ?_
  intro p e s m args below meth c X hnm
  have hw1 := hw.1
  have hw2 := hw.2.1
  have hw3 := hw.2.2.1
  refine g_iload_n X rfl rfl ?_
  refine g_bipush X rfl (v := nI 64) (by decide) ?_
  refine g_idiv X rfl (by decide) ?_
  rw [pk_div (by omega) (by decide) (by decide)]
  first | refine g_istoreS X rfl (by decide) rfl ?_ | refine g_istore X rfl (by decide) ?_
  refine g_iload_n X rfl rfl ?_
  refine g_aload_n X rfl rfl ?_
  refine g_get X rfl flL_91 (ci := 8) rfl (hb.1) rfl ?_
  refine g_rV X rfl lcJx4a65c_size_8abf5 lmL_97 lsJx4a65c_size_8abf5 (cr_size l D cy B od (show LsC cy A (L.1 2) (L.2.1 2) (L.2.2.1 2) S.1.1 (L.2.2.2 2) from hb.2.1 2 (by decide))) (ci := 9) ((hb.2.1 2 (by decide)).1) rfl rfl rfl (Nat.le_of_ble_eq_true rfl) ⟨⟨by decide, by decide⟩, rfl, rfl⟩ ⟨Nat.le_of_ble_eq_true rfl, Nat.le_of_ble_eq_true rfl⟩ ?_
  refine g_iconst X rfl (v := nI 1) (by decide) ?_
  refine g_iadd X rfl ?_
  rw [nI_1b]
  refine g_irem X rfl (fun q => by rw [nI_eq0 (by omega)] at q; omega) ?_
  rw [rem_N (by omega) (by omega) (by omega)]
  first | refine g_istoreS X rfl (by decide) rfl ?_ | refine g_istore X rfl (by decide) ?_
  refine g_iload_n X rfl rfl ?_
  refine g_tsw X rfl (j := 72) (by decide) (by decide) rfl rfl (by decide) ?_
  refine g_aload_n X rfl rfl ?_
  refine g_iload X rfl rfl ?_
  refine g_iconst X rfl (v := nI 3) (by decide) ?_
  refine g_irem X rfl (by decide) ?_
  rw [rem_N (by omega) (by decide) (by decide)]
  refine g_if_ne X rfl (fun h => ?_) (fun h => ?_)
  · have h3 : pcI (n / 64) = nI (1 + n / 64 % 250000) := if_neg (fun q => h (by rw [q]; rfl))
    refine g_iconst X rfl (v := nI 1) (by decide) ?_
    refine g_iload X rfl rfl ?_
    refine g_ldc X rfl kcL_132 ?_
    refine g_irem X rfl (by decide) ?_
    rw [rem_N (by omega) (by decide) (by decide)]
    refine g_iadd X rfl ?_
    rw [nI_add, ← h3]
    refine g_iload_n X rfl rfl ?_
    refine g_iconst X rfl (v := nI 0) (by decide) ?_
    refine g_sipush X rfl (v := nI 359) (by decide) ?_
    refine g_rS X rfl lcL_number lmL_86 stL_number (cr_L_number l D cy B od (n := n) (N := 360) (lo := nI 0) (hi := nI 359) (by omega) (by decide) (by decide) (by decide)) rfl rfl (Nat.le_of_ble_eq_true rfl) ⟨⟨by decide, by decide⟩, rfl, rfl⟩ ⟨Nat.le_of_ble_eq_true rfl, Nat.le_of_ble_eq_true rfl⟩ ?_
    refine g_iload X rfl rfl ?_
    refine g_bipush X rfl (v := nI 7) (by decide) ?_
    refine g_idiv X rfl (by decide) ?_
    rw [pk_div (by omega) (by decide) (by decide)]
    refine g_iconst X rfl (v := nI 1) (by decide) ?_
    refine g_bipush X rfl (v := nI 120) (by decide) ?_
    refine g_rS X rfl lcL_number lmL_86 stL_number (cr_L_number l D cy B od (n := n / 64 / 7) (N := 120) (lo := nI 1) (hi := nI 120) (by omega) (by decide) (by decide) (by decide)) rfl rfl (Nat.le_of_ble_eq_true rfl) ⟨⟨by decide, by decide⟩, rfl, rfl⟩ ⟨Nat.le_of_ble_eq_true rfl, Nat.le_of_ble_eq_true rfl⟩ ?_
    refine g_hp X rfl lwL_addAsset lmL_168 stL_addAsset (hp_L_addAsset l D cy B od hC h0 hr hE _) rfl rfl (Nat.le_of_ble_eq_true rfl) ⟨by decide, by decide⟩ ⟨Nat.le_of_ble_eq_true rfl, Nat.le_of_ble_eq_true rfl⟩ (fun v1 A1 z1 q1 => ?_)
    obtain ⟨rfl, q1⟩ := q1
    exact g_iret X rfl rfl (by rfl) (Nat.le_of_ble_eq_true rfl) (Nat.le_of_ble_eq_true rfl) ⟨rfl, q1⟩
  · have h3 : pcI (n / 64) = numI (n / 64) (nI 1) (nI 5000000) 5000000 := if_pos ((nI_eq0 (by omega)).mp h)
    refine g_iload X rfl rfl ?_
    refine g_iconst X rfl (v := nI 1) (by decide) ?_
    refine g_ldc X rfl kcL_131 ?_
    refine g_rS X rfl lcL_number lmL_86 stL_number (cr_L_number l D cy B od (n := n / 64) (N := 5000000) (lo := nI 1) (hi := nI 5000000) (by omega) (by decide) (by decide) (by decide)) rfl rfl (Nat.le_of_ble_eq_true rfl) ⟨⟨by decide, by decide⟩, rfl, rfl⟩ ⟨Nat.le_of_ble_eq_true rfl, Nat.le_of_ble_eq_true rfl⟩ ?_
    rw [← h3]
    refine g_goto X rfl ?_
    refine g_iload_n X rfl rfl ?_
    refine g_iconst X rfl (v := nI 0) (by decide) ?_
    refine g_sipush X rfl (v := nI 359) (by decide) ?_
    refine g_rS X rfl lcL_number lmL_86 stL_number (cr_L_number l D cy B od (n := n) (N := 360) (lo := nI 0) (hi := nI 359) (by omega) (by decide) (by decide) (by decide)) rfl rfl (Nat.le_of_ble_eq_true rfl) ⟨⟨by decide, by decide⟩, rfl, rfl⟩ ⟨Nat.le_of_ble_eq_true rfl, Nat.le_of_ble_eq_true rfl⟩ ?_
    refine g_iload X rfl rfl ?_
    refine g_bipush X rfl (v := nI 7) (by decide) ?_
    refine g_idiv X rfl (by decide) ?_
    rw [pk_div (by omega) (by decide) (by decide)]
    refine g_iconst X rfl (v := nI 1) (by decide) ?_
    refine g_bipush X rfl (v := nI 120) (by decide) ?_
    refine g_rS X rfl lcL_number lmL_86 stL_number (cr_L_number l D cy B od (n := n / 64 / 7) (N := 120) (lo := nI 1) (hi := nI 120) (by omega) (by decide) (by decide) (by decide)) rfl rfl (Nat.le_of_ble_eq_true rfl) ⟨⟨by decide, by decide⟩, rfl, rfl⟩ ⟨Nat.le_of_ble_eq_true rfl, Nat.le_of_ble_eq_true rfl⟩ ?_
    refine g_hp X rfl lwL_addAsset lmL_168 stL_addAsset (hp_L_addAsset l D cy B od hC h0 hr hE _) rfl rfl (Nat.le_of_ble_eq_true rfl) ⟨by decide, by decide⟩ ⟨Nat.le_of_ble_eq_true rfl, Nat.le_of_ble_eq_true rfl⟩ (fun v1 A1 z1 q1 => ?_)
    obtain ⟨rfl, q1⟩ := q1
    exact g_iret X rfl rfl (by rfl) (Nat.le_of_ble_eq_true rfl) (Nat.le_of_ble_eq_true rfl) ⟨rfl, q1⟩
set_option maxRecDepth 100000 in
set_option maxHeartbeats 400000 in
theorem ct_L_call_11 (l : Launch) (D : va_G) (cy : Nat → ClassId) (B : Nat) (od : Nat → Option Nat) {A : AH} {g n : Nat} {L : BL} {S : StV} {Z : SV} (hb : BkR cy A g L S Z) (hw : WfS S) (hn : n < 10000000) {oc : OC} {P : AH → Prop} (hC : CP l D cy B od yX7_sellAsset cX7_sellAsset 5 (some .int) rmX7_sellAsset [.ref 0, .int (nI (n % (S.2.2.1.1 + 1))), .int (numI (n / 64) (nI 0) (nI 359) 360), .int (numI (n / 64 / 3) (nI 0) (nI 5000000) 5000001)] A oc P (fun A' => A' = A)) {fs : List Value} (h0 : A 0 = some (.inr (7, fs))) (hr : ∀ r, oc = .inr r → ∃ x, r = .int x) (hE : ∀ E, oc = .inl E → E ∈ [eIOB, eIAE, eISE]) (z : Nat) : CT l D cy B od yL_call cL_call 6 (some .int) rmL_call [.ref 0, .ref g, .int (nI 11), .int (nI n)] A z (HQ2 oc P A) := by
  refine CT.of (by decide) tL_call okL_call (Nat.le_of_ble_eq_true rfl) (q0 := tL_call[0]) rfl rfl ?_
  intro p e s m args below meth c X hnm
  have hw1 := hw.1
  have hw2 := hw.2.1
  have hw3 := hw.2.2.1
  refine g_iload_n X rfl rfl ?_
  refine g_bipush X rfl (v := nI 64) (by decide) ?_
  refine g_idiv X rfl (by decide) ?_
  rw [pk_div (by omega) (by decide) (by decide)]
  first | refine g_istoreS X rfl (by decide) rfl ?_ | refine g_istore X rfl (by decide) ?_
  refine g_iload_n X rfl rfl ?_
  refine g_aload_n X rfl rfl ?_
  refine g_get X rfl flL_91 (ci := 8) rfl (hb.1) rfl ?_
  refine g_rV X rfl lcJx4a65c_size_8abf5 lmL_97 lsJx4a65c_size_8abf5 (cr_size l D cy B od (show LsC cy A (L.1 2) (L.2.1 2) (L.2.2.1 2) S.1.1 (L.2.2.2 2) from hb.2.1 2 (by decide))) (ci := 9) ((hb.2.1 2 (by decide)).1) rfl rfl rfl (Nat.le_of_ble_eq_true rfl) ⟨⟨by decide, by decide⟩, rfl, rfl⟩ ⟨Nat.le_of_ble_eq_true rfl, Nat.le_of_ble_eq_true rfl⟩ ?_
  refine g_iconst X rfl (v := nI 1) (by decide) ?_
  refine g_iadd X rfl ?_
  rw [nI_1b]
  refine g_irem X rfl (fun q => by rw [nI_eq0 (by omega)] at q; omega) ?_
  rw [rem_N (by omega) (by omega) (by omega)]
  first | refine g_istoreS X rfl (by decide) rfl ?_ | refine g_istore X rfl (by decide) ?_
  refine g_iload_n X rfl rfl ?_
  refine g_tsw X rfl (j := 99) (by decide) (by decide) rfl rfl (by decide) ?_
  refine g_aload_n X rfl rfl ?_
  refine g_iload_n X rfl rfl ?_
  refine g_aload_n X rfl rfl ?_
  refine g_get X rfl flL_102 (ci := 8) rfl (hb.1) rfl ?_
  refine g_rV X rfl lcJx4a65c_size_8abf5 lmL_97 lsJx4a65c_size_8abf5 (cr_size l D cy B od (show LsC cy A (L.1 3) (L.2.1 3) (L.2.2.1 3) S.2.2.1.1 (L.2.2.2 3) from hb.2.1 3 (by decide))) (ci := 9) ((hb.2.1 3 (by decide)).1) rfl rfl rfl (Nat.le_of_ble_eq_true rfl) ⟨⟨by decide, by decide⟩, rfl, rfl⟩ ⟨Nat.le_of_ble_eq_true rfl, Nat.le_of_ble_eq_true rfl⟩ ?_
  refine g_iconst X rfl (v := nI 1) (by decide) ?_
  refine g_iadd X rfl ?_
  rw [nI_1b]
  refine g_irem X rfl (fun q => by rw [nI_eq0 (by omega)] at q; omega) ?_
  rw [rem_N (by omega) (by omega) (by omega)]
  refine g_iload X rfl rfl ?_
  refine g_iconst X rfl (v := nI 0) (by decide) ?_
  refine g_sipush X rfl (v := nI 359) (by decide) ?_
  refine g_rS X rfl lcL_number lmL_86 stL_number (cr_L_number l D cy B od (n := n / 64) (N := 360) (lo := nI 0) (hi := nI 359) (by omega) (by decide) (by decide) (by decide)) rfl rfl (Nat.le_of_ble_eq_true rfl) ⟨⟨by decide, by decide⟩, rfl, rfl⟩ ⟨Nat.le_of_ble_eq_true rfl, Nat.le_of_ble_eq_true rfl⟩ ?_
  refine g_iload X rfl rfl ?_
  refine g_iconst X rfl (v := nI 3) (by decide) ?_
  refine g_idiv X rfl (by decide) ?_
  rw [pk_div (by omega) (by decide) (by decide)]
  refine g_iconst X rfl (v := nI 0) (by decide) ?_
  refine g_ldc X rfl kcL_131 ?_
  refine g_rS X rfl lcL_number lmL_86 stL_number (cr_L_number l D cy B od (n := n / 64 / 3) (N := 5000001) (lo := nI 0) (hi := nI 5000000) (by omega) (by decide) (by decide) (by decide)) rfl rfl (Nat.le_of_ble_eq_true rfl) ⟨⟨by decide, by decide⟩, rfl, rfl⟩ ⟨Nat.le_of_ble_eq_true rfl, Nat.le_of_ble_eq_true rfl⟩ ?_
  refine g_hp X rfl lwL_sellAsset lmL_170 stL_sellAsset (hp_L_sellAsset l D cy B od hC h0 hr hE _) rfl rfl (Nat.le_of_ble_eq_true rfl) ⟨by decide, by decide⟩ ⟨Nat.le_of_ble_eq_true rfl, Nat.le_of_ble_eq_true rfl⟩ (fun v1 A1 z1 q1 => ?_)
  obtain ⟨rfl, q1⟩ := q1
  exact g_iret X rfl rfl (by rfl) (Nat.le_of_ble_eq_true rfl) (Nat.le_of_ble_eq_true rfl) ⟨rfl, q1⟩
set_option maxRecDepth 100000 in
set_option maxHeartbeats 400000 in
theorem ct_L_call_12 (l : Launch) (D : va_G) (cy : Nat → ClassId) (B : Nat) (od : Nat → Option Nat) {A : AH} {g n : Nat} {L : BL} {S : StV} {Z : SV} (hb : BkR cy A g L S Z) (hw : WfS S) (hn : n < 10000000) {oc : OC} {P : AH → Prop} (hC : CP l D cy B od yX7_closeQuarter cX7_closeQuarter 5 (some .int) rmX7_closeQuarter [.ref 0] A oc P (fun A' => A' = A)) {fs : List Value} (h0 : A 0 = some (.inr (7, fs))) (hr : ∀ r, oc = .inr r → ∃ x, r = .int x) (hE : ∀ E, oc = .inl E → E ∈ [eISE]) (z : Nat) : CT l D cy B od yL_call cL_call 6 (some .int) rmL_call [.ref 0, .ref g, .int (nI 12), .int (nI n)] A z (HQ2 oc P A) := by
  refine CT.of (by decide) tL_call okL_call (Nat.le_of_ble_eq_true rfl) (q0 := tL_call[0]) rfl rfl ?_
  intro p e s m args below meth c X hnm
  have hw1 := hw.1
  have hw2 := hw.2.1
  have hw3 := hw.2.2.1
  refine g_iload_n X rfl rfl ?_
  refine g_bipush X rfl (v := nI 64) (by decide) ?_
  refine g_idiv X rfl (by decide) ?_
  rw [pk_div (by omega) (by decide) (by decide)]
  first | refine g_istoreS X rfl (by decide) rfl ?_ | refine g_istore X rfl (by decide) ?_
  refine g_iload_n X rfl rfl ?_
  refine g_aload_n X rfl rfl ?_
  refine g_get X rfl flL_91 (ci := 8) rfl (hb.1) rfl ?_
  refine g_rV X rfl lcJx4a65c_size_8abf5 lmL_97 lsJx4a65c_size_8abf5 (cr_size l D cy B od (show LsC cy A (L.1 2) (L.2.1 2) (L.2.2.1 2) S.1.1 (L.2.2.2 2) from hb.2.1 2 (by decide))) (ci := 9) ((hb.2.1 2 (by decide)).1) rfl rfl rfl (Nat.le_of_ble_eq_true rfl) ⟨⟨by decide, by decide⟩, rfl, rfl⟩ ⟨Nat.le_of_ble_eq_true rfl, Nat.le_of_ble_eq_true rfl⟩ ?_
  refine g_iconst X rfl (v := nI 1) (by decide) ?_
  refine g_iadd X rfl ?_
  rw [nI_1b]
  refine g_irem X rfl (fun q => by rw [nI_eq0 (by omega)] at q; omega) ?_
  rw [rem_N (by omega) (by omega) (by omega)]
  first | refine g_istoreS X rfl (by decide) rfl ?_ | refine g_istore X rfl (by decide) ?_
  refine g_iload_n X rfl rfl ?_
  refine g_tsw X rfl (j := 119) (by decide) (by decide) rfl rfl (by decide) ?_
  refine g_aload_n X rfl rfl ?_
  refine g_hp X rfl lwL_closeQuarter lmL_172 stL_closeQuarter (hp_L_closeQuarter l D cy B od hC h0 hr hE _) rfl rfl (Nat.le_of_ble_eq_true rfl) ⟨by decide, by decide⟩ ⟨Nat.le_of_ble_eq_true rfl, Nat.le_of_ble_eq_true rfl⟩ (fun v1 A1 z1 q1 => ?_)
  obtain ⟨rfl, q1⟩ := q1
  exact g_iret X rfl rfl (by rfl) (Nat.le_of_ble_eq_true rfl) (Nat.le_of_ble_eq_true rfl) ⟨rfl, q1⟩
set_option maxRecDepth 100000 in
set_option maxHeartbeats 400000 in
theorem ct_L_call_13 (l : Launch) (D : va_G) (cy : Nat → ClassId) (B : Nat) (od : Nat → Option Nat) {A : AH} {g n : Nat} {L : BL} {S : StV} {Z : SV} (hb : BkR cy A g L S Z) (hw : WfS S) (hn : n < 10000000) {oc : OC} {P : AH → Prop} (hC : CP l D cy B od yX7_setStart cX7_setStart 3 (some .int) rmX7_setStart [.ref 0, .int (numI n (-10000000) (nI 10000000) 20000001)] A oc P (fun A' => A' = A)) {fs : List Value} (h0 : A 0 = some (.inr (7, fs))) (hr : ∀ r, oc = .inr r → ∃ x, r = .int x) (hE : ∀ E, oc = .inl E → E ∈ [eIAE]) (z : Nat) : CT l D cy B od yL_call cL_call 6 (some .int) rmL_call [.ref 0, .ref g, .int (nI 13), .int (nI n)] A z (HQ2 oc P A) := by
  refine CT.of (by decide) tL_call okL_call (Nat.le_of_ble_eq_true rfl) (q0 := tL_call[0]) rfl rfl ?_
  intro p e s m args below meth c X hnm
  have hw1 := hw.1
  have hw2 := hw.2.1
  have hw3 := hw.2.2.1
  refine g_iload_n X rfl rfl ?_
  refine g_bipush X rfl (v := nI 64) (by decide) ?_
  refine g_idiv X rfl (by decide) ?_
  rw [pk_div (by omega) (by decide) (by decide)]
  first | refine g_istoreS X rfl (by decide) rfl ?_ | refine g_istore X rfl (by decide) ?_
  refine g_iload_n X rfl rfl ?_
  refine g_aload_n X rfl rfl ?_
  refine g_get X rfl flL_91 (ci := 8) rfl (hb.1) rfl ?_
  refine g_rV X rfl lcJx4a65c_size_8abf5 lmL_97 lsJx4a65c_size_8abf5 (cr_size l D cy B od (show LsC cy A (L.1 2) (L.2.1 2) (L.2.2.1 2) S.1.1 (L.2.2.2 2) from hb.2.1 2 (by decide))) (ci := 9) ((hb.2.1 2 (by decide)).1) rfl rfl rfl (Nat.le_of_ble_eq_true rfl) ⟨⟨by decide, by decide⟩, rfl, rfl⟩ ⟨Nat.le_of_ble_eq_true rfl, Nat.le_of_ble_eq_true rfl⟩ ?_
  refine g_iconst X rfl (v := nI 1) (by decide) ?_
  refine g_iadd X rfl ?_
  rw [nI_1b]
  refine g_irem X rfl (fun q => by rw [nI_eq0 (by omega)] at q; omega) ?_
  rw [rem_N (by omega) (by omega) (by omega)]
  first | refine g_istoreS X rfl (by decide) rfl ?_ | refine g_istore X rfl (by decide) ?_
  refine g_iload_n X rfl rfl ?_
  refine g_tswO X rfl (j := 122) (Or.inr (by decide)) rfl (by decide) ?_
  refine g_aload_n X rfl rfl ?_
  refine g_iload_n X rfl rfl ?_
  refine g_ldc X rfl kcL_150 ?_
  refine g_ldc X rfl kcL_85 ?_
  refine g_rS X rfl lcL_number lmL_86 stL_number (cr_L_number l D cy B od (n := n) (N := 20000001) (lo := -10000000) (hi := nI 10000000) (by omega) (by decide) (by decide) (by decide)) rfl rfl (Nat.le_of_ble_eq_true rfl) ⟨⟨by decide, by decide⟩, rfl, rfl⟩ ⟨Nat.le_of_ble_eq_true rfl, Nat.le_of_ble_eq_true rfl⟩ ?_
  refine g_hp X rfl lwL_setStart lmL_175 stL_setStart (hp_L_setStart l D cy B od hC h0 hr hE _) rfl rfl (Nat.le_of_ble_eq_true rfl) ⟨by decide, by decide⟩ ⟨Nat.le_of_ble_eq_true rfl, Nat.le_of_ble_eq_true rfl⟩ (fun v1 A1 z1 q1 => ?_)
  obtain ⟨rfl, q1⟩ := q1
  exact g_iret X rfl rfl (by rfl) (Nat.le_of_ble_eq_true rfl) (Nat.le_of_ble_eq_true rfl) ⟨rfl, q1⟩
