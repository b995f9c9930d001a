/-! 56: the law's helpers -/
def HQ (cy : Nat → ClassId) (ex : List String) (Qr : Value → AH → Prop) (Qx : String → AH → Prop) : QT := fun v A' _ => (∃ r A1 g, Qr r A1 ∧ A' = upA A1 238 (.inl (cy 1, 1, .inr (.inl g))) ∧ g 0 = valL r ∧ v = some (.int (nI 0))) ∨ (∃ E, Qx E A' ∧ E ∈ ex ∧ v = some (.int (nI (cX ex (.inl E)))))
def valD : Value → UInt64
  | .double x => x
  | _ => 0
def HQD (cy : Nat → ClassId) (ex : List String) (Qr : Value → AH → Prop) (Qx : String → AH → Prop) : QT := fun v A' _ => (∃ r A1 g, Qr r A1 ∧ A' = upA A1 239 (.inl (cy 3, 1, .inr (.inr (.inr (.inl g))))) ∧ g 0 = valD r ∧ v = some (.int (nI 0))) ∨ (∃ E, Qx E A' ∧ E ∈ ex ∧ v = some (.int (nI (cX ex (.inl E)))))
set_option maxRecDepth 100000 in
set_option maxHeartbeats 400000 in
theorem hp_L_append (l : Launch) (D : va_G) (cy : Nat → ClassId) (B : Nat) (od : Nat → Option Nat) {A : AH} {z : Nat} {x0 x1 x2 x3 x4 : Int32} {Qr : Value → AH → Prop} {Qx : String → AH → Prop} (hC : CX l D cy B od yX7_append cX7_append 7 (some .int) rmX7_append [.ref 0, .int x0, .int x1, .int x2, .int x3, .int x4] A z (fun v A' z' => ∃ r, v = some r ∧ Qr r A') Qx) {fs : List Value} (h0 : A 0 = some (.inr (7, fs))) (hI : ∀ r A', Qr r A' → (∃ x, r = .int x) ∧ ∃ g9, A' 238 = some (.inl (cy 1, 1, .inr (.inl g9)))) (hE : ∀ E A', Qx E A' → E ∈ [eISE]) : CTW l D cy B od yL_append cL_append 8 (some .int) hhL_append rmL_append [.ref 0, .int x0, .int x1, .int x2, .int x3, .int x4, .ref 238] A z (HQ cy [eISE] Qr Qx) := by
  refine CTW.of (by decide) tL_append okL_append (Nat.le_of_ble_eq_true rfl) (q0 := tL_append[0]) rfl rfl ?_
  intro p e s m args below meth c X hti
  refine g_aload X rfl rfl ?_
  refine g_iconst X rfl (v := nI 0) (by decide) ?_
  refine g_aload_n X rfl rfl ?_
  refine g_iload_n X rfl rfl ?_
  refine g_iload_n X rfl rfl ?_
  refine g_iload_n X rfl rfl ?_
  refine g_iload X rfl rfl ?_
  refine g_iload X rfl rfl ?_
  refine gx_catchV X hti rfl lcX7_append lmL_7 lsX7_append hC (ci := 7) h0 rfl (rest := [.int (nI 0), .ref 238]) rfl rfl (Nat.le_of_ble_eq_true rfl) ⟨by decide, by decide⟩ ⟨Nat.le_of_ble_eq_true rfl, Nat.le_of_ble_eq_true rfl⟩ (fun E A1 hx => ?_) (fun v A1 z1 hq => ?_)
  · have hm := hE E A1 hx
    simp only [List.mem_cons, List.not_mem_nil, or_false] at hm
    subst hm
    refine ⟨19, 12, 7, 13, 0, 0, ⟨(tableOf hhL_append).take 0, (tableOf hhL_append)[0]'(by decide), (tableOf hhL_append).drop 1, rfl, fun _ h => absurd h List.not_mem_nil, by decide, by decide, cl9_13, by decide, ins_eISE, rfl⟩, by decide, Or.inl rfl, ?_⟩
    refine g_iconst X rfl (v := nI 1) (by decide) ?_
    exact g_iret X rfl rfl rfl (Nat.le_of_ble_eq_true rfl) (Nat.le_of_ble_eq_true rfl) (Or.inr ⟨_, hx, by decide, rfl⟩)
  · obtain ⟨r, rfl, hQ⟩ := hq
    obtain ⟨⟨x, rfl⟩, g9, hg9⟩ := hI r A1 hQ
    refine g_i2l X rfl ?_
    refine g_lastN X rfl hg9 (by decide) (by decide) ?_
    refine g_goto X rfl ?_
    refine g_iconst X rfl (v := nI 0) (by decide) ?_
    exact g_iret X rfl rfl rfl (Nat.le_of_ble_eq_true rfl) (Nat.le_of_ble_eq_true rfl) (Or.inl ⟨_, A1, _, hQ, rfl, rfl, rfl⟩)
set_option maxRecDepth 100000 in
set_option maxHeartbeats 400000 in
theorem hp_L_truncate (l : Launch) (D : va_G) (cy : Nat → ClassId) (B : Nat) (od : Nat → Option Nat) {A : AH} {z : Nat} {x0 : Int32} {Qr : Value → AH → Prop} {Qx : String → AH → Prop} (hC : CX l D cy B od yX7_truncate cX7_truncate 2 (some .int) rmX7_truncate [.ref 0, .int x0] A z (fun v A' z' => ∃ r, v = some r ∧ Qr r A') Qx) {fs : List Value} (h0 : A 0 = some (.inr (7, fs))) (hI : ∀ r A', Qr r A' → (∃ x, r = .int x) ∧ ∃ g9, A' 238 = some (.inl (cy 1, 1, .inr (.inl g9)))) (hE : ∀ E A', Qx E A' → E ∈ [eIAE]) : CTW l D cy B od yL_truncate cL_truncate 4 (some .int) hhL_truncate rmL_truncate [.ref 0, .int x0, .ref 238] A z (HQ cy [eIAE] Qr Qx) := by
  refine CTW.of (by decide) tL_truncate okL_truncate (Nat.le_of_ble_eq_true rfl) (q0 := tL_truncate[0]) rfl rfl ?_
  intro p e s m args below meth c X hti
  refine g_aload_n X rfl rfl ?_
  refine g_iconst X rfl (v := nI 0) (by decide) ?_
  refine g_aload_n X rfl rfl ?_
  refine g_iload_n X rfl rfl ?_
  refine gx_catchV X hti rfl lcX7_truncate lmL_15 lsX7_truncate hC (ci := 7) h0 rfl (rest := [.int (nI 0), .ref 238]) rfl rfl (Nat.le_of_ble_eq_true rfl) ⟨by decide, by decide⟩ ⟨Nat.le_of_ble_eq_true rfl, Nat.le_of_ble_eq_true rfl⟩ (fun E A1 hx => ?_) (fun v A1 z1 hq => ?_)
  · have hm := hE E A1 hx
    simp only [List.mem_cons, List.not_mem_nil, or_false] at hm
    subst hm
    refine ⟨12, 8, 3, 9, 0, 0, ⟨(tableOf hhL_truncate).take 0, (tableOf hhL_truncate)[0]'(by decide), (tableOf hhL_truncate).drop 1, rfl, fun _ h => absurd h List.not_mem_nil, by decide, by decide, cl9_19, by decide, ins_eIAE, rfl⟩, by decide, Or.inr ⟨3, rfl, rfl⟩, ?_⟩
    refine g_iconst X rfl (v := nI 1) (by decide) ?_
    exact g_iret X rfl rfl rfl (Nat.le_of_ble_eq_true rfl) (Nat.le_of_ble_eq_true rfl) (Or.inr ⟨_, hx, by decide, rfl⟩)
  · obtain ⟨r, rfl, hQ⟩ := hq
    obtain ⟨⟨x, rfl⟩, g9, hg9⟩ := hI r A1 hQ
    refine g_i2l X rfl ?_
    refine g_lastN X rfl hg9 (by decide) (by decide) ?_
    refine g_goto X rfl ?_
    refine g_iconst X rfl (v := nI 0) (by decide) ?_
    exact g_iret X rfl rfl rfl (Nat.le_of_ble_eq_true rfl) (Nat.le_of_ble_eq_true rfl) (Or.inl ⟨_, A1, _, hQ, rfl, rfl, rfl⟩)
set_option maxRecDepth 100000 in
set_option maxHeartbeats 400000 in
theorem hp_L_load (l : Launch) (D : va_G) (cy : Nat → ClassId) (B : Nat) (od : Nat → Option Nat) {A : AH} {z : Nat} {Qr : Value → AH → Prop} {Qx : String → AH → Prop} (hC : CX l D cy B od yX7_load cX7_load 1 (some .int) rmX7_load [.ref 0] A z (fun v A' z' => ∃ r, v = some r ∧ Qr r A') Qx) {fs : List Value} (h0 : A 0 = some (.inr (7, fs))) (hI : ∀ r A', Qr r A' → (∃ x, r = .int x) ∧ ∃ g9, A' 238 = some (.inl (cy 1, 1, .inr (.inl g9)))) (hE : ∀ E A', Qx E A' → E ∈ [eIAE]) : CTW l D cy B od yL_load cL_load 3 (some .int) hhL_load rmL_load [.ref 0, .ref 238] A z (HQ cy [eIAE] Qr Qx) := by
  refine CTW.of (by decide) tL_load okL_load (Nat.le_of_ble_eq_true rfl) (q0 := tL_load[0]) rfl rfl ?_
  intro p e s m args below meth c X hti
  refine g_aload_n X rfl rfl ?_
  refine g_iconst X rfl (v := nI 0) (by decide) ?_
  refine g_aload_n X rfl rfl ?_
  refine gx_catchV X hti rfl lcX7_load lmL_21 lsX7_load hC (ci := 7) h0 rfl (rest := [.int (nI 0), .ref 238]) rfl rfl (Nat.le_of_ble_eq_true rfl) ⟨by decide, by decide⟩ ⟨Nat.le_of_ble_eq_true rfl, Nat.le_of_ble_eq_true rfl⟩ (fun E A1 hx => ?_) (fun v A1 z1 hq => ?_)
  · have hm := hE E A1 hx
    simp only [List.mem_cons, List.not_mem_nil, or_false] at hm
    subst hm
    refine ⟨11, 7, 2, 8, 0, 0, ⟨(tableOf hhL_load).take 0, (tableOf hhL_load)[0]'(by decide), (tableOf hhL_load).drop 1, rfl, fun _ h => absurd h List.not_mem_nil, by decide, by decide, cl9_19, by decide, ins_eIAE, rfl⟩, by decide, Or.inr ⟨2, rfl, rfl⟩, ?_⟩
    refine g_iconst X rfl (v := nI 1) (by decide) ?_
    exact g_iret X rfl rfl rfl (Nat.le_of_ble_eq_true rfl) (Nat.le_of_ble_eq_true rfl) (Or.inr ⟨_, hx, by decide, rfl⟩)
  · obtain ⟨r, rfl, hQ⟩ := hq
    obtain ⟨⟨x, rfl⟩, g9, hg9⟩ := hI r A1 hQ
    refine g_i2l X rfl ?_
    refine g_lastN X rfl hg9 (by decide) (by decide) ?_
    refine g_goto X rfl ?_
    refine g_iconst X rfl (v := nI 0) (by decide) ?_
    exact g_iret X rfl rfl rfl (Nat.le_of_ble_eq_true rfl) (Nat.le_of_ble_eq_true rfl) (Or.inl ⟨_, A1, _, hQ, rfl, rfl, rfl⟩)
set_option maxRecDepth 100000 in
set_option maxHeartbeats 400000 in
theorem hp_L_addEntry (l : Launch) (D : va_G) (cy : Nat → ClassId) (B : Nat) (od : Nat → Option Nat) {A : AH} {z : Nat} {x0 x1 x2 x3 x4 : Int32} {Qr : Value → AH → Prop} {Qx : String → AH → Prop} (hC : CX l D cy B od yX7_addEntry cX7_addEntry 7 (some .int) rmX7_addEntry [.ref 0, .int x0, .int x1, .int x2, .int x3, .int x4] A z (fun v A' z' => ∃ r, v = some r ∧ Qr r A') Qx) {fs : List Value} (h0 : A 0 = some (.inr (7, fs))) (hI : ∀ r A', Qr r A' → (∃ x, r = .int x) ∧ ∃ g9, A' 238 = some (.inl (cy 1, 1, .inr (.inl g9)))) (hE : ∀ E A', Qx E A' → E ∈ [eIAE, eISE]) : CTW l D cy B od yL_addEntry cL_addEntry 8 (some .int) hhL_addEntry rmL_addEntry [.ref 0, .int x0, .int x1, .int x2, .int x3, .int x4, .ref 238] A z (HQ cy [eIAE, eISE] Qr Qx) := by
  refine CTW.of (by decide) tL_addEntry okL_addEntry (Nat.le_of_ble_eq_true rfl) (q0 := tL_addEntry[0]) rfl rfl ?_
  intro p e s m args below meth c X hti
  refine g_aload X rfl rfl ?_
  refine g_iconst X rfl (v := nI 0) (by decide) ?_
  refine g_aload_n X rfl rfl ?_
  refine g_iload_n X rfl rfl ?_
  refine g_iload_n X rfl rfl ?_
  refine g_iload_n X rfl rfl ?_
  refine g_iload X rfl rfl ?_
  refine g_iload X rfl rfl ?_
  refine gx_catchV X hti rfl lcX7_addEntry lmL_25 lsX7_addEntry hC (ci := 7) h0 rfl (rest := [.int (nI 0), .ref 238]) rfl rfl (Nat.le_of_ble_eq_true rfl) ⟨by decide, by decide⟩ ⟨Nat.le_of_ble_eq_true rfl, Nat.le_of_ble_eq_true rfl⟩ (fun E A1 hx => ?_) (fun v A1 z1 hq => ?_)
  · have hm := hE E A1 hx
    simp only [List.mem_cons, List.not_mem_nil, or_false] at hm
    rcases hm with rfl | rfl
    · refine ⟨19, 12, 7, 13, 0, 0, ⟨(tableOf hhL_addEntry).take 0, (tableOf hhL_addEntry)[0]'(by decide), (tableOf hhL_addEntry).drop 1, rfl, fun _ h => absurd h List.not_mem_nil, by decide, by decide, cl9_19, by decide, ins_eIAE, rfl⟩, by decide, Or.inl rfl, ?_⟩
      refine g_iconst X rfl (v := nI 1) (by decide) ?_
      exact g_iret X rfl rfl rfl (Nat.le_of_ble_eq_true rfl) (Nat.le_of_ble_eq_true rfl) (Or.inr ⟨_, hx, by decide, rfl⟩)
    · refine ⟨23, 15, 7, 16, 0, 0, ⟨(tableOf hhL_addEntry).take 1, (tableOf hhL_addEntry)[1]'(by decide), (tableOf hhL_addEntry).drop 2, rfl, List.forall_mem_cons.mpr ⟨⟨by decide, _, cl9_19, by decide, by decide⟩, fun _ h => absurd h List.not_mem_nil⟩, by decide, by decide, cl9_13, by decide, ins_eISE, rfl⟩, by decide, Or.inl rfl, ?_⟩
      refine g_iconst X rfl (v := nI 2) (by decide) ?_
      exact g_iret X rfl rfl rfl (Nat.le_of_ble_eq_true rfl) (Nat.le_of_ble_eq_true rfl) (Or.inr ⟨_, hx, by decide, rfl⟩)
  · obtain ⟨r, rfl, hQ⟩ := hq
    obtain ⟨⟨x, rfl⟩, g9, hg9⟩ := hI r A1 hQ
    refine g_i2l X rfl ?_
    refine g_lastN X rfl hg9 (by decide) (by decide) ?_
    refine g_goto X rfl ?_
    refine g_iconst X rfl (v := nI 0) (by decide) ?_
    exact g_iret X rfl rfl rfl (Nat.le_of_ble_eq_true rfl) (Nat.le_of_ble_eq_true rfl) (Or.inl ⟨_, A1, _, hQ, rfl, rfl, rfl⟩)
set_option maxRecDepth 100000 in
set_option maxHeartbeats 400000 in
theorem hp_L_pay (l : Launch) (D : va_G) (cy : Nat → ClassId) (B : Nat) (od : Nat → Option Nat) {A : AH} {z : Nat} {x0 x1 : Int32} {Qr : Value → AH → Prop} {Qx : String → AH → Prop} (hC : CX l D cy B od yX7_pay cX7_pay 4 (some .int) rmX7_pay [.ref 0, .int x0, .int x1] A z (fun v A' z' => ∃ r, v = some r ∧ Qr r A') Qx) {fs : List Value} (h0 : A 0 = some (.inr (7, fs))) (hI : ∀ r A', Qr r A' → (∃ x, r = .int x) ∧ ∃ g9, A' 238 = some (.inl (cy 1, 1, .inr (.inl g9)))) (hE : ∀ E A', Qx E A' → E ∈ [eIOB, eIAE, eISE]) : CTW l D cy B od yL_pay cL_pay 5 (some .int) hhL_pay rmL_pay [.ref 0, .int x0, .int x1, .ref 238] A z (HQ cy [eIOB, eIAE, eISE] Qr Qx) := by
  refine CTW.of (by decide) tL_pay okL_pay (Nat.le_of_ble_eq_true rfl) (q0 := tL_pay[0]) rfl rfl ?_
  intro p e s m args below meth c X hti
  refine g_aload_n X rfl rfl ?_
  refine g_iconst X rfl (v := nI 0) (by decide) ?_
  refine g_aload_n X rfl rfl ?_
  refine g_iload_n X rfl rfl ?_
  refine g_iload_n X rfl rfl ?_
  refine gx_catchV X hti rfl lcX7_pay lmL_28 lsX7_pay hC (ci := 7) h0 rfl (rest := [.int (nI 0), .ref 238]) rfl rfl (Nat.le_of_ble_eq_true rfl) ⟨by decide, by decide⟩ ⟨Nat.le_of_ble_eq_true rfl, Nat.le_of_ble_eq_true rfl⟩ (fun E A1 hx => ?_) (fun v A1 z1 hq => ?_)
  · have hm := hE E A1 hx
    simp only [List.mem_cons, List.not_mem_nil, or_false] at hm
    rcases hm with rfl | rfl | rfl
    · refine ⟨13, 9, 4, 10, 0, 0, ⟨(tableOf hhL_pay).take 0, (tableOf hhL_pay)[0]'(by decide), (tableOf hhL_pay).drop 1, rfl, fun _ h => absurd h List.not_mem_nil, by decide, by decide, cl9_32, by decide, ins_eIOB, rfl⟩, by decide, Or.inl rfl, ?_⟩
      refine g_iconst X rfl (v := nI 1) (by decide) ?_
      exact g_iret X rfl rfl rfl (Nat.le_of_ble_eq_true rfl) (Nat.le_of_ble_eq_true rfl) (Or.inr ⟨_, hx, by decide, rfl⟩)
    · refine ⟨17, 12, 4, 13, 0, 0, ⟨(tableOf hhL_pay).take 1, (tableOf hhL_pay)[1]'(by decide), (tableOf hhL_pay).drop 2, rfl, List.forall_mem_cons.mpr ⟨⟨by decide, _, cl9_32, by decide, by decide⟩, fun _ h => absurd h List.not_mem_nil⟩, by decide, by decide, cl9_19, by decide, ins_eIAE, rfl⟩, by decide, Or.inl rfl, ?_⟩
      refine g_iconst X rfl (v := nI 2) (by decide) ?_
      exact g_iret X rfl rfl rfl (Nat.le_of_ble_eq_true rfl) (Nat.le_of_ble_eq_true rfl) (Or.inr ⟨_, hx, by decide, rfl⟩)
    · refine ⟨21, 15, 4, 16, 0, 0, ⟨(tableOf hhL_pay).take 2, (tableOf hhL_pay)[2]'(by decide), (tableOf hhL_pay).drop 3, rfl, List.forall_mem_cons.mpr ⟨⟨by decide, _, cl9_32, by decide, by decide⟩, List.forall_mem_cons.mpr ⟨⟨by decide, _, cl9_19, by decide, by decide⟩, fun _ h => absurd h List.not_mem_nil⟩⟩, by decide, by decide, cl9_13, by decide, ins_eISE, rfl⟩, by decide, Or.inl rfl, ?_⟩
      refine g_iconst X rfl (v := nI 3) (by decide) ?_
      exact g_iret X rfl rfl rfl (Nat.le_of_ble_eq_true rfl) (Nat.le_of_ble_eq_true rfl) (Or.inr ⟨_, hx, by decide, rfl⟩)
  · obtain ⟨r, rfl, hQ⟩ := hq
    obtain ⟨⟨x, rfl⟩, g9, hg9⟩ := hI r A1 hQ
    refine g_i2l X rfl ?_
    refine g_lastN X rfl hg9 (by decide) (by decide) ?_
    refine g_goto X rfl ?_
    refine g_iconst X rfl (v := nI 0) (by decide) ?_
    exact g_iret X rfl rfl rfl (Nat.le_of_ble_eq_true rfl) (Nat.le_of_ble_eq_true rfl) (Or.inl ⟨_, A1, _, hQ, rfl, rfl, rfl⟩)
set_option maxRecDepth 100000 in
set_option maxHeartbeats 400000 in
theorem hp_L_cancel (l : Launch) (D : va_G) (cy : Nat → ClassId) (B : Nat) (od : Nat → Option Nat) {A : AH} {z : Nat} {x0 : Int32} {Qr : Value → AH → Prop} {Qx : String → AH → Prop} (hC : CX l D cy B od yX7_cancel cX7_cancel 2 (some .int) rmX7_cancel [.ref 0, .int x0] A z (fun v A' z' => ∃ r, v = some r ∧ Qr r A') Qx) {fs : List Value} (h0 : A 0 = some (.inr (7, fs))) (hI : ∀ r A', Qr r A' → (∃ x, r = .int x) ∧ ∃ g9, A' 238 = some (.inl (cy 1, 1, .inr (.inl g9)))) (hE : ∀ E A', Qx E A' → E ∈ [eIOB, eISE]) : CTW l D cy B od yL_cancel cL_cancel 4 (some .int) hhL_cancel rmL_cancel [.ref 0, .int x0, .ref 238] A z (HQ cy [eIOB, eISE] Qr Qx) := by
  refine CTW.of (by decide) tL_cancel okL_cancel (Nat.le_of_ble_eq_true rfl) (q0 := tL_cancel[0]) rfl rfl ?_
  intro p e s m args below meth c X hti
  refine g_aload_n X rfl rfl ?_
  refine g_iconst X rfl (v := nI 0) (by decide) ?_
  refine g_aload_n X rfl rfl ?_
  refine g_iload_n X rfl rfl ?_
  refine gx_catchV X hti rfl lcX7_cancel lmL_34 lsX7_cancel hC (ci := 7) h0 rfl (rest := [.int (nI 0), .ref 238]) rfl rfl (Nat.le_of_ble_eq_true rfl) ⟨by decide, by decide⟩ ⟨Nat.le_of_ble_eq_true rfl, Nat.le_of_ble_eq_true rfl⟩ (fun E A1 hx => ?_) (fun v A1 z1 hq => ?_)
  · have hm := hE E A1 hx
    simp only [List.mem_cons, List.not_mem_nil, or_false] at hm
    rcases hm with rfl | rfl
    · refine ⟨12, 8, 3, 9, 0, 0, ⟨(tableOf hhL_cancel).take 0, (tableOf hhL_cancel)[0]'(by decide), (tableOf hhL_cancel).drop 1, rfl, fun _ h => absurd h List.not_mem_nil, by decide, by decide, cl9_32, by decide, ins_eIOB, rfl⟩, by decide, Or.inr ⟨3, rfl, rfl⟩, ?_⟩
      refine g_iconst X rfl (v := nI 1) (by decide) ?_
      exact g_iret X rfl rfl rfl (Nat.le_of_ble_eq_true rfl) (Nat.le_of_ble_eq_true rfl) (Or.inr ⟨_, hx, by decide, rfl⟩)
    · refine ⟨15, 11, 3, 12, 0, 0, ⟨(tableOf hhL_cancel).take 1, (tableOf hhL_cancel)[1]'(by decide), (tableOf hhL_cancel).drop 2, rfl, List.forall_mem_cons.mpr ⟨⟨by decide, _, cl9_32, by decide, by decide⟩, fun _ h => absurd h List.not_mem_nil⟩, by decide, by decide, cl9_13, by decide, ins_eISE, rfl⟩, by decide, Or.inr ⟨3, rfl, rfl⟩, ?_⟩
      refine g_iconst X rfl (v := nI 2) (by decide) ?_
      exact g_iret X rfl rfl rfl (Nat.le_of_ble_eq_true rfl) (Nat.le_of_ble_eq_true rfl) (Or.inr ⟨_, hx, by decide, rfl⟩)
  · obtain ⟨r, rfl, hQ⟩ := hq
    obtain ⟨⟨x, rfl⟩, g9, hg9⟩ := hI r A1 hQ
    refine g_i2l X rfl ?_
    refine g_lastN X rfl hg9 (by decide) (by decide) ?_
    refine g_goto X rfl ?_
    refine g_iconst X rfl (v := nI 0) (by decide) ?_
    exact g_iret X rfl rfl rfl (Nat.le_of_ble_eq_true rfl) (Nat.le_of_ble_eq_true rfl) (Or.inl ⟨_, A1, _, hQ, rfl, rfl, rfl⟩)
set_option maxRecDepth 100000 in
set_option maxHeartbeats 400000 in
theorem hp_L_addRoom (l : Launch) (D : va_G) (cy : Nat → ClassId) (B : Nat) (od : Nat → Option Nat) {A : AH} {z : Nat} {x0 : Int32} {Qr : Value → AH → Prop} {Qx : String → AH → Prop} (hC : CX l D cy B od yX7_addRoom cX7_addRoom 2 (some .int) rmX7_addRoom [.ref 0, .int x0] A z (fun v A' z' => ∃ r, v = some r ∧ Qr r A') Qx) {fs : List Value} (h0 : A 0 = some (.inr (7, fs))) (hI : ∀ r A', Qr r A' → (∃ x, r = .int x) ∧ ∃ g9, A' 238 = some (.inl (cy 1, 1, .inr (.inl g9)))) (hE : ∀ E A', Qx E A' → E ∈ [eIAE, eISE]) : CTW l D cy B od yL_addRoom cL_addRoom 4 (some .int) hhL_addRoom rmL_addRoom [.ref 0, .int x0, .ref 238] A z (HQ cy [eIAE, eISE] Qr Qx) := by
  refine CTW.of (by decide) tL_addRoom okL_addRoom (Nat.le_of_ble_eq_true rfl) (q0 := tL_addRoom[0]) rfl rfl ?_
  intro p e s m args below meth c X hti
  refine g_aload_n X rfl rfl ?_
  refine g_iconst X rfl (v := nI 0) (by decide) ?_
  refine g_aload_n X rfl rfl ?_
  refine g_iload_n X rfl rfl ?_
  refine gx_catchV X hti rfl lcX7_addRoom lmL_37 lsX7_addRoom hC (ci := 7) h0 rfl (rest := [.int (nI 0), .ref 238]) rfl rfl (Nat.le_of_ble_eq_true rfl) ⟨by decide, by decide⟩ ⟨Nat.le_of_ble_eq_true rfl, Nat.le_of_ble_eq_true rfl⟩ (fun E A1 hx => ?_) (fun v A1 z1 hq => ?_)
  · have hm := hE E A1 hx
    simp only [List.mem_cons, List.not_mem_nil, or_false] at hm
    rcases hm with rfl | rfl
    · refine ⟨12, 8, 3, 9, 0, 0, ⟨(tableOf hhL_addRoom).take 0, (tableOf hhL_addRoom)[0]'(by decide), (tableOf hhL_addRoom).drop 1, rfl, fun _ h => absurd h List.not_mem_nil, by decide, by decide, cl9_19, by decide, ins_eIAE, rfl⟩, by decide, Or.inr ⟨3, rfl, rfl⟩, ?_⟩
      refine g_iconst X rfl (v := nI 1) (by decide) ?_
      exact g_iret X rfl rfl rfl (Nat.le_of_ble_eq_true rfl) (Nat.le_of_ble_eq_true rfl) (Or.inr ⟨_, hx, by decide, rfl⟩)
    · refine ⟨15, 11, 3, 12, 0, 0, ⟨(tableOf hhL_addRoom).take 1, (tableOf hhL_addRoom)[1]'(by decide), (tableOf hhL_addRoom).drop 2, rfl, List.forall_mem_cons.mpr ⟨⟨by decide, _, cl9_19, by decide, by decide⟩, fun _ h => absurd h List.not_mem_nil⟩, by decide, by decide, cl9_13, by decide, ins_eISE, rfl⟩, by decide, Or.inr ⟨3, rfl, rfl⟩, ?_⟩
      refine g_iconst X rfl (v := nI 2) (by decide) ?_
      exact g_iret X rfl rfl rfl (Nat.le_of_ble_eq_true rfl) (Nat.le_of_ble_eq_true rfl) (Or.inr ⟨_, hx, by decide, rfl⟩)
  · obtain ⟨r, rfl, hQ⟩ := hq
    obtain ⟨⟨x, rfl⟩, g9, hg9⟩ := hI r A1 hQ
    refine g_i2l X rfl ?_
    refine g_lastN X rfl hg9 (by decide) (by decide) ?_
    refine g_goto X rfl ?_
    refine g_iconst X rfl (v := nI 0) (by decide) ?_
    exact g_iret X rfl rfl rfl (Nat.le_of_ble_eq_true rfl) (Nat.le_of_ble_eq_true rfl) (Or.inl ⟨_, A1, _, hQ, rfl, rfl, rfl⟩)
set_option maxRecDepth 100000 in
set_option maxHeartbeats 400000 in
theorem hp_L_setOffice (l : Launch) (D : va_G) (cy : Nat → ClassId) (B : Nat) (od : Nat → Option Nat) {A : AH} {z : Nat} {x0 x1 x2 : Int32} {Qr : Value → AH → Prop} {Qx : String → AH → Prop} (hC : CX l D cy B od yX7_setOffice cX7_setOffice 5 (some .int) rmX7_setOffice [.ref 0, .int x0, .int x1, .int x2] A z (fun v A' z' => ∃ r, v = some r ∧ Qr r A') Qx) {fs : List Value} (h0 : A 0 = some (.inr (7, fs))) (hI : ∀ r A', Qr r A' → (∃ x, r = .int x) ∧ ∃ g9, A' 238 = some (.inl (cy 1, 1, .inr (.inl g9)))) (hE : ∀ E A', Qx E A' → E ∈ [eIOB, eIAE]) : CTW l D cy B od yL_setOffice cL_setOffice 6 (some .int) hhL_setOffice rmL_setOffice [.ref 0, .int x0, .int x1, .int x2, .ref 238] A z (HQ cy [eIOB, eIAE] Qr Qx) := by
  refine CTW.of (by decide) tL_setOffice okL_setOffice (Nat.le_of_ble_eq_true rfl) (q0 := tL_setOffice[0]) rfl rfl ?_
  intro p e s m args below meth c X hti
  refine g_aload X rfl rfl ?_
  refine g_iconst X rfl (v := nI 0) (by decide) ?_
  refine g_aload_n X rfl rfl ?_
  refine g_iload_n X rfl rfl ?_
  refine g_iload_n X rfl rfl ?_
  refine g_iload_n X rfl rfl ?_
  refine gx_catchV X hti rfl lcX7_setOffice lmL_40 lsX7_setOffice hC (ci := 7) h0 rfl (rest := [.int (nI 0), .ref 238]) rfl rfl (Nat.le_of_ble_eq_true rfl) ⟨by decide, by decide⟩ ⟨Nat.le_of_ble_eq_true rfl, Nat.le_of_ble_eq_true rfl⟩ (fun E A1 hx => ?_) (fun v A1 z1 hq => ?_)
  · have hm := hE E A1 hx
    simp only [List.mem_cons, List.not_mem_nil, or_false] at hm
    rcases hm with rfl | rfl
    · refine ⟨15, 10, 5, 11, 0, 0, ⟨(tableOf hhL_setOffice).take 0, (tableOf hhL_setOffice)[0]'(by decide), (tableOf hhL_setOffice).drop 1, rfl, fun _ h => absurd h List.not_mem_nil, by decide, by decide, cl9_32, by decide, ins_eIOB, rfl⟩, by decide, Or.inl rfl, ?_⟩
      refine g_iconst X rfl (v := nI 1) (by decide) ?_
      exact g_iret X rfl rfl rfl (Nat.le_of_ble_eq_true rfl) (Nat.le_of_ble_eq_true rfl) (Or.inr ⟨_, hx, by decide, rfl⟩)
    · refine ⟨19, 13, 5, 14, 0, 0, ⟨(tableOf hhL_setOffice).take 1, (tableOf hhL_setOffice)[1]'(by decide), (tableOf hhL_setOffice).drop 2, rfl, List.forall_mem_cons.mpr ⟨⟨by decide, _, cl9_32, by decide, by decide⟩, fun _ h => absurd h List.not_mem_nil⟩, by decide, by decide, cl9_19, by decide, ins_eIAE, rfl⟩, by decide, Or.inl rfl, ?_⟩
      refine g_iconst X rfl (v := nI 2) (by decide) ?_
      exact g_iret X rfl rfl rfl (Nat.le_of_ble_eq_true rfl) (Nat.le_of_ble_eq_true rfl) (Or.inr ⟨_, hx, by decide, rfl⟩)
  · obtain ⟨r, rfl, hQ⟩ := hq
    obtain ⟨⟨x, rfl⟩, g9, hg9⟩ := hI r A1 hQ
    refine g_i2l X rfl ?_
    refine g_lastN X rfl hg9 (by decide) (by decide) ?_
    refine g_goto X rfl ?_
    refine g_iconst X rfl (v := nI 0) (by decide) ?_
    exact g_iret X rfl rfl rfl (Nat.le_of_ble_eq_true rfl) (Nat.le_of_ble_eq_true rfl) (Or.inl ⟨_, A1, _, hQ, rfl, rfl, rfl⟩)
set_option maxRecDepth 100000 in
set_option maxHeartbeats 400000 in
theorem hp_L_addAsset (l : Launch) (D : va_G) (cy : Nat → ClassId) (B : Nat) (od : Nat → Option Nat) {A : AH} {z : Nat} {x0 x1 x2 : Int32} {Qr : Value → AH → Prop} {Qx : String → AH → Prop} (hC : CX l D cy B od yX7_addAsset cX7_addAsset 4 (some .int) rmX7_addAsset [.ref 0, .int x0, .int x1, .int x2] A z (fun v A' z' => ∃ r, v = some r ∧ Qr r A') Qx) {fs : List Value} (h0 : A 0 = some (.inr (7, fs))) (hI : ∀ r A', Qr r A' → (∃ x, r = .int x) ∧ ∃ g9, A' 238 = some (.inl (cy 1, 1, .inr (.inl g9)))) (hE : ∀ E A', Qx E A' → E ∈ [eIAE, eISE]) : CTW l D cy B od yL_addAsset cL_addAsset 6 (some .int) hhL_addAsset rmL_addAsset [.ref 0, .int x0, .int x1, .int x2, .ref 238] A z (HQ cy [eIAE, eISE] Qr Qx) := by
  refine CTW.of (by decide) tL_addAsset okL_addAsset (Nat.le_of_ble_eq_true rfl) (q0 := tL_addAsset[0]) rfl rfl ?_
  intro p e s m args below meth c X hti
  refine g_aload X rfl rfl ?_
  refine g_iconst X rfl (v := nI 0) (by decide) ?_
  refine g_aload_n X rfl rfl ?_
  refine g_iload_n X rfl rfl ?_
  refine g_iload_n X rfl rfl ?_
  refine g_iload_n X rfl rfl ?_
  refine gx_catchV X hti rfl lcX7_addAsset lmL_44 lsX7_addAsset hC (ci := 7) h0 rfl (rest := [.int (nI 0), .ref 238]) rfl rfl (Nat.le_of_ble_eq_true rfl) ⟨by decide, by decide⟩ ⟨Nat.le_of_ble_eq_true rfl, Nat.le_of_ble_eq_true rfl⟩ (fun E A1 hx => ?_) (fun v A1 z1 hq => ?_)
  · have hm := hE E A1 hx
    simp only [List.mem_cons, List.not_mem_nil, or_false] at hm
    rcases hm with rfl | rfl
    · refine ⟨15, 10, 5, 11, 0, 0, ⟨(tableOf hhL_addAsset).take 0, (tableOf hhL_addAsset)[0]'(by decide), (tableOf hhL_addAsset).drop 1, rfl, fun _ h => absurd h List.not_mem_nil, by decide, by decide, cl9_19, by decide, ins_eIAE, rfl⟩, by decide, Or.inl rfl, ?_⟩
      refine g_iconst X rfl (v := nI 1) (by decide) ?_
      exact g_iret X rfl rfl rfl (Nat.le_of_ble_eq_true rfl) (Nat.le_of_ble_eq_true rfl) (Or.inr ⟨_, hx, by decide, rfl⟩)
    · refine ⟨19, 13, 5, 14, 0, 0, ⟨(tableOf hhL_addAsset).take 1, (tableOf hhL_addAsset)[1]'(by decide), (tableOf hhL_addAsset).drop 2, rfl, List.forall_mem_cons.mpr ⟨⟨by decide, _, cl9_19, by decide, by decide⟩, fun _ h => absurd h List.not_mem_nil⟩, by decide, by decide, cl9_13, by decide, ins_eISE, rfl⟩, by decide, Or.inl rfl, ?_⟩
      refine g_iconst X rfl (v := nI 2) (by decide) ?_
      exact g_iret X rfl rfl rfl (Nat.le_of_ble_eq_true rfl) (Nat.le_of_ble_eq_true rfl) (Or.inr ⟨_, hx, by decide, rfl⟩)
  · obtain ⟨r, rfl, hQ⟩ := hq
    obtain ⟨⟨x, rfl⟩, g9, hg9⟩ := hI r A1 hQ
    refine g_i2l X rfl ?_
    refine g_lastN X rfl hg9 (by decide) (by decide) ?_
    refine g_goto X rfl ?_
    refine g_iconst X rfl (v := nI 0) (by decide) ?_
    exact g_iret X rfl rfl rfl (Nat.le_of_ble_eq_true rfl) (Nat.le_of_ble_eq_true rfl) (Or.inl ⟨_, A1, _, hQ, rfl, rfl, rfl⟩)
set_option maxRecDepth 100000 in
set_option maxHeartbeats 400000 in
theorem hp_L_sellAsset (l : Launch) (D : va_G) (cy : Nat → ClassId) (B : Nat) (od : Nat → Option Nat) {A : AH} {z : Nat} {x0 x1 x2 : Int32} {Qr : Value → AH → Prop} {Qx : String → AH → Prop} (hC : CX l D cy B od yX7_sellAsset cX7_sellAsset 5 (some .int) rmX7_sellAsset [.ref 0, .int x0, .int x1, .int x2] A z (fun v A' z' => ∃ r, v = some r ∧ Qr r A') Qx) {fs : List Value} (h0 : A 0 = some (.inr (7, fs))) (hI : ∀ r A', Qr r A' → (∃ x, r = .int x) ∧ ∃ g9, A' 238 = some (.inl (cy 1, 1, .inr (.inl g9)))) (hE : ∀ E A', Qx E A' → E ∈ [eIOB, eIAE, eISE]) : CTW l D cy B od yL_sellAsset cL_sellAsset 6 (some .int) hhL_sellAsset rmL_sellAsset [.ref 0, .int x0, .int x1, .int x2, .ref 238] A z (HQ cy [eIOB, eIAE, eISE] Qr Qx) := by
  refine CTW.of (by decide) tL_sellAsset okL_sellAsset (Nat.le_of_ble_eq_true rfl) (q0 := tL_sellAsset[0]) rfl rfl ?_
  intro p e s m args below meth c X hti
  refine g_aload X rfl rfl ?_
  refine g_iconst X rfl (v := nI 0) (by decide) ?_
  refine g_aload_n X rfl rfl ?_
  refine g_iload_n X rfl rfl ?_
  refine g_iload_n X rfl rfl ?_
  refine g_iload_n X rfl rfl ?_
  refine gx_catchV X hti rfl lcX7_sellAsset lmL_47 lsX7_sellAsset hC (ci := 7) h0 rfl (rest := [.int (nI 0), .ref 238]) rfl rfl (Nat.le_of_ble_eq_true rfl) ⟨by decide, by decide⟩ ⟨Nat.le_of_ble_eq_true rfl, Nat.le_of_ble_eq_true rfl⟩ (fun E A1 hx => ?_) (fun v A1 z1 hq => ?_)
  · have hm := hE E A1 hx
    simp only [List.mem_cons, List.not_mem_nil, or_false] at hm
    rcases hm with rfl | rfl | rfl
    · refine ⟨15, 10, 5, 11, 0, 0, ⟨(tableOf hhL_sellAsset).take 0, (tableOf hhL_sellAsset)[0]'(by decide), (tableOf hhL_sellAsset).drop 1, rfl, fun _ h => absurd h List.not_mem_nil, by decide, by decide, cl9_32, by decide, ins_eIOB, rfl⟩, by decide, Or.inl rfl, ?_⟩
      refine g_iconst X rfl (v := nI 1) (by decide) ?_
      exact g_iret X rfl rfl rfl (Nat.le_of_ble_eq_true rfl) (Nat.le_of_ble_eq_true rfl) (Or.inr ⟨_, hx, by decide, rfl⟩)
    · refine ⟨19, 13, 5, 14, 0, 0, ⟨(tableOf hhL_sellAsset).take 1, (tableOf hhL_sellAsset)[1]'(by decide), (tableOf hhL_sellAsset).drop 2, rfl, List.forall_mem_cons.mpr ⟨⟨by decide, _, cl9_32, by decide, by decide⟩, fun _ h => absurd h List.not_mem_nil⟩, by decide, by decide, cl9_19, by decide, ins_eIAE, rfl⟩, by decide, Or.inl rfl, ?_⟩
      refine g_iconst X rfl (v := nI 2) (by decide) ?_
      exact g_iret X rfl rfl rfl (Nat.le_of_ble_eq_true rfl) (Nat.le_of_ble_eq_true rfl) (Or.inr ⟨_, hx, by decide, rfl⟩)
    · refine ⟨23, 16, 5, 17, 0, 0, ⟨(tableOf hhL_sellAsset).take 2, (tableOf hhL_sellAsset)[2]'(by decide), (tableOf hhL_sellAsset).drop 3, rfl, List.forall_mem_cons.mpr ⟨⟨by decide, _, cl9_32, by decide, by decide⟩, List.forall_mem_cons.mpr ⟨⟨by decide, _, cl9_19, by decide, by decide⟩, fun _ h => absurd h List.not_mem_nil⟩⟩, by decide, by decide, cl9_13, by decide, ins_eISE, rfl⟩, by decide, Or.inl rfl, ?_⟩
      refine g_iconst X rfl (v := nI 3) (by decide) ?_
      exact g_iret X rfl rfl rfl (Nat.le_of_ble_eq_true rfl) (Nat.le_of_ble_eq_true rfl) (Or.inr ⟨_, hx, by decide, rfl⟩)
  · obtain ⟨r, rfl, hQ⟩ := hq
    obtain ⟨⟨x, rfl⟩, g9, hg9⟩ := hI r A1 hQ
    refine g_i2l X rfl ?_
    refine g_lastN X rfl hg9 (by decide) (by decide) ?_
    refine g_goto X rfl ?_
    refine g_iconst X rfl (v := nI 0) (by decide) ?_
    exact g_iret X rfl rfl rfl (Nat.le_of_ble_eq_true rfl) (Nat.le_of_ble_eq_true rfl) (Or.inl ⟨_, A1, _, hQ, rfl, rfl, rfl⟩)
set_option maxRecDepth 100000 in
set_option maxHeartbeats 400000 in
theorem hp_L_closeQuarter (l : Launch) (D : va_G) (cy : Nat → ClassId) (B : Nat) (od : Nat → Option Nat) {A : AH} {z : Nat} {Qr : Value → AH → Prop} {Qx : String → AH → Prop} (hC : CX l D cy B od yX7_closeQuarter cX7_closeQuarter 5 (some .int) rmX7_closeQuarter [.ref 0] A z (fun v A' z' => ∃ r, v = some r ∧ Qr r A') Qx) {fs : List Value} (h0 : A 0 = some (.inr (7, fs))) (hI : ∀ r A', Qr r A' → (∃ x, r = .int x) ∧ ∃ g9, A' 238 = some (.inl (cy 1, 1, .inr (.inl g9)))) (hE : ∀ E A', Qx E A' → E ∈ [eISE]) : CTW l D cy B od yL_closeQuarter cL_closeQuarter 3 (some .int) hhL_closeQuarter rmL_closeQuarter [.ref 0, .ref 238] A z (HQ cy [eISE] Qr Qx) := by
  refine CTW.of (by decide) tL_closeQuarter okL_closeQuarter (Nat.le_of_ble_eq_true rfl) (q0 := tL_closeQuarter[0]) rfl rfl ?_
  intro p e s m args below meth c X hti
  refine g_aload_n X rfl rfl ?_
  refine g_iconst X rfl (v := nI 0) (by decide) ?_
  refine g_aload_n X rfl rfl ?_
  refine gx_catchV X hti rfl lcX7_closeQuarter lmL_50 lsX7_closeQuarter hC (ci := 7) h0 rfl (rest := [.int (nI 0), .ref 238]) rfl rfl (Nat.le_of_ble_eq_true rfl) ⟨by decide, by decide⟩ ⟨Nat.le_of_ble_eq_true rfl, Nat.le_of_ble_eq_true rfl⟩ (fun E A1 hx => ?_) (fun v A1 z1 hq => ?_)
  · have hm := hE E A1 hx
    simp only [List.mem_cons, List.not_mem_nil, or_false] at hm
    subst hm
    refine ⟨11, 7, 2, 8, 0, 0, ⟨(tableOf hhL_closeQuarter).take 0, (tableOf hhL_closeQuarter)[0]'(by decide), (tableOf hhL_closeQuarter).drop 1, rfl, fun _ h => absurd h List.not_mem_nil, by decide, by decide, cl9_13, by decide, ins_eISE, rfl⟩, by decide, Or.inr ⟨2, rfl, rfl⟩, ?_⟩
    refine g_iconst X rfl (v := nI 1) (by decide) ?_
    exact g_iret X rfl rfl rfl (Nat.le_of_ble_eq_true rfl) (Nat.le_of_ble_eq_true rfl) (Or.inr ⟨_, hx, by decide, rfl⟩)
  · obtain ⟨r, rfl, hQ⟩ := hq
    obtain ⟨⟨x, rfl⟩, g9, hg9⟩ := hI r A1 hQ
    refine g_i2l X rfl ?_
    refine g_lastN X rfl hg9 (by decide) (by decide) ?_
    refine g_goto X rfl ?_
    refine g_iconst X rfl (v := nI 0) (by decide) ?_
    exact g_iret X rfl rfl rfl (Nat.le_of_ble_eq_true rfl) (Nat.le_of_ble_eq_true rfl) (Or.inl ⟨_, A1, _, hQ, rfl, rfl, rfl⟩)
set_option maxRecDepth 100000 in
set_option maxHeartbeats 400000 in
theorem hp_L_setStart (l : Launch) (D : va_G) (cy : Nat → ClassId) (B : Nat) (od : Nat → Option Nat) {A : AH} {z : Nat} {x0 : Int32} {Qr : Value → AH → Prop} {Qx : String → AH → Prop} (hC : CX l D cy B od yX7_setStart cX7_setStart 3 (some .int) rmX7_setStart [.ref 0, .int x0] A z (fun v A' z' => ∃ r, v = some r ∧ Qr r A') Qx) {fs : List Value} (h0 : A 0 = some (.inr (7, fs))) (hI : ∀ r A', Qr r A' → (∃ x, r = .int x) ∧ ∃ g9, A' 238 = some (.inl (cy 1, 1, .inr (.inl g9)))) (hE : ∀ E A', Qx E A' → E ∈ [eIAE]) : CTW l D cy B od yL_setStart cL_setStart 4 (some .int) hhL_setStart rmL_setStart [.ref 0, .int x0, .ref 238] A z (HQ cy [eIAE] Qr Qx) := by
  refine CTW.of (by decide) tL_setStart okL_setStart (Nat.le_of_ble_eq_true rfl) (q0 := tL_setStart[0]) rfl rfl ?_
  intro p e s m args below meth c X hti
  refine g_aload_n X rfl rfl ?_
  refine g_iconst X rfl (v := nI 0) (by decide) ?_
  refine g_aload_n X rfl rfl ?_
  refine g_iload_n X rfl rfl ?_
  refine gx_catchV X hti rfl lcX7_setStart lmL_53 lsX7_setStart hC (ci := 7) h0 rfl (rest := [.int (nI 0), .ref 238]) rfl rfl (Nat.le_of_ble_eq_true rfl) ⟨by decide, by decide⟩ ⟨Nat.le_of_ble_eq_true rfl, Nat.le_of_ble_eq_true rfl⟩ (fun E A1 hx => ?_) (fun v A1 z1 hq => ?_)
  · have hm := hE E A1 hx
    simp only [List.mem_cons, List.not_mem_nil, or_false] at hm
    subst hm
    refine ⟨12, 8, 3, 9, 0, 0, ⟨(tableOf hhL_setStart).take 0, (tableOf hhL_setStart)[0]'(by decide), (tableOf hhL_setStart).drop 1, rfl, fun _ h => absurd h List.not_mem_nil, by decide, by decide, cl9_19, by decide, ins_eIAE, rfl⟩, by decide, Or.inr ⟨3, rfl, rfl⟩, ?_⟩
    refine g_iconst X rfl (v := nI 1) (by decide) ?_
    exact g_iret X rfl rfl rfl (Nat.le_of_ble_eq_true rfl) (Nat.le_of_ble_eq_true rfl) (Or.inr ⟨_, hx, by decide, rfl⟩)
  · obtain ⟨r, rfl, hQ⟩ := hq
    obtain ⟨⟨x, rfl⟩, g9, hg9⟩ := hI r A1 hQ
    refine g_i2l X rfl ?_
    refine g_lastN X rfl hg9 (by decide) (by decide) ?_
    refine g_goto X rfl ?_
    refine g_iconst X rfl (v := nI 0) (by decide) ?_
    exact g_iret X rfl rfl rfl (Nat.le_of_ble_eq_true rfl) (Nat.le_of_ble_eq_true rfl) (Or.inl ⟨_, A1, _, hQ, rfl, rfl, rfl⟩)
set_option maxRecDepth 100000 in
set_option maxHeartbeats 400000 in
theorem hp_L_undo (l : Launch) (D : va_G) (cy : Nat → ClassId) (B : Nat) (od : Nat → Option Nat) {A : AH} {z : Nat} {Qr : Value → AH → Prop} {Qx : String → AH → Prop} (hC : CX l D cy B od yX7_undo cX7_undo 1 (some .int) rmX7_undo [.ref 0] A z (fun v A' z' => ∃ r, v = some r ∧ Qr r A') Qx) {fs : List Value} (h0 : A 0 = some (.inr (7, fs))) (hI : ∀ r A', Qr r A' → (∃ x, r = .int x) ∧ ∃ g9, A' 238 = some (.inl (cy 1, 1, .inr (.inl g9)))) (hE : ∀ E A', Qx E A' → E ∈ [eISE]) : CTW l D cy B od yL_undo cL_undo 3 (some .int) hhL_undo rmL_undo [.ref 0, .ref 238] A z (HQ cy [eISE] Qr Qx) := by
  refine CTW.of (by decide) tL_undo okL_undo (Nat.le_of_ble_eq_true rfl) (q0 := tL_undo[0]) rfl rfl ?_
  intro p e s m args below meth c X hti
  refine g_aload_n X rfl rfl ?_
  refine g_iconst X rfl (v := nI 0) (by decide) ?_
  refine g_aload_n X rfl rfl ?_
  refine gx_catchV X hti rfl lcX7_undo lmL_56 lsX7_undo hC (ci := 7) h0 rfl (rest := [.int (nI 0), .ref 238]) rfl rfl (Nat.le_of_ble_eq_true rfl) ⟨by decide, by decide⟩ ⟨Nat.le_of_ble_eq_true rfl, Nat.le_of_ble_eq_true rfl⟩ (fun E A1 hx => ?_) (fun v A1 z1 hq => ?_)
  · have hm := hE E A1 hx
    simp only [List.mem_cons, List.not_mem_nil, or_false] at hm
    subst hm
    refine ⟨11, 7, 2, 8, 0, 0, ⟨(tableOf hhL_undo).take 0, (tableOf hhL_undo)[0]'(by decide), (tableOf hhL_undo).drop 1, rfl, fun _ h => absurd h List.not_mem_nil, by decide, by decide, cl9_13, by decide, ins_eISE, rfl⟩, by decide, Or.inr ⟨2, rfl, rfl⟩, ?_⟩
    refine g_iconst X rfl (v := nI 1) (by decide) ?_
    exact g_iret X rfl rfl rfl (Nat.le_of_ble_eq_true rfl) (Nat.le_of_ble_eq_true rfl) (Or.inr ⟨_, hx, by decide, rfl⟩)
  · obtain ⟨r, rfl, hQ⟩ := hq
    obtain ⟨⟨x, rfl⟩, g9, hg9⟩ := hI r A1 hQ
    refine g_i2l X rfl ?_
    refine g_lastN X rfl hg9 (by decide) (by decide) ?_
    refine g_goto X rfl ?_
    refine g_iconst X rfl (v := nI 0) (by decide) ?_
    exact g_iret X rfl rfl rfl (Nat.le_of_ble_eq_true rfl) (Nat.le_of_ble_eq_true rfl) (Or.inl ⟨_, A1, _, hQ, rfl, rfl, rfl⟩)
set_option maxRecDepth 100000 in
set_option maxHeartbeats 400000 in
theorem hp_L_restore (l : Launch) (D : va_G) (cy : Nat → ClassId) (B : Nat) (od : Nat → Option Nat) {A : AH} {z : Nat} {Qr : Value → AH → Prop} {Qx : String → AH → Prop} (hC : CX l D cy B od yX7_restore cX7_restore 1 (some .int) rmX7_restore [.ref 0] A z (fun v A' z' => ∃ r, v = some r ∧ Qr r A') Qx) {fs : List Value} (h0 : A 0 = some (.inr (7, fs))) (hI : ∀ r A', Qr r A' → (∃ x, r = .int x) ∧ ∃ g9, A' 238 = some (.inl (cy 1, 1, .inr (.inl g9)))) (hE : ∀ E A', Qx E A' → E ∈ [eISE]) : CTW l D cy B od yL_restore cL_restore 3 (some .int) hhL_restore rmL_restore [.ref 0, .ref 238] A z (HQ cy [eISE] Qr Qx) := by
  refine CTW.of (by decide) tL_restore okL_restore (Nat.le_of_ble_eq_true rfl) (q0 := tL_restore[0]) rfl rfl ?_
  intro p e s m args below meth c X hti
  refine g_aload_n X rfl rfl ?_
  refine g_iconst X rfl (v := nI 0) (by decide) ?_
  refine g_aload_n X rfl rfl ?_
  refine gx_catchV X hti rfl lcX7_restore lmL_59 lsX7_restore hC (ci := 7) h0 rfl (rest := [.int (nI 0), .ref 238]) rfl rfl (Nat.le_of_ble_eq_true rfl) ⟨by decide, by decide⟩ ⟨Nat.le_of_ble_eq_true rfl, Nat.le_of_ble_eq_true rfl⟩ (fun E A1 hx => ?_) (fun v A1 z1 hq => ?_)
  · have hm := hE E A1 hx
    simp only [List.mem_cons, List.not_mem_nil, or_false] at hm
    subst hm
    refine ⟨11, 7, 2, 8, 0, 0, ⟨(tableOf hhL_restore).take 0, (tableOf hhL_restore)[0]'(by decide), (tableOf hhL_restore).drop 1, rfl, fun _ h => absurd h List.not_mem_nil, by decide, by decide, cl9_13, by decide, ins_eISE, rfl⟩, by decide, Or.inr ⟨2, rfl, rfl⟩, ?_⟩
    refine g_iconst X rfl (v := nI 1) (by decide) ?_
    exact g_iret X rfl rfl rfl (Nat.le_of_ble_eq_true rfl) (Nat.le_of_ble_eq_true rfl) (Or.inr ⟨_, hx, by decide, rfl⟩)
  · obtain ⟨r, rfl, hQ⟩ := hq
    obtain ⟨⟨x, rfl⟩, g9, hg9⟩ := hI r A1 hQ
    refine g_i2l X rfl ?_
    refine g_lastN X rfl hg9 (by decide) (by decide) ?_
    refine g_goto X rfl ?_
    refine g_iconst X rfl (v := nI 0) (by decide) ?_
    exact g_iret X rfl rfl rfl (Nat.le_of_ble_eq_true rfl) (Nat.le_of_ble_eq_true rfl) (Or.inl ⟨_, A1, _, hQ, rfl, rfl, rfl⟩)
set_option maxRecDepth 100000 in
set_option maxHeartbeats 400000 in
theorem hp_L_count (l : Launch) (D : va_G) (cy : Nat → ClassId) (B : Nat) (od : Nat → Option Nat) {A : AH} {z : Nat} {x0 : Int32} {Qr : Value → AH → Prop} {Qx : String → AH → Prop} (hC : CX l D cy B od yX7_count cX7_count 2 (some .int) rmX7_count [.ref 0, .int x0] A z (fun v A' z' => ∃ r, v = some r ∧ Qr r A') Qx) {fs : List Value} (h0 : A 0 = some (.inr (7, fs))) (hI : ∀ r A', Qr r A' → (∃ x, r = .int x) ∧ ∃ g9, A' 238 = some (.inl (cy 1, 1, .inr (.inl g9)))) (hE : ∀ E A', Qx E A' → E ∈ [eIAE]) : CTW l D cy B od yL_count cL_count 4 (some .int) hhL_count rmL_count [.ref 0, .int x0, .ref 238] A z (HQ cy [eIAE] Qr Qx) := by
  refine CTW.of (by decide) tL_count okL_count (Nat.le_of_ble_eq_true rfl) (q0 := tL_count[0]) rfl rfl ?_
  intro p e s m args below meth c X hti
  refine g_aload_n X rfl rfl ?_
  refine g_iconst X rfl (v := nI 0) (by decide) ?_
  refine g_aload_n X rfl rfl ?_
  refine g_iload_n X rfl rfl ?_
  refine gx_catchV X hti rfl lcX7_count lmL_62 lsX7_count hC (ci := 7) h0 rfl (rest := [.int (nI 0), .ref 238]) rfl rfl (Nat.le_of_ble_eq_true rfl) ⟨by decide, by decide⟩ ⟨Nat.le_of_ble_eq_true rfl, Nat.le_of_ble_eq_true rfl⟩ (fun E A1 hx => ?_) (fun v A1 z1 hq => ?_)
  · have hm := hE E A1 hx
    simp only [List.mem_cons, List.not_mem_nil, or_false] at hm
    subst hm
    refine ⟨12, 8, 3, 9, 0, 0, ⟨(tableOf hhL_count).take 0, (tableOf hhL_count)[0]'(by decide), (tableOf hhL_count).drop 1, rfl, fun _ h => absurd h List.not_mem_nil, by decide, by decide, cl9_19, by decide, ins_eIAE, rfl⟩, by decide, Or.inr ⟨3, rfl, rfl⟩, ?_⟩
    refine g_iconst X rfl (v := nI 1) (by decide) ?_
    exact g_iret X rfl rfl rfl (Nat.le_of_ble_eq_true rfl) (Nat.le_of_ble_eq_true rfl) (Or.inr ⟨_, hx, by decide, rfl⟩)
  · obtain ⟨r, rfl, hQ⟩ := hq
    obtain ⟨⟨x, rfl⟩, g9, hg9⟩ := hI r A1 hQ
    refine g_i2l X rfl ?_
    refine g_lastN X rfl hg9 (by decide) (by decide) ?_
    refine g_goto X rfl ?_
    refine g_iconst X rfl (v := nI 0) (by decide) ?_
    exact g_iret X rfl rfl rfl (Nat.le_of_ble_eq_true rfl) (Nat.le_of_ble_eq_true rfl) (Or.inl ⟨_, A1, _, hQ, rfl, rfl, rfl⟩)
set_option maxRecDepth 100000 in
set_option maxHeartbeats 400000 in
theorem hp_L_entry (l : Launch) (D : va_G) (cy : Nat → ClassId) (B : Nat) (od : Nat → Option Nat) {A : AH} {z : Nat} {x0 x1 : Int32} {Qr : Value → AH → Prop} {Qx : String → AH → Prop} (hC : CX l D cy B od yX7_entry cX7_entry 3 (some .int) rmX7_entry [.ref 0, .int x0, .int x1] A z (fun v A' z' => ∃ r, v = some r ∧ Qr r A') Qx) {fs : List Value} (h0 : A 0 = some (.inr (7, fs))) (hI : ∀ r A', Qr r A' → (∃ x, r = .int x) ∧ ∃ g9, A' 238 = some (.inl (cy 1, 1, .inr (.inl g9)))) (hE : ∀ E A', Qx E A' → E ∈ [eIOB, eIAE]) : CTW l D cy B od yL_entry cL_entry 5 (some .int) hhL_entry rmL_entry [.ref 0, .int x0, .int x1, .ref 238] A z (HQ cy [eIOB, eIAE] Qr Qx) := by
  refine CTW.of (by decide) tL_entry okL_entry (Nat.le_of_ble_eq_true rfl) (q0 := tL_entry[0]) rfl rfl ?_
  intro p e s m args below meth c X hti
  refine g_aload_n X rfl rfl ?_
  refine g_iconst X rfl (v := nI 0) (by decide) ?_
  refine g_aload_n X rfl rfl ?_
  refine g_iload_n X rfl rfl ?_
  refine g_iload_n X rfl rfl ?_
  refine gx_catchV X hti rfl lcX7_entry lmL_65 lsX7_entry hC (ci := 7) h0 rfl (rest := [.int (nI 0), .ref 238]) rfl rfl (Nat.le_of_ble_eq_true rfl) ⟨by decide, by decide⟩ ⟨Nat.le_of_ble_eq_true rfl, Nat.le_of_ble_eq_true rfl⟩ (fun E A1 hx => ?_) (fun v A1 z1 hq => ?_)
  · have hm := hE E A1 hx
    simp only [List.mem_cons, List.not_mem_nil, or_false] at hm
    rcases hm with rfl | rfl
    · refine ⟨13, 9, 4, 10, 0, 0, ⟨(tableOf hhL_entry).take 0, (tableOf hhL_entry)[0]'(by decide), (tableOf hhL_entry).drop 1, rfl, fun _ h => absurd h List.not_mem_nil, by decide, by decide, cl9_32, by decide, ins_eIOB, rfl⟩, by decide, Or.inl rfl, ?_⟩
      refine g_iconst X rfl (v := nI 1) (by decide) ?_
      exact g_iret X rfl rfl rfl (Nat.le_of_ble_eq_true rfl) (Nat.le_of_ble_eq_true rfl) (Or.inr ⟨_, hx, by decide, rfl⟩)
    · refine ⟨17, 12, 4, 13, 0, 0, ⟨(tableOf hhL_entry).take 1, (tableOf hhL_entry)[1]'(by decide), (tableOf hhL_entry).drop 2, rfl, List.forall_mem_cons.mpr ⟨⟨by decide, _, cl9_32, by decide, by decide⟩, fun _ h => absurd h List.not_mem_nil⟩, by decide, by decide, cl9_19, by decide, ins_eIAE, rfl⟩, by decide, Or.inl rfl, ?_⟩
      refine g_iconst X rfl (v := nI 2) (by decide) ?_
      exact g_iret X rfl rfl rfl (Nat.le_of_ble_eq_true rfl) (Nat.le_of_ble_eq_true rfl) (Or.inr ⟨_, hx, by decide, rfl⟩)
  · obtain ⟨r, rfl, hQ⟩ := hq
    obtain ⟨⟨x, rfl⟩, g9, hg9⟩ := hI r A1 hQ
    refine g_i2l X rfl ?_
    refine g_lastN X rfl hg9 (by decide) (by decide) ?_
    refine g_goto X rfl ?_
    refine g_iconst X rfl (v := nI 0) (by decide) ?_
    exact g_iret X rfl rfl rfl (Nat.le_of_ble_eq_true rfl) (Nat.le_of_ble_eq_true rfl) (Or.inl ⟨_, A1, _, hQ, rfl, rfl, rfl⟩)
set_option maxRecDepth 100000 in
set_option maxHeartbeats 400000 in
theorem hp_L_deductible (l : Launch) (D : va_G) (cy : Nat → ClassId) (B : Nat) (od : Nat → Option Nat) {A : AH} {z : Nat} {x0 : Int32} {Qr : Value → AH → Prop} {Qx : String → AH → Prop} (hC : CX l D cy B od yX7_deductible cX7_deductible 2 (some .int) rmX7_deductible [.ref 0, .int x0] A z (fun v A' z' => ∃ r, v = some r ∧ Qr r A') Qx) {fs : List Value} (h0 : A 0 = some (.inr (7, fs))) (hI : ∀ r A', Qr r A' → (∃ x, r = .int x) ∧ ∃ g9, A' 238 = some (.inl (cy 1, 1, .inr (.inl g9)))) (hE : ∀ E A', Qx E A' → E ∈ [eIOB]) : CTW l D cy B od yL_deductible cL_deductible 4 (some .int) hhL_deductible rmL_deductible [.ref 0, .int x0, .ref 238] A z (HQ cy [eIOB] Qr Qx) := by
  refine CTW.of (by decide) tL_deductible okL_deductible (Nat.le_of_ble_eq_true rfl) (q0 := tL_deductible[0]) rfl rfl ?_
  intro p e s m args below meth c X hti
  refine g_aload_n X rfl rfl ?_
  refine g_iconst X rfl (v := nI 0) (by decide) ?_
  refine g_aload_n X rfl rfl ?_
  refine g_iload_n X rfl rfl ?_
  refine gx_catchV X hti rfl lcX7_deductible lmL_68 lsX7_deductible hC (ci := 7) h0 rfl (rest := [.int (nI 0), .ref 238]) rfl rfl (Nat.le_of_ble_eq_true rfl) ⟨by decide, by decide⟩ ⟨Nat.le_of_ble_eq_true rfl, Nat.le_of_ble_eq_true rfl⟩ (fun E A1 hx => ?_) (fun v A1 z1 hq => ?_)
  · have hm := hE E A1 hx
    simp only [List.mem_cons, List.not_mem_nil, or_false] at hm
    subst hm
    refine ⟨12, 8, 3, 9, 0, 0, ⟨(tableOf hhL_deductible).take 0, (tableOf hhL_deductible)[0]'(by decide), (tableOf hhL_deductible).drop 1, rfl, fun _ h => absurd h List.not_mem_nil, by decide, by decide, cl9_32, by decide, ins_eIOB, rfl⟩, by decide, Or.inr ⟨3, rfl, rfl⟩, ?_⟩
    refine g_iconst X rfl (v := nI 1) (by decide) ?_
    exact g_iret X rfl rfl rfl (Nat.le_of_ble_eq_true rfl) (Nat.le_of_ble_eq_true rfl) (Or.inr ⟨_, hx, by decide, rfl⟩)
  · obtain ⟨r, rfl, hQ⟩ := hq
    obtain ⟨⟨x, rfl⟩, g9, hg9⟩ := hI r A1 hQ
    refine g_i2l X rfl ?_
    refine g_lastN X rfl hg9 (by decide) (by decide) ?_
    refine g_goto X rfl ?_
    refine g_iconst X rfl (v := nI 0) (by decide) ?_
    exact g_iret X rfl rfl rfl (Nat.le_of_ble_eq_true rfl) (Nat.le_of_ble_eq_true rfl) (Or.inl ⟨_, A1, _, hQ, rfl, rfl, rfl⟩)
set_option maxRecDepth 100000 in
set_option maxHeartbeats 400000 in
theorem hp_L_total (l : Launch) (D : va_G) (cy : Nat → ClassId) (B : Nat) (od : Nat → Option Nat) {A : AH} {z : Nat} {x0 x1 x2 : Int32} {Qr : Value → AH → Prop} {Qx : String → AH → Prop} (hC : CX l D cy B od yX7_total cX7_total 4 (some .long) rmX7_total [.ref 0, .int x0, .int x1, .int x2] A z (fun v A' z' => ∃ r, v = some r ∧ Qr r A') Qx) {fs : List Value} (h0 : A 0 = some (.inr (7, fs))) (hI : ∀ r A', Qr r A' → (∃ x, r = .long x) ∧ ∃ g9, A' 238 = some (.inl (cy 1, 1, .inr (.inl g9)))) (hE : ∀ E A', Qx E A' → E ∈ [eIAE]) : CTW l D cy B od yL_total cL_total 6 (some .int) hhL_total rmL_total [.ref 0, .int x0, .int x1, .int x2, .ref 238] A z (HQ cy [eIAE] Qr Qx) := by
  refine CTW.of (by decide) tL_total okL_total (Nat.le_of_ble_eq_true rfl) (q0 := tL_total[0]) rfl rfl ?_
  intro p e s m args below meth c X hti
  refine g_aload X rfl rfl ?_
  refine g_iconst X rfl (v := nI 0) (by decide) ?_
  refine g_aload_n X rfl rfl ?_
  refine g_iload_n X rfl rfl ?_
  refine g_iload_n X rfl rfl ?_
  refine g_iload_n X rfl rfl ?_
  refine gx_catchV X hti rfl lcX7_total lmL_71 lsX7_total hC (ci := 7) h0 rfl (rest := [.int (nI 0), .ref 238]) rfl rfl (Nat.le_of_ble_eq_true rfl) ⟨by decide, by decide⟩ ⟨Nat.le_of_ble_eq_true rfl, Nat.le_of_ble_eq_true rfl⟩ (fun E A1 hx => ?_) (fun v A1 z1 hq => ?_)
  · have hm := hE E A1 hx
    simp only [List.mem_cons, List.not_mem_nil, or_false] at hm
    subst hm
    refine ⟨14, 9, 5, 10, 0, 0, ⟨(tableOf hhL_total).take 0, (tableOf hhL_total)[0]'(by decide), (tableOf hhL_total).drop 1, rfl, fun _ h => absurd h List.not_mem_nil, by decide, by decide, cl9_19, by decide, ins_eIAE, rfl⟩, by decide, Or.inl rfl, ?_⟩
    refine g_iconst X rfl (v := nI 1) (by decide) ?_
    exact g_iret X rfl rfl rfl (Nat.le_of_ble_eq_true rfl) (Nat.le_of_ble_eq_true rfl) (Or.inr ⟨_, hx, by decide, rfl⟩)
  · obtain ⟨r, rfl, hQ⟩ := hq
    obtain ⟨⟨x, rfl⟩, g9, hg9⟩ := hI r A1 hQ
    refine g_lastN X rfl hg9 (by decide) (by decide) ?_
    refine g_goto X rfl ?_
    refine g_iconst X rfl (v := nI 0) (by decide) ?_
    exact g_iret X rfl rfl rfl (Nat.le_of_ble_eq_true rfl) (Nat.le_of_ble_eq_true rfl) (Or.inl ⟨_, A1, _, hQ, rfl, rfl, rfl⟩)
set_option maxRecDepth 100000 in
set_option maxHeartbeats 400000 in
theorem hp_L_byCategory (l : Launch) (D : va_G) (cy : Nat → ClassId) (B : Nat) (od : Nat → Option Nat) {A : AH} {z : Nat} {x0 x1 : Int32} {Qr : Value → AH → Prop} {Qx : String → AH → Prop} (hC : CX l D cy B od yX7_byCategory cX7_byCategory 3 (some .long) rmX7_byCategory [.ref 0, .int x0, .int x1] A z (fun v A' z' => ∃ r, v = some r ∧ Qr r A') Qx) {fs : List Value} (h0 : A 0 = some (.inr (7, fs))) (hI : ∀ r A', Qr r A' → (∃ x, r = .long x) ∧ ∃ g9, A' 238 = some (.inl (cy 1, 1, .inr (.inl g9)))) (hE : ∀ E A', Qx E A' → E ∈ [eIAE]) : CTW l D cy B od yL_byCategory cL_byCategory 5 (some .int) hhL_byCategory rmL_byCategory [.ref 0, .int x0, .int x1, .ref 238] A z (HQ cy [eIAE] Qr Qx) := by
  refine CTW.of (by decide) tL_byCategory okL_byCategory (Nat.le_of_ble_eq_true rfl) (q0 := tL_byCategory[0]) rfl rfl ?_
  intro p e s m args below meth c X hti
  refine g_aload_n X rfl rfl ?_
  refine g_iconst X rfl (v := nI 0) (by decide) ?_
  refine g_aload_n X rfl rfl ?_
  refine g_iload_n X rfl rfl ?_
  refine g_iload_n X rfl rfl ?_
  refine gx_catchV X hti rfl lcX7_byCategory lmL_75 lsX7_byCategory hC (ci := 7) h0 rfl (rest := [.int (nI 0), .ref 238]) rfl rfl (Nat.le_of_ble_eq_true rfl) ⟨by decide, by decide⟩ ⟨Nat.le_of_ble_eq_true rfl, Nat.le_of_ble_eq_true rfl⟩ (fun E A1 hx => ?_) (fun v A1 z1 hq => ?_)
  · have hm := hE E A1 hx
    simp only [List.mem_cons, List.not_mem_nil, or_false] at hm
    subst hm
    refine ⟨12, 8, 4, 9, 0, 0, ⟨(tableOf hhL_byCategory).take 0, (tableOf hhL_byCategory)[0]'(by decide), (tableOf hhL_byCategory).drop 1, rfl, fun _ h => absurd h List.not_mem_nil, by decide, by decide, cl9_19, by decide, ins_eIAE, rfl⟩, by decide, Or.inl rfl, ?_⟩
    refine g_iconst X rfl (v := nI 1) (by decide) ?_
    exact g_iret X rfl rfl rfl (Nat.le_of_ble_eq_true rfl) (Nat.le_of_ble_eq_true rfl) (Or.inr ⟨_, hx, by decide, rfl⟩)
  · obtain ⟨r, rfl, hQ⟩ := hq
    obtain ⟨⟨x, rfl⟩, g9, hg9⟩ := hI r A1 hQ
    refine g_lastN X rfl hg9 (by decide) (by decide) ?_
    refine g_goto X rfl ?_
    refine g_iconst X rfl (v := nI 0) (by decide) ?_
    exact g_iret X rfl rfl rfl (Nat.le_of_ble_eq_true rfl) (Nat.le_of_ble_eq_true rfl) (Or.inl ⟨_, A1, _, hQ, rfl, rfl, rfl⟩)
set_option maxRecDepth 100000 in
set_option maxHeartbeats 400000 in
theorem hp_L_open (l : Launch) (D : va_G) (cy : Nat → ClassId) (B : Nat) (od : Nat → Option Nat) {A : AH} {z : Nat} {x0 : Int32} {Qr : Value → AH → Prop} {Qx : String → AH → Prop} (hC : CX l D cy B od yX7_open cX7_open 2 (some .long) rmX7_open [.ref 0, .int x0] A z (fun v A' z' => ∃ r, v = some r ∧ Qr r A') Qx) {fs : List Value} (h0 : A 0 = some (.inr (7, fs))) (hI : ∀ r A', Qr r A' → (∃ x, r = .long x) ∧ ∃ g9, A' 238 = some (.inl (cy 1, 1, .inr (.inl g9)))) (hE : ∀ E A', Qx E A' → E ∈ [eIAE]) : CTW l D cy B od yL_open cL_open 4 (some .int) hhL_open rmL_open [.ref 0, .int x0, .ref 238] A z (HQ cy [eIAE] Qr Qx) := by
  refine CTW.of (by decide) tL_open okL_open (Nat.le_of_ble_eq_true rfl) (q0 := tL_open[0]) rfl rfl ?_
  intro p e s m args below meth c X hti
  refine g_aload_n X rfl rfl ?_
  refine g_iconst X rfl (v := nI 0) (by decide) ?_
  refine g_aload_n X rfl rfl ?_
  refine g_iload_n X rfl rfl ?_
  refine gx_catchV X hti rfl lcX7_open lmL_79 lsX7_open hC (ci := 7) h0 rfl (rest := [.int (nI 0), .ref 238]) rfl rfl (Nat.le_of_ble_eq_true rfl) ⟨by decide, by decide⟩ ⟨Nat.le_of_ble_eq_true rfl, Nat.le_of_ble_eq_true rfl⟩ (fun E A1 hx => ?_) (fun v A1 z1 hq => ?_)
  · have hm := hE E A1 hx
    simp only [List.mem_cons, List.not_mem_nil, or_false] at hm
    subst hm
    refine ⟨11, 7, 3, 8, 0, 0, ⟨(tableOf hhL_open).take 0, (tableOf hhL_open)[0]'(by decide), (tableOf hhL_open).drop 1, rfl, fun _ h => absurd h List.not_mem_nil, by decide, by decide, cl9_19, by decide, ins_eIAE, rfl⟩, by decide, Or.inr ⟨3, rfl, rfl⟩, ?_⟩
    refine g_iconst X rfl (v := nI 1) (by decide) ?_
    exact g_iret X rfl rfl rfl (Nat.le_of_ble_eq_true rfl) (Nat.le_of_ble_eq_true rfl) (Or.inr ⟨_, hx, by decide, rfl⟩)
  · obtain ⟨r, rfl, hQ⟩ := hq
    obtain ⟨⟨x, rfl⟩, g9, hg9⟩ := hI r A1 hQ
    refine g_lastN X rfl hg9 (by decide) (by decide) ?_
    refine g_goto X rfl ?_
    refine g_iconst X rfl (v := nI 0) (by decide) ?_
    exact g_iret X rfl rfl rfl (Nat.le_of_ble_eq_true rfl) (Nat.le_of_ble_eq_true rfl) (Or.inl ⟨_, A1, _, hQ, rfl, rfl, rfl⟩)
set_option maxRecDepth 100000 in
set_option maxHeartbeats 400000 in
theorem hp_L_oldestOpen (l : Launch) (D : va_G) (cy : Nat → ClassId) (B : Nat) (od : Nat → Option Nat) {A : AH} {z : Nat} {Qr : Value → AH → Prop} {Qx : String → AH → Prop} (hC : CX l D cy B od yX7_oldestOpen cX7_oldestOpen 2 (some .int) rmX7_oldestOpen [.ref 0] A z (fun v A' z' => ∃ r, v = some r ∧ Qr r A') Qx) {fs : List Value} (h0 : A 0 = some (.inr (7, fs))) (hI : ∀ r A', Qr r A' → (∃ x, r = .int x) ∧ ∃ g9, A' 238 = some (.inl (cy 1, 1, .inr (.inl g9)))) (hE : ∀ E A', Qx E A' → E ∈ [eNSE]) : CTW l D cy B od yL_oldestOpen cL_oldestOpen 3 (some .int) hhL_oldestOpen rmL_oldestOpen [.ref 0, .ref 238] A z (HQ cy [eNSE] Qr Qx) := by
  refine CTW.of (by decide) tL_oldestOpen okL_oldestOpen (Nat.le_of_ble_eq_true rfl) (q0 := tL_oldestOpen[0]) rfl rfl ?_
  intro p e s m args below meth c X hti
  refine g_aload_n X rfl rfl ?_
  refine g_iconst X rfl (v := nI 0) (by decide) ?_
  refine g_aload_n X rfl rfl ?_
  refine gx_catchV X hti rfl lcX7_oldestOpen lmL_83 lsX7_oldestOpen hC (ci := 7) h0 rfl (rest := [.int (nI 0), .ref 238]) rfl rfl (Nat.le_of_ble_eq_true rfl) ⟨by decide, by decide⟩ ⟨Nat.le_of_ble_eq_true rfl, Nat.le_of_ble_eq_true rfl⟩ (fun E A1 hx => ?_) (fun v A1 z1 hq => ?_)
  · have hm := hE E A1 hx
    simp only [List.mem_cons, List.not_mem_nil, or_false] at hm
    subst hm
    refine ⟨11, 7, 2, 8, 0, 0, ⟨(tableOf hhL_oldestOpen).take 0, (tableOf hhL_oldestOpen)[0]'(by decide), (tableOf hhL_oldestOpen).drop 1, rfl, fun _ h => absurd h List.not_mem_nil, by decide, by decide, cl9_86, by decide, ins_eNSE, rfl⟩, by decide, Or.inr ⟨2, rfl, rfl⟩, ?_⟩
    refine g_iconst X rfl (v := nI 1) (by decide) ?_
    exact g_iret X rfl rfl rfl (Nat.le_of_ble_eq_true rfl) (Nat.le_of_ble_eq_true rfl) (Or.inr ⟨_, hx, by decide, rfl⟩)
  · obtain ⟨r, rfl, hQ⟩ := hq
    obtain ⟨⟨x, rfl⟩, g9, hg9⟩ := hI r A1 hQ
    refine g_i2l X rfl ?_
    refine g_lastN X rfl hg9 (by decide) (by decide) ?_
    refine g_goto X rfl ?_
    refine g_iconst X rfl (v := nI 0) (by decide) ?_
    exact g_iret X rfl rfl rfl (Nat.le_of_ble_eq_true rfl) (Nat.le_of_ble_eq_true rfl) (Or.inl ⟨_, A1, _, hQ, rfl, rfl, rfl⟩)
set_option maxRecDepth 100000 in
set_option maxHeartbeats 400000 in
theorem hp_L_room (l : Launch) (D : va_G) (cy : Nat → ClassId) (B : Nat) (od : Nat → Option Nat) {A : AH} {z : Nat} {x0 x1 : Int32} {Qr : Value → AH → Prop} {Qx : String → AH → Prop} (hC : CX l D cy B od yX7_room cX7_room 3 (some .int) rmX7_room [.ref 0, .int x0, .int x1] A z (fun v A' z' => ∃ r, v = some r ∧ Qr r A') Qx) {fs : List Value} (h0 : A 0 = some (.inr (7, fs))) (hI : ∀ r A', Qr r A' → (∃ x, r = .int x) ∧ ∃ g9, A' 238 = some (.inl (cy 1, 1, .inr (.inl g9)))) (hE : ∀ E A', Qx E A' → E ∈ [eIOB, eIAE]) : CTW l D cy B od yL_room cL_room 5 (some .int) hhL_room rmL_room [.ref 0, .int x0, .int x1, .ref 238] A z (HQ cy [eIOB, eIAE] Qr Qx) := by
  refine CTW.of (by decide) tL_room okL_room (Nat.le_of_ble_eq_true rfl) (q0 := tL_room[0]) rfl rfl ?_
  intro p e s m args below meth c X hti
  refine g_aload_n X rfl rfl ?_
  refine g_iconst X rfl (v := nI 0) (by decide) ?_
  refine g_aload_n X rfl rfl ?_
  refine g_iload_n X rfl rfl ?_
  refine g_iload_n X rfl rfl ?_
  refine gx_catchV X hti rfl lcX7_room lmL_88 lsX7_room hC (ci := 7) h0 rfl (rest := [.int (nI 0), .ref 238]) rfl rfl (Nat.le_of_ble_eq_true rfl) ⟨by decide, by decide⟩ ⟨Nat.le_of_ble_eq_true rfl, Nat.le_of_ble_eq_true rfl⟩ (fun E A1 hx => ?_) (fun v A1 z1 hq => ?_)
  · have hm := hE E A1 hx
    simp only [List.mem_cons, List.not_mem_nil, or_false] at hm
    rcases hm with rfl | rfl
    · refine ⟨13, 9, 4, 10, 0, 0, ⟨(tableOf hhL_room).take 0, (tableOf hhL_room)[0]'(by decide), (tableOf hhL_room).drop 1, rfl, fun _ h => absurd h List.not_mem_nil, by decide, by decide, cl9_32, by decide, ins_eIOB, rfl⟩, by decide, Or.inl rfl, ?_⟩
      refine g_iconst X rfl (v := nI 1) (by decide) ?_
      exact g_iret X rfl rfl rfl (Nat.le_of_ble_eq_true rfl) (Nat.le_of_ble_eq_true rfl) (Or.inr ⟨_, hx, by decide, rfl⟩)
    · refine ⟨17, 12, 4, 13, 0, 0, ⟨(tableOf hhL_room).take 1, (tableOf hhL_room)[1]'(by decide), (tableOf hhL_room).drop 2, rfl, List.forall_mem_cons.mpr ⟨⟨by decide, _, cl9_32, by decide, by decide⟩, fun _ h => absurd h List.not_mem_nil⟩, by decide, by decide, cl9_19, by decide, ins_eIAE, rfl⟩, by decide, Or.inl rfl, ?_⟩
      refine g_iconst X rfl (v := nI 2) (by decide) ?_
      exact g_iret X rfl rfl rfl (Nat.le_of_ble_eq_true rfl) (Nat.le_of_ble_eq_true rfl) (Or.inr ⟨_, hx, by decide, rfl⟩)
  · obtain ⟨r, rfl, hQ⟩ := hq
    obtain ⟨⟨x, rfl⟩, g9, hg9⟩ := hI r A1 hQ
    refine g_i2l X rfl ?_
    refine g_lastN X rfl hg9 (by decide) (by decide) ?_
    refine g_goto X rfl ?_
    refine g_iconst X rfl (v := nI 0) (by decide) ?_
    exact g_iret X rfl rfl rfl (Nat.le_of_ble_eq_true rfl) (Nat.le_of_ble_eq_true rfl) (Or.inl ⟨_, A1, _, hQ, rfl, rfl, rfl⟩)
set_option maxRecDepth 100000 in
set_option maxHeartbeats 400000 in
theorem hp_L_share (l : Launch) (D : va_G) (cy : Nat → ClassId) (B : Nat) (od : Nat → Option Nat) {A : AH} {z : Nat} {x0 x1 : Int32} {Qr : Value → AH → Prop} {Qx : String → AH → Prop} (hC : CX l D cy B od yX7_share cX7_share 6 (some .int) rmX7_share [.ref 0, .int x0, .int x1] A z (fun v A' z' => ∃ r, v = some r ∧ Qr r A') Qx) {fs : List Value} (h0 : A 0 = some (.inr (7, fs))) (hI : ∀ r A', Qr r A' → (∃ x, r = .int x) ∧ ∃ g9, A' 238 = some (.inl (cy 1, 1, .inr (.inl g9)))) (hE : ∀ E A', Qx E A' → E ∈ [eIAE]) : CTW l D cy B od yL_share cL_share 5 (some .int) hhL_share rmL_share [.ref 0, .int x0, .int x1, .ref 238] A z (HQ cy [eIAE] Qr Qx) := by
  refine CTW.of (by decide) tL_share okL_share (Nat.le_of_ble_eq_true rfl) (q0 := tL_share[0]) rfl rfl ?_
  intro p e s m args below meth c X hti
  refine g_aload_n X rfl rfl ?_
  refine g_iconst X rfl (v := nI 0) (by decide) ?_
  refine g_aload_n X rfl rfl ?_
  refine g_iload_n X rfl rfl ?_
  refine g_iload_n X rfl rfl ?_
  refine gx_catchV X hti rfl lcX7_share lmL_91 lsX7_share hC (ci := 7) h0 rfl (rest := [.int (nI 0), .ref 238]) rfl rfl (Nat.le_of_ble_eq_true rfl) ⟨by decide, by decide⟩ ⟨Nat.le_of_ble_eq_true rfl, Nat.le_of_ble_eq_true rfl⟩ (fun E A1 hx => ?_) (fun v A1 z1 hq => ?_)
  · have hm := hE E A1 hx
    simp only [List.mem_cons, List.not_mem_nil, or_false] at hm
    subst hm
    refine ⟨13, 9, 4, 10, 0, 0, ⟨(tableOf hhL_share).take 0, (tableOf hhL_share)[0]'(by decide), (tableOf hhL_share).drop 1, rfl, fun _ h => absurd h List.not_mem_nil, by decide, by decide, cl9_19, by decide, ins_eIAE, rfl⟩, by decide, Or.inl rfl, ?_⟩
    refine g_iconst X rfl (v := nI 1) (by decide) ?_
    exact g_iret X rfl rfl rfl (Nat.le_of_ble_eq_true rfl) (Nat.le_of_ble_eq_true rfl) (Or.inr ⟨_, hx, by decide, rfl⟩)
  · obtain ⟨r, rfl, hQ⟩ := hq
    obtain ⟨⟨x, rfl⟩, g9, hg9⟩ := hI r A1 hQ
    refine g_i2l X rfl ?_
    refine g_lastN X rfl hg9 (by decide) (by decide) ?_
    refine g_goto X rfl ?_
    refine g_iconst X rfl (v := nI 0) (by decide) ?_
    exact g_iret X rfl rfl rfl (Nat.le_of_ble_eq_true rfl) (Nat.le_of_ble_eq_true rfl) (Or.inl ⟨_, A1, _, hQ, rfl, rfl, rfl⟩)
set_option maxRecDepth 100000 in
set_option maxHeartbeats 400000 in
theorem hp_L_asset (l : Launch) (D : va_G) (cy : Nat → ClassId) (B : Nat) (od : Nat → Option Nat) {A : AH} {z : Nat} {x0 x1 : Int32} {Qr : Value → AH → Prop} {Qx : String → AH → Prop} (hC : CX l D cy B od yX7_asset cX7_asset 3 (some .int) rmX7_asset [.ref 0, .int x0, .int x1] A z (fun v A' z' => ∃ r, v = some r ∧ Qr r A') Qx) {fs : List Value} (h0 : A 0 = some (.inr (7, fs))) (hI : ∀ r A', Qr r A' → (∃ x, r = .int x) ∧ ∃ g9, A' 238 = some (.inl (cy 1, 1, .inr (.inl g9)))) (hE : ∀ E A', Qx E A' → E ∈ [eIOB, eIAE]) : CTW l D cy B od yL_asset cL_asset 5 (some .int) hhL_asset rmL_asset [.ref 0, .int x0, .int x1, .ref 238] A z (HQ cy [eIOB, eIAE] Qr Qx) := by
  refine CTW.of (by decide) tL_asset okL_asset (Nat.le_of_ble_eq_true rfl) (q0 := tL_asset[0]) rfl rfl ?_
  intro p e s m args below meth c X hti
  refine g_aload_n X rfl rfl ?_
  refine g_iconst X rfl (v := nI 0) (by decide) ?_
  refine g_aload_n X rfl rfl ?_
  refine g_iload_n X rfl rfl ?_
  refine g_iload_n X rfl rfl ?_
  refine gx_catchV X hti rfl lcX7_asset lmL_95 lsX7_asset hC (ci := 7) h0 rfl (rest := [.int (nI 0), .ref 238]) rfl rfl (Nat.le_of_ble_eq_true rfl) ⟨by decide, by decide⟩ ⟨Nat.le_of_ble_eq_true rfl, Nat.le_of_ble_eq_true rfl⟩ (fun E A1 hx => ?_) (fun v A1 z1 hq => ?_)
  · have hm := hE E A1 hx
    simp only [List.mem_cons, List.not_mem_nil, or_false] at hm
    rcases hm with rfl | rfl
    · refine ⟨13, 9, 4, 10, 0, 0, ⟨(tableOf hhL_asset).take 0, (tableOf hhL_asset)[0]'(by decide), (tableOf hhL_asset).drop 1, rfl, fun _ h => absurd h List.not_mem_nil, by decide, by decide, cl9_32, by decide, ins_eIOB, rfl⟩, by decide, Or.inl rfl, ?_⟩
      refine g_iconst X rfl (v := nI 1) (by decide) ?_
      exact g_iret X rfl rfl rfl (Nat.le_of_ble_eq_true rfl) (Nat.le_of_ble_eq_true rfl) (Or.inr ⟨_, hx, by decide, rfl⟩)
    · refine ⟨17, 12, 4, 13, 0, 0, ⟨(tableOf hhL_asset).take 1, (tableOf hhL_asset)[1]'(by decide), (tableOf hhL_asset).drop 2, rfl, List.forall_mem_cons.mpr ⟨⟨by decide, _, cl9_32, by decide, by decide⟩, fun _ h => absurd h List.not_mem_nil⟩, by decide, by decide, cl9_19, by decide, ins_eIAE, rfl⟩, by decide, Or.inl rfl, ?_⟩
      refine g_iconst X rfl (v := nI 2) (by decide) ?_
      exact g_iret X rfl rfl rfl (Nat.le_of_ble_eq_true rfl) (Nat.le_of_ble_eq_true rfl) (Or.inr ⟨_, hx, by decide, rfl⟩)
  · obtain ⟨r, rfl, hQ⟩ := hq
    obtain ⟨⟨x, rfl⟩, g9, hg9⟩ := hI r A1 hQ
    refine g_i2l X rfl ?_
    refine g_lastN X rfl hg9 (by decide) (by decide) ?_
    refine g_goto X rfl ?_
    refine g_iconst X rfl (v := nI 0) (by decide) ?_
    exact g_iret X rfl rfl rfl (Nat.le_of_ble_eq_true rfl) (Nat.le_of_ble_eq_true rfl) (Or.inl ⟨_, A1, _, hQ, rfl, rfl, rfl⟩)
set_option maxRecDepth 100000 in
set_option maxHeartbeats 400000 in
theorem hp_L_written (l : Launch) (D : va_G) (cy : Nat → ClassId) (B : Nat) (od : Nat → Option Nat) {A : AH} {z : Nat} {x0 x1 : Int32} {Qr : Value → AH → Prop} {Qx : String → AH → Prop} (hC : CX l D cy B od yX7_written cX7_written 3 (some .int) rmX7_written [.ref 0, .int x0, .int x1] A z (fun v A' z' => ∃ r, v = some r ∧ Qr r A') Qx) {fs : List Value} (h0 : A 0 = some (.inr (7, fs))) (hI : ∀ r A', Qr r A' → (∃ x, r = .int x) ∧ ∃ g9, A' 238 = some (.inl (cy 1, 1, .inr (.inl g9)))) (hE : ∀ E A', Qx E A' → E ∈ [eIOB, eIAE]) : CTW l D cy B od yL_written cL_written 5 (some .int) hhL_written rmL_written [.ref 0, .int x0, .int x1, .ref 238] A z (HQ cy [eIOB, eIAE] Qr Qx) := by
  refine CTW.of (by decide) tL_written okL_written (Nat.le_of_ble_eq_true rfl) (q0 := tL_written[0]) rfl rfl ?_
  intro p e s m args below meth c X hti
  refine g_aload_n X rfl rfl ?_
  refine g_iconst X rfl (v := nI 0) (by decide) ?_
  refine g_aload_n X rfl rfl ?_
  refine g_iload_n X rfl rfl ?_
  refine g_iload_n X rfl rfl ?_
  refine gx_catchV X hti rfl lcX7_written lmL_98 lsX7_written hC (ci := 7) h0 rfl (rest := [.int (nI 0), .ref 238]) rfl rfl (Nat.le_of_ble_eq_true rfl) ⟨by decide, by decide⟩ ⟨Nat.le_of_ble_eq_true rfl, Nat.le_of_ble_eq_true rfl⟩ (fun E A1 hx => ?_) (fun v A1 z1 hq => ?_)
  · have hm := hE E A1 hx
    simp only [List.mem_cons, List.not_mem_nil, or_false] at hm
    rcases hm with rfl | rfl
    · refine ⟨13, 9, 4, 10, 0, 0, ⟨(tableOf hhL_written).take 0, (tableOf hhL_written)[0]'(by decide), (tableOf hhL_written).drop 1, rfl, fun _ h => absurd h List.not_mem_nil, by decide, by decide, cl9_32, by decide, ins_eIOB, rfl⟩, by decide, Or.inl rfl, ?_⟩
      refine g_iconst X rfl (v := nI 1) (by decide) ?_
      exact g_iret X rfl rfl rfl (Nat.le_of_ble_eq_true rfl) (Nat.le_of_ble_eq_true rfl) (Or.inr ⟨_, hx, by decide, rfl⟩)
    · refine ⟨17, 12, 4, 13, 0, 0, ⟨(tableOf hhL_written).take 1, (tableOf hhL_written)[1]'(by decide), (tableOf hhL_written).drop 2, rfl, List.forall_mem_cons.mpr ⟨⟨by decide, _, cl9_32, by decide, by decide⟩, fun _ h => absurd h List.not_mem_nil⟩, by decide, by decide, cl9_19, by decide, ins_eIAE, rfl⟩, by decide, Or.inl rfl, ?_⟩
      refine g_iconst X rfl (v := nI 2) (by decide) ?_
      exact g_iret X rfl rfl rfl (Nat.le_of_ble_eq_true rfl) (Nat.le_of_ble_eq_true rfl) (Or.inr ⟨_, hx, by decide, rfl⟩)
  · obtain ⟨r, rfl, hQ⟩ := hq
    obtain ⟨⟨x, rfl⟩, g9, hg9⟩ := hI r A1 hQ
    refine g_i2l X rfl ?_
    refine g_lastN X rfl hg9 (by decide) (by decide) ?_
    refine g_goto X rfl ?_
    refine g_iconst X rfl (v := nI 0) (by decide) ?_
    exact g_iret X rfl rfl rfl (Nat.le_of_ble_eq_true rfl) (Nat.le_of_ble_eq_true rfl) (Or.inl ⟨_, A1, _, hQ, rfl, rfl, rfl⟩)
set_option maxRecDepth 100000 in
set_option maxHeartbeats 400000 in
theorem hp_L_bookValue (l : Launch) (D : va_G) (cy : Nat → ClassId) (B : Nat) (od : Nat → Option Nat) {A : AH} {z : Nat} {x0 x1 : Int32} {Qr : Value → AH → Prop} {Qx : String → AH → Prop} (hC : CX l D cy B od yX7_bookValue cX7_bookValue 3 (some .int) rmX7_bookValue [.ref 0, .int x0, .int x1] A z (fun v A' z' => ∃ r, v = some r ∧ Qr r A') Qx) {fs : List Value} (h0 : A 0 = some (.inr (7, fs))) (hI : ∀ r A', Qr r A' → (∃ x, r = .int x) ∧ ∃ g9, A' 238 = some (.inl (cy 1, 1, .inr (.inl g9)))) (hE : ∀ E A', Qx E A' → E ∈ [eIOB, eIAE]) : CTW l D cy B od yL_bookValue cL_bookValue 5 (some .int) hhL_bookValue rmL_bookValue [.ref 0, .int x0, .int x1, .ref 238] A z (HQ cy [eIOB, eIAE] Qr Qx) := by
  refine CTW.of (by decide) tL_bookValue okL_bookValue (Nat.le_of_ble_eq_true rfl) (q0 := tL_bookValue[0]) rfl rfl ?_
  intro p e s m args below meth c X hti
  refine g_aload_n X rfl rfl ?_
  refine g_iconst X rfl (v := nI 0) (by decide) ?_
  refine g_aload_n X rfl rfl ?_
  refine g_iload_n X rfl rfl ?_
  refine g_iload_n X rfl rfl ?_
  refine gx_catchV X hti rfl lcX7_bookValue lmL_101 lsX7_bookValue hC (ci := 7) h0 rfl (rest := [.int (nI 0), .ref 238]) rfl rfl (Nat.le_of_ble_eq_true rfl) ⟨by decide, by decide⟩ ⟨Nat.le_of_ble_eq_true rfl, Nat.le_of_ble_eq_true rfl⟩ (fun E A1 hx => ?_) (fun v A1 z1 hq => ?_)
  · have hm := hE E A1 hx
    simp only [List.mem_cons, List.not_mem_nil, or_false] at hm
    rcases hm with rfl | rfl
    · refine ⟨13, 9, 4, 10, 0, 0, ⟨(tableOf hhL_bookValue).take 0, (tableOf hhL_bookValue)[0]'(by decide), (tableOf hhL_bookValue).drop 1, rfl, fun _ h => absurd h List.not_mem_nil, by decide, by decide, cl9_32, by decide, ins_eIOB, rfl⟩, by decide, Or.inl rfl, ?_⟩
      refine g_iconst X rfl (v := nI 1) (by decide) ?_
      exact g_iret X rfl rfl rfl (Nat.le_of_ble_eq_true rfl) (Nat.le_of_ble_eq_true rfl) (Or.inr ⟨_, hx, by decide, rfl⟩)
    · refine ⟨17, 12, 4, 13, 0, 0, ⟨(tableOf hhL_bookValue).take 1, (tableOf hhL_bookValue)[1]'(by decide), (tableOf hhL_bookValue).drop 2, rfl, List.forall_mem_cons.mpr ⟨⟨by decide, _, cl9_32, by decide, by decide⟩, fun _ h => absurd h List.not_mem_nil⟩, by decide, by decide, cl9_19, by decide, ins_eIAE, rfl⟩, by decide, Or.inl rfl, ?_⟩
      refine g_iconst X rfl (v := nI 2) (by decide) ?_
      exact g_iret X rfl rfl rfl (Nat.le_of_ble_eq_true rfl) (Nat.le_of_ble_eq_true rfl) (Or.inr ⟨_, hx, by decide, rfl⟩)
  · obtain ⟨r, rfl, hQ⟩ := hq
    obtain ⟨⟨x, rfl⟩, g9, hg9⟩ := hI r A1 hQ
    refine g_i2l X rfl ?_
    refine g_lastN X rfl hg9 (by decide) (by decide) ?_
    refine g_goto X rfl ?_
    refine g_iconst X rfl (v := nI 0) (by decide) ?_
    exact g_iret X rfl rfl rfl (Nat.le_of_ble_eq_true rfl) (Nat.le_of_ble_eq_true rfl) (Or.inl ⟨_, A1, _, hQ, rfl, rfl, rfl⟩)
set_option maxRecDepth 100000 in
set_option maxHeartbeats 400000 in
theorem hp_L_pool (l : Launch) (D : va_G) (cy : Nat → ClassId) (B : Nat) (od : Nat → Option Nat) {A : AH} {z : Nat} {x0 : Int32} {Qr : Value → AH → Prop} {Qx : String → AH → Prop} (hC : CX l D cy B od yX7_pool cX7_pool 2 (some .int) rmX7_pool [.ref 0, .int x0] A z (fun v A' z' => ∃ r, v = some r ∧ Qr r A') Qx) {fs : List Value} (h0 : A 0 = some (.inr (7, fs))) (hI : ∀ r A', Qr r A' → (∃ x, r = .int x) ∧ ∃ g9, A' 238 = some (.inl (cy 1, 1, .inr (.inl g9)))) (hE : ∀ E A', Qx E A' → E ∈ [eIAE]) : CTW l D cy B od yL_pool cL_pool 4 (some .int) hhL_pool rmL_pool [.ref 0, .int x0, .ref 238] A z (HQ cy [eIAE] Qr Qx) := by
  refine CTW.of (by decide) tL_pool okL_pool (Nat.le_of_ble_eq_true rfl) (q0 := tL_pool[0]) rfl rfl ?_
  intro p e s m args below meth c X hti
  refine g_aload_n X rfl rfl ?_
  refine g_iconst X rfl (v := nI 0) (by decide) ?_
  refine g_aload_n X rfl rfl ?_
  refine g_iload_n X rfl rfl ?_
  refine gx_catchV X hti rfl lcX7_pool lmL_104 lsX7_pool hC (ci := 7) h0 rfl (rest := [.int (nI 0), .ref 238]) rfl rfl (Nat.le_of_ble_eq_true rfl) ⟨by decide, by decide⟩ ⟨Nat.le_of_ble_eq_true rfl, Nat.le_of_ble_eq_true rfl⟩ (fun E A1 hx => ?_) (fun v A1 z1 hq => ?_)
  · have hm := hE E A1 hx
    simp only [List.mem_cons, List.not_mem_nil, or_false] at hm
    subst hm
    refine ⟨12, 8, 3, 9, 0, 0, ⟨(tableOf hhL_pool).take 0, (tableOf hhL_pool)[0]'(by decide), (tableOf hhL_pool).drop 1, rfl, fun _ h => absurd h List.not_mem_nil, by decide, by decide, cl9_19, by decide, ins_eIAE, rfl⟩, by decide, Or.inr ⟨3, rfl, rfl⟩, ?_⟩
    refine g_iconst X rfl (v := nI 1) (by decide) ?_
    exact g_iret X rfl rfl rfl (Nat.le_of_ble_eq_true rfl) (Nat.le_of_ble_eq_true rfl) (Or.inr ⟨_, hx, by decide, rfl⟩)
  · obtain ⟨r, rfl, hQ⟩ := hq
    obtain ⟨⟨x, rfl⟩, g9, hg9⟩ := hI r A1 hQ
    refine g_i2l X rfl ?_
    refine g_lastN X rfl hg9 (by decide) (by decide) ?_
    refine g_goto X rfl ?_
    refine g_iconst X rfl (v := nI 0) (by decide) ?_
    exact g_iret X rfl rfl rfl (Nat.le_of_ble_eq_true rfl) (Nat.le_of_ble_eq_true rfl) (Or.inl ⟨_, A1, _, hQ, rfl, rfl, rfl⟩)
set_option maxRecDepth 100000 in
set_option maxHeartbeats 400000 in
theorem hp_L_poolWritten (l : Launch) (D : va_G) (cy : Nat → ClassId) (B : Nat) (od : Nat → Option Nat) {A : AH} {z : Nat} {x0 : Int32} {Qr : Value → AH → Prop} {Qx : String → AH → Prop} (hC : CX l D cy B od yX7_poolWritten cX7_poolWritten 2 (some .int) rmX7_poolWritten [.ref 0, .int x0] A z (fun v A' z' => ∃ r, v = some r ∧ Qr r A') Qx) {fs : List Value} (h0 : A 0 = some (.inr (7, fs))) (hI : ∀ r A', Qr r A' → (∃ x, r = .int x) ∧ ∃ g9, A' 238 = some (.inl (cy 1, 1, .inr (.inl g9)))) (hE : ∀ E A', Qx E A' → E ∈ [eIAE]) : CTW l D cy B od yL_poolWritten cL_poolWritten 4 (some .int) hhL_poolWritten rmL_poolWritten [.ref 0, .int x0, .ref 238] A z (HQ cy [eIAE] Qr Qx) := by
  refine CTW.of (by decide) tL_poolWritten okL_poolWritten (Nat.le_of_ble_eq_true rfl) (q0 := tL_poolWritten[0]) rfl rfl ?_
  intro p e s m args below meth c X hti
  refine g_aload_n X rfl rfl ?_
  refine g_iconst X rfl (v := nI 0) (by decide) ?_
  refine g_aload_n X rfl rfl ?_
  refine g_iload_n X rfl rfl ?_
  refine gx_catchV X hti rfl lcX7_poolWritten lmL_107 lsX7_poolWritten hC (ci := 7) h0 rfl (rest := [.int (nI 0), .ref 238]) rfl rfl (Nat.le_of_ble_eq_true rfl) ⟨by decide, by decide⟩ ⟨Nat.le_of_ble_eq_true rfl, Nat.le_of_ble_eq_true rfl⟩ (fun E A1 hx => ?_) (fun v A1 z1 hq => ?_)
  · have hm := hE E A1 hx
    simp only [List.mem_cons, List.not_mem_nil, or_false] at hm
    subst hm
    refine ⟨12, 8, 3, 9, 0, 0, ⟨(tableOf hhL_poolWritten).take 0, (tableOf hhL_poolWritten)[0]'(by decide), (tableOf hhL_poolWritten).drop 1, rfl, fun _ h => absurd h List.not_mem_nil, by decide, by decide, cl9_19, by decide, ins_eIAE, rfl⟩, by decide, Or.inr ⟨3, rfl, rfl⟩, ?_⟩
    refine g_iconst X rfl (v := nI 1) (by decide) ?_
    exact g_iret X rfl rfl rfl (Nat.le_of_ble_eq_true rfl) (Nat.le_of_ble_eq_true rfl) (Or.inr ⟨_, hx, by decide, rfl⟩)
  · obtain ⟨r, rfl, hQ⟩ := hq
    obtain ⟨⟨x, rfl⟩, g9, hg9⟩ := hI r A1 hQ
    refine g_i2l X rfl ?_
    refine g_lastN X rfl hg9 (by decide) (by decide) ?_
    refine g_goto X rfl ?_
    refine g_iconst X rfl (v := nI 0) (by decide) ?_
    exact g_iret X rfl rfl rfl (Nat.le_of_ble_eq_true rfl) (Nat.le_of_ble_eq_true rfl) (Or.inl ⟨_, A1, _, hQ, rfl, rfl, rfl⟩)
set_option maxRecDepth 100000 in
set_option maxHeartbeats 400000 in
theorem hp_L_profit (l : Launch) (D : va_G) (cy : Nat → ClassId) (B : Nat) (od : Nat → Option Nat) {A : AH} {z : Nat} {x0 : Int32} {Qr : Value → AH → Prop} {Qx : String → AH → Prop} (hC : CX l D cy B od yX7_profit cX7_profit 2 (some .long) rmX7_profit [.ref 0, .int x0] A z (fun v A' z' => ∃ r, v = some r ∧ Qr r A') Qx) {fs : List Value} (h0 : A 0 = some (.inr (7, fs))) (hI : ∀ r A', Qr r A' → (∃ x, r = .long x) ∧ ∃ g9, A' 238 = some (.inl (cy 1, 1, .inr (.inl g9)))) (hE : ∀ E A', Qx E A' → E ∈ [eIAE]) : CTW l D cy B od yL_profit cL_profit 4 (some .int) hhL_profit rmL_profit [.ref 0, .int x0, .ref 238] A z (HQ cy [eIAE] Qr Qx) := by
  refine CTW.of (by decide) tL_profit okL_profit (Nat.le_of_ble_eq_true rfl) (q0 := tL_profit[0]) rfl rfl ?_
  intro p e s m args below meth c X hti
  refine g_aload_n X rfl rfl ?_
  refine g_iconst X rfl (v := nI 0) (by decide) ?_
  refine g_aload_n X rfl rfl ?_
  refine g_iload_n X rfl rfl ?_
  refine gx_catchV X hti rfl lcX7_profit lmL_110 lsX7_profit hC (ci := 7) h0 rfl (rest := [.int (nI 0), .ref 238]) rfl rfl (Nat.le_of_ble_eq_true rfl) ⟨by decide, by decide⟩ ⟨Nat.le_of_ble_eq_true rfl, Nat.le_of_ble_eq_true rfl⟩ (fun E A1 hx => ?_) (fun v A1 z1 hq => ?_)
  · have hm := hE E A1 hx
    simp only [List.mem_cons, List.not_mem_nil, or_false] at hm
    subst hm
    refine ⟨11, 7, 3, 8, 0, 0, ⟨(tableOf hhL_profit).take 0, (tableOf hhL_profit)[0]'(by decide), (tableOf hhL_profit).drop 1, rfl, fun _ h => absurd h List.not_mem_nil, by decide, by decide, cl9_19, by decide, ins_eIAE, rfl⟩, by decide, Or.inr ⟨3, rfl, rfl⟩, ?_⟩
    refine g_iconst X rfl (v := nI 1) (by decide) ?_
    exact g_iret X rfl rfl rfl (Nat.le_of_ble_eq_true rfl) (Nat.le_of_ble_eq_true rfl) (Or.inr ⟨_, hx, by decide, rfl⟩)
  · obtain ⟨r, rfl, hQ⟩ := hq
    obtain ⟨⟨x, rfl⟩, g9, hg9⟩ := hI r A1 hQ
    refine g_lastN X rfl hg9 (by decide) (by decide) ?_
    refine g_goto X rfl ?_
    refine g_iconst X rfl (v := nI 0) (by decide) ?_
    exact g_iret X rfl rfl rfl (Nat.le_of_ble_eq_true rfl) (Nat.le_of_ble_eq_true rfl) (Or.inl ⟨_, A1, _, hQ, rfl, rfl, rfl⟩)
set_option maxRecDepth 100000 in
set_option maxHeartbeats 400000 in
theorem hp_L_profitTo (l : Launch) (D : va_G) (cy : Nat → ClassId) (B : Nat) (od : Nat → Option Nat) {A : AH} {z : Nat} {x0 : Int32} {Qr : Value → AH → Prop} {Qx : String → AH → Prop} (hC : CX l D cy B od yX7_profitTo cX7_profitTo 2 (some .long) rmX7_profitTo [.ref 0, .int x0] A z (fun v A' z' => ∃ r, v = some r ∧ Qr r A') Qx) {fs : List Value} (h0 : A 0 = some (.inr (7, fs))) (hI : ∀ r A', Qr r A' → (∃ x, r = .long x) ∧ ∃ g9, A' 238 = some (.inl (cy 1, 1, .inr (.inl g9)))) (hE : ∀ E A', Qx E A' → E ∈ [eIAE]) : CTW l D cy B od yL_profitTo cL_profitTo 4 (some .int) hhL_profitTo rmL_profitTo [.ref 0, .int x0, .ref 238] A z (HQ cy [eIAE] Qr Qx) := by
  refine CTW.of (by decide) tL_profitTo okL_profitTo (Nat.le_of_ble_eq_true rfl) (q0 := tL_profitTo[0]) rfl rfl ?_
  intro p e s m args below meth c X hti
  refine g_aload_n X rfl rfl ?_
  refine g_iconst X rfl (v := nI 0) (by decide) ?_
  refine g_aload_n X rfl rfl ?_
  refine g_iload_n X rfl rfl ?_
  refine gx_catchV X hti rfl lcX7_profitTo lmL_113 lsX7_profitTo hC (ci := 7) h0 rfl (rest := [.int (nI 0), .ref 238]) rfl rfl (Nat.le_of_ble_eq_true rfl) ⟨by decide, by decide⟩ ⟨Nat.le_of_ble_eq_true rfl, Nat.le_of_ble_eq_true rfl⟩ (fun E A1 hx => ?_) (fun v A1 z1 hq => ?_)
  · have hm := hE E A1 hx
    simp only [List.mem_cons, List.not_mem_nil, or_false] at hm
    subst hm
    refine ⟨11, 7, 3, 8, 0, 0, ⟨(tableOf hhL_profitTo).take 0, (tableOf hhL_profitTo)[0]'(by decide), (tableOf hhL_profitTo).drop 1, rfl, fun _ h => absurd h List.not_mem_nil, by decide, by decide, cl9_19, by decide, ins_eIAE, rfl⟩, by decide, Or.inr ⟨3, rfl, rfl⟩, ?_⟩
    refine g_iconst X rfl (v := nI 1) (by decide) ?_
    exact g_iret X rfl rfl rfl (Nat.le_of_ble_eq_true rfl) (Nat.le_of_ble_eq_true rfl) (Or.inr ⟨_, hx, by decide, rfl⟩)
  · obtain ⟨r, rfl, hQ⟩ := hq
    obtain ⟨⟨x, rfl⟩, g9, hg9⟩ := hI r A1 hQ
    refine g_lastN X rfl hg9 (by decide) (by decide) ?_
    refine g_goto X rfl ?_
    refine g_iconst X rfl (v := nI 0) (by decide) ?_
    exact g_iret X rfl rfl rfl (Nat.le_of_ble_eq_true rfl) (Nat.le_of_ble_eq_true rfl) (Or.inl ⟨_, A1, _, hQ, rfl, rfl, rfl⟩)
set_option maxRecDepth 100000 in
set_option maxHeartbeats 400000 in
theorem hp_L_prepayment (l : Launch) (D : va_G) (cy : Nat → ClassId) (B : Nat) (od : Nat → Option Nat) {A : AH} {z : Nat} {x0 : Int32} {Qr : Value → AH → Prop} {Qx : String → AH → Prop} (hC : CX l D cy B od yX7_prepayment cX7_prepayment 2 (some .int) rmX7_prepayment [.ref 0, .int x0] A z (fun v A' z' => ∃ r, v = some r ∧ Qr r A') Qx) {fs : List Value} (h0 : A 0 = some (.inr (7, fs))) (hI : ∀ r A', Qr r A' → (∃ x, r = .int x) ∧ ∃ g9, A' 238 = some (.inl (cy 1, 1, .inr (.inl g9)))) (hE : ∀ E A', Qx E A' → E ∈ [eIAE, eNSE]) : CTW l D cy B od yL_prepayment cL_prepayment 4 (some .int) hhL_prepayment rmL_prepayment [.ref 0, .int x0, .ref 238] A z (HQ cy [eIAE, eNSE] Qr Qx) := by
  refine CTW.of (by decide) tL_prepayment okL_prepayment (Nat.le_of_ble_eq_true rfl) (q0 := tL_prepayment[0]) rfl rfl ?_
  intro p e s m args below meth c X hti
  refine g_aload_n X rfl rfl ?_
  refine g_iconst X rfl (v := nI 0) (by decide) ?_
  refine g_aload_n X rfl rfl ?_
  refine g_iload_n X rfl rfl ?_
  refine gx_catchV X hti rfl lcX7_prepayment lmL_116 lsX7_prepayment hC (ci := 7) h0 rfl (rest := [.int (nI 0), .ref 238]) rfl rfl (Nat.le_of_ble_eq_true rfl) ⟨by decide, by decide⟩ ⟨Nat.le_of_ble_eq_true rfl, Nat.le_of_ble_eq_true rfl⟩ (fun E A1 hx => ?_) (fun v A1 z1 hq => ?_)
  · have hm := hE E A1 hx
    simp only [List.mem_cons, List.not_mem_nil, or_false] at hm
    rcases hm with rfl | rfl
    · refine ⟨12, 8, 3, 9, 0, 0, ⟨(tableOf hhL_prepayment).take 0, (tableOf hhL_prepayment)[0]'(by decide), (tableOf hhL_prepayment).drop 1, rfl, fun _ h => absurd h List.not_mem_nil, by decide, by decide, cl9_19, by decide, ins_eIAE, rfl⟩, by decide, Or.inr ⟨3, rfl, rfl⟩, ?_⟩
      refine g_iconst X rfl (v := nI 1) (by decide) ?_
      exact g_iret X rfl rfl rfl (Nat.le_of_ble_eq_true rfl) (Nat.le_of_ble_eq_true rfl) (Or.inr ⟨_, hx, by decide, rfl⟩)
    · refine ⟨15, 11, 3, 12, 0, 0, ⟨(tableOf hhL_prepayment).take 1, (tableOf hhL_prepayment)[1]'(by decide), (tableOf hhL_prepayment).drop 2, rfl, List.forall_mem_cons.mpr ⟨⟨by decide, _, cl9_19, by decide, by decide⟩, fun _ h => absurd h List.not_mem_nil⟩, by decide, by decide, cl9_86, by decide, ins_eNSE, rfl⟩, by decide, Or.inr ⟨3, rfl, rfl⟩, ?_⟩
      refine g_iconst X rfl (v := nI 2) (by decide) ?_
      exact g_iret X rfl rfl rfl (Nat.le_of_ble_eq_true rfl) (Nat.le_of_ble_eq_true rfl) (Or.inr ⟨_, hx, by decide, rfl⟩)
  · obtain ⟨r, rfl, hQ⟩ := hq
    obtain ⟨⟨x, rfl⟩, g9, hg9⟩ := hI r A1 hQ
    refine g_i2l X rfl ?_
    refine g_lastN X rfl hg9 (by decide) (by decide) ?_
    refine g_goto X rfl ?_
    refine g_iconst X rfl (v := nI 0) (by decide) ?_
    exact g_iret X rfl rfl rfl (Nat.le_of_ble_eq_true rfl) (Nat.le_of_ble_eq_true rfl) (Or.inl ⟨_, A1, _, hQ, rfl, rfl, rfl⟩)
set_option maxRecDepth 100000 in
set_option maxHeartbeats 400000 in
theorem hp_L_recomputed (l : Launch) (D : va_G) (cy : Nat → ClassId) (B : Nat) (od : Nat → Option Nat) {A : AH} {z : Nat} {x0 : Int32} {Qr : Value → AH → Prop} {Qx : String → AH → Prop} (hC : CX l D cy B od yX7_recomputed cX7_recomputed 2 (some .int) rmX7_recomputed [.ref 0, .int x0] A z (fun v A' z' => ∃ r, v = some r ∧ Qr r A') Qx) {fs : List Value} (h0 : A 0 = some (.inr (7, fs))) (hI : ∀ r A', Qr r A' → (∃ x, r = .int x) ∧ ∃ g9, A' 238 = some (.inl (cy 1, 1, .inr (.inl g9)))) (hE : ∀ E A', Qx E A' → E ∈ [eIAE]) : CTW l D cy B od yL_recomputed cL_recomputed 4 (some .int) hhL_recomputed rmL_recomputed [.ref 0, .int x0, .ref 238] A z (HQ cy [eIAE] Qr Qx) := by
  refine CTW.of (by decide) tL_recomputed okL_recomputed (Nat.le_of_ble_eq_true rfl) (q0 := tL_recomputed[0]) rfl rfl ?_
  intro p e s m args below meth c X hti
  refine g_aload_n X rfl rfl ?_
  refine g_iconst X rfl (v := nI 0) (by decide) ?_
  refine g_aload_n X rfl rfl ?_
  refine g_iload_n X rfl rfl ?_
  refine gx_catchV X hti rfl lcX7_recomputed lmL_119 lsX7_recomputed hC (ci := 7) h0 rfl (rest := [.int (nI 0), .ref 238]) rfl rfl (Nat.le_of_ble_eq_true rfl) ⟨by decide, by decide⟩ ⟨Nat.le_of_ble_eq_true rfl, Nat.le_of_ble_eq_true rfl⟩ (fun E A1 hx => ?_) (fun v A1 z1 hq => ?_)
  · have hm := hE E A1 hx
    simp only [List.mem_cons, List.not_mem_nil, or_false] at hm
    subst hm
    refine ⟨12, 8, 3, 9, 0, 0, ⟨(tableOf hhL_recomputed).take 0, (tableOf hhL_recomputed)[0]'(by decide), (tableOf hhL_recomputed).drop 1, rfl, fun _ h => absurd h List.not_mem_nil, by decide, by decide, cl9_19, by decide, ins_eIAE, rfl⟩, by decide, Or.inr ⟨3, rfl, rfl⟩, ?_⟩
    refine g_iconst X rfl (v := nI 1) (by decide) ?_
    exact g_iret X rfl rfl rfl (Nat.le_of_ble_eq_true rfl) (Nat.le_of_ble_eq_true rfl) (Or.inr ⟨_, hx, by decide, rfl⟩)
  · obtain ⟨r, rfl, hQ⟩ := hq
    obtain ⟨⟨x, rfl⟩, g9, hg9⟩ := hI r A1 hQ
    refine g_i2l X rfl ?_
    refine g_lastN X rfl hg9 (by decide) (by decide) ?_
    refine g_goto X rfl ?_
    refine g_iconst X rfl (v := nI 0) (by decide) ?_
    exact g_iret X rfl rfl rfl (Nat.le_of_ble_eq_true rfl) (Nat.le_of_ble_eq_true rfl) (Or.inl ⟨_, A1, _, hQ, rfl, rfl, rfl⟩)
set_option maxRecDepth 100000 in
set_option maxHeartbeats 400000 in
theorem hp_L_correction (l : Launch) (D : va_G) (cy : Nat → ClassId) (B : Nat) (od : Nat → Option Nat) {A : AH} {z : Nat} {x0 : Int32} {Qr : Value → AH → Prop} {Qx : String → AH → Prop} (hC : CX l D cy B od yX7_correction cX7_correction 2 (some .int) rmX7_correction [.ref 0, .int x0] A z (fun v A' z' => ∃ r, v = some r ∧ Qr r A') Qx) {fs : List Value} (h0 : A 0 = some (.inr (7, fs))) (hI : ∀ r A', Qr r A' → (∃ x, r = .int x) ∧ ∃ g9, A' 238 = some (.inl (cy 1, 1, .inr (.inl g9)))) (hE : ∀ E A', Qx E A' → E ∈ [eIAE, eNSE]) : CTW l D cy B od yL_correction cL_correction 4 (some .int) hhL_correction rmL_correction [.ref 0, .int x0, .ref 238] A z (HQ cy [eIAE, eNSE] Qr Qx) := by
  refine CTW.of (by decide) tL_correction okL_correction (Nat.le_of_ble_eq_true rfl) (q0 := tL_correction[0]) rfl rfl ?_
  intro p e s m args below meth c X hti
  refine g_aload_n X rfl rfl ?_
  refine g_iconst X rfl (v := nI 0) (by decide) ?_
  refine g_aload_n X rfl rfl ?_
  refine g_iload_n X rfl rfl ?_
  refine gx_catchV X hti rfl lcX7_correction lmL_122 lsX7_correction hC (ci := 7) h0 rfl (rest := [.int (nI 0), .ref 238]) rfl rfl (Nat.le_of_ble_eq_true rfl) ⟨by decide, by decide⟩ ⟨Nat.le_of_ble_eq_true rfl, Nat.le_of_ble_eq_true rfl⟩ (fun E A1 hx => ?_) (fun v A1 z1 hq => ?_)
  · have hm := hE E A1 hx
    simp only [List.mem_cons, List.not_mem_nil, or_false] at hm
    rcases hm with rfl | rfl
    · refine ⟨12, 8, 3, 9, 0, 0, ⟨(tableOf hhL_correction).take 0, (tableOf hhL_correction)[0]'(by decide), (tableOf hhL_correction).drop 1, rfl, fun _ h => absurd h List.not_mem_nil, by decide, by decide, cl9_19, by decide, ins_eIAE, rfl⟩, by decide, Or.inr ⟨3, rfl, rfl⟩, ?_⟩
      refine g_iconst X rfl (v := nI 1) (by decide) ?_
      exact g_iret X rfl rfl rfl (Nat.le_of_ble_eq_true rfl) (Nat.le_of_ble_eq_true rfl) (Or.inr ⟨_, hx, by decide, rfl⟩)
    · refine ⟨15, 11, 3, 12, 0, 0, ⟨(tableOf hhL_correction).take 1, (tableOf hhL_correction)[1]'(by decide), (tableOf hhL_correction).drop 2, rfl, List.forall_mem_cons.mpr ⟨⟨by decide, _, cl9_19, by decide, by decide⟩, fun _ h => absurd h List.not_mem_nil⟩, by decide, by decide, cl9_86, by decide, ins_eNSE, rfl⟩, by decide, Or.inr ⟨3, rfl, rfl⟩, ?_⟩
      refine g_iconst X rfl (v := nI 2) (by decide) ?_
      exact g_iret X rfl rfl rfl (Nat.le_of_ble_eq_true rfl) (Nat.le_of_ble_eq_true rfl) (Or.inr ⟨_, hx, by decide, rfl⟩)
  · obtain ⟨r, rfl, hQ⟩ := hq
    obtain ⟨⟨x, rfl⟩, g9, hg9⟩ := hI r A1 hQ
    refine g_i2l X rfl ?_
    refine g_lastN X rfl hg9 (by decide) (by decide) ?_
    refine g_goto X rfl ?_
    refine g_iconst X rfl (v := nI 0) (by decide) ?_
    exact g_iret X rfl rfl rfl (Nat.le_of_ble_eq_true rfl) (Nat.le_of_ble_eq_true rfl) (Or.inl ⟨_, A1, _, hQ, rfl, rfl, rfl⟩)
set_option maxRecDepth 100000 in
set_option maxHeartbeats 400000 in
theorem hp_L_settlement (l : Launch) (D : va_G) (cy : Nat → ClassId) (B : Nat) (od : Nat → Option Nat) {A : AH} {z : Nat} {Qr : Value → AH → Prop} {Qx : String → AH → Prop} (hC : CX l D cy B od yX7_settlement cX7_settlement 1 (some .long) rmX7_settlement [.ref 0] A z (fun v A' z' => ∃ r, v = some r ∧ Qr r A') Qx) {fs : List Value} (h0 : A 0 = some (.inr (7, fs))) (hI : ∀ r A', Qr r A' → (∃ x, r = .long x) ∧ ∃ g9, A' 238 = some (.inl (cy 1, 1, .inr (.inl g9)))) (hE : ∀ E A', Qx E A' → E ∈ [eISE]) : CTW l D cy B od yL_settlement cL_settlement 3 (some .int) hhL_settlement rmL_settlement [.ref 0, .ref 238] A z (HQ cy [eISE] Qr Qx) := by
  refine CTW.of (by decide) tL_settlement okL_settlement (Nat.le_of_ble_eq_true rfl) (q0 := tL_settlement[0]) rfl rfl ?_
  intro p e s m args below meth c X hti
  refine g_aload_n X rfl rfl ?_
  refine g_iconst X rfl (v := nI 0) (by decide) ?_
  refine g_aload_n X rfl rfl ?_
  refine gx_catchV X hti rfl lcX7_settlement lmL_125 lsX7_settlement hC (ci := 7) h0 rfl (rest := [.int (nI 0), .ref 238]) rfl rfl (Nat.le_of_ble_eq_true rfl) ⟨by decide, by decide⟩ ⟨Nat.le_of_ble_eq_true rfl, Nat.le_of_ble_eq_true rfl⟩ (fun E A1 hx => ?_) (fun v A1 z1 hq => ?_)
  · have hm := hE E A1 hx
    simp only [List.mem_cons, List.not_mem_nil, or_false] at hm
    subst hm
    refine ⟨10, 6, 2, 7, 0, 0, ⟨(tableOf hhL_settlement).take 0, (tableOf hhL_settlement)[0]'(by decide), (tableOf hhL_settlement).drop 1, rfl, fun _ h => absurd h List.not_mem_nil, by decide, by decide, cl9_13, by decide, ins_eISE, rfl⟩, by decide, Or.inr ⟨2, rfl, rfl⟩, ?_⟩
    refine g_iconst X rfl (v := nI 1) (by decide) ?_
    exact g_iret X rfl rfl rfl (Nat.le_of_ble_eq_true rfl) (Nat.le_of_ble_eq_true rfl) (Or.inr ⟨_, hx, by decide, rfl⟩)
  · obtain ⟨r, rfl, hQ⟩ := hq
    obtain ⟨⟨x, rfl⟩, g9, hg9⟩ := hI r A1 hQ
    refine g_lastN X rfl hg9 (by decide) (by decide) ?_
    refine g_goto X rfl ?_
    refine g_iconst X rfl (v := nI 0) (by decide) ?_
    exact g_iret X rfl rfl rfl (Nat.le_of_ble_eq_true rfl) (Nat.le_of_ble_eq_true rfl) (Or.inl ⟨_, A1, _, hQ, rfl, rfl, rfl⟩)
set_option maxRecDepth 100000 in
set_option maxHeartbeats 400000 in
theorem hp_L_effectiveRate (l : Launch) (D : va_G) (cy : Nat → ClassId) (B : Nat) (od : Nat → Option Nat) {A : AH} {z : Nat} {Qr : Value → AH → Prop} {Qx : String → AH → Prop} (hC : CX l D cy B od yX7_effectiveRate cX7_effectiveRate 3 (some .double) rmX7_effectiveRate [.ref 0] A z (fun v A' z' => ∃ r, v = some r ∧ Qr r A') Qx) {fs : List Value} (h0 : A 0 = some (.inr (7, fs))) (hI : ∀ r A', Qr r A' → (∃ x, r = .double x) ∧ ∃ g9, A' 239 = some (.inl (cy 3, 1, .inr (.inr (.inr (.inl g9)))))) (hE : ∀ E A', Qx E A' → E ∈ [eNSE]) : CTW l D cy B od yL_effectiveRate cL_effectiveRate 3 (some .int) hhL_effectiveRate rmL_effectiveRate [.ref 0, .ref 239] A z (HQD cy [eNSE] Qr Qx) := by
  refine CTW.of (by decide) tL_effectiveRate okL_effectiveRate (Nat.le_of_ble_eq_true rfl) (q0 := tL_effectiveRate[0]) rfl rfl ?_
  intro p e s m args below meth c X hti
  refine g_aload_n X rfl rfl ?_
  refine g_iconst X rfl (v := nI 0) (by decide) ?_
  refine g_aload_n X rfl rfl ?_
  refine gx_catchV X hti rfl lcX7_effectiveRate lmL_129 lsX7_effectiveRate hC (ci := 7) h0 rfl (rest := [.int (nI 0), .ref 239]) rfl rfl (Nat.le_of_ble_eq_true rfl) ⟨by decide, by decide⟩ ⟨Nat.le_of_ble_eq_true rfl, Nat.le_of_ble_eq_true rfl⟩ (fun E A1 hx => ?_) (fun v A1 z1 hq => ?_)
  · have hm := hE E A1 hx
    simp only [List.mem_cons, List.not_mem_nil, or_false] at hm
    subst hm
    refine ⟨10, 6, 2, 7, 0, 0, ⟨(tableOf hhL_effectiveRate).take 0, (tableOf hhL_effectiveRate)[0]'(by decide), (tableOf hhL_effectiveRate).drop 1, rfl, fun _ h => absurd h List.not_mem_nil, by decide, by decide, cl9_86, by decide, ins_eNSE, rfl⟩, by decide, Or.inr ⟨2, rfl, rfl⟩, ?_⟩
    refine g_iconst X rfl (v := nI 1) (by decide) ?_
    exact g_iret X rfl rfl rfl (Nat.le_of_ble_eq_true rfl) (Nat.le_of_ble_eq_true rfl) (Or.inr ⟨_, hx, by decide, rfl⟩)
  · obtain ⟨r, rfl, hQ⟩ := hq
    obtain ⟨⟨x, rfl⟩, g9, hg9⟩ := hI r A1 hQ
    refine g_dast X rfl hg9 (vp_in_nI (by decide) (by decide)) ?_
    refine g_goto X rfl ?_
    refine g_iconst X rfl (v := nI 0) (by decide) ?_
    exact g_iret X rfl rfl rfl (Nat.le_of_ble_eq_true rfl) (Nat.le_of_ble_eq_true rfl) (Or.inl ⟨_, A1, _, hQ, rfl, rfl, rfl⟩)
set_option maxRecDepth 100000 in
set_option maxHeartbeats 400000 in
theorem hp_L_whatIf (l : Launch) (D : va_G) (cy : Nat → ClassId) (B : Nat) (od : Nat → Option Nat) {A : AH} {z : Nat} {x0 x1 x2 : Int32} {Qr : Value → AH → Prop} {Qx : String → AH → Prop} (hC : CX l D cy B od yX7_whatIf cX7_whatIf 6 (some .long) rmX7_whatIf [.ref 0, .int x0, .int x1, .int x2] A z (fun v A' z' => ∃ r, v = some r ∧ Qr r A') Qx) {fs : List Value} (h0 : A 0 = some (.inr (7, fs))) (hI : ∀ r A', Qr r A' → (∃ x, r = .long x) ∧ ∃ g9, A' 238 = some (.inl (cy 1, 1, .inr (.inl g9)))) (hE : ∀ E A', Qx E A' → E ∈ [eIAE]) : CTW l D cy B od yL_whatIf cL_whatIf 6 (some .int) hhL_whatIf rmL_whatIf [.ref 0, .int x0, .int x1, .int x2, .ref 238] A z (HQ cy [eIAE] Qr Qx) := by
  refine CTW.of (by decide) tL_whatIf okL_whatIf (Nat.le_of_ble_eq_true rfl) (q0 := tL_whatIf[0]) rfl rfl ?_
  intro p e s m args below meth c X hti
  refine g_aload X rfl rfl ?_
  refine g_iconst X rfl (v := nI 0) (by decide) ?_
  refine g_aload_n X rfl rfl ?_
  refine g_iload_n X rfl rfl ?_
  refine g_iload_n X rfl rfl ?_
  refine g_iload_n X rfl rfl ?_
  refine gx_catchV X hti rfl lcX7_whatIf lmL_133 lsX7_whatIf hC (ci := 7) h0 rfl (rest := [.int (nI 0), .ref 238]) rfl rfl (Nat.le_of_ble_eq_true rfl) ⟨by decide, by decide⟩ ⟨Nat.le_of_ble_eq_true rfl, Nat.le_of_ble_eq_true rfl⟩ (fun E A1 hx => ?_) (fun v A1 z1 hq => ?_)
  · have hm := hE E A1 hx
    simp only [List.mem_cons, List.not_mem_nil, or_false] at hm
    subst hm
    refine ⟨14, 9, 5, 10, 0, 0, ⟨(tableOf hhL_whatIf).take 0, (tableOf hhL_whatIf)[0]'(by decide), (tableOf hhL_whatIf).drop 1, rfl, fun _ h => absurd h List.not_mem_nil, by decide, by decide, cl9_19, by decide, ins_eIAE, rfl⟩, by decide, Or.inl rfl, ?_⟩
    refine g_iconst X rfl (v := nI 1) (by decide) ?_
    exact g_iret X rfl rfl rfl (Nat.le_of_ble_eq_true rfl) (Nat.le_of_ble_eq_true rfl) (Or.inr ⟨_, hx, by decide, rfl⟩)
  · obtain ⟨r, rfl, hQ⟩ := hq
    obtain ⟨⟨x, rfl⟩, g9, hg9⟩ := hI r A1 hQ
    refine g_lastN X rfl hg9 (by decide) (by decide) ?_
    refine g_goto X rfl ?_
    refine g_iconst X rfl (v := nI 0) (by decide) ?_
    exact g_iret X rfl rfl rfl (Nat.le_of_ble_eq_true rfl) (Nat.le_of_ble_eq_true rfl) (Or.inl ⟨_, A1, _, hQ, rfl, rfl, rfl⟩)
set_option maxRecDepth 100000 in
set_option maxHeartbeats 400000 in
theorem hp_L_neededIncome (l : Launch) (D : va_G) (cy : Nat → ClassId) (B : Nat) (od : Nat → Option Nat) {A : AH} {z : Nat} {x0 : Int32} {Qr : Value → AH → Prop} {Qx : String → AH → Prop} (hC : CX l D cy B od yX7_neededIncome cX7_neededIncome 8 (some .int) rmX7_neededIncome [.ref 0, .int x0] A z (fun v A' z' => ∃ r, v = some r ∧ Qr r A') Qx) {fs : List Value} (h0 : A 0 = some (.inr (7, fs))) (hI : ∀ r A', Qr r A' → (∃ x, r = .int x) ∧ ∃ g9, A' 238 = some (.inl (cy 1, 1, .inr (.inl g9)))) (hE : ∀ E A', Qx E A' → E ∈ [eIAE, eNSE]) : CTW l D cy B od yL_neededIncome cL_neededIncome 4 (some .int) hhL_neededIncome rmL_neededIncome [.ref 0, .int x0, .ref 238] A z (HQ cy [eIAE, eNSE] Qr Qx) := by
  refine CTW.of (by decide) tL_neededIncome okL_neededIncome (Nat.le_of_ble_eq_true rfl) (q0 := tL_neededIncome[0]) rfl rfl ?_
  intro p e s m args below meth c X hti
  refine g_aload_n X rfl rfl ?_
  refine g_iconst X rfl (v := nI 0) (by decide) ?_
  refine g_aload_n X rfl rfl ?_
  refine g_iload_n X rfl rfl ?_
  refine gx_catchV X hti rfl lcX7_neededIncome lmL_136 lsX7_neededIncome hC (ci := 7) h0 rfl (rest := [.int (nI 0), .ref 238]) rfl rfl (Nat.le_of_ble_eq_true rfl) ⟨by decide, by decide⟩ ⟨Nat.le_of_ble_eq_true rfl, Nat.le_of_ble_eq_true rfl⟩ (fun E A1 hx => ?_) (fun v A1 z1 hq => ?_)
  · have hm := hE E A1 hx
    simp only [List.mem_cons, List.not_mem_nil, or_false] at hm
    rcases hm with rfl | rfl
    · refine ⟨12, 8, 3, 9, 0, 0, ⟨(tableOf hhL_neededIncome).take 0, (tableOf hhL_neededIncome)[0]'(by decide), (tableOf hhL_neededIncome).drop 1, rfl, fun _ h => absurd h List.not_mem_nil, by decide, by decide, cl9_19, by decide, ins_eIAE, rfl⟩, by decide, Or.inr ⟨3, rfl, rfl⟩, ?_⟩
      refine g_iconst X rfl (v := nI 1) (by decide) ?_
      exact g_iret X rfl rfl rfl (Nat.le_of_ble_eq_true rfl) (Nat.le_of_ble_eq_true rfl) (Or.inr ⟨_, hx, by decide, rfl⟩)
    · refine ⟨15, 11, 3, 12, 0, 0, ⟨(tableOf hhL_neededIncome).take 1, (tableOf hhL_neededIncome)[1]'(by decide), (tableOf hhL_neededIncome).drop 2, rfl, List.forall_mem_cons.mpr ⟨⟨by decide, _, cl9_19, by decide, by decide⟩, fun _ h => absurd h List.not_mem_nil⟩, by decide, by decide, cl9_86, by decide, ins_eNSE, rfl⟩, by decide, Or.inr ⟨3, rfl, rfl⟩, ?_⟩
      refine g_iconst X rfl (v := nI 2) (by decide) ?_
      exact g_iret X rfl rfl rfl (Nat.le_of_ble_eq_true rfl) (Nat.le_of_ble_eq_true rfl) (Or.inr ⟨_, hx, by decide, rfl⟩)
  · obtain ⟨r, rfl, hQ⟩ := hq
    obtain ⟨⟨x, rfl⟩, g9, hg9⟩ := hI r A1 hQ
    refine g_i2l X rfl ?_
    refine g_lastN X rfl hg9 (by decide) (by decide) ?_
    refine g_goto X rfl ?_
    refine g_iconst X rfl (v := nI 0) (by decide) ?_
    exact g_iret X rfl rfl rfl (Nat.le_of_ble_eq_true rfl) (Nat.le_of_ble_eq_true rfl) (Or.inl ⟨_, A1, _, hQ, rfl, rfl, rfl⟩)
set_option maxRecDepth 100000 in
set_option maxHeartbeats 400000 in
theorem hp_L_balance (l : Launch) (D : va_G) (cy : Nat → ClassId) (B : Nat) (od : Nat → Option Nat) {A : AH} {z : Nat} {x0 : Int32} {Qr : Value → AH → Prop} {Qx : String → AH → Prop} (hC : CX l D cy B od yX7_balance cX7_balance 2 (some .long) rmX7_balance [.ref 0, .int x0] A z (fun v A' z' => ∃ r, v = some r ∧ Qr r A') Qx) {fs : List Value} (h0 : A 0 = some (.inr (7, fs))) (hI : ∀ r A', Qr r A' → (∃ x, r = .long x) ∧ ∃ g9, A' 238 = some (.inl (cy 1, 1, .inr (.inl g9)))) (hE : ∀ E A', Qx E A' → E ∈ [eIAE]) : CTW l D cy B od yL_balance cL_balance 4 (some .int) hhL_balance rmL_balance [.ref 0, .int x0, .ref 238] A z (HQ cy [eIAE] Qr Qx) := by
  refine CTW.of (by decide) tL_balance okL_balance (Nat.le_of_ble_eq_true rfl) (q0 := tL_balance[0]) rfl rfl ?_
  intro p e s m args below meth c X hti
  refine g_aload_n X rfl rfl ?_
  refine g_iconst X rfl (v := nI 0) (by decide) ?_
  refine g_aload_n X rfl rfl ?_
  refine g_iload_n X rfl rfl ?_
  refine gx_catchV X hti rfl lcX7_balance lmL_139 lsX7_balance hC (ci := 7) h0 rfl (rest := [.int (nI 0), .ref 238]) rfl rfl (Nat.le_of_ble_eq_true rfl) ⟨by decide, by decide⟩ ⟨Nat.le_of_ble_eq_true rfl, Nat.le_of_ble_eq_true rfl⟩ (fun E A1 hx => ?_) (fun v A1 z1 hq => ?_)
  · have hm := hE E A1 hx
    simp only [List.mem_cons, List.not_mem_nil, or_false] at hm
    subst hm
    refine ⟨11, 7, 3, 8, 0, 0, ⟨(tableOf hhL_balance).take 0, (tableOf hhL_balance)[0]'(by decide), (tableOf hhL_balance).drop 1, rfl, fun _ h => absurd h List.not_mem_nil, by decide, by decide, cl9_19, by decide, ins_eIAE, rfl⟩, by decide, Or.inr ⟨3, rfl, rfl⟩, ?_⟩
    refine g_iconst X rfl (v := nI 1) (by decide) ?_
    exact g_iret X rfl rfl rfl (Nat.le_of_ble_eq_true rfl) (Nat.le_of_ble_eq_true rfl) (Or.inr ⟨_, hx, by decide, rfl⟩)
  · obtain ⟨r, rfl, hQ⟩ := hq
    obtain ⟨⟨x, rfl⟩, g9, hg9⟩ := hI r A1 hQ
    refine g_lastN X rfl hg9 (by decide) (by decide) ?_
    refine g_goto X rfl ?_
    refine g_iconst X rfl (v := nI 0) (by decide) ?_
    exact g_iret X rfl rfl rfl (Nat.le_of_ble_eq_true rfl) (Nat.le_of_ble_eq_true rfl) (Or.inl ⟨_, A1, _, hQ, rfl, rfl, rfl⟩)
