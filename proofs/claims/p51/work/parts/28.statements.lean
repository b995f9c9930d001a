/-! 28: the reader: brackets, rooms -/
set_option maxRecDepth 100000 in
set_option maxHeartbeats 400000 in
theorem cm_X5_readBracket (l : Launch) (D : va_G) (cy : Nat → ClassId) (B : Nat) (od : Nat → Option Nat) {A : AH} {t len : Nat} {tx : Nat → Int32} {u : PS} (hP : PsA cy A t len tx u) (hW : PsW len u) (hlen : len ≤ 400) (ht : t = 4 ∨ t = 11) : CM l D cy B od yX5_readBracket cX5_readBracket 3 (some .boolean) rmX5_readBracket [.ref 2] A (fun v A' => v = some (.int (bI (rdBracket tx len u).1)) ∧ PFr A A' t ∧ PsA cy A' t len tx (rdBracket tx len u).2) := by
  intro z
  refine CT.of (by decide) tX5_readBracket okX5_readBracket (Nat.le_of_ble_eq_true rfl) (q0 := tX5_readBracket[0]) rfl rfl ?_
  intro p e s m args below meth c X _
  have hF := PFr.refl A t
  have hk := hW.1
  have hz5 := hW.2.1
  have hr6 := hW.2.2
  obtain ⟨hr, htx, hS9, hR9⟩ := id hP
  obtain ⟨hS, hS0, hS1⟩ := id hS9
  obtain ⟨hR, hR0, hR1, hR2⟩ := id hR9
  refine g_aload_n X rfl rfl ?_
  refine g_get X rfl flX5_18 (ci := 5) rfl (by (repeat (first | exact hr | exact upA_eq | refine (upA_ne (by omega)).trans ?_))) rfl ?_
  refine g_get X rfl flX5_121 (ci := 4) rfl (by (repeat (first | exact hS | exact upA_eq | refine (upA_ne (by omega)).trans ?_))) rfl ?_
  refine g_iconst X rfl (v := nI 5) (by decide) ?_
  first | refine g_ic_ltN X rfl (by omega) (by omega) (fun h1 => ?_) (fun h1 => ?_) | refine g_icmp_lt X rfl (fun h1 => ?_) (fun h1 => ?_)
  · refine g_aload_n X rfl rfl ?_
    refine g_mV X rfl lcX5_nextToken lmX5_26 lsX5_nextToken (cm_X5_nextToken l D cy B od (k := u.1) (fl := u.2.1) hr htx hlen hk.1) (ci := 5) (by (repeat (first | exact hr | exact upA_eq | refine (upA_ne (by omega)).trans ?_))) rfl rfl rfl (Nat.le_of_ble_eq_true rfl) ⟨⟨by decide, by decide⟩, rfl, rfl⟩ ⟨Nat.le_of_ble_eq_true rfl, Nat.le_of_ble_eq_true rfl⟩ (fun v2 A2 q2 => ?_)
    obtain ⟨rfl, rfl⟩ := q2
    have hP := PsA.to (s2 := (tokN tx len (u.1), u.2.1, u.2.2.1, u.2.2.2)) (PsA.k (k2 := tokN tx len (u.1)) (fl2 := u.2.1) ht hP) rfl
    have hF := hF.k (x := rdE t len (tokN tx len (u.1)) (u.2.1))
    have hk := tok_le (tx := tx) hk.1
    obtain ⟨hr, htx, hS9, hR9⟩ := id hP
    obtain ⟨hS, hS0, hS1⟩ := id hS9
    obtain ⟨hR, hR0, hR1, hR2⟩ := id hR9
    refine g_aload_n X rfl rfl ?_
    refine g_aload_n X rfl rfl ?_
    refine g_get X rfl flX5_18 (ci := 5) rfl (by (repeat (first | exact hr | exact upA_eq | refine (upA_ne (by omega)).trans ?_))) rfl ?_
    refine g_mVN X rfl lcX4_lastLimit lnX5_124 lsX4_lastLimit (cm_X4_lastLimit l D cy B od (Z := u.2.2.1) hS9 hz5) (ci := 4) (by (repeat (first | exact hS | exact upA_eq | refine (upA_ne (by omega)).trans ?_))) rfl rfl rfl (Nat.le_of_ble_eq_true rfl) ⟨⟨by decide, by decide⟩, rfl, rfl⟩ ⟨Nat.le_of_ble_eq_true rfl, Nat.le_of_ble_eq_true rfl⟩ (fun v3 A3 q3 => ?_)
    obtain ⟨rfl, rfl⟩ := q3
    refine g_iconst X rfl (v := nI 1) (by decide) ?_
    refine g_iadd X rfl ?_
    refine g_ldc X rfl kcX5_128 ?_
    refine g_mV X rfl lcX5_takeNumber lmX5_103 lsX5_takeNumber (cm_X5_takeNumber l D cy B od (k := tokN tx len u.1) (fl := u.2.1) (lo := lastL u.2.2.1 + nI 1) (hi := nI 99999999) hr htx hlen hk.1) (ci := 5) (by (repeat (first | exact hr | exact upA_eq | refine (upA_ne (by omega)).trans ?_))) rfl rfl rfl (Nat.le_of_ble_eq_true rfl) ⟨⟨by decide, by decide⟩, rfl, rfl⟩ ⟨Nat.le_of_ble_eq_true rfl, Nat.le_of_ble_eq_true rfl⟩ (fun v4 A4 q4 => ?_)
    obtain ⟨rfl, rfl⟩ := q4
    have hP := PsA.to (s2 := (tkS tx len (tokN tx len u.1) (lastL u.2.2.1 + nI 1) (nI 99999999), u.2.1, u.2.2.1, u.2.2.2)) (PsA.k (k2 := tkS tx len (tokN tx len u.1) (lastL u.2.2.1 + nI 1) (nI 99999999)) (fl2 := u.2.1) ht hP) rfl
    have hF := hF.k (x := rdE t len (tkS tx len (tokN tx len u.1) (lastL u.2.2.1 + nI 1) (nI 99999999)) (u.2.1))
    have hk := tkS_le (tx := tx) (lo := lastL u.2.2.1 + nI 1) (hi := nI 99999999) hk.1 hk.2
    obtain ⟨hr, htx, hS9, hR9⟩ := id hP
    obtain ⟨hS, hS0, hS1⟩ := id hS9
    obtain ⟨hR, hR0, hR1, hR2⟩ := id hR9
    refine g_istore_n X rfl (by decide) ?_
    refine g_iload_n X rfl rfl ?_
    refine g_iconst X rfl (v := (-1)) (by decide) ?_
    refine g_icmp_ne X rfl (fun h5 => ?_) (fun h5 => ?_)
    · refine g_aload_n X rfl rfl ?_
      refine g_iconst X rfl (v := nI 0) (by decide) ?_
      refine g_sipush X rfl (v := nI 900) (by decide) ?_
      refine g_mV X rfl lcX5_takeNumber lmX5_103 lsX5_takeNumber (cm_X5_takeNumber l D cy B od (k := tkS tx len (tokN tx len u.1) (lastL u.2.2.1 + nI 1) (nI 99999999)) (fl := u.2.1) (lo := nI 0) (hi := nI 900) hr htx hlen hk.1) (ci := 5) (by (repeat (first | exact hr | exact upA_eq | refine (upA_ne (by omega)).trans ?_))) rfl rfl rfl (Nat.le_of_ble_eq_true rfl) ⟨⟨by decide, by decide⟩, rfl, rfl⟩ ⟨Nat.le_of_ble_eq_true rfl, Nat.le_of_ble_eq_true rfl⟩ (fun v6 A6 q6 => ?_)
      obtain ⟨rfl, rfl⟩ := q6
      have hP := PsA.to (s2 := (tkS tx len (tkS tx len (tokN tx len u.1) (lastL u.2.2.1 + nI 1) (nI 99999999)) (nI 0) (nI 900), u.2.1, u.2.2.1, u.2.2.2)) (PsA.k (k2 := tkS tx len (tkS tx len (tokN tx len u.1) (lastL u.2.2.1 + nI 1) (nI 99999999)) (nI 0) (nI 900)) (fl2 := u.2.1) ht hP) rfl
      have hF := hF.k (x := rdE t len (tkS tx len (tkS tx len (tokN tx len u.1) (lastL u.2.2.1 + nI 1) (nI 99999999)) (nI 0) (nI 900)) (u.2.1))
      have hk := tkS_le (tx := tx) (lo := nI 0) (hi := nI 900) hk.1 hk.2
      obtain ⟨hr, htx, hS9, hR9⟩ := id hP
      obtain ⟨hS, hS0, hS1⟩ := id hS9
      obtain ⟨hR, hR0, hR1, hR2⟩ := id hR9
      refine g_istore_n X rfl (by decide) ?_
      refine g_iload_n X rfl rfl ?_
      refine g_iconst X rfl (v := (-1)) (by decide) ?_
      refine g_icmp_ne X rfl (fun h7 => ?_) (fun h7 => ?_)
      · refine g_aload_n X rfl rfl ?_
        refine g_get X rfl flX5_18 (ci := 5) rfl (by (repeat (first | exact hr | exact upA_eq | refine (upA_ne (by omega)).trans ?_))) rfl ?_
        refine g_iload_n X rfl rfl ?_
        refine g_iload_n X rfl rfl ?_
        refine g_mVN X rfl lcX4_addBracket lnX5_129 lsX4_addBracket (cm_X4_addBracket l D cy B od (Z := u.2.2.1) hS9 (by omega)) (ci := 4) (by (repeat (first | exact hS | exact upA_eq | refine (upA_ne (by omega)).trans ?_))) rfl rfl rfl (Nat.le_of_ble_eq_true rfl) ⟨⟨by decide, by decide⟩, rfl, rfl⟩ ⟨Nat.le_of_ble_eq_true rfl, Nat.le_of_ble_eq_true rfl⟩ (fun v8 A8 q8 => ?_)
        obtain ⟨rfl, f5, E5⟩ := q8
        have hF : PFr A A8 t := fun k h1 h2 => (f5 k (by omega)).trans (hF k h1 h2)
        have hP : PsA cy A8 t len tx (tkS tx len (tkS tx len (tokN tx len u.1) (lastL u.2.2.1 + nI 1) (nI 99999999)) (nI 0) (nI 900), u.2.1, zAdd u.2.2.1 (tkV (tokN tx len u.1) (lastL u.2.2.1 + nI 1) (nI 99999999)) (tkV (tkS tx len (tokN tx len u.1) (lastL u.2.2.1 + nI 1) (nI 99999999)) (nI 0) (nI 900)), u.2.2.2) := ⟨(f5 _ (by omega)).trans hr, (f5 _ (by omega)).trans htx, E5, hR9.same (f5.on (by omega))⟩
        refine g_iconst X rfl (v := nI 1) (by decide) ?_
        refine g_iret X rfl rfl (by first | rfl | exact bI_nar _ | decide) (Nat.le_of_ble_eq_true rfl) (Nat.le_of_ble_eq_true rfl) ⟨rfl, ?_⟩
        first | ((have e9 : rdBracket tx len u = (false, u) := by rw [rdBracket, if_pos (by omega)]); rw [e9]; exact ⟨rfl, hF, hP⟩) | ((have e9 : rdBracket tx len u = (false, (tkS tx len (tokN tx len u.1) (lastL u.2.2.1 + nI 1) (nI 99999999), u.2)) := by rw [rdBracket, if_neg (by omega), if_pos (by assumption)]); rw [e9]; exact ⟨rfl, hF, hP⟩) | ((have e9 : rdBracket tx len u = (false, (tkS tx len (tkS tx len (tokN tx len u.1) (lastL u.2.2.1 + nI 1) (nI 99999999)) (nI 0) (nI 900), u.2)) := by rw [rdBracket, if_neg (by omega), if_neg (by assumption), rdBr2, if_pos (by assumption)]); rw [e9]; exact ⟨rfl, hF, hP⟩) | ((have e9 : rdBracket tx len u = (true, (tkS tx len (tkS tx len (tokN tx len u.1) (lastL u.2.2.1 + nI 1) (nI 99999999)) (nI 0) (nI 900), u.2.1, zAdd u.2.2.1 (tkV (tokN tx len u.1) (lastL u.2.2.1 + nI 1) (nI 99999999)) (tkV (tkS tx len (tokN tx len u.1) (lastL u.2.2.1 + nI 1) (nI 99999999)) (nI 0) (nI 900)), u.2.2.2)) := by rw [rdBracket, if_neg (by omega), if_neg (by assumption), rdBr2, if_neg (by assumption)]); rw [e9]; exact ⟨rfl, hF, hP⟩)
      · refine g_iconst X rfl (v := nI 0) (by decide) ?_
        refine g_iret X rfl rfl (by first | rfl | exact bI_nar _ | decide) (Nat.le_of_ble_eq_true rfl) (Nat.le_of_ble_eq_true rfl) ⟨rfl, ?_⟩
        first | ((have e9 : rdBracket tx len u = (false, u) := by rw [rdBracket, if_pos (by omega)]); rw [e9]; exact ⟨rfl, hF, hP⟩) | ((have e9 : rdBracket tx len u = (false, (tkS tx len (tokN tx len u.1) (lastL u.2.2.1 + nI 1) (nI 99999999), u.2)) := by rw [rdBracket, if_neg (by omega), if_pos (by assumption)]); rw [e9]; exact ⟨rfl, hF, hP⟩) | ((have e9 : rdBracket tx len u = (false, (tkS tx len (tkS tx len (tokN tx len u.1) (lastL u.2.2.1 + nI 1) (nI 99999999)) (nI 0) (nI 900), u.2)) := by rw [rdBracket, if_neg (by omega), if_neg (by assumption), rdBr2, if_pos (by assumption)]); rw [e9]; exact ⟨rfl, hF, hP⟩) | ((have e9 : rdBracket tx len u = (true, (tkS tx len (tkS tx len (tokN tx len u.1) (lastL u.2.2.1 + nI 1) (nI 99999999)) (nI 0) (nI 900), u.2.1, zAdd u.2.2.1 (tkV (tokN tx len u.1) (lastL u.2.2.1 + nI 1) (nI 99999999)) (tkV (tkS tx len (tokN tx len u.1) (lastL u.2.2.1 + nI 1) (nI 99999999)) (nI 0) (nI 900)), u.2.2.2)) := by rw [rdBracket, if_neg (by omega), if_neg (by assumption), rdBr2, if_neg (by assumption)]); rw [e9]; exact ⟨rfl, hF, hP⟩)
    · refine g_iconst X rfl (v := nI 0) (by decide) ?_
      refine g_iret X rfl rfl (by first | rfl | exact bI_nar _ | decide) (Nat.le_of_ble_eq_true rfl) (Nat.le_of_ble_eq_true rfl) ⟨rfl, ?_⟩
      first | ((have e9 : rdBracket tx len u = (false, u) := by rw [rdBracket, if_pos (by omega)]); rw [e9]; exact ⟨rfl, hF, hP⟩) | ((have e9 : rdBracket tx len u = (false, (tkS tx len (tokN tx len u.1) (lastL u.2.2.1 + nI 1) (nI 99999999), u.2)) := by rw [rdBracket, if_neg (by omega), if_pos (by assumption)]); rw [e9]; exact ⟨rfl, hF, hP⟩) | ((have e9 : rdBracket tx len u = (false, (tkS tx len (tkS tx len (tokN tx len u.1) (lastL u.2.2.1 + nI 1) (nI 99999999)) (nI 0) (nI 900), u.2)) := by rw [rdBracket, if_neg (by omega), if_neg (by assumption), rdBr2, if_pos (by assumption)]); rw [e9]; exact ⟨rfl, hF, hP⟩) | ((have e9 : rdBracket tx len u = (true, (tkS tx len (tkS tx len (tokN tx len u.1) (lastL u.2.2.1 + nI 1) (nI 99999999)) (nI 0) (nI 900), u.2.1, zAdd u.2.2.1 (tkV (tokN tx len u.1) (lastL u.2.2.1 + nI 1) (nI 99999999)) (tkV (tkS tx len (tokN tx len u.1) (lastL u.2.2.1 + nI 1) (nI 99999999)) (nI 0) (nI 900)), u.2.2.2)) := by rw [rdBracket, if_neg (by omega), if_neg (by assumption), rdBr2, if_neg (by assumption)]); rw [e9]; exact ⟨rfl, hF, hP⟩)
  · refine g_iconst X rfl (v := nI 0) (by decide) ?_
    refine g_iret X rfl rfl (by first | rfl | exact bI_nar _ | decide) (Nat.le_of_ble_eq_true rfl) (Nat.le_of_ble_eq_true rfl) ⟨rfl, ?_⟩
    first | ((have e9 : rdBracket tx len u = (false, u) := by rw [rdBracket, if_pos (by omega)]); rw [e9]; exact ⟨rfl, hF, hP⟩) | ((have e9 : rdBracket tx len u = (false, (tkS tx len (tokN tx len u.1) (lastL u.2.2.1 + nI 1) (nI 99999999), u.2)) := by rw [rdBracket, if_neg (by omega), if_pos (by assumption)]); rw [e9]; exact ⟨rfl, hF, hP⟩) | ((have e9 : rdBracket tx len u = (false, (tkS tx len (tkS tx len (tokN tx len u.1) (lastL u.2.2.1 + nI 1) (nI 99999999)) (nI 0) (nI 900), u.2)) := by rw [rdBracket, if_neg (by omega), if_neg (by assumption), rdBr2, if_pos (by assumption)]); rw [e9]; exact ⟨rfl, hF, hP⟩) | ((have e9 : rdBracket tx len u = (true, (tkS tx len (tkS tx len (tokN tx len u.1) (lastL u.2.2.1 + nI 1) (nI 99999999)) (nI 0) (nI 900), u.2.1, zAdd u.2.2.1 (tkV (tokN tx len u.1) (lastL u.2.2.1 + nI 1) (nI 99999999)) (tkV (tkS tx len (tokN tx len u.1) (lastL u.2.2.1 + nI 1) (nI 99999999)) (nI 0) (nI 900)), u.2.2.2)) := by rw [rdBracket, if_neg (by omega), if_neg (by assumption), rdBr2, if_neg (by assumption)]); rw [e9]; exact ⟨rfl, hF, hP⟩)
set_option maxRecDepth 100000 in
set_option maxHeartbeats 400000 in
theorem cm_X5_readRoom (l : Launch) (D : va_G) (cy : Nat → ClassId) (B : Nat) (od : Nat → Option Nat) {A : AH} {t len : Nat} {tx : Nat → Int32} {u : PS} (hP : PsA cy A t len tx u) (hW : PsW len u) (hlen : len ≤ 400) (ht : t = 4 ∨ t = 11) : CM l D cy B od yX5_readRoom cX5_readRoom 4 (some .boolean) rmX5_readRoom [.ref 2] A (fun v A' => v = some (.int (bI (rdRoom tx len u).1)) ∧ PFr A A' t ∧ PsA cy A' t len tx (rdRoom tx len u).2) := by
  intro z
  refine CT.of (by decide) tX5_readRoom okX5_readRoom (Nat.le_of_ble_eq_true rfl) (q0 := tX5_readRoom[0]) rfl rfl ?_
  intro p e s m args below meth c X _
  have hF := PFr.refl A t
  have hk := hW.1
  have hz5 := hW.2.1
  have hr6 := hW.2.2
  obtain ⟨hr, htx, hS9, hR9⟩ := id hP
  obtain ⟨hS, hS0, hS1⟩ := id hS9
  obtain ⟨hR, hR0, hR1, hR2⟩ := id hR9
  refine g_aload_n X rfl rfl ?_
  refine g_get X rfl flX5_18 (ci := 5) rfl (by (repeat (first | exact hr | exact upA_eq | refine (upA_ne (by omega)).trans ?_))) rfl ?_
  refine g_get X rfl flX5_133 (ci := 4) rfl (by (repeat (first | exact hS | exact upA_eq | refine (upA_ne (by omega)).trans ?_))) rfl ?_
  refine g_get X rfl flX5_137 (ci := 3) rfl (by (repeat (first | exact hR | exact upA_eq | refine (upA_ne (by omega)).trans ?_))) rfl ?_
  refine g_bipush X rfl (v := nI 6) (by decide) ?_
  first | refine g_ic_ltN X rfl (by omega) (by omega) (fun h1 => ?_) (fun h1 => ?_) | refine g_icmp_lt X rfl (fun h1 => ?_) (fun h1 => ?_)
  · refine g_aload_n X rfl rfl ?_
    refine g_mV X rfl lcX5_nextToken lmX5_26 lsX5_nextToken (cm_X5_nextToken l D cy B od (k := u.1) (fl := u.2.1) hr htx hlen hk.1) (ci := 5) (by (repeat (first | exact hr | exact upA_eq | refine (upA_ne (by omega)).trans ?_))) rfl rfl rfl (Nat.le_of_ble_eq_true rfl) ⟨⟨by decide, by decide⟩, rfl, rfl⟩ ⟨Nat.le_of_ble_eq_true rfl, Nat.le_of_ble_eq_true rfl⟩ (fun v2 A2 q2 => ?_)
    obtain ⟨rfl, rfl⟩ := q2
    have hP := PsA.to (s2 := (tokN tx len (u.1), u.2.1, u.2.2.1, u.2.2.2)) (PsA.k (k2 := tokN tx len (u.1)) (fl2 := u.2.1) ht hP) rfl
    have hF := hF.k (x := rdE t len (tokN tx len (u.1)) (u.2.1))
    have hk := tok_le (tx := tx) hk.1
    obtain ⟨hr, htx, hS9, hR9⟩ := id hP
    obtain ⟨hS, hS0, hS1⟩ := id hS9
    obtain ⟨hR, hR0, hR1, hR2⟩ := id hR9
    refine g_aload_n X rfl rfl ?_
    refine g_iconst X rfl (v := nI 1) (by decide) ?_
    refine g_sipush X rfl (v := nI 500) (by decide) ?_
    refine g_mV X rfl lcX5_takeNumber lmX5_103 lsX5_takeNumber (cm_X5_takeNumber l D cy B od (k := tokN tx len u.1) (fl := u.2.1) (lo := nI 1) (hi := nI 500) hr htx hlen hk.1) (ci := 5) (by (repeat (first | exact hr | exact upA_eq | refine (upA_ne (by omega)).trans ?_))) rfl rfl rfl (Nat.le_of_ble_eq_true rfl) ⟨⟨by decide, by decide⟩, rfl, rfl⟩ ⟨Nat.le_of_ble_eq_true rfl, Nat.le_of_ble_eq_true rfl⟩ (fun v3 A3 q3 => ?_)
    obtain ⟨rfl, rfl⟩ := q3
    have hP := PsA.to (s2 := (tkS tx len (tokN tx len u.1) (nI 1) (nI 500), u.2.1, u.2.2.1, u.2.2.2)) (PsA.k (k2 := tkS tx len (tokN tx len u.1) (nI 1) (nI 500)) (fl2 := u.2.1) ht hP) rfl
    have hF := hF.k (x := rdE t len (tkS tx len (tokN tx len u.1) (nI 1) (nI 500)) (u.2.1))
    have hk := tkS_le (tx := tx) (lo := nI 1) (hi := nI 500) hk.1 hk.2
    obtain ⟨hr, htx, hS9, hR9⟩ := id hP
    obtain ⟨hS, hS0, hS1⟩ := id hS9
    obtain ⟨hR, hR0, hR1, hR2⟩ := id hR9
    refine g_istore_n X rfl (by decide) ?_
    refine g_iload_n X rfl rfl ?_
    refine g_iconst X rfl (v := (-1)) (by decide) ?_
    refine g_icmp_ne X rfl (fun h4 => ?_) (fun h4 => ?_)
    · refine g_aload_n X rfl rfl ?_
      refine g_ldcS X rfl (j := 6) rfl ?_
      refine g_rV X rfl lcX5_isWord lmX5_70 lsX5_isWord (cr_X5_isWord l D cy B od (k := tkS tx len (tokN tx len u.1) (nI 1) (nI 500)) hr htx hlen hk.1 hk.2 (j := 6) (by decide)) (ci := 5) (by (repeat (first | exact hr | exact upA_eq | refine (upA_ne (by omega)).trans ?_))) rfl rfl rfl (Nat.le_of_ble_eq_true rfl) ⟨⟨by decide, by decide⟩, rfl, rfl⟩ ⟨Nat.le_of_ble_eq_true rfl, Nat.le_of_ble_eq_true rfl⟩ ?_
      first | refine g_if_neB X rfl (fun h5 => ?_) (fun h5 => ?_) | refine g_if_ne X rfl (fun h5 => ?_) (fun h5 => ?_)
      · refine g_aload_n X rfl rfl ?_
        refine g_mV X rfl lcX5_nextToken lmX5_26 lsX5_nextToken (cm_X5_nextToken l D cy B od (k := tkS tx len (tokN tx len u.1) (nI 1) (nI 500)) (fl := u.2.1) hr htx hlen hk.1) (ci := 5) (by (repeat (first | exact hr | exact upA_eq | refine (upA_ne (by omega)).trans ?_))) rfl rfl rfl (Nat.le_of_ble_eq_true rfl) ⟨⟨by decide, by decide⟩, rfl, rfl⟩ ⟨Nat.le_of_ble_eq_true rfl, Nat.le_of_ble_eq_true rfl⟩ (fun v6 A6 q6 => ?_)
        obtain ⟨rfl, rfl⟩ := q6
        have hP := PsA.to (s2 := (tokN tx len (tkS tx len (tokN tx len u.1) (nI 1) (nI 500)), u.2.1, u.2.2.1, u.2.2.2)) (PsA.k (k2 := tokN tx len (tkS tx len (tokN tx len u.1) (nI 1) (nI 500))) (fl2 := u.2.1) ht hP) rfl
        have hF := hF.k (x := rdE t len (tokN tx len (tkS tx len (tokN tx len u.1) (nI 1) (nI 500))) (u.2.1))
        have hk := tok_le (tx := tx) hk.1
        obtain ⟨hr, htx, hS9, hR9⟩ := id hP
        obtain ⟨hS, hS0, hS1⟩ := id hS9
        obtain ⟨hR, hR0, hR1, hR2⟩ := id hR9
        refine g_aload_n X rfl rfl ?_
        refine g_iconst X rfl (v := nI 0) (by decide) ?_
        refine g_sipush X rfl (v := nI 359) (by decide) ?_
        refine g_mV X rfl lcX5_takeNumber lmX5_103 lsX5_takeNumber (cm_X5_takeNumber l D cy B od (k := tokN tx len (tkS tx len (tokN tx len u.1) (nI 1) (nI 500))) (fl := u.2.1) (lo := nI 0) (hi := nI 359) hr htx hlen hk.1) (ci := 5) (by (repeat (first | exact hr | exact upA_eq | refine (upA_ne (by omega)).trans ?_))) rfl rfl rfl (Nat.le_of_ble_eq_true rfl) ⟨⟨by decide, by decide⟩, rfl, rfl⟩ ⟨Nat.le_of_ble_eq_true rfl, Nat.le_of_ble_eq_true rfl⟩ (fun v7 A7 q7 => ?_)
        obtain ⟨rfl, rfl⟩ := q7
        have hP := PsA.to (s2 := (tkS tx len (tokN tx len (tkS tx len (tokN tx len u.1) (nI 1) (nI 500))) (nI 0) (nI 359), u.2.1, u.2.2.1, u.2.2.2)) (PsA.k (k2 := tkS tx len (tokN tx len (tkS tx len (tokN tx len u.1) (nI 1) (nI 500))) (nI 0) (nI 359)) (fl2 := u.2.1) ht hP) rfl
        have hF := hF.k (x := rdE t len (tkS tx len (tokN tx len (tkS tx len (tokN tx len u.1) (nI 1) (nI 500))) (nI 0) (nI 359)) (u.2.1))
        have hk := tkS_le (tx := tx) (lo := nI 0) (hi := nI 359) hk.1 hk.2
        obtain ⟨hr, htx, hS9, hR9⟩ := id hP
        obtain ⟨hS, hS0, hS1⟩ := id hS9
        obtain ⟨hR, hR0, hR1, hR2⟩ := id hR9
        refine g_istore_n X rfl (by decide) ?_
        refine g_iload_n X rfl rfl ?_
        refine g_iconst X rfl (v := (-1)) (by decide) ?_
        refine g_icmp_ne X rfl (fun h8 => ?_) (fun h8 => ?_)
        · refine g_aload_n X rfl rfl ?_
          refine g_iload_n X rfl rfl ?_
          refine g_sipush X rfl (v := nI 359) (by decide) ?_
          refine g_mV X rfl lcX5_takeNumber lmX5_103 lsX5_takeNumber (cm_X5_takeNumber l D cy B od (k := tkS tx len (tokN tx len (tkS tx len (tokN tx len u.1) (nI 1) (nI 500))) (nI 0) (nI 359)) (fl := u.2.1) (lo := tkV (tokN tx len (tkS tx len (tokN tx len u.1) (nI 1) (nI 500))) (nI 0) (nI 359)) (hi := nI 359) hr htx hlen hk.1) (ci := 5) (by (repeat (first | exact hr | exact upA_eq | refine (upA_ne (by omega)).trans ?_))) rfl rfl rfl (Nat.le_of_ble_eq_true rfl) ⟨⟨by decide, by decide⟩, rfl, rfl⟩ ⟨Nat.le_of_ble_eq_true rfl, Nat.le_of_ble_eq_true rfl⟩ (fun v9 A9 q9 => ?_)
          obtain ⟨rfl, rfl⟩ := q9
          have hP := PsA.to (s2 := (tkS tx len (tkS tx len (tokN tx len (tkS tx len (tokN tx len u.1) (nI 1) (nI 500))) (nI 0) (nI 359)) (tkV (tokN tx len (tkS tx len (tokN tx len u.1) (nI 1) (nI 500))) (nI 0) (nI 359)) (nI 359), u.2.1, u.2.2.1, u.2.2.2)) (PsA.k (k2 := tkS tx len (tkS tx len (tokN tx len (tkS tx len (tokN tx len u.1) (nI 1) (nI 500))) (nI 0) (nI 359)) (tkV (tokN tx len (tkS tx len (tokN tx len u.1) (nI 1) (nI 500))) (nI 0) (nI 359)) (nI 359)) (fl2 := u.2.1) ht hP) rfl
          have hF := hF.k (x := rdE t len (tkS tx len (tkS tx len (tokN tx len (tkS tx len (tokN tx len u.1) (nI 1) (nI 500))) (nI 0) (nI 359)) (tkV (tokN tx len (tkS tx len (tokN tx len u.1) (nI 1) (nI 500))) (nI 0) (nI 359)) (nI 359)) (u.2.1))
          have hk := tkS_le (tx := tx) (lo := tkV (tokN tx len (tkS tx len (tokN tx len u.1) (nI 1) (nI 500))) (nI 0) (nI 359)) (hi := nI 359) hk.1 hk.2
          obtain ⟨hr, htx, hS9, hR9⟩ := id hP
          obtain ⟨hS, hS0, hS1⟩ := id hS9
          obtain ⟨hR, hR0, hR1, hR2⟩ := id hR9
          refine g_istore_n X rfl (by decide) ?_
          refine g_iload_n X rfl rfl ?_
          refine g_iconst X rfl (v := (-1)) (by decide) ?_
          refine g_icmp_ne X rfl (fun h10 => ?_) (fun h10 => ?_)
          · refine g_aload_n X rfl rfl ?_
            refine g_get X rfl flX5_18 (ci := 5) rfl (by (repeat (first | exact hr | exact upA_eq | refine (upA_ne (by omega)).trans ?_))) rfl ?_
            refine g_get X rfl flX5_133 (ci := 4) rfl (by (repeat (first | exact hS | exact upA_eq | refine (upA_ne (by omega)).trans ?_))) rfl ?_
            refine g_iload_n X rfl rfl ?_
            refine g_iload_n X rfl rfl ?_
            refine g_iload_n X rfl rfl ?_
            refine g_mVN X rfl lcX3_add lnX5_144 lsX3_add (cm_X3_addE l D cy B od (E := u.2.2.2) hR9 (by omega)) (ci := 3) (by (repeat (first | exact hR | exact upA_eq | refine (upA_ne (by omega)).trans ?_))) rfl rfl rfl (Nat.le_of_ble_eq_true rfl) ⟨⟨by decide, by decide⟩, rfl, rfl⟩ ⟨Nat.le_of_ble_eq_true rfl, Nat.le_of_ble_eq_true rfl⟩ (fun v11 A11 q11 => ?_)
            obtain ⟨rfl, f5, E5⟩ := q11
            have hF : PFr A A11 t := fun k h1 h2 => (f5 k (by omega)).trans (hF k h1 h2)
            have hP : PsA cy A11 t len tx (tkS tx len (tkS tx len (tokN tx len (tkS tx len (tokN tx len u.1) (nI 1) (nI 500))) (nI 0) (nI 359)) (tkV (tokN tx len (tkS tx len (tokN tx len u.1) (nI 1) (nI 500))) (nI 0) (nI 359)) (nI 359), u.2.1, u.2.2.1, rAdd u.2.2.2 (tkV (tokN tx len u.1) (nI 1) (nI 500)) (tkV (tokN tx len (tkS tx len (tokN tx len u.1) (nI 1) (nI 500))) (nI 0) (nI 359)) (tkV (tkS tx len (tokN tx len (tkS tx len (tokN tx len u.1) (nI 1) (nI 500))) (nI 0) (nI 359)) (tkV (tokN tx len (tkS tx len (tokN tx len u.1) (nI 1) (nI 500))) (nI 0) (nI 359)) (nI 359))) := ⟨(f5 _ (by omega)).trans hr, (f5 _ (by omega)).trans htx, hS9.same (f5.on (by omega)), E5⟩
            refine g_pop X rfl rfl ?_
            refine g_iconst X rfl (v := nI 1) (by decide) ?_
            refine g_iret X rfl rfl (by first | rfl | exact bI_nar _ | decide) (Nat.le_of_ble_eq_true rfl) (Nat.le_of_ble_eq_true rfl) ⟨rfl, ?_⟩
            first | ((have e9 : rdRoom tx len u = (false, u) := by rw [rdRoom, if_pos (by omega)]); rw [e9]; exact ⟨rfl, hF, hP⟩) | ((have e9 : rdRoom tx len u = (false, (tkS tx len (tokN tx len u.1) (nI 1) (nI 500), u.2)) := by rw [rdRoom, if_neg (by omega), if_pos (by assumption)]); rw [e9]; exact ⟨rfl, hF, hP⟩) | ((have e9 : rdRoom tx len u = (true, (tkS tx len (tokN tx len u.1) (nI 1) (nI 500), u.2.1, u.2.2.1, rAdd u.2.2.2 (tkV (tokN tx len u.1) (nI 1) (nI 500)) (-1) (-1))) := by rw [rdRoom, if_neg (by omega), if_neg (by assumption), rdRo2, if_neg (by first | assumption | (rw [Bool.not_eq_true]; assumption))]); rw [e9]; exact ⟨rfl, hF, hP⟩) | ((have e9 : rdRoom tx len u = (false, (tkS tx len (tokN tx len (tkS tx len (tokN tx len u.1) (nI 1) (nI 500))) (nI 0) (nI 359), u.2)) := by rw [rdRoom, if_neg (by omega), if_neg (by assumption), rdRo2, if_pos (by assumption), if_pos (by assumption)]); rw [e9]; exact ⟨rfl, hF, hP⟩) | ((have e9 : rdRoom tx len u = (false, (tkS tx len (tkS tx len (tokN tx len (tkS tx len (tokN tx len u.1) (nI 1) (nI 500))) (nI 0) (nI 359)) (tkV (tokN tx len (tkS tx len (tokN tx len u.1) (nI 1) (nI 500))) (nI 0) (nI 359)) (nI 359), u.2)) := by rw [rdRoom, if_neg (by omega), if_neg (by assumption), rdRo2, if_pos (by assumption), if_neg (by assumption), rdRo3, if_pos (by assumption)]); rw [e9]; exact ⟨rfl, hF, hP⟩) | ((have e9 : rdRoom tx len u = (true, (tkS tx len (tkS tx len (tokN tx len (tkS tx len (tokN tx len u.1) (nI 1) (nI 500))) (nI 0) (nI 359)) (tkV (tokN tx len (tkS tx len (tokN tx len u.1) (nI 1) (nI 500))) (nI 0) (nI 359)) (nI 359), u.2.1, u.2.2.1, rAdd u.2.2.2 (tkV (tokN tx len u.1) (nI 1) (nI 500)) (tkV (tokN tx len (tkS tx len (tokN tx len u.1) (nI 1) (nI 500))) (nI 0) (nI 359)) (tkV (tkS tx len (tokN tx len (tkS tx len (tokN tx len u.1) (nI 1) (nI 500))) (nI 0) (nI 359)) (tkV (tokN tx len (tkS tx len (tokN tx len u.1) (nI 1) (nI 500))) (nI 0) (nI 359)) (nI 359)))) := by rw [rdRoom, if_neg (by omega), if_neg (by assumption), rdRo2, if_pos (by assumption), if_neg (by assumption), rdRo3, if_neg (by assumption)]); rw [e9]; exact ⟨rfl, hF, hP⟩)
          · refine g_iconst X rfl (v := nI 0) (by decide) ?_
            refine g_iret X rfl rfl (by first | rfl | exact bI_nar _ | decide) (Nat.le_of_ble_eq_true rfl) (Nat.le_of_ble_eq_true rfl) ⟨rfl, ?_⟩
            first | ((have e9 : rdRoom tx len u = (false, u) := by rw [rdRoom, if_pos (by omega)]); rw [e9]; exact ⟨rfl, hF, hP⟩) | ((have e9 : rdRoom tx len u = (false, (tkS tx len (tokN tx len u.1) (nI 1) (nI 500), u.2)) := by rw [rdRoom, if_neg (by omega), if_pos (by assumption)]); rw [e9]; exact ⟨rfl, hF, hP⟩) | ((have e9 : rdRoom tx len u = (true, (tkS tx len (tokN tx len u.1) (nI 1) (nI 500), u.2.1, u.2.2.1, rAdd u.2.2.2 (tkV (tokN tx len u.1) (nI 1) (nI 500)) (-1) (-1))) := by rw [rdRoom, if_neg (by omega), if_neg (by assumption), rdRo2, if_neg (by first | assumption | (rw [Bool.not_eq_true]; assumption))]); rw [e9]; exact ⟨rfl, hF, hP⟩) | ((have e9 : rdRoom tx len u = (false, (tkS tx len (tokN tx len (tkS tx len (tokN tx len u.1) (nI 1) (nI 500))) (nI 0) (nI 359), u.2)) := by rw [rdRoom, if_neg (by omega), if_neg (by assumption), rdRo2, if_pos (by assumption), if_pos (by assumption)]); rw [e9]; exact ⟨rfl, hF, hP⟩) | ((have e9 : rdRoom tx len u = (false, (tkS tx len (tkS tx len (tokN tx len (tkS tx len (tokN tx len u.1) (nI 1) (nI 500))) (nI 0) (nI 359)) (tkV (tokN tx len (tkS tx len (tokN tx len u.1) (nI 1) (nI 500))) (nI 0) (nI 359)) (nI 359), u.2)) := by rw [rdRoom, if_neg (by omega), if_neg (by assumption), rdRo2, if_pos (by assumption), if_neg (by assumption), rdRo3, if_pos (by assumption)]); rw [e9]; exact ⟨rfl, hF, hP⟩) | ((have e9 : rdRoom tx len u = (true, (tkS tx len (tkS tx len (tokN tx len (tkS tx len (tokN tx len u.1) (nI 1) (nI 500))) (nI 0) (nI 359)) (tkV (tokN tx len (tkS tx len (tokN tx len u.1) (nI 1) (nI 500))) (nI 0) (nI 359)) (nI 359), u.2.1, u.2.2.1, rAdd u.2.2.2 (tkV (tokN tx len u.1) (nI 1) (nI 500)) (tkV (tokN tx len (tkS tx len (tokN tx len u.1) (nI 1) (nI 500))) (nI 0) (nI 359)) (tkV (tkS tx len (tokN tx len (tkS tx len (tokN tx len u.1) (nI 1) (nI 500))) (nI 0) (nI 359)) (tkV (tokN tx len (tkS tx len (tokN tx len u.1) (nI 1) (nI 500))) (nI 0) (nI 359)) (nI 359)))) := by rw [rdRoom, if_neg (by omega), if_neg (by assumption), rdRo2, if_pos (by assumption), if_neg (by assumption), rdRo3, if_neg (by assumption)]); rw [e9]; exact ⟨rfl, hF, hP⟩)
        · refine g_iconst X rfl (v := nI 0) (by decide) ?_
          refine g_iret X rfl rfl (by first | rfl | exact bI_nar _ | decide) (Nat.le_of_ble_eq_true rfl) (Nat.le_of_ble_eq_true rfl) ⟨rfl, ?_⟩
          first | ((have e9 : rdRoom tx len u = (false, u) := by rw [rdRoom, if_pos (by omega)]); rw [e9]; exact ⟨rfl, hF, hP⟩) | ((have e9 : rdRoom tx len u = (false, (tkS tx len (tokN tx len u.1) (nI 1) (nI 500), u.2)) := by rw [rdRoom, if_neg (by omega), if_pos (by assumption)]); rw [e9]; exact ⟨rfl, hF, hP⟩) | ((have e9 : rdRoom tx len u = (true, (tkS tx len (tokN tx len u.1) (nI 1) (nI 500), u.2.1, u.2.2.1, rAdd u.2.2.2 (tkV (tokN tx len u.1) (nI 1) (nI 500)) (-1) (-1))) := by rw [rdRoom, if_neg (by omega), if_neg (by assumption), rdRo2, if_neg (by first | assumption | (rw [Bool.not_eq_true]; assumption))]); rw [e9]; exact ⟨rfl, hF, hP⟩) | ((have e9 : rdRoom tx len u = (false, (tkS tx len (tokN tx len (tkS tx len (tokN tx len u.1) (nI 1) (nI 500))) (nI 0) (nI 359), u.2)) := by rw [rdRoom, if_neg (by omega), if_neg (by assumption), rdRo2, if_pos (by assumption), if_pos (by assumption)]); rw [e9]; exact ⟨rfl, hF, hP⟩) | ((have e9 : rdRoom tx len u = (false, (tkS tx len (tkS tx len (tokN tx len (tkS tx len (tokN tx len u.1) (nI 1) (nI 500))) (nI 0) (nI 359)) (tkV (tokN tx len (tkS tx len (tokN tx len u.1) (nI 1) (nI 500))) (nI 0) (nI 359)) (nI 359), u.2)) := by rw [rdRoom, if_neg (by omega), if_neg (by assumption), rdRo2, if_pos (by assumption), if_neg (by assumption), rdRo3, if_pos (by assumption)]); rw [e9]; exact ⟨rfl, hF, hP⟩) | ((have e9 : rdRoom tx len u = (true, (tkS tx len (tkS tx len (tokN tx len (tkS tx len (tokN tx len u.1) (nI 1) (nI 500))) (nI 0) (nI 359)) (tkV (tokN tx len (tkS tx len (tokN tx len u.1) (nI 1) (nI 500))) (nI 0) (nI 359)) (nI 359), u.2.1, u.2.2.1, rAdd u.2.2.2 (tkV (tokN tx len u.1) (nI 1) (nI 500)) (tkV (tokN tx len (tkS tx len (tokN tx len u.1) (nI 1) (nI 500))) (nI 0) (nI 359)) (tkV (tkS tx len (tokN tx len (tkS tx len (tokN tx len u.1) (nI 1) (nI 500))) (nI 0) (nI 359)) (tkV (tokN tx len (tkS tx len (tokN tx len u.1) (nI 1) (nI 500))) (nI 0) (nI 359)) (nI 359)))) := by rw [rdRoom, if_neg (by omega), if_neg (by assumption), rdRo2, if_pos (by assumption), if_neg (by assumption), rdRo3, if_neg (by assumption)]); rw [e9]; exact ⟨rfl, hF, hP⟩)
      · refine g_aload_n X rfl rfl ?_
        refine g_get X rfl flX5_18 (ci := 5) rfl (by (repeat (first | exact hr | exact upA_eq | refine (upA_ne (by omega)).trans ?_))) rfl ?_
        refine g_get X rfl flX5_133 (ci := 4) rfl (by (repeat (first | exact hS | exact upA_eq | refine (upA_ne (by omega)).trans ?_))) rfl ?_
        refine g_iload_n X rfl rfl ?_
        refine g_iconst X rfl (v := (-1)) (by decide) ?_
        refine g_iconst X rfl (v := (-1)) (by decide) ?_
        refine g_mVN X rfl lcX3_add lnX5_144 lsX3_add (cm_X3_addE l D cy B od (E := u.2.2.2) hR9 (by omega)) (ci := 3) (by (repeat (first | exact hR | exact upA_eq | refine (upA_ne (by omega)).trans ?_))) rfl rfl rfl (Nat.le_of_ble_eq_true rfl) ⟨⟨by decide, by decide⟩, rfl, rfl⟩ ⟨Nat.le_of_ble_eq_true rfl, Nat.le_of_ble_eq_true rfl⟩ (fun v12 A12 q12 => ?_)
        obtain ⟨rfl, f5, E5⟩ := q12
        have hF : PFr A A12 t := fun k h1 h2 => (f5 k (by omega)).trans (hF k h1 h2)
        have hP : PsA cy A12 t len tx (tkS tx len (tokN tx len u.1) (nI 1) (nI 500), u.2.1, u.2.2.1, rAdd u.2.2.2 (tkV (tokN tx len u.1) (nI 1) (nI 500)) (-1) (-1)) := ⟨(f5 _ (by omega)).trans hr, (f5 _ (by omega)).trans htx, hS9.same (f5.on (by omega)), E5⟩
        refine g_pop X rfl rfl ?_
        refine g_iconst X rfl (v := nI 1) (by decide) ?_
        refine g_iret X rfl rfl (by first | rfl | exact bI_nar _ | decide) (Nat.le_of_ble_eq_true rfl) (Nat.le_of_ble_eq_true rfl) ⟨rfl, ?_⟩
        first | ((have e9 : rdRoom tx len u = (false, u) := by rw [rdRoom, if_pos (by omega)]); rw [e9]; exact ⟨rfl, hF, hP⟩) | ((have e9 : rdRoom tx len u = (false, (tkS tx len (tokN tx len u.1) (nI 1) (nI 500), u.2)) := by rw [rdRoom, if_neg (by omega), if_pos (by assumption)]); rw [e9]; exact ⟨rfl, hF, hP⟩) | ((have e9 : rdRoom tx len u = (true, (tkS tx len (tokN tx len u.1) (nI 1) (nI 500), u.2.1, u.2.2.1, rAdd u.2.2.2 (tkV (tokN tx len u.1) (nI 1) (nI 500)) (-1) (-1))) := by rw [rdRoom, if_neg (by omega), if_neg (by assumption), rdRo2, if_neg (by first | assumption | (rw [Bool.not_eq_true]; assumption))]); rw [e9]; exact ⟨rfl, hF, hP⟩) | ((have e9 : rdRoom tx len u = (false, (tkS tx len (tokN tx len (tkS tx len (tokN tx len u.1) (nI 1) (nI 500))) (nI 0) (nI 359), u.2)) := by rw [rdRoom, if_neg (by omega), if_neg (by assumption), rdRo2, if_pos (by assumption), if_pos (by assumption)]); rw [e9]; exact ⟨rfl, hF, hP⟩) | ((have e9 : rdRoom tx len u = (false, (tkS tx len (tkS tx len (tokN tx len (tkS tx len (tokN tx len u.1) (nI 1) (nI 500))) (nI 0) (nI 359)) (tkV (tokN tx len (tkS tx len (tokN tx len u.1) (nI 1) (nI 500))) (nI 0) (nI 359)) (nI 359), u.2)) := by rw [rdRoom, if_neg (by omega), if_neg (by assumption), rdRo2, if_pos (by assumption), if_neg (by assumption), rdRo3, if_pos (by assumption)]); rw [e9]; exact ⟨rfl, hF, hP⟩) | ((have e9 : rdRoom tx len u = (true, (tkS tx len (tkS tx len (tokN tx len (tkS tx len (tokN tx len u.1) (nI 1) (nI 500))) (nI 0) (nI 359)) (tkV (tokN tx len (tkS tx len (tokN tx len u.1) (nI 1) (nI 500))) (nI 0) (nI 359)) (nI 359), u.2.1, u.2.2.1, rAdd u.2.2.2 (tkV (tokN tx len u.1) (nI 1) (nI 500)) (tkV (tokN tx len (tkS tx len (tokN tx len u.1) (nI 1) (nI 500))) (nI 0) (nI 359)) (tkV (tkS tx len (tokN tx len (tkS tx len (tokN tx len u.1) (nI 1) (nI 500))) (nI 0) (nI 359)) (tkV (tokN tx len (tkS tx len (tokN tx len u.1) (nI 1) (nI 500))) (nI 0) (nI 359)) (nI 359)))) := by rw [rdRoom, if_neg (by omega), if_neg (by assumption), rdRo2, if_pos (by assumption), if_neg (by assumption), rdRo3, if_neg (by assumption)]); rw [e9]; exact ⟨rfl, hF, hP⟩)
    · refine g_iconst X rfl (v := nI 0) (by decide) ?_
      refine g_iret X rfl rfl (by first | rfl | exact bI_nar _ | decide) (Nat.le_of_ble_eq_true rfl) (Nat.le_of_ble_eq_true rfl) ⟨rfl, ?_⟩
      first | ((have e9 : rdRoom tx len u = (false, u) := by rw [rdRoom, if_pos (by omega)]); rw [e9]; exact ⟨rfl, hF, hP⟩) | ((have e9 : rdRoom tx len u = (false, (tkS tx len (tokN tx len u.1) (nI 1) (nI 500), u.2)) := by rw [rdRoom, if_neg (by omega), if_pos (by assumption)]); rw [e9]; exact ⟨rfl, hF, hP⟩) | ((have e9 : rdRoom tx len u = (true, (tkS tx len (tokN tx len u.1) (nI 1) (nI 500), u.2.1, u.2.2.1, rAdd u.2.2.2 (tkV (tokN tx len u.1) (nI 1) (nI 500)) (-1) (-1))) := by rw [rdRoom, if_neg (by omega), if_neg (by assumption), rdRo2, if_neg (by first | assumption | (rw [Bool.not_eq_true]; assumption))]); rw [e9]; exact ⟨rfl, hF, hP⟩) | ((have e9 : rdRoom tx len u = (false, (tkS tx len (tokN tx len (tkS tx len (tokN tx len u.1) (nI 1) (nI 500))) (nI 0) (nI 359), u.2)) := by rw [rdRoom, if_neg (by omega), if_neg (by assumption), rdRo2, if_pos (by assumption), if_pos (by assumption)]); rw [e9]; exact ⟨rfl, hF, hP⟩) | ((have e9 : rdRoom tx len u = (false, (tkS tx len (tkS tx len (tokN tx len (tkS tx len (tokN tx len u.1) (nI 1) (nI 500))) (nI 0) (nI 359)) (tkV (tokN tx len (tkS tx len (tokN tx len u.1) (nI 1) (nI 500))) (nI 0) (nI 359)) (nI 359), u.2)) := by rw [rdRoom, if_neg (by omega), if_neg (by assumption), rdRo2, if_pos (by assumption), if_neg (by assumption), rdRo3, if_pos (by assumption)]); rw [e9]; exact ⟨rfl, hF, hP⟩) | ((have e9 : rdRoom tx len u = (true, (tkS tx len (tkS tx len (tokN tx len (tkS tx len (tokN tx len u.1) (nI 1) (nI 500))) (nI 0) (nI 359)) (tkV (tokN tx len (tkS tx len (tokN tx len u.1) (nI 1) (nI 500))) (nI 0) (nI 359)) (nI 359), u.2.1, u.2.2.1, rAdd u.2.2.2 (tkV (tokN tx len u.1) (nI 1) (nI 500)) (tkV (tokN tx len (tkS tx len (tokN tx len u.1) (nI 1) (nI 500))) (nI 0) (nI 359)) (tkV (tkS tx len (tokN tx len (tkS tx len (tokN tx len u.1) (nI 1) (nI 500))) (nI 0) (nI 359)) (tkV (tokN tx len (tkS tx len (tokN tx len u.1) (nI 1) (nI 500))) (nI 0) (nI 359)) (nI 359)))) := by rw [rdRoom, if_neg (by omega), if_neg (by assumption), rdRo2, if_pos (by assumption), if_neg (by assumption), rdRo3, if_neg (by assumption)]); rw [e9]; exact ⟨rfl, hF, hP⟩)
  · refine g_iconst X rfl (v := nI 0) (by decide) ?_
    refine g_iret X rfl rfl (by first | rfl | exact bI_nar _ | decide) (Nat.le_of_ble_eq_true rfl) (Nat.le_of_ble_eq_true rfl) ⟨rfl, ?_⟩
    first | ((have e9 : rdRoom tx len u = (false, u) := by rw [rdRoom, if_pos (by omega)]); rw [e9]; exact ⟨rfl, hF, hP⟩) | ((have e9 : rdRoom tx len u = (false, (tkS tx len (tokN tx len u.1) (nI 1) (nI 500), u.2)) := by rw [rdRoom, if_neg (by omega), if_pos (by assumption)]); rw [e9]; exact ⟨rfl, hF, hP⟩) | ((have e9 : rdRoom tx len u = (true, (tkS tx len (tokN tx len u.1) (nI 1) (nI 500), u.2.1, u.2.2.1, rAdd u.2.2.2 (tkV (tokN tx len u.1) (nI 1) (nI 500)) (-1) (-1))) := by rw [rdRoom, if_neg (by omega), if_neg (by assumption), rdRo2, if_neg (by first | assumption | (rw [Bool.not_eq_true]; assumption))]); rw [e9]; exact ⟨rfl, hF, hP⟩) | ((have e9 : rdRoom tx len u = (false, (tkS tx len (tokN tx len (tkS tx len (tokN tx len u.1) (nI 1) (nI 500))) (nI 0) (nI 359), u.2)) := by rw [rdRoom, if_neg (by omega), if_neg (by assumption), rdRo2, if_pos (by assumption), if_pos (by assumption)]); rw [e9]; exact ⟨rfl, hF, hP⟩) | ((have e9 : rdRoom tx len u = (false, (tkS tx len (tkS tx len (tokN tx len (tkS tx len (tokN tx len u.1) (nI 1) (nI 500))) (nI 0) (nI 359)) (tkV (tokN tx len (tkS tx len (tokN tx len u.1) (nI 1) (nI 500))) (nI 0) (nI 359)) (nI 359), u.2)) := by rw [rdRoom, if_neg (by omega), if_neg (by assumption), rdRo2, if_pos (by assumption), if_neg (by assumption), rdRo3, if_pos (by assumption)]); rw [e9]; exact ⟨rfl, hF, hP⟩) | ((have e9 : rdRoom tx len u = (true, (tkS tx len (tkS tx len (tokN tx len (tkS tx len (tokN tx len u.1) (nI 1) (nI 500))) (nI 0) (nI 359)) (tkV (tokN tx len (tkS tx len (tokN tx len u.1) (nI 1) (nI 500))) (nI 0) (nI 359)) (nI 359), u.2.1, u.2.2.1, rAdd u.2.2.2 (tkV (tokN tx len u.1) (nI 1) (nI 500)) (tkV (tokN tx len (tkS tx len (tokN tx len u.1) (nI 1) (nI 500))) (nI 0) (nI 359)) (tkV (tkS tx len (tokN tx len (tkS tx len (tokN tx len u.1) (nI 1) (nI 500))) (nI 0) (nI 359)) (tkV (tokN tx len (tkS tx len (tokN tx len u.1) (nI 1) (nI 500))) (nI 0) (nI 359)) (nI 359)))) := by rw [rdRoom, if_neg (by omega), if_neg (by assumption), rdRo2, if_pos (by assumption), if_neg (by assumption), rdRo3, if_neg (by assumption)]); rw [e9]; exact ⟨rfl, hF, hP⟩)
