/-! 15: what is read of a ledger -/
theorem thok_232 : ThOk RX7 "java/lang/IllegalArgumentException" 228 232 ["java/lang/RuntimeException", "java/lang/Exception"] := ⟨by decide +kernel, by decide +kernel, lw_good_in (n := 1145) (by decide +kernel) rfl, lw_good_in (n := 80) (by decide +kernel) rfl, lw_good_in (n := 979) (by decide +kernel) rfl, by decide +kernel, by decide +kernel⟩
theorem thok_345 : ThOk RX7 "java/lang/IllegalStateException" 341 345 ["java/lang/RuntimeException", "java/lang/Exception"] := ⟨by decide +kernel, by decide +kernel, lw_good_in (n := 1389) (by decide +kernel) rfl, lw_good_in (n := 74) (by decide +kernel) rfl, lw_good_in (n := 1390) (by decide +kernel) rfl, by decide +kernel, by decide +kernel⟩
theorem thok_355 : ThOk RX7 "java/lang/IndexOutOfBoundsException" 351 355 ["java/lang/RuntimeException", "java/lang/Exception"] := ⟨by decide +kernel, by decide +kernel, lw_good_in (n := 1129) (by decide +kernel) rfl, lw_good_in (n := 81) (by decide +kernel) rfl, lw_good_in (n := 1130) (by decide +kernel) rfl, by decide +kernel, by decide +kernel⟩
set_option maxRecDepth 100000 in
set_option maxHeartbeats 400000 in
theorem cq_X7_requireArgument (l : Launch) (D : va_G) (cy : Nat → ClassId) (B : Nat) (od : Nat → Option Nat) (hl9 : l.stackTraces = false) {A : AH} {x : Int32} : CQ l D cy B od yX7_requireArgument cX7_requireArgument 1 none rmX7_requireArgument [.int x] A "java/lang/IllegalArgumentException" (¬ x = 0) := by
  intro z
  refine CX.of (by decide) tX7_requireArgument okX7_requireArgument (Nat.le_of_ble_eq_true rfl) (q0 := tX7_requireArgument[0]) rfl rfl ?_
  intro p e s m args below meth c X hnt
  refine g_iload_n X rfl rfl ?_
  first | refine g_if_neB X rfl (fun h1 => ?_) (fun h1 => ?_) | refine g_if_ne X rfl (fun h1 => ?_) (fun h1 => ?_)
  · refine g_vret X rfl rfl (Nat.le_of_ble_eq_true rfl) (Nat.le_of_ble_eq_true rfl) ⟨rfl, rfl, rfl, ?_⟩
    first | assumption | exact bI_n0.mp (by assumption) | (simp_all; done) | (simp_all [← Int32.not_le]; done)
  · refine g_throw3 X hl9 hnt thok_232 (j := 8) rfl rfl rfl rfl rfl rfl ⟨by decide, Nat.le_of_ble_eq_true rfl⟩ ⟨Nat.le_of_ble_eq_true rfl, Nat.le_of_ble_eq_true rfl⟩ (Nat.le_of_ble_eq_true rfl) (Nat.le_of_ble_eq_true rfl) ?_
    exact ⟨rfl, rfl, by first | assumption | (simp_all; done) | (simp_all [← Int32.not_le]; done)⟩
set_option maxRecDepth 100000 in
set_option maxHeartbeats 400000 in
theorem cq_X7_requireState (l : Launch) (D : va_G) (cy : Nat → ClassId) (B : Nat) (od : Nat → Option Nat) (hl9 : l.stackTraces = false) {A : AH} {x : Int32} : CQ l D cy B od yX7_requireState cX7_requireState 1 none rmX7_requireState [.int x] A "java/lang/IllegalStateException" (¬ x = 0) := by
  intro z
  refine CX.of (by decide) tX7_requireState okX7_requireState (Nat.le_of_ble_eq_true rfl) (q0 := tX7_requireState[0]) rfl rfl ?_
  intro p e s m args below meth c X hnt
  refine g_iload_n X rfl rfl ?_
  first | refine g_if_neB X rfl (fun h1 => ?_) (fun h1 => ?_) | refine g_if_ne X rfl (fun h1 => ?_) (fun h1 => ?_)
  · refine g_vret X rfl rfl (Nat.le_of_ble_eq_true rfl) (Nat.le_of_ble_eq_true rfl) ⟨rfl, rfl, rfl, ?_⟩
    first | assumption | exact bI_n0.mp (by assumption) | (simp_all; done) | (simp_all [← Int32.not_le]; done)
  · refine g_throw3 X hl9 hnt thok_345 (j := 7) rfl rfl rfl rfl rfl rfl ⟨by decide, Nat.le_of_ble_eq_true rfl⟩ ⟨Nat.le_of_ble_eq_true rfl, Nat.le_of_ble_eq_true rfl⟩ (Nat.le_of_ble_eq_true rfl) (Nat.le_of_ble_eq_true rfl) ?_
    exact ⟨rfl, rfl, by first | assumption | (simp_all; done) | (simp_all [← Int32.not_le]; done)⟩
set_option maxRecDepth 100000 in
set_option maxHeartbeats 400000 in
theorem cq_X7_requireElement (l : Launch) (D : va_G) (cy : Nat → ClassId) (B : Nat) (od : Nat → Option Nat) (hl9 : l.stackTraces = false) {A : AH} {x : Int32} : CQ l D cy B od yX7_requireElement cX7_requireElement 1 none rmX7_requireElement [.int x] A "java/util/NoSuchElementException" (¬ x = 0) := by
  intro z
  refine CX.of (by decide) tX7_requireElement okX7_requireElement (Nat.le_of_ble_eq_true rfl) (q0 := tX7_requireElement[0]) rfl rfl ?_
  intro p e s m args below meth c X hnt
  refine g_iload_n X rfl rfl ?_
  first | refine g_if_neB X rfl (fun h1 => ?_) (fun h1 => ?_) | refine g_if_ne X rfl (fun h1 => ?_) (fun h1 => ?_)
  · refine g_vret X rfl rfl (Nat.le_of_ble_eq_true rfl) (Nat.le_of_ble_eq_true rfl) ⟨rfl, rfl, rfl, ?_⟩
    first | assumption | exact bI_n0.mp (by assumption) | (simp_all; done) | (simp_all [← Int32.not_le]; done)
  · refine g_throwE X hl9 hnt ⟨rfl, rfl, rfl, rfl, rfl⟩ (j := 11) rfl rfl rfl rfl rfl rfl ⟨by decide, Nat.le_of_ble_eq_true rfl⟩ ⟨Nat.le_of_ble_eq_true rfl, Nat.le_of_ble_eq_true rfl⟩ (Nat.le_of_ble_eq_true rfl) (Nat.le_of_ble_eq_true rfl) ?_
    exact ⟨rfl, rfl, by first | assumption | (simp_all; done) | (simp_all [← Int32.not_le]; done)⟩
set_option maxRecDepth 100000 in
set_option maxHeartbeats 400000 in
theorem cq_X7_requireIndex (l : Launch) (D : va_G) (cy : Nat → ClassId) (B : Nat) (od : Nat → Option Nat) (hl9 : l.stackTraces = false) {A : AH} {x n : Int32} : CQ l D cy B od yX7_requireIndex cX7_requireIndex 2 none rmX7_requireIndex [.int x, .int n] A "java/lang/IndexOutOfBoundsException" (0 ≤ x ∧ x < n) := by
  intro z
  refine CX.of (by decide) tX7_requireIndex okX7_requireIndex (Nat.le_of_ble_eq_true rfl) (q0 := tX7_requireIndex[0]) rfl rfl ?_
  intro p e s m args below meth c X hnt
  refine g_iload_n X rfl rfl ?_
  refine g_if_lt X rfl (fun h1 => ?_) (fun h1 => ?_)
  · refine g_throw3 X hl9 hnt thok_355 (j := 9) rfl rfl rfl rfl rfl rfl ⟨by decide, Nat.le_of_ble_eq_true rfl⟩ ⟨Nat.le_of_ble_eq_true rfl, Nat.le_of_ble_eq_true rfl⟩ (Nat.le_of_ble_eq_true rfl) (Nat.le_of_ble_eq_true rfl) ?_
    exact ⟨rfl, rfl, by first | assumption | (simp_all; done) | (simp_all [← Int32.not_le]; done)⟩
  · refine g_iload_n X rfl rfl ?_
    refine g_iload_n X rfl rfl ?_
    refine g_icmp_lt X rfl (fun h2 => ?_) (fun h2 => ?_)
    · refine g_vret X rfl rfl (Nat.le_of_ble_eq_true rfl) (Nat.le_of_ble_eq_true rfl) ⟨rfl, rfl, rfl, ?_⟩
      first | assumption | exact bI_n0.mp (by assumption) | (simp_all; done) | (simp_all [← Int32.not_le]; done)
    · refine g_throw3 X hl9 hnt thok_355 (j := 9) rfl rfl rfl rfl rfl rfl ⟨by decide, Nat.le_of_ble_eq_true rfl⟩ ⟨Nat.le_of_ble_eq_true rfl, Nat.le_of_ble_eq_true rfl⟩ (Nat.le_of_ble_eq_true rfl) (Nat.le_of_ble_eq_true rfl) ?_
      exact ⟨rfl, rfl, by first | assumption | (simp_all; done) | (simp_all [← Int32.not_le]; done)⟩
set_option maxRecDepth 100000 in
set_option maxHeartbeats 400000 in
theorem cq_X7_requireQuarter (l : Launch) (D : va_G) (cy : Nat → ClassId) (B : Nat) (od : Nat → Option Nat) (hl9 : l.stackTraces = false) {A : AH} {x : Int32} : CQ l D cy B od yX7_requireQuarter cX7_requireQuarter 1 none rmX7_requireQuarter [.int x] A "java/lang/IllegalArgumentException" (within9 x (nI 0) (nI 3) = true) := by
  intro z
  refine CX.of (by decide) tX7_requireQuarter okX7_requireQuarter (Nat.le_of_ble_eq_true rfl) (q0 := tX7_requireQuarter[0]) rfl rfl ?_
  intro p e s m args below meth c X hnt
  refine g_iload_n X rfl rfl ?_
  refine g_iconst X rfl (v := nI 0) (by decide) ?_
  refine g_iconst X rfl (v := nI 3) (by decide) ?_
  refine g_rS X rfl lcX7_within lmX7_74 stX7_within (cr_X7_within l D cy B od) rfl rfl (Nat.le_of_ble_eq_true rfl) ⟨⟨by decide, by decide⟩, rfl, rfl⟩ ⟨Nat.le_of_ble_eq_true rfl, Nat.le_of_ble_eq_true rfl⟩ ?_
  refine g_req X hnt rfl lcX7_requireArgument lmX7_78 stX7_requireArgument (cq_X7_requireArgument l D cy B od hl9) rfl rfl (Nat.le_of_ble_eq_true rfl) ⟨by decide, by decide⟩ ⟨Nat.le_of_ble_eq_true rfl, Nat.le_of_ble_eq_true rfl⟩ (Nat.le_of_ble_eq_true rfl) (Nat.le_of_ble_eq_true rfl) (fun h1 => ?_) (fun h1 => ?_)
  · exact ⟨rfl, rfl, by rwa [bI_n0] at *⟩
  refine g_vret X rfl rfl (Nat.le_of_ble_eq_true rfl) (Nat.le_of_ble_eq_true rfl) ⟨rfl, rfl, rfl, ?_⟩
  first | assumption | exact bI_n0.mp (by assumption) | (simp_all; done) | (simp_all [← Int32.not_le]; done)
