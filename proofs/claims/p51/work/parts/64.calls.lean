/-! 64: whatever is drawn: what the book answers and what the class answers -/
/-- what a drawn call is to answer -/
def ocW (V : LV) (n : Nat) : Nat → OC
  | 0 => ocAddE V (numI (n) (nI 0) (nI 3) 4) (numI (n / 64) (nI 0) (nI 9) 10) (nI (amtN (n / 64))) (numI (n / 64 / 9) (nI 0) (nI 359) 360) (dayI (n / 64 / 3))
  | 1 => ocAddE V (numI (n) (nI 0) (nI 3) 4) (numI (n / 64) (nI 0) (nI 9) 10) (nI (amtN (n / 64))) (numI (n / 64 / 9) (nI 0) (nI 359) 360) (dayI (n / 64 / 3))
  | 2 => ocAddE V (numI (n) (nI 0) (nI 3) 4) (numI (n / 64) (nI 0) (nI 9) 10) (nI (amtN (n / 64))) (numI (n / 64 / 9) (nI 0) (nI 359) 360) (dayI (n / 64 / 3))
  | 3 => ocAddE V (numI (n) (nI 0) (nI 3) 4) (numI (n / 64) (nI 0) (nI 9) 10) (nI (amtN (n / 64))) (numI (n / 64 / 9) (nI 0) (nI 359) 360) (dayI (n / 64 / 3))
  | 4 => ocPay V (nI (n % ((vS V).1.1 + 1))) (dayI (n / 64))
  | 5 => ocPay V (nI (n % ((vS V).1.1 + 1))) (dayI (n / 64))
  | 6 => ocCan V (nI (n % ((vS V).1.1 + 1)))
  | 7 => ocAddR V (numI (n) (nI 1) (nI 500) 500)
  | 8 => ocOff V (nI (n % ((vS V).2.1.1 + 1))) (dayI (n / 64)) (numI (n / 64 / 5) (nI 0) (nI 359) 360)
  | 9 => ocAddA V (pcI (n / 64)) (numI (n) (nI 0) (nI 359) 360) (numI (n / 64 / 7) (nI 1) (nI 120) 120)
  | 10 => ocAddA V (pcI (n / 64)) (numI (n) (nI 0) (nI 359) 360) (numI (n / 64 / 7) (nI 1) (nI 120) 120)
  | 11 => ocSell V (nI (n % ((vS V).2.2.1.1 + 1))) (numI (n / 64) (nI 0) (nI 359) 360) (numI (n / 64 / 3) (nI 0) (nI 5000000) 5000001)
  | 12 => ocClose V
  | _ => ocStart V (numI (n) (-10000000) (nI 10000000) 20000001)
/-- the rows behind it -/
def sW (V : LV) (n : Nat) : Nat → StV
  | 0 => (addRow (vS V).1 (entH (numI (n) (nI 0) (nI 3) 4) (numI (n / 64) (nI 0) (nI 9) 10) (nI (amtN (n / 64))) (numI (n / 64 / 9) (nI 0) (nI 359) 360) (dayI (n / 64 / 3)) (if (dayI (n / 64 / 3)) = -1 ∨ nI (vS V).2.2.2.2.1 ≤ (dayI (n / 64 / 3)) / nI 90 then nI 0 else nI 1)), (vS V).2)
  | 1 => (addRow (vS V).1 (entH (numI (n) (nI 0) (nI 3) 4) (numI (n / 64) (nI 0) (nI 9) 10) (nI (amtN (n / 64))) (numI (n / 64 / 9) (nI 0) (nI 359) 360) (dayI (n / 64 / 3)) (if (dayI (n / 64 / 3)) = -1 ∨ nI (vS V).2.2.2.2.1 ≤ (dayI (n / 64 / 3)) / nI 90 then nI 0 else nI 1)), (vS V).2)
  | 2 => (addRow (vS V).1 (entH (numI (n) (nI 0) (nI 3) 4) (numI (n / 64) (nI 0) (nI 9) 10) (nI (amtN (n / 64))) (numI (n / 64 / 9) (nI 0) (nI 359) 360) (dayI (n / 64 / 3)) (if (dayI (n / 64 / 3)) = -1 ∨ nI (vS V).2.2.2.2.1 ≤ (dayI (n / 64 / 3)) / nI 90 then nI 0 else nI 1)), (vS V).2)
  | 3 => (addRow (vS V).1 (entH (numI (n) (nI 0) (nI 3) 4) (numI (n / 64) (nI 0) (nI 9) 10) (nI (amtN (n / 64))) (numI (n / 64 / 9) (nI 0) (nI 359) 360) (dayI (n / 64 / 3)) (if (dayI (n / 64 / 3)) = -1 ∨ nI (vS V).2.2.2.2.1 ≤ (dayI (n / 64 / 3)) / nI 90 then nI 0 else nI 1)), (vS V).2)
  | 4 => (rSet (vS V).1 4 (n % ((vS V).1.1 + 1)) (dayI (n / 64)), (vS V).2)
  | 5 => (rSet (vS V).1 4 (n % ((vS V).1.1 + 1)) (dayI (n / 64)), (vS V).2)
  | 6 => (rSet (vS V).1 5 (n % ((vS V).1.1 + 1)) (nI 1), (vS V).2)
  | 7 => ((vS V).1, addRow (vS V).2.1 (roomH (numI (n) (nI 1) (nI 500) 500)), (vS V).2.2)
  | 8 => ((vS V).1, rSet (rSet (vS V).2.1 1 (n % ((vS V).2.1.1 + 1)) (dayI (n / 64))) 2 (n % ((vS V).2.1.1 + 1)) (if (dayI (n / 64)) = -1 then -1 else (numI (n / 64 / 5) (nI 0) (nI 359) 360)), (vS V).2.2)
  | 9 => ((vS V).1, (vS V).2.1, addRow (vS V).2.2.1 (astH (pcI (n / 64)) (numI (n) (nI 0) (nI 359) 360) (numI (n / 64 / 7) (nI 1) (nI 120) 120) (sSort (vZ V) (pcI (n / 64)))), (vS V).2.2.2)
  | 10 => ((vS V).1, (vS V).2.1, addRow (vS V).2.2.1 (astH (pcI (n / 64)) (numI (n) (nI 0) (nI 359) 360) (numI (n / 64 / 7) (nI 1) (nI 120) 120) (sSort (vZ V) (pcI (n / 64)))), (vS V).2.2.2)
  | 11 => ((vS V).1, (vS V).2.1, rSet (rSet (vS V).2.2.1 4 (n % ((vS V).2.2.1.1 + 1)) (numI (n / 64) (nI 0) (nI 359) 360)) 5 (n % ((vS V).2.2.1.1 + 1)) (numI (n / 64 / 3) (nI 0) (nI 5000000) 5000001), (vS V).2.2.2)
  | 12 => ((vS V).1, (vS V).2.1, (vS V).2.2.1, upd (vS V).2.2.2.1 (vS V).2.2.2.2.1 (cqAmt V), (vS V).2.2.2.2.1 + 1, (vS V).2.2.2.2.2)
  | _ => stS (vS V) (numI (n) (-10000000) (nI 10000000) 20000001)
/-- what the class says of its rows behind it -/
def rW (V : LV) (n : Nat) : Nat → (StV → Prop)
  | 0 => fun S9 => S9.1.1 = (vS V).1.1 + 1 ∧ (∀ q j, j < (vS V).1.1 → S9.1.2 q j = (vS V).1.2 q j) ∧ (S9.1.2 0 (vS V).1.1 = (numI (n) (nI 0) (nI 3) 4) ∧ S9.1.2 1 (vS V).1.1 = (numI (n / 64) (nI 0) (nI 9) 10) ∧ S9.1.2 2 (vS V).1.1 = (nI (amtN (n / 64))) ∧ S9.1.2 3 (vS V).1.1 = (numI (n / 64 / 9) (nI 0) (nI 359) 360) ∧ S9.1.2 4 (vS V).1.1 = (dayI (n / 64 / 3)) ∧ S9.1.2 5 (vS V).1.1 = 0 ∧ S9.1.2 6 (vS V).1.1 = (if (dayI (n / 64 / 3)) = -1 ∨ nI (vS V).2.2.2.2.1 ≤ (dayI (n / 64 / 3)) / nI 90 then nI 0 else nI 1)) ∧ S9.2 = (vS V).2
  | 1 => fun S9 => S9.1.1 = (vS V).1.1 + 1 ∧ (∀ q j, j < (vS V).1.1 → S9.1.2 q j = (vS V).1.2 q j) ∧ (S9.1.2 0 (vS V).1.1 = (numI (n) (nI 0) (nI 3) 4) ∧ S9.1.2 1 (vS V).1.1 = (numI (n / 64) (nI 0) (nI 9) 10) ∧ S9.1.2 2 (vS V).1.1 = (nI (amtN (n / 64))) ∧ S9.1.2 3 (vS V).1.1 = (numI (n / 64 / 9) (nI 0) (nI 359) 360) ∧ S9.1.2 4 (vS V).1.1 = (dayI (n / 64 / 3)) ∧ S9.1.2 5 (vS V).1.1 = 0 ∧ S9.1.2 6 (vS V).1.1 = (if (dayI (n / 64 / 3)) = -1 ∨ nI (vS V).2.2.2.2.1 ≤ (dayI (n / 64 / 3)) / nI 90 then nI 0 else nI 1)) ∧ S9.2 = (vS V).2
  | 2 => fun S9 => S9.1.1 = (vS V).1.1 + 1 ∧ (∀ q j, j < (vS V).1.1 → S9.1.2 q j = (vS V).1.2 q j) ∧ (S9.1.2 0 (vS V).1.1 = (numI (n) (nI 0) (nI 3) 4) ∧ S9.1.2 1 (vS V).1.1 = (numI (n / 64) (nI 0) (nI 9) 10) ∧ S9.1.2 2 (vS V).1.1 = (nI (amtN (n / 64))) ∧ S9.1.2 3 (vS V).1.1 = (numI (n / 64 / 9) (nI 0) (nI 359) 360) ∧ S9.1.2 4 (vS V).1.1 = (dayI (n / 64 / 3)) ∧ S9.1.2 5 (vS V).1.1 = 0 ∧ S9.1.2 6 (vS V).1.1 = (if (dayI (n / 64 / 3)) = -1 ∨ nI (vS V).2.2.2.2.1 ≤ (dayI (n / 64 / 3)) / nI 90 then nI 0 else nI 1)) ∧ S9.2 = (vS V).2
  | 3 => fun S9 => S9.1.1 = (vS V).1.1 + 1 ∧ (∀ q j, j < (vS V).1.1 → S9.1.2 q j = (vS V).1.2 q j) ∧ (S9.1.2 0 (vS V).1.1 = (numI (n) (nI 0) (nI 3) 4) ∧ S9.1.2 1 (vS V).1.1 = (numI (n / 64) (nI 0) (nI 9) 10) ∧ S9.1.2 2 (vS V).1.1 = (nI (amtN (n / 64))) ∧ S9.1.2 3 (vS V).1.1 = (numI (n / 64 / 9) (nI 0) (nI 359) 360) ∧ S9.1.2 4 (vS V).1.1 = (dayI (n / 64 / 3)) ∧ S9.1.2 5 (vS V).1.1 = 0 ∧ S9.1.2 6 (vS V).1.1 = (if (dayI (n / 64 / 3)) = -1 ∨ nI (vS V).2.2.2.2.1 ≤ (dayI (n / 64 / 3)) / nI 90 then nI 0 else nI 1)) ∧ S9.2 = (vS V).2
  | 4 => fun S9 => S9 = (rSet (vS V).1 4 (nI (n % ((vS V).1.1 + 1))).toNatClampNeg (dayI (n / 64)), (vS V).2)
  | 5 => fun S9 => S9 = (rSet (vS V).1 4 (nI (n % ((vS V).1.1 + 1))).toNatClampNeg (dayI (n / 64)), (vS V).2)
  | 6 => fun S9 => S9 = (rSet (vS V).1 5 (nI (n % ((vS V).1.1 + 1))).toNatClampNeg (nI 1), (vS V).2)
  | 7 => fun S9 => S9.1 = (vS V).1 ∧ (S9.2.1.1 = (vS V).2.1.1 + 1 ∧ (∀ q j, j < (vS V).2.1.1 → S9.2.1.2 q j = (vS V).2.1.2 q j) ∧ (S9.2.1.2 0 (vS V).2.1.1 = (numI (n) (nI 1) (nI 500) 500) ∧ S9.2.1.2 1 (vS V).2.1.1 = -1 ∧ S9.2.1.2 2 (vS V).2.1.1 = -1)) ∧ S9.2.2 = (vS V).2.2
  | 8 => fun S9 => S9 = ((vS V).1, rSet (rSet (vS V).2.1 1 (nI (n % ((vS V).2.1.1 + 1))).toNatClampNeg (dayI (n / 64))) 2 (nI (n % ((vS V).2.1.1 + 1))).toNatClampNeg (if (dayI (n / 64)) = -1 then -1 else (numI (n / 64 / 5) (nI 0) (nI 359) 360)), (vS V).2.2)
  | 9 => fun S9 => S9.1 = (vS V).1 ∧ S9.2.1 = (vS V).2.1 ∧ (S9.2.2.1.1 = (vS V).2.2.1.1 + 1 ∧ (∀ q j, j < (vS V).2.2.1.1 → S9.2.2.1.2 q j = (vS V).2.2.1.2 q j) ∧ (S9.2.2.1.2 0 (vS V).2.2.1.1 = (pcI (n / 64)) ∧ S9.2.2.1.2 1 (vS V).2.2.1.1 = (numI (n) (nI 0) (nI 359) 360) ∧ S9.2.2.1.2 2 (vS V).2.2.1.1 = (numI (n / 64 / 7) (nI 1) (nI 120) 120) ∧ S9.2.2.1.2 3 (vS V).2.2.1.1 = sSort (vZ V) (pcI (n / 64)) ∧ S9.2.2.1.2 4 (vS V).2.2.1.1 = -1 ∧ S9.2.2.1.2 5 (vS V).2.2.1.1 = -1)) ∧ S9.2.2.2 = (vS V).2.2.2
  | 10 => fun S9 => S9.1 = (vS V).1 ∧ S9.2.1 = (vS V).2.1 ∧ (S9.2.2.1.1 = (vS V).2.2.1.1 + 1 ∧ (∀ q j, j < (vS V).2.2.1.1 → S9.2.2.1.2 q j = (vS V).2.2.1.2 q j) ∧ (S9.2.2.1.2 0 (vS V).2.2.1.1 = (pcI (n / 64)) ∧ S9.2.2.1.2 1 (vS V).2.2.1.1 = (numI (n) (nI 0) (nI 359) 360) ∧ S9.2.2.1.2 2 (vS V).2.2.1.1 = (numI (n / 64 / 7) (nI 1) (nI 120) 120) ∧ S9.2.2.1.2 3 (vS V).2.2.1.1 = sSort (vZ V) (pcI (n / 64)) ∧ S9.2.2.1.2 4 (vS V).2.2.1.1 = -1 ∧ S9.2.2.1.2 5 (vS V).2.2.1.1 = -1)) ∧ S9.2.2.2 = (vS V).2.2.2
  | 11 => fun S9 => S9 = ((vS V).1, (vS V).2.1, rSet (rSet (vS V).2.2.1 4 (nI (n % ((vS V).2.2.1.1 + 1))).toNatClampNeg (numI (n / 64) (nI 0) (nI 359) 360)) 5 (nI (n % ((vS V).2.2.1.1 + 1))).toNatClampNeg (numI (n / 64 / 3) (nI 0) (nI 5000000) 5000001), (vS V).2.2.2)
  | 12 => fun S9 => S9 = ((vS V).1, (vS V).2.1, (vS V).2.2.1, upd (vS V).2.2.2.1 (vS V).2.2.2.2.1 (cqAmt V), (vS V).2.2.2.2.1 + 1, (vS V).2.2.2.2.2)
  | _ => fun S9 => S9 = ((vS V).1, (vS V).2.1, (vS V).2.2.1, (vS V).2.2.2.1, (vS V).2.2.2.2.1, (numI (n) (-10000000) (nI 10000000) 20000001))
set_option maxRecDepth 100000 in
set_option maxHeartbeats 400000 in
theorem act_any (l : Launch) (D : va_G) (cy : Nat → ClassId) (B : Nat) (od : Nat → Option Nat) {A : AH} {g n : Nat} {L : BL} {V : LV} (hb : BkW cy A g L (vS V) (vZ V)) (hw : WfS (vS V)) (hwB : WfB (vS V)) (hi : Inv3 (vZ V) (vS V)) (hgz : RngZ (vZ V)) (hn : n < 10000000) (z : Nat) (hF : FRs A z) (hz : z + 700 ≤ 900000) (w : Nat) (hw14 : w < 14) : CT l D cy B od yL_act cL_act 11 (some .int) rmL_act [.ref g, .int (nI w), .int (nI n)] A (z + 1) (ActR cy A z g L (vS V) (vZ V) (ocW V n w) (sW V n w)) := by
  match w, hw14 with
  | 0, _ => exact ct_L_act_0 l D cy B od hb hw hn rfl z hF hz
  | 1, _ => exact ct_L_act_1 l D cy B od hb hw hn rfl z hF hz
  | 2, _ => exact ct_L_act_2 l D cy B od hb hw hn rfl z hF hz
  | 3, _ => exact ct_L_act_3 l D cy B od hb hw hn rfl z hF hz
  | 4, _ => exact ct_L_act_4 l D cy B od hb hw hwB hn rfl z hF hz
  | 5, _ => exact ct_L_act_5 l D cy B od hb hw hwB hn rfl z hF hz
  | 6, _ => exact ct_L_act_6 l D cy B od hb hw hwB hn rfl z hF hz
  | 7, _ => exact ct_L_act_7 l D cy B od hb hw hn rfl z hF hz
  | 8, _ => exact ct_L_act_8 l D cy B od hb hw hn rfl z hF hz hi.1
  | 9, _ => exact ct_L_act_9 l D cy B od hb hw hn rfl z hF hz
  | 10, _ => exact ct_L_act_10 l D cy B od hb hw hn rfl z hF hz
  | 11, _ => exact ct_L_act_11 l D cy B od hb hw hn rfl z hF hz hi.1
  | 12, _ => exact ct_L_act_12 l D cy B od hb hw hn rfl z hF hz hi.1 hgz hi.2.1 rfl
  | 13, _ => exact ct_L_act_13 l D cy B od hb hw hwB hn rfl z hF hz
  | w + 14, h => exact absurd h (by omega)
theorem ocAddE_r {V : LV} {kd ca am iv pd : Int32} : (∀ r, ocAddE V kd ca am iv pd = .inr r → ∃ x, r = .int x) ∧ ∀ E, ocAddE V kd ca am iv pd = .inl E → E ∈ [eIAE, eISE] := by
  unfold ocAddE
  constructor
  · intro r h
    repeat' split at h
    all_goals first | (cases h; done) | exact ⟨_, (Sum.inr.inj h).symm⟩
  · intro E h
    repeat' split at h
    all_goals first | (cases h; done) | (obtain rfl := Sum.inl.inj h; simp)
theorem ocPay_r {V : LV} {x dy : Int32} : (∀ r, ocPay V x dy = .inr r → ∃ x, r = .int x) ∧ ∀ E, ocPay V x dy = .inl E → E ∈ [eIOB, eIAE, eISE] := by
  unfold ocPay
  constructor
  · intro r h
    repeat' split at h
    all_goals first | (cases h; done) | exact ⟨_, (Sum.inr.inj h).symm⟩
  · intro E h
    repeat' split at h
    all_goals first | (cases h; done) | (obtain rfl := Sum.inl.inj h; simp)
theorem ocCan_r {V : LV} {x : Int32} : (∀ r, ocCan V x = .inr r → ∃ x, r = .int x) ∧ ∀ E, ocCan V x = .inl E → E ∈ [eIOB, eISE] := by
  unfold ocCan
  constructor
  · intro r h
    repeat' split at h
    all_goals first | (cases h; done) | exact ⟨_, (Sum.inr.inj h).symm⟩
  · intro E h
    repeat' split at h
    all_goals first | (cases h; done) | (obtain rfl := Sum.inl.inj h; simp)
theorem ocAddR_r {V : LV} {ar : Int32} : (∀ r, ocAddR V ar = .inr r → ∃ x, r = .int x) ∧ ∀ E, ocAddR V ar = .inl E → E ∈ [eIAE, eISE] := by
  unfold ocAddR
  constructor
  · intro r h
    repeat' split at h
    all_goals first | (cases h; done) | exact ⟨_, (Sum.inr.inj h).symm⟩
  · intro E h
    repeat' split at h
    all_goals first | (cases h; done) | (obtain rfl := Sum.inl.inj h; simp)
theorem ocOff_r {V : LV} {x f t : Int32} : (∀ r, ocOff V x f t = .inr r → ∃ x, r = .int x) ∧ ∀ E, ocOff V x f t = .inl E → E ∈ [eIOB, eIAE] := by
  unfold ocOff
  constructor
  · intro r h
    repeat' split at h
    all_goals first | (cases h; done) | exact ⟨_, (Sum.inr.inj h).symm⟩
  · intro E h
    repeat' split at h
    all_goals first | (cases h; done) | (obtain rfl := Sum.inl.inj h; simp)
theorem ocAddA_r {V : LV} {pr dy li : Int32} : (∀ r, ocAddA V pr dy li = .inr r → ∃ x, r = .int x) ∧ ∀ E, ocAddA V pr dy li = .inl E → E ∈ [eIAE, eISE] := by
  unfold ocAddA
  constructor
  · intro r h
    repeat' split at h
    all_goals first | (cases h; done) | exact ⟨_, (Sum.inr.inj h).symm⟩
  · intro E h
    repeat' split at h
    all_goals first | (cases h; done) | (obtain rfl := Sum.inl.inj h; simp)
theorem ocSell_r {V : LV} {x dy pr : Int32} : (∀ r, ocSell V x dy pr = .inr r → ∃ x, r = .int x) ∧ ∀ E, ocSell V x dy pr = .inl E → E ∈ [eIOB, eIAE, eISE] := by
  unfold ocSell
  constructor
  · intro r h
    repeat' split at h
    all_goals first | (cases h; done) | exact ⟨_, (Sum.inr.inj h).symm⟩
  · intro E h
    repeat' split at h
    all_goals first | (cases h; done) | (obtain rfl := Sum.inl.inj h; simp)
theorem ocClose_r {V : LV} : (∀ r, ocClose V  = .inr r → ∃ x, r = .int x) ∧ ∀ E, ocClose V  = .inl E → E ∈ [eISE] := by
  unfold ocClose
  constructor
  · intro r h
    repeat' split at h
    all_goals first | (cases h; done) | exact ⟨_, (Sum.inr.inj h).symm⟩
  · intro E h
    repeat' split at h
    all_goals first | (cases h; done) | (obtain rfl := Sum.inl.inj h; simp)
theorem ocStart_r {V : LV} {ba : Int32} : (∀ r, ocStart V ba = .inr r → ∃ x, r = .int x) ∧ ∀ E, ocStart V ba = .inl E → E ∈ [eIAE] := by
  unfold ocStart
  constructor
  · intro r h
    repeat' split at h
    all_goals first | (cases h; done) | exact ⟨_, (Sum.inr.inj h).symm⟩
  · intro E h
    repeat' split at h
    all_goals first | (cases h; done) | (obtain rfl := Sum.inl.inj h; simp)
set_option maxRecDepth 100000 in
set_option maxHeartbeats 400000 in
theorem call_any (l : Launch) (D : va_G) (cy : Nat → ClassId) (B : Nat) (od : Nat → Option Nat) (hl9 : l.stackTraces = false) {A : AH} {g n : Nat} {L : BL} {S : StV} {Z : SV} {W : LW} (hL : LedA cy A W) (hb : BkR cy A g L S Z) (hS : S = vS W.1) (hn : n < 10000000) (z : Nat) (w : Nat) (hw14 : w < 14) : CT l D cy B od yL_call cL_call 6 (some .int) rmL_call [.ref 0, .ref g, .int (nI w), .int (nI n)] A z (HQ2 (ocW W.1 n w) (ChP cy A W (rW W.1 n w)) A) := by
  subst hS
  have hw : WfS (vS W.1) := hL.1.2.2.1
  match w, hw14 with
  | 0, _ => exact ct_L_call_0 l D cy B od hb hw hn (cp_X7_addEntry l D cy B od hl9 hL) hL.1.1 ocAddE_r.1 ocAddE_r.2 z
  | 1, _ => exact ct_L_call_1 l D cy B od hb hw hn (cp_X7_addEntry l D cy B od hl9 hL) hL.1.1 ocAddE_r.1 ocAddE_r.2 z
  | 2, _ => exact ct_L_call_2 l D cy B od hb hw hn (cp_X7_addEntry l D cy B od hl9 hL) hL.1.1 ocAddE_r.1 ocAddE_r.2 z
  | 3, _ => exact ct_L_call_3 l D cy B od hb hw hn (cp_X7_addEntry l D cy B od hl9 hL) hL.1.1 ocAddE_r.1 ocAddE_r.2 z
  | 4, _ => exact ct_L_call_4 l D cy B od hb hw hn (cp_X7_pay l D cy B od hl9 hL) hL.1.1 ocPay_r.1 ocPay_r.2 z
  | 5, _ => exact ct_L_call_5 l D cy B od hb hw hn (cp_X7_pay l D cy B od hl9 hL) hL.1.1 ocPay_r.1 ocPay_r.2 z
  | 6, _ => exact ct_L_call_6 l D cy B od hb hw hn (cp_X7_cancel l D cy B od hl9 hL) hL.1.1 ocCan_r.1 ocCan_r.2 z
  | 7, _ => exact ct_L_call_7 l D cy B od hb hw hn (cp_X7_addRoom l D cy B od hl9 hL) hL.1.1 ocAddR_r.1 ocAddR_r.2 z
  | 8, _ => exact ct_L_call_8 l D cy B od hb hw hn (cp_X7_setOffice l D cy B od hl9 hL) hL.1.1 ocOff_r.1 ocOff_r.2 z
  | 9, _ => exact ct_L_call_9 l D cy B od hb hw hn (cp_X7_addAsset l D cy B od hl9 hL) hL.1.1 ocAddA_r.1 ocAddA_r.2 z
  | 10, _ => exact ct_L_call_10 l D cy B od hb hw hn (cp_X7_addAsset l D cy B od hl9 hL) hL.1.1 ocAddA_r.1 ocAddA_r.2 z
  | 11, _ => exact ct_L_call_11 l D cy B od hb hw hn (cp_X7_sellAsset l D cy B od hl9 hL) hL.1.1 ocSell_r.1 ocSell_r.2 z
  | 12, _ => exact ct_L_call_12 l D cy B od hb hw hn (cp_X7_closeQuarter l D cy B od hl9 hL) hL.1.1 ocClose_r.1 ocClose_r.2 z
  | 13, _ => exact ct_L_call_13 l D cy B od hb hw hn (cp_X7_setStart l D cy B od hl9 hL) hL.1.1 ocStart_r.1 ocStart_r.2 z
  | w + 14, h => exact absurd h (by omega)
set_option maxRecDepth 100000 in
set_option maxHeartbeats 400000 in
theorem kept_any {V : LV} {n : Nat} {S9 : StV} {y9 : Value} (hi : Inv3 (vZ V) (vS V)) (hgz : RngZ (vZ V)) (hw : WfS (vS V)) (hn : n < 10000000) (w : Nat) (hw14 : w < 14) (ho : ocW V n w = .inr y9) (hR : rW V n w S9) : KpQ (vZ V) S9 y9 ∧ StB (sW V n w) S9 := by
  have hw1 := hw.1
  have hw2 := hw.2.1
  have hw3 := hw.2.2.1
  match w, hw14, ho, hR with
  | 0, _, ho, hR => exact ⟨kp_addEntry hi hw ho rfl hR, stb_addE hR⟩
  | 1, _, ho, hR => exact ⟨kp_addEntry hi hw ho rfl hR, stb_addE hR⟩
  | 2, _, ho, hR => exact ⟨kp_addEntry hi hw ho rfl hR, stb_addE hR⟩
  | 3, _, ho, hR => exact ⟨kp_addEntry hi hw ho rfl hR, stb_addE hR⟩
  | 4, _, ho, hR => exact ⟨kp_pay hi hw ho rfl hR, (by have e9 : (nI (n % ((vS V).1.1 + 1))).toNatClampNeg = (n % ((vS V).1.1 + 1)) := nI_clamp (Nat.lt_of_le_of_lt (Nat.mod_le _ _) (by omega)); unfold rW at hR; rw [e9] at hR; unfold sW; subst hR; exact StB.rf _)⟩
  | 5, _, ho, hR => exact ⟨kp_pay hi hw ho rfl hR, (by have e9 : (nI (n % ((vS V).1.1 + 1))).toNatClampNeg = (n % ((vS V).1.1 + 1)) := nI_clamp (Nat.lt_of_le_of_lt (Nat.mod_le _ _) (by omega)); unfold rW at hR; rw [e9] at hR; unfold sW; subst hR; exact StB.rf _)⟩
  | 6, _, ho, hR => exact ⟨kp_cancel hi hw ho rfl hR, (by have e9 : (nI (n % ((vS V).1.1 + 1))).toNatClampNeg = (n % ((vS V).1.1 + 1)) := nI_clamp (Nat.lt_of_le_of_lt (Nat.mod_le _ _) (by omega)); unfold rW at hR; rw [e9] at hR; unfold sW; subst hR; exact StB.rf _)⟩
  | 7, _, ho, hR => exact ⟨kp_addRoom hi hw ho rfl hR, stb_addR hR⟩
  | 8, _, ho, hR => exact ⟨kp_setOffice hi hw ho rfl hR, (by have e9 : (nI (n % ((vS V).2.1.1 + 1))).toNatClampNeg = (n % ((vS V).2.1.1 + 1)) := nI_clamp (Nat.lt_of_le_of_lt (Nat.mod_le _ _) (by omega)); unfold rW at hR; rw [e9] at hR; unfold sW; subst hR; exact StB.rf _)⟩
  | 9, _, ho, hR => exact ⟨kp_addAsset hi hw ho rfl hR, stb_addA hR⟩
  | 10, _, ho, hR => exact ⟨kp_addAsset hi hw ho rfl hR, stb_addA hR⟩
  | 11, _, ho, hR => exact ⟨kp_sellAsset hi hw ho rfl hR, (by have e9 : (nI (n % ((vS V).2.2.1.1 + 1))).toNatClampNeg = (n % ((vS V).2.2.1.1 + 1)) := nI_clamp (Nat.lt_of_le_of_lt (Nat.mod_le _ _) (by omega)); unfold rW at hR; rw [e9] at hR; unfold sW; subst hR; exact StB.rf _)⟩
  | 12, _, ho, hR => exact ⟨kp_closeQuarter hi hgz hw ho rfl rfl hR, (by unfold rW at hR; subst hR; exact StB.rf _)⟩
  | 13, _, ho, hR => exact ⟨kp_setStart hi hw ho rfl hR, (by unfold rW at hR; subst hR; exact StB.rf _)⟩
  | w + 14, h, _, _ => exact absurd h (by omega)
