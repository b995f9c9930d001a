/-! 55: the text of a drawn book -/
abbrev rqX8_text : Room := { frames := 9, cells := 80, slots := 90000, locals := 210 }
/-- a text that the machine keeps -/
def strN (j : Nat) : List Nat := (sB j).map (fun x => x.toNatClampNeg)
theorem strN_ok : ∀ j, j < 39 → (strN j).length = (sB j).length ∧ ∀ k, k < (sB j).length → (sB j).getD k 0 = txB (strN j) k ∧ (strN j).getD k 0 < 128 := by decide
theorem str_old {cy : Nat → ClassId} {A : AH} {j : Nat} (hj : j < 39) : StrA cy A (1000000 + j) (strN j) := by
  obtain ⟨h1, h2⟩ := strN_ok j hj
  have h3 := sB_len j hj
  exact ⟨fun k hk => (h2 k (by omega)).2, by omega, Or.inr ⟨j, hj, rfl, h1.symm, fun k hk => (h2 k (by omega)).1⟩⟩
theorem decN_le : ∀ i n, 1 ≤ i → i ≤ 9 → n < 10 ^ i → (decN n).length ≤ i
  | 0, _, h, _, _ => absurd h (by decide)
  | i + 1, n, _, h2, h3 => by
    by_cases e : i = 0 ∨ 10 ^ i ≤ n
    · rw [decN_len i n h3 e (by omega)]; exact Nat.le_refl _
    · have := decN_le i n (by omega) (by omega) (by omega); omega
theorem AppQ.grw {cy : Nat → ClassId} {A0 A A' : AH} {b v z z' g0 n : Nat} {tx : List Nat} (h : AppQ cy A A' b v z z' tx) (hG : Grw A0 g0 A z n) (h0 : FRs A0 g0) (hb : g0 ≤ b) (hv : g0 ≤ v) : ∃ v' z1, z' = z1 + 1 ∧ SbA cy A' b v' tx ∧ g0 ≤ v' ∧ Grw A0 g0 A' z1 (n + 1) := by
  obtain ⟨v', z1, e, h1, h2, h3, h4⟩ := h
  refine ⟨v', z1, e, h3, ?_, fun k y hk => ?_, ?_, ?_, h2⟩
  · have := hG.2.1; omega
  · have hlt := h0.lt hk
    have := hG.2.1
    rw [h4 k (by omega) (by omega) (by omega)]
    exact hG.1 _ _ hk
  · have := hG.2.1; omega
  · have := hG.2.2.1; omega
def brT (od : Nat → Option Nat) : Nat → List Nat
  | 0 => []
  | k + 1 => brT od k ++ strN 16 ++ decN (dLim od (k + 1)) ++ [32] ++ decN (dB od k / 3000 % 901)
def rmT (od : Nat → Option Nat) : Nat → List Nat
  | 0 => []
  | k + 1 => if dR od k % 3 = 0 then rmT od k ++ strN 17 ++ decN (1 + dR od k % 500) else rmT od k ++ strN 17 ++ decN (1 + dR od k % 500) ++ strN 18 ++ decN (dFr od k) ++ [32] ++ decN (dFr od k + dR od k / 180000 % (360 - dFr od k))
def hdT (od : Nat → Option Nat) : List Nat := strN 12 ++ decN (dX od % 500000) ++ strN 13 ++ decN (dX od / 7 % 90000) ++ [32] ++ decN (dX od / 7 % 90000 + dY od % 200000) ++ strN 14 ++ decN (dY od / 9 % 101) ++ strN 15 ++ decN (dX od / 500000 % 901)
/-- the text of the drawn book -/
def textD (od : Nat → Option Nat) : List Nat := hdT od ++ brT od (dX od % 6) ++ rmT od (dY od % 5)
theorem dLim_le (od : Nat → Option Nat) : ∀ k, dLim od k ≤ 3000000 * k
  | 0 => Nat.le_refl _
  | k + 1 => by
    have := dLim_le od k
    show dLim od k + (1 + dB od k % (if k = 0 then 400000 else 3000000)) ≤ _
    have : dB od k % (if k = 0 then 400000 else 3000000) < 3000000 := by
      by_cases e : k = 0
      · rw [if_pos e]; omega
      · rw [if_neg e]; omega
    omega
theorem sl12 : (strN 12).length = 6 := by decide
theorem sl13 : (strN 13).length = 8 := by decide
theorem sl14 : (strN 14).length = 10 := by decide
theorem sl15 : (strN 15).length = 7 := by decide
theorem sl16 : (strN 16).length = 9 := by decide
theorem sl17 : (strN 17).length = 6 := by decide
theorem sl18 : (strN 18).length = 8 := by decide
theorem hd_len (od : Nat → Option Nat) : (hdT od).length ≤ 55 := by
  unfold hdT
  simp only [List.length_append, sl12, sl13, sl14, sl15, List.length_cons, List.length_nil]
  have h1 := decN_le 6 (dX od % 500000) (by decide) (by decide) (by omega)
  have h2 := decN_le 5 (dX od / 7 % 90000) (by decide) (by decide) (by omega)
  have h3 := decN_le 6 (dX od / 7 % 90000 + dY od % 200000) (by decide) (by decide) (by omega)
  have h4 := decN_le 3 (dY od / 9 % 101) (by decide) (by decide) (by omega)
  have h5 := decN_le 3 (dX od / 500000 % 901) (by decide) (by decide) (by omega)
  omega
theorem br_len (od : Nat → Option Nat) : ∀ k, k ≤ 5 → (brT od k).length ≤ 21 * k
  | 0, _ => Nat.le_refl _
  | k + 1, hk => by
    have ih := br_len od k (by omega)
    unfold brT
    simp only [List.length_append, sl16, List.length_cons, List.length_nil]
    have hl := dLim_le od (k + 1)
    have h1 := decN_le 8 (dLim od (k + 1)) (by decide) (by decide) (by omega)
    have h2 := decN_le 3 (dB od k / 3000 % 901) (by decide) (by decide) (by omega)
    omega
theorem rm_len (od : Nat → Option Nat) : ∀ k, (rmT od k).length ≤ 24 * k
  | 0 => Nat.le_refl _
  | k + 1 => by
    have ih := rm_len od k
    have h1 := decN_le 3 (1 + dR od k % 500) (by decide) (by decide) (by omega)
    have hf : dFr od k < 360 := Nat.mod_lt _ (by decide)
    have h2 := decN_le 3 (dFr od k) (by decide) (by decide) (by omega)
    have h9 : dR od k / 180000 % (360 - dFr od k) < 360 - dFr od k := Nat.mod_lt _ (by omega)
    have h3 := decN_le 3 (dFr od k + dR od k / 180000 % (360 - dFr od k)) (by decide) (by decide) (by omega)
    unfold rmT
    by_cases e : dR od k % 3 = 0
    · rw [if_pos e]; simp only [List.length_append, sl17]; omega
    · rw [if_neg e]; simp only [List.length_append, sl17, sl18, List.length_cons, List.length_nil]; omega
/-- a cell that is no builder and no row of bytes stays -/
theorem AppQ.it {cy : Nat → ClassId} {A A' : AH} {b v z z' k cap : Nat} {tx ty : List Nat} {ml : Int32} {f : Nat → Int32} {fs : List Value} (h : AppQ cy A A' b v z z' tx) (hE : SbE cy A b v ty cap ml f) (hF : FRs A z) (hk : A k = some (.inr (10, fs))) : A' k = some (.inr (10, fs)) := by
  obtain ⟨v', z1, -, -, -, -, h4⟩ := h
  exact (h4 k (AH.ne hk hE.2.1 (by intro q; cases q)) (AH.ne hk hE.2.2.1 (by intro q; cases q)) (by have := hF.lt hk; omega)).trans hk
theorem AppQ.sb {cy : Nat → ClassId} {A A' : AH} {b v z z' k cap : Nat} {tx ty : List Nat} {ml : Int32} {f : Nat → Int32} {fs : List Value} (h : AppQ cy A A' b v z z' tx) (hE : SbE cy A b v ty cap ml f) (hF : FRs A z) (hk : A k = some (.inr (12, fs))) (hn : k ≠ b) : A' k = some (.inr (12, fs)) := by
  obtain ⟨v', z1, -, -, -, -, h4⟩ := h
  exact (h4 k hn (AH.ne hk hE.2.2.1 (by intro q; cases q)) (by have := hF.lt hk; omega)).trans hk
set_option maxRecDepth 100000 in
set_option maxHeartbeats 16000000 in
theorem cg_X8_text (l : Launch) (D : va_G) (cy : Nat → ClassId) (B : Nat) (od : Nat → Option Nat) {A : AH} {g : Nat} {L : BL} (hb : BkR cy A g L (dS od) (dZ od)) : CG l D cy B od yX8_text cX8_text 4 (some (.object "java/lang/String")) rqX8_text [.ref g] A (fun v A' => ∃ a, v = some (.ref a) ∧ StrA cy A' a (textD od)) := by
  intro z hF hz
  refine CT.of (by decide) tX8_text okX8_text (Nat.le_of_ble_eq_true rfl) (q0 := tX8_text[0]) rfl rfl ?_
  intro p e s m args below meth c X hnm
  have hx9 : dX od < 1000000000 := pick_lt od 0 (by decide)
  have hy9 : dY od < 1000000000 := pick_lt od 1 (by decide)
  have d1 := decN_le 6 (dX od % 500000) (by decide) (by decide) (by omega)
  have d2 := decN_le 5 (dX od / 7 % 90000) (by decide) (by decide) (by omega)
  have d3 := decN_le 6 (dX od / 7 % 90000 + dY od % 200000) (by decide) (by decide) (by omega)
  have d4 := decN_le 3 (dY od / 9 % 101) (by decide) (by decide) (by omega)
  have d5 := decN_le 3 (dX od / 500000 % 901) (by decide) (by decide) (by omega)
  have hd := hd_len od
  have hz9 : z + 80 ≤ 900000 := hz
  have hL0 : LsC cy A (L.1 0) (L.2.1 0) (L.2.2.1 0) (dX od % 6) (L.2.2.2 0) := hb.2.1 0 (by decide)
  have hL1 : LsC cy A (L.1 1) (L.2.1 1) (L.2.2.1 1) (dY od % 5) (L.2.2.2 1) := hb.2.1 1 (by decide)
  have hN0 := hL0.2.1
  have hN1 := hL1.2.1
  have loopR : ∀ (b9 : Nat), z ≤ b9 → ∀ (d i : Nat) (A1 : AH) (z1 it v1 : Nat) (lr : Int32) (o3 : Option Value), i + d = dY od % 5 → Grw A z A1 z1 (41 + 6 * i) → z ≤ it → A1 it = some (itE i lr (L.2.1 1) (L.1 1)) → z ≤ v1 → SbA cy A1 b9 v1 (hdT od ++ brT od (dX od % 6) ++ rmT od (i)) → G p l e rqX8_text s m args below meth c D B od 4 tX8_text (FinQ false D B od (fun v A' z' => (fun v A' => ∃ a, v = some (.ref a) ∧ StrA cy A' a (textD od)) v A' ∧ ∃ z1, z' = z1 + 1 ∧ Grw A z A' z1 rqX8_text.cells) (fun _ _ => True) args s below rqX8_text.cells rqX8_text.slots) (41 + 6 * i) (33000 + 6000 * i) A1 (z1 + 1) 65 [some (.ref g), some (.ref b9), some (.ref it), o3] [] := by
    intro b9 hb9 d
    induction d with
    | zero =>
      intro i A1 z1 it v1 lr o3 hid hG hit hI hv1 hS1
      have e : i = dY od % 5 := by omega
      subst e
      refine g_aload_n X rfl rfl ?_
      refine g_hasNext X rfl lmX8_52 (hL1.le hG.1).1 hI (by omega) hN1 (Nat.le_of_ble_eq_true rfl) ⟨by decide, by decide⟩ ⟨by show _ ≤ 80; omega, by show _ ≤ 90000; omega⟩ ?_
      refine g_if_eqB X rfl (fun _ => ?_) (fun h => absurd (of_decide_eq_true h) (by omega))
      refine g_aload_n X rfl rfl ?_
      obtain ⟨cp0, ml0, f0, hE0⟩ := hS1
      refine g_callV X rfl lcJ4_toString_0e30d lmX8_107 lsJ4_toString_0e30d (ct_toString l D cy B od hE0 (by have := br_len od (dX od % 6) (by omega); have := rm_len od (dY od % 5); simp only [List.length_append]; omega) hG.2.2.2 (by have := hG.2.2.1; omega)) (ci := 12) hE0.2.1 rfl rfl rfl (Nat.le_of_ble_eq_true rfl) ⟨by decide, by decide⟩ ⟨by show _ + 2 ≤ 80; omega, by show _ + 504 ≤ 90000; omega⟩ (fun w2 A2 y2 q2 => ?_)
      obtain ⟨rfl, rfl, hF2, hs2, hf2⟩ := q2
      exact g_aret X rfl rfl (by show 41 + 6 * (dY od % 5) + 2 ≤ 80; omega) (by show 33000 + 6000 * (dY od % 5) + 504 ≤ 90000; omega) ⟨⟨z1, rfl, hs2⟩, z1 + 2, rfl, fun k y hk => by rw [hf2 k (by have := hF.lt hk; have := hG.2.1; omega)]; exact hG.1 _ _ hk, by have := hG.2.1; omega, by have := hG.2.2.1; show z1 + 2 ≤ z + 80; omega, hF2⟩
    | succ d ih =>
      intro i A1 z1 it v1 lr o3 hid hG hit hI hv1 hS1
      have hi : i < dY od % 5 := by omega
      have hG1 : Grw A z (upA A1 it (itE (i + 1) (nI i) (L.2.1 1) (L.1 1))) z1 (41 + 6 * i) := hG.up hF hit (hG.2.2.2.lt hI)
      obtain ⟨cp0, ml0, f0, hE0⟩ := hS1
      have n1 : b9 ≠ it := AH.ne hE0.2.1 hI (by intro q; cases q)
      have n2 : v1 ≠ it := AH.ne hE0.2.2.1 hI (by intro q; cases q)
      have hS1 : SbA cy (upA A1 it (itE (i + 1) (nI i) (L.2.1 1) (L.1 1))) b9 v1 (hdT od ++ brT od (dX od % 6) ++ rmT od (i)) := ⟨cp0, ml0, f0, hE0.1, (upA_ne n1).trans hE0.2.1, (upA_ne n2).trans hE0.2.2.1, hE0.2.2.2⟩
      obtain ⟨r, hr0, hrv⟩ := hb.2.2.2.1 i hi
      refine g_aload_n X rfl rfl ?_
      refine g_hasNext X rfl lmX8_52 (hL1.le hG.1).1 hI (by omega) hN1 (Nat.le_of_ble_eq_true rfl) ⟨by decide, by decide⟩ ⟨by show _ ≤ 80; omega, by show _ ≤ 90000; omega⟩ ?_
      refine g_if_eqB X rfl (fun h => absurd hi (of_decide_eq_false h)) (fun _ => ?_)
      refine g_aload_n X rfl rfl ?_
      refine g_next X rfl lmX8_58 (hL1.le hG.1) hI hi (Nat.le_of_ble_eq_true rfl) ⟨by decide, by decide⟩ ⟨by show _ ≤ 80; omega, by show _ ≤ 90000; omega⟩ ?_
      have hr := hG1.1 _ _ hr0
      refine g_castI X rfl clX8_62 hr ?_
      first | refine g_astore_nS X rfl (by decide) rfl ?_ | refine g_astore_n X rfl (by decide) ?_
      have hf9 : dFr od i < 360 := Nat.mod_lt _ (by decide)
      have h99 : dR od i / 180000 % (360 - dFr od i) < 360 - dFr od i := Nat.mod_lt _ (by omega)
      have hr9 : dR od i < 1000000000 := pick_lt od (8 + i) (by decide)
      have e1 := decN_le 3 (1 + dR od i % 500) (by decide) (by decide) (by omega)
      have e2 := decN_le 3 (dFr od i) (by decide) (by decide) (by omega)
      have e3 := decN_le 3 (dFr od i + dR od i / 180000 % (360 - dFr od i)) (by decide) (by decide) (by omega)
      have hb8 := br_len od (dX od % 6) (by omega)
      have hr8 := rm_len od i
      refine g_aload_n X rfl rfl ?_
      refine g_ldcS X rfl (j := 17) rfl ?_
      obtain ⟨cp1, ml1, f1, hE1⟩ := hS1
      refine g_callV X rfl lcJ4_append_15ec4 lmX8_100 lsJ4_append_15ec4 (ct_appendS l D cy B od hE1 (str_old (j := 17) (by decide)) (by simp only [List.length_append, sl12, sl13, sl14, sl15, sl16, sl17, sl18, List.length_cons, List.length_nil]; omega) hG1.2.2.2 (by have := hG1.2.2.1; omega)) (ci := 12) hE1.2.1 rfl rfl rfl (Nat.le_of_ble_eq_true rfl) ⟨by decide, by decide⟩ ⟨by show 41 + 6 * i + 1 ≤ 80; omega, by show 33000 + 6000 * i + 1000 ≤ 90000; omega⟩ (fun w2 A2 y2 q2 => ?_)
      obtain ⟨rfl, q2b⟩ := q2
      obtain ⟨v2, z2, rfl, hS2, hv2, hG2⟩ := q2b.grw hG1 hF hb9 hv1
      have hI2 := q2b.it hE1 hG1.2.2.2 upA_eq
      refine g_aload_n X rfl rfl ?_
      refine g_iconst X rfl (v := nI 0) (by decide) ?_
      refine g_ialdN X rfl (hG2.1 _ _ hr0) (by decide) (by decide) ?_
      rw [show r 0 = nI (1 + dR od i % 500) from hrv 0 (by decide)]
      obtain ⟨cp2, ml2, f2, hE2⟩ := hS2
      refine g_callV X rfl lcJ4_append_bf812 lmX8_104 lsJ4_append_bf812 (ct_appendI l D cy B od hE2 (n := 1 + dR od i % 500) (by omega) (by simp only [List.length_append, sl12, sl13, sl14, sl15, sl16, sl17, sl18, List.length_cons, List.length_nil]; omega) hG2.2.2.2 (by have := hG2.2.2.1; omega)) (ci := 12) hE2.2.1 rfl rfl rfl (Nat.le_of_ble_eq_true rfl) ⟨by decide, by decide⟩ ⟨by show 41 + 6 * i + 1 + 1 ≤ 80; omega, by show 33000 + 6000 * i + 1000 + 1000 ≤ 90000; omega⟩ (fun w3 A3 y3 q3 => ?_)
      obtain ⟨rfl, q3b⟩ := q3
      obtain ⟨v3, z3, rfl, hS3, hv3, hG3⟩ := q3b.grw hG2 hF hb9 hv2
      have hI3 := q3b.it hE2 hG2.2.2.2 hI2
      refine g_pop X rfl rfl ?_
      refine g_aload_n X rfl rfl ?_
      refine g_iconst X rfl (v := nI 1) (by decide) ?_
      refine g_ialdN X rfl (hG3.1 _ _ hr0) (by decide) (by decide) ?_
      rw [show r 1 = dRm od 1 i from hrv 1 (by decide)]
      refine g_iconst X rfl (v := (-1)) (by decide) ?_
      refine g_icmp_eq X rfl (fun h => ?_) (fun h => ?_)
      · have h3 : dR od i % 3 = 0 := by
          by_cases e : dR od i % 3 = 0
          · exact e
          · rw [show dRm od 1 i = nI (dFr od i) from by unfold dRm; rw [if_neg (by decide), if_neg e, if_pos rfl]] at h
            exact absurd h (nI_nm1 (by omega))
        refine g_goto X rfl ?_
        have hS9 : SbA cy A3 b9 v3 (hdT od ++ brT od (dX od % 6) ++ rmT od (i + 1)) := by
          show SbA cy A3 b9 v3 (hdT od ++ brT od (dX od % 6) ++ (if dR od i % 3 = 0 then _ else _))
          rw [if_pos h3]
          simpa only [List.append_assoc] using hS3
        exact g_more (by show 41 + 6 * i + 1 + 1 ≤ _; omega) (by show 33000 + 6000 * i + 1000 + 1000 ≤ _; omega) (ih (i + 1) A3 z3 it v3 _ _ (by omega) (hG3.wide (by omega)) hit hI3 hv3 hS9)
      · have h3 : ¬ dR od i % 3 = 0 := by
          intro e
          exact h (by unfold dRm; rw [if_neg (by decide), if_pos e])
        refine g_aload_n X rfl rfl ?_
        refine g_ldcS X rfl (j := 18) rfl ?_
        obtain ⟨cp3, ml3, f3, hE3⟩ := hS3
        refine g_callV X rfl lcJ4_append_15ec4 lmX8_100 lsJ4_append_15ec4 (ct_appendS l D cy B od hE3 (str_old (j := 18) (by decide)) (by simp only [List.length_append, sl12, sl13, sl14, sl15, sl16, sl17, sl18, List.length_cons, List.length_nil]; omega) hG3.2.2.2 (by have := hG3.2.2.1; omega)) (ci := 12) hE3.2.1 rfl rfl rfl (Nat.le_of_ble_eq_true rfl) ⟨by decide, by decide⟩ ⟨by show 41 + 6 * i + 1 + 1 + 1 ≤ 80; omega, by show 33000 + 6000 * i + 1000 + 1000 + 1000 ≤ 90000; omega⟩ (fun w4 A4 y4 q4 => ?_)
        obtain ⟨rfl, q4b⟩ := q4
        obtain ⟨v4, z4, rfl, hS4, hv4, hG4⟩ := q4b.grw hG3 hF hb9 hv3
        have hI4 := q4b.it hE3 hG3.2.2.2 hI3
        refine g_aload_n X rfl rfl ?_
        refine g_iconst X rfl (v := nI 1) (by decide) ?_
        refine g_ialdN X rfl (hG4.1 _ _ hr0) (by decide) (by decide) ?_
        rw [show r 1 = nI (dFr od i) from (hrv 1 (by decide)).trans (by show dRm od 1 i = _; unfold dRm; rw [if_neg (by decide), if_neg h3, if_pos rfl])]
        obtain ⟨cp4, ml4, f4, hE4⟩ := hS4
        refine g_callV X rfl lcJ4_append_bf812 lmX8_104 lsJ4_append_bf812 (ct_appendI l D cy B od hE4 (n := dFr od i) (by omega) (by simp only [List.length_append, sl12, sl13, sl14, sl15, sl16, sl17, sl18, List.length_cons, List.length_nil]; omega) hG4.2.2.2 (by have := hG4.2.2.1; omega)) (ci := 12) hE4.2.1 rfl rfl rfl (Nat.le_of_ble_eq_true rfl) ⟨by decide, by decide⟩ ⟨by show 41 + 6 * i + 1 + 1 + 1 + 1 ≤ 80; omega, by show 33000 + 6000 * i + 1000 + 1000 + 1000 + 1000 ≤ 90000; omega⟩ (fun w5 A5 y5 q5 => ?_)
        obtain ⟨rfl, q5b⟩ := q5
        obtain ⟨v5, z5, rfl, hS5, hv5, hG5⟩ := q5b.grw hG4 hF hb9 hv4
        have hI5 := q5b.it hE4 hG4.2.2.2 hI4
        refine g_bipush X rfl (v := nI 32) (by decide) ?_
        obtain ⟨cp5, ml5, f5, hE5⟩ := hS5
        refine g_callV X rfl lcJ4_append_cf468 lmX8_116 lsJ4_append_cf468 (ct_appendC l D cy B od hE5 (ch := 32) (by decide) (by simp only [List.length_append, sl12, sl13, sl14, sl15, sl16, sl17, sl18, List.length_cons, List.length_nil]; omega) hG5.2.2.2 (by have := hG5.2.2.1; omega)) (ci := 12) hE5.2.1 rfl rfl rfl (Nat.le_of_ble_eq_true rfl) ⟨by decide, by decide⟩ ⟨by show 41 + 6 * i + 1 + 1 + 1 + 1 + 1 ≤ 80; omega, by show 33000 + 6000 * i + 1000 + 1000 + 1000 + 1000 + 1000 ≤ 90000; omega⟩ (fun w6 A6 y6 q6 => ?_)
        obtain ⟨rfl, q6b⟩ := q6
        obtain ⟨v6, z6, rfl, hS6, hv6, hG6⟩ := q6b.grw hG5 hF hb9 hv5
        have hI6 := q6b.it hE5 hG5.2.2.2 hI5
        refine g_aload_n X rfl rfl ?_
        refine g_iconst X rfl (v := nI 2) (by decide) ?_
        refine g_ialdN X rfl (hG6.1 _ _ hr0) (by decide) (by decide) ?_
        rw [show r 2 = nI (dFr od i + dR od i / 180000 % (360 - dFr od i)) from (hrv 2 (by decide)).trans (by show dRm od 2 i = _; unfold dRm; rw [if_neg (by decide), if_neg h3, if_neg (by decide)])]
        obtain ⟨cp6, ml6, f6, hE6⟩ := hS6
        refine g_callV X rfl lcJ4_append_bf812 lmX8_104 lsJ4_append_bf812 (ct_appendI l D cy B od hE6 (n := dFr od i + dR od i / 180000 % (360 - dFr od i)) (by omega) (by simp only [List.length_append, sl12, sl13, sl14, sl15, sl16, sl17, sl18, List.length_cons, List.length_nil]; omega) hG6.2.2.2 (by have := hG6.2.2.1; omega)) (ci := 12) hE6.2.1 rfl rfl rfl (Nat.le_of_ble_eq_true rfl) ⟨by decide, by decide⟩ ⟨by show 41 + 6 * i + 1 + 1 + 1 + 1 + 1 + 1 ≤ 80; omega, by show 33000 + 6000 * i + 1000 + 1000 + 1000 + 1000 + 1000 + 1000 ≤ 90000; omega⟩ (fun w7 A7 y7 q7 => ?_)
        obtain ⟨rfl, q7b⟩ := q7
        obtain ⟨v7, z7, rfl, hS7, hv7, hG7⟩ := q7b.grw hG6 hF hb9 hv6
        have hI7 := q7b.it hE6 hG6.2.2.2 hI6
        refine g_pop X rfl rfl ?_
        refine g_goto X rfl ?_
        have hS9 : SbA cy A7 b9 v7 (hdT od ++ brT od (dX od % 6) ++ rmT od (i + 1)) := by
          show SbA cy A7 b9 v7 (hdT od ++ brT od (dX od % 6) ++ (if dR od i % 3 = 0 then _ else _))
          rw [if_neg h3]
          simpa only [List.append_assoc] using hS7
        exact g_more (by show 41 + 6 * i + 1 + 1 + 1 + 1 + 1 + 1 ≤ _; omega) (by show 33000 + 6000 * i + 1000 + 1000 + 1000 + 1000 + 1000 + 1000 ≤ _; omega) (ih (i + 1) A7 z7 it v7 _ _ (by omega) (hG7.wide (by omega)) hit hI7 hv7 hS9)
  have loopB : ∀ (b9 : Nat), z ≤ b9 → ∀ (d i : Nat) (A1 : AH) (z1 it v1 : Nat) (lr : Int32) (o3 : Option Value), i + d = dX od % 6 → Grw A z A1 z1 (20 + 4 * i) → z ≤ it → A1 it = some (itE i lr (L.2.1 0) (L.1 0)) → z ≤ v1 → SbA cy A1 b9 v1 (hdT od ++ brT od (i)) → G p l e rqX8_text s m args below meth c D B od 4 tX8_text (FinQ false D B od (fun v A' z' => (fun v A' => ∃ a, v = some (.ref a) ∧ StrA cy A' a (textD od)) v A' ∧ ∃ z1, z' = z1 + 1 ∧ Grw A z A' z1 rqX8_text.cells) (fun _ _ => True) args s below rqX8_text.cells rqX8_text.slots) (20 + 4 * i) (12100 + 4000 * i) A1 (z1 + 1) 39 [some (.ref g), some (.ref b9), some (.ref it), o3] [] := by
    intro b9 hb9 d
    induction d with
    | zero =>
      intro i A1 z1 it v1 lr o3 hid hG hit hI hv1 hS1
      have e : i = dX od % 6 := by omega
      subst e
      refine g_aload_n X rfl rfl ?_
      refine g_hasNext X rfl lmX8_52 (hL0.le hG.1).1 hI (by omega) hN0 (Nat.le_of_ble_eq_true rfl) ⟨by decide, by decide⟩ ⟨by show _ ≤ 80; omega, by show _ ≤ 90000; omega⟩ ?_
      refine g_if_eqB X rfl (fun _ => ?_) (fun h => absurd (of_decide_eq_true h) (by omega))
      refine g_aload_n X rfl rfl ?_
      refine g_get X rfl flX8_33 (ci := 8) rfl (hG.1 _ _ hb.1) rfl ?_
      refine g_iter X rfl lmX8_48 (hL1.le hG.1) hG.2.2.2 (by have := hG.2.2.1; omega) (Nat.le_of_ble_eq_true rfl) ⟨by decide, by decide⟩ ⟨by show _ + 1 ≤ 80; omega, by show _ + 4 ≤ 90000; omega⟩ ?_
      first | refine g_astore_nS X rfl (by decide) rfl ?_ | refine g_astore_n X rfl (by decide) ?_
      have hS9 : SbA cy (upA A1 z1 (itE 0 (-1) (L.2.1 1) (L.1 1))) b9 v1 (hdT od ++ brT od (dX od % 6) ++ rmT od 0) := by
        show SbA cy _ b9 v1 (hdT od ++ brT od (dX od % 6) ++ [])
        rw [List.append_nil]
        exact hS1.le ((HLe.rf A1).up hG.2.2.2.at)
      exact g_more (by show 20 + 4 * (dX od % 6) + 1 ≤ _; omega) (by show 12100 + 4000 * (dX od % 6) + 4 ≤ _; omega) (loopR b9 hb9 (dY od % 5) 0 _ (z1 + 1) z1 v1 (-1) _ (Nat.zero_add _) ((hG.new hF).wide (by omega)) hG.2.1 upA_eq hv1 hS9)
    | succ d ih =>
      intro i A1 z1 it v1 lr o3 hid hG hit hI hv1 hS1
      have hi : i < dX od % 6 := by omega
      have hG1 : Grw A z (upA A1 it (itE (i + 1) (nI i) (L.2.1 0) (L.1 0))) z1 (20 + 4 * i) := hG.up hF hit (hG.2.2.2.lt hI)
      obtain ⟨cp0, ml0, f0, hE0⟩ := hS1
      have n1 : b9 ≠ it := AH.ne hE0.2.1 hI (by intro q; cases q)
      have n2 : v1 ≠ it := AH.ne hE0.2.2.1 hI (by intro q; cases q)
      have hS1 : SbA cy (upA A1 it (itE (i + 1) (nI i) (L.2.1 0) (L.1 0))) b9 v1 (hdT od ++ brT od (i)) := ⟨cp0, ml0, f0, hE0.1, (upA_ne n1).trans hE0.2.1, (upA_ne n2).trans hE0.2.2.1, hE0.2.2.2⟩
      obtain ⟨r, hr0, hrv⟩ := hb.2.2.1 i hi
      refine g_aload_n X rfl rfl ?_
      refine g_hasNext X rfl lmX8_52 (hL0.le hG.1).1 hI (by omega) hN0 (Nat.le_of_ble_eq_true rfl) ⟨by decide, by decide⟩ ⟨by show _ ≤ 80; omega, by show _ ≤ 90000; omega⟩ ?_
      refine g_if_eqB X rfl (fun h => absurd hi (of_decide_eq_false h)) (fun _ => ?_)
      refine g_aload_n X rfl rfl ?_
      refine g_next X rfl lmX8_58 (hL0.le hG.1) hI hi (Nat.le_of_ble_eq_true rfl) ⟨by decide, by decide⟩ ⟨by show _ ≤ 80; omega, by show _ ≤ 90000; omega⟩ ?_
      have hr := hG1.1 _ _ hr0
      refine g_castI X rfl clX8_62 hr ?_
      first | refine g_astore_nS X rfl (by decide) rfl ?_ | refine g_astore_n X rfl (by decide) ?_
      have hl9 := dLim_le od (i + 1)
      have e1 := decN_le 8 (dLim od (i + 1)) (by decide) (by decide) (by omega)
      have e2 := decN_le 3 (dB od i / 3000 % 901) (by decide) (by decide) (by omega)
      have hb8 := br_len od i (by omega)
      have hd9 : dB od i < 1000000000 := pick_lt od (2 + i) (by decide)
      refine g_aload_n X rfl rfl ?_
      refine g_ldcS X rfl (j := 16) rfl ?_
      obtain ⟨cp1, ml1, f1, hE1⟩ := hS1
      refine g_callV X rfl lcJ4_append_15ec4 lmX8_100 lsJ4_append_15ec4 (ct_appendS l D cy B od hE1 (str_old (j := 16) (by decide)) (by simp only [List.length_append, sl12, sl13, sl14, sl15, sl16, sl17, sl18, List.length_cons, List.length_nil]; omega) hG1.2.2.2 (by have := hG1.2.2.1; omega)) (ci := 12) hE1.2.1 rfl rfl rfl (Nat.le_of_ble_eq_true rfl) ⟨by decide, by decide⟩ ⟨by show 20 + 4 * i + 1 ≤ 80; omega, by show 12100 + 4000 * i + 1000 ≤ 90000; omega⟩ (fun w2 A2 y2 q2 => ?_)
      obtain ⟨rfl, q2b⟩ := q2
      obtain ⟨v2, z2, rfl, hS2, hv2, hG2⟩ := q2b.grw hG1 hF hb9 hv1
      have hI2 := q2b.it hE1 hG1.2.2.2 upA_eq
      refine g_aload_n X rfl rfl ?_
      refine g_iconst X rfl (v := nI 0) (by decide) ?_
      refine g_ialdN X rfl (hG2.1 _ _ hr0) (by decide) (by decide) ?_
      rw [show r 0 = nI (dLim od (i + 1)) from hrv 0 (by decide)]
      obtain ⟨cp2, ml2, f2, hE2⟩ := hS2
      refine g_callV X rfl lcJ4_append_bf812 lmX8_104 lsJ4_append_bf812 (ct_appendI l D cy B od hE2 (n := dLim od (i + 1)) (by omega) (by simp only [List.length_append, sl12, sl13, sl14, sl15, sl16, sl17, sl18, List.length_cons, List.length_nil]; omega) hG2.2.2.2 (by have := hG2.2.2.1; omega)) (ci := 12) hE2.2.1 rfl rfl rfl (Nat.le_of_ble_eq_true rfl) ⟨by decide, by decide⟩ ⟨by show 20 + 4 * i + 1 + 1 ≤ 80; omega, by show 12100 + 4000 * i + 1000 + 1000 ≤ 90000; omega⟩ (fun w3 A3 y3 q3 => ?_)
      obtain ⟨rfl, q3b⟩ := q3
      obtain ⟨v3, z3, rfl, hS3, hv3, hG3⟩ := q3b.grw hG2 hF hb9 hv2
      have hI3 := q3b.it hE2 hG2.2.2.2 hI2
      refine g_bipush X rfl (v := nI 32) (by decide) ?_
      obtain ⟨cp3, ml3, f3, hE3⟩ := hS3
      refine g_callV X rfl lcJ4_append_cf468 lmX8_116 lsJ4_append_cf468 (ct_appendC l D cy B od hE3 (ch := 32) (by decide) (by simp only [List.length_append, sl12, sl13, sl14, sl15, sl16, sl17, sl18, List.length_cons, List.length_nil]; omega) hG3.2.2.2 (by have := hG3.2.2.1; omega)) (ci := 12) hE3.2.1 rfl rfl rfl (Nat.le_of_ble_eq_true rfl) ⟨by decide, by decide⟩ ⟨by show 20 + 4 * i + 1 + 1 + 1 ≤ 80; omega, by show 12100 + 4000 * i + 1000 + 1000 + 1000 ≤ 90000; omega⟩ (fun w4 A4 y4 q4 => ?_)
      obtain ⟨rfl, q4b⟩ := q4
      obtain ⟨v4, z4, rfl, hS4, hv4, hG4⟩ := q4b.grw hG3 hF hb9 hv3
      have hI4 := q4b.it hE3 hG3.2.2.2 hI3
      refine g_aload_n X rfl rfl ?_
      refine g_iconst X rfl (v := nI 1) (by decide) ?_
      refine g_ialdN X rfl (hG4.1 _ _ hr0) (by decide) (by decide) ?_
      rw [show r 1 = nI (dB od i / 3000 % 901) from hrv 1 (by decide)]
      obtain ⟨cp4, ml4, f4, hE4⟩ := hS4
      refine g_callV X rfl lcJ4_append_bf812 lmX8_104 lsJ4_append_bf812 (ct_appendI l D cy B od hE4 (n := dB od i / 3000 % 901) (by omega) (by simp only [List.length_append, sl12, sl13, sl14, sl15, sl16, sl17, sl18, List.length_cons, List.length_nil]; omega) hG4.2.2.2 (by have := hG4.2.2.1; omega)) (ci := 12) hE4.2.1 rfl rfl rfl (Nat.le_of_ble_eq_true rfl) ⟨by decide, by decide⟩ ⟨by show 20 + 4 * i + 1 + 1 + 1 + 1 ≤ 80; omega, by show 12100 + 4000 * i + 1000 + 1000 + 1000 + 1000 ≤ 90000; omega⟩ (fun w5 A5 y5 q5 => ?_)
      obtain ⟨rfl, q5b⟩ := q5
      obtain ⟨v5, z5, rfl, hS5, hv5, hG5⟩ := q5b.grw hG4 hF hb9 hv4
      have hI5 := q5b.it hE4 hG4.2.2.2 hI4
      refine g_pop X rfl rfl ?_
      refine g_goto X rfl ?_
      have hS9 : SbA cy A5 b9 v5 (hdT od ++ brT od (i + 1)) := by
        show SbA cy A5 b9 v5 (hdT od ++ (brT od i ++ strN 16 ++ decN (dLim od (i + 1)) ++ [32] ++ decN (dB od i / 3000 % 901)))
        simpa only [List.append_assoc] using hS5
      exact g_more (by show 20 + 4 * i + 1 + 1 + 1 + 1 ≤ _; omega) (by show 12100 + 4000 * i + 1000 + 1000 + 1000 + 1000 ≤ _; omega) (ih (i + 1) A5 z5 it v5 _ _ (by omega) (hG5.wide (by omega)) hit hI5 hv5 hS9)
  refine g_new X rfl nwX8_95 (ci := 12) rfl (fs := [.null, .int (nI 0), .int (nI 0), .int (nI 0)]) rfl rfl (by omega) (Nat.le_of_ble_eq_true rfl) (Nat.le_of_ble_eq_true rfl) ?_
  refine g_dup X rfl rfl ?_
  refine g_new X rfl nwX8_95 (ci := 12) rfl (fs := [.null, .int (nI 0), .int (nI 0), .int (nI 0)]) rfl rfl (by omega) (Nat.le_of_ble_eq_true rfl) (Nat.le_of_ble_eq_true rfl) ?_
  refine g_dup X rfl rfl ?_
  refine g_callI X rfl lcJ4_init_da8c8 lmX8_97 liJ4_init_da8c8 rfl (ct_sb_init l D cy B od (b := z + 1) (z := z + 2) upA_eq hF.new.new (by omega)) rfl rfl (Nat.le_of_ble_eq_true rfl) ⟨by decide, by decide⟩ ⟨Nat.le_of_ble_eq_true rfl, Nat.le_of_ble_eq_true rfl⟩ (fun w0 A1 z0 q0 => ?_)
  obtain ⟨rfl, rfl, hF1, hE1, hf1⟩ := q0
  have hG1 : Grw A z A1 (z + 3) 3 := ⟨fun k y hk => by have := hF.lt hk; rw [hf1 k (by omega) (by omega), upA_ne (by omega), upA_ne (by omega)]; exact hk, by omega, by omega, hF1⟩
  have hs0 : A1 z = some (.inr (12, [.null, .int (nI 0), .int (nI 0), .int (nI 0)])) := by rw [hf1 z (by omega) (by omega), upA_ne (by omega)]; exact upA_eq
  have hS1 : SbA cy A1 (z + 1) (z + 2) [] := ⟨_, _, _, hE1⟩
  have hb9 : z ≤ z + 1 := by omega
  have hv1 : z ≤ z + 2 := by omega
  refine g_ldcS X rfl (j := 12) rfl ?_
  obtain ⟨cp1, ml1, f1, hE1⟩ := hS1
  refine g_callV X rfl lcJ4_append_15ec4 lmX8_100 lsJ4_append_15ec4 (ct_appendS l D cy B od hE1 (str_old (j := 12) (by decide)) (by simp only [List.length_append, sl12, sl13, sl14, sl15, sl16, sl17, sl18, List.length_cons, List.length_nil]; omega) hG1.2.2.2 (by have := hG1.2.2.1; omega)) (ci := 12) hE1.2.1 rfl rfl rfl (Nat.le_of_ble_eq_true rfl) ⟨by decide, by decide⟩ ⟨by show 0 + 1 + 1 + 1 + 1 ≤ 80; omega, by show 0 + 4 + 4 + 16 + 1000 ≤ 90000; omega⟩ (fun w2 A2 y2 q2 => ?_)
  obtain ⟨rfl, q2b⟩ := q2
  have hz2 : A2 z = some (.inr (12, [.null, .int (nI 0), .int (nI 0), .int (nI 0)])) := q2b.sb hE1 hG1.2.2.2 hs0 (by omega)
  obtain ⟨v2, z2, rfl, hS2, hv2, hG2⟩ := q2b.grw hG1 hF hb9 hv1
  refine g_aload_n X rfl rfl ?_
  refine g_get X rfl flX8_45 (ci := 8) rfl (hG2.1 _ _ hb.1) rfl ?_
  obtain ⟨cp2, ml2, f2, hE2⟩ := hS2
  refine g_callV X rfl lcJ4_append_bf812 lmX8_104 lsJ4_append_bf812 (ct_appendI l D cy B od hE2 (n := dX od % 500000) (by omega) (by simp only [List.length_append, sl12, sl13, sl14, sl15, sl16, sl17, sl18, List.length_cons, List.length_nil]; omega) hG2.2.2.2 (by have := hG2.2.2.1; omega)) (ci := 12) hE2.2.1 rfl rfl rfl (Nat.le_of_ble_eq_true rfl) ⟨by decide, by decide⟩ ⟨by show 0 + 1 + 1 + 1 + 1 + 1 ≤ 80; omega, by show 0 + 4 + 4 + 16 + 1000 + 1000 ≤ 90000; omega⟩ (fun w3 A3 y3 q3 => ?_)
  obtain ⟨rfl, q3b⟩ := q3
  have hz3 : A3 z = some (.inr (12, [.null, .int (nI 0), .int (nI 0), .int (nI 0)])) := q3b.sb hE2 hG2.2.2.2 hz2 (by omega)
  obtain ⟨v3, z3, rfl, hS3, hv3, hG3⟩ := q3b.grw hG2 hF hb9 hv2
  obtain ⟨cp3, ml3, f3, hE3⟩ := hS3
  refine g_callV X rfl lcJ4_toString_0e30d lmX8_107 lsJ4_toString_0e30d (ct_toString l D cy B od hE3 (by simp only [List.length_append, sl12, List.length_cons, List.length_nil]; omega) hG3.2.2.2 (by have := hG3.2.2.1; omega)) (ci := 12) hE3.2.1 rfl rfl rfl (Nat.le_of_ble_eq_true rfl) ⟨by decide, by decide⟩ ⟨Nat.le_of_ble_eq_true rfl, Nat.le_of_ble_eq_true rfl⟩ (fun w4 A4 y4 q4 => ?_)
  obtain ⟨rfl, rfl, hF4, hs4, hf4⟩ := q4
  have hz4 : A4 z = some (.inr (12, [.null, .int (nI 0), .int (nI 0), .int (nI 0)])) := by
    rw [hf4 z (by exact hG3.2.2.2.lt hz3)]
    exact hz3
  refine g_callI X rfl lcJ4_init_a7421 lmX8_111 liJ4_init_a7421 rfl (ct_sb_initS l D cy B od (b := z) hz4 hs4 (by simp only [List.length_append, sl12, List.length_cons, List.length_nil]; omega) hF4 (by have := hG3.2.2.1; omega)) rfl rfl (Nat.le_of_ble_eq_true rfl) ⟨by decide, by decide⟩ ⟨Nat.le_of_ble_eq_true rfl, Nat.le_of_ble_eq_true rfl⟩ (fun w5 A5 y5 q5 => ?_)
  obtain ⟨rfl, v5, z5, rfl, a1, a2, a3, hF5, hS5, hf5⟩ := q5
  have hG5 : Grw A z A5 z5 9 := ⟨fun k y hk => by have := hF.lt hk; have := hG3.2.1; rw [hf5 k (by omega) (by omega), hf4 k (by omega)]; exact hG3.1 _ _ hk, by have := hG3.2.1; omega, by have := hG3.2.2.1; omega, hF5⟩
  have hv5 : z ≤ v5 := by have := hG3.2.1; omega
  have hb9 : z ≤ z := Nat.le_refl _
  first | refine g_astore_nS X rfl (by decide) rfl ?_ | refine g_astore_n X rfl (by decide) ?_
  refine g_aload_n X rfl rfl ?_
  refine g_ldcS X rfl (j := 13) rfl ?_
  obtain ⟨cp5, ml5, f5, hE5⟩ := hS5
  refine g_callV X rfl lcJ4_append_15ec4 lmX8_100 lsJ4_append_15ec4 (ct_appendS l D cy B od hE5 (str_old (j := 13) (by decide)) (by simp only [List.length_append, sl12, sl13, sl14, sl15, sl16, sl17, sl18, List.length_cons, List.length_nil]; omega) hG5.2.2.2 (by have := hG5.2.2.1; omega)) (ci := 12) hE5.2.1 rfl rfl rfl (Nat.le_of_ble_eq_true rfl) ⟨by decide, by decide⟩ ⟨by show 0 + 1 + 1 + 1 + 1 + 1 + 2 + 2 + 1 ≤ 80; omega, by show 0 + 4 + 4 + 16 + 1000 + 1000 + 504 + 1200 + 1000 ≤ 90000; omega⟩ (fun w6 A6 y6 q6 => ?_)
  obtain ⟨rfl, q6b⟩ := q6
  obtain ⟨v6, z6, rfl, hS6, hv6, hG6⟩ := q6b.grw hG5 hF hb9 hv5
  refine g_aload_n X rfl rfl ?_
  refine g_get X rfl flX8_10 (ci := 8) rfl (hG6.1 _ _ hb.1) rfl ?_
  obtain ⟨cp6, ml6, f6, hE6⟩ := hS6
  refine g_callV X rfl lcJ4_append_bf812 lmX8_104 lsJ4_append_bf812 (ct_appendI l D cy B od hE6 (n := dX od / 7 % 90000) (by omega) (by simp only [List.length_append, sl12, sl13, sl14, sl15, sl16, sl17, sl18, List.length_cons, List.length_nil]; omega) hG6.2.2.2 (by have := hG6.2.2.1; omega)) (ci := 12) hE6.2.1 rfl rfl rfl (Nat.le_of_ble_eq_true rfl) ⟨by decide, by decide⟩ ⟨by show 0 + 1 + 1 + 1 + 1 + 1 + 2 + 2 + 1 + 1 ≤ 80; omega, by show 0 + 4 + 4 + 16 + 1000 + 1000 + 504 + 1200 + 1000 + 1000 ≤ 90000; omega⟩ (fun w7 A7 y7 q7 => ?_)
  obtain ⟨rfl, q7b⟩ := q7
  obtain ⟨v7, z7, rfl, hS7, hv7, hG7⟩ := q7b.grw hG6 hF hb9 hv6
  refine g_bipush X rfl (v := nI 32) (by decide) ?_
  obtain ⟨cp7, ml7, f7, hE7⟩ := hS7
  refine g_callV X rfl lcJ4_append_cf468 lmX8_116 lsJ4_append_cf468 (ct_appendC l D cy B od hE7 (ch := 32) (by decide) (by simp only [List.length_append, sl12, sl13, sl14, sl15, sl16, sl17, sl18, List.length_cons, List.length_nil]; omega) hG7.2.2.2 (by have := hG7.2.2.1; omega)) (ci := 12) hE7.2.1 rfl rfl rfl (Nat.le_of_ble_eq_true rfl) ⟨by decide, by decide⟩ ⟨by show 0 + 1 + 1 + 1 + 1 + 1 + 2 + 2 + 1 + 1 + 1 ≤ 80; omega, by show 0 + 4 + 4 + 16 + 1000 + 1000 + 504 + 1200 + 1000 + 1000 + 1000 ≤ 90000; omega⟩ (fun w8 A8 y8 q8 => ?_)
  obtain ⟨rfl, q8b⟩ := q8
  obtain ⟨v8, z8, rfl, hS8, hv8, hG8⟩ := q8b.grw hG7 hF hb9 hv7
  refine g_aload_n X rfl rfl ?_
  refine g_get X rfl flX8_17 (ci := 8) rfl (hG8.1 _ _ hb.1) rfl ?_
  obtain ⟨cp8, ml8, f8, hE8⟩ := hS8
  refine g_callV X rfl lcJ4_append_bf812 lmX8_104 lsJ4_append_bf812 (ct_appendI l D cy B od hE8 (n := dX od / 7 % 90000 + dY od % 200000) (by omega) (by simp only [List.length_append, sl12, sl13, sl14, sl15, sl16, sl17, sl18, List.length_cons, List.length_nil]; omega) hG8.2.2.2 (by have := hG8.2.2.1; omega)) (ci := 12) hE8.2.1 rfl rfl rfl (Nat.le_of_ble_eq_true rfl) ⟨by decide, by decide⟩ ⟨by show 0 + 1 + 1 + 1 + 1 + 1 + 2 + 2 + 1 + 1 + 1 + 1 ≤ 80; omega, by show 0 + 4 + 4 + 16 + 1000 + 1000 + 504 + 1200 + 1000 + 1000 + 1000 + 1000 ≤ 90000; omega⟩ (fun w9 A9 y9 q9 => ?_)
  obtain ⟨rfl, q9b⟩ := q9
  obtain ⟨v9, z9, rfl, hS9, hv9, hG9⟩ := q9b.grw hG8 hF hb9 hv8
  refine g_ldcS X rfl (j := 14) rfl ?_
  obtain ⟨cp9, ml9, f9, hE9⟩ := hS9
  refine g_callV X rfl lcJ4_append_15ec4 lmX8_100 lsJ4_append_15ec4 (ct_appendS l D cy B od hE9 (str_old (j := 14) (by decide)) (by simp only [List.length_append, sl12, sl13, sl14, sl15, sl16, sl17, sl18, List.length_cons, List.length_nil]; omega) hG9.2.2.2 (by have := hG9.2.2.1; omega)) (ci := 12) hE9.2.1 rfl rfl rfl (Nat.le_of_ble_eq_true rfl) ⟨by decide, by decide⟩ ⟨by show 0 + 1 + 1 + 1 + 1 + 1 + 2 + 2 + 1 + 1 + 1 + 1 + 1 ≤ 80; omega, by show 0 + 4 + 4 + 16 + 1000 + 1000 + 504 + 1200 + 1000 + 1000 + 1000 + 1000 + 1000 ≤ 90000; omega⟩ (fun w10 A10 y10 q10 => ?_)
  obtain ⟨rfl, q10b⟩ := q10
  obtain ⟨v10, z10, rfl, hS10, hv10, hG10⟩ := q10b.grw hG9 hF hb9 hv9
  refine g_aload_n X rfl rfl ?_
  refine g_get X rfl flX8_20 (ci := 8) rfl (hG10.1 _ _ hb.1) rfl ?_
  obtain ⟨cp10, ml10, f10, hE10⟩ := hS10
  refine g_callV X rfl lcJ4_append_bf812 lmX8_104 lsJ4_append_bf812 (ct_appendI l D cy B od hE10 (n := dY od / 9 % 101) (by omega) (by simp only [List.length_append, sl12, sl13, sl14, sl15, sl16, sl17, sl18, List.length_cons, List.length_nil]; omega) hG10.2.2.2 (by have := hG10.2.2.1; omega)) (ci := 12) hE10.2.1 rfl rfl rfl (Nat.le_of_ble_eq_true rfl) ⟨by decide, by decide⟩ ⟨by show 0 + 1 + 1 + 1 + 1 + 1 + 2 + 2 + 1 + 1 + 1 + 1 + 1 + 1 ≤ 80; omega, by show 0 + 4 + 4 + 16 + 1000 + 1000 + 504 + 1200 + 1000 + 1000 + 1000 + 1000 + 1000 + 1000 ≤ 90000; omega⟩ (fun w11 A11 y11 q11 => ?_)
  obtain ⟨rfl, q11b⟩ := q11
  obtain ⟨v11, z11, rfl, hS11, hv11, hG11⟩ := q11b.grw hG10 hF hb9 hv10
  refine g_ldcS X rfl (j := 15) rfl ?_
  obtain ⟨cp11, ml11, f11, hE11⟩ := hS11
  refine g_callV X rfl lcJ4_append_15ec4 lmX8_100 lsJ4_append_15ec4 (ct_appendS l D cy B od hE11 (str_old (j := 15) (by decide)) (by simp only [List.length_append, sl12, sl13, sl14, sl15, sl16, sl17, sl18, List.length_cons, List.length_nil]; omega) hG11.2.2.2 (by have := hG11.2.2.1; omega)) (ci := 12) hE11.2.1 rfl rfl rfl (Nat.le_of_ble_eq_true rfl) ⟨by decide, by decide⟩ ⟨by show 0 + 1 + 1 + 1 + 1 + 1 + 2 + 2 + 1 + 1 + 1 + 1 + 1 + 1 + 1 ≤ 80; omega, by show 0 + 4 + 4 + 16 + 1000 + 1000 + 504 + 1200 + 1000 + 1000 + 1000 + 1000 + 1000 + 1000 + 1000 ≤ 90000; omega⟩ (fun w12 A12 y12 q12 => ?_)
  obtain ⟨rfl, q12b⟩ := q12
  obtain ⟨v12, z12, rfl, hS12, hv12, hG12⟩ := q12b.grw hG11 hF hb9 hv11
  refine g_aload_n X rfl rfl ?_
  refine g_get X rfl flX8_23 (ci := 8) rfl (hG12.1 _ _ hb.1) rfl ?_
  obtain ⟨cp12, ml12, f12, hE12⟩ := hS12
  refine g_callV X rfl lcJ4_append_bf812 lmX8_104 lsJ4_append_bf812 (ct_appendI l D cy B od hE12 (n := dX od / 500000 % 901) (by omega) (by simp only [List.length_append, sl12, sl13, sl14, sl15, sl16, sl17, sl18, List.length_cons, List.length_nil]; omega) hG12.2.2.2 (by have := hG12.2.2.1; omega)) (ci := 12) hE12.2.1 rfl rfl rfl (Nat.le_of_ble_eq_true rfl) ⟨by decide, by decide⟩ ⟨by show 0 + 1 + 1 + 1 + 1 + 1 + 2 + 2 + 1 + 1 + 1 + 1 + 1 + 1 + 1 + 1 ≤ 80; omega, by show 0 + 4 + 4 + 16 + 1000 + 1000 + 504 + 1200 + 1000 + 1000 + 1000 + 1000 + 1000 + 1000 + 1000 + 1000 ≤ 90000; omega⟩ (fun w13 A13 y13 q13 => ?_)
  obtain ⟨rfl, q13b⟩ := q13
  obtain ⟨v13, z13, rfl, hS13, hv13, hG13⟩ := q13b.grw hG12 hF hb9 hv12
  refine g_pop X rfl rfl ?_
  refine g_aload_n X rfl rfl ?_
  refine g_get X rfl flX8_29 (ci := 8) rfl (hG13.1 _ _ hb.1) rfl ?_
  refine g_iter X rfl lmX8_48 (hL0.le hG13.1) hG13.2.2.2 (by have := hG13.2.2.1; omega) (Nat.le_of_ble_eq_true rfl) ⟨by decide, by decide⟩ ⟨Nat.le_of_ble_eq_true rfl, Nat.le_of_ble_eq_true rfl⟩ ?_
  first | refine g_astore_nS X rfl (by decide) rfl ?_ | refine g_astore_n X rfl (by decide) ?_
  have hS9 : SbA cy (upA A13 z13 (itE 0 (-1) (L.2.1 0) (L.1 0))) z v13 (hdT od ++ brT od 0) := by
    show SbA cy _ z v13 (hdT od ++ [])
    rw [List.append_nil]
    have := hS13.le ((HLe.rf A13).up hG13.2.2.2.at (x := itE 0 (-1) (L.2.1 0) (L.1 0)))
    simpa only [hdT, List.nil_append, List.append_assoc] using this
  exact g_more (by show 0 + 1 + 1 + 1 + 1 + 1 + 2 + 2 + 1 + 1 + 1 + 1 + 1 + 1 + 1 + 1 + 1 ≤ _; omega) (by show 0 + 4 + 4 + 16 + 1000 + 1000 + 504 + 1200 + 1000 + 1000 + 1000 + 1000 + 1000 + 1000 + 1000 + 1000 + 4 ≤ _; omega) (loopB z (Nat.le_refl _) (dX od % 6) 0 _ (z13 + 1) z13 v13 (-1) _ (Nat.zero_add _) ((hG13.new hF).wide (by omega)) hG13.2.1 upA_eq hv13 hS9)
