/-! 68: the start: what is made; the world that the statement gives -/
theorem lmW_142 : LkM RL 142 yX7_init := lw_good_in (n := 162) (by decide +kernel) rfl
theorem lmW_145 : LkM RL 145 yX8_init := lw_good_in (n := 1287) (by decide +kernel) rfl
theorem stNew {c2 : Nat → Nat → Int32} : StE (S0 zNew (0, fun _ _ => 0)) (vS (wNew c2).1) := ⟨rfl, fun _ j hj => absurd hj (Nat.not_lt_zero j), rfl, fun _ j hj => absurd hj (Nat.not_lt_zero j), rfl, fun _ j hj => absurd hj (Nat.not_lt_zero j), rfl, rfl, fun j hj => absurd hj (Nat.not_lt_zero j)⟩
theorem cplNew {c2 : Nat → Nat → Int32} : CPL (wNew c2) fNew (fun _ => 0) (cpF (fun _ => 0) 0 rdNew 522) (fun _ => 0) (fun _ => 0) :=
  ⟨⟨(CplR.ste rdNew_C stNew).cong wfNew (Nat.le_of_ble_eq_true rfl) fun q hq => cp0 hq, rdNew_R.1.ste stNew, rdNew_R.2.1⟩, ⟨rfl, fun j hj => absurd hj (Nat.not_lt_zero j)⟩, ⟨rfl, Or.inl rfl⟩, rfl, CplH.nil rfl⟩
set_option maxRecDepth 100000 in
set_option maxHeartbeats 400000 in
theorem law_made (l : Launch) (D : va_G) (cy : Nat → ClassId) (B : Nat) (od : Nat → Option Nat) {p : Program} {e : Env} {s : State} {m : MethodId} {args : Array Value} {below : List Frame} {meth : Method} {c : Code} {L : Nat} {xs : Nat → Int32} (hl9 : l.stackTraces = false) (X : Cx p s m args meth c D cy B od cL_law 9 tH RL (some .boolean)) (hs : SCR B od L xs s) (hL : L ≤ 3072) {b : Nat} (ha : args = #[Value.ref b]) (hB : s.heap.size ≤ B) {A : AH} : G p l e room_1 s m args below meth c D B od 9 tH (lw_Z below args s) 0 0 A 1 0 [some (.ref 4000000), none, none, none, none, none, none, none, none] [] := by
  refine g_new X rfl nwL_8 (ci := 7) rfl (fs := [.null, .int (nI 0), .null, .null, .null, .null, .int (nI 0), .null, .null]) rfl rfl (by omega) (Nat.le_of_ble_eq_true rfl) (Nat.le_of_ble_eq_true rfl) ?_
  refine g_dup X rfl rfl ?_
  refine g_callI X rfl lcX7_init lmW_142 liX7_init rfl (ci_X7_init l D cy B od upA_eq) rfl rfl (Nat.le_of_ble_eq_true rfl) ⟨by decide, by decide⟩ ⟨(Nat.le_of_ble_eq_true rfl), (Nat.le_of_ble_eq_true rfl)⟩ (fun v1 A1 z1 q1 => ?_)
  obtain ⟨rfl, hz, c2, h1⟩ := q1
  have hz : z1 = 231 + 1 := hz
  subst hz
  refine g_astore_n X rfl (by decide) ?_
  refine g_new X rfl nwL_143 (ci := 8) rfl (fs := [.int (nI 0), .null, .int (nI 0), .int (nI 0), .int (nI 0), .int (nI 0), .int (nI 0), .long 0, .null, .null, .null, .null, .int (nI 0), .int (nI 0), .int (nI 0), .null]) rfl rfl (by omega) (Nat.le_of_ble_eq_true rfl) (Nat.le_of_ble_eq_true rfl) ?_
  refine g_dup X rfl rfl ?_
  refine g_callI X rfl lcX8_init lmW_145 liX8_init rfl (ci_X8_init l D cy B od upA_eq) rfl rfl (Nat.le_of_ble_eq_true rfl) ⟨by decide, by decide⟩ ⟨(Nat.le_of_ble_eq_true rfl), (Nat.le_of_ble_eq_true rfl)⟩ (fun v2 A2 z2 q2 => ?_)
  obtain ⟨rfl, hz, l2, h2⟩ := q2
  have hz : z2 = 238 + 1 := hz
  subst hz
  refine g_astore_n X rfl (by decide) ?_
  refine g_iconst X rfl (v := nI 1) (by decide) ?_
  refine g_newal X rfl aw_l (N := 1) (by decide) (by decide) (by decide) (by omega) (Nat.le_of_ble_eq_true rfl) (Nat.le_of_ble_eq_true rfl) ?_
  refine g_astore_n X rfl (by decide) ?_
  refine g_iconst X rfl (v := nI 1) (by decide) ?_
  refine g_newad X rfl aw_d (N := 1) (by decide) (by decide) (by decide) (by omega) (Nat.le_of_ble_eq_true rfl) (Nat.le_of_ble_eq_true rfl) ?_
  refine g_astore X rfl (by decide) ?_
  refine g_iconst X rfl (v := nI 0) (by decide) ?_
  refine g_istore X rfl (by decide) ?_
  refine g_z0 ?_
  refine g_wid (k := 300 + 3 * 0) (n := 20000 + 18 * 0) (Nat.le_of_ble_eq_true rfl) (Nat.le_of_ble_eq_true rfl) ?_
  exact law_loop l D cy B od hl9 X hs hL ha hB (L + 1) 0 _ (by omega) (by omega) ⟨0, wNew c2, fNew, fun _ => 0, rdNew, cpF (fun _ => 0) 0 rdNew 522, fun _ => 0, fun _ => 0, ⟨h1.fr fun k hk => (upA_ne (by omega)).trans ((upA_ne (by omega)).trans ((l2 k hk).trans (upA_ne (by omega)))), h2.fr fun k _ hk => (upA_ne (by omega)).trans (upA_ne (by omega)), cplNew, ⟨⟨_, (upA_ne (by decide)).trans upA_eq⟩, ⟨_, upA_eq⟩⟩⟩, rfl⟩
abbrev fl1 : List Cond := flatC (Jvm.Cond.and given_1 narrow_1)
/-- what the statement says of a string constant and its bytes -/
def strC (r : String × Nat × String) (bs : List Int32) : List Cond := [.exactly (.string r.1 r.2.1) "java/lang/String", .eq (.field (.string r.1 r.2.1) "java/lang/String" "coder" "B") (.int 0), .arrayOf (.field (.string r.1 r.2.1) "java/lang/String" "value" "[B") .byte, .eq (.length (.field (.string r.1 r.2.1) "java/lang/String" "value" "[B")) (.int (Int32.ofNat bs.length))] ++ (List.range bs.length).map (fun j => .eq (.elem (.field (.string r.1 r.2.1) "java/lang/String" "value" "[B") (.int (Int32.ofNat j))) (.int (bs.getD j 0)))
def strI : List (List Nat) := [[59, 60, 61, 62, 63, 64, 65, 66, 67], [68, 69, 70, 71, 72, 73, 74, 75, 76, 77], [79, 80, 81, 82, 83, 84, 85, 86, 87, 88, 89, 90], [93, 94, 95, 96, 97, 98, 99], [103, 104, 105, 106, 107, 108, 109, 110, 111, 112, 113], [118, 119, 120, 121, 122, 123, 124, 125], [131, 132, 133, 134, 135, 136, 137, 138, 139, 140], [147, 148, 149, 150, 151, 152, 153, 154, 155, 156, 157, 158, 159, 160, 161, 162, 163, 164, 165, 166, 167, 168, 169, 170, 171, 172, 173, 174, 175, 176, 177, 178, 179, 180, 181, 182, 183, 184, 185, 186, 187, 188, 189, 190, 191, 192, 193], [201, 202, 203, 204, 205, 206, 207, 208, 209, 210, 211, 212, 213, 214, 215, 216, 217, 218, 219, 220, 221, 222, 223, 224, 225, 226, 227, 228, 229, 230, 231, 232, 233, 234, 235, 236, 237, 238, 239, 240, 241, 242, 243, 244, 245, 246, 247, 248, 249, 250, 251, 252, 253, 254, 255, 256, 257], [266, 267, 268, 269, 270, 271, 272, 273, 274, 275, 276, 277, 278, 279, 280, 281, 282, 283, 284, 285, 286, 287, 288, 289, 290, 291, 292, 293, 294, 295, 296, 297, 298, 299, 300], [310, 311, 312, 313, 314, 315, 316, 317, 318, 319, 320, 321, 322, 323, 324, 325, 326, 327, 328, 329, 330, 331, 332, 333], [344, 345, 346, 347, 348, 349, 350, 351, 352, 353, 354, 355, 356, 357, 358, 359, 360, 361, 362, 363, 364, 365, 366, 367, 368, 369], [381, 382, 383, 384, 385, 386, 387, 388, 389, 390, 391], [404, 405, 406, 407, 408, 409, 410, 411], [425, 426, 427, 428, 429, 430, 431, 432, 433, 434], [449, 450, 451, 452, 453, 454, 455, 456, 457], [473, 474, 475, 476, 477, 478, 479, 480, 481, 482], [499, 500, 501, 502, 503, 504, 505, 506, 507, 508, 509, 510], [528, 529, 530, 531, 532, 533, 534]]
def strW : List Nat := [500, 565, 571, 576, 581, 592, 597, 815, 866, 929, 1053, 1131, 1408, 1432, 1437, 1438, 1448, 1449, 1450]
def strR (j : Nat) : String × Nat × String := strT.getD j ("", 0, "")
theorem strC_ok : ((List.range 19).all (fun j => decide ((strC (strR j) (strB.getD j [])).length ≤ (strI.getD j []).length) && ((strC (strR j) (strB.getD j [])).zip (strI.getD j [])).all (fun q => decide (fl1[q.2]? = some q.1)))) = true := by decide +kernel
theorem strW_ok : ((List.range 19).all (fun j => decide (lw_tbl[strW.getD j 0]? = some (.stringRef (strR j).1 (strR j).2.1 (strR j).2.2)) && decide ((strB.getD j []).length < 100) && decide (strT[j]? = some (strR j)))) = true := by decide +kernel
theorem zip_all {α β : Type} {q : α × β → Bool} : ∀ {l : List α} {k : List β}, l.length ≤ k.length → (l.zip k).all q = true → ∀ x ∈ l, ∃ y, q (x, y) = true := by
  intro l
  induction l with
  | nil => intro k _ _ x hx; cases hx
  | cons a l ih =>
    intro k hk h x hx
    cases k with
    | nil => simp at hk
    | cons b k =>
      rw [List.zip_cons_cons, List.all_cons, Bool.and_eq_true] at h
      rcases List.mem_cons.mp hx with rfl | hx
      · exact ⟨b, h.1⟩
      · exact ih (by simpa using hk) h.2 x hx
theorem strC_in {j : Nat} (hj : j < 19) : ∀ w ∈ strC (strR j) (strB.getD j []), w ∈ fl1 := by
  intro w hw
  have h := List.all_eq_true.mp strC_ok j (List.mem_range.mpr hj)
  rw [Bool.and_eq_true] at h
  obtain ⟨y, hy⟩ := zip_all (of_decide_eq_true h.1) h.2 w hw
  exact List.mem_of_getElem? (of_decide_eq_true hy)
section WLD
variable {args : Array Value} {s : State}
theorem w_str (hts : ∀ w ∈ lw_tbl, w.before args s = true) (hg : ∀ w ∈ fl1, w.before args s = true) {A : Nat → Prop} (hA : ∀ a : Nat, a < s.heap.size → ¬ A a) {j : Nat} (hj : j < 19) : ∃ q : Nat × Nat, vk_R (strR j).1 (strR j).2.1 (strR j).2.2 q.1 s ∧ va_O "java/lang/String" q.1 A s s.heap ∧ va_OF "java/lang/String" "coder" "B" (.int 0) q.1 A s s.heap ∧ va_OF "java/lang/String" "value" "[B" (.ref q.2) q.1 A s s.heap ∧ va_T .byte q.2 (strB.getD j []).length (fun k => .int ((strB.getD j []).getD k 0)) A s s.heap := by
  have hc := fun w hw => hg w (strC_in hj w hw)
  have h9 := List.all_eq_true.mp strW_ok j (List.mem_range.mpr hj)
  rw [Bool.and_eq_true, Bool.and_eq_true] at h9
  generalize hr : strR j = r at *
  generalize hb : strB.getD j [] = bs at *
  have hlen : bs.length < 100 := of_decide_eq_true h9.1.2
  have i0 : ∀ i : Nat, i < 1 → i = 0 := fun i h => by omega
  obtain ⟨adK, adV, h1, h2⟩ := vk_Sof (args := args) (s := s) (N := 1) (tm := fun _ => Term.string r.1 r.2.1) (len := [bs.length]) (byt := [bs]) (A := A)
    (fun i hi => by rw [i0 i hi]; show bs.length < 2 ^ 31; omega)
    (fun i hi => hc _ (by simp [strC]))
    (fun i hi => hc _ (by simp [strC]))
    (fun i hi => hc _ (by simp [strC]))
    (fun i hi => by rw [i0 i hi]; exact hc _ (by simp [strC]))
    (fun i hi k hk => by
      rw [i0 i hi] at hk ⊢
      refine hc _ (List.mem_append_right _ (List.mem_map.mpr ⟨k, List.mem_range.mpr hk, rfl⟩)))
    (fun i k hi hk h => absurd ((i0 i hi).trans (i0 k hk).symm) h) hA
  obtain ⟨g1, g2, g3, g4⟩ := h1.1 0 (by decide)
  exact ⟨(adK 0, adV 0), vk_R.of (hts _ (List.mem_of_getElem? (of_decide_eq_true h9.1.1))) (h2 0 (by decide)), g1, g2, g3, g4⟩
theorem ex_ok : (exL.all (fun E => exL.all (fun E2 => decide (E = E2) || fl1.any (fun w => decide (w = .not (.castable E E2)))))) = true := by decide +kernel
theorem w_nc (hg : ∀ w ∈ fl1, w.before args s = true) : ∀ E ∈ exL, ∀ E2 ∈ exL, E ≠ E2 → va_Nc E E2 s := by
  intro E h1 E2 h2 hn
  have h := List.all_eq_true.mp (List.all_eq_true.mp ex_ok E h1) E2 h2
  rw [Bool.or_eq_true] at h
  rcases h with h | h
  · exact absurd (of_decide_eq_true h) hn
  · obtain ⟨w, hw, e⟩ := List.any_eq_true.mp h
    exact va_Nc.of (hg _ (of_decide_eq_true e ▸ hw))
theorem w_nw (hts : ∀ w ∈ lw_tbl, w.before args s = true) : NW s := by
  intro v hv
  have h1 := hts v (List.mem_filter.mp hv).1
  have h2 := (List.mem_filter.mp hv).2
  unfold nw_is at h2
  split at h2
  · exact va_Nw.of rfl h1
  · exact va_Nw.of rfl h1
  · cases h2
theorem w_k (hts : ∀ w ∈ lw_tbl, w.before args s = true) : ∃ (D : va_G) (cy : Nat → ClassId), va_K D vwCl (tysc cy) s := by
  have hgd : ∀ w ∈ lw_good, w.before args s = true := fun w hw => hts w (List.mem_filter.mp hw).1
  have h0 : ∀ k : Nat, ∃ q : ClassId × (Nat → Nat), ∀ r : vw_C, vwCl[k]? = some r → u_Kn s r.1 r.2.1 r.2.2 q.1 q.2 := by
    intro k
    match k with
    | 0 => obtain ⟨c, i, h⟩ := u_known (C := RX0) (T := TX0) (N := 7) (n := 7) hgd inX0 (hts _ (List.mem_of_getElem? (i := 341) (by decide +kernel))); exact ⟨(c, i), fun r hr => by cases hr; exact h⟩
    | 1 => obtain ⟨c, i, h⟩ := u_known (C := RX1) (T := TX1) (N := 8) (n := 8) hgd inX1 (hts _ (List.mem_of_getElem? (i := 294) (by decide +kernel))); exact ⟨(c, i), fun r hr => by cases hr; exact h⟩
    | 2 => obtain ⟨c, i, h⟩ := u_known (C := RX2) (T := TX2) (N := 3) (n := 3) hgd inX2 (hts _ (List.mem_of_getElem? (i := 406) (by decide +kernel))); exact ⟨(c, i), fun r hr => by cases hr; exact h⟩
    | 3 => obtain ⟨c, i, h⟩ := u_known (C := RX3) (T := TX3) (N := 4) (n := 4) hgd inX3 (hts _ (List.mem_of_getElem? (i := 181) (by decide +kernel))); exact ⟨(c, i), fun r hr => by cases hr; exact h⟩
    | 4 => obtain ⟨c, i, h⟩ := u_known (C := RX4) (T := TX4) (N := 9) (n := 9) hgd inX4 (hts _ (List.mem_of_getElem? (i := 175) (by decide +kernel))); exact ⟨(c, i), fun r hr => by cases hr; exact h⟩
    | 5 => obtain ⟨c, i, h⟩ := u_known (C := RX5) (T := TX5) (N := 11) (n := 11) hgd inX5 (hts _ (List.mem_of_getElem? (i := 169) (by decide +kernel))); exact ⟨(c, i), fun r hr => by cases hr; exact h⟩
    | 6 => obtain ⟨c, i, h⟩ := u_known (C := RX6) (T := TX6) (N := 6) (n := 6) hgd inX6 (hts _ (List.mem_of_getElem? (i := 288) (by decide +kernel))); exact ⟨(c, i), fun r hr => by cases hr; exact h⟩
    | 7 => obtain ⟨c, i, h⟩ := u_known (C := RX7) (T := TX7) (N := 9) (n := 9) hgd inX7 (hts _ (List.mem_of_getElem? (i := 161) (by decide +kernel))); exact ⟨(c, i), fun r hr => by cases hr; exact h⟩
    | 8 => obtain ⟨c, i, h⟩ := u_known (C := RX8) (T := TX8) (N := 16) (n := 16) hgd inX8 (hts _ (List.mem_of_getElem? (i := 1286) (by decide +kernel))); exact ⟨(c, i), fun r hr => by cases hr; exact h⟩
    | k + 9 => exact ⟨(0, fun _ => 0), fun r hr => by simp at hr⟩
  obtain ⟨f, hf⟩ := Classical.axiomOfChoice h0
  obtain ⟨a0, k0, m0, b0, d0, e0⟩ := Cond.arrayClass_spec (hts (.arrayClass .int) (List.mem_of_getElem? (i := 205) (by decide +kernel)))
  obtain ⟨a1, k1, m1, b1, d1, e1⟩ := Cond.arrayClass_spec (hts (.arrayClass .long) (List.mem_of_getElem? (i := 467) (by decide +kernel)))
  obtain ⟨a2, k2, m2, b2, d2, e2⟩ := Cond.arrayClass_spec (hts (.arrayClass .boolean) (List.mem_of_getElem? (i := 337) (by decide +kernel)))
  obtain ⟨a3, k3, m3, b3, d3, e3⟩ := Cond.arrayClass_spec (hts (.arrayClass .double) (List.mem_of_getElem? (i := 1881) (by decide +kernel)))
  obtain ⟨m4, a4, k4, g4, -, d4, e4, b4⟩ := Cond.arrayOver_spec (hts (.arrayOver (.object RX6)) (List.mem_of_getElem? (i := 412) (by decide +kernel)))
  refine ⟨(fun k => (f k).1, fun k => (f k).2), fun k => match k with | 0 => a0 | 1 => a1 | 2 => a2 | 3 => a3 | _ => a4, fun k r hr => hf k r hr, fun k q hq => ?_⟩
  match k, hq with
  | 0, hq => cases hq; exact ⟨fun n z => ⟨(fun k h => by cases h), k0, d0, m0, e0⟩, b0⟩
  | 1, hq => cases hq; exact ⟨fun n z => ⟨(fun k h => by cases h), k1, d1, m1, e1⟩, b1⟩
  | 2, hq => cases hq; exact ⟨fun n z => ⟨(fun k h => by cases h), k2, d2, m2, e2⟩, b2⟩
  | 3, hq => cases hq; exact ⟨fun n z => ⟨(fun k h => by cases h), k3, d3, m3, e3⟩, b3⟩
  | 4, hq => cases hq; exact ⟨fun n z => ⟨(fun k h => by cases h), k4, d4, m4, e4⟩, k4, m4, d4, e4, g4, b4⟩
  | k + 5, hq => simp [tysc] at hq
def odW (aK aV : Nat → Nat) (t b : Nat) : Nat → Option Nat := fun k => if k < 1000000 then none else if k < 2000000 then some (aK (k - 1000000)) else if k < 3000000 then some (aV (k - 2000000)) else if k < 4000000 then some t else some b
theorem odW_0 {aK aV : Nat → Nat} {t b k : Nat} (h : k < 1000000) : odW aK aV t b k = none := by unfold odW; rw [if_pos h]
theorem odW_1 {aK aV : Nat → Nat} {t b j : Nat} (h : j < 1000) : odW aK aV t b (1000000 + j) = some (aK j) := by unfold odW; rw [if_neg (by omega), if_pos (by omega), Nat.add_sub_cancel_left]
theorem odW_2 {aK aV : Nat → Nat} {t b j : Nat} (h : j < 1000) : odW aK aV t b (2000000 + j) = some (aV j) := by unfold odW; rw [if_neg (by omega), if_neg (by omega), if_pos (by omega), Nat.add_sub_cancel_left]
theorem odW_3 {aK aV : Nat → Nat} {t b : Nat} : odW aK aV t b 3000000 = some t := by unfold odW; rw [if_neg (by omega), if_neg (by omega), if_neg (by omega), if_pos (by omega)]
theorem odW_4 {aK aV : Nat → Nat} {t b : Nat} : odW aK aV t b 4000000 = some b := by unfold odW; rw [if_neg (by omega), if_neg (by omega), if_neg (by omega), if_neg (by omega)]
theorem w_old (hts : ∀ w ∈ lw_tbl, w.before args s = true) (hg : ∀ w ∈ fl1, w.before args s = true) (b : Nat) : ∃ od : Nat → Option Nat, OldF s.heap.size od s s.heap ∧ od 4000000 = some b := by
  have hA : ∀ a : Nat, a < s.heap.size → ¬ s.heap.size ≤ a := fun a h => Nat.not_le.mpr h
  have h0 : ∀ j : Nat, ∃ q : Nat × Nat, j < 19 → vk_R (strR j).1 (strR j).2.1 (strR j).2.2 q.1 s ∧ va_O "java/lang/String" q.1 (fun q => s.heap.size ≤ q) s s.heap ∧ va_OF "java/lang/String" "coder" "B" (.int 0) q.1 (fun q => s.heap.size ≤ q) s s.heap ∧ va_OF "java/lang/String" "value" "[B" (.ref q.2) q.1 (fun q => s.heap.size ≤ q) s s.heap ∧ va_T .byte q.2 (strB.getD j []).length (fun k => .int ((strB.getD j []).getD k 0)) (fun q => s.heap.size ≤ q) s s.heap := by
    intro j
    by_cases hj : j < 19
    · obtain ⟨q, h⟩ := w_str hts hg hA hj
      exact ⟨q, fun _ => h⟩
    · exact ⟨(0, 0), fun h => absurd h hj⟩
  obtain ⟨f, hf⟩ := Classical.axiomOfChoice h0
  have hZ := va_Zqof (C := "jdk/internal/util/Preconditions") (n := "SIOOBE_FORMATTER") (d := "Ljava/util/function/BiFunction;") (A := fun q => s.heap.size ≤ q) (hts _ (List.mem_of_getElem? (i := 530) (by decide +kernel))) (hts _ (List.mem_of_getElem? (i := 156) (by decide +kernel))) (hg _ (List.mem_of_getElem? (i := 5) (by decide +kernel))) hA
  obtain ⟨t, ht⟩ : ∃ t : Nat, va_Z "jdk/internal/util/Preconditions" "SIOOBE_FORMATTER" "Ljava/util/function/BiFunction;" .null (fun q => s.heap.size ≤ q) s s.heap ∨ va_Z "jdk/internal/util/Preconditions" "SIOOBE_FORMATTER" "Ljava/util/function/BiFunction;" (.ref t) (fun q => s.heap.size ≤ q) s s.heap := by
    rcases hZ with h | ⟨t, h⟩
    · exact ⟨0, Or.inl h⟩
    · exact ⟨t, Or.inr h⟩
  refine ⟨odW (fun j => (f j).1) (fun j => (f j).2) t b, ⟨?_, ?_, fun j q hq => ?_, fun k hk => odW_0 hk, ?_, ?_, fun j hj => ?_, w_nc hg, va_AO.of (hts _ (List.mem_of_getElem? (i := 412) (by decide +kernel)))⟩, odW_4⟩
  · exact vx_Zqof (hts _ (List.mem_of_getElem? (i := 800) (by decide +kernel))) (hts _ (List.mem_of_getElem? (i := 148) (by decide +kernel))) (hg _ (List.mem_of_getElem? (i := 9) (by decide +kernel))) hA
  · exact vx_Zqof (hts _ (List.mem_of_getElem? (i := 802) (by decide +kernel))) (hts _ (List.mem_of_getElem? (i := 148) (by decide +kernel))) (hg _ (List.mem_of_getElem? (i := 10) (by decide +kernel))) hA
  · have hj : j < 19 := (List.getElem?_eq_some_iff.mp hq).1
    have h9 := List.all_eq_true.mp strW_ok j (List.mem_range.mpr hj)
    rw [Bool.and_eq_true] at h9
    have e : q = strR j := Option.some.inj (hq.symm.trans (of_decide_eq_true h9.2))
    subst e
    exact ⟨_, odW_1 (by omega), (hf j hj).1⟩
  · exact va_Zof (hts _ (List.mem_of_getElem? (i := 514) (by decide +kernel))) (hts _ (List.mem_of_getElem? (i := 154) (by decide +kernel))) (va_eqt (hg _ (List.mem_of_getElem? (i := 4) (by decide +kernel)))) hA
  · rcases ht with h | h
    · exact Or.inl h
    · exact Or.inr ⟨t, odW_3, h⟩
  · exact ⟨_, _, odW_1 (by omega), odW_2 (by omega), (hf j hj).2⟩
end WLD
