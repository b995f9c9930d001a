/-! 62: the book is asked: what is added, a quarter closed -/
/-- one more row -/
def addRow (R : RV) (h : Nat → Int32) : RV := (R.1 + 1, fun q j => if j = R.1 then h q else R.2 q j)
theorem addRow_at {R : RV} {h : Nat → Int32} {q : Nat} : (addRow R h).2 q R.1 = h q := if_pos rfl
theorem addRow_ne {R : RV} {h : Nat → Int32} {q j : Nat} (e : j < R.1) : (addRow R h).2 q j = R.2 q j := if_neg (Nat.ne_of_lt e)
def entH (kd ca am iv pd fl : Int32) : Nat → Int32
  | 0 => kd
  | 1 => ca
  | 2 => am
  | 3 => iv
  | 4 => pd
  | 5 => nI 0
  | _ => fl
def roomH (ar : Int32) : Nat → Int32
  | 0 => ar
  | _ => -1
def astH (pr dy li so : Int32) : Nat → Int32
  | 0 => pr
  | 1 => dy
  | 2 => li
  | 3 => so
  | _ => -1
theorem ActR.errG {cy : Nat → ClassId} {A A1 : AH} {z z1 n9 g : Nat} {L : BL} {S S' : StV} {Z : SV} {oc : OC} {E : String} {x : Int32} (hb : BkW cy A g L S Z) (hG : Grw A z A1 z1 n9) (hn : n9 ≤ 700) (h : oc = .inl E) (hx : ecode E = x) : ActR cy A z g L S Z oc S' (some (.int x)) A1 (z1 + 1) := by
  subst h
  have hz1 := hG.2.2.1
  exact ⟨by rw [← hx]; rfl, ⟨z1, rfl, hG.2.1, by omega, hG.2.2.2⟩, L, S, (fun r q => by cases q), (fun _ _ => rfl), hb.le hG.1, (fun q h => Or.inl h), fun _ _ h _ => hG.1 _ _ h⟩
theorem act_add {cy : Nat → ClassId} {A A' : AH} {g n t z z' : Nat} {L : BL} {S S' : StV} {Z : SV} {mc : Int32} {r : Nat → Int32} (ht1 : 1 ≤ t) (ht3 : t ≤ 3) (hb : BkW cy A g L S Z) (hF : FRs A z) (hz : z + 700 ≤ 900000) (hq : AddQ cy (upA A z (.inl (cy 0, n, .inl r))) A' (z + 1) z' (L.1 t) mc (L.2.2.1 t) (bN S Z t) (L.2.2.2 t) z) (hx : ∀ A2 : AH, A2 z = some (.inl (cy 0, n, .inl r)) → RwT cy A2 t z S' Z (bN S Z t)) (hag : Ag L S Z S' Z) (hbn : ∀ u, u < 5 → bN S' Z u = bN S Z u + if u = t then 1 else 0) :
    ∃ L' z1, z' = z1 + 1 ∧ z ≤ z1 ∧ z1 ≤ z + 700 ∧ FRs A' z1 ∧ BkW cy A' g L' S' Z ∧ (∀ q, Foot g L' S' Z q → Foot g L S Z q ∨ z ≤ q) ∧ ∀ q y, A q = some y → ¬ Foot g L S Z q → A' q = some y := by
  have hb1 : BkW cy (upA A z (.inl (cy 0, n, .inl r))) g L S Z := hb.le ((HLe.rf A).up hF.at)
  have hF1 : FRs (upA A z (.inl (cy 0, n, .inl r))) (z + 1) := hF.new
  have hrow := row_in hb1 (t := t) (by omega) hF1 (by omega) hq upA_eq (isRw.oa ⟨_, _, rfl⟩) (isRw.ls ⟨_, _, rfl⟩)
  obtain ⟨L', z1, h1, hB, hFr, hz1, -, hFt, hfr, -⟩ := hb1.add (S' := S') (Z' := Z) (t := t) (by omega) hF1 (by omega) hq (hx _ hrow) (fun _ _ j hj e => by have := rows_lt hb hF (by omega) (t := t) (by omega) hj; omega) hag hbn
  refine ⟨L', z1, h1, by omega, by omega, hFr, hB, fun q h => ?_, fun q y hy hn => ?_⟩
  · rcases hFt q h with h | h | ⟨h, -⟩
    · exact Or.inl h
    · exact Or.inr (by omega)
    · exact Or.inr (by omega)
  · have hlt := hF.lt hy
    have e1 : upA A z (.inl (cy 0, n, .inl r)) q = A q := upA_ne (by omega)
    rw [hfr q (fun e => hn (Or.inr (Or.inl ⟨t, by omega, Or.inl e⟩))) (fun e => hn (Or.inr (Or.inl ⟨t, by omega, Or.inr ⟨e, by omega⟩⟩))) (by omega), e1]
    exact hy
theorem ag_add1 (L : BL) (S : StV) (Z : SV) (h : Nat → Int32) : Ag L S Z (S.1, addRow S.2.1 h, S.2.2) Z := ⟨rfl, fun t ht j hj cy A a q => by
  rcases (show t = 0 ∨ t = 1 ∨ t = 2 ∨ t = 3 ∨ t = 4 by omega) with rfl | rfl | rfl | rfl | rfl
  · exact q
  · exact RwA.cong q (fun i _ => (addRow_ne hj).symm)
  · exact q
  · exact q
  · exact q⟩
theorem ag_add2 (L : BL) (S : StV) (Z : SV) (h : Nat → Int32) : Ag L S Z (addRow S.1 h, S.2) Z := ⟨rfl, fun t ht j hj cy A a q => by
  rcases (show t = 0 ∨ t = 1 ∨ t = 2 ∨ t = 3 ∨ t = 4 by omega) with rfl | rfl | rfl | rfl | rfl
  · exact q
  · exact q
  · exact RwA.cong q (fun i _ => (addRow_ne hj).symm)
  · exact q
  · exact q⟩
theorem ag_add3 (L : BL) (S : StV) (Z : SV) (h : Nat → Int32) : Ag L S Z (S.1, S.2.1, addRow S.2.2.1 h, S.2.2.2) Z := ⟨rfl, fun t ht j hj cy A a q => by
  rcases (show t = 0 ∨ t = 1 ∨ t = 2 ∨ t = 3 ∨ t = 4 by omega) with rfl | rfl | rfl | rfl | rfl
  · exact q
  · exact q
  · exact q
  · exact RwA.cong q (fun i _ => (addRow_ne hj).symm)
  · exact q⟩
theorem ent_row {R : RV} {kd ca am iv pd fl fl2 : Int32} {r : Nat → Int32} {i : Nat} (hi : i < 7) (hfl : fl = fl2) (hrv : ∀ i, i < 7 → r i = entH kd ca am iv pd (nI 0) i) : upd r 6 fl i = (addRow R (entH kd ca am iv pd fl2)).2 i R.1 := by
  have h := hrv i hi
  rw [addRow_at]
  subst hfl
  rcases (show i = 0 ∨ i = 1 ∨ i = 2 ∨ i = 3 ∨ i = 4 ∨ i = 5 ∨ i = 6 by omega) with rfl | rfl | rfl | rfl | rfl | rfl | rfl
  · simpa [upd, entH] using h
  · simpa [upd, entH] using h
  · simpa [upd, entH] using h
  · simpa [upd, entH] using h
  · simpa [upd, entH] using h
  · simpa [upd, entH] using h
  · simp [upd, entH]
set_option maxRecDepth 100000 in
set_option maxHeartbeats 400000 in
theorem actE4 (l : Launch) (D : va_G) (cy : Nat → ClassId) (B : Nat) (od : Nat → Option Nat) {p : Program} {e : Env} {s : State} {m : MethodId} {args : Array Value} {below : List Frame} {meth : Method} {c : Code} {A : AH} {z : Nat} {w0 x0 y0 e0 a0 r0 : Int32}{g : Nat} {L : BL} {S : StV} {Z : SV} {V : LV} (hb : BkW cy A g L S Z) (hw : WfS S) (hV : vS V = S) (hF : FRs A z) (hz : z + 700 ≤ 900000){kd ca am iv pd : Int32} {r : Nat → Int32} (hrv : ∀ i, i < 7 → r i = entH kd ca am iv pd (nI 0) i){fl : Int32} (hfl : fl = (if pd = -1 ∨ nI S.2.2.2.2.1 ≤ pd / nI 90 then nI 0 else nI 1)) (hoc : ocAddE V kd ca am iv pd = .inr (.int (nI S.1.1))) (X : Cx p s m args meth c D cy B od cL_act 11 tL_act RL (some .int)) : G p l e rmL_act s m args below meth c D B od 11 tL_act (FinQ false D B od (ActR cy A z g L S Z (ocAddE V kd ca am iv pd) (addRow S.1 (entH kd ca am iv pd (if pd = -1 ∨ nI S.2.2.2.2.1 ≤ pd / nI 90 then nI 0 else nI 1)), S.2)) (fun _ _ => True) args s below rmL_act.cells rmL_act.slots) 1 7 (upA A z (.inl (cy 0, 7, .inl r))) (z + 2) 139 [some (.ref g), some (.int (w0)), some (.int (x0)), some (.int (y0)), some (.int (e0)), some (.int (a0)), some (.int (r0)), some (.ref z), none, none, none] [.int fl, .int (nI 6), .ref z] := by
  have hw1 := hw.1
  have hw2 := hw.2.1
  have hw3 := hw.2.2.1
  have hw4 := hw.2.2.2.1
  refine g_iastN X rfl upA_eq (by decide) (by decide) ?_
  rw [upA_up]
  have hb1 : BkW cy (upA A z (.inl (cy 0, 7, .inl (upd r 6 fl)))) g L S Z := hb.le ((HLe.rf A).up hF.at)
  refine g_aload_n X rfl rfl ?_
  refine g_get X rfl flL_91 (ci := 8) rfl (hb1.1.1) rfl ?_
  refine g_aload X rfl rfl ?_
  refine g_callV X rfl lcJx4a65c_add_9ea2d lmL_121 lsJx4a65c_add_9ea2d (ct_add l D cy B od (show LsC cy (upA A z (.inl (cy 0, 7, .inl (upd r 6 fl)))) (L.1 2) (L.2.1 2) (L.2.2.1 2) S.1.1 (L.2.2.2 2) from hb1.1.2.1 2 (by decide)) (Or.inl ⟨_, _, upA_eq⟩) (by omega) hF.new (by omega)) (ci := 9) (hb1.1.2.1 2 (by decide)).1 rfl rfl rfl (Nat.le_of_ble_eq_true rfl) ⟨by decide, by decide⟩ ⟨Nat.le_of_ble_eq_true rfl, Nat.le_of_ble_eq_true rfl⟩ (fun v1 A1 z1 q1 => ?_)
  obtain ⟨rfl, q1⟩ := q1
  obtain ⟨L1, y1, rfl, hy1, hy2, hF1, hB1, hFt1, hfr1⟩ := act_add (S' := (addRow S.1 (entH kd ca am iv pd (if pd = -1 ∨ nI S.2.2.2.2.1 ≤ pd / nI 90 then nI 0 else nI 1)), S.2)) (t := 2) (by decide) (by decide) hb hF hz q1 (fun A2 h2 => ⟨_, h2, fun i hi => ent_row hi hfl hrv⟩) (ag_add2 L S Z (entH kd ca am iv pd (if pd = -1 ∨ nI S.2.2.2.2.1 ≤ pd / nI 90 then nI 0 else nI 1))) (fun u hu => by rcases (show u = 0 ∨ u = 1 ∨ u = 2 ∨ u = 3 ∨ u = 4 by omega) with rfl | rfl | rfl | rfl | rfl <;> rfl)
  refine g_pop X rfl rfl ?_
  refine g_aload_n X rfl rfl ?_
  refine g_get X rfl flL_91 (ci := 8) rfl (hB1.1.1) rfl ?_
  refine g_rV X rfl lcJx4a65c_size_8abf5 lmL_97 lsJx4a65c_size_8abf5 (cr_size l D cy B od (show LsC cy A1 (L1.1 2) (L1.2.1 2) (L1.2.2.1 2) (S.1.1 + 1) (L1.2.2.2 2) from hB1.1.2.1 2 (by decide))) (ci := 9) ((hB1.1.2.1 2 (by decide)).1) rfl rfl rfl (Nat.le_of_ble_eq_true rfl) ⟨⟨by decide, by decide⟩, rfl, rfl⟩ ⟨Nat.le_of_ble_eq_true rfl, Nat.le_of_ble_eq_true rfl⟩ ?_
  refine g_iconst X rfl (v := nI 1) (by decide) ?_
  refine g_isub X rfl ?_
  rw [pk_sub (by omega)]
  exact g_iret X rfl rfl (by rfl) (Nat.le_of_ble_eq_true rfl) (Nat.le_of_ble_eq_true rfl) ⟨by rw [hoc]; rfl, ⟨y1, rfl, hy1, hy2, hF1⟩, L1, _, (fun _ _ => rfl), (fun E q => by rw [hoc] at q; cases q), hB1, hFt1, hfr1⟩
set_option maxRecDepth 100000 in
set_option maxHeartbeats 400000 in
theorem actE3 (l : Launch) (D : va_G) (cy : Nat → ClassId) (B : Nat) (od : Nat → Option Nat) {p : Program} {e : Env} {s : State} {m : MethodId} {args : Array Value} {below : List Frame} {meth : Method} {c : Code} {A : AH} {z : Nat} {w0 x0 y0 e0 a0 r0 : Int32}{g : Nat} {L : BL} {S : StV} {Z : SV} {V : LV} (hb : BkW cy A g L S Z) (hw : WfS S) (hV : vS V = S) (hF : FRs A z) (hz : z + 700 ≤ 900000){kd ca am iv pd : Int32} {r : Nat → Int32} (hrv : ∀ i, i < 7 → r i = entH kd ca am iv pd (nI 0) i)(hok : (within9 kd (nI 0) (nI 3) && (within9 ca (nI 0) (nI 9) && (within9 am (nI 1) (nI 10000000) && (within9 iv (nI 0) (nI 359) && isDN pd)))) = true) (X : Cx p s m args meth c D cy B od cL_act 11 tL_act RL (some .int)) : G p l e rmL_act s m args below meth c D B od 11 tL_act (FinQ false D B od (ActR cy A z g L S Z (ocAddE V kd ca am iv pd) (addRow S.1 (entH kd ca am iv pd (if pd = -1 ∨ nI S.2.2.2.2.1 ≤ pd / nI 90 then nI 0 else nI 1)), S.2)) (fun _ _ => True) args s below rmL_act.cells rmL_act.slots) 1 7 (upA A z (.inl (cy 0, 7, .inl r))) (z + 2) 113 [some (.ref g), some (.int (w0)), some (.int (x0)), some (.int (y0)), some (.int (e0)), some (.int (a0)), some (.int (r0)), some (.ref z), none, none, none] [] := by
  have hw1 := hw.1
  have hw2 := hw.2.1
  have hw3 := hw.2.2.1
  have hw4 := hw.2.2.2.1
  have hb1 : BkW cy (upA A z (.inl (cy 0, 7, .inl r))) g L S Z := hb.le ((HLe.rf A).up hF.at)
  refine g_aload_n X rfl rfl ?_
  refine g_get X rfl flL_91 (ci := 8) rfl (hb1.1.1) rfl ?_
  refine g_rV X rfl lcJx4a65c_size_8abf5 lmL_97 lsJx4a65c_size_8abf5 (cr_size l D cy B od (show LsC cy (upA A z (.inl (cy 0, 7, .inl r))) (L.1 2) (L.2.1 2) (L.2.2.1 2) S.1.1 (L.2.2.2 2) from hb1.1.2.1 2 (by decide))) (ci := 9) ((hb1.1.2.1 2 (by decide)).1) rfl rfl rfl (Nat.le_of_ble_eq_true rfl) ⟨⟨by decide, by decide⟩, rfl, rfl⟩ ⟨Nat.le_of_ble_eq_true rfl, Nat.le_of_ble_eq_true rfl⟩ ?_
  refine g_bipush X rfl (v := nI 60) (by decide) ?_
  refine g_ic_neN X rfl (by omega) (by decide) (fun h => ?_) (fun h => ?_)
  · have hoc : ocAddE V kd ca am iv pd = .inr (.int (nI S.1.1)) := by unfold ocAddE; rw [hV, if_pos hok, if_pos (by omega)]
    refine g_aload X rfl rfl ?_
    refine g_bipush X rfl (v := nI 6) (by decide) ?_
    refine g_aload X rfl rfl ?_
    refine g_iconst X rfl (v := nI 4) (by decide) ?_
    refine g_ialdN X rfl upA_eq (by decide) (by decide) ?_
    rw [show r 4 = pd from hrv 4 (by decide)]
    refine g_iconst X rfl (v := (-1)) (by decide) ?_
    refine g_icmp_eq X rfl (fun h1 => ?_) (fun h1 => ?_)
    · refine g_iconst X rfl (v := nI 0) (by decide) ?_
      exact actE4 l D cy B od hb hw hV hF hz hrv (if_pos (Or.inl h1)).symm hoc X
    · refine g_aload X rfl rfl ?_
      refine g_iconst X rfl (v := nI 4) (by decide) ?_
      refine g_ialdN X rfl upA_eq (by decide) (by decide) ?_
      rw [show r 4 = pd from hrv 4 (by decide)]
      refine g_bipush X rfl (v := nI 90) (by decide) ?_
      refine g_idiv X rfl (by decide) ?_
      refine g_aload_n X rfl rfl ?_
      refine g_get X rfl flL_118 (ci := 8) rfl (hb1.1.1) rfl ?_
      refine g_rV X rfl lcJx4a65c_size_8abf5 lmL_97 lsJx4a65c_size_8abf5 (cr_size l D cy B od (show LsC cy (upA A z (.inl (cy 0, 7, .inl r))) (L.1 4) (L.2.1 4) (L.2.2.1 4) S.2.2.2.2.1 (L.2.2.2 4) from hb1.1.2.1 4 (by decide))) (ci := 9) ((hb1.1.2.1 4 (by decide)).1) rfl rfl rfl (Nat.le_of_ble_eq_true rfl) ⟨⟨by decide, by decide⟩, rfl, rfl⟩ ⟨Nat.le_of_ble_eq_true rfl, Nat.le_of_ble_eq_true rfl⟩ ?_
      refine g_icmp_ge X rfl (fun h2 => ?_) (fun h2 => ?_)
      · refine g_iconst X rfl (v := nI 0) (by decide) ?_
        exact actE4 l D cy B od hb hw hV hF hz hrv (if_pos (Or.inr h2)).symm hoc X
      · refine g_iconst X rfl (v := nI 1) (by decide) ?_
        refine g_goto X rfl ?_
        exact actE4 l D cy B od hb hw hV hF hz hrv (if_neg (fun q => q.elim h1 h2)).symm hoc X
  · have hoc : ocAddE V kd ca am iv pd = .inl eISE := by unfold ocAddE; rw [hV, if_pos hok, if_neg (by omega)]
    refine g_ldc X rfl kcL_22 ?_
    exact g_iret X rfl rfl (by rfl) (Nat.le_of_ble_eq_true rfl) (Nat.le_of_ble_eq_true rfl) (ActR.errG hb ((Grw.rf hF).new hF) (by decide) hoc (by decide))
set_option maxRecDepth 100000 in
set_option maxHeartbeats 400000 in
theorem actE2 (l : Launch) (D : va_G) (cy : Nat → ClassId) (B : Nat) (od : Nat → Option Nat) {p : Program} {e : Env} {s : State} {m : MethodId} {args : Array Value} {below : List Frame} {meth : Method} {c : Code} {A : AH} {z : Nat} {w0 x0 y0 e0 a0 r0 : Int32}{g : Nat} {L : BL} {S : StV} {Z : SV} {V : LV} (hb : BkW cy A g L S Z) (hw : WfS S) (hV : vS V = S) (hF : FRs A z) (hz : z + 700 ≤ 900000){kd ca am iv pd : Int32} {r : Nat → Int32} (hrv : ∀ i, i < 7 → r i = entH kd ca am iv pd (nI 0) i) (X : Cx p s m args meth c D cy B od cL_act 11 tL_act RL (some .int)) : G p l e rmL_act s m args below meth c D B od 11 tL_act (FinQ false D B od (ActR cy A z g L S Z (ocAddE V kd ca am iv pd) (addRow S.1 (entH kd ca am iv pd (if pd = -1 ∨ nI S.2.2.2.2.1 ≤ pd / nI 90 then nI 0 else nI 1)), S.2)) (fun _ _ => True) args s below rmL_act.cells rmL_act.slots) 1 7 (upA A z (.inl (cy 0, 7, .inl r))) (z + 2) 76 [some (.ref g), some (.int (w0)), some (.int (x0)), some (.int (y0)), some (.int (e0)), some (.int (a0)), some (.int (r0)), some (.ref z), none, none, none] [] := by
  refine g_aload X rfl rfl ?_
  refine g_iconst X rfl (v := nI 0) (by decide) ?_
  refine g_ialdN X rfl upA_eq (by decide) (by decide) ?_
  rw [show r 0 = kd from hrv 0 (by decide)]
  refine g_iconst X rfl (v := nI 0) (by decide) ?_
  refine g_iconst X rfl (v := nI 3) (by decide) ?_
  refine g_rS X rfl lcL_is lmL_114 stL_is (cr_L_is l D cy B od (v := kd) (lo := nI 0) (hi := nI 3)) rfl rfl (Nat.le_of_ble_eq_true rfl) ⟨⟨by decide, by decide⟩, rfl, rfl⟩ ⟨Nat.le_of_ble_eq_true rfl, Nat.le_of_ble_eq_true rfl⟩ ?_
  refine g_if_eq X rfl (fun h1 => ?_) (fun h1 => ?_)
  · have hoc : ocAddE V kd ca am iv pd = .inl eIAE := by unfold ocAddE; rw [if_neg]; rw [(bI_iff _).mp h1]; simp
    refine g_ldc X rfl kcL_29 ?_
    exact g_iret X rfl rfl (by rfl) (Nat.le_of_ble_eq_true rfl) (Nat.le_of_ble_eq_true rfl) (ActR.errG hb ((Grw.rf hF).new hF) (by decide) hoc (by decide))
  · refine g_aload X rfl rfl ?_
    refine g_iconst X rfl (v := nI 1) (by decide) ?_
    refine g_ialdN X rfl upA_eq (by decide) (by decide) ?_
    rw [show r 1 = ca from hrv 1 (by decide)]
    refine g_iconst X rfl (v := nI 0) (by decide) ?_
    refine g_bipush X rfl (v := nI 9) (by decide) ?_
    refine g_rS X rfl lcL_is lmL_114 stL_is (cr_L_is l D cy B od (v := ca) (lo := nI 0) (hi := nI 9)) rfl rfl (Nat.le_of_ble_eq_true rfl) ⟨⟨by decide, by decide⟩, rfl, rfl⟩ ⟨Nat.le_of_ble_eq_true rfl, Nat.le_of_ble_eq_true rfl⟩ ?_
    refine g_if_eq X rfl (fun h2 => ?_) (fun h2 => ?_)
    · have hoc : ocAddE V kd ca am iv pd = .inl eIAE := by unfold ocAddE; rw [if_neg]; rw [(bI_iff _).mp h2]; simp
      refine g_ldc X rfl kcL_29 ?_
      exact g_iret X rfl rfl (by rfl) (Nat.le_of_ble_eq_true rfl) (Nat.le_of_ble_eq_true rfl) (ActR.errG hb ((Grw.rf hF).new hF) (by decide) hoc (by decide))
    · refine g_aload X rfl rfl ?_
      refine g_iconst X rfl (v := nI 2) (by decide) ?_
      refine g_ialdN X rfl upA_eq (by decide) (by decide) ?_
      rw [show r 2 = am from hrv 2 (by decide)]
      refine g_iconst X rfl (v := nI 1) (by decide) ?_
      refine g_ldc X rfl kcL_85 ?_
      refine g_rS X rfl lcL_is lmL_114 stL_is (cr_L_is l D cy B od (v := am) (lo := nI 1) (hi := nI 10000000)) rfl rfl (Nat.le_of_ble_eq_true rfl) ⟨⟨by decide, by decide⟩, rfl, rfl⟩ ⟨Nat.le_of_ble_eq_true rfl, Nat.le_of_ble_eq_true rfl⟩ ?_
      refine g_if_eq X rfl (fun h3 => ?_) (fun h3 => ?_)
      · have hoc : ocAddE V kd ca am iv pd = .inl eIAE := by unfold ocAddE; rw [if_neg]; rw [(bI_iff _).mp h3]; simp
        refine g_ldc X rfl kcL_29 ?_
        exact g_iret X rfl rfl (by rfl) (Nat.le_of_ble_eq_true rfl) (Nat.le_of_ble_eq_true rfl) (ActR.errG hb ((Grw.rf hF).new hF) (by decide) hoc (by decide))
      · refine g_aload X rfl rfl ?_
        refine g_iconst X rfl (v := nI 3) (by decide) ?_
        refine g_ialdN X rfl upA_eq (by decide) (by decide) ?_
        rw [show r 3 = iv from hrv 3 (by decide)]
        refine g_iconst X rfl (v := nI 0) (by decide) ?_
        refine g_sipush X rfl (v := nI 359) (by decide) ?_
        refine g_rS X rfl lcL_is lmL_114 stL_is (cr_L_is l D cy B od (v := iv) (lo := nI 0) (hi := nI 359)) rfl rfl (Nat.le_of_ble_eq_true rfl) ⟨⟨by decide, by decide⟩, rfl, rfl⟩ ⟨Nat.le_of_ble_eq_true rfl, Nat.le_of_ble_eq_true rfl⟩ ?_
        refine g_if_eq X rfl (fun h4 => ?_) (fun h4 => ?_)
        · have hoc : ocAddE V kd ca am iv pd = .inl eIAE := by unfold ocAddE; rw [if_neg]; rw [(bI_iff _).mp h4]; simp
          refine g_ldc X rfl kcL_29 ?_
          exact g_iret X rfl rfl (by rfl) (Nat.le_of_ble_eq_true rfl) (Nat.le_of_ble_eq_true rfl) (ActR.errG hb ((Grw.rf hF).new hF) (by decide) hoc (by decide))
        · refine g_aload X rfl rfl ?_
          refine g_iconst X rfl (v := nI 4) (by decide) ?_
          refine g_ialdN X rfl upA_eq (by decide) (by decide) ?_
          rw [show r 4 = pd from hrv 4 (by decide)]
          refine g_iconst X rfl (v := (-1)) (by decide) ?_
          refine g_sipush X rfl (v := nI 359) (by decide) ?_
          refine g_rS X rfl lcL_is lmL_114 stL_is (cr_L_is l D cy B od (v := pd) (lo := -1) (hi := nI 359)) rfl rfl (Nat.le_of_ble_eq_true rfl) ⟨⟨by decide, by decide⟩, rfl, rfl⟩ ⟨Nat.le_of_ble_eq_true rfl, Nat.le_of_ble_eq_true rfl⟩ ?_
          refine g_if_ne X rfl (fun h5 => ?_) (fun h5 => ?_)
          · have hok : (within9 kd (nI 0) (nI 3) && (within9 ca (nI 0) (nI 9) && (within9 am (nI 1) (nI 10000000) && (within9 iv (nI 0) (nI 359) && isDN pd)))) = true := by rw [(Bool.not_eq_false _).mp (mt (bI_iff _).mpr h1), (Bool.not_eq_false _).mp (mt (bI_iff _).mpr h2), (Bool.not_eq_false _).mp (mt (bI_iff _).mpr h3), (Bool.not_eq_false _).mp (mt (bI_iff _).mpr h4), isDN_w, (Bool.not_eq_false _).mp (mt (bI_iff _).mpr h5)]; rfl
            exact actE3 l D cy B od hb hw hV hF hz hrv hok X
          · have hoc : ocAddE V kd ca am iv pd = .inl eIAE := by unfold ocAddE; rw [if_neg]; rw [isDN_w, (bI_iff _).mp h5]; simp
            refine g_ldc X rfl kcL_29 ?_
            exact g_iret X rfl rfl (by rfl) (Nat.le_of_ble_eq_true rfl) (Nat.le_of_ble_eq_true rfl) (ActR.errG hb ((Grw.rf hF).new hF) (by decide) hoc (by decide))
set_option maxRecDepth 100000 in
set_option maxHeartbeats 1000000 in
theorem actE1 (l : Launch) (D : va_G) (cy : Nat → ClassId) (B : Nat) (od : Nat → Option Nat) {p : Program} {e : Env} {s : State} {m : MethodId} {args : Array Value} {below : List Frame} {meth : Method} {c : Code} {A : AH} {z : Nat} {w0 e0 a0 r0 : Int32} {n : Nat} (hn : n < 10000000) {g : Nat} {L : BL} {S : StV} {Z : SV} {V : LV} (hb : BkW cy A g L S Z) (hw : WfS S) (hV : vS V = S) (hF : FRs A z) (hz : z + 700 ≤ 900000) (X : Cx p s m args meth c D cy B od cL_act 11 tL_act RL (some .int)) : G p l e rmL_act s m args below meth c D B od 11 tL_act (FinQ false D B od (ActR cy A z g L S Z (ocAddE V (numI n (nI 0) (nI 3) 4) (numI (n / 64) (nI 0) (nI 9) 10) (nI (amtN (n / 64))) (numI (n / 64 / 9) (nI 0) (nI 359) 360) (dayI (n / 64 / 3))) (addRow S.1 (entH (numI n (nI 0) (nI 3) 4) (numI (n / 64) (nI 0) (nI 9) 10) (nI (amtN (n / 64))) (numI (n / 64 / 9) (nI 0) (nI 359) 360) (dayI (n / 64 / 3)) (if (dayI (n / 64 / 3)) = -1 ∨ nI S.2.2.2.2.1 ≤ (dayI (n / 64 / 3)) / nI 90 then nI 0 else nI 1)), S.2)) (fun _ _ => True) args s below rmL_act.cells rmL_act.slots) 0 0 A (z + 1) 30 [some (.ref g), some (.int (w0)), some (.int (nI n)), some (.int (nI (n / 64))), some (.int (e0)), some (.int (a0)), some (.int (r0)), none, none, none, none] [] := by
  refine g_bipush X rfl (v := nI 7) (by decide) ?_
  refine g_newai X rfl aw_i (N := 7) (nI_pos (by decide)) (nI_clamp (by decide)) (by decide) (by omega) (Nat.le_of_ble_eq_true rfl) (Nat.le_of_ble_eq_true rfl) ?_
  refine g_dup X rfl rfl ?_
  refine g_iconst X rfl (v := nI 0) (by decide) ?_
  refine g_iload_n X rfl rfl ?_
  refine g_iconst X rfl (v := nI 0) (by decide) ?_
  refine g_iconst X rfl (v := nI 3) (by decide) ?_
  refine g_rS X rfl lcL_number lmL_86 stL_number (cr_L_number l D cy B od (n := n) (N := 4) (lo := nI 0) (hi := nI 3) (by omega) (by decide) (by decide) (by decide)) rfl rfl (Nat.le_of_ble_eq_true rfl) ⟨⟨by decide, by decide⟩, rfl, rfl⟩ ⟨Nat.le_of_ble_eq_true rfl, Nat.le_of_ble_eq_true rfl⟩ ?_
  refine g_iastN X rfl upA_eq (by decide) (by decide) ?_
  rw [upA_up]
  refine g_dup X rfl rfl ?_
  refine g_iconst X rfl (v := nI 1) (by decide) ?_
  refine g_iload_n X rfl rfl ?_
  refine g_iconst X rfl (v := nI 0) (by decide) ?_
  refine g_bipush X rfl (v := nI 9) (by decide) ?_
  refine g_rS X rfl lcL_number lmL_86 stL_number (cr_L_number l D cy B od (n := n / 64) (N := 10) (lo := nI 0) (hi := nI 9) (by omega) (by decide) (by decide) (by decide)) rfl rfl (Nat.le_of_ble_eq_true rfl) ⟨⟨by decide, by decide⟩, rfl, rfl⟩ ⟨Nat.le_of_ble_eq_true rfl, Nat.le_of_ble_eq_true rfl⟩ ?_
  refine g_iastN X rfl upA_eq (by decide) (by decide) ?_
  rw [upA_up]
  refine g_dup X rfl rfl ?_
  refine g_iconst X rfl (v := nI 2) (by decide) ?_
  refine g_iload_n X rfl rfl ?_
  refine g_rS X rfl lcL_amount lmL_108 stL_amount (cr_L_amount l D cy B od (n := n / 64) (by omega)) rfl rfl (Nat.le_of_ble_eq_true rfl) ⟨⟨by decide, by decide⟩, rfl, rfl⟩ ⟨Nat.le_of_ble_eq_true rfl, Nat.le_of_ble_eq_true rfl⟩ ?_
  refine g_iastN X rfl upA_eq (by decide) (by decide) ?_
  rw [upA_up]
  refine g_dup X rfl rfl ?_
  refine g_iconst X rfl (v := nI 3) (by decide) ?_
  refine g_iload_n X rfl rfl ?_
  refine g_bipush X rfl (v := nI 9) (by decide) ?_
  refine g_idiv X rfl (by decide) ?_
  rw [pk_div (by omega) (by decide) (by decide)]
  refine g_iconst X rfl (v := nI 0) (by decide) ?_
  refine g_sipush X rfl (v := nI 359) (by decide) ?_
  refine g_rS X rfl lcL_number lmL_86 stL_number (cr_L_number l D cy B od (n := n / 64 / 9) (N := 360) (lo := nI 0) (hi := nI 359) (by omega) (by decide) (by decide) (by decide)) rfl rfl (Nat.le_of_ble_eq_true rfl) ⟨⟨by decide, by decide⟩, rfl, rfl⟩ ⟨Nat.le_of_ble_eq_true rfl, Nat.le_of_ble_eq_true rfl⟩ ?_
  refine g_iastN X rfl upA_eq (by decide) (by decide) ?_
  rw [upA_up]
  refine g_dup X rfl rfl ?_
  refine g_iconst X rfl (v := nI 4) (by decide) ?_
  refine g_iload_n X rfl rfl ?_
  refine g_iconst X rfl (v := nI 3) (by decide) ?_
  refine g_idiv X rfl (by decide) ?_
  rw [pk_div (by omega) (by decide) (by decide)]
  refine g_rS X rfl lcL_day lmL_111 stL_day (cr_L_day l D cy B od (n := n / 64 / 3) (by omega)) rfl rfl (Nat.le_of_ble_eq_true rfl) ⟨⟨by decide, by decide⟩, rfl, rfl⟩ ⟨Nat.le_of_ble_eq_true rfl, Nat.le_of_ble_eq_true rfl⟩ ?_
  refine g_iastN X rfl upA_eq (by decide) (by decide) ?_
  rw [upA_up]
  refine g_dup X rfl rfl ?_
  refine g_iconst X rfl (v := nI 5) (by decide) ?_
  refine g_iconst X rfl (v := nI 0) (by decide) ?_
  refine g_iastN X rfl upA_eq (by decide) (by decide) ?_
  rw [upA_up]
  refine g_dup X rfl rfl ?_
  refine g_bipush X rfl (v := nI 6) (by decide) ?_
  refine g_iconst X rfl (v := nI 0) (by decide) ?_
  refine g_iastN X rfl upA_eq (by decide) (by decide) ?_
  rw [upA_up]
  refine g_astoreS X rfl (by decide) rfl ?_
  exact actE2 l D cy B od hb hw hV hF hz (fun i hi => by rcases (show i = 0 ∨ i = 1 ∨ i = 2 ∨ i = 3 ∨ i = 4 ∨ i = 5 ∨ i = 6 by omega) with rfl | rfl | rfl | rfl | rfl | rfl | rfl <;> rfl) X
set_option maxRecDepth 100000 in
set_option maxHeartbeats 400000 in
theorem ct_L_act_0 (l : Launch) (D : va_G) (cy : Nat → ClassId) (B : Nat) (od : Nat → Option Nat) {A : AH} {g n : Nat} {L : BL} {S : StV} {Z : SV} (hb : BkW cy A g L S Z) (hw : WfS S) (hn : n < 10000000) {V : LV} (hV : vS V = S) (z : Nat) (hF : FRs A z) (hz : z + 700 ≤ 900000) : CT l D cy B od yL_act cL_act 11 (some .int) rmL_act [.ref g, .int (nI 0), .int (nI n)] A (z + 1) (ActR cy A z g L S Z (ocAddE V (numI n (nI 0) (nI 3) 4) (numI (n / 64) (nI 0) (nI 9) 10) (nI (amtN (n / 64))) (numI (n / 64 / 9) (nI 0) (nI 359) 360) (dayI (n / 64 / 3))) (addRow S.1 (entH (numI n (nI 0) (nI 3) 4) (numI (n / 64) (nI 0) (nI 9) 10) (nI (amtN (n / 64))) (numI (n / 64 / 9) (nI 0) (nI 359) 360) (dayI (n / 64 / 3)) (if (dayI (n / 64 / 3)) = -1 ∨ nI S.2.2.2.2.1 ≤ (dayI (n / 64 / 3)) / nI 90 then nI 0 else nI 1)), S.2)) := by
  refine act_pre l D cy B od hb hw hn 0 (fun p e s m args below meth c X => ?_)
  have hw1 := hw.1
  have hw2 := hw.2.1
  have hw3 := hw.2.2.1
  refine g_iload_n X rfl rfl ?_
  refine g_tsw X rfl (j := 30) (by decide) (by decide) rfl rfl (by decide) ?_
  exact actE1 l D cy B od hn hb hw hV hF hz X
set_option maxRecDepth 100000 in
set_option maxHeartbeats 400000 in
theorem ct_L_act_1 (l : Launch) (D : va_G) (cy : Nat → ClassId) (B : Nat) (od : Nat → Option Nat) {A : AH} {g n : Nat} {L : BL} {S : StV} {Z : SV} (hb : BkW cy A g L S Z) (hw : WfS S) (hn : n < 10000000) {V : LV} (hV : vS V = S) (z : Nat) (hF : FRs A z) (hz : z + 700 ≤ 900000) : CT l D cy B od yL_act cL_act 11 (some .int) rmL_act [.ref g, .int (nI 1), .int (nI n)] A (z + 1) (ActR cy A z g L S Z (ocAddE V (numI n (nI 0) (nI 3) 4) (numI (n / 64) (nI 0) (nI 9) 10) (nI (amtN (n / 64))) (numI (n / 64 / 9) (nI 0) (nI 359) 360) (dayI (n / 64 / 3))) (addRow S.1 (entH (numI n (nI 0) (nI 3) 4) (numI (n / 64) (nI 0) (nI 9) 10) (nI (amtN (n / 64))) (numI (n / 64 / 9) (nI 0) (nI 359) 360) (dayI (n / 64 / 3)) (if (dayI (n / 64 / 3)) = -1 ∨ nI S.2.2.2.2.1 ≤ (dayI (n / 64 / 3)) / nI 90 then nI 0 else nI 1)), S.2)) := by
  refine act_pre l D cy B od hb hw hn 1 (fun p e s m args below meth c X => ?_)
  have hw1 := hw.1
  have hw2 := hw.2.1
  have hw3 := hw.2.2.1
  refine g_iload_n X rfl rfl ?_
  refine g_tsw X rfl (j := 30) (by decide) (by decide) rfl rfl (by decide) ?_
  exact actE1 l D cy B od hn hb hw hV hF hz X
set_option maxRecDepth 100000 in
set_option maxHeartbeats 400000 in
theorem ct_L_act_2 (l : Launch) (D : va_G) (cy : Nat → ClassId) (B : Nat) (od : Nat → Option Nat) {A : AH} {g n : Nat} {L : BL} {S : StV} {Z : SV} (hb : BkW cy A g L S Z) (hw : WfS S) (hn : n < 10000000) {V : LV} (hV : vS V = S) (z : Nat) (hF : FRs A z) (hz : z + 700 ≤ 900000) : CT l D cy B od yL_act cL_act 11 (some .int) rmL_act [.ref g, .int (nI 2), .int (nI n)] A (z + 1) (ActR cy A z g L S Z (ocAddE V (numI n (nI 0) (nI 3) 4) (numI (n / 64) (nI 0) (nI 9) 10) (nI (amtN (n / 64))) (numI (n / 64 / 9) (nI 0) (nI 359) 360) (dayI (n / 64 / 3))) (addRow S.1 (entH (numI n (nI 0) (nI 3) 4) (numI (n / 64) (nI 0) (nI 9) 10) (nI (amtN (n / 64))) (numI (n / 64 / 9) (nI 0) (nI 359) 360) (dayI (n / 64 / 3)) (if (dayI (n / 64 / 3)) = -1 ∨ nI S.2.2.2.2.1 ≤ (dayI (n / 64 / 3)) / nI 90 then nI 0 else nI 1)), S.2)) := by
  refine act_pre l D cy B od hb hw hn 2 (fun p e s m args below meth c X => ?_)
  have hw1 := hw.1
  have hw2 := hw.2.1
  have hw3 := hw.2.2.1
  refine g_iload_n X rfl rfl ?_
  refine g_tsw X rfl (j := 30) (by decide) (by decide) rfl rfl (by decide) ?_
  exact actE1 l D cy B od hn hb hw hV hF hz X
set_option maxRecDepth 100000 in
set_option maxHeartbeats 400000 in
theorem ct_L_act_3 (l : Launch) (D : va_G) (cy : Nat → ClassId) (B : Nat) (od : Nat → Option Nat) {A : AH} {g n : Nat} {L : BL} {S : StV} {Z : SV} (hb : BkW cy A g L S Z) (hw : WfS S) (hn : n < 10000000) {V : LV} (hV : vS V = S) (z : Nat) (hF : FRs A z) (hz : z + 700 ≤ 900000) : CT l D cy B od yL_act cL_act 11 (some .int) rmL_act [.ref g, .int (nI 3), .int (nI n)] A (z + 1) (ActR cy A z g L S Z (ocAddE V (numI n (nI 0) (nI 3) 4) (numI (n / 64) (nI 0) (nI 9) 10) (nI (amtN (n / 64))) (numI (n / 64 / 9) (nI 0) (nI 359) 360) (dayI (n / 64 / 3))) (addRow S.1 (entH (numI n (nI 0) (nI 3) 4) (numI (n / 64) (nI 0) (nI 9) 10) (nI (amtN (n / 64))) (numI (n / 64 / 9) (nI 0) (nI 359) 360) (dayI (n / 64 / 3)) (if (dayI (n / 64 / 3)) = -1 ∨ nI S.2.2.2.2.1 ≤ (dayI (n / 64 / 3)) / nI 90 then nI 0 else nI 1)), S.2)) := by
  refine act_pre l D cy B od hb hw hn 3 (fun p e s m args below meth c X => ?_)
  have hw1 := hw.1
  have hw2 := hw.2.1
  have hw3 := hw.2.2.1
  refine g_iload_n X rfl rfl ?_
  refine g_tsw X rfl (j := 30) (by decide) (by decide) rfl rfl (by decide) ?_
  exact actE1 l D cy B od hn hb hw hV hF hz X
set_option maxRecDepth 100000 in
set_option maxHeartbeats 1000000 in
theorem actR2 (l : Launch) (D : va_G) (cy : Nat → ClassId) (B : Nat) (od : Nat → Option Nat) {p : Program} {e : Env} {s : State} {m : MethodId} {args : Array Value} {below : List Frame} {meth : Method} {c : Code} {A : AH} {z : Nat} {w0 x0 y0 e0 a0 r0 : Int32}{g : Nat} {L : BL} {S : StV} {Z : SV} {V : LV} (hb : BkW cy A g L S Z) (hw : WfS S) (hV : vS V = S) (hF : FRs A z) (hz : z + 700 ≤ 900000){ar : Int32} (hok : within9 ar (nI 1) (nI 500) = true) (X : Cx p s m args meth c D cy B od cL_act 11 tL_act RL (some .int)) : G p l e rmL_act s m args below meth c D B od 11 tL_act (FinQ false D B od (ActR cy A z g L S Z (ocAddR V ar) (S.1, addRow S.2.1 (roomH ar), S.2.2)) (fun _ _ => True) args s below rmL_act.cells rmL_act.slots) 0 0 A (z + 1) 231 [some (.ref g), some (.int (w0)), some (.int (x0)), some (.int (y0)), some (.int (e0)), some (.int (a0)), some (.int (r0)), some (.int (ar)), none, none, none] [] := by
  have hw1 := hw.1
  have hw2 := hw.2.1
  have hw3 := hw.2.2.1
  have hw4 := hw.2.2.2.1
  refine g_aload_n X rfl rfl ?_
  refine g_get X rfl flL_105 (ci := 8) rfl (hb.1.1) rfl ?_
  refine g_rV X rfl lcJx4a65c_size_8abf5 lmL_97 lsJx4a65c_size_8abf5 (cr_size l D cy B od (show LsC cy A (L.1 1) (L.2.1 1) (L.2.2.1 1) S.2.1.1 (L.2.2.2 1) from hb.1.2.1 1 (by decide))) (ci := 9) ((hb.1.2.1 1 (by decide)).1) rfl rfl rfl (Nat.le_of_ble_eq_true rfl) ⟨⟨by decide, by decide⟩, rfl, rfl⟩ ⟨Nat.le_of_ble_eq_true rfl, Nat.le_of_ble_eq_true rfl⟩ ?_
  refine g_bipush X rfl (v := nI 6) (by decide) ?_
  refine g_ic_neN X rfl (by omega) (by decide) (fun h => ?_) (fun h => ?_)
  · have hoc : ocAddR V ar = .inr (.int (nI S.2.1.1)) := by unfold ocAddR; rw [hV, if_pos hok, if_pos (by omega)]
    refine g_aload_n X rfl rfl ?_
    refine g_get X rfl flL_105 (ci := 8) rfl (hb.1.1) rfl ?_
    refine g_iconst X rfl (v := nI 3) (by decide) ?_
    refine g_newai X rfl aw_i (N := 3) (nI_pos (by decide)) (nI_clamp (by decide)) (by decide) (by omega) (Nat.le_of_ble_eq_true rfl) (Nat.le_of_ble_eq_true rfl) ?_
    refine g_dup X rfl rfl ?_
    refine g_iconst X rfl (v := nI 0) (by decide) ?_
    refine g_iload X rfl rfl ?_
    refine g_iastN X rfl upA_eq (by decide) (by decide) ?_
    rw [upA_up]
    refine g_dup X rfl rfl ?_
    refine g_iconst X rfl (v := nI 1) (by decide) ?_
    refine g_iconst X rfl (v := (-1)) (by decide) ?_
    refine g_iastN X rfl upA_eq (by decide) (by decide) ?_
    rw [upA_up]
    refine g_dup X rfl rfl ?_
    refine g_iconst X rfl (v := nI 2) (by decide) ?_
    refine g_iconst X rfl (v := (-1)) (by decide) ?_
    refine g_iastN X rfl upA_eq (by decide) (by decide) ?_
    rw [upA_up]
    have hb1 : BkW cy (upA A z (.inl (cy 0, 3, .inl (upd (upd (upd (fun _ => 0) 0 ar) 1 (-1)) 2 (-1))))) g L S Z := hb.le ((HLe.rf A).up hF.at)
    refine g_callV X rfl lcJx4a65c_add_9ea2d lmL_121 lsJx4a65c_add_9ea2d (ct_add l D cy B od (show LsC cy (upA A z (.inl (cy 0, 3, .inl (upd (upd (upd (fun _ => 0) 0 ar) 1 (-1)) 2 (-1))))) (L.1 1) (L.2.1 1) (L.2.2.1 1) S.2.1.1 (L.2.2.2 1) from hb1.1.2.1 1 (by decide)) (Or.inl ⟨_, _, upA_eq⟩) (by omega) hF.new (by omega)) (ci := 9) (hb1.1.2.1 1 (by decide)).1 rfl rfl rfl (Nat.le_of_ble_eq_true rfl) ⟨by decide, by decide⟩ ⟨Nat.le_of_ble_eq_true rfl, Nat.le_of_ble_eq_true rfl⟩ (fun v1 A1 z1 q1 => ?_)
    obtain ⟨rfl, q1⟩ := q1
    obtain ⟨L1, y1, rfl, hy1, hy2, hF1, hB1, hFt1, hfr1⟩ := act_add (S' := (S.1, addRow S.2.1 (roomH ar), S.2.2)) (t := 1) (by decide) (by decide) hb hF hz q1 (fun A2 h2 => ⟨_, h2, fun i hi => by show _ = (addRow S.2.1 (roomH ar)).2 i S.2.1.1; rw [addRow_at]; rcases (show i = 0 ∨ i = 1 ∨ i = 2 by omega) with rfl | rfl | rfl <;> rfl⟩) (ag_add1 L S Z (roomH ar)) (fun u hu => by rcases (show u = 0 ∨ u = 1 ∨ u = 2 ∨ u = 3 ∨ u = 4 by omega) with rfl | rfl | rfl | rfl | rfl <;> rfl)
    refine g_pop X rfl rfl ?_
    refine g_aload_n X rfl rfl ?_
    refine g_get X rfl flL_105 (ci := 8) rfl (hB1.1.1) rfl ?_
    refine g_rV X rfl lcJx4a65c_size_8abf5 lmL_97 lsJx4a65c_size_8abf5 (cr_size l D cy B od (show LsC cy A1 (L1.1 1) (L1.2.1 1) (L1.2.2.1 1) (S.2.1.1 + 1) (L1.2.2.2 1) from hB1.1.2.1 1 (by decide))) (ci := 9) ((hB1.1.2.1 1 (by decide)).1) rfl rfl rfl (Nat.le_of_ble_eq_true rfl) ⟨⟨by decide, by decide⟩, rfl, rfl⟩ ⟨Nat.le_of_ble_eq_true rfl, Nat.le_of_ble_eq_true rfl⟩ ?_
    refine g_iconst X rfl (v := nI 1) (by decide) ?_
    refine g_isub X rfl ?_
    rw [pk_sub (by omega)]
    exact g_iret X rfl rfl (by rfl) (Nat.le_of_ble_eq_true rfl) (Nat.le_of_ble_eq_true rfl) ⟨by rw [hoc]; rfl, ⟨y1, rfl, hy1, hy2, hF1⟩, L1, _, (fun _ _ => rfl), (fun E q => by rw [hoc] at q; cases q), hB1, hFt1, hfr1⟩
  · have hoc : ocAddR V ar = .inl eISE := by unfold ocAddR; rw [hV, if_pos hok, if_neg (by omega)]
    refine g_ldc X rfl kcL_22 ?_
    exact g_iret X rfl rfl (by rfl) (Nat.le_of_ble_eq_true rfl) (Nat.le_of_ble_eq_true rfl) (ActR.err hb hF hoc (by decide))
set_option maxRecDepth 100000 in
set_option maxHeartbeats 400000 in
theorem ct_L_act_7 (l : Launch) (D : va_G) (cy : Nat → ClassId) (B : Nat) (od : Nat → Option Nat) {A : AH} {g n : Nat} {L : BL} {S : StV} {Z : SV} (hb : BkW cy A g L S Z) (hw : WfS S) (hn : n < 10000000) {V : LV} (hV : vS V = S) (z : Nat) (hF : FRs A z) (hz : z + 700 ≤ 900000) : CT l D cy B od yL_act cL_act 11 (some .int) rmL_act [.ref g, .int (nI 7), .int (nI n)] A (z + 1) (ActR cy A z g L S Z (ocAddR V (numI n (nI 1) (nI 500) 500)) (S.1, addRow S.2.1 (roomH (numI n (nI 1) (nI 500) 500)), S.2.2)) := by
  refine act_pre l D cy B od hb hw hn 7 (fun p e s m args below meth c X => ?_)
  have hw1 := hw.1
  have hw2 := hw.2.1
  have hw3 := hw.2.2.1
  refine g_iload_n X rfl rfl ?_
  refine g_tsw X rfl (j := 219) (by decide) (by decide) rfl rfl (by decide) ?_
  refine g_iload_n X rfl rfl ?_
  refine g_iconst X rfl (v := nI 1) (by decide) ?_
  refine g_sipush X rfl (v := nI 500) (by decide) ?_
  refine g_rS X rfl lcL_number lmL_86 stL_number (cr_L_number l D cy B od (n := n) (N := 500) (lo := nI 1) (hi := nI 500) (by omega) (by decide) (by decide) (by decide)) rfl rfl (Nat.le_of_ble_eq_true rfl) ⟨⟨by decide, by decide⟩, rfl, rfl⟩ ⟨Nat.le_of_ble_eq_true rfl, Nat.le_of_ble_eq_true rfl⟩ ?_
  refine g_istoreS X rfl (by decide) rfl ?_
  refine g_iload X rfl rfl ?_
  refine g_iconst X rfl (v := nI 1) (by decide) ?_
  refine g_sipush X rfl (v := nI 500) (by decide) ?_
  refine g_rS X rfl lcL_is lmL_114 stL_is (cr_L_is l D cy B od (v := numI n (nI 1) (nI 500) 500) (lo := nI 1) (hi := nI 500)) rfl rfl (Nat.le_of_ble_eq_true rfl) ⟨⟨by decide, by decide⟩, rfl, rfl⟩ ⟨Nat.le_of_ble_eq_true rfl, Nat.le_of_ble_eq_true rfl⟩ ?_
  refine g_if_ne X rfl (fun h => ?_) (fun h => ?_)
  · exact actR2 l D cy B od hb hw hV hF hz ((Bool.not_eq_false _).mp (mt (bI_iff _).mpr h)) X
  · have hoc : ocAddR V (numI n (nI 1) (nI 500) 500) = .inl eIAE := by unfold ocAddR; rw [if_neg]; rw [(bI_iff _).mp h]; decide
    refine g_ldc X rfl kcL_29 ?_
    exact g_iret X rfl rfl (by rfl) (Nat.le_of_ble_eq_true rfl) (Nat.le_of_ble_eq_true rfl) (ActR.err hb hF hoc (by decide))
set_option maxRecDepth 100000 in
set_option maxHeartbeats 1000000 in
theorem actA2 (l : Launch) (D : va_G) (cy : Nat → ClassId) (B : Nat) (od : Nat → Option Nat) {p : Program} {e : Env} {s : State} {m : MethodId} {args : Array Value} {below : List Frame} {meth : Method} {c : Code} {A : AH} {z : Nat} {w0 x0 y0 e0 a0 r0 : Int32}{g : Nat} {L : BL} {S : StV} {Z : SV} {V : LV} (hb : BkW cy A g L S Z) (hw : WfS S) (hV : vS V = S) (hF : FRs A z) (hz : z + 700 ≤ 900000){pr dy li : Int32} (hok : (within9 pr (nI 1) (nI 5000000) && (within9 dy (nI 0) (nI 359) && within9 li (nI 1) (nI 120))) = true) (X : Cx p s m args meth c D cy B od cL_act 11 tL_act RL (some .int)) : G p l e rmL_act s m args below meth c D B od 11 tL_act (FinQ false D B od (ActR cy A z g L S Z (ocAddA V pr dy li) (S.1, S.2.1, addRow S.2.2.1 (astH pr dy li (sSort Z pr)), S.2.2.2)) (fun _ _ => True) args s below rmL_act.cells rmL_act.slots) 0 0 A (z + 1) 376 [some (.ref g), some (.int (w0)), some (.int (x0)), some (.int (y0)), some (.int (e0)), some (.int (a0)), some (.int (r0)), some (.int (pr)), some (.int (dy)), some (.int (li)), none] [] := by
  have hw1 := hw.1
  have hw2 := hw.2.1
  have hw3 := hw.2.2.1
  have hw4 := hw.2.2.2.1
  refine g_aload_n X rfl rfl ?_
  refine g_get X rfl flL_102 (ci := 8) rfl (hb.1.1) rfl ?_
  refine g_rV X rfl lcJx4a65c_size_8abf5 lmL_97 lsJx4a65c_size_8abf5 (cr_size l D cy B od (show LsC cy A (L.1 3) (L.2.1 3) (L.2.2.1 3) S.2.2.1.1 (L.2.2.2 3) from hb.1.2.1 3 (by decide))) (ci := 9) ((hb.1.2.1 3 (by decide)).1) rfl rfl rfl (Nat.le_of_ble_eq_true rfl) ⟨⟨by decide, by decide⟩, rfl, rfl⟩ ⟨Nat.le_of_ble_eq_true rfl, Nat.le_of_ble_eq_true rfl⟩ ?_
  refine g_bipush X rfl (v := nI 12) (by decide) ?_
  refine g_ic_neN X rfl (by omega) (by decide) (fun h => ?_) (fun h => ?_)
  · have hoc : ocAddA V pr dy li = .inr (.int (nI S.2.2.1.1)) := by unfold ocAddA; rw [hV, if_pos hok, if_pos (by omega)]
    refine g_aload_n X rfl rfl ?_
    refine g_get X rfl flL_102 (ci := 8) rfl (hb.1.1) rfl ?_
    refine g_iconst X rfl (v := nI 5) (by decide) ?_
    refine g_newai X rfl aw_i (N := 5) (nI_pos (by decide)) (nI_clamp (by decide)) (by decide) (by omega) (Nat.le_of_ble_eq_true rfl) (Nat.le_of_ble_eq_true rfl) ?_
    refine g_dup X rfl rfl ?_
    refine g_iconst X rfl (v := nI 0) (by decide) ?_
    refine g_iload X rfl rfl ?_
    refine g_iastN X rfl upA_eq (by decide) (by decide) ?_
    rw [upA_up]
    refine g_dup X rfl rfl ?_
    refine g_iconst X rfl (v := nI 1) (by decide) ?_
    refine g_iload X rfl rfl ?_
    refine g_iastN X rfl upA_eq (by decide) (by decide) ?_
    rw [upA_up]
    refine g_dup X rfl rfl ?_
    refine g_iconst X rfl (v := nI 2) (by decide) ?_
    refine g_iload X rfl rfl ?_
    refine g_iastN X rfl upA_eq (by decide) (by decide) ?_
    rw [upA_up]
    refine g_dup X rfl rfl ?_
    refine g_iconst X rfl (v := nI 3) (by decide) ?_
    refine g_iconst X rfl (v := (-1)) (by decide) ?_
    refine g_iastN X rfl upA_eq (by decide) (by decide) ?_
    rw [upA_up]
    refine g_dup X rfl rfl ?_
    refine g_iconst X rfl (v := nI 4) (by decide) ?_
    refine g_iconst X rfl (v := (-1)) (by decide) ?_
    refine g_iastN X rfl upA_eq (by decide) (by decide) ?_
    rw [upA_up]
    have hb1 : BkW cy (upA A z (.inl (cy 0, 5, .inl (upd (upd (upd (upd (upd (fun _ => 0) 0 pr) 1 dy) 2 li) 3 (-1)) 4 (-1))))) g L S Z := hb.le ((HLe.rf A).up hF.at)
    refine g_callV X rfl lcJx4a65c_add_9ea2d lmL_121 lsJx4a65c_add_9ea2d (ct_add l D cy B od (show LsC cy (upA A z (.inl (cy 0, 5, .inl (upd (upd (upd (upd (upd (fun _ => 0) 0 pr) 1 dy) 2 li) 3 (-1)) 4 (-1))))) (L.1 3) (L.2.1 3) (L.2.2.1 3) S.2.2.1.1 (L.2.2.2 3) from hb1.1.2.1 3 (by decide)) (Or.inl ⟨_, _, upA_eq⟩) (by omega) hF.new (by omega)) (ci := 9) (hb1.1.2.1 3 (by decide)).1 rfl rfl rfl (Nat.le_of_ble_eq_true rfl) ⟨by decide, by decide⟩ ⟨Nat.le_of_ble_eq_true rfl, Nat.le_of_ble_eq_true rfl⟩ (fun v1 A1 z1 q1 => ?_)
    obtain ⟨rfl, q1⟩ := q1
    obtain ⟨L1, y1, rfl, hy1, hy2, hF1, hB1, hFt1, hfr1⟩ := act_add (S' := (S.1, S.2.1, addRow S.2.2.1 (astH pr dy li (sSort Z pr)), S.2.2.2)) (t := 3) (by decide) (by decide) hb hF hz q1 (fun A2 h2 => ⟨_, h2, fun i hi => by show _ = (addRow S.2.2.1 (astH pr dy li (sSort Z pr))).2 (asC i) S.2.2.1.1; rw [addRow_at]; rcases (show i = 0 ∨ i = 1 ∨ i = 2 ∨ i = 3 ∨ i = 4 by omega) with rfl | rfl | rfl | rfl | rfl <;> rfl⟩) (ag_add3 L S Z (astH pr dy li (sSort Z pr))) (fun u hu => by rcases (show u = 0 ∨ u = 1 ∨ u = 2 ∨ u = 3 ∨ u = 4 by omega) with rfl | rfl | rfl | rfl | rfl <;> rfl)
    refine g_pop X rfl rfl ?_
    refine g_aload_n X rfl rfl ?_
    refine g_get X rfl flL_102 (ci := 8) rfl (hB1.1.1) rfl ?_
    refine g_rV X rfl lcJx4a65c_size_8abf5 lmL_97 lsJx4a65c_size_8abf5 (cr_size l D cy B od (show LsC cy A1 (L1.1 3) (L1.2.1 3) (L1.2.2.1 3) (S.2.2.1.1 + 1) (L1.2.2.2 3) from hB1.1.2.1 3 (by decide))) (ci := 9) ((hB1.1.2.1 3 (by decide)).1) rfl rfl rfl (Nat.le_of_ble_eq_true rfl) ⟨⟨by decide, by decide⟩, rfl, rfl⟩ ⟨Nat.le_of_ble_eq_true rfl, Nat.le_of_ble_eq_true rfl⟩ ?_
    refine g_iconst X rfl (v := nI 1) (by decide) ?_
    refine g_isub X rfl ?_
    rw [pk_sub (by omega)]
    exact g_iret X rfl rfl (by rfl) (Nat.le_of_ble_eq_true rfl) (Nat.le_of_ble_eq_true rfl) ⟨by rw [hoc]; rfl, ⟨y1, rfl, hy1, hy2, hF1⟩, L1, _, (fun _ _ => rfl), (fun E q => by rw [hoc] at q; cases q), hB1, hFt1, hfr1⟩
  · have hoc : ocAddA V pr dy li = .inl eISE := by unfold ocAddA; rw [hV, if_pos hok, if_neg (by omega)]
    refine g_ldc X rfl kcL_22 ?_
    exact g_iret X rfl rfl (by rfl) (Nat.le_of_ble_eq_true rfl) (Nat.le_of_ble_eq_true rfl) (ActR.err hb hF hoc (by decide))
set_option maxRecDepth 100000 in
set_option maxHeartbeats 1000000 in
theorem actA1 (l : Launch) (D : va_G) (cy : Nat → ClassId) (B : Nat) (od : Nat → Option Nat) {p : Program} {e : Env} {s : State} {m : MethodId} {args : Array Value} {below : List Frame} {meth : Method} {c : Code} {A : AH} {z : Nat} {w0 e0 a0 r0 pr : Int32} {n : Nat} (hn : n < 10000000) {g : Nat} {L : BL} {S : StV} {Z : SV} {V : LV} (hb : BkW cy A g L S Z) (hw : WfS S) (hV : vS V = S) (hF : FRs A z) (hz : z + 700 ≤ 900000) (X : Cx p s m args meth c D cy B od cL_act 11 tL_act RL (some .int)) : G p l e rmL_act s m args below meth c D B od 11 tL_act (FinQ false D B od (ActR cy A z g L S Z (ocAddA V pr (numI n (nI 0) (nI 359) 360) (numI (n / 64 / 7) (nI 1) (nI 120) 120)) (S.1, S.2.1, addRow S.2.2.1 (astH pr (numI n (nI 0) (nI 359) 360) (numI (n / 64 / 7) (nI 1) (nI 120) 120) (sSort Z pr)), S.2.2.2)) (fun _ _ => True) args s below rmL_act.cells rmL_act.slots) 0 0 A (z + 1) 346 [some (.ref g), some (.int (w0)), some (.int (nI n)), some (.int (nI (n / 64))), some (.int (e0)), some (.int (a0)), some (.int (r0)), none, none, none, none] [.int pr] := by
  refine g_istoreS X rfl (by decide) rfl ?_
  refine g_iload_n X rfl rfl ?_
  refine g_iconst X rfl (v := nI 0) (by decide) ?_
  refine g_sipush X rfl (v := nI 359) (by decide) ?_
  refine g_rS X rfl lcL_number lmL_86 stL_number (cr_L_number l D cy B od (n := n) (N := 360) (lo := nI 0) (hi := nI 359) (by omega) (by decide) (by decide) (by decide)) rfl rfl (Nat.le_of_ble_eq_true rfl) ⟨⟨by decide, by decide⟩, rfl, rfl⟩ ⟨Nat.le_of_ble_eq_true rfl, Nat.le_of_ble_eq_true rfl⟩ ?_
  refine g_istoreS X rfl (by decide) rfl ?_
  refine g_iload_n X rfl rfl ?_
  refine g_bipush X rfl (v := nI 7) (by decide) ?_
  refine g_idiv X rfl (by decide) ?_
  rw [pk_div (by omega) (by decide) (by decide)]
  refine g_iconst X rfl (v := nI 1) (by decide) ?_
  refine g_bipush X rfl (v := nI 120) (by decide) ?_
  refine g_rS X rfl lcL_number lmL_86 stL_number (cr_L_number l D cy B od (n := n / 64 / 7) (N := 120) (lo := nI 1) (hi := nI 120) (by omega) (by decide) (by decide) (by decide)) rfl rfl (Nat.le_of_ble_eq_true rfl) ⟨⟨by decide, by decide⟩, rfl, rfl⟩ ⟨Nat.le_of_ble_eq_true rfl, Nat.le_of_ble_eq_true rfl⟩ ?_
  refine g_istoreS X rfl (by decide) rfl ?_
  refine g_iload X rfl rfl ?_
  refine g_iconst X rfl (v := nI 1) (by decide) ?_
  refine g_ldc X rfl kcL_131 ?_
  refine g_rS X rfl lcL_is lmL_114 stL_is (cr_L_is l D cy B od (v := pr) (lo := nI 1) (hi := nI 5000000)) rfl rfl (Nat.le_of_ble_eq_true rfl) ⟨⟨by decide, by decide⟩, rfl, rfl⟩ ⟨Nat.le_of_ble_eq_true rfl, Nat.le_of_ble_eq_true rfl⟩ ?_
  refine g_if_eq X rfl (fun h1 => ?_) (fun h1 => ?_)
  · have hoc : ocAddA V pr (numI n (nI 0) (nI 359) 360) (numI (n / 64 / 7) (nI 1) (nI 120) 120) = .inl eIAE := by unfold ocAddA; rw [if_neg]; rw [(bI_iff _).mp h1]; simp
    refine g_ldc X rfl kcL_29 ?_
    exact g_iret X rfl rfl (by rfl) (Nat.le_of_ble_eq_true rfl) (Nat.le_of_ble_eq_true rfl) (ActR.err hb hF hoc (by decide))
  · refine g_iload X rfl rfl ?_
    refine g_iconst X rfl (v := nI 0) (by decide) ?_
    refine g_sipush X rfl (v := nI 359) (by decide) ?_
    refine g_rS X rfl lcL_is lmL_114 stL_is (cr_L_is l D cy B od (v := numI n (nI 0) (nI 359) 360) (lo := nI 0) (hi := nI 359)) rfl rfl (Nat.le_of_ble_eq_true rfl) ⟨⟨by decide, by decide⟩, rfl, rfl⟩ ⟨Nat.le_of_ble_eq_true rfl, Nat.le_of_ble_eq_true rfl⟩ ?_
    refine g_if_eq X rfl (fun h2 => ?_) (fun h2 => ?_)
    · have hoc : ocAddA V pr (numI n (nI 0) (nI 359) 360) (numI (n / 64 / 7) (nI 1) (nI 120) 120) = .inl eIAE := by unfold ocAddA; rw [if_neg]; rw [(bI_iff _).mp h2]; simp
      refine g_ldc X rfl kcL_29 ?_
      exact g_iret X rfl rfl (by rfl) (Nat.le_of_ble_eq_true rfl) (Nat.le_of_ble_eq_true rfl) (ActR.err hb hF hoc (by decide))
    · refine g_iload X rfl rfl ?_
      refine g_iconst X rfl (v := nI 1) (by decide) ?_
      refine g_bipush X rfl (v := nI 120) (by decide) ?_
      refine g_rS X rfl lcL_is lmL_114 stL_is (cr_L_is l D cy B od (v := numI (n / 64 / 7) (nI 1) (nI 120) 120) (lo := nI 1) (hi := nI 120)) rfl rfl (Nat.le_of_ble_eq_true rfl) ⟨⟨by decide, by decide⟩, rfl, rfl⟩ ⟨Nat.le_of_ble_eq_true rfl, Nat.le_of_ble_eq_true rfl⟩ ?_
      refine g_if_ne X rfl (fun h3 => ?_) (fun h3 => ?_)
      · exact actA2 l D cy B od hb hw hV hF hz (by rw [(Bool.not_eq_false _).mp (mt (bI_iff _).mpr h1), (Bool.not_eq_false _).mp (mt (bI_iff _).mpr h2), (Bool.not_eq_false _).mp (mt (bI_iff _).mpr h3)]; rfl) X
      · have hoc : ocAddA V pr (numI n (nI 0) (nI 359) 360) (numI (n / 64 / 7) (nI 1) (nI 120) 120) = .inl eIAE := by unfold ocAddA; rw [if_neg]; rw [(bI_iff _).mp h3]; simp
        refine g_ldc X rfl kcL_29 ?_
        exact g_iret X rfl rfl (by rfl) (Nat.le_of_ble_eq_true rfl) (Nat.le_of_ble_eq_true rfl) (ActR.err hb hF hoc (by decide))
set_option maxRecDepth 100000 in
set_option maxHeartbeats 400000 in
theorem ct_L_act_9 (l : Launch) (D : va_G) (cy : Nat → ClassId) (B : Nat) (od : Nat → Option Nat) {A : AH} {g n : Nat} {L : BL} {S : StV} {Z : SV} (hb : BkW cy A g L S Z) (hw : WfS S) (hn : n < 10000000) {V : LV} (hV : vS V = S) (z : Nat) (hF : FRs A z) (hz : z + 700 ≤ 900000) : CT l D cy B od yL_act cL_act 11 (some .int) rmL_act [.ref g, .int (nI 9), .int (nI n)] A (z + 1) (ActR cy A z g L S Z (ocAddA V (pcI (n / 64)) (numI n (nI 0) (nI 359) 360) (numI (n / 64 / 7) (nI 1) (nI 120) 120)) (S.1, S.2.1, addRow S.2.2.1 (astH (pcI (n / 64)) (numI n (nI 0) (nI 359) 360) (numI (n / 64 / 7) (nI 1) (nI 120) 120) (sSort Z (pcI (n / 64)))), S.2.2.2)) := by
  refine act_pre l D cy B od hb hw hn 9 (fun p e s m args below meth c X => ?_)
  have hw1 := hw.1
  have hw2 := hw.2.1
  have hw3 := hw.2.2.1
  refine g_iload_n X rfl rfl ?_
  refine g_tsw X rfl (j := 332) (by decide) (by decide) rfl rfl (by decide) ?_
  refine g_iload_n X rfl rfl ?_
  refine g_iconst X rfl (v := nI 3) (by decide) ?_
  refine g_irem X rfl (by decide) ?_
  rw [rem_N (by omega) (by decide) (by decide)]
  refine g_if_ne X rfl (fun h => ?_) (fun h => ?_)
  · have h3 : pcI (n / 64) = nI (1 + n / 64 % 250000) := if_neg (fun q => h (by rw [q]; rfl))
    refine g_iconst X rfl (v := nI 1) (by decide) ?_
    refine g_iload_n X rfl rfl ?_
    refine g_ldc X rfl kcL_132 ?_
    refine g_irem X rfl (by decide) ?_
    rw [rem_N (by omega) (by decide) (by decide)]
    refine g_iadd X rfl ?_
    rw [nI_add]
    have K9 := actA1 l D cy B od (e := e) (below := below) (pr := pcI (n / 64)) (w0 := nI 9) (e0 := nI (n % (S.1.1 + 1))) (a0 := nI (n % (S.2.2.1.1 + 1))) (r0 := nI (n % (S.2.1.1 + 1))) hn hb hw hV hF hz X
    rw [← h3]
    exact K9
  · have h3 : pcI (n / 64) = numI (n / 64) (nI 1) (nI 5000000) 5000000 := if_pos ((nI_eq0 (by omega)).mp h)
    refine g_iload_n X rfl rfl ?_
    refine g_iconst X rfl (v := nI 1) (by decide) ?_
    refine g_ldc X rfl kcL_131 ?_
    refine g_rS X rfl lcL_number lmL_86 stL_number (cr_L_number l D cy B od (n := n / 64) (N := 5000000) (lo := nI 1) (hi := nI 5000000) (by omega) (by decide) (by decide) (by decide)) rfl rfl (Nat.le_of_ble_eq_true rfl) ⟨⟨by decide, by decide⟩, rfl, rfl⟩ ⟨Nat.le_of_ble_eq_true rfl, Nat.le_of_ble_eq_true rfl⟩ ?_
    refine g_goto X rfl ?_
    have K9 := actA1 l D cy B od (e := e) (below := below) (pr := pcI (n / 64)) (w0 := nI 9) (e0 := nI (n % (S.1.1 + 1))) (a0 := nI (n % (S.2.2.1.1 + 1))) (r0 := nI (n % (S.2.1.1 + 1))) hn hb hw hV hF hz X
    rw [← h3]
    exact K9
set_option maxRecDepth 100000 in
set_option maxHeartbeats 400000 in
theorem ct_L_act_10 (l : Launch) (D : va_G) (cy : Nat → ClassId) (B : Nat) (od : Nat → Option Nat) {A : AH} {g n : Nat} {L : BL} {S : StV} {Z : SV} (hb : BkW cy A g L S Z) (hw : WfS S) (hn : n < 10000000) {V : LV} (hV : vS V = S) (z : Nat) (hF : FRs A z) (hz : z + 700 ≤ 900000) : CT l D cy B od yL_act cL_act 11 (some .int) rmL_act [.ref g, .int (nI 10), .int (nI n)] A (z + 1) (ActR cy A z g L S Z (ocAddA V (pcI (n / 64)) (numI n (nI 0) (nI 359) 360) (numI (n / 64 / 7) (nI 1) (nI 120) 120)) (S.1, S.2.1, addRow S.2.2.1 (astH (pcI (n / 64)) (numI n (nI 0) (nI 359) 360) (numI (n / 64 / 7) (nI 1) (nI 120) 120) (sSort Z (pcI (n / 64)))), S.2.2.2)) := by
  refine act_pre l D cy B od hb hw hn 10 (fun p e s m args below meth c X => ?_)
  have hw1 := hw.1
  have hw2 := hw.2.1
  have hw3 := hw.2.2.1
  refine g_iload_n X rfl rfl ?_
  refine g_tsw X rfl (j := 332) (by decide) (by decide) rfl rfl (by decide) ?_
  refine g_iload_n X rfl rfl ?_
  refine g_iconst X rfl (v := nI 3) (by decide) ?_
  refine g_irem X rfl (by decide) ?_
  rw [rem_N (by omega) (by decide) (by decide)]
  refine g_if_ne X rfl (fun h => ?_) (fun h => ?_)
  · have h3 : pcI (n / 64) = nI (1 + n / 64 % 250000) := if_neg (fun q => h (by rw [q]; rfl))
    refine g_iconst X rfl (v := nI 1) (by decide) ?_
    refine g_iload_n X rfl rfl ?_
    refine g_ldc X rfl kcL_132 ?_
    refine g_irem X rfl (by decide) ?_
    rw [rem_N (by omega) (by decide) (by decide)]
    refine g_iadd X rfl ?_
    rw [nI_add]
    have K9 := actA1 l D cy B od (e := e) (below := below) (pr := pcI (n / 64)) (w0 := nI 10) (e0 := nI (n % (S.1.1 + 1))) (a0 := nI (n % (S.2.2.1.1 + 1))) (r0 := nI (n % (S.2.1.1 + 1))) hn hb hw hV hF hz X
    rw [← h3]
    exact K9
  · have h3 : pcI (n / 64) = numI (n / 64) (nI 1) (nI 5000000) 5000000 := if_pos ((nI_eq0 (by omega)).mp h)
    refine g_iload_n X rfl rfl ?_
    refine g_iconst X rfl (v := nI 1) (by decide) ?_
    refine g_ldc X rfl kcL_131 ?_
    refine g_rS X rfl lcL_number lmL_86 stL_number (cr_L_number l D cy B od (n := n / 64) (N := 5000000) (lo := nI 1) (hi := nI 5000000) (by omega) (by decide) (by decide) (by decide)) rfl rfl (Nat.le_of_ble_eq_true rfl) ⟨⟨by decide, by decide⟩, rfl, rfl⟩ ⟨Nat.le_of_ble_eq_true rfl, Nat.le_of_ble_eq_true rfl⟩ ?_
    refine g_goto X rfl ?_
    have K9 := actA1 l D cy B od (e := e) (below := below) (pr := pcI (n / 64)) (w0 := nI 10) (e0 := nI (n % (S.1.1 + 1))) (a0 := nI (n % (S.2.2.1.1 + 1))) (r0 := nI (n % (S.2.1.1 + 1))) hn hb hw hV hF hz X
    rw [← h3]
    exact K9
theorem ag_add4 (L : BL) (S : StV) (Z : SV) (v : Int32) : Ag L S Z (S.1, S.2.1, S.2.2.1, upd S.2.2.2.1 S.2.2.2.2.1 v, S.2.2.2.2.1 + 1, S.2.2.2.2.2) Z := ⟨rfl, fun t ht j hj cy A a q => by
  rcases (show t = 0 ∨ t = 1 ∨ t = 2 ∨ t = 3 ∨ t = 4 by omega) with rfl | rfl | rfl | rfl | rfl
  · exact q
  · exact q
  · exact q
  · exact q
  · have hj : j < S.2.2.2.2.1 := hj
    show IntA A a (upd S.2.2.2.1 S.2.2.2.2.1 v j)
    rw [show upd S.2.2.2.1 S.2.2.2.2.1 v j = S.2.2.2.1 j from if_neg (Nat.ne_of_lt hj)]
    exact q⟩
theorem act_box {cy : Nat → ClassId} {A0 A A' : AH} {g z0 z z' n9 x : Nat} {L : BL} {S : StV} {Z : SV} {mc v : Int32} (hb : BkW cy A0 g L S Z) (hG : Grw A0 z0 A z n9) (hF : FRs A0 z0) (hn : n9 ≤ 660) (hz : z0 + 700 ≤ 900000) (hI : IntA A x v) (hq : AddQ cy A A' z z' (L.1 4) mc (L.2.2.1 4) S.2.2.2.2.1 (L.2.2.2 4) x) :
    ∃ L' z1, z' = z1 + 1 ∧ z0 ≤ z1 ∧ z1 ≤ z0 + 700 ∧ FRs A' z1 ∧ BkW cy A' g L' (S.1, S.2.1, S.2.2.1, upd S.2.2.2.1 S.2.2.2.2.1 v, S.2.2.2.2.1 + 1, S.2.2.2.2.2) Z ∧ (∀ q, Foot g L' (S.1, S.2.1, S.2.2.1, upd S.2.2.2.1 S.2.2.2.2.1 v, S.2.2.2.2.1 + 1, S.2.2.2.2.2) Z q → Foot g L S Z q ∨ z0 ≤ q) ∧ ∀ q y, A0 q = some y → ¬ Foot g L S Z q → A' q = some y := by
  have hb1 := hb.le hG.1
  have g1 := hG.2.1
  have g2 := hG.2.2.1
  have hI' : IntA A' x v := by
    rcases hI with h | h
    · exact Or.inl (row_in hb1 (t := 4) (by decide) hG.2.2.2 (by omega) hq h (isBx.oa ⟨_, rfl⟩) (isBx.ls ⟨_, rfl⟩))
    · exact Or.inr h
  obtain ⟨L', z1, h1, hB, hFr, hz1, -, hFt, hfr, -⟩ := hb1.add (S' := (S.1, S.2.1, S.2.2.1, upd S.2.2.2.1 S.2.2.2.2.1 v, S.2.2.2.2.1 + 1, S.2.2.2.2.2)) (Z' := Z) (t := 4) (by decide) hG.2.2.2 (by omega) hq (by show IntA A' x (upd S.2.2.2.1 S.2.2.2.2.1 v S.2.2.2.2.1); rw [show upd S.2.2.2.1 S.2.2.2.2.1 v S.2.2.2.2.1 = v from if_pos rfl]; exact hI') (fun _ q => absurd q (by decide)) (ag_add4 L S Z v) (fun u hu => by rcases (show u = 0 ∨ u = 1 ∨ u = 2 ∨ u = 3 ∨ u = 4 by omega) with rfl | rfl | rfl | rfl | rfl <;> rfl)
  refine ⟨L', z1, h1, by omega, by omega, hFr, hB, fun q h => ?_, fun q y hy hn => ?_⟩
  · rcases hFt q h with h | h | ⟨-, -, h⟩
    · exact Or.inl h
    · exact Or.inr (by omega)
    · exact absurd h (by decide)
  · have hlt := hF.lt hy
    rw [hfr q (fun e => hn (Or.inr (Or.inl ⟨4, by omega, Or.inl e⟩))) (fun e => hn (Or.inr (Or.inl ⟨4, by omega, Or.inr ⟨e, by omega⟩⟩))) (by omega)]
    exact hG.1 _ _ hy
set_option maxRecDepth 100000 in
set_option maxHeartbeats 1000000 in
theorem ct_L_act_12 (l : Launch) (D : va_G) (cy : Nat → ClassId) (B : Nat) (od : Nat → Option Nat) {A : AH} {g n : Nat} {L : BL} {S : StV} {Z : SV} (hb : BkW cy A g L S Z) (hw : WfS S) (hn : n < 10000000) {V : LV} (hV : vS V = S) (z : Nat) (hF : FRs A z) (hz : z + 700 ≤ 900000) (hR : Rng Z S) (hRZ : RngZ Z) (hsl : SldOk S) (hVZ : vZ V = Z) : CT l D cy B od yL_act cL_act 11 (some .int) rmL_act [.ref g, .int (nI 12), .int (nI n)] A (z + 1) (ActR cy A z g L S Z (ocClose V) (S.1, S.2.1, S.2.2.1, upd S.2.2.2.1 S.2.2.2.2.1 (cqAmt V), S.2.2.2.2.1 + 1, S.2.2.2.2.2)) := by
  refine act_pre l D cy B od hb hw hn 12 (fun p e s m args below meth c X => ?_)
  have hw1 := hw.1
  have hw2 := hw.2.1
  have hw3 := hw.2.2.1
  have hw4 := hw.2.2.2.1
  refine g_iload_n X rfl rfl ?_
  refine g_tsw X rfl (j := 485) (by decide) (by decide) rfl rfl (by decide) ?_
  refine g_aload_n X rfl rfl ?_
  refine g_get X rfl flL_118 (ci := 8) rfl (hb.1.1) rfl ?_
  refine g_rV X rfl lcJx4a65c_size_8abf5 lmL_97 lsJx4a65c_size_8abf5 (cr_size l D cy B od (show LsC cy A (L.1 4) (L.2.1 4) (L.2.2.1 4) S.2.2.2.2.1 (L.2.2.2 4) from hb.1.2.1 4 (by decide))) (ci := 9) ((hb.1.2.1 4 (by decide)).1) rfl rfl rfl (Nat.le_of_ble_eq_true rfl) ⟨⟨by decide, by decide⟩, rfl, rfl⟩ ⟨Nat.le_of_ble_eq_true rfl, Nat.le_of_ble_eq_true rfl⟩ ?_
  refine g_iconst X rfl (v := nI 4) (by decide) ?_
  refine g_ic_neN X rfl (by omega) (by decide) (fun h => ?_) (fun h => ?_)
  · have hoc : ocClose V = .inr (.int (cqAmt V)) := by unfold ocClose; rw [hV, if_pos (by omega)]
    refine g_aload_n X rfl rfl ?_
    refine g_aload_n X rfl rfl ?_
    refine g_get X rfl flL_118 (ci := 8) rfl (hb.1.1) rfl ?_
    refine g_rV X rfl lcJx4a65c_size_8abf5 lmL_97 lsJx4a65c_size_8abf5 (cr_size l D cy B od (show LsC cy A (L.1 4) (L.2.1 4) (L.2.2.1 4) S.2.2.2.2.1 (L.2.2.2 4) from hb.1.2.1 4 (by decide))) (ci := 9) ((hb.1.2.1 4 (by decide)).1) rfl rfl rfl (Nat.le_of_ble_eq_true rfl) ⟨⟨by decide, by decide⟩, rfl, rfl⟩ ⟨Nat.le_of_ble_eq_true rfl, Nat.le_of_ble_eq_true rfl⟩ ?_
    refine g_aload_n X rfl rfl ?_
    refine g_gV X rfl lcX8_sumPrepaid lmL_136 lsX8_sumPrepaid (cg_X8_sumPrepaid l D cy B od hb.1) hF (by show z + 1 ≤ 900000; omega) (ci := 8) hb.1.1 rfl rfl rfl (Nat.le_of_ble_eq_true rfl) ⟨by decide, by decide⟩ ⟨Nat.le_of_ble_eq_true rfl, Nat.le_of_ble_eq_true rfl⟩ (fun v1 A1 z1 q1 hG1 => ?_)
    obtain rfl := q1
    have hb1 := hb.le hG1.1
    have hz1 : z1 ≤ z + 1 := hG1.2.2.1
    refine g_gV X rfl lcX8_prepayment lmL_140 lsX8_prepayment (cg_X8_prepayment l D cy B od hb1.1 hR hRZ hw hsl (q9 := S.2.2.2.2.1) (by omega)) hG1.2.2.2 (by show z1 + 640 ≤ 900000; omega) (ci := 8) hb1.1.1 rfl rfl rfl (Nat.le_of_ble_eq_true rfl) ⟨by decide, by decide⟩ ⟨Nat.le_of_ble_eq_true rfl, Nat.le_of_ble_eq_true rfl⟩ (fun v2 A2 z2 q2 hG2 => ?_)
    obtain rfl := q2
    rw [show bkPre Z S S.2.2.2.2.1 (sPre S) = cqAmt V by unfold bkPre cqAmt; rw [hV, hVZ]]
    have hb2 := hb1.le hG2.1
    have hG02 : Grw A z A2 z2 641 := (hG1.tr hG2).wide (by decide)
    have hz2 := hG02.2.2.1
    refine g_istoreS X rfl (by decide) rfl ?_
    refine g_aload_n X rfl rfl ?_
    refine g_get X rfl flL_118 (ci := 8) rfl (hb2.1.1) rfl ?_
    refine g_iload X rfl rfl ?_
    refine g_gS X rfl lcJ6_valueOf_2dffe lmL_144 stJ6_valueOf_2dffe (cg_valueOf l D cy B od) hG2.2.2.2 (by show z2 + 1 ≤ 900000; omega) rfl rfl (Nat.le_of_ble_eq_true rfl) ⟨by decide, by decide⟩ ⟨Nat.le_of_ble_eq_true rfl, Nat.le_of_ble_eq_true rfl⟩ (fun v3 A3 z3 q3 hG3 => ?_)
    obtain ⟨x3, rfl, hI3⟩ := q3
    have hb3 := hb2.le hG3.1
    have hG03 : Grw A z A3 z3 642 := (hG02.tr hG3).wide (by decide)
    have hz3 := hG03.2.2.1
    refine g_callV X rfl lcJx4a65c_add_9ea2d lmL_121 lsJx4a65c_add_9ea2d (ct_add l D cy B od (show LsC cy A3 (L.1 4) (L.2.1 4) (L.2.2.1 4) S.2.2.2.2.1 (L.2.2.2 4) from hb3.1.2.1 4 (by decide)) hI3.obj (by omega) hG3.2.2.2 (by omega)) (ci := 9) (hb3.1.2.1 4 (by decide)).1 rfl rfl rfl (Nat.le_of_ble_eq_true rfl) ⟨by decide, by decide⟩ ⟨Nat.le_of_ble_eq_true rfl, Nat.le_of_ble_eq_true rfl⟩ (fun v4 A4 z4 q4 => ?_)
    obtain ⟨rfl, q4⟩ := q4
    obtain ⟨L1, y1, rfl, hy1, hy2, hF1, hB1, hFt1, hfr1⟩ := act_box hb hG03 hF (by decide) hz hI3 q4
    refine g_pop X rfl rfl ?_
    refine g_iload X rfl rfl ?_
    exact g_iret X rfl rfl (by rfl) (Nat.le_of_ble_eq_true rfl) (Nat.le_of_ble_eq_true rfl) ⟨by rw [hoc]; rfl, ⟨y1, rfl, hy1, hy2, hF1⟩, L1, _, (fun _ _ => rfl), (fun E q => by rw [hoc] at q; cases q), hB1, hFt1, hfr1⟩
  · have hoc : ocClose V = .inl eISE := by unfold ocClose; rw [hV, if_neg (by omega)]
    refine g_ldc X rfl kcL_22 ?_
    exact g_iret X rfl rfl (by rfl) (Nat.le_of_ble_eq_true rfl) (Nat.le_of_ble_eq_true rfl) (ActR.err hb hF hoc (by decide))
