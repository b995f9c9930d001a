/-! 50: what is drawn; the plain book and a drawn one -/
section CORE50
variable {p : Program} {l : Launch} {e : Env} {R : Room} {s : State} {m : MethodId} {args : Array Value} {below : List Frame} {meth : Method} {c : Code}
variable {D : va_G} {cy : Nat → ClassId} {B : Nat} {od : Nat → Option Nat} {cc : ByteArray} {nL : Nat} {tab : List PT} {own : String} {ret : Option FieldType}
variable {F : State → Prop} {cells slots : Nat} {A : AH} {z i pc len nx tg : Nat} {lv : List (Option Value)} {st : List Value}
theorem Cx.sc (X : Cx p s m args meth c D cy B od cc nL tab own ret) : ScX B od s s.heap := X.ox.2.2.2.2.2.2.2.2.2
theorem g_slen (X : Cx p s m args meth c D cy B od cc nL tab own ret) (hi : tab[i]? = some (pc, .arraylength, 1, nx, tg)) (kk : G p l e R s m args below meth c D B od nL tab F cells slots A z nx lv (.int (nI (scL od)) :: st)) : G p l e R s m args below meth c D B od nL tab F cells slots A z i lv (.ref 4000000 :: st) := by
  intro q hq H locs ls hR hS hl
  cases Option.some.inj (hi.symm.trans hq)
  obtain ⟨q2, hq2, e2⟩ := X.2.2.2.1.fall hi rfl
  obtain ⟨b, h1, h2, h4, -⟩ := X.sc
  have h2' := h2
  obtain ⟨scr, h5, -⟩ := h2'
  have h3 : b < s.heap.size := by rw [Array.getElem?_eq_some_iff] at h5; exact h5.1
  have hd : decode cc pc = .ok (.arraylength, 1) := X.2.2.2.1.dec hi
  have K := kk q2 hq2 H locs ls hR hS hl
  rw [e2] at K
  rw [List.map_cons, show trV B od (.ref 4000000) = .ref b from congrArg Value.ref (rho_od h1)]
  exact va_slen X.1.1 X.1.2.1 h2 h3 h4 hS hd K
theorem g_sld (X : Cx p s m args meth c D cy B od cc nL tab own ret) (hi : tab[i]? = some (pc, .iaload, 1, nx, tg)) {j : Nat} (hj : j < scL od) (kk : G p l e R s m args below meth c D B od nL tab F cells slots A z nx lv (.int (scX od j) :: st)) : G p l e R s m args below meth c D B od nL tab F cells slots A z i lv (.int (nI j) :: .ref 4000000 :: st) := by
  intro q hq H locs ls hR hS hl
  cases Option.some.inj (hi.symm.trans hq)
  obtain ⟨q2, hq2, e2⟩ := X.2.2.2.1.fall hi rfl
  obtain ⟨b, h1, h2, h4, hL⟩ := X.sc
  have h2' := h2
  obtain ⟨scr, h5, -⟩ := h2'
  have h3 : b < s.heap.size := by rw [Array.getElem?_eq_some_iff] at h5; exact h5.1
  have hd : decode cc pc = .ok (.iaload, 1) := X.2.2.2.1.dec hi
  have K := kk q2 hq2 H locs ls hR hS hl
  rw [e2] at K
  rw [List.map_cons, List.map_cons, show trV B od (.ref 4000000) = .ref b from congrArg Value.ref (rho_od h1)]
  refine va_sld X.1.1 X.1.2.1 h2 h3 h4 hS (vp_in_nI hj (by omega)) hd ?_
  rw [nI_clamp (by omega)]
  exact K
end CORE50
/-- a cell of the script, nothing beyond its end -/
def cellX (od : Nat → Option Nat) (k : Nat) : Int32 := if k < scL od then scX od k else nI 0
def pickN (od : Nat → Option Nat) (k N : Nat) : Nat := (cellX od k &&& nI 2147483647).toNatClampNeg % N
theorem and_nn (x : Int32) : ∃ m, m < 2 ^ 31 ∧ x &&& nI 2147483647 = nI m := by
  refine nI_of (x := x &&& nI 2147483647) ?_
  have h : (x &&& nI 2147483647).toInt = ((x.toBitVec &&& (nI 2147483647).toBitVec).toNat : Int) := by
    show (x.toBitVec &&& (nI 2147483647).toBitVec).toInt = _
    rw [BitVec.toInt_eq_msb_cond, BitVec.msb_and, show (nI 2147483647).toBitVec.msb = false by decide, Bool.and_false]; rfl
  rw [Int32.lt_iff_toInt_lt, h]
  show ¬ _ < (0 : Int)
  omega
theorem rem_N {m N : Nat} (hm : m < 2 ^ 31) (h0 : 0 < N) (hN : N < 2 ^ 31) : nI m - nI m / nI N * nI N = nI (m % N) := by
  rw [pk_div hm h0 hN, pk_mul, pk_sub (Nat.div_mul_le_self m N)]
  congr 1
  have := Nat.div_add_mod m N
  rw [Nat.mul_comm] at this
  omega
theorem pick_eq (od : Nat → Option Nat) (k : Nat) {N : Nat} (h0 : 0 < N) (hN : N < 2 ^ 31) : (cellX od k &&& nI 2147483647) - (cellX od k &&& nI 2147483647) / nI N * nI N = nI (pickN od k N) := by
  obtain ⟨m, hm, e⟩ := and_nn (cellX od k)
  unfold pickN
  rw [e, rem_N hm h0 hN, nI_clamp hm]
theorem pick_lt (od : Nat → Option Nat) (k : Nat) {N : Nat} (h0 : 0 < N) : pickN od k N < N := Nat.mod_lt _ h0
set_option maxRecDepth 100000 in
set_option maxHeartbeats 400000 in
theorem cr_L_cell (l : Launch) (D : va_G) (cy : Nat → ClassId) (B : Nat) (od : Nat → Option Nat) {A : AH} {k : Nat} (hk : k < 2 ^ 31) : CR l D cy B od yL_cell cL_cell 2 (some .int) rmL_cell [.ref 4000000, .int (nI k)] A (.int (cellX od k)) := by
  intro z
  refine CT.of (by decide) tL_cell okL_cell (Nat.le_of_ble_eq_true rfl) (q0 := tL_cell[0]) rfl rfl ?_
  intro p e s m args below meth c X hnm
  have hL9 : scL od ≤ 260 := by obtain ⟨b, -, -, -, h⟩ := X.sc; exact h
  refine g_iload_n X rfl rfl ?_
  refine g_aload_n X rfl rfl ?_
  refine g_slen X rfl ?_
  refine g_ic_geN X rfl (by omega) (by omega) (fun h => ?_) (fun h => ?_)
  · have hq : cellX od k = nI 0 := if_neg (by omega)
    refine g_iconst X rfl (v := nI 0) (by decide) ?_
    exact g_iret X rfl rfl (by first | rfl | decide) (Nat.le_of_ble_eq_true rfl) (Nat.le_of_ble_eq_true rfl) ⟨by rw [hq], rfl, rfl⟩
  · have hq : cellX od k = scX od k := if_pos h
    refine g_aload_n X rfl rfl ?_
    refine g_iload_n X rfl rfl ?_
    refine g_sld X rfl h ?_
    refine g_goto X rfl ?_
    exact g_iret X rfl rfl (by first | rfl | decide) (Nat.le_of_ble_eq_true rfl) (Nat.le_of_ble_eq_true rfl) ⟨by rw [hq], rfl, rfl⟩
set_option maxRecDepth 100000 in
set_option maxHeartbeats 400000 in
theorem cr_L_pick (l : Launch) (D : va_G) (cy : Nat → ClassId) (B : Nat) (od : Nat → Option Nat) {A : AH} {k N : Nat} (hk : k < 2 ^ 31) (h0 : 0 < N) (hN : N < 2 ^ 31) : CR l D cy B od yL_pick cL_pick 3 (some .int) rmL_pick [.ref 4000000, .int (nI k), .int (nI N)] A (.int (nI (pickN od k N))) := by
  intro z
  refine CT.of (by decide) tL_pick okL_pick (Nat.le_of_ble_eq_true rfl) (q0 := tL_pick[0]) rfl rfl ?_
  intro p e s m args below meth c X hnm
  refine g_aload_n X rfl rfl ?_
  refine g_iload_n X rfl rfl ?_
  refine g_rS X rfl lcL_cell lmL_7 stL_cell (cr_L_cell l D cy B od hk) rfl rfl (Nat.le_of_ble_eq_true rfl) ⟨⟨by decide, by decide⟩, rfl, rfl⟩ ⟨Nat.le_of_ble_eq_true rfl, Nat.le_of_ble_eq_true rfl⟩ ?_
  refine g_ldc X rfl kcL_13 ?_
  refine g_iand X rfl ?_
  refine g_iload_n X rfl rfl ?_
  refine g_irem X rfl (fun h => by rw [nI_eq0 hN] at h; omega) ?_
  rw [pick_eq od k h0 hN]
  exact g_iret X rfl rfl (by first | rfl | exact bI_nar _ | decide) (Nat.le_of_ble_eq_true rfl) (Nat.le_of_ble_eq_true rfl) ⟨rfl, rfl, rfl⟩
/-- a book's numbers, apart from its rows -/
def mkS (st : Int32) (S : StV) (n : Nat → Nat) : StV := ((n 2, S.1.2), (n 1, S.2.1.2), (n 3, S.2.2.1.2), S.2.2.2.1, n 4, st)
def mkZ (f : Nat → Int32) (Z : SV) (n : Nat → Nat) : SV := (n 0, f, Z.2.2)
theorem bN_mk (st : Int32) (f : Nat → Int32) (S : StV) (Z : SV) (n : Nat → Nat) : ∀ t, t < 5 → bN (mkS st S n) (mkZ f Z n) t = n t := by
  intro t ht
  rcases (show t = 0 ∨ t = 1 ∨ t = 2 ∨ t = 3 ∨ t = 4 by omega) with rfl | rfl | rfl | rfl | rfl <;> rfl
theorem RwT.mk {cy : Nat → ClassId} {A : AH} {t a : Nat} {S : StV} {Z : SV} {j : Nat} {n m : Nat → Nat} {st st' : Int32} {f f' : Nat → Int32} (ht : t < 5) (h : RwT cy A t a (mkS st S n) (mkZ f Z n) j) : RwT cy A t a (mkS st' S m) (mkZ f' Z m) j := by
  rcases (show t = 0 ∨ t = 1 ∨ t = 2 ∨ t = 3 ∨ t = 4 by omega) with rfl | rfl | rfl | rfl | rfl <;> exact h
theorem mk_ag (L : BL) (st : Int32) (f : Nat → Int32) (S : StV) (Z : SV) (n m : Nat → Nat) : Ag L (mkS st S n) (mkZ f Z n) (mkS st S m) (mkZ f Z m) := ⟨rfl, fun _ ht _ _ _ _ _ h => h.mk ht⟩
theorem BkW.num {cy : Nat → ClassId} {A : AH} {g : Nat} {L : BL} {S : StV} {Z : SV} {n : Nat → Nat} {st : Int32} {f : Nat → Int32} (h : BkW cy A g L (mkS st S n) (mkZ f Z n)) {z : Nat} (hF : FRs A z) (hz : z ≤ 900000) (st' : Int32) (f' : Nat → Int32) : BkW cy (upA A g (.inr (8, bkO L (mkS st' S n) (mkZ f' Z n)))) g L (mkS st' S n) (mkZ f' Z n) :=
  h.own hF hz (fun u hu => by rw [bN_mk _ _ _ _ _ u hu, bN_mk _ _ _ _ _ u hu]) (fun u hu i _ cy A a q => q.mk hu)
theorem Foot.mk {g q : Nat} {L : BL} {S : StV} {Z : SV} {n : Nat → Nat} {st st' : Int32} {f f' : Nat → Int32} (h : Foot g L (mkS st S n) (mkZ f Z n) q) : Foot g L (mkS st' S n) (mkZ f' Z n) q := by
  rcases h with h | h | ⟨t, j, h1, h2, h3, h4⟩
  · exact Or.inl h
  · exact Or.inr (Or.inl h)
  · exact Or.inr (Or.inr ⟨t, j, h1, h2, by rw [bN_mk _ _ _ _ _ t (by omega)] at h3 ⊢; exact h3, h4⟩)
theorem two_r {a b : Int32} {h : Nat → Int32} (h0 : h 0 = a) (h1 : h 1 = b) : ∀ i, i < 2 → upd (upd (fun _ => 0) 0 a) 1 b i = h i := by
  intro i hi
  rcases (show i = 0 ∨ i = 1 by omega) with rfl | rfl
  · rw [h0]; rfl
  · rw [h1]; rfl
theorem thr_r {a b c : Int32} {h : Nat → Int32} (h0 : h 0 = a) (h1 : h 1 = b) (h2 : h 2 = c) : ∀ i, i < 3 → upd (upd (upd (fun _ => 0) 0 a) 1 b) 2 c i = h i := by
  intro i hi
  rcases (show i = 0 ∨ i = 1 ∨ i = 2 by omega) with rfl | rfl | rfl
  · rw [h0]; rfl
  · rw [h1]; rfl
  · rw [h2]; rfl
/-- the plain book -/
def plS : StV := ((0, fun _ _ => 0), (0, fun _ _ => 0), (0, fun _ _ => 0), (fun _ => 0), 0, nI 0)
def scD : Nat → Int32
  | 1 => nI 80000
  | 2 => nI 100000
  | 3 => nI 5
  | 4 => nI 420
  | _ => nI 0
def plZ : SV := (2, scD, fun i k => if i = 0 then (if k = 0 then nI 1000000 else nI 6000000) else (if k = 0 then nI 0 else nI 250))
/-- a drawn book -/
def dX (od : Nat → Option Nat) : Nat := pickN od 0 1000000000
def dY (od : Nat → Option Nat) : Nat := pickN od 1 1000000000
def dB (od : Nat → Option Nat) (k : Nat) : Nat := pickN od (2 + k) 1000000000
def dR (od : Nat → Option Nat) (k : Nat) : Nat := pickN od (8 + k) 1000000000
def dLim (od : Nat → Option Nat) : Nat → Nat
  | 0 => 0
  | k + 1 => dLim od k + (1 + dB od k % (if k = 0 then 400000 else 3000000))
def dFr (od : Nat → Option Nat) (k : Nat) : Nat := dR od k / 500 % 360
def dSt (od : Nat → Option Nat) : Int32 := nI (dX od % 500000)
def dSc (od : Nat → Option Nat) : Nat → Int32
  | 1 => nI (dX od / 7 % 90000)
  | 2 => nI (dX od / 7 % 90000 + dY od % 200000)
  | 3 => nI (dY od / 9 % 101)
  | 4 => nI (dX od / 500000 % 901)
  | _ => nI (dX od % 500000)
def dRm (od : Nat → Option Nat) (i k : Nat) : Int32 := if i = 0 then nI (1 + dR od k % 500) else if dR od k % 3 = 0 then -1 else if i = 1 then nI (dFr od k) else nI (dFr od k + dR od k / 180000 % (360 - dFr od k))
def dS (od : Nat → Option Nat) : StV := ((0, fun _ _ => 0), (dY od % 5, dRm od), (0, fun _ _ => 0), (fun _ => 0), 0, dSt od)
def dZ (od : Nat → Option Nat) : SV := (dX od % 6, dSc od, fun i k => if i = 0 then nI (dLim od (k + 1)) else nI (dB od k / 3000 % 901))
set_option maxRecDepth 100000 in
set_option maxHeartbeats 400000 in
theorem ct_X8_plain (l : Launch) (D : va_G) (cy : Nat → ClassId) (B : Nat) (od : Nat → Option Nat) {A : AH} {z : Nat} (hF : FRs A z) (hz : z + 400 ≤ 900000) : CT l D cy B od yX8_plain cX8_plain 1 (some (.object "CashLedgerLaw$Book")) rmX8_plain [] A (z + 1) (fun v A' z' => v = some (.ref z) ∧ ∃ z1, z' = z1 + 1 ∧ Grw A z A' z1 11 ∧ ∃ L', BkW cy A' z L' plS plZ ∧ ∀ q, Foot z L' plS plZ q → z ≤ q) := by
  refine CT.of (by decide) tX8_plain okX8_plain (Nat.le_of_ble_eq_true rfl) (q0 := tX8_plain[0]) rfl rfl ?_
  intro p e s m args below meth c X hnm
  refine g_new X rfl nwX8_11 (ci := 8) rfl (fs := [.int (nI 0), .int (nI 0), .int (nI 0), .int (nI 0), .int (nI 0), .null, .null, .null, .null, .null]) rfl rfl (by omega) (Nat.le_of_ble_eq_true rfl) (Nat.le_of_ble_eq_true rfl) ?_
  refine g_dup X rfl rfl ?_
  refine g_callI X rfl lcX8_init lmX8_81 liX8_init rfl (ct_X8_init l D cy B od (A0 := A) (g := z) hF (by omega) (S := mkS (nI 0) plS (fun _ => 0)) (Z := mkZ scD plZ (fun _ => 0)) (fun t ht => bN_mk _ _ _ _ _ t ht) rfl rfl rfl rfl rfl) rfl rfl (Nat.le_of_ble_eq_true rfl) ⟨by decide, by decide⟩ ⟨Nat.le_of_ble_eq_true rfl, Nat.le_of_ble_eq_true rfl⟩ (fun v1 A1 z1 q1 => ?_)
  obtain ⟨rfl, rfl, ⟨L1, hB1, hF1⟩, hG1⟩ := q1
  first | refine g_astore_nS X rfl (by decide) rfl ?_ | refine g_astore_n X rfl (by decide) ?_
  refine g_aload_n X rfl rfl ?_
  refine g_get X rfl flX8_29 (ci := 8) rfl (hB1.1.1) rfl ?_
  refine g_iconst X rfl (v := nI 2) (by decide) ?_
  refine g_newai X rfl aw_i (N := 2) (nI_pos (by decide)) (nI_clamp (by decide)) (by decide) (by omega) (Nat.le_of_ble_eq_true rfl) (Nat.le_of_ble_eq_true rfl) ?_
  refine g_dup X rfl rfl ?_
  refine g_iconst X rfl (v := nI 0) (by decide) ?_
  refine g_ldc X rfl kcX8_82 ?_
  refine g_iastN X rfl upA_eq (by decide) (by decide) ?_
  rw [upA_up]
  refine g_dup X rfl rfl ?_
  refine g_iconst X rfl (v := nI 1) (by decide) ?_
  refine g_iconst X rfl (v := nI 0) (by decide) ?_
  refine g_iastN X rfl upA_eq (by decide) (by decide) ?_
  rw [upA_up]
  have hGa : Grw A z (upA A1 (z + 6) (.inl (cy 0, 2, .inl (upd (upd (fun _ => 0) 0 (nI 1000000)) 1 (nI 0))))) (z + 7) 7 := hG1.new hF
  have hBa := hB1.le ((HLe.rf A1).up hG1.2.2.2.at (x := .inl (cy 0, 2, .inl (upd (upd (fun _ => 0) 0 (nI 1000000)) 1 (nI 0)))))
  refine g_callV X rfl lcJx4a65c_add_9ea2d lmX8_64 lsJx4a65c_add_9ea2d (ct_add l D cy B od (show LsC cy (upA A1 (z + 6) (.inl (cy 0, 2, .inl (upd (upd (fun _ => 0) 0 (nI 1000000)) 1 (nI 0))))) (L1.1 0) (L1.2.1 0) (L1.2.2.1 0) 0 (L1.2.2.2 0) from hBa.1.2.1 0 (by decide)) (Or.inl ⟨_, _, upA_eq⟩) (by decide) hGa.2.2.2 (by have := hGa.2.2.1; omega)) (ci := 9) (hBa.1.2.1 0 (by decide)).1 rfl rfl rfl (Nat.le_of_ble_eq_true rfl) ⟨by decide, by decide⟩ ⟨Nat.le_of_ble_eq_true rfl, Nat.le_of_ble_eq_true rfl⟩ (fun v2 A2 z2 q2 => ?_)
  have hR2 : RwT cy A2 0 (z + 6) (mkS (nI 0) plS (fun u => if u = 0 then 1 else 0)) (mkZ scD plZ (fun u => if u = 0 then 1 else 0)) 0 := by
    have hz9 := row_in hBa (t := 0) (by decide) hGa.2.2.2 (by have := hGa.2.2.1; omega) q2.2 upA_eq (isRw.oa ⟨_, _, rfl⟩) (isRw.ls ⟨_, _, rfl⟩)
    exact (⟨_, hz9, two_r (h := fun i => plZ.2.2 i 0) rfl rfl⟩ : RwA cy A2 (z + 6) 2 _)
  obtain ⟨rfl, q2b⟩ := q2
  obtain ⟨L2, y2, rfl, hB2, hG2, hF2, -, -⟩ := add_step (S' := mkS (nI 0) plS (fun u => if u = 0 then 1 else 0)) (Z' := mkZ scD plZ (fun u => if u = 0 then 1 else 0)) (t := 0) (by decide) hBa hF1 hF hGa (by have := hGa.2.2.1; omega) q2b hR2 (fun _ _ => ⟨fun j hj e => by have hc := rows_lt hB1 hG1.2.2.2 (by have := hG1.2.2.1; omega) (t := 0) (by decide) hj; omega, by omega⟩) (mk_ag _ _ _ _ _ _ _) (fun u hu => by rcases (show u = 0 ∨ u = 1 ∨ u = 2 ∨ u = 3 ∨ u = 4 by omega) with rfl | rfl | rfl | rfl | rfl <;> rfl)
  refine g_pop X rfl rfl ?_
  refine g_aload_n X rfl rfl ?_
  refine g_get X rfl flX8_29 (ci := 8) rfl (hB2.1.1) rfl ?_
  refine g_iconst X rfl (v := nI 2) (by decide) ?_
  have hy2 : y2 ≤ z + 8 := hG2.2.2.1
  refine g_newai X rfl aw_i (N := 2) (nI_pos (by decide)) (nI_clamp (by decide)) (by decide) (by omega) (Nat.le_of_ble_eq_true rfl) (Nat.le_of_ble_eq_true rfl) ?_
  refine g_dup X rfl rfl ?_
  refine g_iconst X rfl (v := nI 0) (by decide) ?_
  refine g_ldc X rfl kcX8_83 ?_
  refine g_iastN X rfl upA_eq (by decide) (by decide) ?_
  rw [upA_up]
  refine g_dup X rfl rfl ?_
  refine g_iconst X rfl (v := nI 1) (by decide) ?_
  refine g_sipush X rfl (v := nI 250) (by decide) ?_
  refine g_iastN X rfl upA_eq (by decide) (by decide) ?_
  rw [upA_up]
  have hGb : Grw A z (upA A2 y2 (.inl (cy 0, 2, .inl (upd (upd (fun _ => 0) 0 (nI 6000000)) 1 (nI 250))))) (y2 + 1) 9 := hG2.new hF
  have hBb := hB2.le ((HLe.rf A2).up hG2.2.2.2.at (x := .inl (cy 0, 2, .inl (upd (upd (fun _ => 0) 0 (nI 6000000)) 1 (nI 250)))))
  refine g_callV X rfl lcJx4a65c_add_9ea2d lmX8_64 lsJx4a65c_add_9ea2d (ct_add l D cy B od (show LsC cy (upA A2 y2 (.inl (cy 0, 2, .inl (upd (upd (fun _ => 0) 0 (nI 6000000)) 1 (nI 250))))) (L2.1 0) (L2.2.1 0) (L2.2.2.1 0) 1 (L2.2.2.2 0) from hBb.1.2.1 0 (by decide)) (Or.inl ⟨_, _, upA_eq⟩) (by decide) hGb.2.2.2 (by have := hGb.2.2.1; omega)) (ci := 9) (hBb.1.2.1 0 (by decide)).1 rfl rfl rfl (Nat.le_of_ble_eq_true rfl) ⟨by decide, by decide⟩ ⟨Nat.le_of_ble_eq_true rfl, Nat.le_of_ble_eq_true rfl⟩ (fun v3 A3 z3 q3 => ?_)
  have hR3 : RwT cy A3 0 y2 (mkS (nI 0) plS (fun u => if u = 0 then 2 else 0)) (mkZ scD plZ (fun u => if u = 0 then 2 else 0)) 1 := by
    have hz9 := row_in hBb (t := 0) (by decide) hGb.2.2.2 (by have := hGb.2.2.1; omega) q3.2 upA_eq (isRw.oa ⟨_, _, rfl⟩) (isRw.ls ⟨_, _, rfl⟩)
    exact (⟨_, hz9, two_r (h := fun i => plZ.2.2 i 1) rfl rfl⟩ : RwA cy A3 y2 2 _)
  obtain ⟨rfl, q3b⟩ := q3
  obtain ⟨L3, y3, rfl, hB3, hG3, hF3, -, -⟩ := add_step (S' := mkS (nI 0) plS (fun u => if u = 0 then 2 else 0)) (Z' := mkZ scD plZ (fun u => if u = 0 then 2 else 0)) (t := 0) (by decide) hBb hF2 hF hGb (by have := hGb.2.2.1; omega) q3b hR3 (fun _ _ => ⟨fun j hj e => by have hc := rows_lt hB2 hG2.2.2.2 (by have := hG2.2.2.1; omega) (t := 0) (by decide) hj; omega, hG2.2.1⟩) (mk_ag _ _ _ _ _ _ _) (fun u hu => by rcases (show u = 0 ∨ u = 1 ∨ u = 2 ∨ u = 3 ∨ u = 4 by omega) with rfl | rfl | rfl | rfl | rfl <;> rfl)
  refine g_pop X rfl rfl ?_
  refine g_aload_n X rfl rfl ?_
  exact g_aret X rfl rfl (Nat.le_of_ble_eq_true rfl) (Nat.le_of_ble_eq_true rfl) ⟨rfl, y3, rfl, hG3.wide (by decide), L3, hB3, hF3⟩
theorem BkW.sc {cy : Nat → ClassId} {A : AH} {g : Nat} {L : BL} {S : StV} {Z : SV} {n : Nat → Nat} {st : Int32} {f f' : Nat → Int32} (h : BkW cy A g L (mkS st S n) (mkZ f Z n)) (h1 : f' 1 = f 1) (h2 : f' 2 = f 2) (h3 : f' 3 = f 3) (h4 : f' 4 = f 4) : BkW cy A g L (mkS st S n) (mkZ f' Z n) := by
  obtain ⟨⟨a1, a2, a3⟩, a4⟩ := h
  refine ⟨⟨?_, a2, a3⟩, a4⟩
  rw [a1]
  have e : bkO L (mkS st S n) (mkZ f Z n) = bkO L (mkS st S n) (mkZ f' Z n) := by
    show [Value.int st, Value.int (f 1), Value.int (f 2), Value.int (f 3), Value.int (f 4), .ref (L.1 0), .ref (L.1 1), .ref (L.1 2), .ref (L.1 3), .ref (L.1 4)] = [Value.int st, Value.int (f' 1), Value.int (f' 2), Value.int (f' 3), Value.int (f' 4), .ref (L.1 0), .ref (L.1 1), .ref (L.1 2), .ref (L.1 3), .ref (L.1 4)]
    rw [h1, h2, h3, h4]
  rw [e]
theorem dB_ (od : Nat → Option Nat) : dX od = pickN od 0 1000000000 ∧ dY od = pickN od 1 1000000000 := ⟨rfl, rfl⟩
set_option maxRecDepth 100000 in
set_option maxHeartbeats 16000000 in
theorem ct_X8_drawn (l : Launch) (D : va_G) (cy : Nat → ClassId) (B : Nat) (od : Nat → Option Nat) {A : AH} {z : Nat} (hF : FRs A z) (hz : z + 400 ≤ 900000) : CT l D cy B od yX8_drawn cX8_drawn 8 (some (.object "CashLedgerLaw$Book")) rmX8_drawn [.ref 4000000] A (z + 1) (fun v A' z' => v = some (.ref z) ∧ ∃ z1, z' = z1 + 1 ∧ Grw A z A' z1 41 ∧ ∃ L', BkW cy A' z L' (dS od) (dZ od) ∧ ∀ q, Foot z L' (dS od) (dZ od) q → z ≤ q) := by
  refine CT.of (by decide) tX8_drawn okX8_drawn (Nat.le_of_ble_eq_true rfl) (q0 := tX8_drawn[0]) rfl rfl ?_
  intro p e s m args below meth c X hnm
  have hx9 : dX od < 1000000000 := pick_lt od 0 (by decide)
  have hy9 : dY od < 1000000000 := pick_lt od 1 (by decide)
  have loopR : ∀ (d k : Nat) (A1 : AH) (z1 : Nat) (o6 o7 : Option Value) (L1 : BL), k + d = dY od % 5 → Grw A z A1 z1 (17 + 2 * k) → BkW cy A1 z L1 (mkS (dSt od) (dS od) (fun u => if u = 0 then dX od % 6 else if u = 1 then k else 0)) (mkZ (dSc od) (dZ od) (fun u => if u = 0 then dX od % 6 else if u = 1 then k else 0)) → (∀ q, Foot z L1 (mkS (dSt od) (dS od) (fun u => if u = 0 then dX od % 6 else if u = 1 then k else 0)) (mkZ (dSc od) (dZ od) (fun u => if u = 0 then dX od % 6 else if u = 1 then k else 0)) q → z ≤ q) → G p l e rmX8_drawn s m args below meth c D B od 8 tX8_drawn (FinQ false D B od (fun v A' z' => v = some (.ref z) ∧ ∃ z1, z' = z1 + 1 ∧ Grw A z A' z1 41 ∧ ∃ L', BkW cy A' z L' (dS od) (dZ od) ∧ ∀ q, Foot z L' (dS od) (dZ od) q → z ≤ q) (fun _ _ => True) args s below rmX8_drawn.cells rmX8_drawn.slots) (16 + 2 * k) (635 + 123 * k) A1 (z1 + 1) 98 [some (.ref 4000000), some (.ref z), some (.int (nI (dX od))), some (.int (nI (dY od))), some (.int (nI (dLim od (dX od % 6)))), some (.int (nI (k))), o6, o7] [] := by
    intro d
    induction d with
    | zero =>
      intro k A1 z1 o6 o7 L1 hid hG hB hFt
      have e : k = dY od % 5 := by omega
      subst e
      refine g_iload X rfl rfl ?_
      refine g_iload_n X rfl rfl ?_
      refine g_iconst X rfl (v := nI 5) (by decide) ?_
      refine g_irem X rfl (by decide) ?_
      rw [rem_N (by omega) (by decide) (by decide)]
      refine g_ic_geN X rfl (by omega) (by omega) (fun _ => ?_) (fun h => absurd h (by omega))
      · skip
        refine g_aload_n X rfl rfl ?_
        exact g_aret X rfl rfl (by show 16 + 2 * (dY od % 5) ≤ 40; omega) (by show 635 + 123 * (dY od % 5) ≤ 2000; omega) ⟨rfl, z1, rfl, hG.wide (by omega), L1, hB, hFt⟩
    | succ d ih =>
      intro k A1 z1 o6 o7 L1 hid hG hB hFt
      have hi : k < dY od % 5 := by omega
      refine g_iload X rfl rfl ?_
      refine g_iload_n X rfl rfl ?_
      refine g_iconst X rfl (v := nI 5) (by decide) ?_
      refine g_irem X rfl (by decide) ?_
      rw [rem_N (by omega) (by decide) (by decide)]
      refine g_ic_geN X rfl (by omega) (by omega) (fun h => absurd h (by omega)) (fun _ => ?_)
      · skip
        refine g_aload_n X rfl rfl ?_
        refine g_bipush X rfl (v := nI 8) (by decide) ?_
        refine g_iload X rfl rfl ?_
        refine g_iadd X rfl ?_
        rw [nI_add]
        refine g_ldc X rfl kcX8_84 ?_
        refine g_rSN X rfl lcL_pick lnX8_85 stL_pick (cr_L_pick l D cy B od (k := 8 + k) (N := 1000000000) (by omega) (by decide) (by decide)) rfl rfl (Nat.le_of_ble_eq_true rfl) ⟨⟨by decide, by decide⟩, rfl, rfl⟩ ⟨by show _ ≤ 40; omega, by show _ ≤ 2000; omega⟩ ?_
        have hd9 : dR od k < 1000000000 := pick_lt od (8 + k) (by decide)
        show G p l e rmX8_drawn s m args below meth c D B od 8 tX8_drawn (FinQ false D B od (fun v A' z' => v = some (.ref z) ∧ ∃ z1, z' = z1 + 1 ∧ Grw A z A' z1 41 ∧ ∃ L', BkW cy A' z L' (dS od) (dZ od) ∧ ∀ q, Foot z L' (dS od) (dZ od) q → z ≤ q) (fun _ _ => True) args s below rmX8_drawn.cells rmX8_drawn.slots) (16 + 2 * k) (635 + 123 * k) A1 (z1 + 1) 109 [some (.ref 4000000), some (.ref z), some (.int (nI (dX od))), some (.int (nI (dY od))), some (.int (nI (dLim od (dX od % 6)))), some (.int (nI (k))), o6, o7] [.int (nI (dR od k))]
        first | refine g_istoreS X rfl (by decide) rfl ?_ | refine g_istore X rfl (by decide) ?_
        refine g_iload X rfl rfl ?_
        refine g_sipush X rfl (v := nI 500) (by decide) ?_
        refine g_idiv X rfl (by decide) ?_
        rw [pk_div (by omega) (by decide) (by decide)]
        refine g_sipush X rfl (v := nI 360) (by decide) ?_
        refine g_irem X rfl (by decide) ?_
        rw [rem_N (by omega) (by decide) (by decide)]
        show G p l e rmX8_drawn s m args below meth c D B od 8 tX8_drawn (FinQ false D B od (fun v A' z' => v = some (.ref z) ∧ ∃ z1, z' = z1 + 1 ∧ Grw A z A' z1 41 ∧ ∃ L', BkW cy A' z L' (dS od) (dZ od) ∧ ∀ q, Foot z L' (dS od) (dZ od) q → z ≤ q) (fun _ _ => True) args s below rmX8_drawn.cells rmX8_drawn.slots) (16 + 2 * k) (635 + 123 * k) A1 (z1 + 1) 115 [some (.ref 4000000), some (.ref z), some (.int (nI (dX od))), some (.int (nI (dY od))), some (.int (nI (dLim od (dX od % 6)))), some (.int (nI (k))), some (.int (nI (dR od k))), o7] [.int (nI (dFr od k))]
        have hf9 : dFr od k < 360 := Nat.mod_lt _ (by decide)
        first | refine g_istoreS X rfl (by decide) rfl ?_ | refine g_istore X rfl (by decide) ?_
        refine g_aload_n X rfl rfl ?_
        refine g_get X rfl flX8_33 (ci := 8) rfl (hB.1.1) rfl ?_
        refine g_iload X rfl rfl ?_
        refine g_iconst X rfl (v := nI 3) (by decide) ?_
        refine g_irem X rfl (by decide) ?_
        rw [rem_N (by omega) (by decide) (by decide)]
        refine g_if_ne X rfl (fun h => ?_) (fun h => ?_)
        · have h3 : ¬ dR od k % 3 = 0 := fun q => h (by rw [q]; rfl)
          refine g_iconst X rfl (v := nI 3) (by decide) ?_
          refine g_newai X rfl aw_i (N := 3) (nI_pos (by decide)) (nI_clamp (by decide)) (by decide) (by have := hG.2.2.1; omega) (by show 16 + 2 * k + 1 ≤ 40; omega) (by show 635 + 123 * k + 3 ≤ 2000; omega) ?_
          refine g_dup X rfl rfl ?_
          refine g_iconst X rfl (v := nI 0) (by decide) ?_
          refine g_iconst X rfl (v := nI 1) (by decide) ?_
          refine g_iload X rfl rfl ?_
          refine g_sipush X rfl (v := nI 500) (by decide) ?_
          refine g_irem X rfl (by decide) ?_
          rw [rem_N (by omega) (by decide) (by decide)]
          refine g_iadd X rfl ?_
          rw [nI_add]
          refine g_iastN X rfl upA_eq (by decide) (by decide) ?_
          rw [upA_up]
          refine g_dup X rfl rfl ?_
          refine g_iconst X rfl (v := nI 1) (by decide) ?_
          refine g_iload X rfl rfl ?_
          refine g_iastN X rfl upA_eq (by decide) (by decide) ?_
          rw [upA_up]
          refine g_dup X rfl rfl ?_
          refine g_iconst X rfl (v := nI 2) (by decide) ?_
          refine g_iload X rfl rfl ?_
          refine g_iload X rfl rfl ?_
          refine g_ldc X rfl kcX8_94 ?_
          refine g_idiv X rfl (by decide) ?_
          rw [pk_div (by omega) (by decide) (by decide)]
          refine g_sipush X rfl (v := nI 360) (by decide) ?_
          refine g_iload X rfl rfl ?_
          refine g_isub X rfl ?_
          rw [pk_sub (by omega)]
          refine g_irem X rfl (fun q => by rw [nI_eq0 (by omega)] at q; omega) ?_
          rw [rem_N (by omega) (by omega) (by omega)]
          refine g_iadd X rfl ?_
          rw [nI_add]
          refine g_iastN X rfl upA_eq (by decide) (by decide) ?_
          rw [upA_up]
          have hGa : Grw A z (upA A1 z1 (.inl (cy 0, 3, .inl (upd (upd (upd (fun _ => 0) 0 (nI (1 + dR od k % 500))) 1 (nI (dFr od k))) 2 (nI (dFr od k + dR od k / 180000 % (360 - dFr od k))))))) (z1 + 1) (17 + 2 * k + 1) := hG.new hF
          have hBa := hB.le ((HLe.rf A1).up hG.2.2.2.at (x := .inl (cy 0, 3, .inl (upd (upd (upd (fun _ => 0) 0 (nI (1 + dR od k % 500))) 1 (nI (dFr od k))) 2 (nI (dFr od k + dR od k / 180000 % (360 - dFr od k)))))))
          refine g_callV X rfl lcJx4a65c_add_9ea2d lmX8_64 lsJx4a65c_add_9ea2d (ct_add l D cy B od (show LsC cy (upA A1 z1 (.inl (cy 0, 3, .inl (upd (upd (upd (fun _ => 0) 0 (nI (1 + dR od k % 500))) 1 (nI (dFr od k))) 2 (nI (dFr od k + dR od k / 180000 % (360 - dFr od k))))))) (L1.1 1) (L1.2.1 1) (L1.2.2.1 1) k (L1.2.2.2 1) from hBa.1.2.1 1 (by decide)) (Or.inl ⟨_, _, upA_eq⟩) (by omega) hGa.2.2.2 (by have := hGa.2.2.1; omega)) (ci := 9) (hBa.1.2.1 1 (by decide)).1 rfl rfl rfl (Nat.le_of_ble_eq_true rfl) ⟨by decide, by decide⟩ ⟨by show 16 + 2 * k + 1 + 1 ≤ 40; omega, by show 635 + 123 * k + 3 + 120 ≤ 2000; omega⟩ (fun v5 A5 z5 q5 => ?_)
          have hR5 : RwT cy A5 1 z1 (mkS (dSt od) (dS od) (fun u => if u = 0 then dX od % 6 else if u = 1 then (k + 1) else 0)) (mkZ (dSc od) (dZ od) (fun u => if u = 0 then dX od % 6 else if u = 1 then (k + 1) else 0)) k := by
            have hz9 := row_in hBa (t := 1) (by decide) hGa.2.2.2 (by have := hGa.2.2.1; omega) q5.2 upA_eq (isRw.oa ⟨_, _, rfl⟩) (isRw.ls ⟨_, _, rfl⟩)
            exact (⟨_, hz9, thr_r (h := fun i => dRm od i k) rfl (by show dRm od 1 k = _; unfold dRm; rw [if_neg (by decide), if_neg h3, if_pos rfl]) (by show dRm od 2 k = _; unfold dRm; rw [if_neg (by decide), if_neg h3, if_neg (by decide)])⟩ : RwA cy A5 z1 3 _)
          obtain ⟨rfl, q5b⟩ := q5
          obtain ⟨L5, y5, rfl, hB5, hG5, hF5, -, -⟩ := add_step (S' := mkS (dSt od) (dS od) (fun u => if u = 0 then dX od % 6 else if u = 1 then (k + 1) else 0)) (Z' := mkZ (dSc od) (dZ od) (fun u => if u = 0 then dX od % 6 else if u = 1 then (k + 1) else 0)) (t := 1) (by decide) hBa hFt hF hGa (by have := hGa.2.2.1; omega) q5b hR5 (fun _ _ => ⟨fun j hj e => by have hc := rows_lt hB hG.2.2.2 (by have := hG.2.2.1; omega) (t := 1) (by decide) hj; omega, hG.2.1⟩) (mk_ag _ _ _ _ _ _ _) (fun u hu => by rcases (show u = 0 ∨ u = 1 ∨ u = 2 ∨ u = 3 ∨ u = 4 by omega) with rfl | rfl | rfl | rfl | rfl <;> rfl)
          refine g_pop X rfl rfl ?_
          first | refine g_iinc1S X rfl rfl (by decide) rfl ?_ | refine g_iinc1 X rfl rfl (by decide) ?_
          refine g_goto X rfl ?_
          exact g_more (by show 16 + 2 * k + 1 + 1 ≤ _; omega) (by show 635 + 123 * k + 3 + 120 ≤ _; omega) (ih (k + 1) A5 y5 _ _ L5 (by omega) (hG5.wide (by omega)) hB5 hF5)
        · have h3 : dR od k % 3 = 0 := (nI_eq0 (by omega)).mp h
          refine g_iconst X rfl (v := nI 3) (by decide) ?_
          refine g_newai X rfl aw_i (N := 3) (nI_pos (by decide)) (nI_clamp (by decide)) (by decide) (by have := hG.2.2.1; omega) (by show 16 + 2 * k + 1 ≤ 40; omega) (by show 635 + 123 * k + 3 ≤ 2000; omega) ?_
          refine g_dup X rfl rfl ?_
          refine g_iconst X rfl (v := nI 0) (by decide) ?_
          refine g_iconst X rfl (v := nI 1) (by decide) ?_
          refine g_iload X rfl rfl ?_
          refine g_sipush X rfl (v := nI 500) (by decide) ?_
          refine g_irem X rfl (by decide) ?_
          rw [rem_N (by omega) (by decide) (by decide)]
          refine g_iadd X rfl ?_
          rw [nI_add]
          refine g_iastN X rfl upA_eq (by decide) (by decide) ?_
          rw [upA_up]
          refine g_dup X rfl rfl ?_
          refine g_iconst X rfl (v := nI 1) (by decide) ?_
          refine g_iconst X rfl (v := (-1)) (by decide) ?_
          refine g_iastN X rfl upA_eq (by decide) (by decide) ?_
          rw [upA_up]
          refine g_dup X rfl rfl ?_
          refine g_iconst X rfl (v := nI 2) (by decide) ?_
          refine g_iconst X rfl (v := (-1)) (by decide) ?_
          refine g_iastN X rfl upA_eq (by decide) (by decide) ?_
          rw [upA_up]
          refine g_goto X rfl ?_
          have hGa : Grw A z (upA A1 z1 (.inl (cy 0, 3, .inl (upd (upd (upd (fun _ => 0) 0 (nI (1 + dR od k % 500))) 1 (-1)) 2 (-1))))) (z1 + 1) (17 + 2 * k + 1) := hG.new hF
          have hBa := hB.le ((HLe.rf A1).up hG.2.2.2.at (x := .inl (cy 0, 3, .inl (upd (upd (upd (fun _ => 0) 0 (nI (1 + dR od k % 500))) 1 (-1)) 2 (-1)))))
          refine g_callV X rfl lcJx4a65c_add_9ea2d lmX8_64 lsJx4a65c_add_9ea2d (ct_add l D cy B od (show LsC cy (upA A1 z1 (.inl (cy 0, 3, .inl (upd (upd (upd (fun _ => 0) 0 (nI (1 + dR od k % 500))) 1 (-1)) 2 (-1))))) (L1.1 1) (L1.2.1 1) (L1.2.2.1 1) k (L1.2.2.2 1) from hBa.1.2.1 1 (by decide)) (Or.inl ⟨_, _, upA_eq⟩) (by omega) hGa.2.2.2 (by have := hGa.2.2.1; omega)) (ci := 9) (hBa.1.2.1 1 (by decide)).1 rfl rfl rfl (Nat.le_of_ble_eq_true rfl) ⟨by decide, by decide⟩ ⟨by show 16 + 2 * k + 1 + 1 ≤ 40; omega, by show 635 + 123 * k + 3 + 120 ≤ 2000; omega⟩ (fun v5 A5 z5 q5 => ?_)
          have hR5 : RwT cy A5 1 z1 (mkS (dSt od) (dS od) (fun u => if u = 0 then dX od % 6 else if u = 1 then (k + 1) else 0)) (mkZ (dSc od) (dZ od) (fun u => if u = 0 then dX od % 6 else if u = 1 then (k + 1) else 0)) k := by
            have hz9 := row_in hBa (t := 1) (by decide) hGa.2.2.2 (by have := hGa.2.2.1; omega) q5.2 upA_eq (isRw.oa ⟨_, _, rfl⟩) (isRw.ls ⟨_, _, rfl⟩)
            exact (⟨_, hz9, thr_r (h := fun i => dRm od i k) rfl (by show dRm od 1 k = _; unfold dRm; rw [if_neg (by decide), if_pos h3]) (by show dRm od 2 k = _; unfold dRm; rw [if_neg (by decide), if_pos h3])⟩ : RwA cy A5 z1 3 _)
          obtain ⟨rfl, q5b⟩ := q5
          obtain ⟨L5, y5, rfl, hB5, hG5, hF5, -, -⟩ := add_step (S' := mkS (dSt od) (dS od) (fun u => if u = 0 then dX od % 6 else if u = 1 then (k + 1) else 0)) (Z' := mkZ (dSc od) (dZ od) (fun u => if u = 0 then dX od % 6 else if u = 1 then (k + 1) else 0)) (t := 1) (by decide) hBa hFt hF hGa (by have := hGa.2.2.1; omega) q5b hR5 (fun _ _ => ⟨fun j hj e => by have hc := rows_lt hB hG.2.2.2 (by have := hG.2.2.1; omega) (t := 1) (by decide) hj; omega, hG.2.1⟩) (mk_ag _ _ _ _ _ _ _) (fun u hu => by rcases (show u = 0 ∨ u = 1 ∨ u = 2 ∨ u = 3 ∨ u = 4 by omega) with rfl | rfl | rfl | rfl | rfl <;> rfl)
          refine g_pop X rfl rfl ?_
          first | refine g_iinc1S X rfl rfl (by decide) rfl ?_ | refine g_iinc1 X rfl rfl (by decide) ?_
          refine g_goto X rfl ?_
          exact g_more (by show 16 + 2 * k + 1 + 1 ≤ _; omega) (by show 635 + 123 * k + 3 + 120 ≤ _; omega) (ih (k + 1) A5 y5 _ _ L5 (by omega) (hG5.wide (by omega)) hB5 hF5)
  have loopB : ∀ (d k : Nat) (A1 : AH) (z1 : Nat) (o6 o7 : Option Value) (L1 : BL), k + d = dX od % 6 → Grw A z A1 z1 (7 + 2 * k) → BkW cy A1 z L1 (mkS (dSt od) (dS od) (fun u => if u = 0 then k else 0)) (mkZ (dSc od) (dZ od) (fun u => if u = 0 then k else 0)) → (∀ q, Foot z L1 (mkS (dSt od) (dS od) (fun u => if u = 0 then k else 0)) (mkZ (dSc od) (dZ od) (fun u => if u = 0 then k else 0)) q → z ≤ q) → G p l e rmX8_drawn s m args below meth c D B od 8 tX8_drawn (FinQ false D B od (fun v A' z' => v = some (.ref z) ∧ ∃ z1, z' = z1 + 1 ∧ Grw A z A' z1 41 ∧ ∃ L', BkW cy A' z L' (dS od) (dZ od) ∧ ∀ q, Foot z L' (dS od) (dZ od) q → z ≤ q) (fun _ _ => True) args s below rmX8_drawn.cells rmX8_drawn.slots) (6 + 2 * k) (25 + 122 * k) A1 (z1 + 1) 52 [some (.ref 4000000), some (.ref z), some (.int (nI (dX od))), some (.int (nI (dY od))), some (.int (nI (dLim od k))), some (.int (nI (k))), o6, o7] [] := by
    intro d
    induction d with
    | zero =>
      intro k A1 z1 o6 o7 L1 hid hG hB hFt
      have e : k = dX od % 6 := by omega
      subst e
      refine g_iload X rfl rfl ?_
      refine g_iload_n X rfl rfl ?_
      refine g_bipush X rfl (v := nI 6) (by decide) ?_
      refine g_irem X rfl (by decide) ?_
      rw [rem_N (by omega) (by decide) (by decide)]
      refine g_ic_geN X rfl (by omega) (by omega) (fun _ => ?_) (fun h => absurd h (by omega))
      · skip
        refine g_iconst X rfl (v := nI 0) (by decide) ?_
        first | refine g_istoreS X rfl (by decide) rfl ?_ | refine g_istore X rfl (by decide) ?_
        have e9 : mkS (dSt od) (dS od) (fun u => if u = 0 then dX od % 6 else 0) = mkS (dSt od) (dS od) (fun u => if u = 0 then dX od % 6 else if u = 1 then 0 else 0) ∧ mkZ (dSc od) (dZ od) (fun u => if u = 0 then dX od % 6 else 0) = mkZ (dSc od) (dZ od) (fun u => if u = 0 then dX od % 6 else if u = 1 then 0 else 0) := ⟨rfl, rfl⟩
        rw [e9.1, e9.2] at hB hFt
        exact g_more (by omega) (by omega) (loopR (dY od % 5) 0 A1 z1 o6 o7 L1 (Nat.zero_add _) (hG.wide (by omega)) hB hFt)
    | succ d ih =>
      intro k A1 z1 o6 o7 L1 hid hG hB hFt
      have hi : k < dX od % 6 := by omega
      refine g_iload X rfl rfl ?_
      refine g_iload_n X rfl rfl ?_
      refine g_bipush X rfl (v := nI 6) (by decide) ?_
      refine g_irem X rfl (by decide) ?_
      rw [rem_N (by omega) (by decide) (by decide)]
      refine g_ic_geN X rfl (by omega) (by omega) (fun h => absurd h (by omega)) (fun _ => ?_)
      · skip
        refine g_aload_n X rfl rfl ?_
        refine g_iconst X rfl (v := nI 2) (by decide) ?_
        refine g_iload X rfl rfl ?_
        refine g_iadd X rfl ?_
        rw [nI_add]
        refine g_ldc X rfl kcX8_84 ?_
        refine g_rSN X rfl lcL_pick lnX8_85 stL_pick (cr_L_pick l D cy B od (k := 2 + k) (N := 1000000000) (by omega) (by decide) (by decide)) rfl rfl (Nat.le_of_ble_eq_true rfl) ⟨⟨by decide, by decide⟩, rfl, rfl⟩ ⟨by show _ ≤ 40; omega, by show _ ≤ 2000; omega⟩ ?_
        have hd9 : dB od k < 1000000000 := pick_lt od (2 + k) (by decide)
        show G p l e rmX8_drawn s m args below meth c D B od 8 tX8_drawn (FinQ false D B od (fun v A' z' => v = some (.ref z) ∧ ∃ z1, z' = z1 + 1 ∧ Grw A z A' z1 41 ∧ ∃ L', BkW cy A' z L' (dS od) (dZ od) ∧ ∀ q, Foot z L' (dS od) (dZ od) q → z ≤ q) (fun _ _ => True) args s below rmX8_drawn.cells rmX8_drawn.slots) (6 + 2 * k) (25 + 122 * k) A1 (z1 + 1) 63 [some (.ref 4000000), some (.ref z), some (.int (nI (dX od))), some (.int (nI (dY od))), some (.int (nI (dLim od k))), some (.int (nI (k))), o6, o7] [.int (nI (dB od k))]
        first | refine g_istoreS X rfl (by decide) rfl ?_ | refine g_istore X rfl (by decide) ?_
        refine g_iload X rfl rfl ?_
        refine g_iconst X rfl (v := nI 1) (by decide) ?_
        refine g_iload X rfl rfl ?_
        refine g_iload X rfl rfl ?_
        refine g_if_ne X rfl (fun h => ?_) (fun h => ?_)
        · have h3 : dLim od k + (1 + dB od k % 3000000) = dLim od (k + 1) := by rw [dLim, if_neg (fun q => h (by rw [q]; rfl))]
          refine g_ldc X rfl kcX8_93 ?_
          refine g_irem X rfl (by decide) ?_
          rw [rem_N (by omega) (by decide) (by decide)]
          refine g_iadd X rfl ?_
          rw [nI_add]
          refine g_iadd X rfl ?_
          rw [nI_add, h3]
          first | refine g_istoreS X rfl (by decide) rfl ?_ | refine g_istore X rfl (by decide) ?_
          refine g_aload_n X rfl rfl ?_
          refine g_get X rfl flX8_29 (ci := 8) rfl (hB.1.1) rfl ?_
          refine g_iconst X rfl (v := nI 2) (by decide) ?_
          refine g_newai X rfl aw_i (N := 2) (nI_pos (by decide)) (nI_clamp (by decide)) (by decide) (by have := hG.2.2.1; omega) (by show 6 + 2 * k + 1 ≤ 40; omega) (by show 25 + 122 * k + 2 ≤ 2000; omega) ?_
          refine g_dup X rfl rfl ?_
          refine g_iconst X rfl (v := nI 0) (by decide) ?_
          refine g_iload X rfl rfl ?_
          refine g_iastN X rfl upA_eq (by decide) (by decide) ?_
          rw [upA_up]
          refine g_dup X rfl rfl ?_
          refine g_iconst X rfl (v := nI 1) (by decide) ?_
          refine g_iload X rfl rfl ?_
          refine g_sipush X rfl (v := nI 3000) (by decide) ?_
          refine g_idiv X rfl (by decide) ?_
          rw [pk_div (by omega) (by decide) (by decide)]
          refine g_sipush X rfl (v := nI 901) (by decide) ?_
          refine g_irem X rfl (by decide) ?_
          rw [rem_N (by omega) (by decide) (by decide)]
          refine g_iastN X rfl upA_eq (by decide) (by decide) ?_
          rw [upA_up]
          have hGa : Grw A z (upA A1 z1 (.inl (cy 0, 2, .inl (upd (upd (fun _ => 0) 0 (nI (dLim od (k + 1)))) 1 (nI (dB od k / 3000 % 901)))))) (z1 + 1) (7 + 2 * k + 1) := hG.new hF
          have hBa := hB.le ((HLe.rf A1).up hG.2.2.2.at (x := .inl (cy 0, 2, .inl (upd (upd (fun _ => 0) 0 (nI (dLim od (k + 1)))) 1 (nI (dB od k / 3000 % 901))))))
          refine g_callV X rfl lcJx4a65c_add_9ea2d lmX8_64 lsJx4a65c_add_9ea2d (ct_add l D cy B od (show LsC cy (upA A1 z1 (.inl (cy 0, 2, .inl (upd (upd (fun _ => 0) 0 (nI (dLim od (k + 1)))) 1 (nI (dB od k / 3000 % 901)))))) (L1.1 0) (L1.2.1 0) (L1.2.2.1 0) k (L1.2.2.2 0) from hBa.1.2.1 0 (by decide)) (Or.inl ⟨_, _, upA_eq⟩) (by omega) hGa.2.2.2 (by have := hGa.2.2.1; omega)) (ci := 9) (hBa.1.2.1 0 (by decide)).1 rfl rfl rfl (Nat.le_of_ble_eq_true rfl) ⟨by decide, by decide⟩ ⟨by show 6 + 2 * k + 1 + 1 ≤ 40; omega, by show 25 + 122 * k + 2 + 120 ≤ 2000; omega⟩ (fun v5 A5 z5 q5 => ?_)
          have hR5 : RwT cy A5 0 z1 (mkS (dSt od) (dS od) (fun u => if u = 0 then (k + 1) else 0)) (mkZ (dSc od) (dZ od) (fun u => if u = 0 then (k + 1) else 0)) k := by
            have hz9 := row_in hBa (t := 0) (by decide) hGa.2.2.2 (by have := hGa.2.2.1; omega) q5.2 upA_eq (isRw.oa ⟨_, _, rfl⟩) (isRw.ls ⟨_, _, rfl⟩)
            exact (⟨_, hz9, two_r (h := fun i => if i = 0 then nI (dLim od (k + 1)) else nI (dB od k / 3000 % 901)) rfl rfl⟩ : RwA cy A5 z1 2 _)
          obtain ⟨rfl, q5b⟩ := q5
          obtain ⟨L5, y5, rfl, hB5, hG5, hF5, -, -⟩ := add_step (S' := mkS (dSt od) (dS od) (fun u => if u = 0 then (k + 1) else 0)) (Z' := mkZ (dSc od) (dZ od) (fun u => if u = 0 then (k + 1) else 0)) (t := 0) (by decide) hBa hFt hF hGa (by have := hGa.2.2.1; omega) q5b hR5 (fun _ _ => ⟨fun j hj e => by have hc := rows_lt hB hG.2.2.2 (by have := hG.2.2.1; omega) (t := 0) (by decide) hj; omega, hG.2.1⟩) (mk_ag _ _ _ _ _ _ _) (fun u hu => by rcases (show u = 0 ∨ u = 1 ∨ u = 2 ∨ u = 3 ∨ u = 4 by omega) with rfl | rfl | rfl | rfl | rfl <;> rfl)
          refine g_pop X rfl rfl ?_
          first | refine g_iinc1S X rfl rfl (by decide) rfl ?_ | refine g_iinc1 X rfl rfl (by decide) ?_
          refine g_goto X rfl ?_
          exact g_more (by show 6 + 2 * k + 1 + 1 ≤ _; omega) (by show 25 + 122 * k + 2 + 120 ≤ _; omega) (ih (k + 1) A5 y5 _ _ L5 (by omega) (hG5.wide (by omega)) hB5 hF5)
        · have h3 : dLim od k + (1 + dB od k % 400000) = dLim od (k + 1) := by rw [dLim, if_pos ((nI_eq0 (by omega)).mp h)]
          refine g_ldc X rfl kcX8_92 ?_
          refine g_goto X rfl ?_
          refine g_irem X rfl (by decide) ?_
          rw [rem_N (by omega) (by decide) (by decide)]
          refine g_iadd X rfl ?_
          rw [nI_add]
          refine g_iadd X rfl ?_
          rw [nI_add, h3]
          first | refine g_istoreS X rfl (by decide) rfl ?_ | refine g_istore X rfl (by decide) ?_
          refine g_aload_n X rfl rfl ?_
          refine g_get X rfl flX8_29 (ci := 8) rfl (hB.1.1) rfl ?_
          refine g_iconst X rfl (v := nI 2) (by decide) ?_
          refine g_newai X rfl aw_i (N := 2) (nI_pos (by decide)) (nI_clamp (by decide)) (by decide) (by have := hG.2.2.1; omega) (by show 6 + 2 * k + 1 ≤ 40; omega) (by show 25 + 122 * k + 2 ≤ 2000; omega) ?_
          refine g_dup X rfl rfl ?_
          refine g_iconst X rfl (v := nI 0) (by decide) ?_
          refine g_iload X rfl rfl ?_
          refine g_iastN X rfl upA_eq (by decide) (by decide) ?_
          rw [upA_up]
          refine g_dup X rfl rfl ?_
          refine g_iconst X rfl (v := nI 1) (by decide) ?_
          refine g_iload X rfl rfl ?_
          refine g_sipush X rfl (v := nI 3000) (by decide) ?_
          refine g_idiv X rfl (by decide) ?_
          rw [pk_div (by omega) (by decide) (by decide)]
          refine g_sipush X rfl (v := nI 901) (by decide) ?_
          refine g_irem X rfl (by decide) ?_
          rw [rem_N (by omega) (by decide) (by decide)]
          refine g_iastN X rfl upA_eq (by decide) (by decide) ?_
          rw [upA_up]
          have hGa : Grw A z (upA A1 z1 (.inl (cy 0, 2, .inl (upd (upd (fun _ => 0) 0 (nI (dLim od (k + 1)))) 1 (nI (dB od k / 3000 % 901)))))) (z1 + 1) (7 + 2 * k + 1) := hG.new hF
          have hBa := hB.le ((HLe.rf A1).up hG.2.2.2.at (x := .inl (cy 0, 2, .inl (upd (upd (fun _ => 0) 0 (nI (dLim od (k + 1)))) 1 (nI (dB od k / 3000 % 901))))))
          refine g_callV X rfl lcJx4a65c_add_9ea2d lmX8_64 lsJx4a65c_add_9ea2d (ct_add l D cy B od (show LsC cy (upA A1 z1 (.inl (cy 0, 2, .inl (upd (upd (fun _ => 0) 0 (nI (dLim od (k + 1)))) 1 (nI (dB od k / 3000 % 901)))))) (L1.1 0) (L1.2.1 0) (L1.2.2.1 0) k (L1.2.2.2 0) from hBa.1.2.1 0 (by decide)) (Or.inl ⟨_, _, upA_eq⟩) (by omega) hGa.2.2.2 (by have := hGa.2.2.1; omega)) (ci := 9) (hBa.1.2.1 0 (by decide)).1 rfl rfl rfl (Nat.le_of_ble_eq_true rfl) ⟨by decide, by decide⟩ ⟨by show 6 + 2 * k + 1 + 1 ≤ 40; omega, by show 25 + 122 * k + 2 + 120 ≤ 2000; omega⟩ (fun v5 A5 z5 q5 => ?_)
          have hR5 : RwT cy A5 0 z1 (mkS (dSt od) (dS od) (fun u => if u = 0 then (k + 1) else 0)) (mkZ (dSc od) (dZ od) (fun u => if u = 0 then (k + 1) else 0)) k := by
            have hz9 := row_in hBa (t := 0) (by decide) hGa.2.2.2 (by have := hGa.2.2.1; omega) q5.2 upA_eq (isRw.oa ⟨_, _, rfl⟩) (isRw.ls ⟨_, _, rfl⟩)
            exact (⟨_, hz9, two_r (h := fun i => if i = 0 then nI (dLim od (k + 1)) else nI (dB od k / 3000 % 901)) rfl rfl⟩ : RwA cy A5 z1 2 _)
          obtain ⟨rfl, q5b⟩ := q5
          obtain ⟨L5, y5, rfl, hB5, hG5, hF5, -, -⟩ := add_step (S' := mkS (dSt od) (dS od) (fun u => if u = 0 then (k + 1) else 0)) (Z' := mkZ (dSc od) (dZ od) (fun u => if u = 0 then (k + 1) else 0)) (t := 0) (by decide) hBa hFt hF hGa (by have := hGa.2.2.1; omega) q5b hR5 (fun _ _ => ⟨fun j hj e => by have hc := rows_lt hB hG.2.2.2 (by have := hG.2.2.1; omega) (t := 0) (by decide) hj; omega, hG.2.1⟩) (mk_ag _ _ _ _ _ _ _) (fun u hu => by rcases (show u = 0 ∨ u = 1 ∨ u = 2 ∨ u = 3 ∨ u = 4 by omega) with rfl | rfl | rfl | rfl | rfl <;> rfl)
          refine g_pop X rfl rfl ?_
          first | refine g_iinc1S X rfl rfl (by decide) rfl ?_ | refine g_iinc1 X rfl rfl (by decide) ?_
          refine g_goto X rfl ?_
          exact g_more (by show 6 + 2 * k + 1 + 1 ≤ _; omega) (by show 25 + 122 * k + 2 + 120 ≤ _; omega) (ih (k + 1) A5 y5 _ _ L5 (by omega) (hG5.wide (by omega)) hB5 hF5)
  refine g_new X rfl nwX8_11 (ci := 8) rfl (fs := [.int (nI 0), .int (nI 0), .int (nI 0), .int (nI 0), .int (nI 0), .null, .null, .null, .null, .null]) rfl rfl (by omega) (Nat.le_of_ble_eq_true rfl) (Nat.le_of_ble_eq_true rfl) ?_
  refine g_dup X rfl rfl ?_
  refine g_callI X rfl lcX8_init lmX8_81 liX8_init rfl (ct_X8_init l D cy B od (A0 := A) (g := z) hF (by omega) (S := mkS (nI 0) (dS od) (fun _ => 0)) (Z := mkZ scD (dZ od) (fun _ => 0)) (fun t ht => bN_mk _ _ _ _ _ t ht) rfl rfl rfl rfl rfl) rfl rfl (Nat.le_of_ble_eq_true rfl) ⟨by decide, by decide⟩ ⟨Nat.le_of_ble_eq_true rfl, Nat.le_of_ble_eq_true rfl⟩ (fun v1 A1 z1 q1 => ?_)
  obtain ⟨rfl, rfl, ⟨L1, hB1, hF1⟩, hG1⟩ := q1
  first | refine g_astore_nS X rfl (by decide) rfl ?_ | refine g_astore_n X rfl (by decide) ?_
  refine g_aload_n X rfl rfl ?_
  refine g_iconst X rfl (v := nI 0) (by decide) ?_
  refine g_ldc X rfl kcX8_84 ?_
  refine g_rSN X rfl lcL_pick lnX8_85 stL_pick (cr_L_pick l D cy B od (k := 0) (N := 1000000000) (by omega) (by decide) (by decide)) rfl rfl (Nat.le_of_ble_eq_true rfl) ⟨⟨by decide, by decide⟩, rfl, rfl⟩ ⟨Nat.le_of_ble_eq_true rfl, Nat.le_of_ble_eq_true rfl⟩ ?_
  first | refine g_istore_nS X rfl (by decide) rfl ?_ | refine g_istore_n X rfl (by decide) ?_
  refine g_aload_n X rfl rfl ?_
  refine g_iconst X rfl (v := nI 1) (by decide) ?_
  refine g_ldc X rfl kcX8_84 ?_
  refine g_rSN X rfl lcL_pick lnX8_85 stL_pick (cr_L_pick l D cy B od (k := 1) (N := 1000000000) (by omega) (by decide) (by decide)) rfl rfl (Nat.le_of_ble_eq_true rfl) ⟨⟨by decide, by decide⟩, rfl, rfl⟩ ⟨Nat.le_of_ble_eq_true rfl, Nat.le_of_ble_eq_true rfl⟩ ?_
  first | refine g_istore_nS X rfl (by decide) rfl ?_ | refine g_istore_n X rfl (by decide) ?_
  refine g_aload_n X rfl rfl ?_
  refine g_iload_n X rfl rfl ?_
  refine g_ldc X rfl kcX8_89 ?_
  show G p l e rmX8_drawn s m args below meth c D B od 8 tX8_drawn (FinQ false D B od (fun v A' z' => v = some (.ref z) ∧ ∃ z1, z' = z1 + 1 ∧ Grw A z A' z1 41 ∧ ∃ L', BkW cy A' z L' (dS od) (dZ od) ∧ ∀ q, Foot z L' (dS od) (dZ od) q → z ≤ q) (fun _ _ => True) args s below rmX8_drawn.cells rmX8_drawn.slots) 6 25 A1 (z + 7) 17 [some (.ref 4000000), some (.ref z), some (.int (nI (dX od))), some (.int (nI (dY od))), none, none, none, none] [.int (nI 500000), .int (nI (dX od)), .ref z]
  refine g_irem X rfl (by decide) ?_
  rw [rem_N (by omega) (by decide) (by decide)]
  refine g_put X rfl flX8_45 rfl (ci := 8) rfl hB1.1.1 (Nat.le_of_ble_eq_true rfl) (by rfl) (by rfl) ?_
  have hB2 := hB1.num hG1.2.2.2 (by have := hG1.2.2.1; omega) (dSt od) (scD)
  have hG2 : Grw A z _ (z + 6) 6 := hG1.up hF (Nat.le_refl _) (by omega) (q := z) (x := .inr (8, bkO L1 (mkS (dSt od) (dS od) (fun _ => 0)) (mkZ (scD) (dZ od) (fun _ => 0))))
  refine g_aload_n X rfl rfl ?_
  refine g_iload_n X rfl rfl ?_
  refine g_bipush X rfl (v := nI 7) (by decide) ?_
  refine g_idiv X rfl (by decide) ?_
  rw [pk_div (by omega) (by decide) (by decide)]
  refine g_ldc X rfl kcX8_90 ?_
  refine g_irem X rfl (by decide) ?_
  rw [rem_N (by omega) (by decide) (by decide)]
  refine g_put X rfl flX8_10 rfl (ci := 8) rfl hB2.1.1 (Nat.le_of_ble_eq_true rfl) (by rfl) (by rfl) ?_
  have hB3 := hB2.num hG2.2.2.2 (by have := hG2.2.2.1; omega) (dSt od) (fun i => if i = 1 then nI (dX od / 7 % 90000) else (scD) i)
  have hG3 : Grw A z _ (z + 6) 6 := hG2.up hF (Nat.le_refl _) (by omega) (q := z) (x := .inr (8, bkO L1 (mkS (dSt od) (dS od) (fun _ => 0)) (mkZ (fun i => if i = 1 then nI (dX od / 7 % 90000) else (scD) i) (dZ od) (fun _ => 0))))
  refine g_aload_n X rfl rfl ?_
  refine g_aload_n X rfl rfl ?_
  refine g_get X rfl flX8_10 (ci := 8) rfl (hB3.1.1) rfl ?_
  refine g_iload_n X rfl rfl ?_
  refine g_ldc X rfl kcX8_91 ?_
  refine g_irem X rfl (by decide) ?_
  rw [rem_N (by omega) (by decide) (by decide)]
  refine g_iadd X rfl ?_
  rw [show (mkZ (fun i => if i = 1 then nI (dX od / 7 % 90000) else (scD) i) (dZ od) (fun _ => 0)).2.1 1 = nI (dX od / 7 % 90000) from rfl, nI_add]
  refine g_put X rfl flX8_17 rfl (ci := 8) rfl hB3.1.1 (Nat.le_of_ble_eq_true rfl) (by rfl) (by rfl) ?_
  have hB4 := hB3.num hG3.2.2.2 (by have := hG3.2.2.1; omega) (dSt od) (fun i => if i = 2 then nI (dX od / 7 % 90000 + dY od % 200000) else (fun i => if i = 1 then nI (dX od / 7 % 90000) else (scD) i) i)
  have hG4 : Grw A z _ (z + 6) 6 := hG3.up hF (Nat.le_refl _) (by omega) (q := z) (x := .inr (8, bkO L1 (mkS (dSt od) (dS od) (fun _ => 0)) (mkZ (fun i => if i = 2 then nI (dX od / 7 % 90000 + dY od % 200000) else (fun i => if i = 1 then nI (dX od / 7 % 90000) else (scD) i) i) (dZ od) (fun _ => 0))))
  refine g_aload_n X rfl rfl ?_
  refine g_iload_n X rfl rfl ?_
  refine g_bipush X rfl (v := nI 9) (by decide) ?_
  refine g_idiv X rfl (by decide) ?_
  rw [pk_div (by omega) (by decide) (by decide)]
  refine g_bipush X rfl (v := nI 101) (by decide) ?_
  refine g_irem X rfl (by decide) ?_
  rw [rem_N (by omega) (by decide) (by decide)]
  refine g_put X rfl flX8_20 rfl (ci := 8) rfl hB4.1.1 (Nat.le_of_ble_eq_true rfl) (by rfl) (by rfl) ?_
  have hB5 := hB4.num hG4.2.2.2 (by have := hG4.2.2.1; omega) (dSt od) (fun i => if i = 3 then nI (dY od / 9 % 101) else (fun i => if i = 2 then nI (dX od / 7 % 90000 + dY od % 200000) else (fun i => if i = 1 then nI (dX od / 7 % 90000) else (scD) i) i) i)
  have hG5 : Grw A z _ (z + 6) 6 := hG4.up hF (Nat.le_refl _) (by omega) (q := z) (x := .inr (8, bkO L1 (mkS (dSt od) (dS od) (fun _ => 0)) (mkZ (fun i => if i = 3 then nI (dY od / 9 % 101) else (fun i => if i = 2 then nI (dX od / 7 % 90000 + dY od % 200000) else (fun i => if i = 1 then nI (dX od / 7 % 90000) else (scD) i) i) i) (dZ od) (fun _ => 0))))
  refine g_aload_n X rfl rfl ?_
  refine g_iload_n X rfl rfl ?_
  refine g_ldc X rfl kcX8_89 ?_
  refine g_idiv X rfl (by decide) ?_
  rw [pk_div (by omega) (by decide) (by decide)]
  refine g_sipush X rfl (v := nI 901) (by decide) ?_
  refine g_irem X rfl (by decide) ?_
  rw [rem_N (by omega) (by decide) (by decide)]
  refine g_put X rfl flX8_23 rfl (ci := 8) rfl hB5.1.1 (Nat.le_of_ble_eq_true rfl) (by rfl) (by rfl) ?_
  have hB6 := hB5.num hG5.2.2.2 (by have := hG5.2.2.1; omega) (dSt od) (fun i => if i = 4 then nI (dX od / 500000 % 901) else (fun i => if i = 3 then nI (dY od / 9 % 101) else (fun i => if i = 2 then nI (dX od / 7 % 90000 + dY od % 200000) else (fun i => if i = 1 then nI (dX od / 7 % 90000) else (scD) i) i) i) i)
  have hG6 : Grw A z _ (z + 6) 6 := hG5.up hF (Nat.le_refl _) (by omega) (q := z) (x := .inr (8, bkO L1 (mkS (dSt od) (dS od) (fun _ => 0)) (mkZ (fun i => if i = 4 then nI (dX od / 500000 % 901) else (fun i => if i = 3 then nI (dY od / 9 % 101) else (fun i => if i = 2 then nI (dX od / 7 % 90000 + dY od % 200000) else (fun i => if i = 1 then nI (dX od / 7 % 90000) else (scD) i) i) i) i) (dZ od) (fun _ => 0))))
  refine g_iconst X rfl (v := nI 0) (by decide) ?_
  first | refine g_istoreS X rfl (by decide) rfl ?_ | refine g_istore X rfl (by decide) ?_
  refine g_iconst X rfl (v := nI 0) (by decide) ?_
  first | refine g_istoreS X rfl (by decide) rfl ?_ | refine g_istore X rfl (by decide) ?_
  have hf : BkW cy _ z L1 (mkS (dSt od) (dS od) (fun _ => 0)) (mkZ (dSc od) (dZ od) (fun _ => 0)) := hB6.sc rfl rfl rfl rfl
  exact loopB (dX od % 6) 0 _ (z + 6) none none L1 (Nat.zero_add _) (hG6.wide (by decide)) hf (fun q hq => hF1 q hq.mk)
