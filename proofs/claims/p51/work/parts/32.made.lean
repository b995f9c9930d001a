/-! 32: what constructors make -/
section CORE32
variable {p : Program} {l : Launch} {e : Env} {R : Room} {s : State} {m : MethodId} {args : Array Value} {below : List Frame} {meth : Method} {c : Code}
variable {D : va_G} {cy : Nat → ClassId} {B : Nat} {od : Nat → Option Nat} {cc : ByteArray} {nL : Nat} {tab : List PT} {own : String} {ret : Option FieldType}
variable {F : State → Prop} {cells slots : Nat} {A : AH} {z i pc len nx tg : Nat} {lv : List (Option Value)} {st : List Value}
theorem g_anew (X : Cx p s m args meth c D cy B od cc nL tab own ret) {ix : Nat} (hi : tab[i]? = some (pc, .anewarray ix, 3, nx, tg)) (hw : Cond.classLink own ix RX6 ∈ lw_good) {x : Int32} {N : Nat} (hx : ¬ x < 0) (hN : x.toNatClampNeg = N) (hbytes : N * 4 ≤ 536870912) (hz : z < 1000000) (hcells : cells + 1 ≤ R.cells) (hslots : slots + N ≤ R.slots)
    (kk : G p l e R s m args below meth c D B od nL tab F (cells + 1) (slots + N) (upA A z (.inl (cy 4, N, .inr (.inr (.inr (.inr (fun _ => none))))))) (z + 2) nx lv (.ref z :: st)) : G p l e R s m args below meth c D B od nL tab F cells slots A (z + 1) i lv (.int x :: st) := by
  intro q hq H locs ls hR hS hl
  cases Option.some.inj (hi.symm.trans hq)
  obtain ⟨q2, hq2, e2⟩ := X.2.2.2.1.fall hi rfl
  subst hN
  refine W.anew X.1.1 X.1.2.1 X.1.2.2.2.1 (X.1.2.2.2.2 _ hw) (va_AO.use X.str.2.2.2.2.1) rfl (X.2.2.2.1.dec hi) rfl hx hbytes hcells hslots fun cA kA comp f1 f2 f3 f4 => ?_
  generalize hH1 : H.push ({ cls := cA, slots := Array.replicate x.toNatClampNeg .null, vm := .none } : Cell) = H1
  have z1 : H1.size = H.size + 1 := by rw [← hH1, Array.size_push]
  have e1 : H1[H.size]? = some (arrV cA x.toNatClampNeg (fun _ => .null)) := by rw [← hH1, Array.getElem?_push_size, ← arrV_new]
  have o1 : ∀ q : Nat, q < H.size → H1[q]? = H[q]? := fun q hq => by rw [← hH1, Array.getElem?_push, if_neg (Nat.ne_of_lt hq)]
  obtain ⟨kB, cmp, b1, b2, b3, b4⟩ := (X.2.1.2 4 _ rfl).2
  have hcA : cA = cy 4 := Option.some.inj (f1.symm.trans b4)
  have hat : va_at D vwCl (H.size, trE B od (.inl (cy 4, x.toNatClampNeg, .inr (.inr (.inr (.inr (fun _ => none))))))) H1 := by
    show H1[H.size]? = some (vp_cell (cy 4) (x.toNatClampNeg, .inr (.inr (.inr (.inr (fun _ => none))))))
    rw [e1, hcA, vp_cell_q]
    rfl
  obtain ⟨hR2, hr⟩ := hR.push (X.od0 hz) hat z1 o1
  have K := kk q2 hq2 H1 locs ls hR2 (va_Spush hS z1 o1) hl
  rw [e2] at K
  rw [hr]
  exact K
theorem g_aast (X : Cx p s m args meth c D cy B od cc nL tab own ret) (hi : tab[i]? = some (pc, .aastore, 1, nx, tg)) {a n b : Nat} {f : Nat → Option Nat} {fs : List Value} {x : Int32} (hA : A a = some (.inl (cy 4, n, .inr (.inr (.inr (.inr f)))))) (hb : A b = some (.inr (6, fs))) (hin : vp_in x n)
    (kk : G p l e R s m args below meth c D B od nL tab F cells slots (upA A a (.inl (cy 4, n, .inr (.inr (.inr (.inr (va_up f x.toNatClampNeg (some b)))))))) z nx lv st) : G p l e R s m args below meth c D B od nL tab F cells slots A z i lv (.ref b :: .int x :: .ref a :: st) := by
  intro q hq H locs ls hR hS hl
  cases Option.some.inj (hi.symm.trans hq)
  obtain ⟨q2, hq2, e2⟩ := X.2.2.2.1.fall hi rfl
  obtain ⟨hlt, hat⟩ := hR.1 a _ hA
  obtain ⟨hltb, hatb⟩ := hR.1 b _ hb
  have hlt9 : x.toNatClampNeg < n := Nat.not_le.mp fun q => hin (Or.inr q)
  have h0 : ¬ x < 0 := fun q => hin (Or.inl q)
  obtain ⟨r', hr', cellV, g1, g2, g3, -⟩ := hatb
  have hc6 : vwCl[6]? = some (RX6, TX6, 6) := rfl
  have hcls := (X.2.1.1 6 _ hc6).2
  obtain ⟨kA, comp, k1, k2, k3, -⟩ := (X.2.1.2 4 _ rfl).2
  have hcomp : comp = D.1 6 := Option.some.inj (k3.symm.trans hcls.1)
  subst hcomp
  have hat2 : H[rho B od a]? = some (vp_cell (cy 4) (n, .inr (.inr (.inr (.inr (fun j => (f j).map (rho B od))))))) := hat
  obtain ⟨kC, hkC, -⟩ := hcls.2
  refine W.aast X.1.1 X.1.2.1 hat2 (fun q h => by cases h) (fun h => by cases h) k1 k2 rfl hkC ⟨h0, by show _ < (arrV _ _ _).slots.size; rw [arrV_size]; exact hlt9⟩ g1 (fun q h => by rw [g3] at h; cases h) (by rw [g2]; exact hkC) (by rw [g2]; exact va_assign hcls) rfl rfl (X.2.2.2.1.dec hi) fun H1 e9 z9 oq => ?_
  have h2 : va_at D vwCl (rho B od a, trE B od (.inl (cy 4, n, .inr (.inr (.inr (.inr (va_up f x.toNatClampNeg (some b)))))))) H1 := by
    show H1[rho B od a]? = some (vp_cell (cy 4) (n, .inr (.inr (.inr (.inr (fun j => (va_up f x.toNatClampNeg (some b) j).map (rho B od)))))))
    rw [e9]
    rw [vp_cell_q, vp_cell_q, arrV_store]
    congr 2
    funext q
    by_cases hq : q = x.toNatClampNeg
    · subst hq
      simp [updV, va_up, va_rf]
    · simp [updV, va_up, hq]
  have K := kk q2 hq2 H1 _ ls (hR.put hlt h2 z9 oq) (va_Sput (j := x.toNatClampNeg) hS hlt z9 oq) hl
  rw [e2] at K
  exact K
end CORE32
theorem aw_i : Cond.arrayClass .int ∈ lw_good := lw_good_in (n := 142) (by decide +kernel) rfl
theorem aw_z : Cond.arrayClass .boolean ∈ lw_good := lw_good_in (n := 272) (by decide +kernel) rfl
theorem aw_l : Cond.arrayClass .long ∈ lw_good := lw_good_in (n := 402) (by decide +kernel) rfl
theorem oiX1_3 : Cond.methodLink RX1 3 objectInit ∈ lw_good ∧ Cond.instanceMethod objectInit ∈ lw_good ∧ Cond.code objectInit ⟨#[0xb1]⟩ 1 none ∈ lw_good := ⟨lw_good_in (n := 234) (by decide +kernel) rfl, lw_good_in (n := 103) (by decide +kernel) rfl, lw_good_in (n := 104) (by decide +kernel) rfl⟩
theorem ffX1_9 : Cond.fieldLink RX1 9 (TX1 1).1 (TX1 1).2.1 (TX1 1).2.2.1 ∈ lw_good := lw_good_in (n := 238) (by decide +kernel) rfl
theorem ffX1_15 : Cond.fieldLink RX1 15 (TX1 2).1 (TX1 2).2.1 (TX1 2).2.2.1 ∈ lw_good := lw_good_in (n := 241) (by decide +kernel) rfl
theorem ffX1_18 : Cond.fieldLink RX1 18 (TX1 3).1 (TX1 3).2.1 (TX1 3).2.2.1 ∈ lw_good := lw_good_in (n := 243) (by decide +kernel) rfl
theorem ffX1_21 : Cond.fieldLink RX1 21 (TX1 4).1 (TX1 4).2.1 (TX1 4).2.2.1 ∈ lw_good := lw_good_in (n := 246) (by decide +kernel) rfl
theorem ffX1_24 : Cond.fieldLink RX1 24 (TX1 5).1 (TX1 5).2.1 (TX1 5).2.2.1 ∈ lw_good := lw_good_in (n := 248) (by decide +kernel) rfl
theorem ffX1_27 : Cond.fieldLink RX1 27 (TX1 6).1 (TX1 6).2.1 (TX1 6).2.2.1 ∈ lw_good := lw_good_in (n := 251) (by decide +kernel) rfl
theorem ffX1_31 : Cond.fieldLink RX1 31 (TX1 7).1 (TX1 7).2.1 (TX1 7).2.2.1 ∈ lw_good := lw_good_in (n := 253) (by decide +kernel) rfl
theorem oiX3_3 : Cond.methodLink RX3 3 objectInit ∈ lw_good ∧ Cond.instanceMethod objectInit ∈ lw_good ∧ Cond.code objectInit ⟨#[0xb1]⟩ 1 none ∈ lw_good := ⟨lw_good_in (n := 122) (by decide +kernel) rfl, lw_good_in (n := 103) (by decide +kernel) rfl, lw_good_in (n := 104) (by decide +kernel) rfl⟩
theorem ffX3_9 : Cond.fieldLink RX3 9 (TX3 1).1 (TX3 1).2.1 (TX3 1).2.2.1 ∈ lw_good := lw_good_in (n := 127) (by decide +kernel) rfl
theorem ffX3_15 : Cond.fieldLink RX3 15 (TX3 2).1 (TX3 2).2.1 (TX3 2).2.2.1 ∈ lw_good := lw_good_in (n := 129) (by decide +kernel) rfl
theorem ffX3_18 : Cond.fieldLink RX3 18 (TX3 3).1 (TX3 3).2.1 (TX3 3).2.2.1 ∈ lw_good := lw_good_in (n := 131) (by decide +kernel) rfl
theorem oiX0_3 : Cond.methodLink RX0 3 objectInit ∈ lw_good ∧ Cond.instanceMethod objectInit ∈ lw_good ∧ Cond.code objectInit ⟨#[0xb1]⟩ 1 none ∈ lw_good := ⟨lw_good_in (n := 280) (by decide +kernel) rfl, lw_good_in (n := 103) (by decide +kernel) rfl, lw_good_in (n := 104) (by decide +kernel) rfl⟩
theorem ffX0_9 : Cond.fieldLink RX0 9 (TX0 1).1 (TX0 1).2.1 (TX0 1).2.2.1 ∈ lw_good := lw_good_in (n := 284) (by decide +kernel) rfl
theorem ffX0_15 : Cond.fieldLink RX0 15 (TX0 2).1 (TX0 2).2.1 (TX0 2).2.2.1 ∈ lw_good := lw_good_in (n := 287) (by decide +kernel) rfl
theorem ffX0_18 : Cond.fieldLink RX0 18 (TX0 3).1 (TX0 3).2.1 (TX0 3).2.2.1 ∈ lw_good := lw_good_in (n := 290) (by decide +kernel) rfl
theorem ffX0_21 : Cond.fieldLink RX0 21 (TX0 4).1 (TX0 4).2.1 (TX0 4).2.2.1 ∈ lw_good := lw_good_in (n := 292) (by decide +kernel) rfl
theorem ffX0_24 : Cond.fieldLink RX0 24 (TX0 5).1 (TX0 5).2.1 (TX0 5).2.2.1 ∈ lw_good := lw_good_in (n := 294) (by decide +kernel) rfl
theorem ffX0_27 : Cond.fieldLink RX0 27 (TX0 6).1 (TX0 6).2.1 (TX0 6).2.2.1 ∈ lw_good := lw_good_in (n := 297) (by decide +kernel) rfl
theorem oiX6_3 : Cond.methodLink RX6 3 objectInit ∈ lw_good ∧ Cond.instanceMethod objectInit ∈ lw_good ∧ Cond.code objectInit ⟨#[0xb1]⟩ 1 none ∈ lw_good := ⟨lw_good_in (n := 228) (by decide +kernel) rfl, lw_good_in (n := 103) (by decide +kernel) rfl, lw_good_in (n := 104) (by decide +kernel) rfl⟩
theorem nwX6_9 : NWk RX6 9 RX1 TX1 8 tyX1 := ⟨inX1, tyX1_ok, lw_good_in (n := 229) (by decide +kernel) rfl, lw_good_in (n := 230) (by decide +kernel) rfl, lw_good_in (n := 68) (by decide +kernel) rfl⟩
theorem ffX6_12 : Cond.fieldLink RX6 12 (TX6 0).1 (TX6 0).2.1 (TX6 0).2.2.1 ∈ lw_good := lw_good_in (n := 315) (by decide +kernel) rfl
theorem nwX6_18 : NWk RX6 18 RX3 TX3 4 tyX3 := ⟨inX3, tyX3_ok, lw_good_in (n := 273) (by decide +kernel) rfl, lw_good_in (n := 118) (by decide +kernel) rfl, lw_good_in (n := 66) (by decide +kernel) rfl⟩
theorem ffX6_21 : Cond.fieldLink RX6 21 (TX6 1).1 (TX6 1).2.1 (TX6 1).2.2.1 ∈ lw_good := lw_good_in (n := 317) (by decide +kernel) rfl
theorem nwX6_25 : NWk RX6 25 RX0 TX0 7 tyX0 := ⟨inX0, tyX0_ok, lw_good_in (n := 275) (by decide +kernel) rfl, lw_good_in (n := 276) (by decide +kernel) rfl, lw_good_in (n := 69) (by decide +kernel) rfl⟩
theorem ffX6_28 : Cond.fieldLink RX6 28 (TX6 2).1 (TX6 2).2.1 (TX6 2).2.2.1 ∈ lw_good := lw_good_in (n := 319) (by decide +kernel) rfl
theorem ffX6_32 : Cond.fieldLink RX6 32 (TX6 3).1 (TX6 3).2.1 (TX6 3).2.2.1 ∈ lw_good := lw_good_in (n := 321) (by decide +kernel) rfl
theorem oiX4_3 : Cond.methodLink RX4 3 objectInit ∈ lw_good ∧ Cond.instanceMethod objectInit ∈ lw_good ∧ Cond.code objectInit ⟨#[0xb1]⟩ 1 none ∈ lw_good := ⟨lw_good_in (n := 116) (by decide +kernel) rfl, lw_good_in (n := 103) (by decide +kernel) rfl, lw_good_in (n := 104) (by decide +kernel) rfl⟩
theorem ffX4_9 : Cond.fieldLink RX4 9 (TX4 6).1 (TX4 6).2.1 (TX4 6).2.2.1 ∈ lw_good := lw_good_in (n := 163) (by decide +kernel) rfl
theorem ffX4_15 : Cond.fieldLink RX4 15 (TX4 7).1 (TX4 7).2.1 (TX4 7).2.2.1 ∈ lw_good := lw_good_in (n := 164) (by decide +kernel) rfl
theorem nwX4_18 : NWk RX4 18 RX3 TX3 4 tyX3 := ⟨inX3, tyX3_ok, lw_good_in (n := 117) (by decide +kernel) rfl, lw_good_in (n := 118) (by decide +kernel) rfl, lw_good_in (n := 66) (by decide +kernel) rfl⟩
theorem ffX4_21 : Cond.fieldLink RX4 21 (TX4 8).1 (TX4 8).2.1 (TX4 8).2.2.1 ∈ lw_good := lw_good_in (n := 165) (by decide +kernel) rfl
theorem oiX5_3 : Cond.methodLink RX5 3 objectInit ∈ lw_good ∧ Cond.instanceMethod objectInit ∈ lw_good ∧ Cond.code objectInit ⟨#[0xb1]⟩ 1 none ∈ lw_good := ⟨lw_good_in (n := 110) (by decide +kernel) rfl, lw_good_in (n := 103) (by decide +kernel) rfl, lw_good_in (n := 104) (by decide +kernel) rfl⟩
theorem ffX5_9 : Cond.fieldLink RX5 9 (TX5 0).1 (TX5 0).2.1 (TX5 0).2.2.1 ∈ lw_good := lw_good_in (n := 187) (by decide +kernel) rfl
theorem nwX5_15 : NWk RX5 15 RX4 TX4 9 tyX4 := ⟨inX4, tyX4_ok, lw_good_in (n := 111) (by decide +kernel) rfl, lw_good_in (n := 112) (by decide +kernel) rfl, lw_good_in (n := 65) (by decide +kernel) rfl⟩
theorem oiX2_3 : Cond.methodLink RX2 3 objectInit ∈ lw_good ∧ Cond.instanceMethod objectInit ∈ lw_good ∧ Cond.code objectInit ⟨#[0xb1]⟩ 1 none ∈ lw_good := ⟨lw_good_in (n := 345) (by decide +kernel) rfl, lw_good_in (n := 103) (by decide +kernel) rfl, lw_good_in (n := 104) (by decide +kernel) rfl⟩
theorem clX2_9 : Cond.classLink RX2 9 RX6 ∈ lw_good := lw_good_in (n := 346) (by decide +kernel) rfl
theorem ffX2_11 : Cond.fieldLink RX2 11 (TX2 0).1 (TX2 0).2.1 (TX2 0).2.2.1 ∈ lw_good := lw_good_in (n := 349) (by decide +kernel) rfl
theorem oiX7_3 : Cond.methodLink RX7 3 objectInit ∈ lw_good ∧ Cond.instanceMethod objectInit ∈ lw_good ∧ Cond.code objectInit ⟨#[0xb1]⟩ 1 none ∈ lw_good := ⟨lw_good_in (n := 102) (by decide +kernel) rfl, lw_good_in (n := 103) (by decide +kernel) rfl, lw_good_in (n := 104) (by decide +kernel) rfl⟩
theorem ffX7_9 : Cond.fieldLink RX7 9 (TX7 0).1 (TX7 0).2.1 (TX7 0).2.2.1 ∈ lw_good := lw_good_in (n := 374) (by decide +kernel) rfl
theorem nwX7_13 : NWk RX7 13 RX5 TX5 11 tyX5 := ⟨inX5, tyX5_ok, lw_good_in (n := 105) (by decide +kernel) rfl, lw_good_in (n := 106) (by decide +kernel) rfl, lw_good_in (n := 64) (by decide +kernel) rfl⟩
theorem ffX7_16 : Cond.fieldLink RX7 16 (TX7 2).1 (TX7 2).2.1 (TX7 2).2.2.1 ∈ lw_good := lw_good_in (n := 376) (by decide +kernel) rfl
theorem nwX7_20 : NWk RX7 20 RX4 TX4 9 tyX4 := ⟨inX4, tyX4_ok, lw_good_in (n := 221) (by decide +kernel) rfl, lw_good_in (n := 112) (by decide +kernel) rfl, lw_good_in (n := 65) (by decide +kernel) rfl⟩
theorem nwX7_27 : NWk RX7 27 RX6 TX6 6 tyX6 := ⟨inX6, tyX6_ok, lw_good_in (n := 223) (by decide +kernel) rfl, lw_good_in (n := 224) (by decide +kernel) rfl, lw_good_in (n := 67) (by decide +kernel) rfl⟩
theorem ffX7_30 : Cond.fieldLink RX7 30 (TX7 4).1 (TX7 4).2.1 (TX7 4).2.2.1 ∈ lw_good := lw_good_in (n := 378) (by decide +kernel) rfl
theorem ffX7_34 : Cond.fieldLink RX7 34 (TX7 5).1 (TX7 5).2.1 (TX7 5).2.2.1 ∈ lw_good := lw_good_in (n := 379) (by decide +kernel) rfl
theorem nwX7_37 : NWk RX7 37 RX2 TX2 3 tyX2 := ⟨inX2, tyX2_ok, lw_good_in (n := 340) (by decide +kernel) rfl, lw_good_in (n := 341) (by decide +kernel) rfl, lw_good_in (n := 70) (by decide +kernel) rfl⟩
theorem ffX7_40 : Cond.fieldLink RX7 40 (TX7 7).1 (TX7 7).2.1 (TX7 7).2.2.1 ∈ lw_good := lw_good_in (n := 381) (by decide +kernel) rfl
theorem ffX7_44 : Cond.fieldLink RX7 44 (TX7 8).1 (TX7 8).2.1 (TX7 8).2.2.1 ∈ lw_good := lw_good_in (n := 382) (by decide +kernel) rfl
set_option maxRecDepth 100000 in
set_option maxHeartbeats 400000 in
theorem ci_X1_init (l : Launch) (D : va_G) (cy : Nat → ClassId) (B : Nat) (od : Nat → Option Nat) {A : AH} {b : Nat} (hb : b < 1000) (h : A b = some (.inr (1, [.int (nI 0), .null, .null, .null, .null, .null, .null, .null]))) : CT l D cy B od yX1_init cX1_init 1 none rmX1_init [.ref b] A ((b + 1) + 1) (fun v A' z' => v = none ∧ z' = (b + 8) + 1 ∧ (fun A' => (∀ k, k < b → A' k = A k) ∧ EntA cy A' b (0, fun _ _ => 0)) A') := by
  refine CT.of (by decide) tX1_init okX1_init (Nat.le_of_ble_eq_true rfl) (q0 := tX1_init[0]) rfl rfl ?_
  intro p e s m args below meth c X hnm
  refine g_aload_n X rfl rfl ?_
  refine g_objInit X rfl oiX1_3 (by decide) (Nat.le_of_ble_eq_true rfl) (by decide) ?_
  refine g_aload_n X rfl rfl ?_
  refine g_bipush X rfl (v := nI 60) (by decide) ?_
  refine g_newai X rfl aw_i (N := 60) (by decide) (by decide) (by decide) (by omega) (Nat.le_of_ble_eq_true rfl) (Nat.le_of_ble_eq_true rfl) ?_
  refine g_putF X rfl flX1_9 rfl hnm rfl ffX1_9 (ci := 1) rfl (by (repeat (first | exact h | exact upA_eq | refine (upA_ne (by omega)).trans ?_))) (Nat.le_of_ble_eq_true rfl) (by rfl) (by rfl) ?_
  refine g_aload_n X rfl rfl ?_
  refine g_bipush X rfl (v := nI 60) (by decide) ?_
  refine g_newai X rfl aw_i (N := 60) (by decide) (by decide) (by decide) (by omega) (Nat.le_of_ble_eq_true rfl) (Nat.le_of_ble_eq_true rfl) ?_
  refine g_putF X rfl flX1_15 rfl hnm rfl ffX1_15 (ci := 1) rfl (by (repeat (first | exact h | exact upA_eq | refine (upA_ne (by omega)).trans ?_))) (Nat.le_of_ble_eq_true rfl) (by rfl) (by rfl) ?_
  refine g_aload_n X rfl rfl ?_
  refine g_bipush X rfl (v := nI 60) (by decide) ?_
  refine g_newai X rfl aw_i (N := 60) (by decide) (by decide) (by decide) (by omega) (Nat.le_of_ble_eq_true rfl) (Nat.le_of_ble_eq_true rfl) ?_
  refine g_putF X rfl flX1_18 rfl hnm rfl ffX1_18 (ci := 1) rfl (by (repeat (first | exact h | exact upA_eq | refine (upA_ne (by omega)).trans ?_))) (Nat.le_of_ble_eq_true rfl) (by rfl) (by rfl) ?_
  refine g_aload_n X rfl rfl ?_
  refine g_bipush X rfl (v := nI 60) (by decide) ?_
  refine g_newai X rfl aw_i (N := 60) (by decide) (by decide) (by decide) (by omega) (Nat.le_of_ble_eq_true rfl) (Nat.le_of_ble_eq_true rfl) ?_
  refine g_putF X rfl flX1_21 rfl hnm rfl ffX1_21 (ci := 1) rfl (by (repeat (first | exact h | exact upA_eq | refine (upA_ne (by omega)).trans ?_))) (Nat.le_of_ble_eq_true rfl) (by rfl) (by rfl) ?_
  refine g_aload_n X rfl rfl ?_
  refine g_bipush X rfl (v := nI 60) (by decide) ?_
  refine g_newai X rfl aw_i (N := 60) (by decide) (by decide) (by decide) (by omega) (Nat.le_of_ble_eq_true rfl) (Nat.le_of_ble_eq_true rfl) ?_
  refine g_putF X rfl flX1_24 rfl hnm rfl ffX1_24 (ci := 1) rfl (by (repeat (first | exact h | exact upA_eq | refine (upA_ne (by omega)).trans ?_))) (Nat.le_of_ble_eq_true rfl) (by rfl) (by rfl) ?_
  refine g_aload_n X rfl rfl ?_
  refine g_bipush X rfl (v := nI 60) (by decide) ?_
  refine g_newaz X rfl aw_z (N := 60) (by decide) (by decide) (by decide) (by omega) (Nat.le_of_ble_eq_true rfl) (Nat.le_of_ble_eq_true rfl) ?_
  refine g_putF X rfl flX1_27 rfl hnm rfl ffX1_27 (ci := 1) rfl (by (repeat (first | exact h | exact upA_eq | refine (upA_ne (by omega)).trans ?_))) (Nat.le_of_ble_eq_true rfl) (by rfl) (by rfl) ?_
  refine g_aload_n X rfl rfl ?_
  refine g_bipush X rfl (v := nI 60) (by decide) ?_
  refine g_newaz X rfl aw_z (N := 60) (by decide) (by decide) (by decide) (by omega) (Nat.le_of_ble_eq_true rfl) (Nat.le_of_ble_eq_true rfl) ?_
  refine g_putF X rfl flX1_31 rfl hnm rfl ffX1_31 (ci := 1) rfl (by (repeat (first | exact h | exact upA_eq | refine (upA_ne (by omega)).trans ?_))) (Nat.le_of_ble_eq_true rfl) (by rfl) (by rfl) ?_
  refine g_vret X rfl rfl (Nat.le_of_ble_eq_true rfl) (Nat.le_of_ble_eq_true rfl) ⟨rfl, rfl, ?_⟩
  exact ⟨fun k hk => (by repeat (first | rfl | refine (upA_ne (by omega)).trans ?_)), ⟨(by (repeat (first | exact upA_eq | refine (upA_ne (by omega)).trans ?_))), (by (repeat (first | exact upA_eq | refine (upA_ne (by omega)).trans ?_))), (by (repeat (first | exact upA_eq | refine (upA_ne (by omega)).trans ?_))), (by (repeat (first | exact upA_eq | refine (upA_ne (by omega)).trans ?_))), (by (repeat (first | exact upA_eq | refine (upA_ne (by omega)).trans ?_))), (by (repeat (first | exact upA_eq | refine (upA_ne (by omega)).trans ?_))), (by (repeat (first | exact upA_eq | refine (upA_ne (by omega)).trans ?_))), (by (repeat (first | exact upA_eq | refine (upA_ne (by omega)).trans ?_)))⟩⟩
set_option maxRecDepth 100000 in
set_option maxHeartbeats 400000 in
theorem ci_X3_init (l : Launch) (D : va_G) (cy : Nat → ClassId) (B : Nat) (od : Nat → Option Nat) {A : AH} {b : Nat} (hb : b < 1000) (h : A b = some (.inr (3, [.int (nI 0), .null, .null, .null]))) : CT l D cy B od yX3_init cX3_init 1 none rmX3_init [.ref b] A ((b + 1) + 1) (fun v A' z' => v = none ∧ z' = (b + 4) + 1 ∧ (fun A' => (∀ k, k < b → A' k = A k) ∧ RoomA cy A' b (0, fun _ _ => 0)) A') := by
  refine CT.of (by decide) tX3_init okX3_init (Nat.le_of_ble_eq_true rfl) (q0 := tX3_init[0]) rfl rfl ?_
  intro p e s m args below meth c X hnm
  refine g_aload_n X rfl rfl ?_
  refine g_objInit X rfl oiX3_3 (by decide) (Nat.le_of_ble_eq_true rfl) (by decide) ?_
  refine g_aload_n X rfl rfl ?_
  refine g_bipush X rfl (v := nI 6) (by decide) ?_
  refine g_newai X rfl aw_i (N := 6) (by decide) (by decide) (by decide) (by omega) (Nat.le_of_ble_eq_true rfl) (Nat.le_of_ble_eq_true rfl) ?_
  refine g_putF X rfl flX3_9 rfl hnm rfl ffX3_9 (ci := 3) rfl (by (repeat (first | exact h | exact upA_eq | refine (upA_ne (by omega)).trans ?_))) (Nat.le_of_ble_eq_true rfl) (by rfl) (by rfl) ?_
  refine g_aload_n X rfl rfl ?_
  refine g_bipush X rfl (v := nI 6) (by decide) ?_
  refine g_newai X rfl aw_i (N := 6) (by decide) (by decide) (by decide) (by omega) (Nat.le_of_ble_eq_true rfl) (Nat.le_of_ble_eq_true rfl) ?_
  refine g_putF X rfl flX3_15 rfl hnm rfl ffX3_15 (ci := 3) rfl (by (repeat (first | exact h | exact upA_eq | refine (upA_ne (by omega)).trans ?_))) (Nat.le_of_ble_eq_true rfl) (by rfl) (by rfl) ?_
  refine g_aload_n X rfl rfl ?_
  refine g_bipush X rfl (v := nI 6) (by decide) ?_
  refine g_newai X rfl aw_i (N := 6) (by decide) (by decide) (by decide) (by omega) (Nat.le_of_ble_eq_true rfl) (Nat.le_of_ble_eq_true rfl) ?_
  refine g_putF X rfl flX3_18 rfl hnm rfl ffX3_18 (ci := 3) rfl (by (repeat (first | exact h | exact upA_eq | refine (upA_ne (by omega)).trans ?_))) (Nat.le_of_ble_eq_true rfl) (by rfl) (by rfl) ?_
  refine g_vret X rfl rfl (Nat.le_of_ble_eq_true rfl) (Nat.le_of_ble_eq_true rfl) ⟨rfl, rfl, ?_⟩
  exact ⟨fun k hk => (by repeat (first | rfl | refine (upA_ne (by omega)).trans ?_)), ⟨(by (repeat (first | exact upA_eq | refine (upA_ne (by omega)).trans ?_))), (by (repeat (first | exact upA_eq | refine (upA_ne (by omega)).trans ?_))), (by (repeat (first | exact upA_eq | refine (upA_ne (by omega)).trans ?_))), (by (repeat (first | exact upA_eq | refine (upA_ne (by omega)).trans ?_)))⟩⟩
set_option maxRecDepth 100000 in
set_option maxHeartbeats 400000 in
theorem ci_X0_init (l : Launch) (D : va_G) (cy : Nat → ClassId) (B : Nat) (od : Nat → Option Nat) {A : AH} {b : Nat} (hb : b < 1000) (h : A b = some (.inr (0, [.int (nI 0), .null, .null, .null, .null, .null, .null]))) : CT l D cy B od yX0_init cX0_init 1 none rmX0_init [.ref b] A ((b + 1) + 1) (fun v A' z' => v = none ∧ z' = (b + 7) + 1 ∧ (fun A' => (∀ k, k < b → A' k = A k) ∧ AssA cy A' b (0, fun _ _ => 0)) A') := by
  refine CT.of (by decide) tX0_init okX0_init (Nat.le_of_ble_eq_true rfl) (q0 := tX0_init[0]) rfl rfl ?_
  intro p e s m args below meth c X hnm
  refine g_aload_n X rfl rfl ?_
  refine g_objInit X rfl oiX0_3 (by decide) (Nat.le_of_ble_eq_true rfl) (by decide) ?_
  refine g_aload_n X rfl rfl ?_
  refine g_bipush X rfl (v := nI 12) (by decide) ?_
  refine g_newai X rfl aw_i (N := 12) (by decide) (by decide) (by decide) (by omega) (Nat.le_of_ble_eq_true rfl) (Nat.le_of_ble_eq_true rfl) ?_
  refine g_putF X rfl flX0_9 rfl hnm rfl ffX0_9 (ci := 0) rfl (by (repeat (first | exact h | exact upA_eq | refine (upA_ne (by omega)).trans ?_))) (Nat.le_of_ble_eq_true rfl) (by rfl) (by rfl) ?_
  refine g_aload_n X rfl rfl ?_
  refine g_bipush X rfl (v := nI 12) (by decide) ?_
  refine g_newai X rfl aw_i (N := 12) (by decide) (by decide) (by decide) (by omega) (Nat.le_of_ble_eq_true rfl) (Nat.le_of_ble_eq_true rfl) ?_
  refine g_putF X rfl flX0_15 rfl hnm rfl ffX0_15 (ci := 0) rfl (by (repeat (first | exact h | exact upA_eq | refine (upA_ne (by omega)).trans ?_))) (Nat.le_of_ble_eq_true rfl) (by rfl) (by rfl) ?_
  refine g_aload_n X rfl rfl ?_
  refine g_bipush X rfl (v := nI 12) (by decide) ?_
  refine g_newai X rfl aw_i (N := 12) (by decide) (by decide) (by decide) (by omega) (Nat.le_of_ble_eq_true rfl) (Nat.le_of_ble_eq_true rfl) ?_
  refine g_putF X rfl flX0_18 rfl hnm rfl ffX0_18 (ci := 0) rfl (by (repeat (first | exact h | exact upA_eq | refine (upA_ne (by omega)).trans ?_))) (Nat.le_of_ble_eq_true rfl) (by rfl) (by rfl) ?_
  refine g_aload_n X rfl rfl ?_
  refine g_bipush X rfl (v := nI 12) (by decide) ?_
  refine g_newai X rfl aw_i (N := 12) (by decide) (by decide) (by decide) (by omega) (Nat.le_of_ble_eq_true rfl) (Nat.le_of_ble_eq_true rfl) ?_
  refine g_putF X rfl flX0_21 rfl hnm rfl ffX0_21 (ci := 0) rfl (by (repeat (first | exact h | exact upA_eq | refine (upA_ne (by omega)).trans ?_))) (Nat.le_of_ble_eq_true rfl) (by rfl) (by rfl) ?_
  refine g_aload_n X rfl rfl ?_
  refine g_bipush X rfl (v := nI 12) (by decide) ?_
  refine g_newai X rfl aw_i (N := 12) (by decide) (by decide) (by decide) (by omega) (Nat.le_of_ble_eq_true rfl) (Nat.le_of_ble_eq_true rfl) ?_
  refine g_putF X rfl flX0_24 rfl hnm rfl ffX0_24 (ci := 0) rfl (by (repeat (first | exact h | exact upA_eq | refine (upA_ne (by omega)).trans ?_))) (Nat.le_of_ble_eq_true rfl) (by rfl) (by rfl) ?_
  refine g_aload_n X rfl rfl ?_
  refine g_bipush X rfl (v := nI 12) (by decide) ?_
  refine g_newai X rfl aw_i (N := 12) (by decide) (by decide) (by decide) (by omega) (Nat.le_of_ble_eq_true rfl) (Nat.le_of_ble_eq_true rfl) ?_
  refine g_putF X rfl flX0_27 rfl hnm rfl ffX0_27 (ci := 0) rfl (by (repeat (first | exact h | exact upA_eq | refine (upA_ne (by omega)).trans ?_))) (Nat.le_of_ble_eq_true rfl) (by rfl) (by rfl) ?_
  refine g_vret X rfl rfl (Nat.le_of_ble_eq_true rfl) (Nat.le_of_ble_eq_true rfl) ⟨rfl, rfl, ?_⟩
  exact ⟨fun k hk => (by repeat (first | rfl | refine (upA_ne (by omega)).trans ?_)), ⟨(by (repeat (first | exact upA_eq | refine (upA_ne (by omega)).trans ?_))), (by (repeat (first | exact upA_eq | refine (upA_ne (by omega)).trans ?_))), (by (repeat (first | exact upA_eq | refine (upA_ne (by omega)).trans ?_))), (by (repeat (first | exact upA_eq | refine (upA_ne (by omega)).trans ?_))), (by (repeat (first | exact upA_eq | refine (upA_ne (by omega)).trans ?_))), (by (repeat (first | exact upA_eq | refine (upA_ne (by omega)).trans ?_))), (by (repeat (first | exact upA_eq | refine (upA_ne (by omega)).trans ?_)))⟩⟩
