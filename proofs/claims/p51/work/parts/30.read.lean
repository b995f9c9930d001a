/-! 30: the reader: a whole text; errorPosition -/
theorem nI_sur (x : Int32) : ∃ n, nI n = x := ⟨x.toBitVec.toNat, by apply Int32.toBitVec_inj.mp; show BitVec.ofNat 32 x.toBitVec.toNat = _; simp⟩
/-- nothing but the reader, its text and its target changed -/
def PFr3 (A A' : AH) (t : Nat) : Prop := ∀ k, k ≠ 2 → k ≠ 3 → (k < t ∨ t + 7 ≤ k) → A' k = A k
theorem PFr.to3 {A A' A2 : AH} {t : Nat} (h : PFr3 A A' t) (h2 : PFr A' A2 t) : PFr3 A A2 t := fun k h3 h4 h5 => (h2 k h3 h5).trans (h k h3 h4 h5)
abbrev rdI (t len : Nat) (pos kd ts nm : Int32) (fl : FL4) : va_E := .inr (5, [.ref 3, .int (nI len), .int pos, .int kd, .int ts, .int nm, .ref t, .int fl.1, .int fl.2.1, .int fl.2.2.1, .int fl.2.2.2])
theorem cpyT {A : AH} {cy : Nat → ClassId} {f : Nat → Int32} (h : A 3 = some (.inl (cy 0, 400, .inl f))) : upA A 3 (.inl (cy 0, 400, .inl f)) = A := upA_same h
set_option maxRecDepth 100000 in
set_option maxHeartbeats 400000 in
theorem lp_X5_begin (l : Launch) (D : va_G) (cy : Nat → ClassId) (B : Nat) (od : Nat → Option Nat) {p : Program} {e : Env} {s : State} {m : MethodId} {args : Array Value} {below : List Frame} {meth : Method} {c : Code} {A : AH} {z : Nat} {t len : Nat} {len0 pos kd ts nm : Int32} {fl : FL4} {tx0 buf : Nat → Int32} {Z : SV} {Rm : RV} (hr : A 2 = some (.inr (5, [.ref 3, .int len0, .int pos, .int kd, .int ts, .int nm, .ref t, .int fl.1, .int fl.2.1, .int fl.2.2.1, .int fl.2.2.2]))) (htx : A 3 = some (.inl (cy 0, 400, .inl tx0))) (hS9 : SetA cy A t Z) (hR9 : RoomA cy A (t + 3) Rm) (hby : A 1 = some (.inl (cy 0, 400, .inl buf))) (hlen : len ≤ 400) (ht : t = 4 ∨ t = 11) (X : Cx p s m args meth c D cy B od cX5_begin 4 tX5_begin RX5 none) : ∀ (k i : Nat) (f9 : Nat → Int32) (hal : ∀ q, q < i → f9 q = buf q), 0 ≤ i → i ≤ len → len - i < k → G p l e rmX5_begin s m args below meth c D B od 4 tX5_begin (FinQ false D B od (fun v A' z' => z' = z ∧ (fun v A' => v = none ∧ ∃ tx : Nat → Int32, (∀ j, j < len → tx j = buf j) ∧ PFr3 A A' t ∧ A' 2 = some (rdI t len (nI 0) kd ts nm (nI 0, nI 0, nI 0, nI 0)) ∧ A' 3 = some (.inl (cy 0, 400, .inl tx)) ∧ SetA cy A' t (zDef Z) ∧ RoomA cy A' (t + 3) (0, Rm.2)) v A') (fun _ _ => True) args s below rmX5_begin.cells rmX5_begin.slots) 0 0 (upA (upA A 2 (rdI t len pos kd ts nm fl)) 3 (.inl (cy 0, 400, .inl f9))) z 10 [some (.ref 2), some (.ref 1), some (.int (nI len)), some (.int (nI i))] [] := by
  intro k
  induction k with
  | zero => intro i _ _ _ _ h; omega
  | succ k ih =>
    intro i f9 hal hlo hi hk
    have hr : (upA (upA A 2 (rdI t len pos kd ts nm fl)) 3 (.inl (cy 0, 400, .inl f9))) 2 = some (rdI t len pos kd ts nm fl) := (upA_ne (by decide)).trans upA_eq
    have htx : (upA (upA A 2 (rdI t len pos kd ts nm fl)) 3 (.inl (cy 0, 400, .inl f9))) 3 = some (.inl (cy 0, 400, .inl f9)) := upA_eq
    have hby : (upA (upA A 2 (rdI t len pos kd ts nm fl)) 3 (.inl (cy 0, 400, .inl f9))) 1 = some (.inl (cy 0, 400, .inl buf)) := (upA_ne (by decide)).trans ((upA_ne (by decide)).trans hby)
    have hS9 := hS9.same (A' := (upA (upA A 2 (rdI t len pos kd ts nm fl)) 3 (.inl (cy 0, 400, .inl f9)))) (fun k _ _ => (upA_ne (by omega)).trans (upA_ne (by omega)))
    have hR9 := hR9.same (A' := (upA (upA A 2 (rdI t len pos kd ts nm fl)) 3 (.inl (cy 0, 400, .inl f9)))) (fun k _ _ => (upA_ne (by omega)).trans (upA_ne (by omega)))
    refine g_iload_n X rfl rfl ?_
    refine g_aload_n X rfl rfl ?_
    refine g_get X rfl flX5_46 (ci := 5) rfl (by (repeat (first | exact hr | exact upA_eq | refine (upA_ne (by omega)).trans ?_ | refine (f5 _ (by omega)).trans ?_))) rfl ?_
    first | refine g_ic_geN X rfl (by omega) (by omega) (fun h1 => ?_) (fun h1 => ?_) | refine g_icmp_ge X rfl (fun h1 => ?_) (fun h1 => ?_)
    · refine g_aload_n X rfl rfl ?_
      refine g_get X rfl flX5_18 (ci := 5) rfl (by (repeat (first | exact hr | exact upA_eq | refine (upA_ne (by omega)).trans ?_ | refine (f5 _ (by omega)).trans ?_))) rfl ?_
      refine g_mVN X rfl lcX4_useDefaults lnX5_49 lsX4_useDefaults (cm_X4_useDefaults l D cy B od hS9 hR9) (ci := 4) (by (repeat (first | exact hS9.1 | exact upA_eq | refine (upA_ne (by omega)).trans ?_ | refine (f5 _ (by omega)).trans ?_))) rfl rfl rfl (Nat.le_of_ble_eq_true rfl) ⟨⟨by decide, by decide⟩, rfl, rfl⟩ ⟨Nat.le_of_ble_eq_true rfl, Nat.le_of_ble_eq_true rfl⟩ (fun v2 A2 q2 => ?_)
      obtain ⟨rfl, f5, E5, E6⟩ := q2
      refine g_aload_n X rfl rfl ?_
      refine g_iconst X rfl (v := nI 0) (by decide) ?_
      refine g_put X rfl flX5_52 rfl (ci := 5) rfl (by (repeat (first | exact hr | exact upA_eq | refine (upA_ne (by omega)).trans ?_ | refine (f5 _ (by omega)).trans ?_))) (Nat.le_of_ble_eq_true rfl) (show narrow .boolean (.int (nI 0)) = .int (nI 0) from by decide) (by first | rfl | decide) ?_
      refine g_aload_n X rfl rfl ?_
      refine g_iconst X rfl (v := nI 0) (by decide) ?_
      refine g_put X rfl flX5_56 rfl (ci := 5) rfl (by (repeat (first | exact hr | exact upA_eq | refine (upA_ne (by omega)).trans ?_ | refine (f5 _ (by omega)).trans ?_))) (Nat.le_of_ble_eq_true rfl) (show narrow .boolean (.int (nI 0)) = .int (nI 0) from by decide) (by first | rfl | decide) ?_
      refine g_aload_n X rfl rfl ?_
      refine g_iconst X rfl (v := nI 0) (by decide) ?_
      refine g_put X rfl flX5_59 rfl (ci := 5) rfl (by (repeat (first | exact hr | exact upA_eq | refine (upA_ne (by omega)).trans ?_ | refine (f5 _ (by omega)).trans ?_))) (Nat.le_of_ble_eq_true rfl) (show narrow .boolean (.int (nI 0)) = .int (nI 0) from by decide) (by first | rfl | decide) ?_
      refine g_aload_n X rfl rfl ?_
      refine g_iconst X rfl (v := nI 0) (by decide) ?_
      refine g_put X rfl flX5_62 rfl (ci := 5) rfl (by (repeat (first | exact hr | exact upA_eq | refine (upA_ne (by omega)).trans ?_ | refine (f5 _ (by omega)).trans ?_))) (Nat.le_of_ble_eq_true rfl) (show narrow .boolean (.int (nI 0)) = .int (nI 0) from by decide) (by first | rfl | decide) ?_
      refine g_aload_n X rfl rfl ?_
      refine g_iconst X rfl (v := nI 0) (by decide) ?_
      refine g_put X rfl flX5_65 rfl (ci := 5) rfl (by (repeat (first | exact hr | exact upA_eq | refine (upA_ne (by omega)).trans ?_ | refine (f5 _ (by omega)).trans ?_))) (Nat.le_of_ble_eq_true rfl) (by first | rfl | exact bI_nar _) (by first | rfl | decide) ?_
      refine g_vret X rfl rfl (Nat.le_of_ble_eq_true rfl) (Nat.le_of_ble_eq_true rfl) ⟨rfl, ?_⟩
      refine ⟨rfl, f9, fun j hj => hal j (by omega), fun k h2 h3 h4 => ?_, ?_, ?_, ?_, ?_⟩
      · (repeat (refine (upA_ne h2).trans ?_)); exact (f5 k h4).trans ((upA_ne h3).trans (upA_ne h2))
      · exact upA_eq
      · (repeat (refine (upA_ne (by decide)).trans ?_)); exact (f5 3 (by omega)).trans upA_eq
      · exact E5.same (fun k _ _ => by repeat (first | rfl | refine (upA_ne (by omega)).trans ?_))
      · exact E6.same (fun k _ _ => by repeat (first | rfl | refine (upA_ne (by omega)).trans ?_))
    · refine g_aload_n X rfl rfl ?_
      refine g_get X rfl flX5_9 (ci := 5) rfl (by (repeat (first | exact hr | exact upA_eq | refine (upA_ne (by omega)).trans ?_ | refine (f5 _ (by omega)).trans ?_))) rfl ?_
      refine g_iload_n X rfl rfl ?_
      refine g_aload_n X rfl rfl ?_
      refine g_iload_n X rfl rfl ?_
      refine g_ialdN X rfl (by (repeat (first | exact hby | exact upA_eq | refine (upA_ne (by omega)).trans ?_ | refine (f5 _ (by omega)).trans ?_))) (by omega) (by decide) ?_
      refine g_iastN X rfl (by (repeat (first | exact htx | exact upA_eq | refine (upA_ne (by omega)).trans ?_ | refine (f5 _ (by omega)).trans ?_))) (by omega) (by decide) ?_
      rw [upA_up]
      refine g_iinc1 X rfl rfl (by decide) ?_
      refine g_goto X rfl ?_
      refine ih (i + 1) (upd f9 i (buf i)) (fun q hq => ?_) (by omega) (by omega) (by omega)
      by_cases e : q = i
      · subst e; exact pk_us
      · exact (pk_un e).trans (hal q (by omega))
set_option maxRecDepth 100000 in
set_option maxHeartbeats 400000 in
theorem cm_X5_begin (l : Launch) (D : va_G) (cy : Nat → ClassId) (B : Nat) (od : Nat → Option Nat) {A : AH} {t len : Nat} {len0 pos kd ts nm : Int32} {fl : FL4} {tx0 buf : Nat → Int32} {Z : SV} {Rm : RV} (hr : A 2 = some (.inr (5, [.ref 3, .int len0, .int pos, .int kd, .int ts, .int nm, .ref t, .int fl.1, .int fl.2.1, .int fl.2.2.1, .int fl.2.2.2]))) (htx : A 3 = some (.inl (cy 0, 400, .inl tx0))) (hS9 : SetA cy A t Z) (hR9 : RoomA cy A (t + 3) Rm) (hby : A 1 = some (.inl (cy 0, 400, .inl buf))) (hlen : len ≤ 400) (ht : t = 4 ∨ t = 11) : CM l D cy B od yX5_begin cX5_begin 4 none rmX5_begin [.ref 2, .ref 1, .int (nI len)] A (fun v A' => v = none ∧ ∃ tx : Nat → Int32, (∀ j, j < len → tx j = buf j) ∧ PFr3 A A' t ∧ A' 2 = some (rdI t len (nI 0) kd ts nm (nI 0, nI 0, nI 0, nI 0)) ∧ A' 3 = some (.inl (cy 0, 400, .inl tx)) ∧ SetA cy A' t (zDef Z) ∧ RoomA cy A' (t + 3) (0, Rm.2)) := by
  intro z
  refine CT.of (by decide) tX5_begin okX5_begin (Nat.le_of_ble_eq_true rfl) (q0 := tX5_begin[0]) rfl rfl ?_
  intro p e s m args below meth c X _
  refine g_aload_n X rfl rfl ?_
  refine g_iload_n X rfl rfl ?_
  refine g_aload_n X rfl rfl ?_
  refine g_alen X rfl (t0 := 0) (x := .inl _) rfl (by (repeat (first | exact hby | exact upA_eq | refine (upA_ne (by omega)).trans ?_))) ?_
  refine g_sipush X rfl (v := nI 400) (by decide) ?_
  refine g_m_min_i X rfl lmX5_40 (Nat.le_of_ble_eq_true rfl) ⟨by decide, by decide⟩ ⟨Nat.le_of_ble_eq_true rfl, Nat.le_of_ble_eq_true rfl⟩ ?_
  rw [show (if nI 400 < nI 400 then nI 400 else nI 400) = nI 400 from by decide]
  refine g_m_min_i X rfl lmX5_40 (Nat.le_of_ble_eq_true rfl) ⟨by decide, by decide⟩ ⟨Nat.le_of_ble_eq_true rfl, Nat.le_of_ble_eq_true rfl⟩ ?_
  rw [if_neg (show ¬ nI 400 < nI len from fun q => absurd ((nI_ltI (by decide) (by omega)).mp q) (by omega))]
  refine g_put X rfl flX5_46 rfl (ci := 5) rfl (by (repeat (first | exact hr | exact upA_eq | refine (upA_ne (by omega)).trans ?_))) (Nat.le_of_ble_eq_true rfl) (by first | rfl | exact bI_nar _) (by first | rfl | decide) ?_
  refine g_iconst X rfl (v := nI 0) (by decide) ?_
  refine g_istore_n X rfl (by decide) ?_
  refine G.cast (A2 := upA (upA A 2 (rdI t len pos kd ts nm fl)) 3 (.inl (cy 0, 400, .inl tx0))) (cpyT ((upA_ne (by decide)).trans htx)).symm ?_
  exact lp_X5_begin l D cy B od hr htx hS9 hR9 hby hlen ht X (len + 1) 0 tx0 (fun q hq => absurd hq (by omega)) (by omega) (by omega) (by omega)
def T3 (len : Nat) (k : TK) : Prop := (k.1 ≤ len ∧ k.2.2.1 ≤ k.1) ∧ (k.2.1 = nI 3 → k.2.2.1 < len)
theorem T3.tok {tx : Nat → Int32} {len : Nat} {k : TK} (h : k.1 ≤ len) : T3 len (tokN tx len k) := by
  refine ⟨tok_le h, ?_⟩
  unfold tokN tokAt
  split
  · exact fun q => absurd q (show ¬ nI 0 = nI 3 by decide)
  · split
    · exact fun q => absurd q (show ¬ nI 1 = nI 3 by decide)
    · split
      · exact fun q => absurd q (show ¬ nI 2 = nI 3 by decide)
      · intro _
        show scan (spR tx) len k.1 < len
        omega
theorem T3.num {tx : Nat → Int32} {len : Nat} {k : TK} {lo hi : Int32} (h : T3 len k) : T3 len (tkS tx len k lo hi) := by
  unfold tkS
  split
  · exact T3.tok h.1.1
  · exact h
def PsW3 (len : Nat) (s : PS) : Prop := T3 len s.1 ∧ s.2.2.1.1 ≤ 5 ∧ s.2.2.2.1 ≤ 6
theorem PsW3.w {len : Nat} {s : PS} (h : PsW3 len s) : PsW len s := ⟨h.1.1, h.2⟩
theorem rdSt_ok {tx : Nat → Int32} {len : Nat} {s : PS} (h : PsW3 len s) : PsW3 len (rdSt tx len s).2 := by
  obtain ⟨h1, h2, h3⟩ := h
  have k1 := T3.tok (tx := tx) h1.1.1
  have kk : ∀ {k : TK} {lo hi : Int32}, T3 len k → T3 len (tkS tx len k lo hi) := fun h => h.num
  unfold rdSt
  split
  · unfold rdStart; split
    · exact ⟨h1, h2, h3⟩
    · exact ⟨kk k1, h2, h3⟩
  · split
    · unfold rdAssets asRes; split
      · exact ⟨h1, h2, h3⟩
      · split
        · exact ⟨kk k1, h2, h3⟩
        · exact ⟨kk (kk k1), h2, h3⟩
    · split
      · unfold rdInterest; split
        · exact ⟨h1, h2, h3⟩
        · exact ⟨kk k1, h2, h3⟩
      · split
        · unfold rdTop; split
          · exact ⟨h1, h2, h3⟩
          · exact ⟨kk k1, h2, h3⟩
        · split
          · unfold rdBracket; split
            · exact ⟨h1, h2, h3⟩
            · split
              · exact ⟨kk k1, h2, h3⟩
              · unfold rdBr2; split
                · exact ⟨kk (kk k1), h2, h3⟩
                · rename_i hz _ _
                  refine ⟨kk (kk k1), ?_, h3⟩
                  show s.2.2.1.1 + 1 ≤ 5
                  omega
          · split
            · unfold rdRoom; split
              · exact ⟨h1, h2, h3⟩
              · rename_i hz
                split
                · exact ⟨kk k1, h2, h3⟩
                · unfold rdRo2; split
                  · split
                    · exact ⟨kk (T3.tok (kk k1).1.1), h2, h3⟩
                    · unfold rdRo3; split
                      · exact ⟨kk (kk (T3.tok (kk k1).1.1)), h2, h3⟩
                      · refine ⟨kk (kk (T3.tok (kk k1).1.1)), h2, ?_⟩
                        show s.2.2.2.1 + 1 ≤ 6
                        omega
                  · refine ⟨kk k1, h2, ?_⟩
                    show s.2.2.2.1 + 1 ≤ 6
                    omega
            · exact ⟨h1, h2, h3⟩
theorem PsW3.tok {tx : Nat → Int32} {len : Nat} {s : PS} (h : PsW3 len s) : PsW3 len (tokN tx len s.1, s.2) := ⟨T3.tok h.1.1.1, h.2⟩
set_option maxRecDepth 100000 in
set_option maxHeartbeats 400000 in
theorem lp_X5_read (l : Launch) (D : va_G) (cy : Nat → ClassId) (B : Nat) (od : Nat → Option Nat) {p : Program} {e : Env} {s : State} {m : MethodId} {args : Array Value} {below : List Frame} {meth : Method} {c : Code} {A : AH} {z : Nat} {t len : Nat} {tx : Nat → Int32} (hlen : len ≤ 400) (ht : t = 4 ∨ t = 11) {R : Int32 × PS} {Qf : Option Value → AH → Prop} (hQ : ∀ A', PFr A A' t → PsA cy A' t len tx R.2 → PsW3 len R.2 → Qf (some (.int R.1)) A') (X : Cx p s m args meth c D cy B od cX5_read 4 tX5_read RX5 (some .int)) : ∀ (k i : Nat) (A1 : AH) (u : PS) (hRe : rdL tx len (400 - i) u = R) (hF : PFr A A1 t) (hP : PsA cy A1 t len tx u) (hW : PsW3 len u), 0 ≤ i → i ≤ 400 → 400 - i < k → G p l e rmX5_read s m args below meth c D B od 4 tX5_read (FinQ false D B od (fun v A' z' => z' = z ∧ (Qf) v A') (fun _ _ => True) args s below rmX5_read.cells rmX5_read.slots) 0 0 A1 z 8 [some (.ref 2), some (.ref 1), some (.int (nI len)), some (.int (nI i))] [] := by
  intro k
  induction k with
  | zero => intro i _ _ _ _ _ _ _ _ h; omega
  | succ k ih =>
    intro i A1 u hRe hF hP hW hlo hi hk
    obtain ⟨hr, htx, hS9, hR9⟩ := id hP
    refine g_iload_n X rfl rfl ?_
    refine g_sipush X rfl (v := nI 400) (by decide) ?_
    first | refine g_ic_geN X rfl (by omega) (by omega) (fun h1 => ?_) (fun h1 => ?_) | refine g_icmp_ge X rfl (fun h1 => ?_) (fun h1 => ?_)
    · refine g_aload_n X rfl rfl ?_
      refine g_get X rfl flX5_33 (ci := 5) rfl (by (repeat (first | exact hr | exact upA_eq | refine (upA_ne (by omega)).trans ?_))) rfl ?_
      refine g_iret X rfl rfl (by first | rfl | exact bI_nar _ | decide) (Nat.le_of_ble_eq_true rfl) (Nat.le_of_ble_eq_true rfl) ⟨rfl, ?_⟩
      have e9 : R = (nI u.1.2.2.1, u) := by rw [← hRe, show 400 - i = 0 by omega, rdL]
      rw [e9] at hQ
      exact hQ _ hF hP hW
    · refine g_aload_n X rfl rfl ?_
      refine g_mV X rfl lcX5_readStatement lmX5_29 lsX5_readStatement (cm_X5_readStatement l D cy B od hP hW.w hlen ht) (ci := 5) (by (repeat (first | exact hr | exact upA_eq | refine (upA_ne (by omega)).trans ?_))) rfl rfl rfl (Nat.le_of_ble_eq_true rfl) ⟨⟨by decide, by decide⟩, rfl, rfl⟩ ⟨Nat.le_of_ble_eq_true rfl, Nat.le_of_ble_eq_true rfl⟩ (fun v2 A2 q2 => ?_)
      obtain ⟨rfl, hF1, hP⟩ := q2
      have hF := hF.trans hF1
      have hW := rdSt_ok (tx := tx) hW
      obtain ⟨hr, htx, hS9, hR9⟩ := id hP
      first | refine g_if_neB X rfl (fun h3 => ?_) (fun h3 => ?_) | refine g_if_ne X rfl (fun h3 => ?_) (fun h3 => ?_)
      · refine g_aload_n X rfl rfl ?_
        refine g_get X rfl flX5_37 (ci := 5) rfl (by (repeat (first | exact hr | exact upA_eq | refine (upA_ne (by omega)).trans ?_))) rfl ?_
        refine g_if_ne X rfl (fun h4 => ?_) (fun h4 => ?_)
        · refine g_aload_n X rfl rfl ?_
          refine g_get X rfl flX5_37 (ci := 5) rfl (by (repeat (first | exact hr | exact upA_eq | refine (upA_ne (by omega)).trans ?_))) rfl ?_
          refine g_iconst X rfl (v := nI 3) (by decide) ?_
          refine g_icmp_ne X rfl (fun h5 => ?_) (fun h5 => ?_)
          · refine g_aload_n X rfl rfl ?_
            refine g_get X rfl flX5_33 (ci := 5) rfl (by (repeat (first | exact hr | exact upA_eq | refine (upA_ne (by omega)).trans ?_))) rfl ?_
            refine g_iret X rfl rfl (by first | rfl | exact bI_nar _ | decide) (Nat.le_of_ble_eq_true rfl) (Nat.le_of_ble_eq_true rfl) ⟨rfl, ?_⟩
            have e9 : R = (nI (rdSt tx len u).2.1.2.2.1, (rdSt tx len u).2) := by rw [← hRe, show 400 - i = (400 - i - 1) + 1 by omega, rdL, if_pos (by assumption), if_neg (by assumption), if_neg (by first | exact fun q => absurd q.1 (by assumption) | exact fun q => absurd q.2 (by assumption))]
            rw [e9] at hQ
            exact hQ _ hF hP hW
          · refine g_aload_n X rfl rfl ?_
            refine g_get X rfl flX5_9 (ci := 5) rfl (by (repeat (first | exact hr | exact upA_eq | refine (upA_ne (by omega)).trans ?_))) rfl ?_
            refine g_aload_n X rfl rfl ?_
            refine g_get X rfl flX5_33 (ci := 5) rfl (by (repeat (first | exact hr | exact upA_eq | refine (upA_ne (by omega)).trans ?_))) rfl ?_
            refine g_ialdN X rfl htx (by have := hW.1.2 (by assumption); omega) (by decide) ?_
            refine g_bipush X rfl (v := nI 59) (by decide) ?_
            refine g_icmp_eq X rfl (fun h6 => ?_) (fun h6 => ?_)
            · refine g_aload_n X rfl rfl ?_
              refine g_mV X rfl lcX5_nextToken lmX5_26 lsX5_nextToken (cm_X5_nextToken l D cy B od hr htx hlen hW.1.1.1) (ci := 5) (by (repeat (first | exact hr | exact upA_eq | refine (upA_ne (by omega)).trans ?_))) rfl rfl rfl (Nat.le_of_ble_eq_true rfl) ⟨⟨by decide, by decide⟩, rfl, rfl⟩ ⟨Nat.le_of_ble_eq_true rfl, Nat.le_of_ble_eq_true rfl⟩ (fun v7 A7 q7 => ?_)
              obtain ⟨rfl, rfl⟩ := q7
              have hF := hF.k (x := rdE t len (tokN tx len (rdSt tx len u).2.1) (rdSt tx len u).2.2.1)
              have hP := PsA.k (k2 := tokN tx len (rdSt tx len u).2.1) (fl2 := (rdSt tx len u).2.2.1) ht hP
              have hW := hW.tok (tx := tx)
              refine g_iinc1 X rfl rfl (by decide) ?_
              refine g_goto X rfl ?_
              refine ih (i + 1) _ (tokN tx len (rdSt tx len u).2.1, (rdSt tx len u).2.2) ?_ hF hP hW (by omega) (by omega) (by omega)
              rw [← hRe, show 400 - i = (400 - i - 1) + 1 by omega, rdL, if_pos (by assumption), if_neg (by assumption), if_pos ⟨by assumption, by assumption⟩, show 400 - (i + 1) = 400 - i - 1 by omega]
            · refine g_aload_n X rfl rfl ?_
              refine g_get X rfl flX5_33 (ci := 5) rfl (by (repeat (first | exact hr | exact upA_eq | refine (upA_ne (by omega)).trans ?_))) rfl ?_
              refine g_iret X rfl rfl (by first | rfl | exact bI_nar _ | decide) (Nat.le_of_ble_eq_true rfl) (Nat.le_of_ble_eq_true rfl) ⟨rfl, ?_⟩
              have e9 : R = (nI (rdSt tx len u).2.1.2.2.1, (rdSt tx len u).2) := by rw [← hRe, show 400 - i = (400 - i - 1) + 1 by omega, rdL, if_pos (by assumption), if_neg (by assumption), if_neg (by first | exact fun q => absurd q.1 (by assumption) | exact fun q => absurd q.2 (by assumption))]
              rw [e9] at hQ
              exact hQ _ hF hP hW
        · refine g_iconst X rfl (v := (-1)) (by decide) ?_
          refine g_iret X rfl rfl (by first | rfl | exact bI_nar _ | decide) (Nat.le_of_ble_eq_true rfl) (Nat.le_of_ble_eq_true rfl) ⟨rfl, ?_⟩
          have e9 : R = (-1, (rdSt tx len u).2) := by rw [← hRe, show 400 - i = (400 - i - 1) + 1 by omega, rdL, if_pos (by assumption), if_pos (by assumption)]
          rw [e9] at hQ
          exact hQ _ hF hP hW
      · refine g_aload_n X rfl rfl ?_
        refine g_get X rfl flX5_33 (ci := 5) rfl (by (repeat (first | exact hr | exact upA_eq | refine (upA_ne (by omega)).trans ?_))) rfl ?_
        refine g_iret X rfl rfl (by first | rfl | exact bI_nar _ | decide) (Nat.le_of_ble_eq_true rfl) (Nat.le_of_ble_eq_true rfl) ⟨rfl, ?_⟩
        have e9 : R = (nI (rdSt tx len u).2.1.2.2.1, (rdSt tx len u).2) := by rw [← hRe, show 400 - i = (400 - i - 1) + 1 by omega, rdL, if_neg (by rw [Bool.not_eq_true]; assumption)]
        rw [e9] at hQ
        exact hQ _ hF hP hW
set_option maxRecDepth 100000 in
set_option maxHeartbeats 400000 in
theorem cm_X5_read (l : Launch) (D : va_G) (cy : Nat → ClassId) (B : Nat) (od : Nat → Option Nat) {A : AH} {t len : Nat} {len0 pos kd ts nm : Int32} {fl : FL4} {tx0 buf : Nat → Int32} {Z : SV} {Rm : RV} (hr : A 2 = some (.inr (5, [.ref 3, .int len0, .int pos, .int kd, .int ts, .int nm, .ref t, .int fl.1, .int fl.2.1, .int fl.2.2.1, .int fl.2.2.2]))) (htx : A 3 = some (.inl (cy 0, 400, .inl tx0))) (hS9 : SetA cy A t Z) (hR9 : RoomA cy A (t + 3) Rm) (hby : A 1 = some (.inl (cy 0, 400, .inl buf))) (hlen : len ≤ 400) (ht : t = 4 ∨ t = 11) : CM l D cy B od yX5_read cX5_read 4 (some .int) rmX5_read [.ref 2, .ref 1, .int (nI len)] A (fun v A' => ∃ (tx : Nat → Int32) (n0 : Nat), (∀ j, j < len → tx j = buf j) ∧ v = some (.int (rdL tx len 400 (tokN tx len (0, kd, n0, nm), (nI 0, nI 0, nI 0, nI 0), zDef Z, (0, Rm.2))).1) ∧ PFr3 A A' t ∧ PsA cy A' t len tx (rdL tx len 400 (tokN tx len (0, kd, n0, nm), (nI 0, nI 0, nI 0, nI 0), zDef Z, (0, Rm.2))).2 ∧ PsW3 len (rdL tx len 400 (tokN tx len (0, kd, n0, nm), (nI 0, nI 0, nI 0, nI 0), zDef Z, (0, Rm.2))).2) := by
  intro z
  refine CT.of (by decide) tX5_read okX5_read (Nat.le_of_ble_eq_true rfl) (q0 := tX5_read[0]) rfl rfl ?_
  intro p e s m args below meth c X _
  refine g_aload_n X rfl rfl ?_
  refine g_aload_n X rfl rfl ?_
  refine g_iload_n X rfl rfl ?_
  refine g_mV X rfl lcX5_begin lmX5_22 lsX5_begin (cm_X5_begin l D cy B od hr htx hS9 hR9 hby hlen ht) (ci := 5) (by (repeat (first | exact hr | exact upA_eq | refine (upA_ne (by omega)).trans ?_))) rfl rfl rfl (Nat.le_of_ble_eq_true rfl) ⟨⟨by decide, by decide⟩, rfl, rfl⟩ ⟨Nat.le_of_ble_eq_true rfl, Nat.le_of_ble_eq_true rfl⟩ (fun v1 A1 q1 => ?_)
  obtain ⟨rfl, tx, hal, hF3, hr, htx, hS9, hR9⟩ := q1
  obtain ⟨n0, rfl⟩ := nI_sur ts
  refine g_aload_n X rfl rfl ?_
  refine g_mV X rfl lcX5_nextToken lmX5_26 lsX5_nextToken (cm_X5_nextToken l D cy B od (k := (0, kd, n0, nm)) (fl := (nI 0, nI 0, nI 0, nI 0)) hr htx hlen (Nat.zero_le _)) (ci := 5) (by (repeat (first | exact hr | exact upA_eq | refine (upA_ne (by omega)).trans ?_))) rfl rfl rfl (Nat.le_of_ble_eq_true rfl) ⟨⟨by decide, by decide⟩, rfl, rfl⟩ ⟨Nat.le_of_ble_eq_true rfl, Nat.le_of_ble_eq_true rfl⟩ (fun v2 A2 q2 => ?_)
  obtain ⟨rfl, rfl⟩ := q2
  refine g_iconst X rfl (v := nI 0) (by decide) ?_
  refine g_istore_n X rfl (by decide) ?_
  have hP : PsA cy (upA _ 2 (rdE t len (tokN tx len (0, kd, n0, nm)) (nI 0, nI 0, nI 0, nI 0))) t len tx (tokN tx len (0, kd, n0, nm), ((nI 0, nI 0, nI 0, nI 0) : FL4), zDef Z, ((0, Rm.2) : RV)) := PsA.k (s := ((0, kd, n0, nm), (nI 0, nI 0, nI 0, nI 0), zDef Z, (0, Rm.2))) ht ⟨hr, htx, hS9, hR9⟩
  exact lp_X5_read l D cy B od hlen ht (R := rdL tx len 400 (tokN tx len (0, kd, n0, nm), ((nI 0, nI 0, nI 0, nI 0) : FL4), zDef Z, ((0, Rm.2) : RV))) (fun A9 q1 q2 q3 => ⟨tx, n0, hal, rfl, PFr.to3 hF3 (PFr.trans ((PFr.refl _ t).k) q1), q2, q3⟩) X 401 0 _ (tokN tx len (0, kd, n0, nm), ((nI 0, nI 0, nI 0, nI 0) : FL4), zDef Z, ((0, Rm.2) : RV)) rfl (PFr.refl _ t) hP ⟨T3.tok (Nat.zero_le _), Nat.zero_le _, Nat.zero_le _⟩ (by omega) (by omega) (by omega)
