/-! 50: the reference: history, copies of rows -/
theorem upA_comm {A : AH} {i j : Nat} {x y : va_E} (h : i ≠ j) : upA (upA A i x) j y = upA (upA A j y) i x := by
  funext k
  unfold upA
  by_cases h1 : k = j
  · subst h1
    rw [if_pos rfl, if_neg (fun q => h q.symm), if_pos rfl]
  · rw [if_neg h1]
    by_cases h2 : k = i
    · rw [if_pos h2, if_pos h2]
    · rw [if_neg h2, if_neg h2, if_neg h1]
/-- the reference with all its arrays: its fields; buffer, read, now, saved, history -/
def MdA (cy : Nat → ClassId) (A : AH) (f : MF) (mb rd r sv hy : Nat → Int32) : Prop := A 231 = some (moE f) ∧ A 232 = some (.inl (cy 0, 400, .inl mb)) ∧ A 233 = some (.inl (cy 0, 522, .inl rd)) ∧ A 234 = some (.inl (cy 0, 522, .inl r)) ∧ A 235 = some (.inl (cy 0, 522, .inl sv)) ∧ A 236 = some (.inl (cy 0, 4176, .inl hy)) ∧ ∃ g, A 237 = some (bX cy g)
def MOff (A A' : AH) : Prop := ∀ k, (k < 231 ∨ 238 ≤ k) → A' k = A k
theorem MOff.refl (A : AH) : MOff A A := fun _ _ => rfl
theorem MOff.up {A A' : AH} {j : Nat} {x : va_E} (h : MOff A A') (h1 : 231 ≤ j) (h2 : j < 238) : MOff A (upA A' j x) := fun k hk => (upA_ne (by omega)).trans (h k hk)
theorem MOff.trans {A A' A2 : AH} (h : MOff A A') (h2 : MOff A' A2) : MOff A A2 := fun k hk => (h2 k hk).trans (h k hk)
section MDA
variable {cy : Nat → ClassId} {A : AH} {f f2 : MF} {mb rd r sv hy g : Nat → Int32}
theorem MdA.uf (h : MdA cy A f mb rd r sv hy) (f2 : MF) : MdA cy (upA A 231 (moE f2)) f2 mb rd r sv hy := by
  obtain ⟨h1, h2, h3, h4, h5, h6, g9, h7⟩ := h
  exact ⟨upA_eq, (upA_ne (by decide)).trans h2, (upA_ne (by decide)).trans h3, (upA_ne (by decide)).trans h4, (upA_ne (by decide)).trans h5, (upA_ne (by decide)).trans h6, g9, (upA_ne (by decide)).trans h7⟩
theorem MdA.urd (h : MdA cy A f mb rd r sv hy) (g : Nat → Int32) : MdA cy (upA A 233 (.inl (cy 0, 522, .inl g))) f mb g r sv hy := by
  obtain ⟨h1, h2, h3, h4, h5, h6, g9, h7⟩ := h
  exact ⟨(upA_ne (by decide)).trans h1, (upA_ne (by decide)).trans h2, upA_eq, (upA_ne (by decide)).trans h4, (upA_ne (by decide)).trans h5, (upA_ne (by decide)).trans h6, g9, (upA_ne (by decide)).trans h7⟩
theorem MdA.ur (h : MdA cy A f mb rd r sv hy) (g : Nat → Int32) : MdA cy (upA A 234 (.inl (cy 0, 522, .inl g))) f mb rd g sv hy := by
  obtain ⟨h1, h2, h3, h4, h5, h6, g9, h7⟩ := h
  exact ⟨(upA_ne (by decide)).trans h1, (upA_ne (by decide)).trans h2, (upA_ne (by decide)).trans h3, upA_eq, (upA_ne (by decide)).trans h5, (upA_ne (by decide)).trans h6, g9, (upA_ne (by decide)).trans h7⟩
theorem MdA.usv (h : MdA cy A f mb rd r sv hy) (g : Nat → Int32) : MdA cy (upA A 235 (.inl (cy 0, 522, .inl g))) f mb rd r g hy := by
  obtain ⟨h1, h2, h3, h4, h5, h6, g9, h7⟩ := h
  exact ⟨(upA_ne (by decide)).trans h1, (upA_ne (by decide)).trans h2, (upA_ne (by decide)).trans h3, (upA_ne (by decide)).trans h4, upA_eq, (upA_ne (by decide)).trans h6, g9, (upA_ne (by decide)).trans h7⟩
theorem MdA.uhi (h : MdA cy A f mb rd r sv hy) (g : Nat → Int32) : MdA cy (upA A 236 (.inl (cy 0, 4176, .inl g))) f mb rd r sv g := by
  obtain ⟨h1, h2, h3, h4, h5, h6, g9, h7⟩ := h
  exact ⟨(upA_ne (by decide)).trans h1, (upA_ne (by decide)).trans h2, (upA_ne (by decide)).trans h3, (upA_ne (by decide)).trans h4, (upA_ne (by decide)).trans h5, upA_eq, g9, (upA_ne (by decide)).trans h7⟩
theorem MdA.ubu (h : MdA cy A f mb rd r sv hy) (g : Nat → Int32) : MdA cy (upA A 232 (.inl (cy 0, 400, .inl g))) f g rd r sv hy := by
  obtain ⟨h1, h2, h3, h4, h5, h6, g9, h7⟩ := h
  exact ⟨(upA_ne (by decide)).trans h1, upA_eq, (upA_ne (by decide)).trans h3, (upA_ne (by decide)).trans h4, (upA_ne (by decide)).trans h5, (upA_ne (by decide)).trans h6, g9, (upA_ne (by decide)).trans h7⟩
end MDA
/-- a row's history with one more row in it -/
def shF (w : Nat) (hy : Nat → Int32) (k : Nat) : Nat → Int32 := fun q => if q + w < k then hy (q + w) else hy q
def cpF (hy : Nat → Int32) (b : Nat) (r : Nat → Int32) (k : Nat) : Nat → Int32 := fun q => if b ≤ q ∧ q < b + k then r (q - b) else hy q
theorem shF_s (w : Nat) (hy : Nat → Int32) {k : Nat} (hk : w ≤ k) : upd (shF w hy k) (k - w) (shF w hy k k) = shF w hy (k + 1) := by
  obtain ⟨j, rfl⟩ : ∃ j, k = j + w := ⟨k - w, by omega⟩
  rw [Nat.add_sub_cancel]
  funext q
  by_cases e : q = j
  · subst e
    rw [pk_us]
    unfold shF
    by_cases h0 : w = 0
    · subst h0; simp
    · rw [if_neg (by omega), if_pos (by omega)]
  · rw [pk_un e]
    unfold shF
    by_cases h : q + w < j + w
    · rw [if_pos h, if_pos (by omega)]
    · rw [if_neg h, if_neg (by omega)]
theorem cpF_s (hy : Nat → Int32) (b : Nat) (r : Nat → Int32) (k : Nat) : upd (cpF hy b r k) (b + k) (r k) = cpF hy b r (k + 1) := by
  funext q
  by_cases e : q = b + k
  · subst e
    rw [pk_us]
    unfold cpF
    rw [if_pos (by omega), show b + k - b = k by omega]
  · rw [pk_un e]
    unfold cpF
    by_cases h : b ≤ q ∧ q < b + k
    · rw [if_pos h, if_pos (by omega)]
    · rw [if_neg h, if_neg (by omega)]
theorem cpF_0 (hy : Nat → Int32) (b : Nat) (r : Nat → Int32) : cpF hy b r 0 = hy := by
  funext q
  unfold cpF
  rw [if_neg (by omega)]
theorem shF_0 (w : Nat) (hy : Nat → Int32) : shF w hy w = hy := by
  funext q
  unfold shF
  rw [if_neg (by omega)]
def recH (hy : Nat → Int32) (n : Nat) (r : Nat → Int32) : Nat → Int32 := if n = 8 then cpF (shF 522 hy 4176) (522 * 7) r 522 else cpF hy (522 * n) r 522
def recN (n : Nat) : Nat := if n = 8 then 8 else n + 1
abbrev fN (f : MF) (n : Nat) : MF := (f.1, f.2.1, n, f.2.2.2)
abbrev fSv (f : MF) (s : Int32) : MF := (f.1, f.2.1, f.2.2.1, f.2.2.2.1, s)
abbrev fL (f : MF) (n : Nat) : MF := (f.1, (n, f.2.1.2), f.2.2)
set_option maxRecDepth 100000 in
set_option maxHeartbeats 400000 in
theorem lp_X8_recordC (l : Launch) (D : va_G) (cy : Nat → ClassId) (B : Nat) (od : Nat → Option Nat) {p : Program} {e : Env} {s : State} {m : MethodId} {args : Array Value} {below : List Frame} {meth : Method} {c : Code} {A : AH} {z : Nat} {f : MF} {r h0 : Nat → Int32} {n9 : Nat} (hn9 : n9 ≤ 7) (hM : A 231 = some (moE (fN f n9))) (hn : A 234 = some (.inl (cy 0, 522, .inl r))) {Qf : Option Value → AH → Prop} (hQ : Qf none (upA (upA A 236 (.inl (cy 0, 4176, .inl (cpF h0 (522 * n9) r 522)))) 231 (moE (fN f (n9 + 1))))) (X : Cx p s m args meth c D cy B od cX8_record 2 tX8_record RX8 none) : ∀ (k i : Nat), 0 ≤ i → i ≤ 522 → 522 - i < k → G p l e rmX8_record s m args below meth c D B od 2 tX8_record (FinQ false D B od (fun v A' z' => z' = z ∧ (Qf) v A') (fun _ _ => True) args s below rmX8_record.cells rmX8_record.slots) 0 0 (upA A 236 (.inl (cy 0, 4176, .inl (cpF h0 (522 * n9) r i)))) z 29 [some (.ref 231), some (.int (nI i))] [] := by
  intro k
  induction k with
  | zero => intro i _ _ h; omega
  | succ k ih =>
    intro i  hlo hi hk
    have hh : upA A 236 (.inl (cy 0, 4176, .inl (cpF h0 (522 * n9) r i))) 236 = some (.inl (cy 0, 4176, .inl (cpF h0 (522 * n9) r i))) := upA_eq
    refine g_iload_n X rfl rfl ?_
    refine g_sipush X rfl (v := nI 522) (by decide) ?_
    first | refine g_ic_geN X rfl (by omega) (by omega) (fun h1 => ?_) (fun h1 => ?_) | refine g_icmp_ge X rfl (fun h1 => ?_) (fun h1 => ?_)
    · refine g_aload_n X rfl rfl ?_
      refine g_dup X rfl rfl ?_
      refine g_get X rfl flX8_167 (ci := 8) rfl (by (repeat (first | exact hM | exact upA_eq | refine (upA_ne (by omega)).trans ?_))) rfl ?_
      rw [show (fN f n9).2.2.1 = n9 from rfl]
      refine g_iconst X rfl (v := nI 1) (by decide) ?_
      refine g_iadd X rfl ?_
      rw [nI_add]
      refine g_put X rfl flX8_167 rfl (ci := 8) rfl (by (repeat (first | exact hM | exact upA_eq | refine (upA_ne (by omega)).trans ?_))) (Nat.le_of_ble_eq_true rfl) (by first | rfl | exact bI_nar _) (by first | rfl | decide) ?_
      refine g_vret X rfl rfl (Nat.le_of_ble_eq_true rfl) (Nat.le_of_ble_eq_true rfl) ⟨rfl, ?_⟩
      rw [show i = 522 by omega]; exact hQ
    · refine g_aload_n X rfl rfl ?_
      refine g_get X rfl flX8_22 (ci := 8) rfl (by (repeat (first | exact hM | exact upA_eq | refine (upA_ne (by omega)).trans ?_))) rfl ?_
      refine g_sipush X rfl (v := nI 522) (by decide) ?_
      refine g_aload_n X rfl rfl ?_
      refine g_get X rfl flX8_167 (ci := 8) rfl (by (repeat (first | exact hM | exact upA_eq | refine (upA_ne (by omega)).trans ?_))) rfl ?_
      rw [show (fN f n9).2.2.1 = n9 from rfl]
      refine g_imul X rfl ?_
      refine g_iload_n X rfl rfl ?_
      refine g_iadd X rfl ?_
      rw [pk_mul, nI_add]
      refine g_aload_n X rfl rfl ?_
      refine g_get X rfl flX8_16 (ci := 8) rfl (by (repeat (first | exact hM | exact upA_eq | refine (upA_ne (by omega)).trans ?_))) rfl ?_
      refine g_iload_n X rfl rfl ?_
      refine g_ialdN X rfl ((upA_ne (by decide)).trans hn) (by omega) (by decide) ?_
      refine g_iastN X rfl hh (by omega) (by decide) ?_
      rw [upA_up]
      refine g_iinc1 X rfl rfl (by decide) ?_
      refine g_goto X rfl ?_
      have K9 := ih (i + 1) (by omega) (by omega) (by omega)
      rw [← cpF_s] at K9
      exact K9
set_option maxRecDepth 100000 in
set_option maxHeartbeats 400000 in
theorem lp_X8_recordS (l : Launch) (D : va_G) (cy : Nat → ClassId) (B : Nat) (od : Nat → Option Nat) {p : Program} {e : Env} {s : State} {m : MethodId} {args : Array Value} {below : List Frame} {meth : Method} {c : Code} {A : AH} {z : Nat} {f : MF} {mb rd r sv hy : Nat → Int32} (hD : MdA cy A f mb rd r sv hy) (h8 : f.2.2.1 = 8)  (X : Cx p s m args meth c D cy B od cX8_record 2 tX8_record RX8 none) : ∀ (k i : Nat), 522 ≤ i → i ≤ 4176 → 4176 - i < k → G p l e rmX8_record s m args below meth c D B od 2 tX8_record (FinQ false D B od (fun v A' z' => z' = z ∧ (fun v A' => v = none ∧ A' = upA (upA A 236 (.inl (cy 0, 4176, .inl (recH hy f.2.2.1 r)))) 231 (moE (fN f (recN f.2.2.1)))) v A') (fun _ _ => True) args s below rmX8_record.cells rmX8_record.slots) 0 0 (upA A 236 (.inl (cy 0, 4176, .inl (shF 522 hy i)))) z 6 [some (.ref 231), some (.int (nI i))] [] := by
  intro k
  induction k with
  | zero => intro i _ _ h; omega
  | succ k ih =>
    intro i  hlo hi hk
    obtain ⟨hM, hb, hr, hn, hs, hh, -⟩ := id hD
    have hh : upA A 236 (.inl (cy 0, 4176, .inl (shF 522 hy i))) 236 = some (.inl (cy 0, 4176, .inl (shF 522 hy i))) := upA_eq
    refine g_iload_n X rfl rfl ?_
    refine g_sipush X rfl (v := nI 4176) (by decide) ?_
    first | refine g_ic_geN X rfl (by omega) (by omega) (fun h1 => ?_) (fun h1 => ?_) | refine g_icmp_ge X rfl (fun h1 => ?_) (fun h1 => ?_)
    · refine g_aload_n X rfl rfl ?_
      refine g_dup X rfl rfl ?_
      refine g_get X rfl flX8_167 (ci := 8) rfl (by (repeat (first | exact hM | exact upA_eq | refine (upA_ne (by omega)).trans ?_))) rfl ?_
      refine g_iconst X rfl (v := nI 1) (by decide) ?_
      refine g_isub X rfl ?_
      rw [h8, show nI 8 - nI 1 = nI 7 by decide]
      refine g_put X rfl flX8_167 rfl (ci := 8) rfl (by (repeat (first | exact hM | exact upA_eq | refine (upA_ne (by omega)).trans ?_))) (Nat.le_of_ble_eq_true rfl) (by first | rfl | exact bI_nar _) (by first | rfl | decide) ?_
      refine G.cast (A2 := upA (upA A 231 (moE (fN f 7))) 236 (.inl (cy 0, 4176, .inl (cpF (shF 522 hy 4176) (522 * 7) r 0)))) (by rw [cpF_0, show i = 4176 by omega]; exact upA_comm (by decide)) ?_
      refine g_iconst X rfl (v := nI 0) (by decide) ?_
      refine g_istore_n X rfl (by decide) ?_
      exact lp_X8_recordC l D cy B od (f := f) (n9 := 7) (h0 := shF 522 hy 4176) (by decide) upA_eq ((upA_ne (by decide)).trans hn) (Qf := fun v A' => v = none ∧ A' = upA (upA A 236 (.inl (cy 0, 4176, .inl (recH hy 8 r)))) 231 (moE (fN f (recN 8)))) ⟨rfl, by rw [recH, recN, if_pos rfl, if_pos rfl, upA_comm (i := 236) (j := 231) (by decide), upA_up]; exact upA_comm (by decide)⟩ X 523 0 (by omega) (by omega) (by omega)
    · refine g_aload_n X rfl rfl ?_
      refine g_get X rfl flX8_22 (ci := 8) rfl (by (repeat (first | exact hM | exact upA_eq | refine (upA_ne (by omega)).trans ?_))) rfl ?_
      refine g_iload_n X rfl rfl ?_
      refine g_sipush X rfl (v := nI 522) (by decide) ?_
      refine g_isub X rfl ?_
      rw [pk_sub hlo]
      refine g_aload_n X rfl rfl ?_
      refine g_get X rfl flX8_22 (ci := 8) rfl (by (repeat (first | exact hM | exact upA_eq | refine (upA_ne (by omega)).trans ?_))) rfl ?_
      refine g_iload_n X rfl rfl ?_
      refine g_ialdN X rfl hh (by omega) (by decide) ?_
      refine g_iastN X rfl hh (by omega) (by decide) ?_
      rw [upA_up]
      refine g_iinc1 X rfl rfl (by decide) ?_
      refine g_goto X rfl ?_
      have K9 := ih (i + 1) (by omega) (by omega) (by omega)
      rw [← shF_s 522 _ hlo] at K9
      exact K9
set_option maxRecDepth 100000 in
set_option maxHeartbeats 400000 in
theorem cm_X8_record (l : Launch) (D : va_G) (cy : Nat → ClassId) (B : Nat) (od : Nat → Option Nat) {A : AH} {f : MF} {mb rd r sv hy : Nat → Int32} (hD : MdA cy A f mb rd r sv hy) (hE : f.2.2.1 ≤ 8) : CM l D cy B od yX8_record cX8_record 2 none rmX8_record [.ref 231] A (fun v A' => v = none ∧ A' = upA (upA A 236 (.inl (cy 0, 4176, .inl (recH hy f.2.2.1 r)))) 231 (moE (fN f (recN f.2.2.1)))) := by
  intro z
  refine CT.of (by decide) tX8_record okX8_record (Nat.le_of_ble_eq_true rfl) (q0 := tX8_record[0]) rfl rfl ?_
  intro p e s m args below meth c X _
  obtain ⟨hM, hb, hr, hn, hs, hh, -⟩ := id hD
  refine g_aload_n X rfl rfl ?_
  refine g_get X rfl flX8_167 (ci := 8) rfl (by (repeat (first | exact hM | exact upA_eq | refine (upA_ne (by omega)).trans ?_))) rfl ?_
  refine g_bipush X rfl (v := nI 8) (by decide) ?_
  first | refine g_ic_neN X rfl (by omega) (by omega) (fun h1 => ?_) (fun h1 => ?_) | refine g_icmp_ne X rfl (fun h1 => ?_) (fun h1 => ?_)
  · have h8 : ¬ f.2.2.1 = 8 := by omega
    refine g_iconst X rfl (v := nI 0) (by decide) ?_
    refine g_istore_n X rfl (by decide) ?_
    refine G.cast (A2 := upA A 236 (.inl (cy 0, 4176, .inl (cpF hy (522 * f.2.2.1) r 0)))) (by rw [cpF_0]; exact (upA_same hh).symm) ?_
    exact lp_X8_recordC l D cy B od (f := f) (n9 := f.2.2.1) (by omega) hM hn (Qf := fun v A' => v = none ∧ A' = upA (upA A 236 (.inl (cy 0, 4176, .inl (recH hy f.2.2.1 r)))) 231 (moE (fN f (recN f.2.2.1)))) ⟨rfl, by rw [recH, recN, if_neg h8, if_neg h8]⟩ X 523 0 (by omega) (by omega) (by omega)
  · have h8 : f.2.2.1 = 8 := by omega
    refine g_sipush X rfl (v := nI 522) (by decide) ?_
    refine g_istore_n X rfl (by decide) ?_
    refine G.cast (A2 := upA A 236 (.inl (cy 0, 4176, .inl (shF 522 hy 522)))) (by rw [shF_0]; exact (upA_same hh).symm) ?_
    exact lp_X8_recordS l D cy B od hD h8 X 3655 522 (by omega) (by omega) (by omega)
set_option maxRecDepth 100000 in
set_option maxHeartbeats 400000 in
theorem cm_X8_become (l : Launch) (D : va_G) (cy : Nat → ClassId) (B : Nat) (od : Nat → Option Nat) {A : AH} {f : MF} {mb rd r sv hy : Nat → Int32} (hD : MdA cy A f mb rd r sv hy) (hE : f.2.2.1 ≤ 8) {pl : Nat} (hpl : pl < 522) {v9 : Int32} : CM l D cy B od yX8_become cX8_become 4 (some .int) rmX8_become [.ref 231, .int (nI pl), .int v9] A (fun v A' => v = some (.int (r pl)) ∧ A' = upA (upA (upA A 236 (.inl (cy 0, 4176, .inl (recH hy f.2.2.1 r)))) 231 (moE (fN f (recN f.2.2.1)))) 234 (.inl (cy 0, 522, .inl (upd r pl v9)))) := by
  intro z
  refine CT.of (by decide) tX8_become okX8_become (Nat.le_of_ble_eq_true rfl) (q0 := tX8_become[0]) rfl rfl ?_
  intro p e s m args below meth c X _
  obtain ⟨hM, hb, hr, hn, hs, hh, -⟩ := id hD
  refine g_aload_n X rfl rfl ?_
  refine g_mV X rfl lcX8_record lmX8_193 lsX8_record (cm_X8_record l D cy B od hD hE) (ci := 8) (by (repeat (first | exact hM | exact upA_eq | refine (upA_ne (by omega)).trans ?_))) rfl rfl rfl (Nat.le_of_ble_eq_true rfl) ⟨⟨by decide, by decide⟩, rfl, rfl⟩ ⟨Nat.le_of_ble_eq_true rfl, Nat.le_of_ble_eq_true rfl⟩ (fun v1 A1 q1 => ?_)
  obtain ⟨rfl, rfl⟩ := q1
  refine g_aload_n X rfl rfl ?_
  refine g_get X rfl flX8_16 (ci := 8) rfl (by (repeat (first | exact hM | exact upA_eq | refine (upA_ne (by omega)).trans ?_))) rfl ?_
  refine g_iload_n X rfl rfl ?_
  refine g_ialdN X rfl (by (repeat (first | exact hn | exact upA_eq | refine (upA_ne (by decide)).trans ?_))) hpl (by decide) ?_
  refine g_istore_n X rfl (by decide) ?_
  refine g_aload_n X rfl rfl ?_
  refine g_get X rfl flX8_16 (ci := 8) rfl (by (repeat (first | exact hM | exact upA_eq | refine (upA_ne (by omega)).trans ?_))) rfl ?_
  refine g_iload_n X rfl rfl ?_
  refine g_iload_n X rfl rfl ?_
  refine g_iastN X rfl (by (repeat (first | exact hn | exact upA_eq | refine (upA_ne (by decide)).trans ?_))) hpl (by decide) ?_
  refine g_iload_n X rfl rfl ?_
  refine g_iret X rfl rfl (by first | rfl | exact bI_nar _ | decide) (Nat.le_of_ble_eq_true rfl) (Nat.le_of_ble_eq_true rfl) ⟨rfl, ?_⟩
  exact ⟨rfl, rfl⟩
set_option maxRecDepth 100000 in
set_option maxHeartbeats 400000 in
theorem lp_X8_takeRead (l : Launch) (D : va_G) (cy : Nat → ClassId) (B : Nat) (od : Nat → Option Nat) {p : Program} {e : Env} {s : State} {m : MethodId} {args : Array Value} {below : List Frame} {meth : Method} {c : Code} {A : AH} {z : Nat} {f : MF} {mb rd r sv hy : Nat → Int32} (hD : MdA cy A f mb rd r sv hy)  (X : Cx p s m args meth c D cy B od cX8_takeRead 2 tX8_takeRead RX8 none) : ∀ (k i : Nat), 0 ≤ i → i ≤ 522 → 522 - i < k → G p l e rmX8_takeRead s m args below meth c D B od 2 tX8_takeRead (FinQ false D B od (fun v A' z' => z' = z ∧ (fun v A' => v = none ∧ A' = upA (upA A 234 (.inl (cy 0, 522, .inl (cpF r 0 rd 522)))) 231 (moE (fSv (fN f 0) (nI 0)))) v A') (fun _ _ => True) args s below rmX8_takeRead.cells rmX8_takeRead.slots) 0 0 (upA A 234 (.inl (cy 0, 522, .inl (cpF r 0 rd i)))) z 2 [some (.ref 231), some (.int (nI i))] [] := by
  intro k
  induction k with
  | zero => intro i _ _ h; omega
  | succ k ih =>
    intro i  hlo hi hk
    obtain ⟨hM, hb, hr, hn, hs, hh, -⟩ := id hD
    have hn2 : upA A 234 (.inl (cy 0, 522, .inl (cpF r 0 rd i))) 234 = some (.inl (cy 0, 522, .inl (cpF r 0 rd i))) := upA_eq
    refine g_iload_n X rfl rfl ?_
    refine g_sipush X rfl (v := nI 522) (by decide) ?_
    first | refine g_ic_geN X rfl (by omega) (by omega) (fun h1 => ?_) (fun h1 => ?_) | refine g_icmp_ge X rfl (fun h1 => ?_) (fun h1 => ?_)
    · refine g_aload_n X rfl rfl ?_
      refine g_iconst X rfl (v := nI 0) (by decide) ?_
      refine g_put X rfl flX8_167 rfl (ci := 8) rfl (by (repeat (first | exact hM | exact upA_eq | refine (upA_ne (by omega)).trans ?_))) (Nat.le_of_ble_eq_true rfl) (by first | rfl | exact bI_nar _) (by first | rfl | decide) ?_
      first | rw [upA_up] | skip
      refine g_aload_n X rfl rfl ?_
      refine g_iconst X rfl (v := nI 0) (by decide) ?_
      refine g_put X rfl flX8_170 rfl (ci := 8) rfl (by (repeat (first | exact hM | exact upA_eq | refine (upA_ne (by omega)).trans ?_))) (Nat.le_of_ble_eq_true rfl) (show narrow .boolean (.int (nI 0)) = .int (nI 0) from by decide) (by first | rfl | decide) ?_
      first | rw [upA_up] | skip
      refine g_vret X rfl rfl (Nat.le_of_ble_eq_true rfl) (Nat.le_of_ble_eq_true rfl) ⟨rfl, ?_⟩
      exact ⟨rfl, by rw [show i = 522 by omega]; rfl⟩
    · refine g_aload_n X rfl rfl ?_
      refine g_get X rfl flX8_16 (ci := 8) rfl (by (repeat (first | exact hM | exact upA_eq | refine (upA_ne (by omega)).trans ?_))) rfl ?_
      refine g_iload_n X rfl rfl ?_
      refine g_aload_n X rfl rfl ?_
      refine g_get X rfl flX8_13 (ci := 8) rfl (by (repeat (first | exact hM | exact upA_eq | refine (upA_ne (by omega)).trans ?_))) rfl ?_
      refine g_iload_n X rfl rfl ?_
      refine g_ialdN X rfl ((upA_ne (by decide)).trans hr) (by omega) (by decide) ?_
      refine g_iastN X rfl hn2 (by omega) (by decide) ?_
      rw [upA_up]
      refine g_iinc1 X rfl rfl (by decide) ?_
      refine g_goto X rfl ?_
      have K9 := ih (i + 1) (by omega) (by omega) (by omega)
      rw [show cpF r 0 rd (i + 1) = upd (cpF r 0 rd i) i (rd i) by rw [← cpF_s, Nat.zero_add]] at K9
      exact K9
set_option maxRecDepth 100000 in
set_option maxHeartbeats 400000 in
theorem cm_X8_takeRead (l : Launch) (D : va_G) (cy : Nat → ClassId) (B : Nat) (od : Nat → Option Nat) {A : AH} {f : MF} {mb rd r sv hy : Nat → Int32} (hD : MdA cy A f mb rd r sv hy)  : CM l D cy B od yX8_takeRead cX8_takeRead 2 none rmX8_takeRead [.ref 231] A (fun v A' => v = none ∧ A' = upA (upA A 234 (.inl (cy 0, 522, .inl (cpF r 0 rd 522)))) 231 (moE (fSv (fN f 0) (nI 0)))) := by
  intro z
  refine CT.of (by decide) tX8_takeRead okX8_takeRead (Nat.le_of_ble_eq_true rfl) (q0 := tX8_takeRead[0]) rfl rfl ?_
  intro p e s m args below meth c X _
  obtain ⟨hM, hb, hr, hn, hs, hh, -⟩ := id hD
  refine g_iconst X rfl (v := nI 0) (by decide) ?_
  refine g_istore_n X rfl (by decide) ?_
  refine G.cast (A2 := upA A 234 (.inl (cy 0, 522, .inl (cpF r 0 rd 0)))) (by rw [cpF_0]; exact (upA_same hn).symm) ?_
  exact lp_X8_takeRead l D cy B od hD X 523 0 (by omega) (by omega) (by omega)
