/-! 58: what couples the two: rows, ranges, histories, bytes -/
def C0 (S : StV) (r : Nat → Int32) : Prop := r 0 = S.2.2.2.2.2
def CZ (Z : SV) (r : Nat → Int32) : Prop := (r 1 = Z.2.1 1 ∧ r 2 = Z.2.1 2 ∧ r 3 = Z.2.1 3 ∧ r 4 = Z.2.1 4 ∧ r 5 = nI Z.1) ∧ (∀ k, k < Z.1 → r (6 + 2 * k) = Z.2.2 0 k ∧ r (7 + 2 * k) = Z.2.2 1 k)
def CRm (Rm : RV) (r : Nat → Int32) : Prop := r 16 = nI Rm.1 ∧ ∀ k, k < Rm.1 → ∀ q, q < 3 → r (17 + 3 * k + q) = Rm.2 q k
def CEn (En : EV) (r : Nat → Int32) : Prop := r 35 = nI En.1 ∧ ∀ k, k < En.1 → ∀ q, q < 7 → r (36 + 7 * k + q) = En.2 q k
def CAs (As : RV) (r : Nat → Int32) : Prop := r 456 = nI As.1 ∧ ∀ k, k < As.1 → ∀ q, q < 5 → r (457 + 5 * k + q) = As.2 (if q < 3 then q else q + 1) k
def CPq (n : Nat) (g : Nat → Int32) (r : Nat → Int32) : Prop := r 517 = nI n ∧ ∀ q, q < n → r (518 + q) = g q
theorem CplR.mk {Z : SV} {S : StV} {r : Nat → Int32} (h0 : C0 S r) (hZ : CZ Z r) (h1 : CRm S.2.1 r) (h2 : CEn S.1 r) (h3 : CAs S.2.2.1 r) (h4 : CPq S.2.2.2.2.1 S.2.2.2.1 r) : CplR Z S r := ⟨h0, hZ.1, hZ.2, h1, h2, h3, h4⟩
theorem CplR.out {Z : SV} {S : StV} {r : Nat → Int32} (h : CplR Z S r) : C0 S r ∧ CZ Z r ∧ CRm S.2.1 r ∧ CEn S.1 r ∧ CAs S.2.2.1 r ∧ CPq S.2.2.2.2.1 S.2.2.2.1 r := ⟨h.1, ⟨h.2.1, h.2.2.1⟩, h.2.2.2.1, h.2.2.2.2.1, h.2.2.2.2.2.1, h.2.2.2.2.2.2⟩
section FRS
variable {Z : SV} {S : StV} {r r2 : Nat → Int32}
theorem CZ.fr (h : CZ Z r) (hz : Z.1 ≤ 5) (e : ∀ q, 1 ≤ q → q < 16 → r2 q = r q) : CZ Z r2 :=
  ⟨⟨(e 1 (by omega) (by omega)).trans h.1.1, (e 2 (by omega) (by omega)).trans h.1.2.1, (e 3 (by omega) (by omega)).trans h.1.2.2.1, (e 4 (by omega) (by omega)).trans h.1.2.2.2.1, (e 5 (by omega) (by omega)).trans h.1.2.2.2.2⟩, fun k hk => ⟨(e _ (by omega) (by omega)).trans (h.2 k hk).1, (e _ (by omega) (by omega)).trans (h.2 k hk).2⟩⟩
theorem CRm.fr {Rm : RV} (h : CRm Rm r) (hz : Rm.1 ≤ 6) (e : ∀ q, 16 ≤ q → q < 35 → r2 q = r q) : CRm Rm r2 :=
  ⟨(e 16 (by omega) (by omega)).trans h.1, fun k hk q hq => (e _ (by omega) (by omega)).trans (h.2 k hk q hq)⟩
theorem CEn.fr {En : EV} (h : CEn En r) (hz : En.1 ≤ 60) (e : ∀ q, 35 ≤ q → q < 456 → r2 q = r q) : CEn En r2 :=
  ⟨(e 35 (by omega) (by omega)).trans h.1, fun k hk q hq => (e _ (by omega) (by omega)).trans (h.2 k hk q hq)⟩
theorem CAs.fr {As : RV} (h : CAs As r) (hz : As.1 ≤ 12) (e : ∀ q, 456 ≤ q → q < 517 → r2 q = r q) : CAs As r2 :=
  ⟨(e 456 (by omega) (by omega)).trans h.1, fun k hk q hq => (e _ (by omega) (by omega)).trans (h.2 k hk q hq)⟩
theorem CPq.fr {n : Nat} {g : Nat → Int32} (h : CPq n g r) (hz : n ≤ 4) (e : ∀ q, 517 ≤ q → q < 522 → r2 q = r q) : CPq n g r2 :=
  ⟨(e 517 (by omega) (by omega)).trans h.1, fun q hq => (e _ (by omega) (by omega)).trans (h.2 q hq)⟩
/-- a row is what its 522 numbers are -/
theorem CplR.cong (h : CplR Z S r) (hw : WfS S) (hz : Z.1 ≤ 5) (e : ∀ q, q < 522 → r2 q = r q) : CplR Z S r2 := by
  obtain ⟨h0, h1, h2, h3, h4, h5⟩ := h.out
  exact CplR.mk ((e 0 (by omega)).trans h0) (h1.fr hz fun q _ _ => e q (by omega)) (h2.fr hw.2.1 fun q _ _ => e q (by omega)) (h3.fr hw.1 fun q _ _ => e q (by omega)) (h4.fr hw.2.2.1 fun q _ _ => e q (by omega)) (h5.fr hw.2.2.2.1 fun q _ _ => e q (by omega))
theorem CplR.ste {S2 : StV} (h : CplR Z S r) (he : StE S S2) : CplR Z S2 r := by
  obtain ⟨h0, h1, h2, h3, h4, h5⟩ := h.out
  obtain ⟨a1, a2, a3, a4, a5, a6, a7, a8, a9⟩ := he
  refine CplR.mk (h0.trans a8.symm) h1 ⟨by rw [a3]; exact h2.1, fun k hk q hq => ?_⟩ ⟨by rw [a1]; exact h3.1, fun k hk q hq => ?_⟩ ⟨by rw [a5]; exact h4.1, fun k hk q hq => ?_⟩ ⟨by rw [a7]; exact h5.1, fun q hq => ?_⟩
  · rw [a3] at hk; rw [a4 q k hk]; exact h2.2 k hk q hq
  · rw [a1] at hk; rw [a2 q k hk]; exact h3.2 k hk q hq
  · rw [a5] at hk; rw [a6 _ k hk]; exact h4.2 k hk q hq
  · rw [a7] at hq; rw [a9 q hq]; exact h5.2 q hq
def RE (En : EV) : Prop := ∀ k, k < En.1 → inN (En.2 0 k) 0 3 ∧ inN (En.2 1 k) 0 9 ∧ inN (En.2 2 k) 1 10000000 ∧ inN (En.2 3 k) 0 359 ∧ (En.2 4 k = -1 ∨ inN (En.2 4 k) 0 359)
def RRm (Rm : RV) : Prop := ∀ k, k < Rm.1 → inN (Rm.2 0 k) 1 500 ∧ (Rm.2 1 k = -1 ∨ ∃ a b, a ≤ b ∧ b ≤ 359 ∧ Rm.2 1 k = nI a ∧ Rm.2 2 k = nI b)
def RAs (Z : SV) (As : RV) : Prop := ∀ k, k < As.1 → inN (As.2 0 k) 1 5000000 ∧ inN (As.2 1 k) 0 359 ∧ inN (As.2 2 k) 1 120 ∧ As.2 3 k = sSort Z (As.2 0 k) ∧ (As.2 4 k = -1 ∨ inN (As.2 4 k) 0 359 ∧ inN (As.2 5 k) 0 5000000)
def RPq (n : Nat) (g : Nat → Int32) : Prop := ∀ q, q < n → inN (g q) 0 1000000000
theorem Rng.ste {S2 : StV} (h : Rng Z S) (he : StE S S2) : Rng Z S2 := by
  obtain ⟨h1, h2, h3, h4⟩ := h
  obtain ⟨a1, a2, a3, a4, a5, a6, a7, a8, a9⟩ := he
  refine ⟨fun k hk => ?_, fun k hk => ?_, fun k hk => ?_, fun q hq => ?_⟩
  · rw [a1] at hk; simp only [a2 _ k hk]; exact h1 k hk
  · rw [a3] at hk; simp only [a4 _ k hk]; exact h2 k hk
  · rw [a5] at hk; simp only [a6 _ k hk]; exact h3 k hk
  · rw [a7] at hq; rw [a9 q hq]; exact h4 q hq
end FRS
/-- the j-th of the states in a history, the oldest first -/
def hK (K : HV) (j : Nat) : StV := K.2.2 ((K.1 + 8 - K.2.1 + j) % 8)
def CplH (Z : SV) (K : HV) (hy : Nat → Int32) : Prop := ∀ j, j < K.2.1 → CplR Z (hK K j) (fun q => hy (522 * j + q)) ∧ Rng Z (hK K j)
theorem CplH.rem {Z : SV} {K : HV} {hy r : Nat → Int32} {S2 : StV} (h : CplH Z K hy) (hw : WfH K) (hw2 : WfS S2) (hz : Z.1 ≤ 5) (hc : CplR Z S2 r) (hg : Rng Z S2) : CplH Z (remK K S2) (recH hy K.2.1 r) := by
  obtain ⟨n1, n2, n3⟩ := hw
  intro j hj
  have e1 : (remK K S2).1 = (K.1 + 1) % 8 := rfl
  have e2 : (remK K S2).2.1 = if K.2.1 < 8 then K.2.1 + 1 else 8 := rfl
  have e3 : ∀ q, (remK K S2).2.2 q = if q = K.1 then S2 else K.2.2 q := fun _ => rfl
  rw [e2] at hj
  unfold hK
  rw [e1, e2, e3]
  by_cases h8 : K.2.1 < 8
  · rw [if_pos h8] at hj ⊢
    have er : recH hy K.2.1 r = cpF hy (522 * K.2.1) r 522 := if_neg (by omega)
    rw [er]
    by_cases hj2 : j = K.2.1
    · rw [if_pos (by omega)]
      refine ⟨hc.cong hw2 hz fun q hq => ?_, hg⟩
      show cpF hy (522 * K.2.1) r 522 (522 * j + q) = r q
      unfold cpF
      rw [if_pos (by omega), show 522 * j + q - 522 * K.2.1 = q by omega]
    · rw [if_neg (by omega), show ((K.1 + 1) % 8 + 8 - (K.2.1 + 1) + j) % 8 = (K.1 + 8 - K.2.1 + j) % 8 by omega]
      obtain ⟨c1, c2⟩ := h j (by omega)
      refine ⟨c1.cong (n3 _ (by omega)).1 hz fun q hq => ?_, c2⟩
      show cpF hy (522 * K.2.1) r 522 (522 * j + q) = hy (522 * j + q)
      unfold cpF
      rw [if_neg (by omega)]
  · rw [if_neg h8] at hj ⊢
    have h9 : K.2.1 = 8 := by omega
    have er : recH hy K.2.1 r = cpF (shF 522 hy 4176) (522 * 7) r 522 := if_pos h9
    rw [er]
    by_cases hj2 : j = 7
    · rw [if_pos (by omega)]
      refine ⟨hc.cong hw2 hz fun q hq => ?_, hg⟩
      show cpF (shF 522 hy 4176) (522 * 7) r 522 (522 * j + q) = r q
      unfold cpF
      rw [if_pos (by omega), show 522 * j + q - 522 * 7 = q by omega]
    · rw [if_neg (by omega), show ((K.1 + 1) % 8 + 8 - 8 + j) % 8 = (K.1 + 8 - K.2.1 + (j + 1)) % 8 by omega]
      obtain ⟨c1, c2⟩ := h (j + 1) (by omega)
      refine ⟨c1.cong (n3 _ (by omega)).1 hz fun q hq => ?_, c2⟩
      show cpF (shF 522 hy 4176) (522 * 7) r 522 (522 * j + q) = hy (522 * (j + 1) + q)
      unfold cpF
      rw [if_neg (by omega)]
      unfold shF
      rw [if_pos (by omega), show 522 * j + q + 522 = 522 * (j + 1) + q by omega]
theorem recN_eq {K : HV} (h : K.2.1 ≤ 8) (S2 : StV) : recN K.2.1 = (remK K S2).2.1 := by
  show recN K.2.1 = if K.2.1 < 8 then K.2.1 + 1 else 8
  unfold recN
  by_cases h9 : K.2.1 = 8
  · rw [if_pos h9, if_neg (by omega)]
  · rw [if_neg h9, if_pos (by omega)]
theorem CplH.nil {Z : SV} {K : HV} {hy : Nat → Int32} (h : K.2.1 = 0) : CplH Z K hy := fun j hj => by omega
theorem CplH.back {Z : SV} {K : HV} {hy : Nat → Int32} (h : CplH Z K hy) (hw : WfH K) (h0 : 0 < K.2.1) : CplH Z ((K.1 + 7) % 8, K.2.1 - 1, K.2.2) hy := by
  obtain ⟨n1, n2, n3⟩ := hw
  intro j hj
  have hj2 : j < K.2.1 - 1 := hj
  have e : hK ((K.1 + 7) % 8, K.2.1 - 1, K.2.2) j = hK K j := by
    show K.2.2 (((K.1 + 7) % 8 + 8 - (K.2.1 - 1) + j) % 8) = K.2.2 _
    rw [show ((K.1 + 7) % 8 + 8 - (K.2.1 - 1) + j) % 8 = (K.1 + 8 - K.2.1 + j) % 8 by omega]
  rw [e]
  exact h j (by omega)
theorem hK_last {K : HV} (hw : WfH K) (h0 : 0 < K.2.1) : hK K (K.2.1 - 1) = K.2.2 ((K.1 + 7) % 8) := by
  obtain ⟨n1, n2, n3⟩ := hw
  unfold hK
  rw [show (K.1 + 8 - K.2.1 + (K.2.1 - 1)) % 8 = (K.1 + 7) % 8 by omega]
/-- bytes of the two buffers -/
def CplB (n : Nat) (mb bu : Nat → Int32) : Prop := ∀ j, j < n → mb j = bu j ∧ inN (bu j) 0 255
theorem CplB.sub {n k : Nat} {mb bu : Nat → Int32} (h : CplB n mb bu) (hk : k ≤ n) : CplB k mb bu := fun j hj => h j (by omega)
theorem cp0 {r g : Nat → Int32} {q : Nat} (h : q < 522) : cpF r 0 g 522 q = g q := by
  unfold cpF
  rw [if_pos (by omega), Nat.sub_zero]
/-- all that couples them -/
def CPL (W : LW) (f : MF) (mb r sv hy : Nat → Int32) : Prop := (CplR (vZ W.1) (vS W.1) r ∧ Rng (vZ W.1) (vS W.1) ∧ RngZ (vZ W.1)) ∧ (f.2.1.1 = W.1.2.1 ∧ CplB W.1.2.1 mb W.2.1) ∧ (f.2.2.2.2 = W.1.2.2.1 ∧ (W.1.2.2.1 = nI 0 ∨ W.1.2.2.1 = nI 1 ∧ CplR (vZ W.1) W.2.2.1 sv ∧ Rng (vZ W.1) W.2.2.1)) ∧ (f.2.2.1 = W.2.2.2.2.1 ∧ CplH (vZ W.1) W.2.2.2 hy)
def OutA (cy : Nat → ClassId) (A : AH) : Prop := (∃ g, A 238 = some (.inl (cy 1, 1, .inr (.inl g)))) ∧ ∃ g, A 239 = some (.inl (cy 3, 1, .inr (.inr (.inr (.inl g)))))
def INV (cy : Nat → ClassId) (A : AH) (W : LW) (f : MF) (mb rd r sv hy : Nat → Int32) : Prop := LedA cy A W ∧ MdA cy A f mb rd r sv hy ∧ CPL W f mb r sv hy ∧ OutA cy A
section FRM
variable {cy : Nat → ClassId} {A A2 : AH} {W : LW} {f f2 : MF} {mb rd r sv hy rd2 : Nat → Int32}
theorem LedA.fr (h : LedA cy A W) (e : ∀ k, k < 231 → A2 k = A k) : LedA cy A2 W := by
  have hu := h.u
  have on : ∀ {x y : Nat}, y ≤ 231 → SameOn A A2 x y := fun hy9 k _ hk => e k (by omega)
  obtain ⟨⟨a1, a2, a3, a4, a5⟩, b1, ⟨Rm, c1, c2⟩, ⟨d1, d2⟩, ⟨e1, e2⟩, ⟨f1, f2⟩, ⟨f, g1⟩, h1⟩ := h
  exact ⟨⟨(e _ (by omega)).trans a1, a2.same (on (by omega)), a3, SetA.same (b := W.1.1) (on (by omega)) a4, a5⟩, b1, ⟨Rm, RoomA.same (b := W.1.1 + 3) (on (by omega)) c1, c2⟩, ⟨(e _ (by omega)).trans d1, d2⟩, ⟨e1.same (on (by omega)), e2⟩, ⟨f1.same (on (by omega)), f2⟩, ⟨f, (e _ (by omega)).trans g1⟩, h1.same (on (by omega))⟩
theorem MdA.fr (h : MdA cy A f mb rd r sv hy) (e : ∀ k, 231 ≤ k → k < 238 → A2 k = A k) : MdA cy A2 f mb rd r sv hy := by
  obtain ⟨h1, h2, h3, h4, h5, h6, g9, h7⟩ := h
  exact ⟨(e _ (by omega) (by omega)).trans h1, (e _ (by omega) (by omega)).trans h2, (e _ (by omega) (by omega)).trans h3, (e _ (by omega) (by omega)).trans h4, (e _ (by omega) (by omega)).trans h5, (e _ (by omega) (by omega)).trans h6, g9, (e _ (by omega) (by omega)).trans h7⟩
theorem OutA.fr (h : OutA cy A) (e : ∀ k, 238 ≤ k → A2 k = A k) : OutA cy A2 := by
  obtain ⟨⟨g1, h1⟩, g2, h2⟩ := h
  exact ⟨⟨g1, (e _ (by omega)).trans h1⟩, g2, (e _ (by omega)).trans h2⟩
theorem OutA.o8 (h : OutA cy A) {g : Nat → Int64} : OutA cy (upA A 238 (.inl (cy 1, 1, .inr (.inl g)))) := ⟨⟨g, upA_eq⟩, h.2.choose, (upA_ne (by decide)).trans h.2.choose_spec⟩
theorem OutA.o9 (h : OutA cy A) {g : Nat → UInt64} : OutA cy (upA A 239 (.inl (cy 3, 1, .inr (.inr (.inr (.inl g)))))) := ⟨⟨h.1.choose, (upA_ne (by decide)).trans h.1.choose_spec⟩, g, upA_eq⟩
theorem INV.mdr (h : INV cy A W f mb rd r sv hy) : MdR cy A f r (vZ W.1) (vS W.1) := ⟨h.2.1.1, h.2.1.2.2.2.1, h.2.2.1.1.1, h.1.1.2.2.1, h.1.2.1, h.1.1.2.2.2.2⟩
theorem INV.vw (h : INV cy A W f mb rd r sv hy) : VwA cy A W.1 := h.1.1
theorem INV.o0 (h : INV cy A W f mb rd r sv hy) : ∃ fs, A 0 = some (.inr (7, fs)) := ⟨_, h.1.1.1⟩
theorem INV.e8 (h : INV cy A W f mb rd r sv hy) : f.2.2.1 ≤ 8 := by
  rw [h.2.2.1.2.2.2.1]; exact h.1.2.2.2.2.2.1.2.2.1
theorem INV.l4 (h : INV cy A W f mb rd r sv hy) : f.2.1.1 ≤ 400 := by
  rw [h.2.2.1.2.1.1]; exact h.1.2.2.2.1.2
/-- out, the days' balances, a number of what was thrown: nothing else -/
theorem INV.out8 (h : INV cy A W f mb rd r sv hy) {g : Nat → Int64} : INV cy (upA A 238 (.inl (cy 1, 1, .inr (.inl g)))) W f mb rd r sv hy := ⟨h.1.fr fun k hk => upA_ne (by omega), h.2.1.fr fun k _ hk => upA_ne (by omega), h.2.2.1, h.2.2.2.o8⟩
theorem INV.out9 (h : INV cy A W f mb rd r sv hy) {g : Nat → UInt64} : INV cy (upA A 239 (.inl (cy 3, 1, .inr (.inr (.inr (.inl g)))))) W f mb rd r sv hy := ⟨h.1.fr fun k hk => upA_ne (by omega), h.2.1.fr fun k _ hk => upA_ne (by omega), h.2.2.1, h.2.2.2.o9⟩
theorem INV.thr (h : INV cy A W f mb rd r sv hy) {w : Int32} : INV cy (upA A 231 (moE (w, f.2))) W (w, f.2) mb rd r sv hy := ⟨h.1.fr fun k hk => upA_ne (by omega), h.2.1.uf _, h.2.2.1, h.2.2.2.fr fun k hk => upA_ne (by omega)⟩
theorem INV.u7 (h : INV cy A W f mb rd r sv hy) {g : Nat → Int64} : INV cy (upA A 237 (bX cy g)) W f mb rd r sv hy := by
  refine ⟨h.1.fr fun k hk => upA_ne (by omega), ?_, h.2.2.1, h.2.2.2.fr fun k hk => upA_ne (by omega)⟩
  obtain ⟨h1, h2, h3, h4, h5, h6, g9, h7⟩ := h.2.1
  exact ⟨(upA_ne (by decide)).trans h1, (upA_ne (by decide)).trans h2, (upA_ne (by decide)).trans h3, (upA_ne (by decide)).trans h4, (upA_ne (by decide)).trans h5, (upA_ne (by decide)).trans h6, g, upA_eq⟩
/-- the class did its part, and the world with it -/
theorem INV.led (h : INV cy A W f mb rd r sv hy) (hf : SameOff A A2 0 231) (hL : LedA cy A2 W) : INV cy A2 W f mb rd r sv hy := ⟨hL, h.2.1.fr fun k h1 _ => hf k (by omega), h.2.2.1, h.2.2.2.fr fun k hk => hf k (by omega)⟩
end FRM
