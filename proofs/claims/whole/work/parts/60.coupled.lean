/-! 60: buffers, saves, history and texts keep the two coupled -/
section IRS
variable {cy : Nat → ClassId} {A A1 A3 : AH} {W : LW} {f f2 : MF} {mb rd r sv hy rd2 r9 : Nat → Int32} {g : Nat → Int64}
theorem INV.o3 (h : INV cy A W f mb rd r sv hy) (hf : SameOff A A1 0 231) (hM : MOff (upA A1 238 (.inl (cy 1, 1, .inr (.inl g)))) A3) : OutA cy A3 := (OutA.o8 (h.2.2.2.fr fun k hk => hf k (by omega))).fr fun k hk => hM k (Or.inr hk)
theorem INV.m1 (h : INV cy A W f mb rd r sv hy) (hf : SameOff A A1 0 231) : MdA cy (upA A1 238 (.inl (cy 1, 1, .inr (.inl g)))) f mb rd r sv hy := (h.2.1.fr fun k h1 _ => hf k (by omega)).fr fun k h1 h2 => upA_ne (by omega)
theorem INV.mr1 (h : INV cy A W f mb rd r sv hy) (hf : SameOff A A1 0 231) : MdR cy (upA A1 238 (.inl (cy 1, 1, .inr (.inl g)))) f r (vZ W.1) (vS W.1) := by
  have h1 := h.m1 (g := g) hf
  exact ⟨h1.1, h1.2.2.2.1, h.mdr.2.2⟩
theorem INV.l3 {W9 : LW} (hL : LedA cy A1 W9) (hM : MOff (upA A1 238 (.inl (cy 1, 1, .inr (.inl g)))) A3) : LedA cy A3 W9 := hL.fr fun k hk => (hM k (Or.inl hk)).trans (upA_ne (by omega))
theorem INV.trun (h : INV cy A W f mb rd r sv hy) {x : Int32} {y9 : Value} (ho : ocTrun W.1 x = .inr y9) (hf : SameOff A A1 0 231) (hL : LedA cy A1 ((W.1.1, x.toNatClampNeg, W.1.2.2), W.2)) (hM : MOff (upA A1 238 (.inl (cy 1, 1, .inr (.inl g)))) A3) (hD : MdA cy A3 (fL (nI 0, f.2) x.toNatClampNeg) mb rd r sv hy) : ∃ W9, INV cy A3 W9 (fL (nI 0, f.2) x.toNatClampNeg) mb rd r sv hy := by
  obtain ⟨hL0, hD0, ⟨p1, ⟨q1, q2⟩, s1, t1⟩, hO⟩ := id h
  refine ⟨_, INV.l3 hL hM, hD, ⟨p1, ⟨rfl, q2.sub ?_⟩, s1, t1⟩, h.o3 hf hM⟩
  have h400 := hL0.2.2.2.1.2
  unfold ocTrun at ho
  split at ho
  · rename_i hx
    obtain ⟨i, h1, rfl⟩ := wi_of hx (by omega)
    rw [nI_clamp (by omega)]; exact h1
  · cases ho
theorem app_oc (h : INV cy A W f mb rd r sv hy) {a b c d e : Int32} : ocApp ((4, f.2.1.1, 0, vS W.1, vZ W.1) : LV) a b c d e (mPu (mb, f.2.1.1) (byM a b c d e) 20).2 = ocApp W.1 a b c d e (putL (W.2.1, W.1.2.1) [a, b, c, d, e]).2 ∧ (∀ y9, ocApp W.1 a b c d e (putL (W.2.1, W.1.2.1) [a, b, c, d, e]).2 = .inr y9 → Bu (mPu (mb, f.2.1.1) (byM a b c d e) 20) (putL (W.2.1, W.1.2.1) [a, b, c, d, e])) := by
  obtain ⟨hL0, hD0, ⟨p1, ⟨q1, q2⟩, s1, t1⟩, hO⟩ := id h
  have hb : Bu (mb, f.2.1.1) (W.2.1, W.1.2.1) := ⟨q1, fun j hj => (q2 j hj).1⟩
  have hl : ∀ (_ : W.1.2.1 + (bCnt a 4 + bCnt b 4 + bCnt c 4 + bCnt d 4 + bCnt e 4) ≤ 400), Bu (mPu (mb, f.2.1.1) (byM a b c d e) 20) (putL (W.2.1, W.1.2.1) [a, b, c, d, e]) := fun q => hb.all (by rw [cM_20]; show f.2.1.1 + _ ≤ 400; rw [q1]; exact q)
  constructor
  · show (if f.2.1.1 + (bCnt a 4 + bCnt b 4 + bCnt c 4 + bCnt d 4 + bCnt e 4) ≤ 400 then _ else _) = if W.1.2.1 + (bCnt a 4 + bCnt b 4 + bCnt c 4 + bCnt d 4 + bCnt e 4) ≤ 400 then _ else _
    rw [q1]
    by_cases q : W.1.2.1 + (bCnt a 4 + bCnt b 4 + bCnt c 4 + bCnt d 4 + bCnt e 4) ≤ 400
    · have hh := (hl q).1
      rw [q1] at hh
      rw [if_pos q, if_pos q, hh]
    · rw [if_neg q, if_neg q]
  · intro y9 hy9
    unfold ocApp at hy9
    split at hy9
    · rename_i q; exact hl q
    · cases hy9
theorem INV.app (h : INV cy A W f mb rd r sv hy) {a b c d e : Int32} {y9 : Value} (ho : ocApp W.1 a b c d e (putL (W.2.1, W.1.2.1) [a, b, c, d, e]).2 = .inr y9) (hf : SameOff A A1 0 231) (hL : LedA cy A1 ((W.1.1, (putL (W.2.1, W.1.2.1) [a, b, c, d, e]).2, W.1.2.2), (putL (W.2.1, W.1.2.1) [a, b, c, d, e]).1, W.2.2)) (hM : MOff (upA A1 238 (.inl (cy 1, 1, .inr (.inl g)))) A3) (hD : MdA cy A3 (fL (nI 0, f.2) (mPu (mb, f.2.1.1) (byM a b c d e) 20).2) (mPu (mb, f.2.1.1) (byM a b c d e) 20).1 rd r sv hy) : ∃ W9, INV cy A3 W9 (fL (nI 0, f.2) (mPu (mb, f.2.1.1) (byM a b c d e) 20).2) (mPu (mb, f.2.1.1) (byM a b c d e) 20).1 rd r sv hy := by
  have hB := (app_oc h).2 y9 ho
  obtain ⟨hL0, hD0, ⟨p1, ⟨q1, q2⟩, s1, t1⟩, hO⟩ := id h
  refine ⟨_, INV.l3 hL hM, hD, ⟨p1, ⟨hB.1, fun j hj => ?_⟩, s1, t1⟩, h.o3 hf hM⟩
  have hj : j < (putL (W.2.1, W.1.2.1) [a, b, c, d, e]).2 := hj
  have hR := mPu_rng (st := (mb, f.2.1.1)) (g := byM a b c d e) (fun j hj => by
    obtain ⟨e1, n, -, n2, n3⟩ := q2 j (by rw [← q1]; exact hj)
    exact ⟨n, n2, e1.trans n3⟩) (fun i => byW_rng _ _) 20 j (by rw [hB.1]; exact hj)
  obtain ⟨n, n1, n2⟩ := hR
  exact ⟨hB.2 j hj, n, Nat.zero_le _, n1, (hB.2 j hj).symm.trans n2⟩
theorem INV.undo (h : INV cy A W f mb rd r sv hy) {S2 : StV} (hf : SameOff A A1 0 231) (h0 : 0 < W.2.2.2.2.1) (hE : StE (W.2.2.2.2.2 ((W.2.2.2.1 + 7) % 8)) S2) (hL : LedA cy A1 (vNow W.1 S2, W.2.1, W.2.2.1, ((W.2.2.2.1 + 7) % 8, W.2.2.2.2.1 - 1, W.2.2.2.2.2))) (hM : MOff (upA A1 238 (.inl (cy 1, 1, .inr (.inl g)))) A3) (hD : MdA cy A3 (fN (nI 0, f.2) (f.2.2.1 - 1)) mb rd (cpF r 0 (fun q => hy (522 * (f.2.2.1 - 1) + q)) 522) sv hy) : ∃ W9, INV cy A3 W9 (fN (nI 0, f.2) (f.2.2.1 - 1)) mb rd (cpF r 0 (fun q => hy (522 * (f.2.2.1 - 1) + q)) 522) sv hy := by
  obtain ⟨hL0, hD0, ⟨⟨p1, p2, p3⟩, q1, s1, t1, t2⟩, hO⟩ := id h
  have hH := hL0.2.2.2.2.2.1.2
  have hz : (vZ W.1).1 ≤ 5 := hL0.1.2.2.2.2
  have hk := t2 (W.2.2.2.2.1 - 1) (by omega)
  rw [hK_last hH h0] at hk
  have hwS : WfS (W.2.2.2.2.2 ((W.2.2.2.1 + 7) % 8)) := (hH.2.2 _ (by omega)).1
  refine ⟨_, INV.l3 hL hM, hD, ⟨⟨?_, hk.2.ste hE, p3⟩, q1, s1, ?_, t2.back hH h0⟩, h.o3 hf hM⟩
  · show CplR (vZ W.1) S2 _
    refine (hk.1.ste hE).cong (hE.wf hwS) hz fun q hq => ?_
    rw [t1]
    exact cp0 hq
  · show f.2.2.1 - 1 = W.2.2.2.2.1 - 1
    rw [t1]
theorem INV.save (h : INV cy A W f mb rd r sv hy) {S2 : StV} (hf : SameOff A A1 0 231) (hE : StE (vS W.1) S2) (hL : LedA cy A1 ((W.1.1, W.1.2.1, nI 1, W.1.2.2.2), W.2.1, S2, W.2.2.2)) (hM : MOff A1 A3) (hD : MdA cy A3 (fSv (nI 0, f.2) (nI 1)) mb rd r (cpF sv 0 r 522) hy) : ∃ W9, INV cy A3 W9 (fSv (nI 0, f.2) (nI 1)) mb rd r (cpF sv 0 r 522) hy := by
  obtain ⟨hL0, hD0, ⟨⟨p1, p2, p3⟩, q1, s1, t1, t2⟩, hO⟩ := id h
  have hz : (vZ W.1).1 ≤ 5 := hL0.1.2.2.2.2
  refine ⟨_, hL.fr fun k hk => hM k (Or.inl hk), hD, ⟨⟨p1, p2, p3⟩, q1, ⟨rfl, Or.inr ⟨rfl, ?_, p2.ste hE⟩⟩, t1, t2⟩, (hO.fr fun k hk => hf k (by omega)).fr fun k hk => hM k (Or.inr hk)⟩
  exact (p1.ste hE).cong (hE.wf hL0.1.2.2.1) hz fun q hq => cp0 hq
theorem rest_oc (h : INV cy A W f mb rd r sv hy) : ∃ q9 : Bool, f.2.2.2.2 = bI q9 ∧ (if q9 = true then .inr (.int (sv 35)) else .inl eISE : OC) = ocRest W ∧ (q9 = true → CplR (vZ W.1) W.2.2.1 sv ∧ Rng (vZ W.1) W.2.2.1) := by
  obtain ⟨hL0, hD0, ⟨⟨p1, p2, p3⟩, q1, ⟨s1, s2⟩, t1, t2⟩, hO⟩ := id h
  rcases s2 with s2 | ⟨s2, s3, s4⟩
  · refine ⟨false, s1.trans s2, ?_, fun q => by cases q⟩
    unfold ocRest
    rw [if_pos (show W.1.2.2.1 = 0 from s2)]; rfl
  · refine ⟨true, s1.trans s2, ?_, fun _ => ⟨s3, s4⟩⟩
    unfold ocRest
    rw [if_pos rfl, if_neg (by rw [s2]; decide), s3.out.2.2.2.1.1]
theorem INV.rest (h : INV cy A W f mb rd r sv hy) {S2 : StV} (hc : CplR (vZ W.1) W.2.2.1 sv ∧ Rng (vZ W.1) W.2.2.1) (hf : SameOff A A1 0 231) (hE : StE W.2.2.1 S2) (hL : LedA cy A1 (vNow W.1 S2, W.2.1, W.2.2.1, (0, 0, W.2.2.2.2.2))) (hM : MOff (upA A1 238 (.inl (cy 1, 1, .inr (.inl g)))) A3) (hD : MdA cy A3 (fN (nI 0, f.2) 0) mb rd (cpF r 0 sv 522) sv hy) : ∃ W9, INV cy A3 W9 (fN (nI 0, f.2) 0) mb rd (cpF r 0 sv 522) sv hy := by
  obtain ⟨hL0, hD0, ⟨⟨p1, p2, p3⟩, q1, s1, t1, t2⟩, hO⟩ := id h
  have hz : (vZ W.1).1 ≤ 5 := hL0.1.2.2.2.2
  refine ⟨_, INV.l3 hL hM, hD, ⟨⟨?_, hc.2.ste hE, p3⟩, q1, s1, rfl, CplH.nil rfl⟩, h.o3 hf hM⟩
  exact (hc.1.ste hE).cong (hE.wf hL0.2.2.2.2.1.2.1) hz fun q hq => cp0 hq
/-- a text was read, and nothing else came of it -/
theorem INV.err (h : INV cy A W f mb rd r sv hy) {th : Int32} (hf : SameOff A A1 0 231) (hL : LedA cy A1 W) (hM : MOff A1 A3) (hD : MdA cy A3 f2 mb rd2 r sv hy) (hF : fPr f2 th f.2.1.1 f.2.2.1 f.2.2.2.2) : INV cy A3 W f2 mb rd2 r sv hy := by
  obtain ⟨hL0, hD0, ⟨p1, ⟨q1, q2⟩, ⟨s1, s2⟩, t1, t2⟩, hO⟩ := id h
  obtain ⟨-, b1, b2, b3⟩ := hF
  exact ⟨hL.fr fun k hk => hM k (Or.inl hk), hD, ⟨p1, ⟨b1.trans q1, q2⟩, ⟨b3.trans s1, s2⟩, b2.trans t1, t2⟩, (hO.fr fun k hk => hf k (by omega)).fr fun k hk => hM k (Or.inr hk)⟩
theorem INV.load (h : INV cy A W f mb rd r sv hy) {t : Nat} {c2 : Nat → Nat → Int32} {Z9 : SV} {Rm9 : RV} (hf : SameOff A A1 0 231) (hc2 : ∀ q j, j < Rm9.1 → c2 q j = Rm9.2 q j) (hL : LedA cy A1 ((t, 0, nI 0, ((0, (vS W.1).1.2), (Rm9.1, c2), (0, (vS W.1).2.2.1.2), (vS W.1).2.2.2.1, 0, Z9.2.1 0), Z9), W.2.1, W.2.2.1, (0, 0, W.2.2.2.2.2))) (hM : MOff (upA A1 238 (.inl (cy 1, 1, .inr (.inl g)))) A3) (hD : MdA cy A3 f2 mb rd2 (cpF r 0 rd2 522) sv hy) (hF : fPr f2 (nI 0) 0 0 (nI 0)) (hR : RdC rd2 Z9 Rm9) (hG : RgP Z9 Rm9) : ∃ W9, INV cy A3 W9 f2 mb rd2 (cpF r 0 rd2 522) sv hy := by
  obtain ⟨-, b1, b2, b3⟩ := hF
  have hE : StE (S0 Z9 Rm9) ((0, (vS W.1).1.2), (Rm9.1, c2), (0, (vS W.1).2.2.1.2), (vS W.1).2.2.2.1, 0, Z9.2.1 0) := ⟨rfl, fun _ j hj => absurd hj (Nat.not_lt_zero j), rfl, hc2, rfl, fun _ j hj => absurd hj (Nat.not_lt_zero j), rfl, rfl, fun j hj => absurd hj (Nat.not_lt_zero j)⟩
  refine ⟨_, INV.l3 hL hM, hD, ⟨⟨?_, hG.1.ste hE, hG.2.1⟩, ⟨b1, fun j hj => absurd hj (Nat.not_lt_zero j)⟩, ⟨b3, Or.inl rfl⟩, b2, CplH.nil rfl⟩, h.o3 hf hM⟩
  exact (CplR.ste hR hE).cong hL.1.2.2.1 hG.2.2.1 fun q hq => cp0 hq
end IRS
