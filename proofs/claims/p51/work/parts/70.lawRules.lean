/-! 70: the law: its table, its end, what holds at its loop's head -/
def R_law : String := "CashLedgerLaw"
def lw_P (b : Addr) (xs : List Int32) (args : Array Value) (s : State) : Prop := args = #[.ref b] ∧ s.IntsAt b xs ∧ xs.length ≤ 260 ∧ (Jvm.Cond.and given_1 narrow_1).before args s = true
def lw_Q (_ : Array Value) (s : State) (o : Outcome) (t : State) : Prop := o = .returned (some (.int 1)) ∧ Framed s o t [] 641696 7176609
def lw_Z (below : List Frame) (a : Array Value) (s : State) : State → Prop := fun t => ∃ o, t.status = .running ∧ Ended t below o ∧ lw_Q a s o t
/-- the law's own end, with 1 on the stack, nothing written that was there before, its room as the claim has it -/
theorem lw_ret {p : Program} {l : Launch} {e : Env} {s : State} {m : MethodId} {below : List Frame} {meth : Method} {c : Code} {b : Nat} (hx : p.tables.exec = Jvm.exec) (hb : c.code = code) (hr : meth.sig.returnType = ret) (hlocks : meth.locks = false) {pc : Nat} {H : Heap} {ls : Array Slot} (hdg : decode code pc = .ok (.ireturn, 1)) : W p l e room_1 s m #[Value.ref b] below meth c H [] 641696 7176609 (lw_Z below #[Value.ref b] s) (F0 m pc ls [.int 1]) := by
  intro T hT X
  obtain ⟨fs, hret, hrun, hended, hW, hframe⟩ := X.leave (v := some (.int 1)) (hlocks := hlocks) (fun h => by rw [hr] at h; cases h)
  have hmeth' : T.vm.method? m = some meth := X.method'
  refine ⟨T.setFrames fs, ?_, .returned (some (.int 1)), hrun, hended, rfl, ⟨_, rfl⟩, hW, hframe⟩
  jvm_step X.here [X.here.top, hx, hb, hdg, hmeth', hr, ret, narrow_b1]
  (try refine ⟨rfl, ?_⟩); (try refine ⟨rfl, ?_⟩)
  first | (intro acts; rw [hret _ acts rfl rfl rfl]) | rw [hret _ _ rfl rfl rfl]
  exact Steps.refl _
/-- what holds at the law's entry: the machine, the code, the tables' words (any of lw_tbl by 'hts w (by decide +kernel)'), the script of L ints xs at the cell b, what the Statement gives of the start (any of its parts by flat_of_before) -/
def lw_At (p : Program) (s : State) (m : MethodId) (meth : Method) (c : Code) (b L : Nat) (xs : Nat → Int32) : Prop :=
  p.tables.exec = Jvm.exec ∧ c.code = code ∧ meth.sig.returnType = ret ∧ c.maxLocals = 10 ∧ s.vm.findClass R_law = some m.cls ∧ (∀ w ∈ lw_tbl, w.before #[Value.ref b] s = true) ∧ va_X b L xs s s.heap ∧ b < s.heap.size ∧ meth.locks = false ∧ (Jvm.Cond.and given_1 narrow_1).before #[Value.ref b] s = true
def tL : List PT := [(0, .new 15, 3, 1, 0), (3, .dup, 1, 2, 0), (4, .invokespecial 177, 3, 3, 0), (7, .astore_n 1, 1, 4, 0), (8, .aload_n 1, 1, 5, 0), (9, .invokestatic 178, 3, 6, 0), (12, .ldc 22, 2, 7, 0), (14, .if_icmp .ne 42, 3, 8, 26), (17, .aload_n 1, 1, 9, 0), (18, .invokestatic 180, 3, 10, 0), (21, .ldc 22, 2, 11, 0), (23, .if_icmp .ne 33, 3, 12, 26), (26, .aload_n 1, 1, 13, 0), (27, .invokestatic 182, 3, 14, 0), (30, .ldc 29, 2, 15, 0), (32, .if_icmp .ne 24, 3, 16, 26), (35, .aload_n 1, 1, 17, 0), (36, .iconst 0, 1, 18, 0), (37, .iconst 0, 1, 19, 0), (38, .invokestatic 158, 3, 20, 0), (41, .ldc 58, 2, 21, 0), (43, .if_icmp .ne 13, 3, 22, 26), (46, .invokestatic 184, 3, 23, 0), (49, .aload_n 1, 1, 24, 0), (50, .invokevirtual 188, 3, 25, 0), (53, .ifCond .ne 5, 3, 26, 28), (56, .iconst 0, 1, 27, 0), (57, .ireturn, 1, 28, 0), (58, .aload_n 0, 1, 29, 0), (59, .invokestatic 192, 3, 30, 0), (62, .astore_n 2, 1, 31, 0), (63, .aload_n 1, 1, 32, 0), (64, .aload_n 2, 1, 33, 0), (65, .invokevirtual 196, 3, 34, 0), (68, .invokestatic 200, 3, 35, 0), (71, .ifCond .eq 33, 3, 36, 50), (74, .aload_n 1, 1, 37, 0), (75, .invokevirtual 204, 3, 38, 0), (78, .iconst (-1), 1, 39, 0), (79, .if_icmp .ne 25, 3, 40, 50), (82, .aload_n 1, 1, 41, 0), (83, .invokestatic 182, 3, 42, 0), (86, .aload_n 2, 1, 43, 0), (87, .getfield 105, 3, 44, 0), (90, .invokevirtual 97, 3, 45, 0), (93, .if_icmp .ne 11, 3, 46, 50), (96, .aload_n 2, 1, 47, 0), (97, .aload_n 1, 1, 48, 0), (98, .invokevirtual 188, 3, 49, 0), (101, .ifCond .ne 5, 3, 50, 52), (104, .iconst 0, 1, 51, 0), (105, .ireturn, 1, 52, 0), (106, .new 98, 3, 53, 0), (109, .dup, 1, 54, 0), (110, .invokespecial 207, 3, 55, 0), (113, .astore_n 3, 1, 56, 0), (114, .aconst_null, 1, 57, 0), (115, .astore 4, 2, 58, 0), (117, .iconst 0, 1, 59, 0), (118, .istore 5, 2, 60, 0), (120, .iload 5, 2, 61, 0), (122, .bipush 60, 2, 62, 0), (124, .if_icmp .ge 302, 3, 63, 216), (127, .aload_n 0, 1, 64, 0), (128, .iconst 3, 1, 65, 0), (129, .iload 5, 2, 66, 0), (131, .bipush 40, 2, 67, 0), (133, .irem, 1, 68, 0), (134, .iadd, 1, 69, 0), (135, .ldc 208, 2, 70, 0), (137, .invokestatic 209, 3, 71, 0), (140, .sipush 983, 3, 72, 0), (143, .iload 5, 2, 73, 0), (145, .imul, 1, 74, 0), (146, .iadd, 1, 75, 0), (147, .istore 6, 2, 76, 0), (149, .iload 6, 2, 77, 0), (151, .bipush 13, 2, 78, 0), (153, .irem, 1, 79, 0), (154, .ifCond .ne 154, 3, 80, 156), (157, .iload 6, 2, 81, 0), (159, .bipush 13, 2, 82, 0), (161, .idiv, 1, 83, 0), (162, .iconst 4, 1, 84, 0), (163, .irem, 1, 85, 0), (164, .iconst 2, 1, 86, 0), (165, .if_icmp .ge 54, 3, 87, 113), (168, .aload_n 1, 1, 88, 0), (169, .invokestatic 178, 3, 89, 0), (172, .aload_n 3, 1, 90, 0), (173, .invokevirtual 213, 3, 91, 0), (176, .ifCond .eq 8, 3, 92, 94), (179, .ldc 22, 2, 93, 0), (181, .goto 9, 3, 94, 98), (184, .aload_n 3, 1, 95, 0), (185, .invokevirtual 97, 3, 96, 0), (188, .iconst 1, 1, 97, 0), (189, .isub, 1, 98, 0), (190, .if_icmp .eq 5, 3, 99, 101), (193, .iconst 0, 1, 100, 0), (194, .ireturn, 1, 101, 0), (195, .aload_n 3, 1, 102, 0), (196, .invokevirtual 213, 3, 103, 0), (199, .ifCond .ne 200, 3, 104, 203), (202, .aload_n 3, 1, 105, 0), (203, .aload_n 3, 1, 106, 0), (204, .invokevirtual 97, 3, 107, 0), (207, .iconst 1, 1, 108, 0), (208, .isub, 1, 109, 0), (209, .invokevirtual 217, 3, 110, 0), (212, .checkcast 92, 3, 111, 0), (215, .astore_n 2, 1, 112, 0), (216, .goto 183, 3, 113, 203), (219, .iload 6, 2, 114, 0), (221, .bipush 13, 2, 115, 0), (223, .idiv, 1, 116, 0), (224, .iconst 4, 1, 117, 0), (225, .irem, 1, 118, 0), (226, .iconst 2, 1, 119, 0), (227, .if_icmp .ne 32, 3, 120, 134), (230, .aload_n 1, 1, 121, 0), (231, .invokevirtual 220, 3, 122, 0), (234, .aload_n 2, 1, 123, 0), (235, .getfield 91, 3, 124, 0), (238, .invokevirtual 97, 3, 125, 0), (241, .if_icmp .eq 5, 3, 126, 128), (244, .iconst 0, 1, 127, 0), (245, .ireturn, 1, 128, 0), (246, .new 92, 3, 129, 0), (249, .dup, 1, 130, 0), (250, .aload_n 2, 1, 131, 0), (251, .invokespecial 223, 3, 132, 0), (254, .astore 4, 2, 133, 0), (256, .goto 143, 3, 134, 203), (259, .aload_n 1, 1, 135, 0), (260, .invokestatic 180, 3, 136, 0), (263, .aload 4, 2, 137, 0), (265, .ifnonnull 8, 3, 138, 140), (268, .ldc 22, 2, 139, 0), (270, .goto 11, 3, 140, 143), (273, .aload 4, 2, 141, 0), (275, .getfield 91, 3, 142, 0), (278, .invokevirtual 97, 3, 143, 0), (281, .if_icmp .eq 5, 3, 144, 146), (284, .iconst 0, 1, 145, 0), (285, .ireturn, 1, 146, 0), (286, .aload 4, 2, 147, 0), (288, .ifnull 111, 3, 148, 203), (291, .new 92, 3, 149, 0), (294, .dup, 1, 150, 0), (295, .aload 4, 2, 151, 0), (297, .invokespecial 223, 3, 152, 0), (300, .astore_n 2, 1, 153, 0), (301, .aload_n 3, 1, 154, 0), (302, .invokevirtual 226, 3, 155, 0), (305, .goto 94, 3, 156, 203), (308, .new 92, 3, 157, 0), (311, .dup, 1, 158, 0), (312, .aload_n 2, 1, 159, 0), (313, .invokespecial 223, 3, 160, 0), (316, .astore 7, 2, 161, 0), (318, .iload 6, 2, 162, 0), (320, .bipush 13, 2, 163, 0), (322, .idiv, 1, 164, 0), (323, .bipush 14, 2, 165, 0), (325, .irem, 1, 166, 0), (326, .istore 8, 2, 167, 0), (328, .aload_n 2, 1, 168, 0), (329, .iload 8, 2, 169, 0), (331, .iload 6, 2, 170, 0), (333, .sipush 182, 3, 171, 0), (336, .idiv, 1, 172, 0), (337, .invokestatic 229, 3, 173, 0), (340, .istore 9, 2, 174, 0), (342, .aload_n 1, 1, 175, 0), (343, .aload 7, 2, 176, 0), (345, .iload 8, 2, 177, 0), (347, .iload 6, 2, 178, 0), (349, .sipush 182, 3, 179, 0), (352, .idiv, 1, 180, 0), (353, .invokestatic 233, 3, 181, 0), (356, .iload 9, 2, 182, 0), (358, .if_icmp .eq 5, 3, 183, 185), (361, .iconst 0, 1, 184, 0), (362, .ireturn, 1, 185, 0), (363, .iload 9, 2, 186, 0), (365, .invokestatic 237, 3, 187, 0), (368, .ifCond .eq 9, 3, 188, 191), (371, .aload 7, 2, 189, 0), (373, .astore_n 2, 1, 190, 0), (374, .goto 25, 3, 191, 203), (377, .aload_n 3, 1, 192, 0), (378, .invokevirtual 97, 3, 193, 0), (381, .bipush 8, 2, 194, 0), (383, .if_icmp .ne 9, 3, 195, 199), (386, .aload_n 3, 1, 196, 0), (387, .iconst 0, 1, 197, 0), (388, .invokevirtual 217, 3, 198, 0), (391, .pop, 1, 199, 0), (392, .aload_n 3, 1, 200, 0), (393, .aload 7, 2, 201, 0), (395, .invokevirtual 121, 3, 202, 0), (398, .pop, 1, 203, 0), (399, .aload_n 2, 1, 204, 0), (400, .aload_n 1, 1, 205, 0), (401, .invokevirtual 188, 3, 206, 0), (404, .ifCond .eq 14, 3, 207, 212), (407, .aload_n 1, 1, 208, 0), (408, .invokevirtual 241, 3, 209, 0), (411, .aload_n 3, 1, 210, 0), (412, .invokevirtual 97, 3, 211, 0), (415, .if_icmp .eq 5, 3, 212, 214), (418, .iconst 0, 1, 213, 0), (419, .ireturn, 1, 214, 0), (420, .iinc 5 1, 3, 215, 0), (423, .goto (-303), 3, 216, 60), (426, .aload_n 1, 1, 217, 0), (427, .invokestatic 244, 3, 218, 0), (430, .ifCond .eq 15, 3, 219, 225), (433, .aload_n 2, 1, 220, 0), (434, .aload_n 1, 1, 221, 0), (435, .invokevirtual 188, 3, 222, 0), (438, .ifCond .eq 7, 3, 223, 225), (441, .iconst 1, 1, 224, 0), (442, .goto 4, 3, 225, 226), (445, .iconst 0, 1, 226, 0), (446, .ireturn, 1, 0, 0)]
set_option maxRecDepth 100000 in
theorem okL : OkTab cL_law tL := ⟨by decide +kernel, by decide +kernel⟩
section CORE70
variable {p : Program} {l : Launch} {e : Env} {R : Room} {s : State} {m : MethodId} {args : Array Value} {below : List Frame} {meth : Method} {c : Code}
variable {D : va_G} {cy : Nat → ClassId} {B : Nat} {od : Nat → Option Nat} {cc : ByteArray} {nL : Nat} {tab : List PT} {own : String} {ret : Option FieldType}
variable {F : State → Prop} {cells slots : Nat} {A : AH} {z i pc len nx tg : Nat} {lv : List (Option Value)} {st : List Value}
theorem g_ifnullN (X : Cx p s m args meth c D cy B od cc nL tab own ret) {d : Int} (hi : tab[i]? = some (pc, .ifnull d, 3, nx, tg)) (kk : G p l e R s m args below meth c D B od nL tab F cells slots A z tg lv st) : G p l e R s m args below meth c D B od nL tab F cells slots A z i lv (.null :: st) := by
  intro q hq H locs ls hR hS hl
  cases Option.some.inj (hi.symm.trans hq)
  obtain ⟨q3, hq3, e3⟩ := X.2.2.2.1.br hi rfl
  exact lv_ifnullN X.1.1 X.1.2.1 (X.2.2.2.1.dec hi) e3 (kk q3 hq3 H locs ls hR hS hl)
theorem g_ifnonnullN (X : Cx p s m args meth c D cy B od cc nL tab own ret) {d : Int} (hi : tab[i]? = some (pc, .ifnonnull d, 3, nx, tg)) (kk : G p l e R s m args below meth c D B od nL tab F cells slots A z nx lv st) : G p l e R s m args below meth c D B od nL tab F cells slots A z i lv (.null :: st) := by
  intro q hq H locs ls hR hS hl
  cases Option.some.inj (hi.symm.trans hq)
  obtain ⟨q2, hq2, e2⟩ := X.2.2.2.1.fall hi rfl
  have K := kk q2 hq2 H locs ls hR hS hl
  rw [e2] at K
  exact lv_ifnonnullN X.1.1 X.1.2.1 (X.2.2.2.1.dec hi) K
theorem g_astoreN (X : Cx p s m args meth c D cy B od cc nL tab own ret) {k : Nat} (hi : tab[i]? = some (pc, .astore k, 2, nx, tg)) (hn : k < nL) (hs : lsafe lv k = true) (kk : G p l e R s m args below meth c D B od nL tab F cells slots A z nx (lv.set k (some .null)) st) : G p l e R s m args below meth c D B od nL tab F cells slots A z i lv (.null :: st) := by
  intro q hq H locs ls hR hS hl
  cases Option.some.inj (hi.symm.trans hq)
  obtain ⟨q2, hq2, e2⟩ := X.2.2.2.1.fall hi rfl
  obtain ⟨l2, h2, h3⟩ := hl.set1 (v := .null) hn rfl
  refine lv_astoreN X.1.1 X.1.2.1 (X.2.2.2.1.dec hi) hl.has hn h2 (fun ls2 hl2 => ?_)
  have K := kk q2 hq2 H locs ls2 hR hS (lset1_s (lv := lv) (v := .null) hs ▸ h3 ls2 hl2)
  rw [e2] at K
  exact K
/-- the law's own end -/
theorem g_lawend (X : Cx p s m args meth c D cy B od cc nL tab own ret) {b : Nat} (ha : args = #[Value.ref b]) (hb : cc = code) (hr : ret = some .boolean) (hR : R = room_1) (hB : s.heap.size ≤ B) (hi : tab[i]? = some (pc, .ireturn, 1, nx, tg)) (hc : cells ≤ room_1.cells) (hs : slots ≤ room_1.slots) : G p l e R s m args below meth c D B od nL tab (lw_Z below args s) cells slots A z i lv [.int (nI 1)] := by
  intro q hq H locs ls hR2 hS hl
  cases Option.some.inj (hi.symm.trans hq)
  subst ha
  subst hR
  have h0 := W.forget (L := locs) (fun q hq => Nat.le_trans hB (hS.2.2 q hq)) (W.widen hc hs (lw_ret (p := p) (l := l) (e := e) (m := m) (below := below) (meth := meth) (c := c) (b := b) (H := H) (ls := ls) (pc := pc) X.1.1 (X.1.2.1.trans hb) (X.2.2.2.2.1.trans hr) X.2.2.2.2.2.1 (hb ▸ X.2.2.2.1.dec hi)))
  rw [List.nil_append] at h0
  exact h0
end CORE70
def svV : Option Nat → Value
  | none => .null
  | some b => .ref b
/-- the law's locals in its loop -/
abbrev lwL (g hk : Nat) (sv : Option Nat) (i : Nat) (o6 o7 o8 o9 : Option Value) : List (Option Value) := [some (.ref 4000000), some (.ref 0), some (.ref g), some (.ref hk), some (svV sv), some (.int (nI i)), o6, o7, o8, o9]
theorem sv_c2 : ∀ sv, isC2 (some (some (svV sv))) = false := fun sv => by cases sv <;> rfl
/-- the j-th state that can be had back -/
def hisS (W : LW) (j : Nat) : StV := W.2.2.2.2.2 ((W.2.2.2.1 + 8 - W.2.2.2.2.1 + j) % 8)
/-- what holds at the loop's head -/
def LHd (cy : Nat → ClassId) (A : AH) (W : LW) (hk g : Nat) (sv : Option Nat) : Prop := LedA cy A W ∧ RngZ (vZ W.1) ∧ Inv3 (vZ W.1) (vS W.1) ∧ (∀ j, j < W.2.2.2.2.1 → Inv3 (vZ W.1) (hisS W j)) ∧ ((sv = none ∧ W.1.2.2.1 = 0) ∨ ∃ b, sv = some b ∧ ¬ W.1.2.2.1 = 0 ∧ Inv3 (vZ W.1) W.2.2.1) ∧ ∃ own mc ed f, Pk cy A (vZ W.1) own hk mc ed W.2.2.2.2.1 f g (vS W.1) (hisS W) (fun b T => sv = some b ∧ T = W.2.2.1)
theorem LedA.z {cy : Nat → ClassId} {A : AH} {W : LW} {z : Nat} (h : LedA cy A W) (hF : FRs A z) : 231 ≤ z := by
  obtain ⟨x, hx⟩ := h.has (k := 230) (by decide)
  exact hF.lt hx
/-- ledger cells that stay -/
theorem LedA.st {cy : Nat → ClassId} {A A' : AH} {W : LW} (h : LedA cy A W) (hf : ∀ q y, q < 231 → A q = some y → A' q = some y) : LedA cy A' W := h.off (fun k hk => by
  obtain ⟨x, hx⟩ := h.has hk
  rw [hx]
  exact hf k x hk hx)
set_option maxRecDepth 100000 in
set_option maxHeartbeats 400000 in
theorem law_tail (l : Launch) (D : va_G) (cy : Nat → ClassId) (B : Nat) (od : Nat → Option Nat) (hl9 : l.stackTraces = false) {p : Program} {e : Env} {s : State} {m : MethodId} {args : Array Value} {below : List Frame} {meth : Method} {c : Code} {A : AH} {W : LW} {hk g : Nat} {sv : Option Nat} {cl sl i z : Nat} {o6 o7 o8 o9 : Option Value} (X : Cx p s m args meth c D cy B od cL_law 10 tL RL (some .boolean)) (hB : s.heap.size ≤ B) (hcl : cl + 2600 ≤ 600000 ∧ sl + 16000 ≤ 7000000) (h : LHd cy A W hk g sv) (kk : ∀ A', LHd cy A' W hk g sv → G p l e room_1 s m args below meth c D B od 10 tL (lw_Z below args s) (cl + 2600) (sl + 16000) A' (0) 60 (lwL g hk sv (i + 1) o6 o7 o8 o9) []) : G p l e room_1 s m args below meth c D B od 10 tL (lw_Z below args s) cl sl A (z) 203 (lwL g hk sv i o6 o7 o8 o9) [] := by
  obtain ⟨hL, hgz, hi, hH, hsv, own, mc, ed, f, hP⟩ := h
  obtain ⟨hcl1, hcl2⟩ := hcl
  refine g_fr X (fun z1 hF hz1 _ _ => ?_)
  have hz231 := hL.z hF
  obtain ⟨hg231, L, hb, hhi, hft⟩ := hP.2.hi hL hP.1.1
  have hz232 : 232 ≤ z1 := by have := hF.lt hb.1.1; omega
  refine g_aload_n X rfl rfl ?_
  refine g_aload_n X rfl rfl ?_
  refine g_callV X rfl lcX8_isAs lmL_188 lsX8_isAs (ct_X8_isAs l D cy B od hl9 hb.1 hL rfl rfl hi.1 hL.1.2.2.1 hL.2.1 hi.2.1 hhi z1 hF (by omega) (by omega)) (ci := 8) hb.1.1 rfl rfl rfl (Nat.le_of_ble_eq_true rfl) ⟨by decide, by decide⟩ ⟨by show cl + 2600 ≤ 641696; omega, by show sl + 16000 ≤ 7176609; omega⟩ (fun v1 A1 z2 q1 => ?_)
  obtain ⟨rfl, hL1, hfr, z3, rfl, -, -, hF1⟩ := q1
  have hP1 := hP.led hF (by omega) hL (fun q y hq hy => hfr q hq y hy)
  refine g_if_eq X rfl (fun h => absurd h (by decide)) (fun _ => ?_)
  · skip
    refine g_aload_n X rfl rfl ?_
    refine g_mV X rfl lcX7_undoCount lmL_241 lsX7_undoCount (cm_X7_undoCount l D cy B od hL1) (ci := 7) hL1.1.1 rfl rfl rfl (Nat.le_of_ble_eq_true rfl) ⟨⟨by decide, by decide⟩, rfl, rfl⟩ ⟨by show cl + 2600 ≤ 641696; omega, by show sl + 16000 ≤ 7176609; omega⟩ (fun v2 A2 q2 => ?_)
    obtain ⟨rfl, rfl⟩ := q2
    refine g_aload_n X rfl rfl ?_
    refine g_rV X rfl lcJx4a65c_size_8abf5 lmL_97 lsJx4a65c_size_8abf5 (cr_size l D cy B od hP1.1.2.2.1) (ci := 9) hP1.1.2.2.1.1 rfl rfl rfl (Nat.le_of_ble_eq_true rfl) ⟨⟨by decide, by decide⟩, rfl, rfl⟩ ⟨by show cl + 2600 ≤ 641696; omega, by show sl + 16000 ≤ 7176609; omega⟩ ?_
    refine g_icmp_eq X rfl (fun _ => ?_) (fun h => absurd rfl h)
    · skip
      refine g_iinc1S X rfl rfl (by decide) (by cases sv <;> rfl) ?_
      refine g_goto X rfl ?_
      exact g_z0 (kk A2 ⟨hL1, hgz, hi, hH, hsv, own, mc, ed, f, hP1⟩)
