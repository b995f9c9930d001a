/-! 25: string constants: length and charAt -/
def tJ0_length_8abf5 : List PT := [(0, .aload_n 0, 1, 1, 0), (1, .getfield 9, 3, 2, 0), (4, .arraylength, 1, 3, 0), (5, .aload_n 0, 1, 4, 0), (6, .invokevirtual 335, 3, 5, 0), (9, .ishr, 1, 6, 0), (10, .ireturn, 1, 7, 0)]
set_option maxRecDepth 100000 in
theorem okJ0_length_8abf5 : OkTab cJ0_length_8abf5 tJ0_length_8abf5 := ⟨by decide +kernel, by decide +kernel⟩
abbrev rmJ0_length_8abf5 : Room := { frames := 1, cells := 0, slots := 0, locals := 20 }
theorem lcJ0_length_8abf5 : LkC yJ0_length_8abf5 cJ0_length_8abf5 1 (some .int) 0 := ⟨lw_good_in (n := 443) (by decide +kernel) rfl, lw_good_in (n := 76) (by decide +kernel) rfl, ⟨by decide +kernel, by decide +kernel⟩, by decide +kernel⟩
theorem lsJ0_length_8abf5 : LkSel yJ0_length_8abf5 := ⟨lw_good_in (n := 441) (by decide +kernel) rfl, lw_good_in (n := 442) (by decide +kernel) rfl⟩
def tJ0_coder_7d493 : List PT := [(0, .getstatic 38, 3, 1, 0), (3, .ifCond .eq 10, 3, 2, 5), (6, .aload_n 0, 1, 3, 0), (7, .getfield 15, 3, 4, 0), (10, .goto 4, 3, 5, 6), (13, .iconst 1, 1, 6, 0), (14, .ireturn, 1, 7, 0)]
set_option maxRecDepth 100000 in
theorem okJ0_coder_7d493 : OkTab cJ0_coder_7d493 tJ0_coder_7d493 := ⟨by decide +kernel, by decide +kernel⟩
abbrev rmJ0_coder_7d493 : Room := { frames := 0, cells := 0, slots := 0, locals := 0 }
theorem lcJ0_coder_7d493 : LkC yJ0_coder_7d493 cJ0_coder_7d493 1 (some .byte) 0 := ⟨lw_good_in (n := 447) (by decide +kernel) rfl, lw_good_in (n := 76) (by decide +kernel) rfl, ⟨by decide +kernel, by decide +kernel⟩, by decide +kernel⟩
theorem lsJ0_coder_7d493 : LkSel yJ0_coder_7d493 := ⟨lw_good_in (n := 445) (by decide +kernel) rfl, lw_good_in (n := 446) (by decide +kernel) rfl⟩
def tJ0_charAt_5068e : List PT := [(0, .aload_n 0, 1, 1, 0), (1, .invokevirtual 492, 3, 2, 0), (4, .ifCond .eq 12, 3, 3, 8), (7, .aload_n 0, 1, 4, 0), (8, .getfield 9, 3, 5, 0), (11, .iload_n 1, 1, 6, 0), (12, .invokestatic 495, 3, 7, 0), (15, .ireturn, 1, 8, 0), (16, .aload_n 0, 1, 9, 0), (17, .getfield 9, 3, 10, 0), (20, .iload_n 1, 1, 11, 0), (21, .invokestatic 498, 3, 12, 0), (24, .ireturn, 1, 13, 0)]
set_option maxRecDepth 100000 in
theorem okJ0_charAt_5068e : OkTab cJ0_charAt_5068e tJ0_charAt_5068e := ⟨by decide +kernel, by decide +kernel⟩
abbrev rmJ0_charAt_5068e : Room := { frames := 3, cells := 0, slots := 0, locals := 64 }
theorem lcJ0_charAt_5068e : LkC yJ0_charAt_5068e cJ0_charAt_5068e 2 (some .char) 1 := ⟨lw_good_in (n := 453) (by decide +kernel) rfl, lw_good_in (n := 76) (by decide +kernel) rfl, ⟨by decide +kernel, by decide +kernel⟩, by decide +kernel⟩
theorem lsJ0_charAt_5068e : LkSel yJ0_charAt_5068e := ⟨lw_good_in (n := 451) (by decide +kernel) rfl, lw_good_in (n := 452) (by decide +kernel) rfl⟩
def tJ0_isLatin1_aae02 : List PT := [(0, .getstatic 38, 3, 1, 0), (3, .ifCond .eq 14, 3, 2, 7), (6, .aload_n 0, 1, 3, 0), (7, .getfield 15, 3, 4, 0), (10, .ifCond .ne 7, 3, 5, 7), (13, .iconst 1, 1, 6, 0), (14, .goto 4, 3, 7, 8), (17, .iconst 0, 1, 8, 0), (18, .ireturn, 1, 9, 0)]
set_option maxRecDepth 100000 in
theorem okJ0_isLatin1_aae02 : OkTab cJ0_isLatin1_aae02 tJ0_isLatin1_aae02 := ⟨by decide +kernel, by decide +kernel⟩
abbrev rmJ0_isLatin1_aae02 : Room := { frames := 0, cells := 0, slots := 0, locals := 0 }
theorem lcJ0_isLatin1_aae02 : LkC yJ0_isLatin1_aae02 cJ0_isLatin1_aae02 1 (some .boolean) 0 := ⟨lw_good_in (n := 457) (by decide +kernel) rfl, lw_good_in (n := 76) (by decide +kernel) rfl, ⟨by decide +kernel, by decide +kernel⟩, by decide +kernel⟩
theorem lsJ0_isLatin1_aae02 : LkSel yJ0_isLatin1_aae02 := ⟨lw_good_in (n := 455) (by decide +kernel) rfl, lw_good_in (n := 456) (by decide +kernel) rfl⟩
def tJ0_checkIndex_df160 : List PT := [(0, .iload_n 0, 1, 1, 0), (1, .iload_n 1, 1, 2, 0), (2, .getstatic 1053, 3, 3, 0), (5, .invokestatic 1059, 3, 4, 0), (8, .pop, 1, 5, 0), (9, .return_, 1, 6, 0)]
set_option maxRecDepth 100000 in
theorem okJ0_checkIndex_df160 : OkTab cJ0_checkIndex_df160 tJ0_checkIndex_df160 := ⟨by decide +kernel, by decide +kernel⟩
abbrev rmJ0_checkIndex_df160 : Room := { frames := 1, cells := 0, slots := 0, locals := 22 }
theorem lcJ0_checkIndex_df160 : LkC yJ0_checkIndex_df160 cJ0_checkIndex_df160 2 none 2 := ⟨lw_good_in (n := 463) (by decide +kernel) rfl, lw_good_in (n := 76) (by decide +kernel) rfl, ⟨by decide +kernel, by decide +kernel⟩, by decide +kernel⟩
theorem stJ0_checkIndex_df160 : Cond.static yJ0_checkIndex_df160 ∈ lw_good := lw_good_in (n := 462) (by decide +kernel) rfl
def tJ1_charAt_3b067 : List PT := [(0, .iload_n 1, 1, 1, 0), (1, .aload_n 0, 1, 2, 0), (2, .arraylength, 1, 3, 0), (3, .invokestatic 9, 3, 4, 0), (6, .aload_n 0, 1, 5, 0), (7, .iload_n 1, 1, 6, 0), (8, .baload, 1, 7, 0), (9, .sipush 255, 3, 8, 0), (12, .iand, 1, 9, 0), (13, .i2c, 1, 10, 0), (14, .ireturn, 1, 11, 0)]
set_option maxRecDepth 100000 in
theorem okJ1_charAt_3b067 : OkTab cJ1_charAt_3b067 tJ1_charAt_3b067 := ⟨by decide +kernel, by decide +kernel⟩
abbrev rmJ1_charAt_3b067 : Room := { frames := 2, cells := 0, slots := 0, locals := 43 }
theorem lcJ1_charAt_3b067 : LkC yJ1_charAt_3b067 cJ1_charAt_3b067 2 (some .char) 2 := ⟨lw_good_in (n := 460) (by decide +kernel) rfl, lw_good_in (n := 77) (by decide +kernel) rfl, ⟨by decide +kernel, by decide +kernel⟩, by decide +kernel⟩
theorem stJ1_charAt_3b067 : Cond.static yJ1_charAt_3b067 ∈ lw_good := lw_good_in (n := 459) (by decide +kernel) rfl
def tJ3_checkIndex_8e157 : List PT := [(0, .iload_n 0, 1, 1, 0), (1, .ifCond .lt 8, 3, 2, 5), (4, .iload_n 0, 1, 3, 0), (5, .iload_n 1, 1, 4, 0), (6, .if_icmp .lt 10, 3, 5, 10), (9, .aload_n 2, 1, 6, 0), (10, .iload_n 0, 1, 7, 0), (11, .iload_n 1, 1, 8, 0), (12, .invokestatic 95, 3, 9, 0), (15, .athrow, 1, 10, 0), (16, .iload_n 0, 1, 11, 0), (17, .ireturn, 1, 12, 0)]
set_option maxRecDepth 100000 in
theorem okJ3_checkIndex_8e157 : OkTab cJ3_checkIndex_8e157 tJ3_checkIndex_8e157 := ⟨by decide +kernel, by decide +kernel⟩
abbrev rmJ3_checkIndex_8e157 : Room := { frames := 0, cells := 0, slots := 0, locals := 0 }
theorem lcJ3_checkIndex_8e157 : LkC yJ3_checkIndex_8e157 cJ3_checkIndex_8e157 3 (some .int) 3 := ⟨lw_good_in (n := 468) (by decide +kernel) rfl, lw_good_in (n := 78) (by decide +kernel) rfl, ⟨by decide +kernel, by decide +kernel⟩, by decide +kernel⟩
theorem stJ3_checkIndex_8e157 : Cond.static yJ3_checkIndex_8e157 ∈ lw_good := lw_good_in (n := 467) (by decide +kernel) rfl
theorem lmJ0_335 : LkM RJ0 335 yJ0_coder_7d493 := lw_good_in (n := 444) (by decide +kernel) rfl
theorem lmJ0_492 : LkM RJ0 492 yJ0_isLatin1_aae02 := lw_good_in (n := 454) (by decide +kernel) rfl
theorem lmJ0_495 : LkM RJ0 495 yJ1_charAt_3b067 := lw_good_in (n := 458) (by decide +kernel) rfl
theorem lmJ1_9 : LkM RJ1 9 yJ0_checkIndex_df160 := lw_good_in (n := 461) (by decide +kernel) rfl
theorem lmJ0_1059 : LkM RJ0 1059 yJ3_checkIndex_8e157 := lw_good_in (n := 466) (by decide +kernel) rfl
theorem lmX5_155 : LkM RX5 155 yJ0_length_8abf5 := lw_good_in (n := 440) (by decide +kernel) rfl
theorem lmX5_159 : LkM RX5 159 yJ0_charAt_5068e := lw_good_in (n := 450) (by decide +kernel) rfl
theorem fsV : Cond.fieldLink RJ0 9 "java/lang/String" "value" "[B" ∈ lw_good := lw_good_in (n := 1061) (by decide +kernel) rfl
theorem fsC : Cond.fieldLink RJ0 15 "java/lang/String" "coder" "B" ∈ lw_good := lw_good_in (n := 1062) (by decide +kernel) rfl
theorem fsK : Cond.fieldLink RJ0 38 "java/lang/String" "COMPACT_STRINGS" "Z" ∈ lw_good := lw_good_in (n := 448) (by decide +kernel) rfl
theorem fsF : Cond.fieldLink RJ0 1053 "jdk/internal/util/Preconditions" "SIOOBE_FORMATTER" "Ljava/util/function/BiFunction;" ∈ lw_good := lw_good_in (n := 464) (by decide +kernel) rfl
/-- the bytes of string j -/
abbrev sB (j : Nat) : List Int32 := strB.getD j []
theorem sB_len : ∀ j, j < 39 → (sB j).length < 256 := by decide
theorem sB_ch : ∀ j, j < 39 → ∀ k, k < (sB j).length → (((sB j).getD k 0 &&& nI 255).toUInt32 % 65536).toInt32 = (sB j).getD k 0 ∧ narrow .char (.int ((sB j).getD k 0)) = .int ((sB j).getD k 0) := by decide +kernel
theorem rho_od {B : Nat} {od : Nat → Option Nat} {k a : Nat} (h : od k = some a) : rho B od k = a := by unfold rho; rw [h]
section CORE25
variable {p : Program} {l : Launch} {e : Env} {R : Room} {s : State} {m : MethodId} {args : Array Value} {below : List Frame} {meth : Method} {c : Code}
variable {D : va_G} {cy : Nat → ClassId} {B : Nat} {od : Nat → Option Nat} {cc : ByteArray} {nL : Nat} {tab : List PT} {own : String} {ret : Option FieldType}
variable {F : State → Prop} {cells slots : Nat} {A : AH} {z i pc len nx tg : Nat} {lv : List (Option Value)} {st : List Value}
theorem Cx.str (X : Cx p s m args meth c D cy B od cc nL tab own ret) : StrW B od s s.heap := X.2.2.2.2.2.2.2.2.2.2.2
theorem g_ldcS (X : Cx p s m args meth c D cy B od cc nL tab own ret) {ix j : Nat} {text : String} (hi : tab[i]? = some (pc, .ldc ix, 2, nx, tg)) (hs : strT[j]? = some (own, ix, text)) (kk : G p l e R s m args below meth c D B od nL tab F cells slots A z nx lv (.ref (1000000 + j) :: st)) : G p l e R s m args below meth c D B od nL tab F cells slots A z i lv st := by
  intro q hq H locs ls hR hS hl
  cases Option.some.inj (hi.symm.trans hq)
  obtain ⟨q2, hq2, e2⟩ := X.2.2.2.1.fall hi rfl
  have K := kk q2 hq2 H locs ls hR hS hl
  rw [e2] at K
  obtain ⟨a, ha, hv⟩ := X.2.2.2.2.2.2.2.2.2.1 j _ hs
  have K2 : W p l e R s m args below meth c H locs cells slots F (F0 m (pc + 2) ls (.ref (rho B od (1000000 + j)) :: st.map (trV B od))) := K
  rw [rho_od ha] at K2
  exact va_ldcS X.1.1 X.1.2.1 X.1.2.2.2.1 hv (X.2.2.2.1.dec hi) K2
theorem g_sval (X : Cx p s m args meth c D cy B od cc nL tab own ret) {ix j : Nat} (hj : j < 39) (hi : tab[i]? = some (pc, .getfield ix, 3, nx, tg)) (hw : Cond.fieldLink own ix "java/lang/String" "value" "[B" ∈ lw_good) (kk : G p l e R s m args below meth c D B od nL tab F cells slots A z nx lv (.ref (2000000 + j) :: st)) : G p l e R s m args below meth c D B od nL tab F cells slots A z i lv (.ref (1000000 + j) :: st) := by
  intro q hq H locs ls hR hS hl
  cases Option.some.inj (hi.symm.trans hq)
  obtain ⟨q2, hq2, e2⟩ := X.2.2.2.1.fall hi rfl
  have K := kk q2 hq2 H locs ls hR hS hl
  rw [e2] at K
  obtain ⟨a, v, h1, h2, h3, h4, h5, h6⟩ := X.str.2.2.1 j hj
  have K2 : W p l e R s m args below meth c H locs cells slots F (F0 m (pc + 3) ls (.ref (rho B od (2000000 + j)) :: st.map (trV B od))) := K
  rw [rho_od h2] at K2
  show W p l e R s m args below meth c H locs cells slots F (F0 m pc ls (.ref (rho B od (1000000 + j)) :: st.map (trV B od)))
  rw [rho_od h1]
  exact vk_getf X.1.1 X.1.2.1 h5 hS X.1.2.2.2.1 (X.1.2.2.2.2 _ hw) (fun _ h => h) (X.2.2.2.1.dec hi) K2
theorem g_scod (X : Cx p s m args meth c D cy B od cc nL tab own ret) {ix j : Nat} (hj : j < 39) (hi : tab[i]? = some (pc, .getfield ix, 3, nx, tg)) (hw : Cond.fieldLink own ix "java/lang/String" "coder" "B" ∈ lw_good) (kk : G p l e R s m args below meth c D B od nL tab F cells slots A z nx lv (.int 0 :: st)) : G p l e R s m args below meth c D B od nL tab F cells slots A z i lv (.ref (1000000 + j) :: st) := by
  intro q hq H locs ls hR hS hl
  cases Option.some.inj (hi.symm.trans hq)
  obtain ⟨q2, hq2, e2⟩ := X.2.2.2.1.fall hi rfl
  have K := kk q2 hq2 H locs ls hR hS hl
  rw [e2] at K
  obtain ⟨a, v, h1, h2, h3, h4, h5, h6⟩ := X.str.2.2.1 j hj
  show W p l e R s m args below meth c H locs cells slots F (F0 m pc ls (.ref (rho B od (1000000 + j)) :: st.map (trV B od)))
  rw [rho_od h1]
  exact vk_getf X.1.1 X.1.2.1 h4 hS X.1.2.2.2.1 (X.1.2.2.2.2 _ hw) (fun _ h => h) (X.2.2.2.1.dec hi) K
theorem g_salen (X : Cx p s m args meth c D cy B od cc nL tab own ret) {j : Nat} (hj : j < 39) (hi : tab[i]? = some (pc, .arraylength, 1, nx, tg)) (kk : G p l e R s m args below meth c D B od nL tab F cells slots A z nx lv (.int (nI (sB j).length) :: st)) : G p l e R s m args below meth c D B od nL tab F cells slots A z i lv (.ref (2000000 + j) :: st) := by
  intro q hq H locs ls hR hS hl
  cases Option.some.inj (hi.symm.trans hq)
  obtain ⟨q2, hq2, e2⟩ := X.2.2.2.1.fall hi rfl
  have K := kk q2 hq2 H locs ls hR hS hl
  rw [e2] at K
  obtain ⟨a, v, h1, h2, h3, h4, h5, h6⟩ := X.str.2.2.1 j hj
  show W p l e R s m args below meth c H locs cells slots F (F0 m pc ls (.ref (rho B od (2000000 + j)) :: st.map (trV B od)))
  rw [rho_od h2]
  exact va_tlen X.1.1 X.1.2.1 h6 hS rfl (X.2.2.2.1.dec hi) K
theorem g_sbald (X : Cx p s m args meth c D cy B od cc nL tab own ret) {j k : Nat} (hj : j < 39) (hk : k < (sB j).length) (hi : tab[i]? = some (pc, .baload, 1, nx, tg)) (kk : G p l e R s m args below meth c D B od nL tab F cells slots A z nx lv (.int ((sB j).getD k 0) :: st)) : G p l e R s m args below meth c D B od nL tab F cells slots A z i lv (.int (nI k) :: .ref (2000000 + j) :: st) := by
  intro q hq H locs ls hR hS hl
  cases Option.some.inj (hi.symm.trans hq)
  obtain ⟨q2, hq2, e2⟩ := X.2.2.2.1.fall hi rfl
  have K := kk q2 hq2 H locs ls hR hS hl
  rw [e2] at K
  obtain ⟨a, v, h1, h2, h3, h4, h5, h6⟩ := X.str.2.2.1 j hj
  have hb := sB_len j hj
  show W p l e R s m args below meth c H locs cells slots F (F0 m pc ls (.int (nI k) :: .ref (rho B od (2000000 + j)) :: st.map (trV B od)))
  rw [rho_od h2]
  exact va_tb X.1.1 X.1.2.1 h6 hS (vp_in_nI hk (by have := sB_len j hj; show (sB j).length < 2 ^ 31; omega)) (by rw [nI_clamp (by omega)]; rfl) (X.2.2.2.1.dec hi) K
theorem g_gcs (X : Cx p s m args meth c D cy B od cc nL tab own ret) {ix : Nat} (hi : tab[i]? = some (pc, .getstatic ix, 3, nx, tg)) (hw : Cond.fieldLink own ix "java/lang/String" "COMPACT_STRINGS" "Z" ∈ lw_good) (kk : G p l e R s m args below meth c D B od nL tab F cells slots A z nx lv (.int 1 :: st)) : G p l e R s m args below meth c D B od nL tab F cells slots A z i lv st := by
  intro q hq H locs ls hR hS hl
  cases Option.some.inj (hi.symm.trans hq)
  obtain ⟨q2, hq2, e2⟩ := X.2.2.2.1.fall hi rfl
  have K := kk q2 hq2 H locs ls hR hS hl
  rw [e2] at K
  exact va_gets X.1.1 X.1.2.1 X.str.1 hS X.1.2.2.2.1 (X.1.2.2.2.2 _ hw) (fun _ h => h) (X.2.2.2.1.dec hi) K
theorem g_gsf (X : Cx p s m args meth c D cy B od cc nL tab own ret) {ix : Nat} (hi : tab[i]? = some (pc, .getstatic ix, 3, nx, tg)) (hw : Cond.fieldLink own ix "jdk/internal/util/Preconditions" "SIOOBE_FORMATTER" "Ljava/util/function/BiFunction;" ∈ lw_good) (kk : ∀ v : Value, v = .null ∨ v = .ref 3000000 → G p l e R s m args below meth c D B od nL tab F cells slots A z nx lv (v :: st)) : G p l e R s m args below meth c D B od nL tab F cells slots A z i lv st := by
  intro q hq H locs ls hR hS hl
  cases Option.some.inj (hi.symm.trans hq)
  obtain ⟨q2, hq2, e2⟩ := X.2.2.2.1.fall hi rfl
  rcases X.str.2.1 with h | ⟨t, ht, h⟩
  · have K := kk .null (Or.inl rfl) q2 hq2 H locs ls hR hS hl
    rw [e2] at K
    exact va_gets X.1.1 X.1.2.1 h hS X.1.2.2.2.1 (X.1.2.2.2.2 _ hw) (fun _ h => h) (X.2.2.2.1.dec hi) K
  · have K := kk (.ref 3000000) (Or.inr rfl) q2 hq2 H locs ls hR hS hl
    rw [e2] at K
    have K2 : W p l e R s m args below meth c H locs cells slots F (F0 m (pc + 3) ls (.ref (rho B od 3000000) :: st.map (trV B od))) := K
    rw [rho_od ht] at K2
    exact va_gets X.1.1 X.1.2.1 h hS X.1.2.2.2.1 (X.1.2.2.2.2 _ hw) (fun _ h => h) (X.2.2.2.1.dec hi) K2
theorem g_rVO (X : Cx p s m args meth c D cy B od cc nL tab own ret) {y : MethodName} {bytes : ByteArray} {maxL n ix : Nat} {rt : Option FieldType} {rm : Room} {As rest : List Value} {j : Nat} {r : Value} (hj : j < 39) (hi : tab[i]? = some (pc, .invokevirtual ix, 3, nx, tg)) (hL : LkC y bytes maxL rt n) (hM : LkM own ix y) (hSe : LkSel y) (hy : y.cls = "java/lang/String") (hC : CR l D cy B od y bytes maxL rt rm (.ref (1000000 + j) :: As) A r) (hst : st = As.reverse ++ .ref (1000000 + j) :: rest) (hn : As.length = n) (hw : (rest.map fun v => v.category).sum ≤ 8) (hRm : (rm.frames + 1 ≤ R.frames ∧ 8 + (maxL + 11) + rm.locals ≤ R.locals) ∧ rm.cells = 0 ∧ rm.slots = 0) (hf : cells ≤ R.cells ∧ slots ≤ R.slots)
    (kk : G p l e R s m args below meth c D B od nL tab F cells slots A z nx lv (r :: rest)) : G p l e R s m args below meth c D B od nL tab F cells slots A z i lv st := by
  intro q hq H locs ls hR hS hl
  cases Option.some.inj (hi.symm.trans hq)
  obtain ⟨q2, hq2, e2⟩ := X.2.2.2.1.fall hi rfl
  subst hst
  rw [List.map_append, List.map_reverse, List.map_cons]
  obtain ⟨a, v, h1, h2, h3, h4, h5, h6⟩ := X.str.2.2.1 j hj
  obtain ⟨cell, c1, c2, c3, -⟩ := h3.kept hS.2.1
  refine run_go (va_runV (As := As.map (trV B od)) (b := rho B od (1000000 + j)) (rest := rest.map (trV B od)) X.1 (hC z) ⟨mkB X hL hM hRm.1, X.1.2.2.2.2 _ hSe.1, X.1.2.2.2.2 _ hSe.2⟩ ⟨PcA.blind, ⟨cell, by rw [rho_od h1]; exact c1, c2, by rw [hy]; exact c3⟩, fun U hU hW => ⟨rfl, X.world hR hS U hU hW⟩⟩ rfl ((List.length_map _).trans hn) hl.1 rfl (lv_room (st_cat hw)) (X.2.2.2.1.dec hi) (by rw [hRm.2.1, hRm.2.2]; exact hf)) hS (fun v A' z' H1 locs1 hq hR1 hS1 => ?_)
  obtain ⟨rfl, rfl, rfl⟩ := hq
  have K := kk q2 hq2 H1 locs1 ls hR1 hS1 hl
  rw [e2] at K
  rw [hRm.2.1, hRm.2.2]
  exact K
end CORE25
theorem shr0 (x : Int32) : x >>> ((0 : Int32) &&& 31) = x := by
  rw [show ((0 : Int32) &&& 31) = 0 by decide]
  simp
set_option maxRecDepth 100000 in
set_option maxHeartbeats 400000 in
theorem cr_J0_coder_7d493 (l : Launch) (D : va_G) (cy : Nat → ClassId) (B : Nat) (od : Nat → Option Nat) {A : AH} {j : Nat} (hj : j < 39) : CR l D cy B od yJ0_coder_7d493 cJ0_coder_7d493 1 (some .byte) rmJ0_coder_7d493 [.ref (1000000 + j)] A (.int 0) := by
  intro z
  refine CT.of (by decide) tJ0_coder_7d493 okJ0_coder_7d493 (Nat.le_of_ble_eq_true rfl) (q0 := tJ0_coder_7d493[0]) rfl rfl ?_
  intro p e s m args below meth c X _
  refine g_gcs X rfl fsK ?_
  refine g_if_eq X rfl (fun h => absurd h (by decide)) (fun _ => ?_)
  refine g_aload_n X rfl rfl ?_
  refine g_scod X hj rfl fsC ?_
  refine g_goto X rfl ?_
  refine g_iret X rfl rfl (by first | rfl | decide | assumption) (Nat.le_refl _) (Nat.le_refl _) ⟨rfl, rfl, rfl⟩
set_option maxRecDepth 100000 in
set_option maxHeartbeats 400000 in
theorem cr_J0_length_8abf5 (l : Launch) (D : va_G) (cy : Nat → ClassId) (B : Nat) (od : Nat → Option Nat) {A : AH} {j : Nat} (hj : j < 39) : CR l D cy B od yJ0_length_8abf5 cJ0_length_8abf5 1 (some .int) rmJ0_length_8abf5 [.ref (1000000 + j)] A (.int (nI (sB j).length)) := by
  intro z
  refine CT.of (by decide) tJ0_length_8abf5 okJ0_length_8abf5 (Nat.le_of_ble_eq_true rfl) (q0 := tJ0_length_8abf5[0]) rfl rfl ?_
  intro p e s m args below meth c X _
  refine g_aload_n X rfl rfl ?_
  refine g_sval X hj rfl fsV ?_
  refine g_salen X hj rfl ?_
  refine g_aload_n X rfl rfl ?_
  refine g_rVO X hj rfl lcJ0_coder_7d493 lmJ0_335 lsJ0_coder_7d493 rfl (cr_J0_coder_7d493 l D cy B od hj) rfl rfl (Nat.le_of_ble_eq_true rfl) ⟨⟨by decide, by decide⟩, rfl, rfl⟩ ⟨Nat.le_of_ble_eq_true rfl, Nat.le_of_ble_eq_true rfl⟩ ?_
  refine g_ishr X rfl ?_
  rw [shr0]
  refine g_iret X rfl rfl (by first | rfl | decide | assumption) (Nat.le_refl _) (Nat.le_refl _) ⟨rfl, rfl, rfl⟩
set_option maxRecDepth 100000 in
set_option maxHeartbeats 400000 in
theorem cr_J0_isLatin1_aae02 (l : Launch) (D : va_G) (cy : Nat → ClassId) (B : Nat) (od : Nat → Option Nat) {A : AH} {j : Nat} (hj : j < 39) : CR l D cy B od yJ0_isLatin1_aae02 cJ0_isLatin1_aae02 1 (some .boolean) rmJ0_isLatin1_aae02 [.ref (1000000 + j)] A (.int 1) := by
  intro z
  refine CT.of (by decide) tJ0_isLatin1_aae02 okJ0_isLatin1_aae02 (Nat.le_of_ble_eq_true rfl) (q0 := tJ0_isLatin1_aae02[0]) rfl rfl ?_
  intro p e s m args below meth c X _
  refine g_gcs X rfl fsK ?_
  refine g_if_eq X rfl (fun h => absurd h (by decide)) (fun _ => ?_)
  refine g_aload_n X rfl rfl ?_
  refine g_scod X hj rfl fsC ?_
  refine g_if_ne X rfl (fun h => absurd rfl h) (fun _ => ?_)
  refine g_iconst X rfl (v := 1) (by decide) ?_
  refine g_goto X rfl ?_
  refine g_iret X rfl rfl (by first | rfl | decide | assumption) (Nat.le_refl _) (Nat.le_refl _) ⟨rfl, rfl, rfl⟩
set_option maxRecDepth 100000 in
set_option maxHeartbeats 400000 in
theorem cr_J3_checkIndex_8e157 (l : Launch) (D : va_G) (cy : Nat → ClassId) (B : Nat) (od : Nat → Option Nat) {A : AH} {k n : Nat} (hk : k < n) (hn : n < 2 ^ 31) {v : Value} (hv : v = .null ∨ v = .ref 3000000) : CR l D cy B od yJ3_checkIndex_8e157 cJ3_checkIndex_8e157 3 (some .int) rmJ3_checkIndex_8e157 [.int (nI k), .int (nI n), v] A (.int (nI k)) := by
  intro z
  rcases hv with rfl | rfl
  · refine CT.of (by decide) tJ3_checkIndex_8e157 okJ3_checkIndex_8e157 (Nat.le_of_ble_eq_true rfl) (q0 := tJ3_checkIndex_8e157[0]) rfl rfl ?_
    intro p e s m args below meth c X _
    refine g_iload_n X rfl rfl ?_
    refine g_if_lt X rfl (fun h => absurd h (nI_pos (by omega))) (fun _ => ?_)
    refine g_iload_n X rfl rfl ?_
    refine g_iload_n X rfl rfl ?_
    refine g_ic_ltN X rfl (by omega) hn (fun _ => ?_) (fun h => absurd h (by omega))
    refine g_iload_n X rfl rfl ?_
    refine g_iret X rfl rfl (by first | rfl | decide | assumption) (Nat.le_refl _) (Nat.le_refl _) ⟨rfl, rfl, rfl⟩
  · refine CT.of (by decide) tJ3_checkIndex_8e157 okJ3_checkIndex_8e157 (Nat.le_of_ble_eq_true rfl) (q0 := tJ3_checkIndex_8e157[0]) rfl rfl ?_
    intro p e s m args below meth c X _
    refine g_iload_n X rfl rfl ?_
    refine g_if_lt X rfl (fun h => absurd h (nI_pos (by omega))) (fun _ => ?_)
    refine g_iload_n X rfl rfl ?_
    refine g_iload_n X rfl rfl ?_
    refine g_ic_ltN X rfl (by omega) hn (fun _ => ?_) (fun h => absurd h (by omega))
    refine g_iload_n X rfl rfl ?_
    refine g_iret X rfl rfl (by first | rfl | decide | assumption) (Nat.le_refl _) (Nat.le_refl _) ⟨rfl, rfl, rfl⟩

set_option maxRecDepth 100000 in
set_option maxHeartbeats 400000 in
theorem cm_J0_checkIndex_df160 (l : Launch) (D : va_G) (cy : Nat → ClassId) (B : Nat) (od : Nat → Option Nat) {A : AH} {k n : Nat} (hk : k < n) (hn : n < 2 ^ 31) : CM l D cy B od yJ0_checkIndex_df160 cJ0_checkIndex_df160 2 none rmJ0_checkIndex_df160 [.int (nI k), .int (nI n)] A (fun v A9 => v = none ∧ A9 = A) := by
  intro z
  refine CT.of (by decide) tJ0_checkIndex_df160 okJ0_checkIndex_df160 (Nat.le_of_ble_eq_true rfl) (q0 := tJ0_checkIndex_df160[0]) rfl rfl ?_
  intro p e s m args below meth c X _
  refine g_iload_n X rfl rfl ?_
  refine g_iload_n X rfl rfl ?_
  refine g_gsf X rfl fsF (fun v hv => ?_)
  refine g_rS X rfl lcJ3_checkIndex_8e157 lmJ0_1059 stJ3_checkIndex_8e157 (cr_J3_checkIndex_8e157 l D cy B od hk hn hv) rfl rfl (Nat.le_of_ble_eq_true rfl) ⟨⟨by decide, by decide⟩, rfl, rfl⟩ ⟨Nat.le_of_ble_eq_true rfl, Nat.le_of_ble_eq_true rfl⟩ ?_
  refine g_pop X rfl rfl ?_
  refine g_vret X rfl rfl (Nat.le_refl _) (Nat.le_refl _) ⟨rfl, rfl, rfl⟩
set_option maxRecDepth 100000 in
set_option maxHeartbeats 400000 in
theorem cr_J1_charAt_3b067 (l : Launch) (D : va_G) (cy : Nat → ClassId) (B : Nat) (od : Nat → Option Nat) {A : AH} {j k : Nat} (hj : j < 39) (hk : k < (sB j).length) : CR l D cy B od yJ1_charAt_3b067 cJ1_charAt_3b067 2 (some .char) rmJ1_charAt_3b067 [.ref (2000000 + j), .int (nI k)] A (.int ((sB j).getD k 0)) := by
  intro z
  refine CT.of (by decide) tJ1_charAt_3b067 okJ1_charAt_3b067 (Nat.le_of_ble_eq_true rfl) (q0 := tJ1_charAt_3b067[0]) rfl rfl ?_
  intro p e s m args below meth c X _
  have hb := sB_len j hj
  obtain ⟨c1, c2⟩ := sB_ch j hj k hk
  refine g_iload_n X rfl rfl ?_
  refine g_aload_n X rfl rfl ?_
  refine g_salen X hj rfl ?_
  refine g_mS X rfl lcJ0_checkIndex_df160 lmJ1_9 stJ0_checkIndex_df160 (cm_J0_checkIndex_df160 l D cy B od hk (by omega)) rfl rfl (Nat.le_of_ble_eq_true rfl) ⟨⟨by decide, by decide⟩, rfl, rfl⟩ ⟨Nat.le_of_ble_eq_true rfl, Nat.le_of_ble_eq_true rfl⟩ (fun v A1 q => ?_)
  obtain ⟨rfl, rfl⟩ := q
  refine g_aload_n X rfl rfl ?_
  refine g_iload_n X rfl rfl ?_
  refine g_sbald X hj hk rfl ?_
  refine g_sipush X rfl (v := nI 255) (by decide) ?_
  refine g_iand X rfl ?_
  refine g_i2c X rfl ?_
  rw [c1]
  refine g_iret X rfl rfl (by first | rfl | decide | assumption) (Nat.le_refl _) (Nat.le_refl _) ⟨rfl, rfl, rfl⟩
set_option maxRecDepth 100000 in
set_option maxHeartbeats 400000 in
theorem cr_J0_charAt_5068e (l : Launch) (D : va_G) (cy : Nat → ClassId) (B : Nat) (od : Nat → Option Nat) {A : AH} {j k : Nat} (hj : j < 39) (hk : k < (sB j).length) : CR l D cy B od yJ0_charAt_5068e cJ0_charAt_5068e 2 (some .char) rmJ0_charAt_5068e [.ref (1000000 + j), .int (nI k)] A (.int ((sB j).getD k 0)) := by
  intro z
  refine CT.of (by decide) tJ0_charAt_5068e okJ0_charAt_5068e (Nat.le_of_ble_eq_true rfl) (q0 := tJ0_charAt_5068e[0]) rfl rfl ?_
  intro p e s m args below meth c X _
  obtain ⟨c1, c2⟩ := sB_ch j hj k hk
  refine g_aload_n X rfl rfl ?_
  refine g_rVO X hj rfl lcJ0_isLatin1_aae02 lmJ0_492 lsJ0_isLatin1_aae02 rfl (cr_J0_isLatin1_aae02 l D cy B od hj) rfl rfl (Nat.le_of_ble_eq_true rfl) ⟨⟨by decide, by decide⟩, rfl, rfl⟩ ⟨Nat.le_of_ble_eq_true rfl, Nat.le_of_ble_eq_true rfl⟩ ?_
  refine g_if_eq X rfl (fun h => absurd h (by decide)) (fun _ => ?_)
  refine g_aload_n X rfl rfl ?_
  refine g_sval X hj rfl fsV ?_
  refine g_iload_n X rfl rfl ?_
  refine g_rS X rfl lcJ1_charAt_3b067 lmJ0_495 stJ1_charAt_3b067 (cr_J1_charAt_3b067 l D cy B od hj hk) rfl rfl (Nat.le_of_ble_eq_true rfl) ⟨⟨by decide, by decide⟩, rfl, rfl⟩ ⟨Nat.le_of_ble_eq_true rfl, Nat.le_of_ble_eq_true rfl⟩ ?_
  refine g_iret X rfl rfl (by first | rfl | decide | assumption) (Nat.le_refl _) (Nat.le_refl _) ⟨rfl, rfl, rfl⟩
