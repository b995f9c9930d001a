/-! 08: rooms and links -/
theorem inX0_0 : u_lay RX0 TX0 0 ∈ lw_good := lw_good_in (n := 365) (by decide +kernel) rfl
theorem inX0_1 : u_lay RX0 TX0 1 ∈ lw_good := lw_good_in (n := 367) (by decide +kernel) rfl
theorem inX0_2 : u_lay RX0 TX0 2 ∈ lw_good := lw_good_in (n := 369) (by decide +kernel) rfl
theorem inX0_3 : u_lay RX0 TX0 3 ∈ lw_good := lw_good_in (n := 371) (by decide +kernel) rfl
theorem inX0_4 : u_lay RX0 TX0 4 ∈ lw_good := lw_good_in (n := 373) (by decide +kernel) rfl
theorem inX0_5 : u_lay RX0 TX0 5 ∈ lw_good := lw_good_in (n := 375) (by decide +kernel) rfl
theorem inX0_6 : u_lay RX0 TX0 6 ∈ lw_good := lw_good_in (n := 377) (by decide +kernel) rfl
theorem inX0 : ∀ w ∈ u_ws RX0 TX0 7, w ∈ lw_good := by
  intro w hw
  obtain ⟨k, hk, rfl⟩ := List.mem_map.mp hw
  have hk := List.mem_range.mp hk
  match k, hk with
  | 0, _ => exact inX0_0
  | 1, _ => exact inX0_1
  | 2, _ => exact inX0_2
  | 3, _ => exact inX0_3
  | 4, _ => exact inX0_4
  | 5, _ => exact inX0_5
  | 6, _ => exact inX0_6
  | k + 7, hk => exact absurd hk (by omega)
theorem inX1_0 : u_lay RX1 TX1 0 ∈ lw_good := lw_good_in (n := 320) (by decide +kernel) rfl
theorem inX1_1 : u_lay RX1 TX1 1 ∈ lw_good := lw_good_in (n := 322) (by decide +kernel) rfl
theorem inX1_2 : u_lay RX1 TX1 2 ∈ lw_good := lw_good_in (n := 324) (by decide +kernel) rfl
theorem inX1_3 : u_lay RX1 TX1 3 ∈ lw_good := lw_good_in (n := 326) (by decide +kernel) rfl
theorem inX1_4 : u_lay RX1 TX1 4 ∈ lw_good := lw_good_in (n := 328) (by decide +kernel) rfl
theorem inX1_5 : u_lay RX1 TX1 5 ∈ lw_good := lw_good_in (n := 330) (by decide +kernel) rfl
theorem inX1_6 : u_lay RX1 TX1 6 ∈ lw_good := lw_good_in (n := 332) (by decide +kernel) rfl
theorem inX1_7 : u_lay RX1 TX1 7 ∈ lw_good := lw_good_in (n := 334) (by decide +kernel) rfl
theorem inX1 : ∀ w ∈ u_ws RX1 TX1 8, w ∈ lw_good := by
  intro w hw
  obtain ⟨k, hk, rfl⟩ := List.mem_map.mp hw
  have hk := List.mem_range.mp hk
  match k, hk with
  | 0, _ => exact inX1_0
  | 1, _ => exact inX1_1
  | 2, _ => exact inX1_2
  | 3, _ => exact inX1_3
  | 4, _ => exact inX1_4
  | 5, _ => exact inX1_5
  | 6, _ => exact inX1_6
  | 7, _ => exact inX1_7
  | k + 8, hk => exact absurd hk (by omega)
theorem inX2_0 : u_lay RX2 TX2 0 ∈ lw_good := lw_good_in (n := 418) (by decide +kernel) rfl
theorem inX2_1 : u_lay RX2 TX2 1 ∈ lw_good := lw_good_in (n := 420) (by decide +kernel) rfl
theorem inX2_2 : u_lay RX2 TX2 2 ∈ lw_good := lw_good_in (n := 422) (by decide +kernel) rfl
theorem inX2 : ∀ w ∈ u_ws RX2 TX2 3, w ∈ lw_good := by
  intro w hw
  obtain ⟨k, hk, rfl⟩ := List.mem_map.mp hw
  have hk := List.mem_range.mp hk
  match k, hk with
  | 0, _ => exact inX2_0
  | 1, _ => exact inX2_1
  | 2, _ => exact inX2_2
  | k + 3, hk => exact absurd hk (by omega)
theorem inX3_0 : u_lay RX3 TX3 0 ∈ lw_good := lw_good_in (n := 196) (by decide +kernel) rfl
theorem inX3_1 : u_lay RX3 TX3 1 ∈ lw_good := lw_good_in (n := 198) (by decide +kernel) rfl
theorem inX3_2 : u_lay RX3 TX3 2 ∈ lw_good := lw_good_in (n := 200) (by decide +kernel) rfl
theorem inX3_3 : u_lay RX3 TX3 3 ∈ lw_good := lw_good_in (n := 202) (by decide +kernel) rfl
theorem inX3 : ∀ w ∈ u_ws RX3 TX3 4, w ∈ lw_good := by
  intro w hw
  obtain ⟨k, hk, rfl⟩ := List.mem_map.mp hw
  have hk := List.mem_range.mp hk
  match k, hk with
  | 0, _ => exact inX3_0
  | 1, _ => exact inX3_1
  | 2, _ => exact inX3_2
  | 3, _ => exact inX3_3
  | k + 4, hk => exact absurd hk (by omega)
theorem inX4_0 : u_lay RX4 TX4 0 ∈ lw_good := lw_good_in (n := 232) (by decide +kernel) rfl
theorem inX4_1 : u_lay RX4 TX4 1 ∈ lw_good := lw_good_in (n := 234) (by decide +kernel) rfl
theorem inX4_2 : u_lay RX4 TX4 2 ∈ lw_good := lw_good_in (n := 236) (by decide +kernel) rfl
theorem inX4_3 : u_lay RX4 TX4 3 ∈ lw_good := lw_good_in (n := 238) (by decide +kernel) rfl
theorem inX4_4 : u_lay RX4 TX4 4 ∈ lw_good := lw_good_in (n := 240) (by decide +kernel) rfl
theorem inX4_5 : u_lay RX4 TX4 5 ∈ lw_good := lw_good_in (n := 242) (by decide +kernel) rfl
theorem inX4_6 : u_lay RX4 TX4 6 ∈ lw_good := lw_good_in (n := 244) (by decide +kernel) rfl
theorem inX4_7 : u_lay RX4 TX4 7 ∈ lw_good := lw_good_in (n := 246) (by decide +kernel) rfl
theorem inX4_8 : u_lay RX4 TX4 8 ∈ lw_good := lw_good_in (n := 248) (by decide +kernel) rfl
theorem inX4 : ∀ w ∈ u_ws RX4 TX4 9, w ∈ lw_good := by
  intro w hw
  obtain ⟨k, hk, rfl⟩ := List.mem_map.mp hw
  have hk := List.mem_range.mp hk
  match k, hk with
  | 0, _ => exact inX4_0
  | 1, _ => exact inX4_1
  | 2, _ => exact inX4_2
  | 3, _ => exact inX4_3
  | 4, _ => exact inX4_4
  | 5, _ => exact inX4_5
  | 6, _ => exact inX4_6
  | 7, _ => exact inX4_7
  | 8, _ => exact inX4_8
  | k + 9, hk => exact absurd hk (by omega)
theorem inX5_0 : u_lay RX5 TX5 0 ∈ lw_good := lw_good_in (n := 262) (by decide +kernel) rfl
theorem inX5_1 : u_lay RX5 TX5 1 ∈ lw_good := lw_good_in (n := 264) (by decide +kernel) rfl
theorem inX5_2 : u_lay RX5 TX5 2 ∈ lw_good := lw_good_in (n := 266) (by decide +kernel) rfl
theorem inX5_3 : u_lay RX5 TX5 3 ∈ lw_good := lw_good_in (n := 268) (by decide +kernel) rfl
theorem inX5_4 : u_lay RX5 TX5 4 ∈ lw_good := lw_good_in (n := 270) (by decide +kernel) rfl
theorem inX5_5 : u_lay RX5 TX5 5 ∈ lw_good := lw_good_in (n := 272) (by decide +kernel) rfl
theorem inX5_6 : u_lay RX5 TX5 6 ∈ lw_good := lw_good_in (n := 274) (by decide +kernel) rfl
theorem inX5_7 : u_lay RX5 TX5 7 ∈ lw_good := lw_good_in (n := 276) (by decide +kernel) rfl
theorem inX5_8 : u_lay RX5 TX5 8 ∈ lw_good := lw_good_in (n := 278) (by decide +kernel) rfl
theorem inX5_9 : u_lay RX5 TX5 9 ∈ lw_good := lw_good_in (n := 280) (by decide +kernel) rfl
theorem inX5_10 : u_lay RX5 TX5 10 ∈ lw_good := lw_good_in (n := 282) (by decide +kernel) rfl
theorem inX5 : ∀ w ∈ u_ws RX5 TX5 11, w ∈ lw_good := by
  intro w hw
  obtain ⟨k, hk, rfl⟩ := List.mem_map.mp hw
  have hk := List.mem_range.mp hk
  match k, hk with
  | 0, _ => exact inX5_0
  | 1, _ => exact inX5_1
  | 2, _ => exact inX5_2
  | 3, _ => exact inX5_3
  | 4, _ => exact inX5_4
  | 5, _ => exact inX5_5
  | 6, _ => exact inX5_6
  | 7, _ => exact inX5_7
  | 8, _ => exact inX5_8
  | 9, _ => exact inX5_9
  | 10, _ => exact inX5_10
  | k + 11, hk => exact absurd hk (by omega)
theorem inX6_0 : u_lay RX6 TX6 0 ∈ lw_good := lw_good_in (n := 392) (by decide +kernel) rfl
theorem inX6_1 : u_lay RX6 TX6 1 ∈ lw_good := lw_good_in (n := 394) (by decide +kernel) rfl
theorem inX6_2 : u_lay RX6 TX6 2 ∈ lw_good := lw_good_in (n := 396) (by decide +kernel) rfl
theorem inX6_3 : u_lay RX6 TX6 3 ∈ lw_good := lw_good_in (n := 398) (by decide +kernel) rfl
theorem inX6_4 : u_lay RX6 TX6 4 ∈ lw_good := lw_good_in (n := 400) (by decide +kernel) rfl
theorem inX6_5 : u_lay RX6 TX6 5 ∈ lw_good := lw_good_in (n := 402) (by decide +kernel) rfl
theorem inX6 : ∀ w ∈ u_ws RX6 TX6 6, w ∈ lw_good := by
  intro w hw
  obtain ⟨k, hk, rfl⟩ := List.mem_map.mp hw
  have hk := List.mem_range.mp hk
  match k, hk with
  | 0, _ => exact inX6_0
  | 1, _ => exact inX6_1
  | 2, _ => exact inX6_2
  | 3, _ => exact inX6_3
  | 4, _ => exact inX6_4
  | 5, _ => exact inX6_5
  | k + 6, hk => exact absurd hk (by omega)
theorem inX7_0 : u_lay RX7 TX7 0 ∈ lw_good := lw_good_in (n := 448) (by decide +kernel) rfl
theorem inX7_1 : u_lay RX7 TX7 1 ∈ lw_good := lw_good_in (n := 450) (by decide +kernel) rfl
theorem inX7_2 : u_lay RX7 TX7 2 ∈ lw_good := lw_good_in (n := 452) (by decide +kernel) rfl
theorem inX7_3 : u_lay RX7 TX7 3 ∈ lw_good := lw_good_in (n := 454) (by decide +kernel) rfl
theorem inX7_4 : u_lay RX7 TX7 4 ∈ lw_good := lw_good_in (n := 456) (by decide +kernel) rfl
theorem inX7_5 : u_lay RX7 TX7 5 ∈ lw_good := lw_good_in (n := 458) (by decide +kernel) rfl
theorem inX7_6 : u_lay RX7 TX7 6 ∈ lw_good := lw_good_in (n := 460) (by decide +kernel) rfl
theorem inX7_7 : u_lay RX7 TX7 7 ∈ lw_good := lw_good_in (n := 462) (by decide +kernel) rfl
theorem inX7_8 : u_lay RX7 TX7 8 ∈ lw_good := lw_good_in (n := 464) (by decide +kernel) rfl
theorem inX7 : ∀ w ∈ u_ws RX7 TX7 9, w ∈ lw_good := by
  intro w hw
  obtain ⟨k, hk, rfl⟩ := List.mem_map.mp hw
  have hk := List.mem_range.mp hk
  match k, hk with
  | 0, _ => exact inX7_0
  | 1, _ => exact inX7_1
  | 2, _ => exact inX7_2
  | 3, _ => exact inX7_3
  | 4, _ => exact inX7_4
  | 5, _ => exact inX7_5
  | 6, _ => exact inX7_6
  | 7, _ => exact inX7_7
  | 8, _ => exact inX7_8
  | k + 9, hk => exact absurd hk (by omega)
theorem inX8_0 : u_lay RX8 TX8 0 ∈ lw_good := lw_good_in (n := 1323) (by decide +kernel) rfl
theorem inX8_1 : u_lay RX8 TX8 1 ∈ lw_good := lw_good_in (n := 1325) (by decide +kernel) rfl
theorem inX8_2 : u_lay RX8 TX8 2 ∈ lw_good := lw_good_in (n := 1327) (by decide +kernel) rfl
theorem inX8_3 : u_lay RX8 TX8 3 ∈ lw_good := lw_good_in (n := 1329) (by decide +kernel) rfl
theorem inX8_4 : u_lay RX8 TX8 4 ∈ lw_good := lw_good_in (n := 1331) (by decide +kernel) rfl
theorem inX8_5 : u_lay RX8 TX8 5 ∈ lw_good := lw_good_in (n := 1333) (by decide +kernel) rfl
theorem inX8_6 : u_lay RX8 TX8 6 ∈ lw_good := lw_good_in (n := 1335) (by decide +kernel) rfl
theorem inX8_7 : u_lay RX8 TX8 7 ∈ lw_good := lw_good_in (n := 1337) (by decide +kernel) rfl
theorem inX8_8 : u_lay RX8 TX8 8 ∈ lw_good := lw_good_in (n := 1339) (by decide +kernel) rfl
theorem inX8_9 : u_lay RX8 TX8 9 ∈ lw_good := lw_good_in (n := 1341) (by decide +kernel) rfl
theorem inX8_10 : u_lay RX8 TX8 10 ∈ lw_good := lw_good_in (n := 1343) (by decide +kernel) rfl
theorem inX8_11 : u_lay RX8 TX8 11 ∈ lw_good := lw_good_in (n := 1345) (by decide +kernel) rfl
theorem inX8_12 : u_lay RX8 TX8 12 ∈ lw_good := lw_good_in (n := 1347) (by decide +kernel) rfl
theorem inX8_13 : u_lay RX8 TX8 13 ∈ lw_good := lw_good_in (n := 1349) (by decide +kernel) rfl
theorem inX8_14 : u_lay RX8 TX8 14 ∈ lw_good := lw_good_in (n := 1351) (by decide +kernel) rfl
theorem inX8_15 : u_lay RX8 TX8 15 ∈ lw_good := lw_good_in (n := 1353) (by decide +kernel) rfl
theorem inX8 : ∀ w ∈ u_ws RX8 TX8 16, w ∈ lw_good := by
  intro w hw
  obtain ⟨k, hk, rfl⟩ := List.mem_map.mp hw
  have hk := List.mem_range.mp hk
  match k, hk with
  | 0, _ => exact inX8_0
  | 1, _ => exact inX8_1
  | 2, _ => exact inX8_2
  | 3, _ => exact inX8_3
  | 4, _ => exact inX8_4
  | 5, _ => exact inX8_5
  | 6, _ => exact inX8_6
  | 7, _ => exact inX8_7
  | 8, _ => exact inX8_8
  | 9, _ => exact inX8_9
  | 10, _ => exact inX8_10
  | 11, _ => exact inX8_11
  | 12, _ => exact inX8_12
  | 13, _ => exact inX8_13
  | 14, _ => exact inX8_14
  | 15, _ => exact inX8_15
  | k + 16, hk => exact absurd hk (by omega)
abbrev rmX0_init : Room := { frames := 1, cells := 6, slots := 72, locals := 20 }
theorem lcX0_init : LkC yX0_init cX0_init 1 none 0 := ⟨lw_good_in (n := 344) (by decide +kernel) rfl, lw_good_in (n := 145) (by decide +kernel) rfl, ⟨by decide +kernel, by decide +kernel⟩, by decide +kernel⟩
theorem liX0_init : Cond.instanceMethod yX0_init ∈ lw_good := lw_good_in (n := 343) (by decide +kernel) rfl
abbrev rmX0_add : Room := { frames := 0, cells := 0, slots := 0, locals := 0 }
theorem lcX0_add : LkC yX0_add cX0_add 5 (some .int) 4 := ⟨lw_good_in (n := 974) (by decide +kernel) rfl, lw_good_in (n := 145) (by decide +kernel) rfl, ⟨by decide +kernel, by decide +kernel⟩, by decide +kernel⟩
theorem lsX0_add : LkSel yX0_add := ⟨lw_good_in (n := 973) (by decide +kernel) rfl, lw_good_in (n := 53) (by decide +kernel) rfl⟩
abbrev rmX0_copyFrom : Room := { frames := 0, cells := 0, slots := 0, locals := 0 }
theorem lcX0_copyFrom : LkC yX0_copyFrom cX0_copyFrom 3 none 1 := ⟨lw_good_in (n := 622) (by decide +kernel) rfl, lw_good_in (n := 145) (by decide +kernel) rfl, ⟨by decide +kernel, by decide +kernel⟩, by decide +kernel⟩
theorem lsX0_copyFrom : LkSel yX0_copyFrom := ⟨lw_good_in (n := 621) (by decide +kernel) rfl, lw_good_in (n := 22) (by decide +kernel) rfl⟩
abbrev rmX0_soldOnes : Room := { frames := 0, cells := 0, slots := 0, locals := 0 }
theorem lcX0_soldOnes : LkC yX0_soldOnes cX0_soldOnes 3 (some .int) 0 := ⟨lw_good_in (n := 1052) (by decide +kernel) rfl, lw_good_in (n := 145) (by decide +kernel) rfl, ⟨by decide +kernel, by decide +kernel⟩, by decide +kernel⟩
theorem lsX0_soldOnes : LkSel yX0_soldOnes := ⟨lw_good_in (n := 1051) (by decide +kernel) rfl, lw_good_in (n := 61) (by decide +kernel) rfl⟩
abbrev rmX0_isSoldBy : Room := { frames := 0, cells := 0, slots := 0, locals := 0 }
theorem lcX0_isSoldBy : LkC yX0_isSoldBy cX0_isSoldBy 3 (some .boolean) 2 := ⟨lw_good_in (n := 719) (by decide +kernel) rfl, lw_good_in (n := 145) (by decide +kernel) rfl, ⟨by decide +kernel, by decide +kernel⟩, by decide +kernel⟩
theorem lsX0_isSoldBy : LkSel yX0_isSoldBy := ⟨lw_good_in (n := 718) (by decide +kernel) rfl, lw_good_in (n := 41) (by decide +kernel) rfl⟩
abbrev rmX0_writtenUpTo : Room := { frames := 1, cells := 0, slots := 0, locals := 22 }
theorem lcX0_writtenUpTo : LkC yX0_writtenUpTo cX0_writtenUpTo 4 (some .int) 2 := ⟨lw_good_in (n := 715) (by decide +kernel) rfl, lw_good_in (n := 145) (by decide +kernel) rfl, ⟨by decide +kernel, by decide +kernel⟩, by decide +kernel⟩
theorem lsX0_writtenUpTo : LkSel yX0_writtenUpTo := ⟨lw_good_in (n := 714) (by decide +kernel) rfl, lw_good_in (n := 40) (by decide +kernel) rfl⟩
abbrev rmX0_writtenIn : Room := { frames := 2, cells := 0, slots := 0, locals := 45 }
theorem lcX0_writtenIn : LkC yX0_writtenIn cX0_writtenIn 3 (some .int) 2 := ⟨lw_good_in (n := 1174) (by decide +kernel) rfl, lw_good_in (n := 145) (by decide +kernel) rfl, ⟨by decide +kernel, by decide +kernel⟩, by decide +kernel⟩
theorem lsX0_writtenIn : LkSel yX0_writtenIn := ⟨lw_good_in (n := 1173) (by decide +kernel) rfl, lw_good_in (n := 67) (by decide +kernel) rfl⟩
abbrev rmX0_valueAt : Room := { frames := 2, cells := 0, slots := 0, locals := 45 }
theorem lcX0_valueAt : LkC yX0_valueAt cX0_valueAt 4 (some .int) 2 := ⟨lw_good_in (n := 985) (by decide +kernel) rfl, lw_good_in (n := 145) (by decide +kernel) rfl, ⟨by decide +kernel, by decide +kernel⟩, by decide +kernel⟩
theorem lsX0_valueAt : LkSel yX0_valueAt := ⟨lw_good_in (n := 984) (by decide +kernel) rfl, lw_good_in (n := 54) (by decide +kernel) rfl⟩
abbrev rmX0_allWrittenUpTo : Room := { frames := 2, cells := 0, slots := 0, locals := 45 }
theorem lcX0_allWrittenUpTo : LkC yX0_allWrittenUpTo cX0_allWrittenUpTo 6 (some .long) 1 := ⟨lw_good_in (n := 703) (by decide +kernel) rfl, lw_good_in (n := 145) (by decide +kernel) rfl, ⟨by decide +kernel, by decide +kernel⟩, by decide +kernel⟩
theorem lsX0_allWrittenUpTo : LkSel yX0_allWrittenUpTo := ⟨lw_good_in (n := 702) (by decide +kernel) rfl, lw_good_in (n := 37) (by decide +kernel) rfl⟩
abbrev rmX0_poolAt : Room := { frames := 0, cells := 0, slots := 0, locals := 0 }
theorem lcX0_poolAt : LkC yX0_poolAt cX0_poolAt 4 (some .int) 1 := ⟨lw_good_in (n := 711) (by decide +kernel) rfl, lw_good_in (n := 145) (by decide +kernel) rfl, ⟨by decide +kernel, by decide +kernel⟩, by decide +kernel⟩
theorem lsX0_poolAt : LkSel yX0_poolAt := ⟨lw_good_in (n := 710) (by decide +kernel) rfl, lw_good_in (n := 39) (by decide +kernel) rfl⟩
abbrev rmX0_poolWrittenUpTo : Room := { frames := 1, cells := 0, slots := 0, locals := 23 }
theorem lcX0_poolWrittenUpTo : LkC yX0_poolWrittenUpTo cX0_poolWrittenUpTo 2 (some .int) 1 := ⟨lw_good_in (n := 707) (by decide +kernel) rfl, lw_good_in (n := 145) (by decide +kernel) rfl, ⟨by decide +kernel, by decide +kernel⟩, by decide +kernel⟩
theorem lsX0_poolWrittenUpTo : LkSel yX0_poolWrittenUpTo := ⟨lw_good_in (n := 706) (by decide +kernel) rfl, lw_good_in (n := 38) (by decide +kernel) rfl⟩
abbrev rmX0_poolWrittenIn : Room := { frames := 2, cells := 0, slots := 0, locals := 44 }
theorem lcX0_poolWrittenIn : LkC yX0_poolWrittenIn cX0_poolWrittenIn 2 (some .int) 1 := ⟨lw_good_in (n := 1203) (by decide +kernel) rfl, lw_good_in (n := 145) (by decide +kernel) rfl, ⟨by decide +kernel, by decide +kernel⟩, by decide +kernel⟩
theorem lsX0_poolWrittenIn : LkSel yX0_poolWrittenIn := ⟨lw_good_in (n := 1202) (by decide +kernel) rfl, lw_good_in (n := 68) (by decide +kernel) rfl⟩
abbrev rmX0_soldFor : Room := { frames := 1, cells := 0, slots := 0, locals := 22 }
theorem lcX0_soldFor : LkC yX0_soldFor cX0_soldFor 6 (some .long) 2 := ⟨lw_good_in (n := 677) (by decide +kernel) rfl, lw_good_in (n := 145) (by decide +kernel) rfl, ⟨by decide +kernel, by decide +kernel⟩, by decide +kernel⟩
theorem lsX0_soldFor : LkSel yX0_soldFor := ⟨lw_good_in (n := 676) (by decide +kernel) rfl, lw_good_in (n := 31) (by decide +kernel) rfl⟩
abbrev rmX1_init : Room := { frames := 1, cells := 7, slots := 420, locals := 20 }
theorem lcX1_init : LkC yX1_init cX1_init 1 none 0 := ⟨lw_good_in (n := 297) (by decide +kernel) rfl, lw_good_in (n := 144) (by decide +kernel) rfl, ⟨by decide +kernel, by decide +kernel⟩, by decide +kernel⟩
theorem liX1_init : Cond.instanceMethod yX1_init ∈ lw_good := lw_good_in (n := 296) (by decide +kernel) rfl
abbrev rmX1_add : Room := { frames := 0, cells := 0, slots := 0, locals := 0 }
theorem lcX1_add : LkC yX1_add cX1_add 7 (some .int) 6 := ⟨lw_good_in (n := 908) (by decide +kernel) rfl, lw_good_in (n := 144) (by decide +kernel) rfl, ⟨by decide +kernel, by decide +kernel⟩, by decide +kernel⟩
theorem lsX1_add : LkSel yX1_add := ⟨lw_good_in (n := 907) (by decide +kernel) rfl, lw_good_in (n := 51) (by decide +kernel) rfl⟩
abbrev rmX1_copyFrom : Room := { frames := 0, cells := 0, slots := 0, locals := 0 }
theorem lcX1_copyFrom : LkC yX1_copyFrom cX1_copyFrom 3 none 1 := ⟨lw_good_in (n := 618) (by decide +kernel) rfl, lw_good_in (n := 144) (by decide +kernel) rfl, ⟨by decide +kernel, by decide +kernel⟩, by decide +kernel⟩
theorem lsX1_copyFrom : LkSel yX1_copyFrom := ⟨lw_good_in (n := 617) (by decide +kernel) rfl, lw_good_in (n := 21) (by decide +kernel) rfl⟩
abbrev rmX1_isOpen : Room := { frames := 0, cells := 0, slots := 0, locals := 0 }
theorem lcX1_isOpen : LkC yX1_isOpen cX1_isOpen 2 (some .boolean) 1 := ⟨lw_good_in (n := 1040) (by decide +kernel) rfl, lw_good_in (n := 144) (by decide +kernel) rfl, ⟨by decide +kernel, by decide +kernel⟩, by decide +kernel⟩
theorem lsX1_isOpen : LkSel yX1_isOpen := ⟨lw_good_in (n := 1039) (by decide +kernel) rfl, lw_good_in (n := 58) (by decide +kernel) rfl⟩
abbrev rmX1_counts : Room := { frames := 0, cells := 0, slots := 0, locals := 0 }
theorem lcX1_counts : LkC yX1_counts cX1_counts 2 (some .boolean) 1 := ⟨lw_good_in (n := 673) (by decide +kernel) rfl, lw_good_in (n := 144) (by decide +kernel) rfl, ⟨by decide +kernel, by decide +kernel⟩, by decide +kernel⟩
theorem lsX1_counts : LkSel yX1_counts := ⟨lw_good_in (n := 672) (by decide +kernel) rfl, lw_good_in (n := 30) (by decide +kernel) rfl⟩
abbrev rmX1_countsWithin : Room := { frames := 1, cells := 0, slots := 0, locals := 21 }
theorem lcX1_countsWithin : LkC yX1_countsWithin cX1_countsWithin 4 (some .boolean) 3 := ⟨lw_good_in (n := 669) (by decide +kernel) rfl, lw_good_in (n := 144) (by decide +kernel) rfl, ⟨by decide +kernel, by decide +kernel⟩, by decide +kernel⟩
theorem lsX1_countsWithin : LkSel yX1_countsWithin := ⟨lw_good_in (n := 668) (by decide +kernel) rfl, lw_good_in (n := 29) (by decide +kernel) rfl⟩
abbrev rmX1_openOnes : Room := { frames := 1, cells := 0, slots := 0, locals := 21 }
theorem lcX1_openOnes : LkC yX1_openOnes cX1_openOnes 3 (some .int) 0 := ⟨lw_good_in (n := 1036) (by decide +kernel) rfl, lw_good_in (n := 144) (by decide +kernel) rfl, ⟨by decide +kernel, by decide +kernel⟩, by decide +kernel⟩
theorem lsX1_openOnes : LkSel yX1_openOnes := ⟨lw_good_in (n := 1035) (by decide +kernel) rfl, lw_good_in (n := 57) (by decide +kernel) rfl⟩
abbrev rmX1_cancelledOnes : Room := { frames := 0, cells := 0, slots := 0, locals := 0 }
theorem lcX1_cancelledOnes : LkC yX1_cancelledOnes cX1_cancelledOnes 3 (some .int) 0 := ⟨lw_good_in (n := 1044) (by decide +kernel) rfl, lw_good_in (n := 144) (by decide +kernel) rfl, ⟨by decide +kernel, by decide +kernel⟩, by decide +kernel⟩
theorem lsX1_cancelledOnes : LkSel yX1_cancelledOnes := ⟨lw_good_in (n := 1043) (by decide +kernel) rfl, lw_good_in (n := 59) (by decide +kernel) rfl⟩
abbrev rmX1_lateOnes : Room := { frames := 0, cells := 0, slots := 0, locals := 0 }
theorem lcX1_lateOnes : LkC yX1_lateOnes cX1_lateOnes 3 (some .int) 0 := ⟨lw_good_in (n := 1048) (by decide +kernel) rfl, lw_good_in (n := 144) (by decide +kernel) rfl, ⟨by decide +kernel, by decide +kernel⟩, by decide +kernel⟩
theorem lsX1_lateOnes : LkSel yX1_lateOnes := ⟨lw_good_in (n := 1047) (by decide +kernel) rfl, lw_good_in (n := 60) (by decide +kernel) rfl⟩
abbrev rmX1_sumPaid : Room := { frames := 2, cells := 0, slots := 0, locals := 44 }
theorem lcX1_sumPaid : LkC yX1_sumPaid cX1_sumPaid 7 (some .long) 3 := ⟨lw_good_in (n := 665) (by decide +kernel) rfl, lw_good_in (n := 144) (by decide +kernel) rfl, ⟨by decide +kernel, by decide +kernel⟩, by decide +kernel⟩
theorem lsX1_sumPaid : LkSel yX1_sumPaid := ⟨lw_good_in (n := 664) (by decide +kernel) rfl, lw_good_in (n := 28) (by decide +kernel) rfl⟩
abbrev rmX1_incomesOf : Room := { frames := 1, cells := 0, slots := 0, locals := 21 }
theorem lcX1_incomesOf : LkC yX1_incomesOf cX1_incomesOf 5 (some .long) 1 := ⟨lw_good_in (n := 1090) (by decide +kernel) rfl, lw_good_in (n := 144) (by decide +kernel) rfl, ⟨by decide +kernel, by decide +kernel⟩, by decide +kernel⟩
theorem lsX1_incomesOf : LkSel yX1_incomesOf := ⟨lw_good_in (n := 1089) (by decide +kernel) rfl, lw_good_in (n := 63) (by decide +kernel) rfl⟩
abbrev rmX1_sumOpen : Room := { frames := 1, cells := 0, slots := 0, locals := 21 }
theorem lcX1_sumOpen : LkC yX1_sumOpen cX1_sumOpen 5 (some .long) 1 := ⟨lw_good_in (n := 1106) (by decide +kernel) rfl, lw_good_in (n := 144) (by decide +kernel) rfl, ⟨by decide +kernel, by decide +kernel⟩, by decide +kernel⟩
theorem lsX1_sumOpen : LkSel yX1_sumOpen := ⟨lw_good_in (n := 1105) (by decide +kernel) rfl, lw_good_in (n := 65) (by decide +kernel) rfl⟩
abbrev rmX1_firstInvoicedOpen : Room := { frames := 1, cells := 0, slots := 0, locals := 21 }
theorem lcX1_firstInvoicedOpen : LkC yX1_firstInvoicedOpen cX1_firstInvoicedOpen 3 (some .int) 0 := ⟨lw_good_in (n := 1118) (by decide +kernel) rfl, lw_good_in (n := 144) (by decide +kernel) rfl, ⟨by decide +kernel, by decide +kernel⟩, by decide +kernel⟩
theorem lsX1_firstInvoicedOpen : LkSel yX1_firstInvoicedOpen := ⟨lw_good_in (n := 1117) (by decide +kernel) rfl, lw_good_in (n := 66) (by decide +kernel) rfl⟩
abbrev rmX2_init : Room := { frames := 3, cells := 169, slots := 4320, locals := 60 }
theorem lcX2_init : LkC yX2_init cX2_init 2 none 0 := ⟨lw_good_in (n := 409) (by decide +kernel) rfl, lw_good_in (n := 146) (by decide +kernel) rfl, ⟨by decide +kernel, by decide +kernel⟩, by decide +kernel⟩
theorem liX2_init : Cond.instanceMethod yX2_init ∈ lw_good := lw_good_in (n := 408) (by decide +kernel) rfl
abbrev rmX2_clear : Room := { frames := 0, cells := 0, slots := 0, locals := 0 }
theorem lcX2_clear : LkC yX2_clear cX2_clear 1 none 0 := ⟨lw_good_in (n := 887) (by decide +kernel) rfl, lw_good_in (n := 146) (by decide +kernel) rfl, ⟨by decide +kernel, by decide +kernel⟩, by decide +kernel⟩
theorem lsX2_clear : LkSel yX2_clear := ⟨lw_good_in (n := 886) (by decide +kernel) rfl, lw_good_in (n := 49) (by decide +kernel) rfl⟩
abbrev rmX2_remember : Room := { frames := 2, cells := 0, slots := 0, locals := 44 }
theorem lcX2_remember : LkC yX2_remember cX2_remember 3 none 1 := ⟨lw_good_in (n := 902) (by decide +kernel) rfl, lw_good_in (n := 146) (by decide +kernel) rfl, ⟨by decide +kernel, by decide +kernel⟩, by decide +kernel⟩
theorem lsX2_remember : LkSel yX2_remember := ⟨lw_good_in (n := 901) (by decide +kernel) rfl, lw_good_in (n := 50) (by decide +kernel) rfl⟩
abbrev rmX2_takeBack : Room := { frames := 2, cells := 0, slots := 0, locals := 44 }
theorem lcX2_takeBack : LkC yX2_takeBack cX2_takeBack 3 none 1 := ⟨lw_good_in (n := 1015) (by decide +kernel) rfl, lw_good_in (n := 146) (by decide +kernel) rfl, ⟨by decide +kernel, by decide +kernel⟩, by decide +kernel⟩
theorem lsX2_takeBack : LkSel yX2_takeBack := ⟨lw_good_in (n := 1014) (by decide +kernel) rfl, lw_good_in (n := 56) (by decide +kernel) rfl⟩
abbrev rmX3_init : Room := { frames := 1, cells := 3, slots := 18, locals := 20 }
theorem lcX3_init : LkC yX3_init cX3_init 1 none 0 := ⟨lw_good_in (n := 184) (by decide +kernel) rfl, lw_good_in (n := 142) (by decide +kernel) rfl, ⟨by decide +kernel, by decide +kernel⟩, by decide +kernel⟩
theorem liX3_init : Cond.instanceMethod yX3_init ∈ lw_good := lw_good_in (n := 183) (by decide +kernel) rfl
abbrev rmX3_add : Room := { frames := 0, cells := 0, slots := 0, locals := 0 }
theorem lcX3_add : LkC yX3_add cX3_add 4 (some .int) 3 := ⟨lw_good_in (n := 601) (by decide +kernel) rfl, lw_good_in (n := 142) (by decide +kernel) rfl, ⟨by decide +kernel, by decide +kernel⟩, by decide +kernel⟩
theorem lsX3_add : LkSel yX3_add := ⟨lw_good_in (n := 600) (by decide +kernel) rfl, lw_good_in (n := 19) (by decide +kernel) rfl⟩
abbrev rmX3_copyFrom : Room := { frames := 0, cells := 0, slots := 0, locals := 0 }
theorem lcX3_copyFrom : LkC yX3_copyFrom cX3_copyFrom 3 none 1 := ⟨lw_good_in (n := 438) (by decide +kernel) rfl, lw_good_in (n := 142) (by decide +kernel) rfl, ⟨by decide +kernel, by decide +kernel⟩, by decide +kernel⟩
theorem lsX3_copyFrom : LkSel yX3_copyFrom := ⟨lw_good_in (n := 437) (by decide +kernel) rfl, lw_good_in (n := 3) (by decide +kernel) rfl⟩
abbrev rmX3_daysUsed : Room := { frames := 0, cells := 0, slots := 0, locals := 0 }
theorem lcX3_daysUsed : LkC yX3_daysUsed cX3_daysUsed 6 (some .int) 3 := ⟨lw_good_in (n := 699) (by decide +kernel) rfl, lw_good_in (n := 142) (by decide +kernel) rfl, ⟨by decide +kernel, by decide +kernel⟩, by decide +kernel⟩
theorem lsX3_daysUsed : LkSel yX3_daysUsed := ⟨lw_good_in (n := 698) (by decide +kernel) rfl, lw_good_in (n := 36) (by decide +kernel) rfl⟩
abbrev rmX3_usedIn : Room := { frames := 1, cells := 0, slots := 0, locals := 25 }
theorem lcX3_usedIn : LkC yX3_usedIn cX3_usedIn 5 (some .int) 1 := ⟨lw_good_in (n := 695) (by decide +kernel) rfl, lw_good_in (n := 142) (by decide +kernel) rfl, ⟨by decide +kernel, by decide +kernel⟩, by decide +kernel⟩
theorem lsX3_usedIn : LkSel yX3_usedIn := ⟨lw_good_in (n := 694) (by decide +kernel) rfl, lw_good_in (n := 35) (by decide +kernel) rfl⟩
abbrev rmX3_wholeMonth : Room := { frames := 0, cells := 0, slots := 0, locals := 0 }
theorem lcX3_wholeMonth : LkC yX3_wholeMonth cX3_wholeMonth 3 (some .int) 0 := ⟨lw_good_in (n := 691) (by decide +kernel) rfl, lw_good_in (n := 142) (by decide +kernel) rfl, ⟨by decide +kernel, by decide +kernel⟩, by decide +kernel⟩
theorem lsX3_wholeMonth : LkSel yX3_wholeMonth := ⟨lw_good_in (n := 690) (by decide +kernel) rfl, lw_good_in (n := 34) (by decide +kernel) rfl⟩
abbrev rmX4_init : Room := { frames := 2, cells := 6, slots := 32, locals := 40 }
theorem lcX4_init : LkC yX4_init cX4_init 1 none 0 := ⟨lw_good_in (n := 178) (by decide +kernel) rfl, lw_good_in (n := 141) (by decide +kernel) rfl, ⟨by decide +kernel, by decide +kernel⟩, by decide +kernel⟩
theorem liX4_init : Cond.instanceMethod yX4_init ∈ lw_good := lw_good_in (n := 177) (by decide +kernel) rfl
abbrev rmX4_useDefaults : Room := { frames := 0, cells := 0, slots := 0, locals := 0 }
theorem lcX4_useDefaults : LkC yX4_useDefaults cX4_useDefaults 1 none 0 := ⟨lw_good_in (n := 209) (by decide +kernel) rfl, lw_good_in (n := 141) (by decide +kernel) rfl, ⟨by decide +kernel, by decide +kernel⟩, by decide +kernel⟩
theorem lsX4_useDefaults : LkSel yX4_useDefaults := ⟨lw_good_in (n := 208) (by decide +kernel) rfl, lw_good_in (n := 0) (by decide +kernel) rfl⟩
abbrev rmX4_addBracket : Room := { frames := 0, cells := 0, slots := 0, locals := 0 }
theorem lcX4_addBracket : LkC yX4_addBracket cX4_addBracket 3 none 2 := ⟨lw_good_in (n := 429) (by decide +kernel) rfl, lw_good_in (n := 141) (by decide +kernel) rfl, ⟨by decide +kernel, by decide +kernel⟩, by decide +kernel⟩
theorem lsX4_addBracket : LkSel yX4_addBracket := ⟨lw_good_in (n := 428) (by decide +kernel) rfl, lw_good_in (n := 1) (by decide +kernel) rfl⟩
abbrev rmX4_lastLimit : Room := { frames := 0, cells := 0, slots := 0, locals := 0 }
theorem lcX4_lastLimit : LkC yX4_lastLimit cX4_lastLimit 1 (some .int) 0 := ⟨lw_good_in (n := 589) (by decide +kernel) rfl, lw_good_in (n := 141) (by decide +kernel) rfl, ⟨by decide +kernel, by decide +kernel⟩, by decide +kernel⟩
theorem lsX4_lastLimit : LkSel yX4_lastLimit := ⟨lw_good_in (n := 588) (by decide +kernel) rfl, lw_good_in (n := 17) (by decide +kernel) rfl⟩
abbrev rmX4_sortOf : Room := { frames := 0, cells := 0, slots := 0, locals := 0 }
theorem lcX4_sortOf : LkC yX4_sortOf cX4_sortOf 2 (some .int) 1 := ⟨lw_good_in (n := 970) (by decide +kernel) rfl, lw_good_in (n := 141) (by decide +kernel) rfl, ⟨by decide +kernel, by decide +kernel⟩, by decide +kernel⟩
theorem lsX4_sortOf : LkSel yX4_sortOf := ⟨lw_good_in (n := 969) (by decide +kernel) rfl, lw_good_in (n := 52) (by decide +kernel) rfl⟩
abbrev rmX4_taxOf : Room := { frames := 1, cells := 0, slots := 0, locals := 21 }
theorem lcX4_taxOf : LkC yX4_taxOf cX4_taxOf 8 (some .long) 1 := ⟨lw_good_in (n := 630) (by decide +kernel) rfl, lw_good_in (n := 141) (by decide +kernel) rfl, ⟨by decide +kernel, by decide +kernel⟩, by decide +kernel⟩
theorem lsX4_taxOf : LkSel yX4_taxOf := ⟨lw_good_in (n := 629) (by decide +kernel) rfl, lw_good_in (n := 23) (by decide +kernel) rfl⟩
abbrev rmX4_rateOf : Room := { frames := 0, cells := 0, slots := 0, locals := 0 }
theorem lcX4_rateOf : LkC yX4_rateOf cX4_rateOf 3 (some .int) 1 := ⟨lw_good_in (n := 645) (by decide +kernel) rfl, lw_good_in (n := 141) (by decide +kernel) rfl, ⟨by decide +kernel, by decide +kernel⟩, by decide +kernel⟩
theorem lsX4_rateOf : LkSel yX4_rateOf := ⟨lw_good_in (n := 644) (by decide +kernel) rfl, lw_good_in (n := 24) (by decide +kernel) rfl⟩
abbrev rmX5_init : Room := { frames := 3, cells := 8, slots := 441, locals := 60 }
theorem lcX5_init : LkC yX5_init cX5_init 1 none 0 := ⟨lw_good_in (n := 172) (by decide +kernel) rfl, lw_good_in (n := 140) (by decide +kernel) rfl, ⟨by decide +kernel, by decide +kernel⟩, by decide +kernel⟩
theorem liX5_init : Cond.instanceMethod yX5_init ∈ lw_good := lw_good_in (n := 171) (by decide +kernel) rfl
abbrev rmX5_read : Room := { frames := 9, cells := 0, slots := 0, locals := 245 }
theorem lcX5_read : LkC yX5_read cX5_read 4 (some .int) 2 := ⟨lw_good_in (n := 475) (by decide +kernel) rfl, lw_good_in (n := 140) (by decide +kernel) rfl, ⟨by decide +kernel, by decide +kernel⟩, by decide +kernel⟩
theorem lsX5_read : LkSel yX5_read := ⟨lw_good_in (n := 474) (by decide +kernel) rfl, lw_good_in (n := 4) (by decide +kernel) rfl⟩
abbrev rmX5_handOver : Room := { frames := 0, cells := 0, slots := 0, locals := 0 }
theorem lcX5_handOver : LkC yX5_handOver cX5_handOver 3 (some (.object "CashLedger$Setup")) 1 := ⟨lw_good_in (n := 883) (by decide +kernel) rfl, lw_good_in (n := 140) (by decide +kernel) rfl, ⟨by decide +kernel, by decide +kernel⟩, by decide +kernel⟩
theorem lsX5_handOver : LkSel yX5_handOver := ⟨lw_good_in (n := 882) (by decide +kernel) rfl, lw_good_in (n := 48) (by decide +kernel) rfl⟩
abbrev rmX5_begin : Room := { frames := 1, cells := 0, slots := 0, locals := 21 }
theorem lcX5_begin : LkC yX5_begin cX5_begin 4 none 2 := ⟨lw_good_in (n := 479) (by decide +kernel) rfl, lw_good_in (n := 140) (by decide +kernel) rfl, ⟨by decide +kernel, by decide +kernel⟩, by decide +kernel⟩
theorem lsX5_begin : LkSel yX5_begin := ⟨lw_good_in (n := 478) (by decide +kernel) rfl, lw_good_in (n := 5) (by decide +kernel) rfl⟩
abbrev rmX5_readStatement : Room := { frames := 8, cells := 0, slots := 0, locals := 225 }
theorem lcX5_readStatement : LkC yX5_readStatement cX5_readStatement 1 (some .boolean) 0 := ⟨lw_good_in (n := 499) (by decide +kernel) rfl, lw_good_in (n := 140) (by decide +kernel) rfl, ⟨by decide +kernel, by decide +kernel⟩, by decide +kernel⟩
theorem lsX5_readStatement : LkSel yX5_readStatement := ⟨lw_good_in (n := 498) (by decide +kernel) rfl, lw_good_in (n := 9) (by decide +kernel) rfl⟩
abbrev rmX5_readStart : Room := { frames := 3, cells := 0, slots := 0, locals := 66 }
theorem lcX5_readStart : LkC yX5_readStart cX5_readStart 1 (some .boolean) 0 := ⟨lw_good_in (n := 556) (by decide +kernel) rfl, lw_good_in (n := 140) (by decide +kernel) rfl, ⟨by decide +kernel, by decide +kernel⟩, by decide +kernel⟩
theorem lsX5_readStart : LkSel yX5_readStart := ⟨lw_good_in (n := 555) (by decide +kernel) rfl, lw_good_in (n := 11) (by decide +kernel) rfl⟩
abbrev rmX5_readAssets : Room := { frames := 3, cells := 0, slots := 0, locals := 66 }
theorem lcX5_readAssets : LkC yX5_readAssets cX5_readAssets 1 (some .boolean) 0 := ⟨lw_good_in (n := 569) (by decide +kernel) rfl, lw_good_in (n := 140) (by decide +kernel) rfl, ⟨by decide +kernel, by decide +kernel⟩, by decide +kernel⟩
theorem lsX5_readAssets : LkSel yX5_readAssets := ⟨lw_good_in (n := 568) (by decide +kernel) rfl, lw_good_in (n := 13) (by decide +kernel) rfl⟩
abbrev rmX5_readInterest : Room := { frames := 3, cells := 0, slots := 0, locals := 66 }
theorem lcX5_readInterest : LkC yX5_readInterest cX5_readInterest 1 (some .boolean) 0 := ⟨lw_good_in (n := 575) (by decide +kernel) rfl, lw_good_in (n := 140) (by decide +kernel) rfl, ⟨by decide +kernel, by decide +kernel⟩, by decide +kernel⟩
theorem lsX5_readInterest : LkSel yX5_readInterest := ⟨lw_good_in (n := 574) (by decide +kernel) rfl, lw_good_in (n := 14) (by decide +kernel) rfl⟩
abbrev rmX5_readTop : Room := { frames := 3, cells := 0, slots := 0, locals := 66 }
theorem lcX5_readTop : LkC yX5_readTop cX5_readTop 1 (some .boolean) 0 := ⟨lw_good_in (n := 580) (by decide +kernel) rfl, lw_good_in (n := 140) (by decide +kernel) rfl, ⟨by decide +kernel, by decide +kernel⟩, by decide +kernel⟩
theorem lsX5_readTop : LkSel yX5_readTop := ⟨lw_good_in (n := 579) (by decide +kernel) rfl, lw_good_in (n := 15) (by decide +kernel) rfl⟩
abbrev rmX5_readBracket : Room := { frames := 3, cells := 0, slots := 0, locals := 66 }
theorem lcX5_readBracket : LkC yX5_readBracket cX5_readBracket 3 (some .boolean) 0 := ⟨lw_good_in (n := 585) (by decide +kernel) rfl, lw_good_in (n := 140) (by decide +kernel) rfl, ⟨by decide +kernel, by decide +kernel⟩, by decide +kernel⟩
theorem lsX5_readBracket : LkSel yX5_readBracket := ⟨lw_good_in (n := 584) (by decide +kernel) rfl, lw_good_in (n := 16) (by decide +kernel) rfl⟩
abbrev rmX5_readRoom : Room := { frames := 7, cells := 0, slots := 0, locals := 202 }
theorem lcX5_readRoom : LkC yX5_readRoom cX5_readRoom 4 (some .boolean) 0 := ⟨lw_good_in (n := 596) (by decide +kernel) rfl, lw_good_in (n := 140) (by decide +kernel) rfl, ⟨by decide +kernel, by decide +kernel⟩, by decide +kernel⟩
theorem lsX5_readRoom : LkSel yX5_readRoom := ⟨lw_good_in (n := 595) (by decide +kernel) rfl, lw_good_in (n := 18) (by decide +kernel) rfl⟩
abbrev rmX5_takeNumber : Room := { frames := 2, cells := 0, slots := 0, locals := 43 }
theorem lcX5_takeNumber : LkC yX5_takeNumber cX5_takeNumber 4 (some .int) 2 := ⟨lw_good_in (n := 561) (by decide +kernel) rfl, lw_good_in (n := 140) (by decide +kernel) rfl, ⟨by decide +kernel, by decide +kernel⟩, by decide +kernel⟩
theorem lsX5_takeNumber : LkSel yX5_takeNumber := ⟨lw_good_in (n := 560) (by decide +kernel) rfl, lw_good_in (n := 12) (by decide +kernel) rfl⟩
abbrev rmX5_isWord : Room := { frames := 6, cells := 0, slots := 0, locals := 180 }
theorem lcX5_isWord : LkC yX5_isWord cX5_isWord 3 (some .boolean) 1 := ⟨lw_good_in (n := 504) (by decide +kernel) rfl, lw_good_in (n := 140) (by decide +kernel) rfl, ⟨by decide +kernel, by decide +kernel⟩, by decide +kernel⟩
theorem lsX5_isWord : LkSel yX5_isWord := ⟨lw_good_in (n := 503) (by decide +kernel) rfl, lw_good_in (n := 10) (by decide +kernel) rfl⟩
abbrev rmX5_nextToken : Room := { frames := 1, cells := 0, slots := 0, locals := 23 }
theorem lcX5_nextToken : LkC yX5_nextToken cX5_nextToken 1 none 0 := ⟨lw_good_in (n := 487) (by decide +kernel) rfl, lw_good_in (n := 140) (by decide +kernel) rfl, ⟨by decide +kernel, by decide +kernel⟩, by decide +kernel⟩
theorem lsX5_nextToken : LkSel yX5_nextToken := ⟨lw_good_in (n := 486) (by decide +kernel) rfl, lw_good_in (n := 6) (by decide +kernel) rfl⟩
abbrev rmX5_endOfRun : Room := { frames := 0, cells := 0, slots := 0, locals := 0 }
theorem lcX5_endOfRun : LkC yX5_endOfRun cX5_endOfRun 4 (some .int) 2 := ⟨lw_good_in (n := 491) (by decide +kernel) rfl, lw_good_in (n := 140) (by decide +kernel) rfl, ⟨by decide +kernel, by decide +kernel⟩, by decide +kernel⟩
theorem lsX5_endOfRun : LkSel yX5_endOfRun := ⟨lw_good_in (n := 490) (by decide +kernel) rfl, lw_good_in (n := 7) (by decide +kernel) rfl⟩
abbrev rmX5_valueOfDigits : Room := { frames := 0, cells := 0, slots := 0, locals := 0 }
theorem lcX5_valueOfDigits : LkC yX5_valueOfDigits cX5_valueOfDigits 3 (some .int) 0 := ⟨lw_good_in (n := 495) (by decide +kernel) rfl, lw_good_in (n := 140) (by decide +kernel) rfl, ⟨by decide +kernel, by decide +kernel⟩, by decide +kernel⟩
theorem lsX5_valueOfDigits : LkSel yX5_valueOfDigits := ⟨lw_good_in (n := 494) (by decide +kernel) rfl, lw_good_in (n := 8) (by decide +kernel) rfl⟩
abbrev rmX6_init : Room := { frames := 2, cells := 20, slots := 533, locals := 40 }
theorem lcX6_init : LkC yX6_init cX6_init 1 none 0 := ⟨lw_good_in (n := 291) (by decide +kernel) rfl, lw_good_in (n := 143) (by decide +kernel) rfl, ⟨by decide +kernel, by decide +kernel⟩, by decide +kernel⟩
theorem liX6_init : Cond.instanceMethod yX6_init ∈ lw_good := lw_good_in (n := 290) (by decide +kernel) rfl
abbrev rmX6_begin : Room := { frames := 1, cells := 0, slots := 0, locals := 22 }
theorem lcX6_begin : LkC yX6_begin cX6_begin 2 none 1 := ⟨lw_good_in (n := 434) (by decide +kernel) rfl, lw_good_in (n := 143) (by decide +kernel) rfl, ⟨by decide +kernel, by decide +kernel⟩, by decide +kernel⟩
theorem lsX6_begin : LkSel yX6_begin := ⟨lw_good_in (n := 433) (by decide +kernel) rfl, lw_good_in (n := 2) (by decide +kernel) rfl⟩
abbrev rmX6_copyFrom : Room := { frames := 1, cells := 0, slots := 0, locals := 22 }
theorem lcX6_copyFrom : LkC yX6_copyFrom cX6_copyFrom 3 none 1 := ⟨lw_good_in (n := 614) (by decide +kernel) rfl, lw_good_in (n := 143) (by decide +kernel) rfl, ⟨by decide +kernel, by decide +kernel⟩, by decide +kernel⟩
theorem lsX6_copyFrom : LkSel yX6_copyFrom := ⟨lw_good_in (n := 613) (by decide +kernel) rfl, lw_good_in (n := 20) (by decide +kernel) rfl⟩
abbrev rmX6_deductibleOf : Room := { frames := 2, cells := 0, slots := 0, locals := 49 }
theorem lcX6_deductibleOf : LkC yX6_deductibleOf cX6_deductibleOf 6 (some .long) 3 := ⟨lw_good_in (n := 687) (by decide +kernel) rfl, lw_good_in (n := 143) (by decide +kernel) rfl, ⟨by decide +kernel, by decide +kernel⟩, by decide +kernel⟩
theorem lsX6_deductibleOf : LkSel yX6_deductibleOf := ⟨lw_good_in (n := 686) (by decide +kernel) rfl, lw_good_in (n := 33) (by decide +kernel) rfl⟩
abbrev rmX6_deductiblePart : Room := { frames := 3, cells := 0, slots := 0, locals := 74 }
theorem lcX6_deductiblePart : LkC yX6_deductiblePart cX6_deductiblePart 2 (some .int) 1 := ⟨lw_good_in (n := 1071) (by decide +kernel) rfl, lw_good_in (n := 143) (by decide +kernel) rfl, ⟨by decide +kernel, by decide +kernel⟩, by decide +kernel⟩
theorem lsX6_deductiblePart : LkSel yX6_deductiblePart := ⟨lw_good_in (n := 1070) (by decide +kernel) rfl, lw_good_in (n := 62) (by decide +kernel) rfl⟩
abbrev rmX6_deductiblePartsOf : Room := { frames := 4, cells := 0, slots := 0, locals := 95 }
theorem lcX6_deductiblePartsOf : LkC yX6_deductiblePartsOf cX6_deductiblePartsOf 5 (some .long) 1 := ⟨lw_good_in (n := 1094) (by decide +kernel) rfl, lw_good_in (n := 143) (by decide +kernel) rfl, ⟨by decide +kernel, by decide +kernel⟩, by decide +kernel⟩
theorem lsX6_deductiblePartsOf : LkSel yX6_deductiblePartsOf := ⟨lw_good_in (n := 1093) (by decide +kernel) rfl, lw_good_in (n := 64) (by decide +kernel) rfl⟩
abbrev rmX6_deductibleUpTo : Room := { frames := 3, cells := 0, slots := 0, locals := 74 }
theorem lcX6_deductibleUpTo : LkC yX6_deductibleUpTo cX6_deductibleUpTo 5 (some .long) 1 := ⟨lw_good_in (n := 682) (by decide +kernel) rfl, lw_good_in (n := 143) (by decide +kernel) rfl, ⟨by decide +kernel, by decide +kernel⟩, by decide +kernel⟩
theorem lsX6_deductibleUpTo : LkSel yX6_deductibleUpTo := ⟨lw_good_in (n := 681) (by decide +kernel) rfl, lw_good_in (n := 32) (by decide +kernel) rfl⟩
abbrev rmX6_received : Room := { frames := 3, cells := 0, slots := 0, locals := 70 }
theorem lcX6_received : LkC yX6_received cX6_received 3 (some .long) 2 := ⟨lw_good_in (n := 661) (by decide +kernel) rfl, lw_good_in (n := 143) (by decide +kernel) rfl, ⟨by decide +kernel, by decide +kernel⟩, by decide +kernel⟩
theorem lsX6_received : LkSel yX6_received := ⟨lw_good_in (n := 660) (by decide +kernel) rfl, lw_good_in (n := 27) (by decide +kernel) rfl⟩
abbrev rmX6_receivedIn : Room := { frames := 4, cells := 0, slots := 0, locals := 92 }
theorem lcX6_receivedIn : LkC yX6_receivedIn cX6_receivedIn 3 (some .long) 1 := ⟨lw_good_in (n := 758) (by decide +kernel) rfl, lw_good_in (n := 143) (by decide +kernel) rfl, ⟨by decide +kernel, by decide +kernel⟩, by decide +kernel⟩
theorem lsX6_receivedIn : LkSel yX6_receivedIn := ⟨lw_good_in (n := 757) (by decide +kernel) rfl, lw_good_in (n := 45) (by decide +kernel) rfl⟩
abbrev rmX6_profitUpTo : Room := { frames := 4, cells := 0, slots := 0, locals := 98 }
theorem lcX6_profitUpTo : LkC yX6_profitUpTo cX6_profitUpTo 3 (some .long) 1 := ⟨lw_good_in (n := 657) (by decide +kernel) rfl, lw_good_in (n := 143) (by decide +kernel) rfl, ⟨by decide +kernel, by decide +kernel⟩, by decide +kernel⟩
theorem lsX6_profitUpTo : LkSel yX6_profitUpTo := ⟨lw_good_in (n := 656) (by decide +kernel) rfl, lw_good_in (n := 26) (by decide +kernel) rfl⟩
abbrev rmX6_prepaidSoFar : Room := { frames := 0, cells := 0, slots := 0, locals := 0 }
theorem lcX6_prepaidSoFar : LkC yX6_prepaidSoFar cX6_prepaidSoFar 4 (some .long) 0 := ⟨lw_good_in (n := 996) (by decide +kernel) rfl, lw_good_in (n := 143) (by decide +kernel) rfl, ⟨by decide +kernel, by decide +kernel⟩, by decide +kernel⟩
theorem lsX6_prepaidSoFar : LkSel yX6_prepaidSoFar := ⟨lw_good_in (n := 995) (by decide +kernel) rfl, lw_good_in (n := 55) (by decide +kernel) rfl⟩
abbrev rmX6_fillBalances : Room := { frames := 1, cells := 0, slots := 0, locals := 22 }
theorem lcX6_fillBalances : LkC yX6_fillBalances cX6_fillBalances 4 none 1 := ⟨lw_good_in (n := 742) (by decide +kernel) rfl, lw_good_in (n := 143) (by decide +kernel) rfl, ⟨by decide +kernel, by decide +kernel⟩, by decide +kernel⟩
theorem lsX6_fillBalances : LkSel yX6_fillBalances := ⟨lw_good_in (n := 741) (by decide +kernel) rfl, lw_good_in (n := 44) (by decide +kernel) rfl⟩
abbrev rmX6_move : Room := { frames := 0, cells := 0, slots := 0, locals := 0 }
theorem lcX6_move : LkC yX6_move cX6_move 3 none 3 := ⟨lw_good_in (n := 745) (by decide +kernel) rfl, lw_good_in (n := 143) (by decide +kernel) rfl, ⟨by decide +kernel, by decide +kernel⟩, by decide +kernel⟩
theorem stX6_move : Cond.static yX6_move ∈ lw_good := lw_good_in (n := 744) (by decide +kernel) rfl
abbrev rmX7_init : Room := { frames := 4, cells := 230, slots := 6654, locals := 81 }
theorem lcX7_init : LkC yX7_init cX7_init 1 none 0 := ⟨lw_good_in (n := 164) (by decide +kernel) rfl, lw_good_in (n := 139) (by decide +kernel) rfl, ⟨by decide +kernel, by decide +kernel⟩, by decide +kernel⟩
theorem liX7_init : Cond.instanceMethod yX7_init ∈ lw_good := lw_good_in (n := 163) (by decide +kernel) rfl
abbrev rmX7_append : Room := { frames := 7, cells := 1, slots := 6, locals := 115 }
theorem lcX7_append : LkC yX7_append cX7_append 7 (some .int) 5 := ⟨lw_good_in (n := 766) (by decide +kernel) rfl, lw_good_in (n := 139) (by decide +kernel) rfl, ⟨by decide +kernel, by decide +kernel⟩, by decide +kernel⟩
theorem lsX7_append : LkSel yX7_append := ⟨lw_good_in (n := 764) (by decide +kernel) rfl, lw_good_in (n := 765) (by decide +kernel) rfl⟩
abbrev rmX7_truncate : Room := { frames := 7, cells := 1, slots := 6, locals := 115 }
theorem lcX7_truncate : LkC yX7_truncate cX7_truncate 2 (some .int) 1 := ⟨lw_good_in (n := 852) (by decide +kernel) rfl, lw_good_in (n := 139) (by decide +kernel) rfl, ⟨by decide +kernel, by decide +kernel⟩, by decide +kernel⟩
theorem lsX7_truncate : LkSel yX7_truncate := ⟨lw_good_in (n := 850) (by decide +kernel) rfl, lw_good_in (n := 851) (by decide +kernel) rfl⟩
abbrev rmX7_errorPosition : Room := { frames := 10, cells := 0, slots := 0, locals := 268 }
theorem lcX7_errorPosition : LkC yX7_errorPosition cX7_errorPosition 1 (some .int) 0 := ⟨lw_good_in (n := 471) (by decide +kernel) rfl, lw_good_in (n := 139) (by decide +kernel) rfl, ⟨by decide +kernel, by decide +kernel⟩, by decide +kernel⟩
theorem lsX7_errorPosition : LkSel yX7_errorPosition := ⟨lw_good_in (n := 469) (by decide +kernel) rfl, lw_good_in (n := 470) (by decide +kernel) rfl⟩
abbrev rmX7_load : Room := { frames := 10, cells := 1, slots := 6, locals := 268 }
theorem lcX7_load : LkC yX7_load cX7_load 1 (some .int) 0 := ⟨lw_good_in (n := 879) (by decide +kernel) rfl, lw_good_in (n := 139) (by decide +kernel) rfl, ⟨by decide +kernel, by decide +kernel⟩, by decide +kernel⟩
theorem lsX7_load : LkSel yX7_load := ⟨lw_good_in (n := 877) (by decide +kernel) rfl, lw_good_in (n := 878) (by decide +kernel) rfl⟩
abbrev rmX7_addEntry : Room := { frames := 7, cells := 2, slots := 12, locals := 115 }
theorem lcX7_addEntry : LkC yX7_addEntry cX7_addEntry 7 (some .int) 5 := ⟨lw_good_in (n := 894) (by decide +kernel) rfl, lw_good_in (n := 139) (by decide +kernel) rfl, ⟨by decide +kernel, by decide +kernel⟩, by decide +kernel⟩
theorem lsX7_addEntry : LkSel yX7_addEntry := ⟨lw_good_in (n := 892) (by decide +kernel) rfl, lw_good_in (n := 893) (by decide +kernel) rfl⟩
abbrev rmX7_pay : Room := { frames := 7, cells := 3, slots := 18, locals := 116 }
theorem lcX7_pay : LkC yX7_pay cX7_pay 4 (some .int) 2 := ⟨lw_good_in (n := 916) (by decide +kernel) rfl, lw_good_in (n := 139) (by decide +kernel) rfl, ⟨by decide +kernel, by decide +kernel⟩, by decide +kernel⟩
theorem lsX7_pay : LkSel yX7_pay := ⟨lw_good_in (n := 914) (by decide +kernel) rfl, lw_good_in (n := 915) (by decide +kernel) rfl⟩
abbrev rmX7_cancel : Room := { frames := 7, cells := 2, slots := 12, locals := 116 }
theorem lcX7_cancel : LkC yX7_cancel cX7_cancel 2 (some .int) 1 := ⟨lw_good_in (n := 942) (by decide +kernel) rfl, lw_good_in (n := 139) (by decide +kernel) rfl, ⟨by decide +kernel, by decide +kernel⟩, by decide +kernel⟩
theorem lsX7_cancel : LkSel yX7_cancel := ⟨lw_good_in (n := 940) (by decide +kernel) rfl, lw_good_in (n := 941) (by decide +kernel) rfl⟩
abbrev rmX7_addRoom : Room := { frames := 7, cells := 2, slots := 12, locals := 115 }
theorem lcX7_addRoom : LkC yX7_addRoom cX7_addRoom 2 (some .int) 1 := ⟨lw_good_in (n := 949) (by decide +kernel) rfl, lw_good_in (n := 139) (by decide +kernel) rfl, ⟨by decide +kernel, by decide +kernel⟩, by decide +kernel⟩
theorem lsX7_addRoom : LkSel yX7_addRoom := ⟨lw_good_in (n := 947) (by decide +kernel) rfl, lw_good_in (n := 948) (by decide +kernel) rfl⟩
abbrev rmX7_setOffice : Room := { frames := 7, cells := 2, slots := 12, locals := 116 }
theorem lcX7_setOffice : LkC yX7_setOffice cX7_setOffice 5 (some .int) 3 := ⟨lw_good_in (n := 957) (by decide +kernel) rfl, lw_good_in (n := 139) (by decide +kernel) rfl, ⟨by decide +kernel, by decide +kernel⟩, by decide +kernel⟩
theorem lsX7_setOffice : LkSel yX7_setOffice := ⟨lw_good_in (n := 955) (by decide +kernel) rfl, lw_good_in (n := 956) (by decide +kernel) rfl⟩
abbrev rmX7_addAsset : Room := { frames := 7, cells := 2, slots := 12, locals := 115 }
theorem lcX7_addAsset : LkC yX7_addAsset cX7_addAsset 4 (some .int) 3 := ⟨lw_good_in (n := 965) (by decide +kernel) rfl, lw_good_in (n := 139) (by decide +kernel) rfl, ⟨by decide +kernel, by decide +kernel⟩, by decide +kernel⟩
theorem lsX7_addAsset : LkSel yX7_addAsset := ⟨lw_good_in (n := 963) (by decide +kernel) rfl, lw_good_in (n := 964) (by decide +kernel) rfl⟩
abbrev rmX7_sellAsset : Room := { frames := 7, cells := 3, slots := 18, locals := 116 }
theorem lcX7_sellAsset : LkC yX7_sellAsset cX7_sellAsset 5 (some .int) 3 := ⟨lw_good_in (n := 981) (by decide +kernel) rfl, lw_good_in (n := 139) (by decide +kernel) rfl, ⟨by decide +kernel, by decide +kernel⟩, by decide +kernel⟩
theorem lsX7_sellAsset : LkSel yX7_sellAsset := ⟨lw_good_in (n := 979) (by decide +kernel) rfl, lw_good_in (n := 980) (by decide +kernel) rfl⟩
abbrev rmX7_closeQuarter : Room := { frames := 7, cells := 1, slots := 6, locals := 120 }
theorem lcX7_closeQuarter : LkC yX7_closeQuarter cX7_closeQuarter 5 (some .int) 0 := ⟨lw_good_in (n := 992) (by decide +kernel) rfl, lw_good_in (n := 139) (by decide +kernel) rfl, ⟨by decide +kernel, by decide +kernel⟩, by decide +kernel⟩
theorem lsX7_closeQuarter : LkSel yX7_closeQuarter := ⟨lw_good_in (n := 990) (by decide +kernel) rfl, lw_good_in (n := 991) (by decide +kernel) rfl⟩
abbrev rmX7_setStart : Room := { frames := 7, cells := 1, slots := 6, locals := 115 }
theorem lcX7_setStart : LkC yX7_setStart cX7_setStart 3 (some .int) 1 := ⟨lw_good_in (n := 1003) (by decide +kernel) rfl, lw_good_in (n := 139) (by decide +kernel) rfl, ⟨by decide +kernel, by decide +kernel⟩, by decide +kernel⟩
theorem lsX7_setStart : LkSel yX7_setStart := ⟨lw_good_in (n := 1001) (by decide +kernel) rfl, lw_good_in (n := 1002) (by decide +kernel) rfl⟩
abbrev rmX7_undo : Room := { frames := 7, cells := 1, slots := 6, locals := 115 }
theorem lcX7_undo : LkC yX7_undo cX7_undo 1 (some .int) 0 := ⟨lw_good_in (n := 1011) (by decide +kernel) rfl, lw_good_in (n := 139) (by decide +kernel) rfl, ⟨by decide +kernel, by decide +kernel⟩, by decide +kernel⟩
theorem lsX7_undo : LkSel yX7_undo := ⟨lw_good_in (n := 1009) (by decide +kernel) rfl, lw_good_in (n := 1010) (by decide +kernel) rfl⟩
abbrev rmX7_undoCount : Room := { frames := 0, cells := 0, slots := 0, locals := 0 }
theorem lcX7_undoCount : LkC yX7_undoCount cX7_undoCount 1 (some .int) 0 := ⟨lw_good_in (n := 606) (by decide +kernel) rfl, lw_good_in (n := 139) (by decide +kernel) rfl, ⟨by decide +kernel, by decide +kernel⟩, by decide +kernel⟩
theorem lsX7_undoCount : LkSel yX7_undoCount := ⟨lw_good_in (n := 604) (by decide +kernel) rfl, lw_good_in (n := 605) (by decide +kernel) rfl⟩
abbrev rmX7_save : Room := { frames := 2, cells := 0, slots := 0, locals := 44 }
theorem lcX7_save : LkC yX7_save cX7_save 1 (some .int) 0 := ⟨lw_good_in (n := 610) (by decide +kernel) rfl, lw_good_in (n := 139) (by decide +kernel) rfl, ⟨by decide +kernel, by decide +kernel⟩, by decide +kernel⟩
theorem lsX7_save : LkSel yX7_save := ⟨lw_good_in (n := 608) (by decide +kernel) rfl, lw_good_in (n := 609) (by decide +kernel) rfl⟩
abbrev rmX7_restore : Room := { frames := 7, cells := 1, slots := 6, locals := 115 }
theorem lcX7_restore : LkC yX7_restore cX7_restore 1 (some .int) 0 := ⟨lw_good_in (n := 1025) (by decide +kernel) rfl, lw_good_in (n := 139) (by decide +kernel) rfl, ⟨by decide +kernel, by decide +kernel⟩, by decide +kernel⟩
theorem lsX7_restore : LkSel yX7_restore := ⟨lw_good_in (n := 1023) (by decide +kernel) rfl, lw_good_in (n := 1024) (by decide +kernel) rfl⟩
abbrev rmX7_count : Room := { frames := 6, cells := 1, slots := 6, locals := 95 }
theorem lcX7_count : LkC yX7_count cX7_count 2 (some .int) 1 := ⟨lw_good_in (n := 1032) (by decide +kernel) rfl, lw_good_in (n := 139) (by decide +kernel) rfl, ⟨by decide +kernel, by decide +kernel⟩, by decide +kernel⟩
theorem lsX7_count : LkSel yX7_count := ⟨lw_good_in (n := 1030) (by decide +kernel) rfl, lw_good_in (n := 1031) (by decide +kernel) rfl⟩
abbrev rmX7_entry : Room := { frames := 7, cells := 2, slots := 12, locals := 116 }
theorem lcX7_entry : LkC yX7_entry cX7_entry 3 (some .int) 2 := ⟨lw_good_in (n := 1060) (by decide +kernel) rfl, lw_good_in (n := 139) (by decide +kernel) rfl, ⟨by decide +kernel, by decide +kernel⟩, by decide +kernel⟩
theorem lsX7_entry : LkSel yX7_entry := ⟨lw_good_in (n := 1058) (by decide +kernel) rfl, lw_good_in (n := 1059) (by decide +kernel) rfl⟩
abbrev rmX7_deductible : Room := { frames := 7, cells := 1, slots := 6, locals := 116 }
theorem lcX7_deductible : LkC yX7_deductible cX7_deductible 2 (some .int) 1 := ⟨lw_good_in (n := 1067) (by decide +kernel) rfl, lw_good_in (n := 139) (by decide +kernel) rfl, ⟨by decide +kernel, by decide +kernel⟩, by decide +kernel⟩
theorem lsX7_deductible : LkSel yX7_deductible := ⟨lw_good_in (n := 1065) (by decide +kernel) rfl, lw_good_in (n := 1066) (by decide +kernel) rfl⟩
abbrev rmX7_total : Room := { frames := 7, cells := 1, slots := 6, locals := 115 }
theorem lcX7_total : LkC yX7_total cX7_total 4 (some .long) 3 := ⟨lw_good_in (n := 1078) (by decide +kernel) rfl, lw_good_in (n := 139) (by decide +kernel) rfl, ⟨by decide +kernel, by decide +kernel⟩, by decide +kernel⟩
theorem lsX7_total : LkSel yX7_total := ⟨lw_good_in (n := 1076) (by decide +kernel) rfl, lw_good_in (n := 1077) (by decide +kernel) rfl⟩
abbrev rmX7_byCategory : Room := { frames := 7, cells := 1, slots := 6, locals := 119 }
theorem lcX7_byCategory : LkC yX7_byCategory cX7_byCategory 3 (some .long) 2 := ⟨lw_good_in (n := 1086) (by decide +kernel) rfl, lw_good_in (n := 139) (by decide +kernel) rfl, ⟨by decide +kernel, by decide +kernel⟩, by decide +kernel⟩
theorem lsX7_byCategory : LkSel yX7_byCategory := ⟨lw_good_in (n := 1084) (by decide +kernel) rfl, lw_good_in (n := 1085) (by decide +kernel) rfl⟩
abbrev rmX7_open : Room := { frames := 7, cells := 1, slots := 6, locals := 115 }
theorem lcX7_open : LkC yX7_open cX7_open 2 (some .long) 1 := ⟨lw_good_in (n := 1102) (by decide +kernel) rfl, lw_good_in (n := 139) (by decide +kernel) rfl, ⟨by decide +kernel, by decide +kernel⟩, by decide +kernel⟩
theorem lsX7_open : LkSel yX7_open := ⟨lw_good_in (n := 1100) (by decide +kernel) rfl, lw_good_in (n := 1101) (by decide +kernel) rfl⟩
abbrev rmX7_oldestOpen : Room := { frames := 7, cells := 1, slots := 6, locals := 115 }
theorem lcX7_oldestOpen : LkC yX7_oldestOpen cX7_oldestOpen 2 (some .int) 0 := ⟨lw_good_in (n := 1114) (by decide +kernel) rfl, lw_good_in (n := 139) (by decide +kernel) rfl, ⟨by decide +kernel, by decide +kernel⟩, by decide +kernel⟩
theorem lsX7_oldestOpen : LkSel yX7_oldestOpen := ⟨lw_good_in (n := 1112) (by decide +kernel) rfl, lw_good_in (n := 1113) (by decide +kernel) rfl⟩
abbrev rmX7_room : Room := { frames := 7, cells := 2, slots := 12, locals := 116 }
theorem lcX7_room : LkC yX7_room cX7_room 3 (some .int) 2 := ⟨lw_good_in (n := 1144) (by decide +kernel) rfl, lw_good_in (n := 139) (by decide +kernel) rfl, ⟨by decide +kernel, by decide +kernel⟩, by decide +kernel⟩
theorem lsX7_room : LkSel yX7_room := ⟨lw_good_in (n := 1142) (by decide +kernel) rfl, lw_good_in (n := 1143) (by decide +kernel) rfl⟩
abbrev rmX7_share : Room := { frames := 7, cells := 1, slots := 6, locals := 115 }
theorem lcX7_share : LkC yX7_share cX7_share 6 (some .int) 2 := ⟨lw_good_in (n := 1151) (by decide +kernel) rfl, lw_good_in (n := 139) (by decide +kernel) rfl, ⟨by decide +kernel, by decide +kernel⟩, by decide +kernel⟩
theorem lsX7_share : LkSel yX7_share := ⟨lw_good_in (n := 1149) (by decide +kernel) rfl, lw_good_in (n := 1150) (by decide +kernel) rfl⟩
abbrev rmX7_asset : Room := { frames := 7, cells := 2, slots := 12, locals := 116 }
theorem lcX7_asset : LkC yX7_asset cX7_asset 3 (some .int) 2 := ⟨lw_good_in (n := 1163) (by decide +kernel) rfl, lw_good_in (n := 139) (by decide +kernel) rfl, ⟨by decide +kernel, by decide +kernel⟩, by decide +kernel⟩
theorem lsX7_asset : LkSel yX7_asset := ⟨lw_good_in (n := 1161) (by decide +kernel) rfl, lw_good_in (n := 1162) (by decide +kernel) rfl⟩
abbrev rmX7_written : Room := { frames := 7, cells := 2, slots := 12, locals := 116 }
theorem lcX7_written : LkC yX7_written cX7_written 3 (some .int) 2 := ⟨lw_good_in (n := 1170) (by decide +kernel) rfl, lw_good_in (n := 139) (by decide +kernel) rfl, ⟨by decide +kernel, by decide +kernel⟩, by decide +kernel⟩
theorem lsX7_written : LkSel yX7_written := ⟨lw_good_in (n := 1168) (by decide +kernel) rfl, lw_good_in (n := 1169) (by decide +kernel) rfl⟩
abbrev rmX7_bookValue : Room := { frames := 7, cells := 2, slots := 12, locals := 116 }
theorem lcX7_bookValue : LkC yX7_bookValue cX7_bookValue 3 (some .int) 2 := ⟨lw_good_in (n := 1181) (by decide +kernel) rfl, lw_good_in (n := 139) (by decide +kernel) rfl, ⟨by decide +kernel, by decide +kernel⟩, by decide +kernel⟩
theorem lsX7_bookValue : LkSel yX7_bookValue := ⟨lw_good_in (n := 1179) (by decide +kernel) rfl, lw_good_in (n := 1180) (by decide +kernel) rfl⟩
abbrev rmX7_pool : Room := { frames := 8, cells := 1, slots := 6, locals := 135 }
theorem lcX7_pool : LkC yX7_pool cX7_pool 2 (some .int) 1 := ⟨lw_good_in (n := 1188) (by decide +kernel) rfl, lw_good_in (n := 139) (by decide +kernel) rfl, ⟨by decide +kernel, by decide +kernel⟩, by decide +kernel⟩
theorem lsX7_pool : LkSel yX7_pool := ⟨lw_good_in (n := 1186) (by decide +kernel) rfl, lw_good_in (n := 1187) (by decide +kernel) rfl⟩
abbrev rmX7_poolWritten : Room := { frames := 8, cells := 1, slots := 6, locals := 135 }
theorem lcX7_poolWritten : LkC yX7_poolWritten cX7_poolWritten 2 (some .int) 1 := ⟨lw_good_in (n := 1199) (by decide +kernel) rfl, lw_good_in (n := 139) (by decide +kernel) rfl, ⟨by decide +kernel, by decide +kernel⟩, by decide +kernel⟩
theorem lsX7_poolWritten : LkSel yX7_poolWritten := ⟨lw_good_in (n := 1197) (by decide +kernel) rfl, lw_good_in (n := 1198) (by decide +kernel) rfl⟩
abbrev rmX7_profit : Room := { frames := 8, cells := 1, slots := 6, locals := 135 }
theorem lcX7_profit : LkC yX7_profit cX7_profit 2 (some .long) 1 := ⟨lw_good_in (n := 1210) (by decide +kernel) rfl, lw_good_in (n := 139) (by decide +kernel) rfl, ⟨by decide +kernel, by decide +kernel⟩, by decide +kernel⟩
theorem lsX7_profit : LkSel yX7_profit := ⟨lw_good_in (n := 1208) (by decide +kernel) rfl, lw_good_in (n := 1209) (by decide +kernel) rfl⟩
abbrev rmX7_profitTo : Room := { frames := 8, cells := 1, slots := 6, locals := 135 }
theorem lcX7_profitTo : LkC yX7_profitTo cX7_profitTo 2 (some .long) 1 := ⟨lw_good_in (n := 1217) (by decide +kernel) rfl, lw_good_in (n := 139) (by decide +kernel) rfl, ⟨by decide +kernel, by decide +kernel⟩, by decide +kernel⟩
theorem lsX7_profitTo : LkSel yX7_profitTo := ⟨lw_good_in (n := 1215) (by decide +kernel) rfl, lw_good_in (n := 1216) (by decide +kernel) rfl⟩
abbrev rmX7_tax : Room := { frames := 2, cells := 0, slots := 0, locals := 48 }
theorem lcX7_tax : LkC yX7_tax cX7_tax 2 (some .long) 1 := ⟨lw_good_in (n := 626) (by decide +kernel) rfl, lw_good_in (n := 139) (by decide +kernel) rfl, ⟨by decide +kernel, by decide +kernel⟩, by decide +kernel⟩
theorem lsX7_tax : LkSel yX7_tax := ⟨lw_good_in (n := 624) (by decide +kernel) rfl, lw_good_in (n := 625) (by decide +kernel) rfl⟩
abbrev rmX7_rate : Room := { frames := 1, cells := 0, slots := 0, locals := 22 }
theorem lcX7_rate : LkC yX7_rate cX7_rate 2 (some .int) 1 := ⟨lw_good_in (n := 641) (by decide +kernel) rfl, lw_good_in (n := 139) (by decide +kernel) rfl, ⟨by decide +kernel, by decide +kernel⟩, by decide +kernel⟩
theorem lsX7_rate : LkSel yX7_rate := ⟨lw_good_in (n := 639) (by decide +kernel) rfl, lw_good_in (n := 640) (by decide +kernel) rfl⟩
abbrev rmX7_yearTax : Room := { frames := 6, cells := 0, slots := 0, locals := 140 }
theorem lcX7_yearTax : LkC yX7_yearTax cX7_yearTax 1 (some .long) 0 := ⟨lw_good_in (n := 649) (by decide +kernel) rfl, lw_good_in (n := 139) (by decide +kernel) rfl, ⟨by decide +kernel, by decide +kernel⟩, by decide +kernel⟩
theorem lsX7_yearTax : LkSel yX7_yearTax := ⟨lw_good_in (n := 647) (by decide +kernel) rfl, lw_good_in (n := 648) (by decide +kernel) rfl⟩
abbrev rmX7_prepayment : Room := { frames := 8, cells := 2, slots := 12, locals := 135 }
theorem lcX7_prepayment : LkC yX7_prepayment cX7_prepayment 2 (some .int) 1 := ⟨lw_good_in (n := 1224) (by decide +kernel) rfl, lw_good_in (n := 139) (by decide +kernel) rfl, ⟨by decide +kernel, by decide +kernel⟩, by decide +kernel⟩
theorem lsX7_prepayment : LkSel yX7_prepayment := ⟨lw_good_in (n := 1222) (by decide +kernel) rfl, lw_good_in (n := 1223) (by decide +kernel) rfl⟩
abbrev rmX7_recomputed : Room := { frames := 8, cells := 1, slots := 6, locals := 146 }
theorem lcX7_recomputed : LkC yX7_recomputed cX7_recomputed 2 (some .int) 1 := ⟨lw_good_in (n := 1231) (by decide +kernel) rfl, lw_good_in (n := 139) (by decide +kernel) rfl, ⟨by decide +kernel, by decide +kernel⟩, by decide +kernel⟩
theorem lsX7_recomputed : LkSel yX7_recomputed := ⟨lw_good_in (n := 1229) (by decide +kernel) rfl, lw_good_in (n := 1230) (by decide +kernel) rfl⟩
abbrev rmX7_correction : Room := { frames := 8, cells := 2, slots := 12, locals := 146 }
theorem lcX7_correction : LkC yX7_correction cX7_correction 2 (some .int) 1 := ⟨lw_good_in (n := 1238) (by decide +kernel) rfl, lw_good_in (n := 139) (by decide +kernel) rfl, ⟨by decide +kernel, by decide +kernel⟩, by decide +kernel⟩
theorem lsX7_correction : LkSel yX7_correction := ⟨lw_good_in (n := 1236) (by decide +kernel) rfl, lw_good_in (n := 1237) (by decide +kernel) rfl⟩
abbrev rmX7_settlement : Room := { frames := 7, cells := 1, slots := 6, locals := 140 }
theorem lcX7_settlement : LkC yX7_settlement cX7_settlement 1 (some .long) 0 := ⟨lw_good_in (n := 1245) (by decide +kernel) rfl, lw_good_in (n := 139) (by decide +kernel) rfl, ⟨by decide +kernel, by decide +kernel⟩, by decide +kernel⟩
theorem lsX7_settlement : LkSel yX7_settlement := ⟨lw_good_in (n := 1243) (by decide +kernel) rfl, lw_good_in (n := 1244) (by decide +kernel) rfl⟩
abbrev rmX7_interest : Room := { frames := 6, cells := 0, slots := 0, locals := 146 }
theorem lcX7_interest : LkC yX7_interest cX7_interest 6 (some .long) 0 := ⟨lw_good_in (n := 723) (by decide +kernel) rfl, lw_good_in (n := 139) (by decide +kernel) rfl, ⟨by decide +kernel, by decide +kernel⟩, by decide +kernel⟩
theorem lsX7_interest : LkSel yX7_interest := ⟨lw_good_in (n := 721) (by decide +kernel) rfl, lw_good_in (n := 722) (by decide +kernel) rfl⟩
abbrev rmX7_effectiveRate : Room := { frames := 7, cells := 1, slots := 6, locals := 140 }
theorem lcX7_effectiveRate : LkC yX7_effectiveRate cX7_effectiveRate 3 (some .double) 0 := ⟨lw_good_in (n := 1252) (by decide +kernel) rfl, lw_good_in (n := 139) (by decide +kernel) rfl, ⟨by decide +kernel, by decide +kernel⟩, by decide +kernel⟩
theorem lsX7_effectiveRate : LkSel yX7_effectiveRate := ⟨lw_good_in (n := 1250) (by decide +kernel) rfl, lw_good_in (n := 1251) (by decide +kernel) rfl⟩
abbrev rmX7_whatIf : Room := { frames := 7, cells := 1, slots := 6, locals := 140 }
theorem lcX7_whatIf : LkC yX7_whatIf cX7_whatIf 6 (some .long) 3 := ⟨lw_good_in (n := 1260) (by decide +kernel) rfl, lw_good_in (n := 139) (by decide +kernel) rfl, ⟨by decide +kernel, by decide +kernel⟩, by decide +kernel⟩
theorem lsX7_whatIf : LkSel yX7_whatIf := ⟨lw_good_in (n := 1258) (by decide +kernel) rfl, lw_good_in (n := 1259) (by decide +kernel) rfl⟩
abbrev rmX7_neededIncome : Room := { frames := 7, cells := 2, slots := 12, locals := 140 }
theorem lcX7_neededIncome : LkC yX7_neededIncome cX7_neededIncome 8 (some .int) 1 := ⟨lw_good_in (n := 1272) (by decide +kernel) rfl, lw_good_in (n := 139) (by decide +kernel) rfl, ⟨by decide +kernel, by decide +kernel⟩, by decide +kernel⟩
theorem lsX7_neededIncome : LkSel yX7_neededIncome := ⟨lw_good_in (n := 1270) (by decide +kernel) rfl, lw_good_in (n := 1271) (by decide +kernel) rfl⟩
abbrev rmX7_balance : Room := { frames := 7, cells := 1, slots := 6, locals := 115 }
theorem lcX7_balance : LkC yX7_balance cX7_balance 2 (some .long) 1 := ⟨lw_good_in (n := 1284) (by decide +kernel) rfl, lw_good_in (n := 139) (by decide +kernel) rfl, ⟨by decide +kernel, by decide +kernel⟩, by decide +kernel⟩
theorem lsX7_balance : LkSel yX7_balance := ⟨lw_good_in (n := 1282) (by decide +kernel) rfl, lw_good_in (n := 1283) (by decide +kernel) rfl⟩
abbrev rmX7_lowestDay : Room := { frames := 2, cells := 0, slots := 0, locals := 45 }
theorem lcX7_lowestDay : LkC yX7_lowestDay cX7_lowestDay 3 (some .int) 0 := ⟨lw_good_in (n := 738) (by decide +kernel) rfl, lw_good_in (n := 139) (by decide +kernel) rfl, ⟨by decide +kernel, by decide +kernel⟩, by decide +kernel⟩
theorem lsX7_lowestDay : LkSel yX7_lowestDay := ⟨lw_good_in (n := 736) (by decide +kernel) rfl, lw_good_in (n := 737) (by decide +kernel) rfl⟩
abbrev rmX7_daysBelow : Room := { frames := 2, cells := 0, slots := 0, locals := 45 }
theorem lcX7_daysBelow : LkC yX7_daysBelow cX7_daysBelow 4 (some .int) 1 := ⟨lw_good_in (n := 750) (by decide +kernel) rfl, lw_good_in (n := 139) (by decide +kernel) rfl, ⟨by decide +kernel, by decide +kernel⟩, by decide +kernel⟩
theorem lsX7_daysBelow : LkSel yX7_daysBelow := ⟨lw_good_in (n := 748) (by decide +kernel) rfl, lw_good_in (n := 749) (by decide +kernel) rfl⟩
abbrev rmX7_bestMonth : Room := { frames := 5, cells := 0, slots := 0, locals := 114 }
theorem lcX7_bestMonth : LkC yX7_bestMonth cX7_bestMonth 7 (some .int) 0 := ⟨lw_good_in (n := 754) (by decide +kernel) rfl, lw_good_in (n := 139) (by decide +kernel) rfl, ⟨by decide +kernel, by decide +kernel⟩, by decide +kernel⟩
theorem lsX7_bestMonth : LkSel yX7_bestMonth := ⟨lw_good_in (n := 752) (by decide +kernel) rfl, lw_good_in (n := 753) (by decide +kernel) rfl⟩
abbrev rmX7_requireArgument : Room := { frames := 6, cells := 1, slots := 6, locals := 95 }
theorem lcX7_requireArgument : LkC yX7_requireArgument cX7_requireArgument 1 none 1 := ⟨lw_good_in (n := 856) (by decide +kernel) rfl, lw_good_in (n := 139) (by decide +kernel) rfl, ⟨by decide +kernel, by decide +kernel⟩, by decide +kernel⟩
theorem stX7_requireArgument : Cond.static yX7_requireArgument ∈ lw_good := lw_good_in (n := 855) (by decide +kernel) rfl
abbrev rmX7_requireState : Room := { frames := 6, cells := 1, slots := 6, locals := 95 }
theorem lcX7_requireState : LkC yX7_requireState cX7_requireState 1 none 1 := ⟨lw_good_in (n := 772) (by decide +kernel) rfl, lw_good_in (n := 139) (by decide +kernel) rfl, ⟨by decide +kernel, by decide +kernel⟩, by decide +kernel⟩
theorem stX7_requireState : Cond.static yX7_requireState ∈ lw_good := lw_good_in (n := 771) (by decide +kernel) rfl
abbrev rmX7_requireElement : Room := { frames := 6, cells := 1, slots := 6, locals := 95 }
theorem lcX7_requireElement : LkC yX7_requireElement cX7_requireElement 1 none 1 := ⟨lw_good_in (n := 1121) (by decide +kernel) rfl, lw_good_in (n := 139) (by decide +kernel) rfl, ⟨by decide +kernel, by decide +kernel⟩, by decide +kernel⟩
theorem stX7_requireElement : Cond.static yX7_requireElement ∈ lw_good := lw_good_in (n := 1120) (by decide +kernel) rfl
abbrev rmX7_requireIndex : Room := { frames := 6, cells := 1, slots := 6, locals := 95 }
theorem lcX7_requireIndex : LkC yX7_requireIndex cX7_requireIndex 2 none 2 := ⟨lw_good_in (n := 919) (by decide +kernel) rfl, lw_good_in (n := 139) (by decide +kernel) rfl, ⟨by decide +kernel, by decide +kernel⟩, by decide +kernel⟩
theorem stX7_requireIndex : Cond.static yX7_requireIndex ∈ lw_good := lw_good_in (n := 918) (by decide +kernel) rfl
abbrev rmX7_requireQuarter : Room := { frames := 7, cells := 1, slots := 6, locals := 115 }
theorem lcX7_requireQuarter : LkC yX7_requireQuarter cX7_requireQuarter 1 none 1 := ⟨lw_good_in (n := 1191) (by decide +kernel) rfl, lw_good_in (n := 139) (by decide +kernel) rfl, ⟨by decide +kernel, by decide +kernel⟩, by decide +kernel⟩
theorem stX7_requireQuarter : Cond.static yX7_requireQuarter ∈ lw_good := lw_good_in (n := 1190) (by decide +kernel) rfl
abbrev rmX7_within : Room := { frames := 0, cells := 0, slots := 0, locals := 0 }
theorem lcX7_within : LkC yX7_within cX7_within 3 (some .boolean) 3 := ⟨lw_good_in (n := 564) (by decide +kernel) rfl, lw_good_in (n := 139) (by decide +kernel) rfl, ⟨by decide +kernel, by decide +kernel⟩, by decide +kernel⟩
theorem stX7_within : Cond.static yX7_within ∈ lw_good := lw_good_in (n := 563) (by decide +kernel) rfl
abbrev rmX7_isDayOrNone : Room := { frames := 1, cells := 0, slots := 0, locals := 22 }
theorem lcX7_isDayOrNone : LkC yX7_isDayOrNone cX7_isDayOrNone 1 (some .boolean) 1 := ⟨lw_good_in (n := 898) (by decide +kernel) rfl, lw_good_in (n := 139) (by decide +kernel) rfl, ⟨by decide +kernel, by decide +kernel⟩, by decide +kernel⟩
theorem stX7_isDayOrNone : Cond.static yX7_isDayOrNone ∈ lw_good := lw_good_in (n := 897) (by decide +kernel) rfl
abbrev rmX7_bytesIn : Room := { frames := 0, cells := 0, slots := 0, locals := 0 }
theorem lcX7_bytesIn : LkC yX7_bytesIn cX7_bytesIn 3 (some .int) 1 := ⟨lw_good_in (n := 769) (by decide +kernel) rfl, lw_good_in (n := 139) (by decide +kernel) rfl, ⟨by decide +kernel, by decide +kernel⟩, by decide +kernel⟩
theorem stX7_bytesIn : Cond.static yX7_bytesIn ∈ lw_good := lw_good_in (n := 768) (by decide +kernel) rfl
abbrev rmX7_putBytes : Room := { frames := 0, cells := 0, slots := 0, locals := 0 }
theorem lcX7_putBytes : LkC yX7_putBytes cX7_putBytes 4 none 1 := ⟨lw_good_in (n := 844) (by decide +kernel) rfl, lw_good_in (n := 139) (by decide +kernel) rfl, ⟨by decide +kernel, by decide +kernel⟩, by decide +kernel⟩
theorem lsX7_putBytes : LkSel yX7_putBytes := ⟨lw_good_in (n := 843) (by decide +kernel) rfl, lw_good_in (n := 47) (by decide +kernel) rfl⟩
abbrev rmX7_commonDivisor : Room := { frames := 0, cells := 0, slots := 0, locals := 0 }
theorem lcX7_commonDivisor : LkC yX7_commonDivisor cX7_commonDivisor 6 (some .int) 2 := ⟨lw_good_in (n := 1156) (by decide +kernel) rfl, lw_good_in (n := 139) (by decide +kernel) rfl, ⟨by decide +kernel, by decide +kernel⟩, by decide +kernel⟩
theorem stX7_commonDivisor : Cond.static yX7_commonDivisor ∈ lw_good := lw_good_in (n := 1155) (by decide +kernel) rfl
abbrev rmX7_yearProfit : Room := { frames := 5, cells := 0, slots := 0, locals := 120 }
theorem lcX7_yearProfit : LkC yX7_yearProfit cX7_yearProfit 1 (some .long) 0 := ⟨lw_good_in (n := 653) (by decide +kernel) rfl, lw_good_in (n := 139) (by decide +kernel) rfl, ⟨by decide +kernel, by decide +kernel⟩, by decide +kernel⟩
theorem lsX7_yearProfit : LkSel yX7_yearProfit := ⟨lw_good_in (n := 652) (by decide +kernel) rfl, lw_good_in (n := 25) (by decide +kernel) rfl⟩
abbrev rmX7_targetAt : Room := { frames := 2, cells := 0, slots := 0, locals := 48 }
theorem lcX7_targetAt : LkC yX7_targetAt cX7_targetAt 6 (some .long) 2 := ⟨lw_good_in (n := 731) (by decide +kernel) rfl, lw_good_in (n := 139) (by decide +kernel) rfl, ⟨by decide +kernel, by decide +kernel⟩, by decide +kernel⟩
theorem lsX7_targetAt : LkSel yX7_targetAt := ⟨lw_good_in (n := 730) (by decide +kernel) rfl, lw_good_in (n := 43) (by decide +kernel) rfl⟩
abbrev rmX7_prepaymentNow : Room := { frames := 5, cells := 0, slots := 0, locals := 120 }
theorem lcX7_prepaymentNow : LkC yX7_prepaymentNow cX7_prepaymentNow 7 (some .int) 1 := ⟨lw_good_in (n := 727) (by decide +kernel) rfl, lw_good_in (n := 139) (by decide +kernel) rfl, ⟨by decide +kernel, by decide +kernel⟩, by decide +kernel⟩
theorem lsX7_prepaymentNow : LkSel yX7_prepaymentNow := ⟨lw_good_in (n := 726) (by decide +kernel) rfl, lw_good_in (n := 42) (by decide +kernel) rfl⟩
abbrev rmX7_additionalTax : Room := { frames := 2, cells := 0, slots := 0, locals := 48 }
theorem lcX7_additionalTax : LkC yX7_additionalTax cX7_additionalTax 5 (some .long) 2 := ⟨lw_good_in (n := 1265) (by decide +kernel) rfl, lw_good_in (n := 139) (by decide +kernel) rfl, ⟨by decide +kernel, by decide +kernel⟩, by decide +kernel⟩
theorem lsX7_additionalTax : LkSel yX7_additionalTax := ⟨lw_good_in (n := 1264) (by decide +kernel) rfl, lw_good_in (n := 69) (by decide +kernel) rfl⟩
abbrev rmX7_leftOf : Room := { frames := 3, cells := 0, slots := 0, locals := 72 }
theorem lcX7_leftOf : LkC yX7_leftOf cX7_leftOf 4 (some .long) 2 := ⟨lw_good_in (n := 1277) (by decide +kernel) rfl, lw_good_in (n := 139) (by decide +kernel) rfl, ⟨by decide +kernel, by decide +kernel⟩, by decide +kernel⟩
theorem lsX7_leftOf : LkSel yX7_leftOf := ⟨lw_good_in (n := 1276) (by decide +kernel) rfl, lw_good_in (n := 70) (by decide +kernel) rfl⟩
abbrev rmX8_init : Room := { frames := 1, cells := 6, slots := 6502, locals := 23 }
theorem lcX8_init : LkC yX8_init cX8_init 1 none 0 := ⟨lw_good_in (n := 1289) (by decide +kernel) rfl, lw_good_in (n := 147) (by decide +kernel) rfl, ⟨by decide +kernel, by decide +kernel⟩, by decide +kernel⟩
theorem liX8_init : Cond.instanceMethod yX8_init ∈ lw_good := lw_good_in (n := 1288) (by decide +kernel) rfl
abbrev rmX8_thrown : Room := { frames := 0, cells := 0, slots := 0, locals := 0 }
theorem lcX8_thrown : LkC yX8_thrown cX8_thrown 1 (some .int) 0 := ⟨lw_good_in (n := 1359) (by decide +kernel) rfl, lw_good_in (n := 147) (by decide +kernel) rfl, ⟨by decide +kernel, by decide +kernel⟩, by decide +kernel⟩
theorem lsX8_thrown : LkSel yX8_thrown := ⟨lw_good_in (n := 1357) (by decide +kernel) rfl, lw_good_in (n := 1358) (by decide +kernel) rfl⟩
abbrev rmX8_in : Room := { frames := 0, cells := 0, slots := 0, locals := 0 }
theorem lcX8_in : LkC yX8_in cX8_in 6 (some .boolean) 3 := ⟨lw_good_in (n := 1377) (by decide +kernel) rfl, lw_good_in (n := 147) (by decide +kernel) rfl, ⟨by decide +kernel, by decide +kernel⟩, by decide +kernel⟩
theorem stX8_in : Cond.static yX8_in ∈ lw_good := lw_good_in (n := 1376) (by decide +kernel) rfl
abbrev rmX8_fails : Room := { frames := 0, cells := 0, slots := 0, locals := 0 }
theorem lcX8_fails : LkC yX8_fails cX8_fails 3 (some .boolean) 2 := ⟨lw_good_in (n := 1370) (by decide +kernel) rfl, lw_good_in (n := 147) (by decide +kernel) rfl, ⟨by decide +kernel, by decide +kernel⟩, by decide +kernel⟩
theorem lsX8_fails : LkSel yX8_fails := ⟨lw_good_in (n := 1369) (by decide +kernel) rfl, lw_good_in (n := 74) (by decide +kernel) rfl⟩
abbrev rmX8_byteOf : Room := { frames := 0, cells := 0, slots := 0, locals := 0 }
theorem lcX8_byteOf : LkC yX8_byteOf cX8_byteOf 7 (some .int) 6 := ⟨lw_good_in (n := 1366) (by decide +kernel) rfl, lw_good_in (n := 147) (by decide +kernel) rfl, ⟨by decide +kernel, by decide +kernel⟩, by decide +kernel⟩
theorem stX8_byteOf : Cond.static yX8_byteOf ∈ lw_good := lw_good_in (n := 1365) (by decide +kernel) rfl
abbrev rmX8_append : Room := { frames := 1, cells := 0, slots := 0, locals := 26 }
theorem lcX8_append : LkC yX8_append cX8_append 9 (some .int) 5 := ⟨lw_good_in (n := 1363) (by decide +kernel) rfl, lw_good_in (n := 147) (by decide +kernel) rfl, ⟨by decide +kernel, by decide +kernel⟩, by decide +kernel⟩
theorem lsX8_append : LkSel yX8_append := ⟨lw_good_in (n := 1361) (by decide +kernel) rfl, lw_good_in (n := 1362) (by decide +kernel) rfl⟩
abbrev rmX8_truncate : Room := { frames := 1, cells := 0, slots := 0, locals := 25 }
theorem lcX8_truncate : LkC yX8_truncate cX8_truncate 2 (some .int) 1 := ⟨lw_good_in (n := 1374) (by decide +kernel) rfl, lw_good_in (n := 147) (by decide +kernel) rfl, ⟨by decide +kernel, by decide +kernel⟩, by decide +kernel⟩
theorem lsX8_truncate : LkSel yX8_truncate := ⟨lw_good_in (n := 1372) (by decide +kernel) rfl, lw_good_in (n := 1373) (by decide +kernel) rfl⟩
abbrev rmX8_peek : Room := { frames := 0, cells := 0, slots := 0, locals := 0 }
theorem lcX8_peek : LkC yX8_peek cX8_peek 2 (some .int) 1 := ⟨lw_good_in (n := 1393) (by decide +kernel) rfl, lw_good_in (n := 147) (by decide +kernel) rfl, ⟨by decide +kernel, by decide +kernel⟩, by decide +kernel⟩
theorem lsX8_peek : LkSel yX8_peek := ⟨lw_good_in (n := 1392) (by decide +kernel) rfl, lw_good_in (n := 77) (by decide +kernel) rfl⟩
abbrev rmX8_isLetter : Room := { frames := 0, cells := 0, slots := 0, locals := 0 }
theorem lcX8_isLetter : LkC yX8_isLetter cX8_isLetter 1 (some .boolean) 1 := ⟨lw_good_in (n := 1396) (by decide +kernel) rfl, lw_good_in (n := 147) (by decide +kernel) rfl, ⟨by decide +kernel, by decide +kernel⟩, by decide +kernel⟩
theorem stX8_isLetter : Cond.static yX8_isLetter ∈ lw_good := lw_good_in (n := 1395) (by decide +kernel) rfl
abbrev rmX8_isDigit : Room := { frames := 0, cells := 0, slots := 0, locals := 0 }
theorem lcX8_isDigit : LkC yX8_isDigit cX8_isDigit 1 (some .boolean) 1 := ⟨lw_good_in (n := 1399) (by decide +kernel) rfl, lw_good_in (n := 147) (by decide +kernel) rfl, ⟨by decide +kernel, by decide +kernel⟩, by decide +kernel⟩
theorem stX8_isDigit : Cond.static yX8_isDigit ∈ lw_good := lw_good_in (n := 1398) (by decide +kernel) rfl
abbrev rmX8_step : Room := { frames := 1, cells := 0, slots := 0, locals := 21 }
theorem lcX8_step : LkC yX8_step cX8_step 2 none 0 := ⟨lw_good_in (n := 1389) (by decide +kernel) rfl, lw_good_in (n := 147) (by decide +kernel) rfl, ⟨by decide +kernel, by decide +kernel⟩, by decide +kernel⟩
theorem lsX8_step : LkSel yX8_step := ⟨lw_good_in (n := 1388) (by decide +kernel) rfl, lw_good_in (n := 76) (by decide +kernel) rfl⟩
abbrev rmX8_fail : Room := { frames := 0, cells := 0, slots := 0, locals := 0 }
theorem lcX8_fail : LkC yX8_fail cX8_fail 1 none 0 := ⟨lw_good_in (n := 1426) (by decide +kernel) rfl, lw_good_in (n := 147) (by decide +kernel) rfl, ⟨by decide +kernel, by decide +kernel⟩, by decide +kernel⟩
theorem lsX8_fail : LkSel yX8_fail := ⟨lw_good_in (n := 1425) (by decide +kernel) rfl, lw_good_in (n := 82) (by decide +kernel) rfl⟩
abbrev rmX8_isGood : Room := { frames := 0, cells := 0, slots := 0, locals := 0 }
theorem lcX8_isGood : LkC yX8_isGood cX8_isGood 1 (some .boolean) 0 := ⟨lw_good_in (n := 1416) (by decide +kernel) rfl, lw_good_in (n := 147) (by decide +kernel) rfl, ⟨by decide +kernel, by decide +kernel⟩, by decide +kernel⟩
theorem lsX8_isGood : LkSel yX8_isGood := ⟨lw_good_in (n := 1415) (by decide +kernel) rfl, lw_good_in (n := 80) (by decide +kernel) rfl⟩
abbrev rmX8_isWord : Room := { frames := 6, cells := 0, slots := 0, locals := 180 }
theorem lcX8_isWord : LkC yX8_isWord cX8_isWord 4 (some .boolean) 1 := ⟨lw_good_in (n := 1412) (by decide +kernel) rfl, lw_good_in (n := 147) (by decide +kernel) rfl, ⟨by decide +kernel, by decide +kernel⟩, by decide +kernel⟩
theorem lsX8_isWord : LkSel yX8_isWord := ⟨lw_good_in (n := 1411) (by decide +kernel) rfl, lw_good_in (n := 79) (by decide +kernel) rfl⟩
abbrev rmX8_takeNumber : Room := { frames := 2, cells := 0, slots := 0, locals := 42 }
theorem lcX8_takeNumber : LkC yX8_takeNumber cX8_takeNumber 4 (some .int) 2 := ⟨lw_good_in (n := 1431) (by decide +kernel) rfl, lw_good_in (n := 147) (by decide +kernel) rfl, ⟨by decide +kernel, by decide +kernel⟩, by decide +kernel⟩
theorem lsX8_takeNumber : LkSel yX8_takeNumber := ⟨lw_good_in (n := 1430) (by decide +kernel) rfl, lw_good_in (n := 83) (by decide +kernel) rfl⟩
abbrev rmX8_begin : Room := { frames := 0, cells := 0, slots := 0, locals := 0 }
theorem lcX8_begin : LkC yX8_begin cX8_begin 2 none 0 := ⟨lw_good_in (n := 1294) (by decide +kernel) rfl, lw_good_in (n := 147) (by decide +kernel) rfl, ⟨by decide +kernel, by decide +kernel⟩, by decide +kernel⟩
theorem lsX8_begin : LkSel yX8_begin := ⟨lw_good_in (n := 1293) (by decide +kernel) rfl, lw_good_in (n := 71) (by decide +kernel) rfl⟩
abbrev rmX8_readBracket : Room := { frames := 0, cells := 0, slots := 0, locals := 0 }
theorem lcX8_readBracket : LkC yX8_readBracket cX8_readBracket 4 none 2 := ⟨lw_good_in (n := 1301) (by decide +kernel) rfl, lw_good_in (n := 147) (by decide +kernel) rfl, ⟨by decide +kernel, by decide +kernel⟩, by decide +kernel⟩
theorem lsX8_readBracket : LkSel yX8_readBracket := ⟨lw_good_in (n := 1300) (by decide +kernel) rfl, lw_good_in (n := 72) (by decide +kernel) rfl⟩
abbrev rmX8_bracketStatement : Room := { frames := 3, cells := 0, slots := 0, locals := 65 }
theorem lcX8_bracketStatement : LkC yX8_bracketStatement cX8_bracketStatement 4 none 0 := ⟨lw_good_in (n := 1422) (by decide +kernel) rfl, lw_good_in (n := 147) (by decide +kernel) rfl, ⟨by decide +kernel, by decide +kernel⟩, by decide +kernel⟩
theorem lsX8_bracketStatement : LkSel yX8_bracketStatement := ⟨lw_good_in (n := 1421) (by decide +kernel) rfl, lw_good_in (n := 81) (by decide +kernel) rfl⟩
abbrev rmX8_roomStatement : Room := { frames := 7, cells := 0, slots := 0, locals := 203 }
theorem lcX8_roomStatement : LkC yX8_roomStatement cX8_roomStatement 2 none 0 := ⟨lw_good_in (n := 1436) (by decide +kernel) rfl, lw_good_in (n := 147) (by decide +kernel) rfl, ⟨by decide +kernel, by decide +kernel⟩, by decide +kernel⟩
theorem lsX8_roomStatement : LkSel yX8_roomStatement := ⟨lw_good_in (n := 1435) (by decide +kernel) rfl, lw_good_in (n := 84) (by decide +kernel) rfl⟩
abbrev rmX8_once : Room := { frames := 7, cells := 0, slots := 0, locals := 203 }
theorem lcX8_once : LkC yX8_once cX8_once 3 (some .boolean) 2 := ⟨lw_good_in (n := 1442) (by decide +kernel) rfl, lw_good_in (n := 147) (by decide +kernel) rfl, ⟨by decide +kernel, by decide +kernel⟩, by decide +kernel⟩
theorem lsX8_once : LkSel yX8_once := ⟨lw_good_in (n := 1441) (by decide +kernel) rfl, lw_good_in (n := 85) (by decide +kernel) rfl⟩
abbrev rmX8_take : Room := { frames := 3, cells := 0, slots := 0, locals := 65 }
theorem lcX8_take : LkC yX8_take cX8_take 4 none 3 := ⟨lw_good_in (n := 1447) (by decide +kernel) rfl, lw_good_in (n := 147) (by decide +kernel) rfl, ⟨by decide +kernel, by decide +kernel⟩, by decide +kernel⟩
theorem lsX8_take : LkSel yX8_take := ⟨lw_good_in (n := 1446) (by decide +kernel) rfl, lw_good_in (n := 86) (by decide +kernel) rfl⟩
abbrev rmX8_readStatement : Room := { frames := 8, cells := 0, slots := 0, locals := 225 }
theorem lcX8_readStatement : LkC yX8_readStatement cX8_readStatement 1 none 0 := ⟨lw_good_in (n := 1407) (by decide +kernel) rfl, lw_good_in (n := 147) (by decide +kernel) rfl, ⟨by decide +kernel, by decide +kernel⟩, by decide +kernel⟩
theorem lsX8_readStatement : LkSel yX8_readStatement := ⟨lw_good_in (n := 1406) (by decide +kernel) rfl, lw_good_in (n := 78) (by decide +kernel) rfl⟩
abbrev rmX8_parse : Room := { frames := 9, cells := 0, slots := 0, locals := 245 }
theorem lcX8_parse : LkC yX8_parse cX8_parse 1 (some .int) 0 := ⟨lw_good_in (n := 1385) (by decide +kernel) rfl, lw_good_in (n := 147) (by decide +kernel) rfl, ⟨by decide +kernel, by decide +kernel⟩, by decide +kernel⟩
theorem lsX8_parse : LkSel yX8_parse := ⟨lw_good_in (n := 1384) (by decide +kernel) rfl, lw_good_in (n := 75) (by decide +kernel) rfl⟩
abbrev rmX8_errorPosition : Room := { frames := 10, cells := 0, slots := 0, locals := 265 }
theorem lcX8_errorPosition : LkC yX8_errorPosition cX8_errorPosition 1 (some .int) 0 := ⟨lw_good_in (n := 1381) (by decide +kernel) rfl, lw_good_in (n := 147) (by decide +kernel) rfl, ⟨by decide +kernel, by decide +kernel⟩, by decide +kernel⟩
theorem lsX8_errorPosition : LkSel yX8_errorPosition := ⟨lw_good_in (n := 1379) (by decide +kernel) rfl, lw_good_in (n := 1380) (by decide +kernel) rfl⟩
abbrev rmX8_takeRead : Room := { frames := 0, cells := 0, slots := 0, locals := 0 }
theorem lcX8_takeRead : LkC yX8_takeRead cX8_takeRead 2 none 0 := ⟨lw_good_in (n := 1306) (by decide +kernel) rfl, lw_good_in (n := 147) (by decide +kernel) rfl, ⟨by decide +kernel, by decide +kernel⟩, by decide +kernel⟩
theorem lsX8_takeRead : LkSel yX8_takeRead := ⟨lw_good_in (n := 1305) (by decide +kernel) rfl, lw_good_in (n := 73) (by decide +kernel) rfl⟩
abbrev rmX8_load : Room := { frames := 10, cells := 0, slots := 0, locals := 265 }
theorem lcX8_load : LkC yX8_load cX8_load 1 (some .int) 0 := ⟨lw_good_in (n := 1454) (by decide +kernel) rfl, lw_good_in (n := 147) (by decide +kernel) rfl, ⟨by decide +kernel, by decide +kernel⟩, by decide +kernel⟩
theorem lsX8_load : LkSel yX8_load := ⟨lw_good_in (n := 1452) (by decide +kernel) rfl, lw_good_in (n := 1453) (by decide +kernel) rfl⟩
abbrev rmX8_record : Room := { frames := 0, cells := 0, slots := 0, locals := 0 }
theorem lcX8_record : LkC yX8_record cX8_record 2 none 0 := ⟨lw_good_in (n := 1495) (by decide +kernel) rfl, lw_good_in (n := 147) (by decide +kernel) rfl, ⟨by decide +kernel, by decide +kernel⟩, by decide +kernel⟩
theorem lsX8_record : LkSel yX8_record := ⟨lw_good_in (n := 1494) (by decide +kernel) rfl, lw_good_in (n := 87) (by decide +kernel) rfl⟩
abbrev rmX8_undo : Room := { frames := 1, cells := 0, slots := 0, locals := 22 }
theorem lcX8_undo : LkC yX8_undo cX8_undo 2 (some .int) 0 := ⟨lw_good_in (n := 1458) (by decide +kernel) rfl, lw_good_in (n := 147) (by decide +kernel) rfl, ⟨by decide +kernel, by decide +kernel⟩, by decide +kernel⟩
theorem lsX8_undo : LkSel yX8_undo := ⟨lw_good_in (n := 1456) (by decide +kernel) rfl, lw_good_in (n := 1457) (by decide +kernel) rfl⟩
abbrev rmX8_undoCount : Room := { frames := 0, cells := 0, slots := 0, locals := 0 }
theorem lcX8_undoCount : LkC yX8_undoCount cX8_undoCount 1 (some .int) 0 := ⟨lw_good_in (n := 1462) (by decide +kernel) rfl, lw_good_in (n := 147) (by decide +kernel) rfl, ⟨by decide +kernel, by decide +kernel⟩, by decide +kernel⟩
theorem lsX8_undoCount : LkSel yX8_undoCount := ⟨lw_good_in (n := 1460) (by decide +kernel) rfl, lw_good_in (n := 1461) (by decide +kernel) rfl⟩
abbrev rmX8_save : Room := { frames := 0, cells := 0, slots := 0, locals := 0 }
theorem lcX8_save : LkC yX8_save cX8_save 2 (some .int) 0 := ⟨lw_good_in (n := 1466) (by decide +kernel) rfl, lw_good_in (n := 147) (by decide +kernel) rfl, ⟨by decide +kernel, by decide +kernel⟩, by decide +kernel⟩
theorem lsX8_save : LkSel yX8_save := ⟨lw_good_in (n := 1464) (by decide +kernel) rfl, lw_good_in (n := 1465) (by decide +kernel) rfl⟩
abbrev rmX8_restore : Room := { frames := 1, cells := 0, slots := 0, locals := 22 }
theorem lcX8_restore : LkC yX8_restore cX8_restore 2 (some .int) 0 := ⟨lw_good_in (n := 1470) (by decide +kernel) rfl, lw_good_in (n := 147) (by decide +kernel) rfl, ⟨by decide +kernel, by decide +kernel⟩, by decide +kernel⟩
theorem lsX8_restore : LkSel yX8_restore := ⟨lw_good_in (n := 1468) (by decide +kernel) rfl, lw_good_in (n := 1469) (by decide +kernel) rfl⟩
abbrev rmX8_isEntry : Room := { frames := 1, cells := 0, slots := 0, locals := 25 }
theorem lcX8_isEntry : LkC yX8_isEntry cX8_isEntry 2 (some .boolean) 1 := ⟨lw_good_in (n := 1503) (by decide +kernel) rfl, lw_good_in (n := 147) (by decide +kernel) rfl, ⟨by decide +kernel, by decide +kernel⟩, by decide +kernel⟩
theorem lsX8_isEntry : LkSel yX8_isEntry := ⟨lw_good_in (n := 1502) (by decide +kernel) rfl, lw_good_in (n := 88) (by decide +kernel) rfl⟩
abbrev rmX8_isRoom : Room := { frames := 1, cells := 0, slots := 0, locals := 25 }
theorem lcX8_isRoom : LkC yX8_isRoom cX8_isRoom 2 (some .boolean) 1 := ⟨lw_good_in (n := 1532) (by decide +kernel) rfl, lw_good_in (n := 147) (by decide +kernel) rfl, ⟨by decide +kernel, by decide +kernel⟩, by decide +kernel⟩
theorem lsX8_isRoom : LkSel yX8_isRoom := ⟨lw_good_in (n := 1531) (by decide +kernel) rfl, lw_good_in (n := 92) (by decide +kernel) rfl⟩
abbrev rmX8_isAsset : Room := { frames := 1, cells := 0, slots := 0, locals := 25 }
theorem lcX8_isAsset : LkC yX8_isAsset cX8_isAsset 2 (some .boolean) 1 := ⟨lw_good_in (n := 1556) (by decide +kernel) rfl, lw_good_in (n := 147) (by decide +kernel) rfl, ⟨by decide +kernel, by decide +kernel⟩, by decide +kernel⟩
theorem lsX8_isAsset : LkSel yX8_isAsset := ⟨lw_good_in (n := 1555) (by decide +kernel) rfl, lw_good_in (n := 95) (by decide +kernel) rfl⟩
abbrev rmX8_isDay : Room := { frames := 1, cells := 0, slots := 0, locals := 25 }
theorem lcX8_isDay : LkC yX8_isDay cX8_isDay 1 (some .boolean) 1 := ⟨lw_good_in (n := 1486) (by decide +kernel) rfl, lw_good_in (n := 147) (by decide +kernel) rfl, ⟨by decide +kernel, by decide +kernel⟩, by decide +kernel⟩
theorem stX8_isDay : Cond.static yX8_isDay ∈ lw_good := lw_good_in (n := 1485) (by decide +kernel) rfl
abbrev rmX8_isDayOrNone : Room := { frames := 1, cells := 0, slots := 0, locals := 25 }
theorem lcX8_isDayOrNone : LkC yX8_isDayOrNone cX8_isDayOrNone 1 (some .boolean) 1 := ⟨lw_good_in (n := 1490) (by decide +kernel) rfl, lw_good_in (n := 147) (by decide +kernel) rfl, ⟨by decide +kernel, by decide +kernel⟩, by decide +kernel⟩
theorem stX8_isDayOrNone : Cond.static yX8_isDayOrNone ∈ lw_good := lw_good_in (n := 1489) (by decide +kernel) rfl
abbrev rmX8_isMonth : Room := { frames := 1, cells := 0, slots := 0, locals := 25 }
theorem lcX8_isMonth : LkC yX8_isMonth cX8_isMonth 1 (some .boolean) 1 := ⟨lw_good_in (n := 1730) (by decide +kernel) rfl, lw_good_in (n := 147) (by decide +kernel) rfl, ⟨by decide +kernel, by decide +kernel⟩, by decide +kernel⟩
theorem stX8_isMonth : Cond.static yX8_isMonth ∈ lw_good := lw_good_in (n := 1729) (by decide +kernel) rfl
abbrev rmX8_isQuarter : Room := { frames := 1, cells := 0, slots := 0, locals := 25 }
theorem lcX8_isQuarter : LkC yX8_isQuarter cX8_isQuarter 1 (some .boolean) 1 := ⟨lw_good_in (n := 1754) (by decide +kernel) rfl, lw_good_in (n := 147) (by decide +kernel) rfl, ⟨by decide +kernel, by decide +kernel⟩, by decide +kernel⟩
theorem stX8_isQuarter : Cond.static yX8_isQuarter ∈ lw_good := lw_good_in (n := 1753) (by decide +kernel) rfl
abbrev rmX8_isKind : Room := { frames := 1, cells := 0, slots := 0, locals := 25 }
theorem lcX8_isKind : LkC yX8_isKind cX8_isKind 1 (some .boolean) 1 := ⟨lw_good_in (n := 1477) (by decide +kernel) rfl, lw_good_in (n := 147) (by decide +kernel) rfl, ⟨by decide +kernel, by decide +kernel⟩, by decide +kernel⟩
theorem stX8_isKind : Cond.static yX8_isKind ∈ lw_good := lw_good_in (n := 1476) (by decide +kernel) rfl
abbrev rmX8_isAmount : Room := { frames := 1, cells := 0, slots := 0, locals := 25 }
theorem lcX8_isAmount : LkC yX8_isAmount cX8_isAmount 1 (some .boolean) 1 := ⟨lw_good_in (n := 1482) (by decide +kernel) rfl, lw_good_in (n := 147) (by decide +kernel) rfl, ⟨by decide +kernel, by decide +kernel⟩, by decide +kernel⟩
theorem stX8_isAmount : Cond.static yX8_isAmount ∈ lw_good := lw_good_in (n := 1481) (by decide +kernel) rfl
abbrev rmX8_entryPart : Room := { frames := 0, cells := 0, slots := 0, locals := 0 }
theorem lcX8_entryPart : LkC yX8_entryPart cX8_entryPart 3 (some .int) 2 := ⟨lw_good_in (n := 1511) (by decide +kernel) rfl, lw_good_in (n := 147) (by decide +kernel) rfl, ⟨by decide +kernel, by decide +kernel⟩, by decide +kernel⟩
theorem lsX8_entryPart : LkSel yX8_entryPart := ⟨lw_good_in (n := 1510) (by decide +kernel) rfl, lw_good_in (n := 90) (by decide +kernel) rfl⟩
abbrev rmX8_roomPart : Room := { frames := 0, cells := 0, slots := 0, locals := 0 }
theorem lcX8_roomPart : LkC yX8_roomPart cX8_roomPart 3 (some .int) 2 := ⟨lw_good_in (n := 1540) (by decide +kernel) rfl, lw_good_in (n := 147) (by decide +kernel) rfl, ⟨by decide +kernel, by decide +kernel⟩, by decide +kernel⟩
theorem lsX8_roomPart : LkSel yX8_roomPart := ⟨lw_good_in (n := 1539) (by decide +kernel) rfl, lw_good_in (n := 94) (by decide +kernel) rfl⟩
abbrev rmX8_assetPart : Room := { frames := 0, cells := 0, slots := 0, locals := 0 }
theorem lcX8_assetPart : LkC yX8_assetPart cX8_assetPart 3 (some .int) 2 := ⟨lw_good_in (n := 1560) (by decide +kernel) rfl, lw_good_in (n := 147) (by decide +kernel) rfl, ⟨by decide +kernel, by decide +kernel⟩, by decide +kernel⟩
theorem lsX8_assetPart : LkSel yX8_assetPart := ⟨lw_good_in (n := 1559) (by decide +kernel) rfl, lw_good_in (n := 96) (by decide +kernel) rfl⟩
abbrev rmX8_isCancelled : Room := { frames := 1, cells := 0, slots := 0, locals := 22 }
theorem lcX8_isCancelled : LkC yX8_isCancelled cX8_isCancelled 2 (some .boolean) 1 := ⟨lw_good_in (n := 1507) (by decide +kernel) rfl, lw_good_in (n := 147) (by decide +kernel) rfl, ⟨by decide +kernel, by decide +kernel⟩, by decide +kernel⟩
theorem lsX8_isCancelled : LkSel yX8_isCancelled := ⟨lw_good_in (n := 1506) (by decide +kernel) rfl, lw_good_in (n := 89) (by decide +kernel) rfl⟩
abbrev rmX8_isOpen : Room := { frames := 2, cells := 0, slots := 0, locals := 43 }
theorem lcX8_isOpen : LkC yX8_isOpen cX8_isOpen 2 (some .boolean) 1 := ⟨lw_good_in (n := 1685) (by decide +kernel) rfl, lw_good_in (n := 147) (by decide +kernel) rfl, ⟨by decide +kernel, by decide +kernel⟩, by decide +kernel⟩
theorem lsX8_isOpen : LkSel yX8_isOpen := ⟨lw_good_in (n := 1684) (by decide +kernel) rfl, lw_good_in (n := 123) (by decide +kernel) rfl⟩
abbrev rmX8_counts : Room := { frames := 2, cells := 0, slots := 0, locals := 43 }
theorem lcX8_counts : LkC yX8_counts cX8_counts 2 (some .boolean) 1 := ⟨lw_good_in (n := 1620) (by decide +kernel) rfl, lw_good_in (n := 147) (by decide +kernel) rfl, ⟨by decide +kernel, by decide +kernel⟩, by decide +kernel⟩
theorem lsX8_counts : LkSel yX8_counts := ⟨lw_good_in (n := 1619) (by decide +kernel) rfl, lw_good_in (n := 110) (by decide +kernel) rfl⟩
abbrev rmX8_countsIn : Room := { frames := 3, cells := 0, slots := 0, locals := 64 }
theorem lcX8_countsIn : LkC yX8_countsIn cX8_countsIn 4 (some .boolean) 3 := ⟨lw_good_in (n := 1616) (by decide +kernel) rfl, lw_good_in (n := 147) (by decide +kernel) rfl, ⟨by decide +kernel, by decide +kernel⟩, by decide +kernel⟩
theorem lsX8_countsIn : LkSel yX8_countsIn := ⟨lw_good_in (n := 1615) (by decide +kernel) rfl, lw_good_in (n := 109) (by decide +kernel) rfl⟩
abbrev rmX8_become : Room := { frames := 1, cells := 0, slots := 0, locals := 21 }
theorem lcX8_become : LkC yX8_become cX8_become 4 (some .int) 2 := ⟨lw_good_in (n := 1515) (by decide +kernel) rfl, lw_good_in (n := 147) (by decide +kernel) rfl, ⟨by decide +kernel, by decide +kernel⟩, by decide +kernel⟩
theorem lsX8_become : LkSel yX8_become := ⟨lw_good_in (n := 1514) (by decide +kernel) rfl, lw_good_in (n := 91) (by decide +kernel) rfl⟩
abbrev rmX8_addEntry : Room := { frames := 2, cells := 0, slots := 0, locals := 45 }
theorem lcX8_addEntry : LkC yX8_addEntry cX8_addEntry 8 (some .int) 5 := ⟨lw_good_in (n := 1474) (by decide +kernel) rfl, lw_good_in (n := 147) (by decide +kernel) rfl, ⟨by decide +kernel, by decide +kernel⟩, by decide +kernel⟩
theorem lsX8_addEntry : LkSel yX8_addEntry := ⟨lw_good_in (n := 1472) (by decide +kernel) rfl, lw_good_in (n := 1473) (by decide +kernel) rfl⟩
abbrev rmX8_pay : Room := { frames := 2, cells := 0, slots := 0, locals := 46 }
theorem lcX8_pay : LkC yX8_pay cX8_pay 3 (some .int) 2 := ⟨lw_good_in (n := 1499) (by decide +kernel) rfl, lw_good_in (n := 147) (by decide +kernel) rfl, ⟨by decide +kernel, by decide +kernel⟩, by decide +kernel⟩
theorem lsX8_pay : LkSel yX8_pay := ⟨lw_good_in (n := 1497) (by decide +kernel) rfl, lw_good_in (n := 1498) (by decide +kernel) rfl⟩
abbrev rmX8_cancel : Room := { frames := 2, cells := 0, slots := 0, locals := 46 }
theorem lcX8_cancel : LkC yX8_cancel cX8_cancel 3 (some .int) 1 := ⟨lw_good_in (n := 1519) (by decide +kernel) rfl, lw_good_in (n := 147) (by decide +kernel) rfl, ⟨by decide +kernel, by decide +kernel⟩, by decide +kernel⟩
theorem lsX8_cancel : LkSel yX8_cancel := ⟨lw_good_in (n := 1517) (by decide +kernel) rfl, lw_good_in (n := 1518) (by decide +kernel) rfl⟩
abbrev rmX8_addRoom : Room := { frames := 1, cells := 0, slots := 0, locals := 25 }
theorem lcX8_addRoom : LkC yX8_addRoom cX8_addRoom 3 (some .int) 1 := ⟨lw_good_in (n := 1523) (by decide +kernel) rfl, lw_good_in (n := 147) (by decide +kernel) rfl, ⟨by decide +kernel, by decide +kernel⟩, by decide +kernel⟩
theorem lsX8_addRoom : LkSel yX8_addRoom := ⟨lw_good_in (n := 1521) (by decide +kernel) rfl, lw_good_in (n := 1522) (by decide +kernel) rfl⟩
abbrev rmX8_setOffice : Room := { frames := 2, cells := 0, slots := 0, locals := 47 }
theorem lcX8_setOffice : LkC yX8_setOffice cX8_setOffice 5 (some .int) 3 := ⟨lw_good_in (n := 1528) (by decide +kernel) rfl, lw_good_in (n := 147) (by decide +kernel) rfl, ⟨by decide +kernel, by decide +kernel⟩, by decide +kernel⟩
theorem lsX8_setOffice : LkSel yX8_setOffice := ⟨lw_good_in (n := 1526) (by decide +kernel) rfl, lw_good_in (n := 1527) (by decide +kernel) rfl⟩
abbrev rmX8_addAsset : Room := { frames := 2, cells := 0, slots := 0, locals := 45 }
theorem lcX8_addAsset : LkC yX8_addAsset cX8_addAsset 5 (some .int) 3 := ⟨lw_good_in (n := 1546) (by decide +kernel) rfl, lw_good_in (n := 147) (by decide +kernel) rfl, ⟨by decide +kernel, by decide +kernel⟩, by decide +kernel⟩
theorem lsX8_addAsset : LkSel yX8_addAsset := ⟨lw_good_in (n := 1544) (by decide +kernel) rfl, lw_good_in (n := 1545) (by decide +kernel) rfl⟩
abbrev rmX8_isSold : Room := { frames := 1, cells := 0, slots := 0, locals := 22 }
theorem lcX8_isSold : LkC yX8_isSold cX8_isSold 2 (some .boolean) 1 := ⟨lw_good_in (n := 1564) (by decide +kernel) rfl, lw_good_in (n := 147) (by decide +kernel) rfl, ⟨by decide +kernel, by decide +kernel⟩, by decide +kernel⟩
theorem lsX8_isSold : LkSel yX8_isSold := ⟨lw_good_in (n := 1563) (by decide +kernel) rfl, lw_good_in (n := 97) (by decide +kernel) rfl⟩
abbrev rmX8_sellAsset : Room := { frames := 5, cells := 0, slots := 0, locals := 113 }
theorem lcX8_sellAsset : LkC yX8_sellAsset cX8_sellAsset 6 (some .int) 3 := ⟨lw_good_in (n := 1552) (by decide +kernel) rfl, lw_good_in (n := 147) (by decide +kernel) rfl, ⟨by decide +kernel, by decide +kernel⟩, by decide +kernel⟩
theorem lsX8_sellAsset : LkSel yX8_sellAsset := ⟨lw_good_in (n := 1550) (by decide +kernel) rfl, lw_good_in (n := 1551) (by decide +kernel) rfl⟩
abbrev rmX8_closeQuarter : Room := { frames := 9, cells := 0, slots := 0, locals := 213 }
theorem lcX8_closeQuarter : LkC yX8_closeQuarter cX8_closeQuarter 3 (some .int) 0 := ⟨lw_good_in (n := 1592) (by decide +kernel) rfl, lw_good_in (n := 147) (by decide +kernel) rfl, ⟨by decide +kernel, by decide +kernel⟩, by decide +kernel⟩
theorem lsX8_closeQuarter : LkSel yX8_closeQuarter := ⟨lw_good_in (n := 1590) (by decide +kernel) rfl, lw_good_in (n := 1591) (by decide +kernel) rfl⟩
abbrev rmX8_setStart : Room := { frames := 2, cells := 0, slots := 0, locals := 44 }
theorem lcX8_setStart : LkC yX8_setStart cX8_setStart 2 (some .int) 1 := ⟨lw_good_in (n := 1672) (by decide +kernel) rfl, lw_good_in (n := 147) (by decide +kernel) rfl, ⟨by decide +kernel, by decide +kernel⟩, by decide +kernel⟩
theorem lsX8_setStart : LkSel yX8_setStart := ⟨lw_good_in (n := 1670) (by decide +kernel) rfl, lw_good_in (n := 1671) (by decide +kernel) rfl⟩
abbrev rmX8_usedDays : Room := { frames := 1, cells := 0, slots := 0, locals := 22 }
theorem lcX8_usedDays : LkC yX8_usedDays cX8_usedDays 6 (some .int) 3 := ⟨lw_good_in (n := 1536) (by decide +kernel) rfl, lw_good_in (n := 147) (by decide +kernel) rfl, ⟨by decide +kernel, by decide +kernel⟩, by decide +kernel⟩
theorem lsX8_usedDays : LkSel yX8_usedDays := ⟨lw_good_in (n := 1535) (by decide +kernel) rfl, lw_good_in (n := 93) (by decide +kernel) rfl⟩
abbrev rmX8_shareAbove : Room := { frames := 2, cells := 0, slots := 0, locals := 47 }
theorem lcX8_shareAbove : LkC yX8_shareAbove cX8_shareAbove 4 (some .int) 1 := ⟨lw_good_in (n := 1632) (by decide +kernel) rfl, lw_good_in (n := 147) (by decide +kernel) rfl, ⟨by decide +kernel, by decide +kernel⟩, by decide +kernel⟩
theorem lsX8_shareAbove : LkSel yX8_shareAbove := ⟨lw_good_in (n := 1631) (by decide +kernel) rfl, lw_good_in (n := 113) (by decide +kernel) rfl⟩
abbrev rmX8_shareBelow : Room := { frames := 1, cells := 0, slots := 0, locals := 22 }
theorem lcX8_shareBelow : LkC yX8_shareBelow cX8_shareBelow 3 (some .int) 0 := ⟨lw_good_in (n := 1636) (by decide +kernel) rfl, lw_good_in (n := 147) (by decide +kernel) rfl, ⟨by decide +kernel, by decide +kernel⟩, by decide +kernel⟩
theorem lsX8_shareBelow : LkSel yX8_shareBelow := ⟨lw_good_in (n := 1635) (by decide +kernel) rfl, lw_good_in (n := 114) (by decide +kernel) rfl⟩
abbrev rmX8_common : Room := { frames := 0, cells := 0, slots := 0, locals := 0 }
theorem lcX8_common : LkC yX8_common cX8_common 5 (some .int) 2 := ⟨lw_good_in (n := 1734) (by decide +kernel) rfl, lw_good_in (n := 147) (by decide +kernel) rfl, ⟨by decide +kernel, by decide +kernel⟩, by decide +kernel⟩
theorem stX8_common : Cond.static yX8_common ∈ lw_good := lw_good_in (n := 1733) (by decide +kernel) rfl
abbrev rmX8_deducted : Room := { frames := 3, cells := 0, slots := 0, locals := 70 }
theorem lcX8_deducted : LkC yX8_deducted cX8_deducted 4 (some .long) 3 := ⟨lw_good_in (n := 1628) (by decide +kernel) rfl, lw_good_in (n := 147) (by decide +kernel) rfl, ⟨by decide +kernel, by decide +kernel⟩, by decide +kernel⟩
theorem lsX8_deducted : LkSel yX8_deducted := ⟨lw_good_in (n := 1627) (by decide +kernel) rfl, lw_good_in (n := 112) (by decide +kernel) rfl⟩
abbrev rmX8_deductedOf : Room := { frames := 4, cells := 0, slots := 0, locals := 93 }
theorem lcX8_deductedOf : LkC yX8_deductedOf cX8_deductedOf 2 (some .long) 1 := ⟨lw_good_in (n := 1624) (by decide +kernel) rfl, lw_good_in (n := 147) (by decide +kernel) rfl, ⟨by decide +kernel, by decide +kernel⟩, by decide +kernel⟩
theorem lsX8_deductedOf : LkSel yX8_deductedOf := ⟨lw_good_in (n := 1623) (by decide +kernel) rfl, lw_good_in (n := 111) (by decide +kernel) rfl⟩
abbrev rmX8_sortOf : Room := { frames := 1, cells := 0, slots := 0, locals := 22 }
theorem lcX8_sortOf : LkC yX8_sortOf cX8_sortOf 3 (some .int) 1 := ⟨lw_good_in (n := 1580) (by decide +kernel) rfl, lw_good_in (n := 147) (by decide +kernel) rfl, ⟨by decide +kernel, by decide +kernel⟩, by decide +kernel⟩
theorem lsX8_sortOf : LkSel yX8_sortOf := ⟨lw_good_in (n := 1579) (by decide +kernel) rfl, lw_good_in (n := 101) (by decide +kernel) rfl⟩
abbrev rmX8_boughtIn : Room := { frames := 1, cells := 0, slots := 0, locals := 22 }
theorem lcX8_boughtIn : LkC yX8_boughtIn cX8_boughtIn 2 (some .int) 1 := ⟨lw_good_in (n := 1572) (by decide +kernel) rfl, lw_good_in (n := 147) (by decide +kernel) rfl, ⟨by decide +kernel, by decide +kernel⟩, by decide +kernel⟩
theorem lsX8_boughtIn : LkSel yX8_boughtIn := ⟨lw_good_in (n := 1571) (by decide +kernel) rfl, lw_good_in (n := 99) (by decide +kernel) rfl⟩
abbrev rmX8_soldIn : Room := { frames := 2, cells := 0, slots := 0, locals := 43 }
theorem lcX8_soldIn : LkC yX8_soldIn cX8_soldIn 2 (some .int) 1 := ⟨lw_good_in (n := 1576) (by decide +kernel) rfl, lw_good_in (n := 147) (by decide +kernel) rfl, ⟨by decide +kernel, by decide +kernel⟩, by decide +kernel⟩
theorem lsX8_soldIn : LkSel yX8_soldIn := ⟨lw_good_in (n := 1575) (by decide +kernel) rfl, lw_good_in (n := 100) (by decide +kernel) rfl⟩
abbrev rmX8_byLife : Room := { frames := 2, cells := 0, slots := 0, locals := 43 }
theorem lcX8_byLife : LkC yX8_byLife cX8_byLife 6 (some .int) 2 := ⟨lw_good_in (n := 1588) (by decide +kernel) rfl, lw_good_in (n := 147) (by decide +kernel) rfl, ⟨by decide +kernel, by decide +kernel⟩, by decide +kernel⟩
theorem lsX8_byLife : LkSel yX8_byLife := ⟨lw_good_in (n := 1587) (by decide +kernel) rfl, lw_good_in (n := 103) (by decide +kernel) rfl⟩
abbrev rmX8_writtenTo : Room := { frames := 3, cells := 0, slots := 0, locals := 68 }
theorem lcX8_writtenTo : LkC yX8_writtenTo cX8_writtenTo 3 (some .int) 2 := ⟨lw_good_in (n := 1584) (by decide +kernel) rfl, lw_good_in (n := 147) (by decide +kernel) rfl, ⟨by decide +kernel, by decide +kernel⟩, by decide +kernel⟩
theorem lsX8_writtenTo : LkSel yX8_writtenTo := ⟨lw_good_in (n := 1583) (by decide +kernel) rfl, lw_good_in (n := 102) (by decide +kernel) rfl⟩
abbrev rmX8_writtenIn : Room := { frames := 4, cells := 0, slots := 0, locals := 90 }
theorem lcX8_writtenIn : LkC yX8_writtenIn cX8_writtenIn 4 (some .int) 2 := ⟨lw_good_in (n := 1644) (by decide +kernel) rfl, lw_good_in (n := 147) (by decide +kernel) rfl, ⟨by decide +kernel, by decide +kernel⟩, by decide +kernel⟩
theorem lsX8_writtenIn : LkSel yX8_writtenIn := ⟨lw_good_in (n := 1643) (by decide +kernel) rfl, lw_good_in (n := 116) (by decide +kernel) rfl⟩
abbrev rmX8_valueOf : Room := { frames := 4, cells := 0, slots := 0, locals := 90 }
theorem lcX8_valueOf : LkC yX8_valueOf cX8_valueOf 4 (some .int) 2 := ⟨lw_good_in (n := 1568) (by decide +kernel) rfl, lw_good_in (n := 147) (by decide +kernel) rfl, ⟨by decide +kernel, by decide +kernel⟩, by decide +kernel⟩
theorem lsX8_valueOf : LkSel yX8_valueOf := ⟨lw_good_in (n := 1567) (by decide +kernel) rfl, lw_good_in (n := 98) (by decide +kernel) rfl⟩
abbrev rmX8_poolTo : Room := { frames := 2, cells := 0, slots := 0, locals := 44 }
theorem lcX8_poolTo : LkC yX8_poolTo cX8_poolTo 5 (some .int) 1 := ⟨lw_good_in (n := 1652) (by decide +kernel) rfl, lw_good_in (n := 147) (by decide +kernel) rfl, ⟨by decide +kernel, by decide +kernel⟩, by decide +kernel⟩
theorem lsX8_poolTo : LkSel yX8_poolTo := ⟨lw_good_in (n := 1651) (by decide +kernel) rfl, lw_good_in (n := 118) (by decide +kernel) rfl⟩
abbrev rmX8_poolOff : Room := { frames := 3, cells := 0, slots := 0, locals := 68 }
theorem lcX8_poolOff : LkC yX8_poolOff cX8_poolOff 4 (some .int) 1 := ⟨lw_good_in (n := 1648) (by decide +kernel) rfl, lw_good_in (n := 147) (by decide +kernel) rfl, ⟨by decide +kernel, by decide +kernel⟩, by decide +kernel⟩
theorem lsX8_poolOff : LkSel yX8_poolOff := ⟨lw_good_in (n := 1647) (by decide +kernel) rfl, lw_good_in (n := 117) (by decide +kernel) rfl⟩
abbrev rmX8_entriesIn : Room := { frames := 5, cells := 0, slots := 0, locals := 114 }
theorem lcX8_entriesIn : LkC yX8_entriesIn cX8_entriesIn 5 (some .long) 1 := ⟨lw_good_in (n := 1612) (by decide +kernel) rfl, lw_good_in (n := 147) (by decide +kernel) rfl, ⟨by decide +kernel, by decide +kernel⟩, by decide +kernel⟩
theorem lsX8_entriesIn : LkSel yX8_entriesIn := ⟨lw_good_in (n := 1611) (by decide +kernel) rfl, lw_good_in (n := 108) (by decide +kernel) rfl⟩
abbrev rmX8_assetsIn : Room := { frames := 5, cells := 0, slots := 0, locals := 113 }
theorem lcX8_assetsIn : LkC yX8_assetsIn cX8_assetsIn 7 (some .long) 1 := ⟨lw_good_in (n := 1640) (by decide +kernel) rfl, lw_good_in (n := 147) (by decide +kernel) rfl, ⟨by decide +kernel, by decide +kernel⟩, by decide +kernel⟩
theorem lsX8_assetsIn : LkSel yX8_assetsIn := ⟨lw_good_in (n := 1639) (by decide +kernel) rfl, lw_good_in (n := 115) (by decide +kernel) rfl⟩
abbrev rmX8_profitOf : Room := { frames := 6, cells := 0, slots := 0, locals := 139 }
theorem lcX8_profitOf : LkC yX8_profitOf cX8_profitOf 2 (some .long) 1 := ⟨lw_good_in (n := 1608) (by decide +kernel) rfl, lw_good_in (n := 147) (by decide +kernel) rfl, ⟨by decide +kernel, by decide +kernel⟩, by decide +kernel⟩
theorem lsX8_profitOf : LkSel yX8_profitOf := ⟨lw_good_in (n := 1607) (by decide +kernel) rfl, lw_good_in (n := 107) (by decide +kernel) rfl⟩
abbrev rmX8_profitsTo : Room := { frames := 7, cells := 0, slots := 0, locals := 160 }
theorem lcX8_profitsTo : LkC yX8_profitsTo cX8_profitsTo 5 (some .long) 1 := ⟨lw_good_in (n := 1604) (by decide +kernel) rfl, lw_good_in (n := 147) (by decide +kernel) rfl, ⟨by decide +kernel, by decide +kernel⟩, by decide +kernel⟩
theorem lsX8_profitsTo : LkSel yX8_profitsTo := ⟨lw_good_in (n := 1603) (by decide +kernel) rfl, lw_good_in (n := 106) (by decide +kernel) rfl⟩
abbrev rmX8_yearProfit : Room := { frames := 8, cells := 0, slots := 0, locals := 184 }
theorem lcX8_yearProfit : LkC yX8_yearProfit cX8_yearProfit 1 (some .long) 0 := ⟨lw_good_in (n := 1782) (by decide +kernel) rfl, lw_good_in (n := 147) (by decide +kernel) rfl, ⟨by decide +kernel, by decide +kernel⟩, by decide +kernel⟩
theorem lsX8_yearProfit : LkSel yX8_yearProfit := ⟨lw_good_in (n := 1781) (by decide +kernel) rfl, lw_good_in (n := 126) (by decide +kernel) rfl⟩
abbrev rmX8_limitOf : Room := { frames := 0, cells := 0, slots := 0, locals := 0 }
theorem lcX8_limitOf : LkC yX8_limitOf cX8_limitOf 2 (some .int) 1 := ⟨lw_good_in (n := 1661) (by decide +kernel) rfl, lw_good_in (n := 147) (by decide +kernel) rfl, ⟨by decide +kernel, by decide +kernel⟩, by decide +kernel⟩
theorem lsX8_limitOf : LkSel yX8_limitOf := ⟨lw_good_in (n := 1660) (by decide +kernel) rfl, lw_good_in (n := 120) (by decide +kernel) rfl⟩
abbrev rmX8_rateOf : Room := { frames := 0, cells := 0, slots := 0, locals := 0 }
theorem lcX8_rateOf : LkC yX8_rateOf cX8_rateOf 2 (some .int) 1 := ⟨lw_good_in (n := 1666) (by decide +kernel) rfl, lw_good_in (n := 147) (by decide +kernel) rfl, ⟨by decide +kernel, by decide +kernel⟩, by decide +kernel⟩
theorem lsX8_rateOf : LkSel yX8_rateOf := ⟨lw_good_in (n := 1665) (by decide +kernel) rfl, lw_good_in (n := 121) (by decide +kernel) rfl⟩
abbrev rmX8_taxOf : Room := { frames := 1, cells := 0, slots := 0, locals := 21 }
theorem lcX8_taxOf : LkC yX8_taxOf cX8_taxOf 12 (some .long) 1 := ⟨lw_good_in (n := 1657) (by decide +kernel) rfl, lw_good_in (n := 147) (by decide +kernel) rfl, ⟨by decide +kernel, by decide +kernel⟩, by decide +kernel⟩
theorem lsX8_taxOf : LkSel yX8_taxOf := ⟨lw_good_in (n := 1656) (by decide +kernel) rfl, lw_good_in (n := 119) (by decide +kernel) rfl⟩
abbrev rmX8_prepaymentFor : Room := { frames := 8, cells := 0, slots := 0, locals := 184 }
theorem lcX8_prepaymentFor : LkC yX8_prepaymentFor cX8_prepaymentFor 10 (some .int) 2 := ⟨lw_good_in (n := 1600) (by decide +kernel) rfl, lw_good_in (n := 147) (by decide +kernel) rfl, ⟨by decide +kernel, by decide +kernel⟩, by decide +kernel⟩
theorem lsX8_prepaymentFor : LkSel yX8_prepaymentFor := ⟨lw_good_in (n := 1599) (by decide +kernel) rfl, lw_good_in (n := 105) (by decide +kernel) rfl⟩
abbrev rmX8_prepaidTo : Room := { frames := 0, cells := 0, slots := 0, locals := 0 }
theorem lcX8_prepaidTo : LkC yX8_prepaidTo cX8_prepaidTo 5 (some .long) 1 := ⟨lw_good_in (n := 1596) (by decide +kernel) rfl, lw_good_in (n := 147) (by decide +kernel) rfl, ⟨by decide +kernel, by decide +kernel⟩, by decide +kernel⟩
theorem lsX8_prepaidTo : LkSel yX8_prepaidTo := ⟨lw_good_in (n := 1595) (by decide +kernel) rfl, lw_good_in (n := 104) (by decide +kernel) rfl⟩
abbrev rmX8_againFor : Room := { frames := 9, cells := 0, slots := 0, locals := 213 }
theorem lcX8_againFor : LkC yX8_againFor cX8_againFor 6 (some .int) 1 := ⟨lw_good_in (n := 1798) (by decide +kernel) rfl, lw_good_in (n := 147) (by decide +kernel) rfl, ⟨by decide +kernel, by decide +kernel⟩, by decide +kernel⟩
theorem lsX8_againFor : LkSel yX8_againFor := ⟨lw_good_in (n := 1797) (by decide +kernel) rfl, lw_good_in (n := 128) (by decide +kernel) rfl⟩
abbrev rmX8_count : Room := { frames := 4, cells := 0, slots := 0, locals := 86 }
theorem lcX8_count : LkC yX8_count cX8_count 2 (some .int) 1 := ⟨lw_good_in (n := 1677) (by decide +kernel) rfl, lw_good_in (n := 147) (by decide +kernel) rfl, ⟨by decide +kernel, by decide +kernel⟩, by decide +kernel⟩
theorem lsX8_count : LkSel yX8_count := ⟨lw_good_in (n := 1675) (by decide +kernel) rfl, lw_good_in (n := 1676) (by decide +kernel) rfl⟩
abbrev rmX8_openMany : Room := { frames := 3, cells := 0, slots := 0, locals := 64 }
theorem lcX8_openMany : LkC yX8_openMany cX8_openMany 3 (some .int) 0 := ⟨lw_good_in (n := 1681) (by decide +kernel) rfl, lw_good_in (n := 147) (by decide +kernel) rfl, ⟨by decide +kernel, by decide +kernel⟩, by decide +kernel⟩
theorem lsX8_openMany : LkSel yX8_openMany := ⟨lw_good_in (n := 1680) (by decide +kernel) rfl, lw_good_in (n := 122) (by decide +kernel) rfl⟩
abbrev rmX8_flagged : Room := { frames := 1, cells := 0, slots := 0, locals := 22 }
theorem lcX8_flagged : LkC yX8_flagged cX8_flagged 4 (some .int) 1 := ⟨lw_good_in (n := 1689) (by decide +kernel) rfl, lw_good_in (n := 147) (by decide +kernel) rfl, ⟨by decide +kernel, by decide +kernel⟩, by decide +kernel⟩
theorem lsX8_flagged : LkSel yX8_flagged := ⟨lw_good_in (n := 1688) (by decide +kernel) rfl, lw_good_in (n := 124) (by decide +kernel) rfl⟩
abbrev rmX8_soldMany : Room := { frames := 2, cells := 0, slots := 0, locals := 43 }
theorem lcX8_soldMany : LkC yX8_soldMany cX8_soldMany 3 (some .int) 0 := ⟨lw_good_in (n := 1693) (by decide +kernel) rfl, lw_good_in (n := 147) (by decide +kernel) rfl, ⟨by decide +kernel, by decide +kernel⟩, by decide +kernel⟩
theorem lsX8_soldMany : LkSel yX8_soldMany := ⟨lw_good_in (n := 1692) (by decide +kernel) rfl, lw_good_in (n := 125) (by decide +kernel) rfl⟩
abbrev rmX8_entry : Room := { frames := 2, cells := 0, slots := 0, locals := 46 }
theorem lcX8_entry : LkC yX8_entry cX8_entry 3 (some .int) 2 := ⟨lw_good_in (n := 1697) (by decide +kernel) rfl, lw_good_in (n := 147) (by decide +kernel) rfl, ⟨by decide +kernel, by decide +kernel⟩, by decide +kernel⟩
theorem lsX8_entry : LkSel yX8_entry := ⟨lw_good_in (n := 1695) (by decide +kernel) rfl, lw_good_in (n := 1696) (by decide +kernel) rfl⟩
abbrev rmX8_deductible : Room := { frames := 5, cells := 0, slots := 0, locals := 114 }
theorem lcX8_deductible : LkC yX8_deductible cX8_deductible 2 (some .int) 1 := ⟨lw_good_in (n := 1702) (by decide +kernel) rfl, lw_good_in (n := 147) (by decide +kernel) rfl, ⟨by decide +kernel, by decide +kernel⟩, by decide +kernel⟩
theorem lsX8_deductible : LkSel yX8_deductible := ⟨lw_good_in (n := 1700) (by decide +kernel) rfl, lw_good_in (n := 1701) (by decide +kernel) rfl⟩
abbrev rmX8_total : Room := { frames := 4, cells := 0, slots := 0, locals := 87 }
theorem lcX8_total : LkC yX8_total cX8_total 7 (some .long) 3 := ⟨lw_good_in (n := 1706) (by decide +kernel) rfl, lw_good_in (n := 147) (by decide +kernel) rfl, ⟨by decide +kernel, by decide +kernel⟩, by decide +kernel⟩
theorem lsX8_total : LkSel yX8_total := ⟨lw_good_in (n := 1704) (by decide +kernel) rfl, lw_good_in (n := 1705) (by decide +kernel) rfl⟩
abbrev rmX8_byCategory : Room := { frames := 5, cells := 0, slots := 0, locals := 114 }
theorem lcX8_byCategory : LkC yX8_byCategory cX8_byCategory 6 (some .long) 2 := ⟨lw_good_in (n := 1710) (by decide +kernel) rfl, lw_good_in (n := 147) (by decide +kernel) rfl, ⟨by decide +kernel, by decide +kernel⟩, by decide +kernel⟩
theorem lsX8_byCategory : LkSel yX8_byCategory := ⟨lw_good_in (n := 1708) (by decide +kernel) rfl, lw_good_in (n := 1709) (by decide +kernel) rfl⟩
abbrev rmX8_open : Room := { frames := 3, cells := 0, slots := 0, locals := 64 }
theorem lcX8_open : LkC yX8_open cX8_open 5 (some .long) 1 := ⟨lw_good_in (n := 1714) (by decide +kernel) rfl, lw_good_in (n := 147) (by decide +kernel) rfl, ⟨by decide +kernel, by decide +kernel⟩, by decide +kernel⟩
theorem lsX8_open : LkSel yX8_open := ⟨lw_good_in (n := 1712) (by decide +kernel) rfl, lw_good_in (n := 1713) (by decide +kernel) rfl⟩
abbrev rmX8_oldestOpen : Room := { frames := 3, cells := 0, slots := 0, locals := 64 }
theorem lcX8_oldestOpen : LkC yX8_oldestOpen cX8_oldestOpen 3 (some .int) 0 := ⟨lw_good_in (n := 1718) (by decide +kernel) rfl, lw_good_in (n := 147) (by decide +kernel) rfl, ⟨by decide +kernel, by decide +kernel⟩, by decide +kernel⟩
theorem lsX8_oldestOpen : LkSel yX8_oldestOpen := ⟨lw_good_in (n := 1716) (by decide +kernel) rfl, lw_good_in (n := 1717) (by decide +kernel) rfl⟩
abbrev rmX8_room : Room := { frames := 2, cells := 0, slots := 0, locals := 46 }
theorem lcX8_room : LkC yX8_room cX8_room 3 (some .int) 2 := ⟨lw_good_in (n := 1722) (by decide +kernel) rfl, lw_good_in (n := 147) (by decide +kernel) rfl, ⟨by decide +kernel, by decide +kernel⟩, by decide +kernel⟩
theorem lsX8_room : LkSel yX8_room := ⟨lw_good_in (n := 1720) (by decide +kernel) rfl, lw_good_in (n := 1721) (by decide +kernel) rfl⟩
abbrev rmX8_share : Room := { frames := 3, cells := 0, slots := 0, locals := 70 }
theorem lcX8_share : LkC yX8_share cX8_share 6 (some .int) 2 := ⟨lw_good_in (n := 1727) (by decide +kernel) rfl, lw_good_in (n := 147) (by decide +kernel) rfl, ⟨by decide +kernel, by decide +kernel⟩, by decide +kernel⟩
theorem lsX8_share : LkSel yX8_share := ⟨lw_good_in (n := 1725) (by decide +kernel) rfl, lw_good_in (n := 1726) (by decide +kernel) rfl⟩
abbrev rmX8_asset : Room := { frames := 2, cells := 0, slots := 0, locals := 46 }
theorem lcX8_asset : LkC yX8_asset cX8_asset 3 (some .int) 2 := ⟨lw_good_in (n := 1738) (by decide +kernel) rfl, lw_good_in (n := 147) (by decide +kernel) rfl, ⟨by decide +kernel, by decide +kernel⟩, by decide +kernel⟩
theorem lsX8_asset : LkSel yX8_asset := ⟨lw_good_in (n := 1736) (by decide +kernel) rfl, lw_good_in (n := 1737) (by decide +kernel) rfl⟩
abbrev rmX8_written : Room := { frames := 5, cells := 0, slots := 0, locals := 113 }
theorem lcX8_written : LkC yX8_written cX8_written 3 (some .int) 2 := ⟨lw_good_in (n := 1743) (by decide +kernel) rfl, lw_good_in (n := 147) (by decide +kernel) rfl, ⟨by decide +kernel, by decide +kernel⟩, by decide +kernel⟩
theorem lsX8_written : LkSel yX8_written := ⟨lw_good_in (n := 1741) (by decide +kernel) rfl, lw_good_in (n := 1742) (by decide +kernel) rfl⟩
abbrev rmX8_bookValue : Room := { frames := 5, cells := 0, slots := 0, locals := 113 }
theorem lcX8_bookValue : LkC yX8_bookValue cX8_bookValue 3 (some .int) 2 := ⟨lw_good_in (n := 1747) (by decide +kernel) rfl, lw_good_in (n := 147) (by decide +kernel) rfl, ⟨by decide +kernel, by decide +kernel⟩, by decide +kernel⟩
theorem lsX8_bookValue : LkSel yX8_bookValue := ⟨lw_good_in (n := 1745) (by decide +kernel) rfl, lw_good_in (n := 1746) (by decide +kernel) rfl⟩
abbrev rmX8_pool : Room := { frames := 3, cells := 0, slots := 0, locals := 68 }
theorem lcX8_pool : LkC yX8_pool cX8_pool 2 (some .int) 1 := ⟨lw_good_in (n := 1751) (by decide +kernel) rfl, lw_good_in (n := 147) (by decide +kernel) rfl, ⟨by decide +kernel, by decide +kernel⟩, by decide +kernel⟩
theorem lsX8_pool : LkSel yX8_pool := ⟨lw_good_in (n := 1749) (by decide +kernel) rfl, lw_good_in (n := 1750) (by decide +kernel) rfl⟩
abbrev rmX8_poolWritten : Room := { frames := 4, cells := 0, slots := 0, locals := 91 }
theorem lcX8_poolWritten : LkC yX8_poolWritten cX8_poolWritten 2 (some .int) 1 := ⟨lw_good_in (n := 1758) (by decide +kernel) rfl, lw_good_in (n := 147) (by decide +kernel) rfl, ⟨by decide +kernel, by decide +kernel⟩, by decide +kernel⟩
theorem lsX8_poolWritten : LkSel yX8_poolWritten := ⟨lw_good_in (n := 1756) (by decide +kernel) rfl, lw_good_in (n := 1757) (by decide +kernel) rfl⟩
abbrev rmX8_profit : Room := { frames := 7, cells := 0, slots := 0, locals := 160 }
theorem lcX8_profit : LkC yX8_profit cX8_profit 2 (some .long) 1 := ⟨lw_good_in (n := 1762) (by decide +kernel) rfl, lw_good_in (n := 147) (by decide +kernel) rfl, ⟨by decide +kernel, by decide +kernel⟩, by decide +kernel⟩
theorem lsX8_profit : LkSel yX8_profit := ⟨lw_good_in (n := 1760) (by decide +kernel) rfl, lw_good_in (n := 1761) (by decide +kernel) rfl⟩
abbrev rmX8_profitTo : Room := { frames := 8, cells := 0, slots := 0, locals := 184 }
theorem lcX8_profitTo : LkC yX8_profitTo cX8_profitTo 2 (some .long) 1 := ⟨lw_good_in (n := 1766) (by decide +kernel) rfl, lw_good_in (n := 147) (by decide +kernel) rfl, ⟨by decide +kernel, by decide +kernel⟩, by decide +kernel⟩
theorem lsX8_profitTo : LkSel yX8_profitTo := ⟨lw_good_in (n := 1764) (by decide +kernel) rfl, lw_good_in (n := 1765) (by decide +kernel) rfl⟩
abbrev rmX8_tax : Room := { frames := 2, cells := 0, slots := 0, locals := 52 }
theorem lcX8_tax : LkC yX8_tax cX8_tax 2 (some .long) 1 := ⟨lw_good_in (n := 1770) (by decide +kernel) rfl, lw_good_in (n := 147) (by decide +kernel) rfl, ⟨by decide +kernel, by decide +kernel⟩, by decide +kernel⟩
theorem lsX8_tax : LkSel yX8_tax := ⟨lw_good_in (n := 1768) (by decide +kernel) rfl, lw_good_in (n := 1769) (by decide +kernel) rfl⟩
abbrev rmX8_rate : Room := { frames := 1, cells := 0, slots := 0, locals := 21 }
theorem lcX8_rate : LkC yX8_rate cX8_rate 3 (some .int) 1 := ⟨lw_good_in (n := 1774) (by decide +kernel) rfl, lw_good_in (n := 147) (by decide +kernel) rfl, ⟨by decide +kernel, by decide +kernel⟩, by decide +kernel⟩
theorem lsX8_rate : LkSel yX8_rate := ⟨lw_good_in (n := 1772) (by decide +kernel) rfl, lw_good_in (n := 1773) (by decide +kernel) rfl⟩
abbrev rmX8_yearTax : Room := { frames := 9, cells := 0, slots := 0, locals := 204 }
theorem lcX8_yearTax : LkC yX8_yearTax cX8_yearTax 1 (some .long) 0 := ⟨lw_good_in (n := 1778) (by decide +kernel) rfl, lw_good_in (n := 147) (by decide +kernel) rfl, ⟨by decide +kernel, by decide +kernel⟩, by decide +kernel⟩
theorem lsX8_yearTax : LkSel yX8_yearTax := ⟨lw_good_in (n := 1776) (by decide +kernel) rfl, lw_good_in (n := 1777) (by decide +kernel) rfl⟩
abbrev rmX8_isClosed : Room := { frames := 0, cells := 0, slots := 0, locals := 0 }
theorem lcX8_isClosed : LkC yX8_isClosed cX8_isClosed 2 (some .boolean) 1 := ⟨lw_good_in (n := 1790) (by decide +kernel) rfl, lw_good_in (n := 147) (by decide +kernel) rfl, ⟨by decide +kernel, by decide +kernel⟩, by decide +kernel⟩
theorem lsX8_isClosed : LkSel yX8_isClosed := ⟨lw_good_in (n := 1789) (by decide +kernel) rfl, lw_good_in (n := 127) (by decide +kernel) rfl⟩
abbrev rmX8_prepayment : Room := { frames := 2, cells := 0, slots := 0, locals := 45 }
theorem lcX8_prepayment : LkC yX8_prepayment cX8_prepayment 2 (some .int) 1 := ⟨lw_good_in (n := 1786) (by decide +kernel) rfl, lw_good_in (n := 147) (by decide +kernel) rfl, ⟨by decide +kernel, by decide +kernel⟩, by decide +kernel⟩
theorem lsX8_prepayment : LkSel yX8_prepayment := ⟨lw_good_in (n := 1784) (by decide +kernel) rfl, lw_good_in (n := 1785) (by decide +kernel) rfl⟩
abbrev rmX8_recomputed : Room := { frames := 10, cells := 0, slots := 0, locals := 238 }
theorem lcX8_recomputed : LkC yX8_recomputed cX8_recomputed 2 (some .int) 1 := ⟨lw_good_in (n := 1794) (by decide +kernel) rfl, lw_good_in (n := 147) (by decide +kernel) rfl, ⟨by decide +kernel, by decide +kernel⟩, by decide +kernel⟩
theorem lsX8_recomputed : LkSel yX8_recomputed := ⟨lw_good_in (n := 1792) (by decide +kernel) rfl, lw_good_in (n := 1793) (by decide +kernel) rfl⟩
abbrev rmX8_correctionOf : Room := { frames := 10, cells := 0, slots := 0, locals := 238 }
theorem lcX8_correctionOf : LkC yX8_correctionOf cX8_correctionOf 2 (some .int) 1 := ⟨lw_good_in (n := 1806) (by decide +kernel) rfl, lw_good_in (n := 147) (by decide +kernel) rfl, ⟨by decide +kernel, by decide +kernel⟩, by decide +kernel⟩
theorem lsX8_correctionOf : LkSel yX8_correctionOf := ⟨lw_good_in (n := 1805) (by decide +kernel) rfl, lw_good_in (n := 129) (by decide +kernel) rfl⟩
abbrev rmX8_correction : Room := { frames := 11, cells := 0, slots := 0, locals := 259 }
theorem lcX8_correction : LkC yX8_correction cX8_correction 2 (some .int) 1 := ⟨lw_good_in (n := 1802) (by decide +kernel) rfl, lw_good_in (n := 147) (by decide +kernel) rfl, ⟨by decide +kernel, by decide +kernel⟩, by decide +kernel⟩
theorem lsX8_correction : LkSel yX8_correction := ⟨lw_good_in (n := 1800) (by decide +kernel) rfl, lw_good_in (n := 1801) (by decide +kernel) rfl⟩
abbrev rmX8_settlement : Room := { frames := 9, cells := 0, slots := 0, locals := 204 }
theorem lcX8_settlement : LkC yX8_settlement cX8_settlement 1 (some .long) 0 := ⟨lw_good_in (n := 1810) (by decide +kernel) rfl, lw_good_in (n := 147) (by decide +kernel) rfl, ⟨by decide +kernel, by decide +kernel⟩, by decide +kernel⟩
theorem lsX8_settlement : LkSel yX8_settlement := ⟨lw_good_in (n := 1808) (by decide +kernel) rfl, lw_good_in (n := 1809) (by decide +kernel) rfl⟩
abbrev rmX8_interest : Room := { frames := 11, cells := 0, slots := 0, locals := 259 }
theorem lcX8_interest : LkC yX8_interest cX8_interest 6 (some .long) 0 := ⟨lw_good_in (n := 1814) (by decide +kernel) rfl, lw_good_in (n := 147) (by decide +kernel) rfl, ⟨by decide +kernel, by decide +kernel⟩, by decide +kernel⟩
theorem lsX8_interest : LkSel yX8_interest := ⟨lw_good_in (n := 1812) (by decide +kernel) rfl, lw_good_in (n := 1813) (by decide +kernel) rfl⟩
abbrev rmX8_effectiveRate : Room := { frames := 9, cells := 0, slots := 0, locals := 204 }
theorem lcX8_effectiveRate : LkC yX8_effectiveRate cX8_effectiveRate 3 (some .double) 0 := ⟨lw_good_in (n := 1818) (by decide +kernel) rfl, lw_good_in (n := 147) (by decide +kernel) rfl, ⟨by decide +kernel, by decide +kernel⟩, by decide +kernel⟩
theorem lsX8_effectiveRate : LkSel yX8_effectiveRate := ⟨lw_good_in (n := 1816) (by decide +kernel) rfl, lw_good_in (n := 1817) (by decide +kernel) rfl⟩
abbrev rmX8_whatIf : Room := { frames := 9, cells := 0, slots := 0, locals := 204 }
theorem lcX8_whatIf : LkC yX8_whatIf cX8_whatIf 8 (some .long) 3 := ⟨lw_good_in (n := 1823) (by decide +kernel) rfl, lw_good_in (n := 147) (by decide +kernel) rfl, ⟨by decide +kernel, by decide +kernel⟩, by decide +kernel⟩
theorem lsX8_whatIf : LkSel yX8_whatIf := ⟨lw_good_in (n := 1821) (by decide +kernel) rfl, lw_good_in (n := 1822) (by decide +kernel) rfl⟩
abbrev rmX8_netOf : Room := { frames := 0, cells := 0, slots := 0, locals := 0 }
theorem lcX8_netOf : LkC yX8_netOf cX8_netOf 6 (some .long) 3 := ⟨lw_good_in (n := 1831) (by decide +kernel) rfl, lw_good_in (n := 147) (by decide +kernel) rfl, ⟨by decide +kernel, by decide +kernel⟩, by decide +kernel⟩
theorem stX8_netOf : Cond.static yX8_netOf ∈ lw_good := lw_good_in (n := 1830) (by decide +kernel) rfl
abbrev rmX8_neededIncome : Room := { frames := 9, cells := 0, slots := 0, locals := 204 }
theorem lcX8_neededIncome : LkC yX8_neededIncome cX8_neededIncome 9 (some .int) 1 := ⟨lw_good_in (n := 1827) (by decide +kernel) rfl, lw_good_in (n := 147) (by decide +kernel) rfl, ⟨by decide +kernel, by decide +kernel⟩, by decide +kernel⟩
theorem lsX8_neededIncome : LkSel yX8_neededIncome := ⟨lw_good_in (n := 1825) (by decide +kernel) rfl, lw_good_in (n := 1826) (by decide +kernel) rfl⟩
abbrev rmX8_entriesUpTo : Room := { frames := 4, cells := 0, slots := 0, locals := 87 }
theorem lcX8_entriesUpTo : LkC yX8_entriesUpTo cX8_entriesUpTo 5 (some .long) 1 := ⟨lw_good_in (n := 1844) (by decide +kernel) rfl, lw_good_in (n := 147) (by decide +kernel) rfl, ⟨by decide +kernel, by decide +kernel⟩, by decide +kernel⟩
theorem lsX8_entriesUpTo : LkSel yX8_entriesUpTo := ⟨lw_good_in (n := 1843) (by decide +kernel) rfl, lw_good_in (n := 131) (by decide +kernel) rfl⟩
abbrev rmX8_assetsUpTo : Room := { frames := 2, cells := 0, slots := 0, locals := 43 }
theorem lcX8_assetsUpTo : LkC yX8_assetsUpTo cX8_assetsUpTo 5 (some .long) 1 := ⟨lw_good_in (n := 1848) (by decide +kernel) rfl, lw_good_in (n := 147) (by decide +kernel) rfl, ⟨by decide +kernel, by decide +kernel⟩, by decide +kernel⟩
theorem lsX8_assetsUpTo : LkSel yX8_assetsUpTo := ⟨lw_good_in (n := 1847) (by decide +kernel) rfl, lw_good_in (n := 132) (by decide +kernel) rfl⟩
abbrev rmX8_prepaidUpTo : Room := { frames := 0, cells := 0, slots := 0, locals := 0 }
theorem lcX8_prepaidUpTo : LkC yX8_prepaidUpTo cX8_prepaidUpTo 5 (some .long) 1 := ⟨lw_good_in (n := 1852) (by decide +kernel) rfl, lw_good_in (n := 147) (by decide +kernel) rfl, ⟨by decide +kernel, by decide +kernel⟩, by decide +kernel⟩
theorem lsX8_prepaidUpTo : LkSel yX8_prepaidUpTo := ⟨lw_good_in (n := 1851) (by decide +kernel) rfl, lw_good_in (n := 133) (by decide +kernel) rfl⟩
abbrev rmX8_balanceAt : Room := { frames := 5, cells := 0, slots := 0, locals := 111 }
theorem lcX8_balanceAt : LkC yX8_balanceAt cX8_balanceAt 2 (some .long) 1 := ⟨lw_good_in (n := 1840) (by decide +kernel) rfl, lw_good_in (n := 147) (by decide +kernel) rfl, ⟨by decide +kernel, by decide +kernel⟩, by decide +kernel⟩
theorem lsX8_balanceAt : LkSel yX8_balanceAt := ⟨lw_good_in (n := 1839) (by decide +kernel) rfl, lw_good_in (n := 130) (by decide +kernel) rfl⟩
abbrev rmX8_balance : Room := { frames := 6, cells := 0, slots := 0, locals := 132 }
theorem lcX8_balance : LkC yX8_balance cX8_balance 2 (some .long) 1 := ⟨lw_good_in (n := 1836) (by decide +kernel) rfl, lw_good_in (n := 147) (by decide +kernel) rfl, ⟨by decide +kernel, by decide +kernel⟩, by decide +kernel⟩
theorem lsX8_balance : LkSel yX8_balance := ⟨lw_good_in (n := 1834) (by decide +kernel) rfl, lw_good_in (n := 1835) (by decide +kernel) rfl⟩
abbrev rmX8_layEntries : Room := { frames := 3, cells := 0, slots := 0, locals := 64 }
theorem lcX8_layEntries : LkC yX8_layEntries cX8_layEntries 3 none 0 := ⟨lw_good_in (n := 1864) (by decide +kernel) rfl, lw_good_in (n := 147) (by decide +kernel) rfl, ⟨by decide +kernel, by decide +kernel⟩, by decide +kernel⟩
theorem lsX8_layEntries : LkSel yX8_layEntries := ⟨lw_good_in (n := 1863) (by decide +kernel) rfl, lw_good_in (n := 135) (by decide +kernel) rfl⟩
abbrev rmX8_layAssets : Room := { frames := 2, cells := 0, slots := 0, locals := 43 }
theorem lcX8_layAssets : LkC yX8_layAssets cX8_layAssets 2 none 0 := ⟨lw_good_in (n := 1868) (by decide +kernel) rfl, lw_good_in (n := 147) (by decide +kernel) rfl, ⟨by decide +kernel, by decide +kernel⟩, by decide +kernel⟩
theorem lsX8_layAssets : LkSel yX8_layAssets := ⟨lw_good_in (n := 1867) (by decide +kernel) rfl, lw_good_in (n := 136) (by decide +kernel) rfl⟩
abbrev rmX8_layDays : Room := { frames := 4, cells := 0, slots := 0, locals := 86 }
theorem lcX8_layDays : LkC yX8_layDays cX8_layDays 2 none 0 := ⟨lw_good_in (n := 1860) (by decide +kernel) rfl, lw_good_in (n := 147) (by decide +kernel) rfl, ⟨by decide +kernel, by decide +kernel⟩, by decide +kernel⟩
theorem lsX8_layDays : LkSel yX8_layDays := ⟨lw_good_in (n := 1859) (by decide +kernel) rfl, lw_good_in (n := 134) (by decide +kernel) rfl⟩
abbrev rmX8_lowestDay : Room := { frames := 5, cells := 0, slots := 0, locals := 107 }
theorem lcX8_lowestDay : LkC yX8_lowestDay cX8_lowestDay 7 (some .int) 0 := ⟨lw_good_in (n := 1856) (by decide +kernel) rfl, lw_good_in (n := 147) (by decide +kernel) rfl, ⟨by decide +kernel, by decide +kernel⟩, by decide +kernel⟩
theorem lsX8_lowestDay : LkSel yX8_lowestDay := ⟨lw_good_in (n := 1854) (by decide +kernel) rfl, lw_good_in (n := 1855) (by decide +kernel) rfl⟩
abbrev rmX8_daysBelow : Room := { frames := 5, cells := 0, slots := 0, locals := 107 }
theorem lcX8_daysBelow : LkC yX8_daysBelow cX8_daysBelow 6 (some .int) 1 := ⟨lw_good_in (n := 1872) (by decide +kernel) rfl, lw_good_in (n := 147) (by decide +kernel) rfl, ⟨by decide +kernel, by decide +kernel⟩, by decide +kernel⟩
theorem lsX8_daysBelow : LkSel yX8_daysBelow := ⟨lw_good_in (n := 1870) (by decide +kernel) rfl, lw_good_in (n := 1871) (by decide +kernel) rfl⟩
abbrev rmX8_takenIn : Room := { frames := 4, cells := 0, slots := 0, locals := 87 }
theorem lcX8_takenIn : LkC yX8_takenIn cX8_takenIn 7 (some .long) 1 := ⟨lw_good_in (n := 1880) (by decide +kernel) rfl, lw_good_in (n := 147) (by decide +kernel) rfl, ⟨by decide +kernel, by decide +kernel⟩, by decide +kernel⟩
theorem lsX8_takenIn : LkSel yX8_takenIn := ⟨lw_good_in (n := 1879) (by decide +kernel) rfl, lw_good_in (n := 137) (by decide +kernel) rfl⟩
abbrev rmX8_bestMonth : Room := { frames := 5, cells := 0, slots := 0, locals := 113 }
theorem lcX8_bestMonth : LkC yX8_bestMonth cX8_bestMonth 3 (some .int) 0 := ⟨lw_good_in (n := 1876) (by decide +kernel) rfl, lw_good_in (n := 147) (by decide +kernel) rfl, ⟨by decide +kernel, by decide +kernel⟩, by decide +kernel⟩
theorem lsX8_bestMonth : LkSel yX8_bestMonth := ⟨lw_good_in (n := 1874) (by decide +kernel) rfl, lw_good_in (n := 1875) (by decide +kernel) rfl⟩
theorem lmX0_34 : LkM RX0 34 yX0_isSoldBy := lw_good_in (n := 716) (by decide +kernel) rfl
theorem lmX0_38 : LkM RX0 38 yX0_writtenUpTo := lw_good_in (n := 712) (by decide +kernel) rfl
theorem lmX0_42 : LkM RX0 42 yX0_poolWrittenUpTo := lw_good_in (n := 704) (by decide +kernel) rfl
theorem lmX0_46 : LkM RX0 46 yX0_poolAt := lw_good_in (n := 708) (by decide +kernel) rfl
theorem lnX0_49 : LkN RX0 49 yX7_within := ⟨"CashLedger", List.mem_filter.mpr ⟨List.mem_of_getElem? (i := 678) (by decide +kernel), rfl⟩⟩
theorem lmX1_38 : LkM RX1 38 yX1_counts := lw_good_in (n := 670) (by decide +kernel) rfl
theorem lmX1_42 : LkM RX1 42 yX1_isOpen := lw_good_in (n := 1037) (by decide +kernel) rfl
theorem lmX1_45 : LkM RX1 45 yX1_countsWithin := lw_good_in (n := 666) (by decide +kernel) rfl
theorem lnX2_17 : LkN RX2 17 yX6_init := ⟨"CashLedger", List.mem_filter.mpr ⟨List.mem_of_getElem? (i := 413) (by decide +kernel), rfl⟩⟩
theorem lnX2_25 : LkN RX2 25 yX6_copyFrom := ⟨"CashLedger", List.mem_filter.mpr ⟨List.mem_of_getElem? (i := 903) (by decide +kernel), rfl⟩⟩
theorem lmX3_25 : LkM RX3 25 yX3_daysUsed := lw_good_in (n := 696) (by decide +kernel) rfl
theorem lnX4_20 : LkN RX4 20 yX3_init := ⟨"CashLedger", List.mem_filter.mpr ⟨List.mem_of_getElem? (i := 182) (by decide +kernel), rfl⟩⟩
theorem lmX4_25 : LkM RX4 25 yX4_useDefaults := lw_good_in (n := 206) (by decide +kernel) rfl
theorem lnX5_17 : LkN RX5 17 yX4_init := ⟨"CashLedger", List.mem_filter.mpr ⟨List.mem_of_getElem? (i := 176) (by decide +kernel), rfl⟩⟩
theorem lmX5_22 : LkM RX5 22 yX5_begin := lw_good_in (n := 476) (by decide +kernel) rfl
theorem lmX5_26 : LkM RX5 26 yX5_nextToken := lw_good_in (n := 484) (by decide +kernel) rfl
theorem lmX5_29 : LkM RX5 29 yX5_readStatement := lw_good_in (n := 496) (by decide +kernel) rfl
theorem lnX5_49 : LkN RX5 49 yX4_useDefaults := ⟨"CashLedger", List.mem_filter.mpr ⟨List.mem_of_getElem? (i := 483) (by decide +kernel), rfl⟩⟩
theorem lmX5_70 : LkM RX5 70 yX5_isWord := lw_good_in (n := 501) (by decide +kernel) rfl
theorem lmX5_74 : LkM RX5 74 yX5_readStart := lw_good_in (n := 553) (by decide +kernel) rfl
theorem lmX5_79 : LkM RX5 79 yX5_readAssets := lw_good_in (n := 566) (by decide +kernel) rfl
theorem lmX5_84 : LkM RX5 84 yX5_readInterest := lw_good_in (n := 572) (by decide +kernel) rfl
theorem lmX5_89 : LkM RX5 89 yX5_readTop := lw_good_in (n := 577) (by decide +kernel) rfl
theorem lmX5_94 : LkM RX5 94 yX5_readBracket := lw_good_in (n := 582) (by decide +kernel) rfl
theorem lmX5_99 : LkM RX5 99 yX5_readRoom := lw_good_in (n := 593) (by decide +kernel) rfl
theorem lmX5_103 : LkM RX5 103 yX5_takeNumber := lw_good_in (n := 558) (by decide +kernel) rfl
theorem lnX5_124 : LkN RX5 124 yX4_lastLimit := ⟨"CashLedger", List.mem_filter.mpr ⟨List.mem_of_getElem? (i := 586) (by decide +kernel), rfl⟩⟩
theorem lnX5_129 : LkN RX5 129 yX4_addBracket := ⟨"CashLedger", List.mem_filter.mpr ⟨List.mem_of_getElem? (i := 591) (by decide +kernel), rfl⟩⟩
theorem lnX5_144 : LkN RX5 144 yX3_add := ⟨"CashLedger", List.mem_filter.mpr ⟨List.mem_of_getElem? (i := 598) (by decide +kernel), rfl⟩⟩
theorem lnX5_151 : LkN RX5 151 yX7_within := ⟨"CashLedger", List.mem_filter.mpr ⟨List.mem_of_getElem? (i := 562) (by decide +kernel), rfl⟩⟩
theorem lmX5_163 : LkM RX5 163 yX5_endOfRun := lw_good_in (n := 488) (by decide +kernel) rfl
theorem lmX5_166 : LkM RX5 166 yX5_valueOfDigits := lw_good_in (n := 492) (by decide +kernel) rfl
theorem lnX6_11 : LkN RX6 11 yX1_init := ⟨"CashLedger", List.mem_filter.mpr ⟨List.mem_of_getElem? (i := 295) (by decide +kernel), rfl⟩⟩
theorem lnX6_20 : LkN RX6 20 yX3_init := ⟨"CashLedger", List.mem_filter.mpr ⟨List.mem_of_getElem? (i := 339) (by decide +kernel), rfl⟩⟩
theorem lnX6_27 : LkN RX6 27 yX0_init := ⟨"CashLedger", List.mem_filter.mpr ⟨List.mem_of_getElem? (i := 342) (by decide +kernel), rfl⟩⟩
theorem lnX6_44 : LkN RX6 44 yX3_copyFrom := ⟨"CashLedger", List.mem_filter.mpr ⟨List.mem_of_getElem? (i := 435) (by decide +kernel), rfl⟩⟩
theorem lnX6_55 : LkN RX6 55 yX1_copyFrom := ⟨"CashLedger", List.mem_filter.mpr ⟨List.mem_of_getElem? (i := 615) (by decide +kernel), rfl⟩⟩
theorem lnX6_58 : LkN RX6 58 yX0_copyFrom := ⟨"CashLedger", List.mem_filter.mpr ⟨List.mem_of_getElem? (i := 619) (by decide +kernel), rfl⟩⟩
theorem lnX6_61 : LkN RX6 61 yX3_wholeMonth := ⟨"CashLedger", List.mem_filter.mpr ⟨List.mem_of_getElem? (i := 688) (by decide +kernel), rfl⟩⟩
theorem lnX6_65 : LkN RX6 65 yX3_usedIn := ⟨"CashLedger", List.mem_filter.mpr ⟨List.mem_of_getElem? (i := 692) (by decide +kernel), rfl⟩⟩
theorem lnX6_69 : LkN RX6 69 yX1_counts := ⟨"CashLedger", List.mem_filter.mpr ⟨List.mem_of_getElem? (i := 746) (by decide +kernel), rfl⟩⟩
theorem lmX6_82 : LkM RX6 82 yX6_deductibleOf := lw_good_in (n := 684) (by decide +kernel) rfl
theorem lmX6_89 : LkM RX6 89 yX6_deductiblePart := lw_good_in (n := 1095) (by decide +kernel) rfl
theorem lnX6_92 : LkN RX6 92 yX1_countsWithin := ⟨"CashLedger", List.mem_filter.mpr ⟨List.mem_of_getElem? (i := 683) (by decide +kernel), rfl⟩⟩
theorem lnX6_96 : LkN RX6 96 yX1_sumPaid := ⟨"CashLedger", List.mem_filter.mpr ⟨List.mem_of_getElem? (i := 662) (by decide +kernel), rfl⟩⟩
theorem lnX6_99 : LkN RX6 99 yX0_soldFor := ⟨"CashLedger", List.mem_filter.mpr ⟨List.mem_of_getElem? (i := 674) (by decide +kernel), rfl⟩⟩
theorem lmX6_103 : LkM RX6 103 yX6_received := lw_good_in (n := 658) (by decide +kernel) rfl
theorem lmX6_106 : LkM RX6 106 yX6_deductibleUpTo := lw_good_in (n := 679) (by decide +kernel) rfl
theorem lnX6_110 : LkN RX6 110 yX0_allWrittenUpTo := ⟨"CashLedger", List.mem_filter.mpr ⟨List.mem_of_getElem? (i := 700) (by decide +kernel), rfl⟩⟩
theorem lmX6_113 : LkM RX6 113 yX6_move := lw_good_in (n := 743) (by decide +kernel) rfl
theorem lnX7_15 : LkN RX7 15 yX5_init := ⟨"CashLedger", List.mem_filter.mpr ⟨List.mem_of_getElem? (i := 170) (by decide +kernel), rfl⟩⟩
theorem lnX7_22 : LkN RX7 22 yX4_init := ⟨"CashLedger", List.mem_filter.mpr ⟨List.mem_of_getElem? (i := 286) (by decide +kernel), rfl⟩⟩
theorem lnX7_29 : LkN RX7 29 yX6_init := ⟨"CashLedger", List.mem_filter.mpr ⟨List.mem_of_getElem? (i := 289) (by decide +kernel), rfl⟩⟩
theorem lnX7_39 : LkN RX7 39 yX2_init := ⟨"CashLedger", List.mem_filter.mpr ⟨List.mem_of_getElem? (i := 407) (by decide +kernel), rfl⟩⟩
theorem lnX7_49 : LkN RX7 49 yX4_addBracket := ⟨"CashLedger", List.mem_filter.mpr ⟨List.mem_of_getElem? (i := 426) (by decide +kernel), rfl⟩⟩
theorem lnX7_54 : LkN RX7 54 yX6_begin := ⟨"CashLedger", List.mem_filter.mpr ⟨List.mem_of_getElem? (i := 431) (by decide +kernel), rfl⟩⟩
theorem lmX7_58 : LkM RX7 58 yX7_bytesIn := lw_good_in (n := 767) (by decide +kernel) rfl
theorem lmX7_66 : LkM RX7 66 yX7_requireState := lw_good_in (n := 770) (by decide +kernel) rfl
theorem lmX7_70 : LkM RX7 70 yX7_putBytes := lw_good_in (n := 841) (by decide +kernel) rfl
theorem lmX7_74 : LkM RX7 74 yX7_within := lw_good_in (n := 853) (by decide +kernel) rfl
theorem lmX7_78 : LkM RX7 78 yX7_requireArgument := lw_good_in (n := 854) (by decide +kernel) rfl
theorem lnX7_81 : LkN RX7 81 yX5_read := ⟨"CashLedger", List.mem_filter.mpr ⟨List.mem_of_getElem? (i := 472) (by decide +kernel), rfl⟩⟩
theorem lnX7_85 : LkN RX7 85 yX5_handOver := ⟨"CashLedger", List.mem_filter.mpr ⟨List.mem_of_getElem? (i := 880) (by decide +kernel), rfl⟩⟩
theorem lnX7_89 : LkN RX7 89 yX2_clear := ⟨"CashLedger", List.mem_filter.mpr ⟨List.mem_of_getElem? (i := 884) (by decide +kernel), rfl⟩⟩
theorem lmX7_106 : LkM RX7 106 yX7_isDayOrNone := lw_good_in (n := 896) (by decide +kernel) rfl
theorem lnX7_117 : LkN RX7 117 yX2_remember := ⟨"CashLedger", List.mem_filter.mpr ⟨List.mem_of_getElem? (i := 899) (by decide +kernel), rfl⟩⟩
theorem lnX7_124 : LkN RX7 124 yX1_add := ⟨"CashLedger", List.mem_filter.mpr ⟨List.mem_of_getElem? (i := 905) (by decide +kernel), rfl⟩⟩
theorem lmX7_128 : LkM RX7 128 yX7_requireIndex := lw_good_in (n := 917) (by decide +kernel) rfl
theorem lnX7_141 : LkN RX7 141 yX3_add := ⟨"CashLedger", List.mem_filter.mpr ⟨List.mem_of_getElem? (i := 950) (by decide +kernel), rfl⟩⟩
theorem lnX7_144 : LkN RX7 144 yX3_daysUsed := ⟨"CashLedger", List.mem_filter.mpr ⟨List.mem_of_getElem? (i := 958) (by decide +kernel), rfl⟩⟩
theorem lnX7_161 : LkN RX7 161 yX4_sortOf := ⟨"CashLedger", List.mem_filter.mpr ⟨List.mem_of_getElem? (i := 967) (by decide +kernel), rfl⟩⟩
theorem lnX7_164 : LkN RX7 164 yX0_add := ⟨"CashLedger", List.mem_filter.mpr ⟨List.mem_of_getElem? (i := 971) (by decide +kernel), rfl⟩⟩
theorem lnX7_173 : LkN RX7 173 yX0_valueAt := ⟨"CashLedger", List.mem_filter.mpr ⟨List.mem_of_getElem? (i := 982) (by decide +kernel), rfl⟩⟩
theorem lnX7_180 : LkN RX7 180 yX6_profitUpTo := ⟨"CashLedger", List.mem_filter.mpr ⟨List.mem_of_getElem? (i := 654) (by decide +kernel), rfl⟩⟩
theorem lmX7_184 : LkM RX7 184 yX7_targetAt := lw_good_in (n := 728) (by decide +kernel) rfl
theorem lnX7_188 : LkN RX7 188 yX6_prepaidSoFar := ⟨"CashLedger", List.mem_filter.mpr ⟨List.mem_of_getElem? (i := 993) (by decide +kernel), rfl⟩⟩
theorem lnX7_206 : LkN RX7 206 yX2_takeBack := ⟨"CashLedger", List.mem_filter.mpr ⟨List.mem_of_getElem? (i := 1012) (by decide +kernel), rfl⟩⟩
theorem lnX7_209 : LkN RX7 209 yX6_copyFrom := ⟨"CashLedger", List.mem_filter.mpr ⟨List.mem_of_getElem? (i := 611) (by decide +kernel), rfl⟩⟩
theorem lnX7_212 : LkN RX7 212 yX1_openOnes := ⟨"CashLedger", List.mem_filter.mpr ⟨List.mem_of_getElem? (i := 1033) (by decide +kernel), rfl⟩⟩
theorem lnX7_216 : LkN RX7 216 yX1_cancelledOnes := ⟨"CashLedger", List.mem_filter.mpr ⟨List.mem_of_getElem? (i := 1041) (by decide +kernel), rfl⟩⟩
theorem lnX7_219 : LkN RX7 219 yX1_lateOnes := ⟨"CashLedger", List.mem_filter.mpr ⟨List.mem_of_getElem? (i := 1045) (by decide +kernel), rfl⟩⟩
theorem lnX7_222 : LkN RX7 222 yX0_soldOnes := ⟨"CashLedger", List.mem_filter.mpr ⟨List.mem_of_getElem? (i := 1049) (by decide +kernel), rfl⟩⟩
theorem lnX7_247 : LkN RX7 247 yX6_deductiblePart := ⟨"CashLedger", List.mem_filter.mpr ⟨List.mem_of_getElem? (i := 1068) (by decide +kernel), rfl⟩⟩
theorem lnX7_250 : LkN RX7 250 yX1_sumPaid := ⟨"CashLedger", List.mem_filter.mpr ⟨List.mem_of_getElem? (i := 1079) (by decide +kernel), rfl⟩⟩
theorem lnX7_254 : LkN RX7 254 yX1_incomesOf := ⟨"CashLedger", List.mem_filter.mpr ⟨List.mem_of_getElem? (i := 1087) (by decide +kernel), rfl⟩⟩
theorem lnX7_257 : LkN RX7 257 yX6_deductiblePartsOf := ⟨"CashLedger", List.mem_filter.mpr ⟨List.mem_of_getElem? (i := 1091) (by decide +kernel), rfl⟩⟩
theorem lnX7_260 : LkN RX7 260 yX1_sumOpen := ⟨"CashLedger", List.mem_filter.mpr ⟨List.mem_of_getElem? (i := 1103) (by decide +kernel), rfl⟩⟩
theorem lnX7_263 : LkN RX7 263 yX1_firstInvoicedOpen := ⟨"CashLedger", List.mem_filter.mpr ⟨List.mem_of_getElem? (i := 1115) (by decide +kernel), rfl⟩⟩
theorem lmX7_266 : LkM RX7 266 yX7_requireElement := lw_good_in (n := 1119) (by decide +kernel) rfl
theorem lnX7_272 : LkN RX7 272 yX3_usedIn := ⟨"CashLedger", List.mem_filter.mpr ⟨List.mem_of_getElem? (i := 1152) (by decide +kernel), rfl⟩⟩
theorem lnX7_275 : LkN RX7 275 yX3_wholeMonth := ⟨"CashLedger", List.mem_filter.mpr ⟨List.mem_of_getElem? (i := 1153) (by decide +kernel), rfl⟩⟩
theorem lmX7_278 : LkM RX7 278 yX7_commonDivisor := lw_good_in (n := 1154) (by decide +kernel) rfl
theorem lnX7_290 : LkN RX7 290 yX0_writtenIn := ⟨"CashLedger", List.mem_filter.mpr ⟨List.mem_of_getElem? (i := 1171) (by decide +kernel), rfl⟩⟩
theorem lmX7_293 : LkM RX7 293 yX7_requireQuarter := lw_good_in (n := 1189) (by decide +kernel) rfl
theorem lnX7_296 : LkN RX7 296 yX0_poolAt := ⟨"CashLedger", List.mem_filter.mpr ⟨List.mem_of_getElem? (i := 1192) (by decide +kernel), rfl⟩⟩
theorem lnX7_299 : LkN RX7 299 yX0_poolWrittenIn := ⟨"CashLedger", List.mem_filter.mpr ⟨List.mem_of_getElem? (i := 1200) (by decide +kernel), rfl⟩⟩
theorem lnX7_302 : LkN RX7 302 yX4_taxOf := ⟨"CashLedger", List.mem_filter.mpr ⟨List.mem_of_getElem? (i := 627) (by decide +kernel), rfl⟩⟩
theorem lnX7_306 : LkN RX7 306 yX4_rateOf := ⟨"CashLedger", List.mem_filter.mpr ⟨List.mem_of_getElem? (i := 642) (by decide +kernel), rfl⟩⟩
theorem lmX7_309 : LkM RX7 309 yX7_yearProfit := lw_good_in (n := 650) (by decide +kernel) rfl
theorem lmX7_312 : LkM RX7 312 yX7_prepaymentNow := lw_good_in (n := 724) (by decide +kernel) rfl
theorem lnX7_322 : LkN RX7 322 yX6_deductibleOf := ⟨"CashLedger", List.mem_filter.mpr ⟨List.mem_of_getElem? (i := 1261) (by decide +kernel), rfl⟩⟩
theorem lmX7_325 : LkM RX7 325 yX7_additionalTax := lw_good_in (n := 1262) (by decide +kernel) rfl
theorem lmX7_329 : LkM RX7 329 yX7_leftOf := lw_good_in (n := 1274) (by decide +kernel) rfl
theorem lnX7_332 : LkN RX7 332 yX6_fillBalances := ⟨"CashLedger", List.mem_filter.mpr ⟨List.mem_of_getElem? (i := 739) (by decide +kernel), rfl⟩⟩
theorem lnX7_336 : LkN RX7 336 yX6_receivedIn := ⟨"CashLedger", List.mem_filter.mpr ⟨List.mem_of_getElem? (i := 755) (by decide +kernel), rfl⟩⟩
theorem lmX8_29 : LkM RX8 29 yX8_begin := lw_good_in (n := 1291) (by decide +kernel) rfl
theorem lmX8_33 : LkM RX8 33 yX8_readBracket := lw_good_in (n := 1298) (by decide +kernel) rfl
theorem lmX8_38 : LkM RX8 38 yX8_takeRead := lw_good_in (n := 1303) (by decide +kernel) rfl
theorem lmX8_45 : LkM RX8 45 yX8_byteOf := lw_good_in (n := 1364) (by decide +kernel) rfl
theorem lmX8_52 : LkM RX8 52 yX8_fails := lw_good_in (n := 1367) (by decide +kernel) rfl
theorem lmX8_56 : LkM RX8 56 yX8_in := lw_good_in (n := 1375) (by decide +kernel) rfl
theorem lmX8_63 : LkM RX8 63 yX8_peek := lw_good_in (n := 1390) (by decide +kernel) rfl
theorem lmX8_70 : LkM RX8 70 yX8_isLetter := lw_good_in (n := 1394) (by decide +kernel) rfl
theorem lmX8_74 : LkM RX8 74 yX8_isDigit := lw_good_in (n := 1397) (by decide +kernel) rfl
theorem lmX8_99 : LkM RX8 99 yX8_isGood := lw_good_in (n := 1413) (by decide +kernel) rfl
theorem lmX8_112 : LkM RX8 112 yX8_fail := lw_good_in (n := 1423) (by decide +kernel) rfl
theorem lmX8_115 : LkM RX8 115 yX8_step := lw_good_in (n := 1386) (by decide +kernel) rfl
theorem lmX8_124 : LkM RX8 124 yX8_takeNumber := lw_good_in (n := 1428) (by decide +kernel) rfl
theorem lmX8_130 : LkM RX8 130 yX8_isWord := lw_good_in (n := 1409) (by decide +kernel) rfl
theorem lmX8_136 : LkM RX8 136 yX8_bracketStatement := lw_good_in (n := 1419) (by decide +kernel) rfl
theorem lmX8_141 : LkM RX8 141 yX8_roomStatement := lw_good_in (n := 1433) (by decide +kernel) rfl
theorem lmX8_146 : LkM RX8 146 yX8_once := lw_good_in (n := 1439) (by decide +kernel) rfl
theorem lmX8_151 : LkM RX8 151 yX8_take := lw_good_in (n := 1444) (by decide +kernel) rfl
theorem lmX8_161 : LkM RX8 161 yX8_readStatement := lw_good_in (n := 1404) (by decide +kernel) rfl
theorem lmX8_164 : LkM RX8 164 yX8_parse := lw_good_in (n := 1382) (by decide +kernel) rfl
theorem lmX8_184 : LkM RX8 184 yX8_entryPart := lw_good_in (n := 1508) (by decide +kernel) rfl
theorem lmX8_187 : LkM RX8 187 yX8_isCancelled := lw_good_in (n := 1504) (by decide +kernel) rfl
theorem lmX8_190 : LkM RX8 190 yX8_counts := lw_good_in (n := 1617) (by decide +kernel) rfl
theorem lmX8_193 : LkM RX8 193 yX8_record := lw_good_in (n := 1492) (by decide +kernel) rfl
theorem lmX8_196 : LkM RX8 196 yX8_isKind := lw_good_in (n := 1475) (by decide +kernel) rfl
theorem lmX8_201 : LkM RX8 201 yX8_isAmount := lw_good_in (n := 1480) (by decide +kernel) rfl
theorem lmX8_204 : LkM RX8 204 yX8_isDay := lw_good_in (n := 1484) (by decide +kernel) rfl
theorem lmX8_207 : LkM RX8 207 yX8_isDayOrNone := lw_good_in (n := 1488) (by decide +kernel) rfl
theorem lmX8_210 : LkM RX8 210 yX8_isEntry := lw_good_in (n := 1500) (by decide +kernel) rfl
theorem lmX8_213 : LkM RX8 213 yX8_become := lw_good_in (n := 1512) (by decide +kernel) rfl
theorem lmX8_218 : LkM RX8 218 yX8_isRoom := lw_good_in (n := 1529) (by decide +kernel) rfl
theorem lmX8_221 : LkM RX8 221 yX8_usedDays := lw_good_in (n := 1533) (by decide +kernel) rfl
theorem lmX8_229 : LkM RX8 229 yX8_assetPart := lw_good_in (n := 1557) (by decide +kernel) rfl
theorem lmX8_232 : LkM RX8 232 yX8_isAsset := lw_good_in (n := 1553) (by decide +kernel) rfl
theorem lmX8_235 : LkM RX8 235 yX8_isSold := lw_good_in (n := 1561) (by decide +kernel) rfl
theorem lmX8_238 : LkM RX8 238 yX8_valueOf := lw_good_in (n := 1565) (by decide +kernel) rfl
theorem lmX8_241 : LkM RX8 241 yX8_prepaidTo := lw_good_in (n := 1593) (by decide +kernel) rfl
theorem lmX8_245 : LkM RX8 245 yX8_prepaymentFor := lw_good_in (n := 1597) (by decide +kernel) rfl
theorem lmX8_251 : LkM RX8 251 yX8_roomPart := lw_good_in (n := 1537) (by decide +kernel) rfl
theorem lmX8_259 : LkM RX8 259 yX8_shareAbove := lw_good_in (n := 1629) (by decide +kernel) rfl
theorem lmX8_262 : LkM RX8 262 yX8_shareBelow := lw_good_in (n := 1633) (by decide +kernel) rfl
theorem lmX8_265 : LkM RX8 265 yX8_deducted := lw_good_in (n := 1625) (by decide +kernel) rfl
theorem lmX8_269 : LkM RX8 269 yX8_boughtIn := lw_good_in (n := 1569) (by decide +kernel) rfl
theorem lmX8_272 : LkM RX8 272 yX8_sortOf := lw_good_in (n := 1577) (by decide +kernel) rfl
theorem lmX8_275 : LkM RX8 275 yX8_soldIn := lw_good_in (n := 1573) (by decide +kernel) rfl
theorem lmX8_278 : LkM RX8 278 yX8_byLife := lw_good_in (n := 1585) (by decide +kernel) rfl
theorem lmX8_281 : LkM RX8 281 yX8_writtenTo := lw_good_in (n := 1581) (by decide +kernel) rfl
theorem lmX8_284 : LkM RX8 284 yX8_poolTo := lw_good_in (n := 1649) (by decide +kernel) rfl
theorem lmX8_287 : LkM RX8 287 yX8_countsIn := lw_good_in (n := 1613) (by decide +kernel) rfl
theorem lmX8_291 : LkM RX8 291 yX8_deductedOf := lw_good_in (n := 1621) (by decide +kernel) rfl
theorem lmX8_294 : LkM RX8 294 yX8_writtenIn := lw_good_in (n := 1641) (by decide +kernel) rfl
theorem lmX8_297 : LkM RX8 297 yX8_entriesIn := lw_good_in (n := 1609) (by decide +kernel) rfl
theorem lmX8_300 : LkM RX8 300 yX8_assetsIn := lw_good_in (n := 1637) (by decide +kernel) rfl
theorem lmX8_303 : LkM RX8 303 yX8_poolOff := lw_good_in (n := 1645) (by decide +kernel) rfl
theorem lmX8_306 : LkM RX8 306 yX8_profitOf := lw_good_in (n := 1605) (by decide +kernel) rfl
theorem lmX8_309 : LkM RX8 309 yX8_profitsTo := lw_good_in (n := 1601) (by decide +kernel) rfl
theorem lmX8_312 : LkM RX8 312 yX8_limitOf := lw_good_in (n := 1658) (by decide +kernel) rfl
theorem lmX8_319 : LkM RX8 319 yX8_rateOf := lw_good_in (n := 1663) (by decide +kernel) rfl
theorem lmX8_326 : LkM RX8 326 yX8_taxOf := lw_good_in (n := 1654) (by decide +kernel) rfl
theorem lmX8_332 : LkM RX8 332 yX8_openMany := lw_good_in (n := 1678) (by decide +kernel) rfl
theorem lmX8_335 : LkM RX8 335 yX8_flagged := lw_good_in (n := 1686) (by decide +kernel) rfl
theorem lmX8_338 : LkM RX8 338 yX8_soldMany := lw_good_in (n := 1690) (by decide +kernel) rfl
theorem lmX8_341 : LkM RX8 341 yX8_isOpen := lw_good_in (n := 1682) (by decide +kernel) rfl
theorem lmX8_348 : LkM RX8 348 yX8_isMonth := lw_good_in (n := 1728) (by decide +kernel) rfl
theorem lmX8_351 : LkM RX8 351 yX8_common := lw_good_in (n := 1732) (by decide +kernel) rfl
theorem lmX8_356 : LkM RX8 356 yX8_isQuarter := lw_good_in (n := 1752) (by decide +kernel) rfl
theorem lmX8_359 : LkM RX8 359 yX8_yearProfit := lw_good_in (n := 1779) (by decide +kernel) rfl
theorem lmX8_363 : LkM RX8 363 yX8_isClosed := lw_good_in (n := 1787) (by decide +kernel) rfl
theorem lmX8_366 : LkM RX8 366 yX8_againFor := lw_good_in (n := 1795) (by decide +kernel) rfl
theorem lmX8_369 : LkM RX8 369 yX8_correctionOf := lw_good_in (n := 1803) (by decide +kernel) rfl
theorem lmX8_376 : LkM RX8 376 yX8_netOf := lw_good_in (n := 1829) (by decide +kernel) rfl
theorem lmX8_381 : LkM RX8 381 yX8_entriesUpTo := lw_good_in (n := 1841) (by decide +kernel) rfl
theorem lmX8_384 : LkM RX8 384 yX8_assetsUpTo := lw_good_in (n := 1845) (by decide +kernel) rfl
theorem lmX8_387 : LkM RX8 387 yX8_prepaidUpTo := lw_good_in (n := 1849) (by decide +kernel) rfl
theorem lmX8_390 : LkM RX8 390 yX8_balanceAt := lw_good_in (n := 1837) (by decide +kernel) rfl
theorem lmX8_393 : LkM RX8 393 yX8_layEntries := lw_good_in (n := 1861) (by decide +kernel) rfl
theorem lmX8_396 : LkM RX8 396 yX8_layAssets := lw_good_in (n := 1865) (by decide +kernel) rfl
theorem lmX8_399 : LkM RX8 399 yX8_layDays := lw_good_in (n := 1857) (by decide +kernel) rfl
theorem lmX8_402 : LkM RX8 402 yX8_takenIn := lw_good_in (n := 1877) (by decide +kernel) rfl
theorem flX0_9 : FLk RX0 9 RX0 TX0 7 tyX0 1 := ⟨by decide, inX0, tyX0_ok, nmX0, Or.inl (lw_good_in (n := 349) (by decide +kernel) rfl)⟩
theorem flX0_15 : FLk RX0 15 RX0 TX0 7 tyX0 2 := ⟨by decide, inX0, tyX0_ok, nmX0, Or.inl (lw_good_in (n := 352) (by decide +kernel) rfl)⟩
theorem flX0_18 : FLk RX0 18 RX0 TX0 7 tyX0 3 := ⟨by decide, inX0, tyX0_ok, nmX0, Or.inl (lw_good_in (n := 355) (by decide +kernel) rfl)⟩
theorem flX0_21 : FLk RX0 21 RX0 TX0 7 tyX0 4 := ⟨by decide, inX0, tyX0_ok, nmX0, Or.inl (lw_good_in (n := 357) (by decide +kernel) rfl)⟩
theorem flX0_24 : FLk RX0 24 RX0 TX0 7 tyX0 5 := ⟨by decide, inX0, tyX0_ok, nmX0, Or.inl (lw_good_in (n := 359) (by decide +kernel) rfl)⟩
theorem flX0_27 : FLk RX0 27 RX0 TX0 7 tyX0 6 := ⟨by decide, inX0, tyX0_ok, nmX0, Or.inl (lw_good_in (n := 362) (by decide +kernel) rfl)⟩
theorem flX0_30 : FLk RX0 30 RX0 TX0 7 tyX0 0 := ⟨by decide, inX0, tyX0_ok, nmX0, Or.inl (lw_good_in (n := 346) (by decide +kernel) rfl)⟩
theorem flX1_9 : FLk RX1 9 RX1 TX1 8 tyX1 1 := ⟨by decide, inX1, tyX1_ok, nmX1, Or.inl (lw_good_in (n := 302) (by decide +kernel) rfl)⟩
theorem flX1_15 : FLk RX1 15 RX1 TX1 8 tyX1 2 := ⟨by decide, inX1, tyX1_ok, nmX1, Or.inl (lw_good_in (n := 305) (by decide +kernel) rfl)⟩
theorem flX1_18 : FLk RX1 18 RX1 TX1 8 tyX1 3 := ⟨by decide, inX1, tyX1_ok, nmX1, Or.inl (lw_good_in (n := 308) (by decide +kernel) rfl)⟩
theorem flX1_21 : FLk RX1 21 RX1 TX1 8 tyX1 4 := ⟨by decide, inX1, tyX1_ok, nmX1, Or.inl (lw_good_in (n := 311) (by decide +kernel) rfl)⟩
theorem flX1_24 : FLk RX1 24 RX1 TX1 8 tyX1 5 := ⟨by decide, inX1, tyX1_ok, nmX1, Or.inl (lw_good_in (n := 313) (by decide +kernel) rfl)⟩
theorem flX1_27 : FLk RX1 27 RX1 TX1 8 tyX1 6 := ⟨by decide, inX1, tyX1_ok, nmX1, Or.inl (lw_good_in (n := 316) (by decide +kernel) rfl)⟩
theorem flX1_31 : FLk RX1 31 RX1 TX1 8 tyX1 7 := ⟨by decide, inX1, tyX1_ok, nmX1, Or.inl (lw_good_in (n := 318) (by decide +kernel) rfl)⟩
theorem flX1_34 : FLk RX1 34 RX1 TX1 8 tyX1 0 := ⟨by decide, inX1, tyX1_ok, nmX1, Or.inl (lw_good_in (n := 299) (by decide +kernel) rfl)⟩
theorem flX2_11 : FLk RX2 11 RX2 TX2 3 tyX2 0 := ⟨by decide, inX2, tyX2_ok, nmX2, Or.inl (lw_good_in (n := 414) (by decide +kernel) rfl)⟩
theorem flX2_18 : FLk RX2 18 RX2 TX2 3 tyX2 1 := ⟨by decide, inX2, tyX2_ok, nmX2, Or.inl (lw_good_in (n := 415) (by decide +kernel) rfl)⟩
theorem flX2_22 : FLk RX2 22 RX2 TX2 3 tyX2 2 := ⟨by decide, inX2, tyX2_ok, nmX2, Or.inl (lw_good_in (n := 416) (by decide +kernel) rfl)⟩
theorem flX3_9 : FLk RX3 9 RX3 TX3 4 tyX3 1 := ⟨by decide, inX3, tyX3_ok, nmX3, Or.inl (lw_good_in (n := 190) (by decide +kernel) rfl)⟩
theorem flX3_15 : FLk RX3 15 RX3 TX3 4 tyX3 2 := ⟨by decide, inX3, tyX3_ok, nmX3, Or.inl (lw_good_in (n := 192) (by decide +kernel) rfl)⟩
theorem flX3_18 : FLk RX3 18 RX3 TX3 4 tyX3 3 := ⟨by decide, inX3, tyX3_ok, nmX3, Or.inl (lw_good_in (n := 194) (by decide +kernel) rfl)⟩
theorem flX3_21 : FLk RX3 21 RX3 TX3 4 tyX3 0 := ⟨by decide, inX3, tyX3_ok, nmX3, Or.inl (lw_good_in (n := 186) (by decide +kernel) rfl)⟩
theorem flX4_9 : FLk RX4 9 RX4 TX4 9 tyX4 6 := ⟨by decide, inX4, tyX4_ok, nmX4, Or.inl (lw_good_in (n := 227) (by decide +kernel) rfl)⟩
theorem flX4_15 : FLk RX4 15 RX4 TX4 9 tyX4 7 := ⟨by decide, inX4, tyX4_ok, nmX4, Or.inl (lw_good_in (n := 228) (by decide +kernel) rfl)⟩
theorem flX4_21 : FLk RX4 21 RX4 TX4 9 tyX4 8 := ⟨by decide, inX4, tyX4_ok, nmX4, Or.inl (lw_good_in (n := 229) (by decide +kernel) rfl)⟩
theorem flX4_28 : FLk RX4 28 RX4 TX4 9 tyX4 0 := ⟨by decide, inX4, tyX4_ok, nmX4, Or.inl (lw_good_in (n := 212) (by decide +kernel) rfl)⟩
theorem flX4_33 : FLk RX4 33 RX4 TX4 9 tyX4 1 := ⟨by decide, inX4, tyX4_ok, nmX4, Or.inl (lw_good_in (n := 215) (by decide +kernel) rfl)⟩
theorem flX4_37 : FLk RX4 37 RX4 TX4 9 tyX4 2 := ⟨by decide, inX4, tyX4_ok, nmX4, Or.inl (lw_good_in (n := 217) (by decide +kernel) rfl)⟩
theorem flX4_40 : FLk RX4 40 RX4 TX4 9 tyX4 3 := ⟨by decide, inX4, tyX4_ok, nmX4, Or.inl (lw_good_in (n := 219) (by decide +kernel) rfl)⟩
theorem flX4_43 : FLk RX4 43 RX4 TX4 9 tyX4 4 := ⟨by decide, inX4, tyX4_ok, nmX4, Or.inl (lw_good_in (n := 222) (by decide +kernel) rfl)⟩
theorem flX4_46 : FLk RX4 46 RX4 TX4 9 tyX4 5 := ⟨by decide, inX4, tyX4_ok, nmX4, Or.inl (lw_good_in (n := 224) (by decide +kernel) rfl)⟩
theorem flX4_49 : FLk RX4 49 RX3 TX3 4 tyX3 0 := ⟨by decide, inX3, tyX3_ok, nmX3, Or.inr ⟨"CashLedger", List.mem_filter.mpr ⟨List.mem_of_getElem? (i := 187) (by decide +kernel), rfl⟩⟩⟩
theorem flX5_9 : FLk RX5 9 RX5 TX5 11 tyX5 0 := ⟨by decide, inX5, tyX5_ok, nmX5, Or.inl (lw_good_in (n := 251) (by decide +kernel) rfl)⟩
theorem flX5_18 : FLk RX5 18 RX5 TX5 11 tyX5 6 := ⟨by decide, inX5, tyX5_ok, nmX5, Or.inl (lw_good_in (n := 257) (by decide +kernel) rfl)⟩
theorem flX5_33 : FLk RX5 33 RX5 TX5 11 tyX5 4 := ⟨by decide, inX5, tyX5_ok, nmX5, Or.inl (lw_good_in (n := 255) (by decide +kernel) rfl)⟩
theorem flX5_37 : FLk RX5 37 RX5 TX5 11 tyX5 3 := ⟨by decide, inX5, tyX5_ok, nmX5, Or.inl (lw_good_in (n := 254) (by decide +kernel) rfl)⟩
theorem flX5_46 : FLk RX5 46 RX5 TX5 11 tyX5 1 := ⟨by decide, inX5, tyX5_ok, nmX5, Or.inl (lw_good_in (n := 252) (by decide +kernel) rfl)⟩
theorem flX5_52 : FLk RX5 52 RX5 TX5 11 tyX5 7 := ⟨by decide, inX5, tyX5_ok, nmX5, Or.inl (lw_good_in (n := 258) (by decide +kernel) rfl)⟩
theorem flX5_56 : FLk RX5 56 RX5 TX5 11 tyX5 8 := ⟨by decide, inX5, tyX5_ok, nmX5, Or.inl (lw_good_in (n := 259) (by decide +kernel) rfl)⟩
theorem flX5_59 : FLk RX5 59 RX5 TX5 11 tyX5 9 := ⟨by decide, inX5, tyX5_ok, nmX5, Or.inl (lw_good_in (n := 260) (by decide +kernel) rfl)⟩
theorem flX5_62 : FLk RX5 62 RX5 TX5 11 tyX5 10 := ⟨by decide, inX5, tyX5_ok, nmX5, Or.inl (lw_good_in (n := 261) (by decide +kernel) rfl)⟩
theorem flX5_65 : FLk RX5 65 RX5 TX5 11 tyX5 2 := ⟨by decide, inX5, tyX5_ok, nmX5, Or.inl (lw_good_in (n := 253) (by decide +kernel) rfl)⟩
theorem flX5_106 : FLk RX5 106 RX4 TX4 9 tyX4 0 := ⟨by decide, inX4, tyX4_ok, nmX4, Or.inr ⟨"CashLedger", List.mem_filter.mpr ⟨List.mem_of_getElem? (i := 214) (by decide +kernel), rfl⟩⟩⟩
theorem flX5_109 : FLk RX5 109 RX4 TX4 9 tyX4 1 := ⟨by decide, inX4, tyX4_ok, nmX4, Or.inr ⟨"CashLedger", List.mem_filter.mpr ⟨List.mem_of_getElem? (i := 216) (by decide +kernel), rfl⟩⟩⟩
theorem flX5_112 : FLk RX5 112 RX4 TX4 9 tyX4 2 := ⟨by decide, inX4, tyX4_ok, nmX4, Or.inr ⟨"CashLedger", List.mem_filter.mpr ⟨List.mem_of_getElem? (i := 218) (by decide +kernel), rfl⟩⟩⟩
theorem flX5_115 : FLk RX5 115 RX4 TX4 9 tyX4 3 := ⟨by decide, inX4, tyX4_ok, nmX4, Or.inr ⟨"CashLedger", List.mem_filter.mpr ⟨List.mem_of_getElem? (i := 220) (by decide +kernel), rfl⟩⟩⟩
theorem flX5_118 : FLk RX5 118 RX4 TX4 9 tyX4 4 := ⟨by decide, inX4, tyX4_ok, nmX4, Or.inr ⟨"CashLedger", List.mem_filter.mpr ⟨List.mem_of_getElem? (i := 223) (by decide +kernel), rfl⟩⟩⟩
theorem flX5_121 : FLk RX5 121 RX4 TX4 9 tyX4 5 := ⟨by decide, inX4, tyX4_ok, nmX4, Or.inr ⟨"CashLedger", List.mem_filter.mpr ⟨List.mem_of_getElem? (i := 225) (by decide +kernel), rfl⟩⟩⟩
theorem flX5_133 : FLk RX5 133 RX4 TX4 9 tyX4 8 := ⟨by decide, inX4, tyX4_ok, nmX4, Or.inr ⟨"CashLedger", List.mem_filter.mpr ⟨List.mem_of_getElem? (i := 231) (by decide +kernel), rfl⟩⟩⟩
theorem flX5_137 : FLk RX5 137 RX3 TX3 4 tyX3 0 := ⟨by decide, inX3, tyX3_ok, nmX3, Or.inr ⟨"CashLedger", List.mem_filter.mpr ⟨List.mem_of_getElem? (i := 189) (by decide +kernel), rfl⟩⟩⟩
theorem flX5_148 : FLk RX5 148 RX5 TX5 11 tyX5 5 := ⟨by decide, inX5, tyX5_ok, nmX5, Or.inl (lw_good_in (n := 256) (by decide +kernel) rfl)⟩
theorem flX6_12 : FLk RX6 12 RX6 TX6 6 tyX6 0 := ⟨by decide, inX6, tyX6_ok, nmX6, Or.inl (lw_good_in (n := 380) (by decide +kernel) rfl)⟩
theorem flX6_21 : FLk RX6 21 RX6 TX6 6 tyX6 1 := ⟨by decide, inX6, tyX6_ok, nmX6, Or.inl (lw_good_in (n := 382) (by decide +kernel) rfl)⟩
theorem flX6_28 : FLk RX6 28 RX6 TX6 6 tyX6 2 := ⟨by decide, inX6, tyX6_ok, nmX6, Or.inl (lw_good_in (n := 384) (by decide +kernel) rfl)⟩
theorem flX6_32 : FLk RX6 32 RX6 TX6 6 tyX6 3 := ⟨by decide, inX6, tyX6_ok, nmX6, Or.inl (lw_good_in (n := 386) (by decide +kernel) rfl)⟩
theorem flX6_36 : FLk RX6 36 RX1 TX1 8 tyX1 0 := ⟨by decide, inX1, tyX1_ok, nmX1, Or.inr ⟨"CashLedger", List.mem_filter.mpr ⟨List.mem_of_getElem? (i := 300) (by decide +kernel), rfl⟩⟩⟩
theorem flX6_40 : FLk RX6 40 RX0 TX0 7 tyX0 0 := ⟨by decide, inX0, tyX0_ok, nmX0, Or.inr ⟨"CashLedger", List.mem_filter.mpr ⟨List.mem_of_getElem? (i := 347) (by decide +kernel), rfl⟩⟩⟩
theorem flX6_41 : FLk RX6 41 RX4 TX4 9 tyX4 8 := ⟨by decide, inX4, tyX4_ok, nmX4, Or.inr ⟨"CashLedger", List.mem_filter.mpr ⟨List.mem_of_getElem? (i := 230) (by decide +kernel), rfl⟩⟩⟩
theorem flX6_48 : FLk RX6 48 RX6 TX6 6 tyX6 4 := ⟨by decide, inX6, tyX6_ok, nmX6, Or.inl (lw_good_in (n := 388) (by decide +kernel) rfl)⟩
theorem flX6_51 : FLk RX6 51 RX4 TX4 9 tyX4 0 := ⟨by decide, inX4, tyX4_ok, nmX4, Or.inr ⟨"CashLedger", List.mem_filter.mpr ⟨List.mem_of_getElem? (i := 213) (by decide +kernel), rfl⟩⟩⟩
theorem flX6_54 : FLk RX6 54 RX6 TX6 6 tyX6 5 := ⟨by decide, inX6, tyX6_ok, nmX6, Or.inl (lw_good_in (n := 390) (by decide +kernel) rfl)⟩
theorem flX6_73 : FLk RX6 73 RX1 TX1 8 tyX1 1 := ⟨by decide, inX1, tyX1_ok, nmX1, Or.inr ⟨"CashLedger", List.mem_filter.mpr ⟨List.mem_of_getElem? (i := 303) (by decide +kernel), rfl⟩⟩⟩
theorem flX6_76 : FLk RX6 76 RX1 TX1 8 tyX1 3 := ⟨by decide, inX1, tyX1_ok, nmX1, Or.inr ⟨"CashLedger", List.mem_filter.mpr ⟨List.mem_of_getElem? (i := 309) (by decide +kernel), rfl⟩⟩⟩
theorem flX6_79 : FLk RX6 79 RX1 TX1 8 tyX1 5 := ⟨by decide, inX1, tyX1_ok, nmX1, Or.inr ⟨"CashLedger", List.mem_filter.mpr ⟨List.mem_of_getElem? (i := 314) (by decide +kernel), rfl⟩⟩⟩
theorem flX6_86 : FLk RX6 86 RX1 TX1 8 tyX1 2 := ⟨by decide, inX1, tyX1_ok, nmX1, Or.inr ⟨"CashLedger", List.mem_filter.mpr ⟨List.mem_of_getElem? (i := 306) (by decide +kernel), rfl⟩⟩⟩
theorem flX6_117 : FLk RX6 117 RX0 TX0 7 tyX0 2 := ⟨by decide, inX0, tyX0_ok, nmX0, Or.inr ⟨"CashLedger", List.mem_filter.mpr ⟨List.mem_of_getElem? (i := 354) (by decide +kernel), rfl⟩⟩⟩
theorem flX6_120 : FLk RX6 120 RX0 TX0 7 tyX0 1 := ⟨by decide, inX0, tyX0_ok, nmX0, Or.inr ⟨"CashLedger", List.mem_filter.mpr ⟨List.mem_of_getElem? (i := 350) (by decide +kernel), rfl⟩⟩⟩
theorem flX6_123 : FLk RX6 123 RX0 TX0 7 tyX0 5 := ⟨by decide, inX0, tyX0_ok, nmX0, Or.inr ⟨"CashLedger", List.mem_filter.mpr ⟨List.mem_of_getElem? (i := 361) (by decide +kernel), rfl⟩⟩⟩
theorem flX6_126 : FLk RX6 126 RX0 TX0 7 tyX0 6 := ⟨by decide, inX0, tyX0_ok, nmX0, Or.inr ⟨"CashLedger", List.mem_filter.mpr ⟨List.mem_of_getElem? (i := 364) (by decide +kernel), rfl⟩⟩⟩
theorem flX7_9 : FLk RX7 9 RX7 TX7 9 tyX7 0 := ⟨by decide, inX7, tyX7_ok, nmX7, Or.inl (lw_good_in (n := 439) (by decide +kernel) rfl)⟩
theorem flX7_16 : FLk RX7 16 RX7 TX7 9 tyX7 2 := ⟨by decide, inX7, tyX7_ok, nmX7, Or.inl (lw_good_in (n := 441) (by decide +kernel) rfl)⟩
theorem flX7_23 : FLk RX7 23 RX7 TX7 9 tyX7 3 := ⟨by decide, inX7, tyX7_ok, nmX7, Or.inl (lw_good_in (n := 442) (by decide +kernel) rfl)⟩
theorem flX7_30 : FLk RX7 30 RX7 TX7 9 tyX7 4 := ⟨by decide, inX7, tyX7_ok, nmX7, Or.inl (lw_good_in (n := 443) (by decide +kernel) rfl)⟩
theorem flX7_34 : FLk RX7 34 RX7 TX7 9 tyX7 5 := ⟨by decide, inX7, tyX7_ok, nmX7, Or.inl (lw_good_in (n := 444) (by decide +kernel) rfl)⟩
theorem flX7_40 : FLk RX7 40 RX7 TX7 9 tyX7 7 := ⟨by decide, inX7, tyX7_ok, nmX7, Or.inl (lw_good_in (n := 446) (by decide +kernel) rfl)⟩
theorem flX7_44 : FLk RX7 44 RX7 TX7 9 tyX7 8 := ⟨by decide, inX7, tyX7_ok, nmX7, Or.inl (lw_good_in (n := 447) (by decide +kernel) rfl)⟩
theorem flX7_62 : FLk RX7 62 RX7 TX7 9 tyX7 1 := ⟨by decide, inX7, tyX7_ok, nmX7, Or.inl (lw_good_in (n := 440) (by decide +kernel) rfl)⟩
theorem flX7_92 : FLk RX7 92 RX7 TX7 9 tyX7 6 := ⟨by decide, inX7, tyX7_ok, nmX7, Or.inl (lw_good_in (n := 445) (by decide +kernel) rfl)⟩
theorem flX7_96 : FLk RX7 96 RX6 TX6 6 tyX6 1 := ⟨by decide, inX6, tyX6_ok, nmX6, Or.inr ⟨"CashLedger", List.mem_filter.mpr ⟨List.mem_of_getElem? (i := 383) (by decide +kernel), rfl⟩⟩⟩
theorem flX7_100 : FLk RX7 100 RX3 TX3 4 tyX3 0 := ⟨by decide, inX3, tyX3_ok, nmX3, Or.inr ⟨"CashLedger", List.mem_filter.mpr ⟨List.mem_of_getElem? (i := 188) (by decide +kernel), rfl⟩⟩⟩
theorem flX7_110 : FLk RX7 110 RX6 TX6 6 tyX6 0 := ⟨by decide, inX6, tyX6_ok, nmX6, Or.inr ⟨"CashLedger", List.mem_filter.mpr ⟨List.mem_of_getElem? (i := 381) (by decide +kernel), rfl⟩⟩⟩
theorem flX7_114 : FLk RX7 114 RX1 TX1 8 tyX1 0 := ⟨by decide, inX1, tyX1_ok, nmX1, Or.inr ⟨"CashLedger", List.mem_filter.mpr ⟨List.mem_of_getElem? (i := 301) (by decide +kernel), rfl⟩⟩⟩
theorem flX7_121 : FLk RX7 121 RX6 TX6 6 tyX6 4 := ⟨by decide, inX6, tyX6_ok, nmX6, Or.inr ⟨"CashLedger", List.mem_filter.mpr ⟨List.mem_of_getElem? (i := 389) (by decide +kernel), rfl⟩⟩⟩
theorem flX7_131 : FLk RX7 131 RX1 TX1 8 tyX1 6 := ⟨by decide, inX1, tyX1_ok, nmX1, Or.inr ⟨"CashLedger", List.mem_filter.mpr ⟨List.mem_of_getElem? (i := 317) (by decide +kernel), rfl⟩⟩⟩
theorem flX7_135 : FLk RX7 135 RX1 TX1 8 tyX1 5 := ⟨by decide, inX1, tyX1_ok, nmX1, Or.inr ⟨"CashLedger", List.mem_filter.mpr ⟨List.mem_of_getElem? (i := 315) (by decide +kernel), rfl⟩⟩⟩
theorem flX7_138 : FLk RX7 138 RX1 TX1 8 tyX1 3 := ⟨by decide, inX1, tyX1_ok, nmX1, Or.inr ⟨"CashLedger", List.mem_filter.mpr ⟨List.mem_of_getElem? (i := 310) (by decide +kernel), rfl⟩⟩⟩
theorem flX7_147 : FLk RX7 147 RX3 TX3 4 tyX3 2 := ⟨by decide, inX3, tyX3_ok, nmX3, Or.inr ⟨"CashLedger", List.mem_filter.mpr ⟨List.mem_of_getElem? (i := 193) (by decide +kernel), rfl⟩⟩⟩
theorem flX7_150 : FLk RX7 150 RX3 TX3 4 tyX3 3 := ⟨by decide, inX3, tyX3_ok, nmX3, Or.inr ⟨"CashLedger", List.mem_filter.mpr ⟨List.mem_of_getElem? (i := 195) (by decide +kernel), rfl⟩⟩⟩
theorem flX7_154 : FLk RX7 154 RX6 TX6 6 tyX6 2 := ⟨by decide, inX6, tyX6_ok, nmX6, Or.inr ⟨"CashLedger", List.mem_filter.mpr ⟨List.mem_of_getElem? (i := 385) (by decide +kernel), rfl⟩⟩⟩
theorem flX7_158 : FLk RX7 158 RX0 TX0 7 tyX0 0 := ⟨by decide, inX0, tyX0_ok, nmX0, Or.inr ⟨"CashLedger", List.mem_filter.mpr ⟨List.mem_of_getElem? (i := 348) (by decide +kernel), rfl⟩⟩⟩
theorem flX7_167 : FLk RX7 167 RX0 TX0 7 tyX0 2 := ⟨by decide, inX0, tyX0_ok, nmX0, Or.inr ⟨"CashLedger", List.mem_filter.mpr ⟨List.mem_of_getElem? (i := 353) (by decide +kernel), rfl⟩⟩⟩
theorem flX7_170 : FLk RX7 170 RX0 TX0 7 tyX0 5 := ⟨by decide, inX0, tyX0_ok, nmX0, Or.inr ⟨"CashLedger", List.mem_filter.mpr ⟨List.mem_of_getElem? (i := 360) (by decide +kernel), rfl⟩⟩⟩
theorem flX7_177 : FLk RX7 177 RX0 TX0 7 tyX0 6 := ⟨by decide, inX0, tyX0_ok, nmX0, Or.inr ⟨"CashLedger", List.mem_filter.mpr ⟨List.mem_of_getElem? (i := 363) (by decide +kernel), rfl⟩⟩⟩
theorem flX7_198 : FLk RX7 198 RX6 TX6 6 tyX6 3 := ⟨by decide, inX6, tyX6_ok, nmX6, Or.inr ⟨"CashLedger", List.mem_filter.mpr ⟨List.mem_of_getElem? (i := 387) (by decide +kernel), rfl⟩⟩⟩
theorem flX7_202 : FLk RX7 202 RX6 TX6 6 tyX6 5 := ⟨by decide, inX6, tyX6_ok, nmX6, Or.inr ⟨"CashLedger", List.mem_filter.mpr ⟨List.mem_of_getElem? (i := 391) (by decide +kernel), rfl⟩⟩⟩
theorem flX7_205 : FLk RX7 205 RX2 TX2 3 tyX2 2 := ⟨by decide, inX2, tyX2_ok, nmX2, Or.inr ⟨"CashLedger", List.mem_filter.mpr ⟨List.mem_of_getElem? (i := 417) (by decide +kernel), rfl⟩⟩⟩
theorem flX7_225 : FLk RX7 225 RX4 TX4 9 tyX4 5 := ⟨by decide, inX4, tyX4_ok, nmX4, Or.inr ⟨"CashLedger", List.mem_filter.mpr ⟨List.mem_of_getElem? (i := 226) (by decide +kernel), rfl⟩⟩⟩
theorem flX7_235 : FLk RX7 235 RX1 TX1 8 tyX1 1 := ⟨by decide, inX1, tyX1_ok, nmX1, Or.inr ⟨"CashLedger", List.mem_filter.mpr ⟨List.mem_of_getElem? (i := 304) (by decide +kernel), rfl⟩⟩⟩
theorem flX7_238 : FLk RX7 238 RX1 TX1 8 tyX1 2 := ⟨by decide, inX1, tyX1_ok, nmX1, Or.inr ⟨"CashLedger", List.mem_filter.mpr ⟨List.mem_of_getElem? (i := 307) (by decide +kernel), rfl⟩⟩⟩
theorem flX7_241 : FLk RX7 241 RX1 TX1 8 tyX1 4 := ⟨by decide, inX1, tyX1_ok, nmX1, Or.inr ⟨"CashLedger", List.mem_filter.mpr ⟨List.mem_of_getElem? (i := 312) (by decide +kernel), rfl⟩⟩⟩
theorem flX7_244 : FLk RX7 244 RX1 TX1 8 tyX1 7 := ⟨by decide, inX1, tyX1_ok, nmX1, Or.inr ⟨"CashLedger", List.mem_filter.mpr ⟨List.mem_of_getElem? (i := 319) (by decide +kernel), rfl⟩⟩⟩
theorem flX7_269 : FLk RX7 269 RX3 TX3 4 tyX3 1 := ⟨by decide, inX3, tyX3_ok, nmX3, Or.inr ⟨"CashLedger", List.mem_filter.mpr ⟨List.mem_of_getElem? (i := 191) (by decide +kernel), rfl⟩⟩⟩
theorem flX7_281 : FLk RX7 281 RX0 TX0 7 tyX0 1 := ⟨by decide, inX0, tyX0_ok, nmX0, Or.inr ⟨"CashLedger", List.mem_filter.mpr ⟨List.mem_of_getElem? (i := 351) (by decide +kernel), rfl⟩⟩⟩
theorem flX7_284 : FLk RX7 284 RX0 TX0 7 tyX0 3 := ⟨by decide, inX0, tyX0_ok, nmX0, Or.inr ⟨"CashLedger", List.mem_filter.mpr ⟨List.mem_of_getElem? (i := 356) (by decide +kernel), rfl⟩⟩⟩
theorem flX7_287 : FLk RX7 287 RX0 TX0 7 tyX0 4 := ⟨by decide, inX0, tyX0_ok, nmX0, Or.inr ⟨"CashLedger", List.mem_filter.mpr ⟨List.mem_of_getElem? (i := 358) (by decide +kernel), rfl⟩⟩⟩
theorem flX7_315 : FLk RX7 315 RX4 TX4 9 tyX4 3 := ⟨by decide, inX4, tyX4_ok, nmX4, Or.inr ⟨"CashLedger", List.mem_filter.mpr ⟨List.mem_of_getElem? (i := 221) (by decide +kernel), rfl⟩⟩⟩
theorem flX8_9 : FLk RX8 9 RX8 TX8 16 tyX8 1 := ⟨by decide, inX8, tyX8_ok, nmX8, Or.inl (lw_good_in (n := 1308) (by decide +kernel) rfl)⟩
theorem flX8_13 : FLk RX8 13 RX8 TX8 16 tyX8 8 := ⟨by decide, inX8, tyX8_ok, nmX8, Or.inl (lw_good_in (n := 1315) (by decide +kernel) rfl)⟩
theorem flX8_16 : FLk RX8 16 RX8 TX8 16 tyX8 9 := ⟨by decide, inX8, tyX8_ok, nmX8, Or.inl (lw_good_in (n := 1316) (by decide +kernel) rfl)⟩
theorem flX8_19 : FLk RX8 19 RX8 TX8 16 tyX8 10 := ⟨by decide, inX8, tyX8_ok, nmX8, Or.inl (lw_good_in (n := 1317) (by decide +kernel) rfl)⟩
theorem flX8_22 : FLk RX8 22 RX8 TX8 16 tyX8 11 := ⟨by decide, inX8, tyX8_ok, nmX8, Or.inl (lw_good_in (n := 1318) (by decide +kernel) rfl)⟩
theorem flX8_25 : FLk RX8 25 RX8 TX8 16 tyX8 15 := ⟨by decide, inX8, tyX8_ok, nmX8, Or.inl (lw_good_in (n := 1322) (by decide +kernel) rfl)⟩
theorem flX8_41 : FLk RX8 41 RX8 TX8 16 tyX8 0 := ⟨by decide, inX8, tyX8_ok, nmX8, Or.inl (lw_good_in (n := 1307) (by decide +kernel) rfl)⟩
theorem flX8_49 : FLk RX8 49 RX8 TX8 16 tyX8 2 := ⟨by decide, inX8, tyX8_ok, nmX8, Or.inl (lw_good_in (n := 1309) (by decide +kernel) rfl)⟩
theorem flX8_60 : FLk RX8 60 RX8 TX8 16 tyX8 3 := ⟨by decide, inX8, tyX8_ok, nmX8, Or.inl (lw_good_in (n := 1310) (by decide +kernel) rfl)⟩
theorem flX8_67 : FLk RX8 67 RX8 TX8 16 tyX8 4 := ⟨by decide, inX8, tyX8_ok, nmX8, Or.inl (lw_good_in (n := 1311) (by decide +kernel) rfl)⟩
theorem flX8_77 : FLk RX8 77 RX8 TX8 16 tyX8 5 := ⟨by decide, inX8, tyX8_ok, nmX8, Or.inl (lw_good_in (n := 1312) (by decide +kernel) rfl)⟩
theorem flX8_80 : FLk RX8 80 RX8 TX8 16 tyX8 7 := ⟨by decide, inX8, tyX8_ok, nmX8, Or.inl (lw_good_in (n := 1314) (by decide +kernel) rfl)⟩
theorem flX8_96 : FLk RX8 96 RX8 TX8 16 tyX8 6 := ⟨by decide, inX8, tyX8_ok, nmX8, Or.inl (lw_good_in (n := 1313) (by decide +kernel) rfl)⟩
theorem flX8_120 : FLk RX8 120 RX8 TX8 16 tyX8 13 := ⟨by decide, inX8, tyX8_ok, nmX8, Or.inl (lw_good_in (n := 1320) (by decide +kernel) rfl)⟩
theorem flX8_167 : FLk RX8 167 RX8 TX8 16 tyX8 12 := ⟨by decide, inX8, tyX8_ok, nmX8, Or.inl (lw_good_in (n := 1319) (by decide +kernel) rfl)⟩
theorem flX8_170 : FLk RX8 170 RX8 TX8 16 tyX8 14 := ⟨by decide, inX8, tyX8_ok, nmX8, Or.inl (lw_good_in (n := 1321) (by decide +kernel) rfl)⟩
