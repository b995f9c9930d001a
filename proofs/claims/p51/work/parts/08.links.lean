/-! 08: rooms and links -/
theorem inX0_0 : u_lay RX0 TX0 0 ∈ lw_good := lw_good_in (n := 300) (by decide +kernel) rfl
theorem inX0_1 : u_lay RX0 TX0 1 ∈ lw_good := lw_good_in (n := 302) (by decide +kernel) rfl
theorem inX0_2 : u_lay RX0 TX0 2 ∈ lw_good := lw_good_in (n := 304) (by decide +kernel) rfl
theorem inX0_3 : u_lay RX0 TX0 3 ∈ lw_good := lw_good_in (n := 306) (by decide +kernel) rfl
theorem inX0_4 : u_lay RX0 TX0 4 ∈ lw_good := lw_good_in (n := 308) (by decide +kernel) rfl
theorem inX0_5 : u_lay RX0 TX0 5 ∈ lw_good := lw_good_in (n := 310) (by decide +kernel) rfl
theorem inX0_6 : u_lay RX0 TX0 6 ∈ lw_good := lw_good_in (n := 312) (by decide +kernel) rfl
theorem inX0 : ∀ w ∈ u_ws RX0 TX0 7, w ∈ lw_good := by
  intro w hw
  obtain ⟨k, hk, rfl⟩ := List.mem_map.mp hw
  have hk := List.mem_range.mp hk
  match k, hk with
  | 0, _ => exact inX0_0
  | 1, _ => exact inX0_1
  | 2, _ => exact inX0_2
  | 3, _ => exact inX0_3
  | 4, _ => exact inX0_4
  | 5, _ => exact inX0_5
  | 6, _ => exact inX0_6
  | k + 7, hk => exact absurd hk (by omega)
theorem inX1_0 : u_lay RX1 TX1 0 ∈ lw_good := lw_good_in (n := 255) (by decide +kernel) rfl
theorem inX1_1 : u_lay RX1 TX1 1 ∈ lw_good := lw_good_in (n := 257) (by decide +kernel) rfl
theorem inX1_2 : u_lay RX1 TX1 2 ∈ lw_good := lw_good_in (n := 259) (by decide +kernel) rfl
theorem inX1_3 : u_lay RX1 TX1 3 ∈ lw_good := lw_good_in (n := 261) (by decide +kernel) rfl
theorem inX1_4 : u_lay RX1 TX1 4 ∈ lw_good := lw_good_in (n := 263) (by decide +kernel) rfl
theorem inX1_5 : u_lay RX1 TX1 5 ∈ lw_good := lw_good_in (n := 265) (by decide +kernel) rfl
theorem inX1_6 : u_lay RX1 TX1 6 ∈ lw_good := lw_good_in (n := 267) (by decide +kernel) rfl
theorem inX1_7 : u_lay RX1 TX1 7 ∈ lw_good := lw_good_in (n := 269) (by decide +kernel) rfl
theorem inX1 : ∀ w ∈ u_ws RX1 TX1 8, w ∈ lw_good := by
  intro w hw
  obtain ⟨k, hk, rfl⟩ := List.mem_map.mp hw
  have hk := List.mem_range.mp hk
  match k, hk with
  | 0, _ => exact inX1_0
  | 1, _ => exact inX1_1
  | 2, _ => exact inX1_2
  | 3, _ => exact inX1_3
  | 4, _ => exact inX1_4
  | 5, _ => exact inX1_5
  | 6, _ => exact inX1_6
  | 7, _ => exact inX1_7
  | k + 8, hk => exact absurd hk (by omega)
theorem inX2_0 : u_lay RX2 TX2 0 ∈ lw_good := lw_good_in (n := 353) (by decide +kernel) rfl
theorem inX2_1 : u_lay RX2 TX2 1 ∈ lw_good := lw_good_in (n := 355) (by decide +kernel) rfl
theorem inX2_2 : u_lay RX2 TX2 2 ∈ lw_good := lw_good_in (n := 357) (by decide +kernel) rfl
theorem inX2 : ∀ w ∈ u_ws RX2 TX2 3, w ∈ lw_good := by
  intro w hw
  obtain ⟨k, hk, rfl⟩ := List.mem_map.mp hw
  have hk := List.mem_range.mp hk
  match k, hk with
  | 0, _ => exact inX2_0
  | 1, _ => exact inX2_1
  | 2, _ => exact inX2_2
  | k + 3, hk => exact absurd hk (by omega)
theorem inX3_0 : u_lay RX3 TX3 0 ∈ lw_good := lw_good_in (n := 133) (by decide +kernel) rfl
theorem inX3_1 : u_lay RX3 TX3 1 ∈ lw_good := lw_good_in (n := 135) (by decide +kernel) rfl
theorem inX3_2 : u_lay RX3 TX3 2 ∈ lw_good := lw_good_in (n := 137) (by decide +kernel) rfl
theorem inX3_3 : u_lay RX3 TX3 3 ∈ lw_good := lw_good_in (n := 139) (by decide +kernel) rfl
theorem inX3 : ∀ w ∈ u_ws RX3 TX3 4, w ∈ lw_good := by
  intro w hw
  obtain ⟨k, hk, rfl⟩ := List.mem_map.mp hw
  have hk := List.mem_range.mp hk
  match k, hk with
  | 0, _ => exact inX3_0
  | 1, _ => exact inX3_1
  | 2, _ => exact inX3_2
  | 3, _ => exact inX3_3
  | k + 4, hk => exact absurd hk (by omega)
theorem inX4_0 : u_lay RX4 TX4 0 ∈ lw_good := lw_good_in (n := 168) (by decide +kernel) rfl
theorem inX4_1 : u_lay RX4 TX4 1 ∈ lw_good := lw_good_in (n := 170) (by decide +kernel) rfl
theorem inX4_2 : u_lay RX4 TX4 2 ∈ lw_good := lw_good_in (n := 172) (by decide +kernel) rfl
theorem inX4_3 : u_lay RX4 TX4 3 ∈ lw_good := lw_good_in (n := 174) (by decide +kernel) rfl
theorem inX4_4 : u_lay RX4 TX4 4 ∈ lw_good := lw_good_in (n := 176) (by decide +kernel) rfl
theorem inX4_5 : u_lay RX4 TX4 5 ∈ lw_good := lw_good_in (n := 178) (by decide +kernel) rfl
theorem inX4_6 : u_lay RX4 TX4 6 ∈ lw_good := lw_good_in (n := 180) (by decide +kernel) rfl
theorem inX4_7 : u_lay RX4 TX4 7 ∈ lw_good := lw_good_in (n := 182) (by decide +kernel) rfl
theorem inX4_8 : u_lay RX4 TX4 8 ∈ lw_good := lw_good_in (n := 184) (by decide +kernel) rfl
theorem inX4 : ∀ w ∈ u_ws RX4 TX4 9, w ∈ lw_good := by
  intro w hw
  obtain ⟨k, hk, rfl⟩ := List.mem_map.mp hw
  have hk := List.mem_range.mp hk
  match k, hk with
  | 0, _ => exact inX4_0
  | 1, _ => exact inX4_1
  | 2, _ => exact inX4_2
  | 3, _ => exact inX4_3
  | 4, _ => exact inX4_4
  | 5, _ => exact inX4_5
  | 6, _ => exact inX4_6
  | 7, _ => exact inX4_7
  | 8, _ => exact inX4_8
  | k + 9, hk => exact absurd hk (by omega)
theorem inX5_0 : u_lay RX5 TX5 0 ∈ lw_good := lw_good_in (n := 198) (by decide +kernel) rfl
theorem inX5_1 : u_lay RX5 TX5 1 ∈ lw_good := lw_good_in (n := 200) (by decide +kernel) rfl
theorem inX5_2 : u_lay RX5 TX5 2 ∈ lw_good := lw_good_in (n := 202) (by decide +kernel) rfl
theorem inX5_3 : u_lay RX5 TX5 3 ∈ lw_good := lw_good_in (n := 204) (by decide +kernel) rfl
theorem inX5_4 : u_lay RX5 TX5 4 ∈ lw_good := lw_good_in (n := 206) (by decide +kernel) rfl
theorem inX5_5 : u_lay RX5 TX5 5 ∈ lw_good := lw_good_in (n := 208) (by decide +kernel) rfl
theorem inX5_6 : u_lay RX5 TX5 6 ∈ lw_good := lw_good_in (n := 210) (by decide +kernel) rfl
theorem inX5_7 : u_lay RX5 TX5 7 ∈ lw_good := lw_good_in (n := 212) (by decide +kernel) rfl
theorem inX5_8 : u_lay RX5 TX5 8 ∈ lw_good := lw_good_in (n := 214) (by decide +kernel) rfl
theorem inX5_9 : u_lay RX5 TX5 9 ∈ lw_good := lw_good_in (n := 216) (by decide +kernel) rfl
theorem inX5_10 : u_lay RX5 TX5 10 ∈ lw_good := lw_good_in (n := 218) (by decide +kernel) rfl
theorem inX5 : ∀ w ∈ u_ws RX5 TX5 11, w ∈ lw_good := by
  intro w hw
  obtain ⟨k, hk, rfl⟩ := List.mem_map.mp hw
  have hk := List.mem_range.mp hk
  match k, hk with
  | 0, _ => exact inX5_0
  | 1, _ => exact inX5_1
  | 2, _ => exact inX5_2
  | 3, _ => exact inX5_3
  | 4, _ => exact inX5_4
  | 5, _ => exact inX5_5
  | 6, _ => exact inX5_6
  | 7, _ => exact inX5_7
  | 8, _ => exact inX5_8
  | 9, _ => exact inX5_9
  | 10, _ => exact inX5_10
  | k + 11, hk => exact absurd hk (by omega)
theorem inX6_0 : u_lay RX6 TX6 0 ∈ lw_good := lw_good_in (n := 327) (by decide +kernel) rfl
theorem inX6_1 : u_lay RX6 TX6 1 ∈ lw_good := lw_good_in (n := 329) (by decide +kernel) rfl
theorem inX6_2 : u_lay RX6 TX6 2 ∈ lw_good := lw_good_in (n := 331) (by decide +kernel) rfl
theorem inX6_3 : u_lay RX6 TX6 3 ∈ lw_good := lw_good_in (n := 333) (by decide +kernel) rfl
theorem inX6_4 : u_lay RX6 TX6 4 ∈ lw_good := lw_good_in (n := 335) (by decide +kernel) rfl
theorem inX6_5 : u_lay RX6 TX6 5 ∈ lw_good := lw_good_in (n := 337) (by decide +kernel) rfl
theorem inX6 : ∀ w ∈ u_ws RX6 TX6 6, w ∈ lw_good := by
  intro w hw
  obtain ⟨k, hk, rfl⟩ := List.mem_map.mp hw
  have hk := List.mem_range.mp hk
  match k, hk with
  | 0, _ => exact inX6_0
  | 1, _ => exact inX6_1
  | 2, _ => exact inX6_2
  | 3, _ => exact inX6_3
  | 4, _ => exact inX6_4
  | 5, _ => exact inX6_5
  | k + 6, hk => exact absurd hk (by omega)
theorem inX7_0 : u_lay RX7 TX7 0 ∈ lw_good := lw_good_in (n := 383) (by decide +kernel) rfl
theorem inX7_1 : u_lay RX7 TX7 1 ∈ lw_good := lw_good_in (n := 385) (by decide +kernel) rfl
theorem inX7_2 : u_lay RX7 TX7 2 ∈ lw_good := lw_good_in (n := 387) (by decide +kernel) rfl
theorem inX7_3 : u_lay RX7 TX7 3 ∈ lw_good := lw_good_in (n := 389) (by decide +kernel) rfl
theorem inX7_4 : u_lay RX7 TX7 4 ∈ lw_good := lw_good_in (n := 391) (by decide +kernel) rfl
theorem inX7_5 : u_lay RX7 TX7 5 ∈ lw_good := lw_good_in (n := 393) (by decide +kernel) rfl
theorem inX7_6 : u_lay RX7 TX7 6 ∈ lw_good := lw_good_in (n := 395) (by decide +kernel) rfl
theorem inX7_7 : u_lay RX7 TX7 7 ∈ lw_good := lw_good_in (n := 397) (by decide +kernel) rfl
theorem inX7_8 : u_lay RX7 TX7 8 ∈ lw_good := lw_good_in (n := 399) (by decide +kernel) rfl
theorem inX7 : ∀ w ∈ u_ws RX7 TX7 9, w ∈ lw_good := by
  intro w hw
  obtain ⟨k, hk, rfl⟩ := List.mem_map.mp hw
  have hk := List.mem_range.mp hk
  match k, hk with
  | 0, _ => exact inX7_0
  | 1, _ => exact inX7_1
  | 2, _ => exact inX7_2
  | 3, _ => exact inX7_3
  | 4, _ => exact inX7_4
  | 5, _ => exact inX7_5
  | 6, _ => exact inX7_6
  | 7, _ => exact inX7_7
  | 8, _ => exact inX7_8
  | k + 9, hk => exact absurd hk (by omega)
theorem inX8_0 : u_lay RX8 TX8 0 ∈ lw_good := lw_good_in (n := 751) (by decide +kernel) rfl
theorem inX8_1 : u_lay RX8 TX8 1 ∈ lw_good := lw_good_in (n := 753) (by decide +kernel) rfl
theorem inX8_2 : u_lay RX8 TX8 2 ∈ lw_good := lw_good_in (n := 755) (by decide +kernel) rfl
theorem inX8_3 : u_lay RX8 TX8 3 ∈ lw_good := lw_good_in (n := 757) (by decide +kernel) rfl
theorem inX8_4 : u_lay RX8 TX8 4 ∈ lw_good := lw_good_in (n := 759) (by decide +kernel) rfl
theorem inX8_5 : u_lay RX8 TX8 5 ∈ lw_good := lw_good_in (n := 761) (by decide +kernel) rfl
theorem inX8_6 : u_lay RX8 TX8 6 ∈ lw_good := lw_good_in (n := 763) (by decide +kernel) rfl
theorem inX8_7 : u_lay RX8 TX8 7 ∈ lw_good := lw_good_in (n := 765) (by decide +kernel) rfl
theorem inX8_8 : u_lay RX8 TX8 8 ∈ lw_good := lw_good_in (n := 767) (by decide +kernel) rfl
theorem inX8_9 : u_lay RX8 TX8 9 ∈ lw_good := lw_good_in (n := 769) (by decide +kernel) rfl
theorem inX8 : ∀ w ∈ u_ws RX8 TX8 10, w ∈ lw_good := by
  intro w hw
  obtain ⟨k, hk, rfl⟩ := List.mem_map.mp hw
  have hk := List.mem_range.mp hk
  match k, hk with
  | 0, _ => exact inX8_0
  | 1, _ => exact inX8_1
  | 2, _ => exact inX8_2
  | 3, _ => exact inX8_3
  | 4, _ => exact inX8_4
  | 5, _ => exact inX8_5
  | 6, _ => exact inX8_6
  | 7, _ => exact inX8_7
  | 8, _ => exact inX8_8
  | 9, _ => exact inX8_9
  | k + 10, hk => exact absurd hk (by omega)
theorem inJ6_0 : u_lay RJ6 TJ6 0 ∈ lw_good := lw_good_in (n := 733) (by decide +kernel) rfl
theorem inJ6 : ∀ w ∈ u_ws RJ6 TJ6 1, w ∈ lw_good := by
  intro w hw
  obtain ⟨k, hk, rfl⟩ := List.mem_map.mp hw
  have hk := List.mem_range.mp hk
  match k, hk with
  | 0, _ => exact inJ6_0
  | k + 1, hk => exact absurd hk (by omega)
theorem inJ0_0 : u_lay RJ0 TJ0 0 ∈ lw_good := lw_good_in (n := 1063) (by decide +kernel) rfl
theorem inJ0_1 : u_lay RJ0 TJ0 1 ∈ lw_good := lw_good_in (n := 1065) (by decide +kernel) rfl
theorem inJ0_2 : u_lay RJ0 TJ0 2 ∈ lw_good := lw_good_in (n := 1067) (by decide +kernel) rfl
theorem inJ0_3 : u_lay RJ0 TJ0 3 ∈ lw_good := lw_good_in (n := 1069) (by decide +kernel) rfl
theorem inJ0 : ∀ w ∈ u_ws RJ0 TJ0 4, w ∈ lw_good := by
  intro w hw
  obtain ⟨k, hk, rfl⟩ := List.mem_map.mp hw
  have hk := List.mem_range.mp hk
  match k, hk with
  | 0, _ => exact inJ0_0
  | 1, _ => exact inJ0_1
  | 2, _ => exact inJ0_2
  | 3, _ => exact inJ0_3
  | k + 4, hk => exact absurd hk (by omega)
theorem inJ4_0 : u_lay RJ4 TJ4 0 ∈ lw_good := lw_good_in (n := 823) (by decide +kernel) rfl
theorem inJ4_1 : u_lay RJ4 TJ4 1 ∈ lw_good := lw_good_in (n := 825) (by decide +kernel) rfl
theorem inJ4_2 : u_lay RJ4 TJ4 2 ∈ lw_good := lw_good_in (n := 827) (by decide +kernel) rfl
theorem inJ4_3 : u_lay RJ4 TJ4 3 ∈ lw_good := lw_good_in (n := 829) (by decide +kernel) rfl
theorem inJ4 : ∀ w ∈ u_ws RJ4 TJ4 4, w ∈ lw_good := by
  intro w hw
  obtain ⟨k, hk, rfl⟩ := List.mem_map.mp hw
  have hk := List.mem_range.mp hk
  match k, hk with
  | 0, _ => exact inJ4_0
  | 1, _ => exact inJ4_1
  | 2, _ => exact inJ4_2
  | 3, _ => exact inJ4_3
  | k + 4, hk => exact absurd hk (by omega)
theorem inJx35411_0 : u_lay RJx35411 TJx35411 0 ∈ lw_good := lw_good_in (n := 609) (by decide +kernel) rfl
theorem inJx35411_1 : u_lay RJx35411 TJx35411 1 ∈ lw_good := lw_good_in (n := 611) (by decide +kernel) rfl
theorem inJx35411_2 : u_lay RJx35411 TJx35411 2 ∈ lw_good := lw_good_in (n := 613) (by decide +kernel) rfl
theorem inJx35411_3 : u_lay RJx35411 TJx35411 3 ∈ lw_good := lw_good_in (n := 615) (by decide +kernel) rfl
theorem inJx35411 : ∀ w ∈ u_ws RJx35411 TJx35411 4, w ∈ lw_good := by
  intro w hw
  obtain ⟨k, hk, rfl⟩ := List.mem_map.mp hw
  have hk := List.mem_range.mp hk
  match k, hk with
  | 0, _ => exact inJx35411_0
  | 1, _ => exact inJx35411_1
  | 2, _ => exact inJx35411_2
  | 3, _ => exact inJx35411_3
  | k + 4, hk => exact absurd hk (by omega)
theorem inJx4a65c_0 : u_lay RJx4a65c TJx4a65c 0 ∈ lw_good := lw_good_in (n := 592) (by decide +kernel) rfl
theorem inJx4a65c_1 : u_lay RJx4a65c TJx4a65c 1 ∈ lw_good := lw_good_in (n := 588) (by decide +kernel) rfl
theorem inJx4a65c_2 : u_lay RJx4a65c TJx4a65c 2 ∈ lw_good := lw_good_in (n := 590) (by decide +kernel) rfl
theorem inJx4a65c : ∀ w ∈ u_ws RJx4a65c TJx4a65c 3, w ∈ lw_good := by
  intro w hw
  obtain ⟨k, hk, rfl⟩ := List.mem_map.mp hw
  have hk := List.mem_range.mp hk
  match k, hk with
  | 0, _ => exact inJx4a65c_0
  | 1, _ => exact inJx4a65c_1
  | 2, _ => exact inJx4a65c_2
  | k + 3, hk => exact absurd hk (by omega)
abbrev rmX0_init : Room := { frames := 1, cells := 6, slots := 72, locals := 20 }
theorem lcX0_init : LkC yX0_init cX0_init 1 none 0 := ⟨lw_good_in (n := 279) (by decide +kernel) rfl, lw_good_in (n := 69) (by decide +kernel) rfl, ⟨by decide +kernel, by decide +kernel⟩, by decide +kernel⟩
theorem liX0_init : Cond.instanceMethod yX0_init ∈ lw_good := lw_good_in (n := 278) (by decide +kernel) rfl
abbrev rmX0_add : Room := { frames := 0, cells := 0, slots := 0, locals := 0 }
theorem lcX0_add : LkC yX0_add cX0_add 5 (some .int) 4 := ⟨lw_good_in (n := 1552) (by decide +kernel) rfl, lw_good_in (n := 69) (by decide +kernel) rfl, ⟨by decide +kernel, by decide +kernel⟩, by decide +kernel⟩
theorem lsX0_add : LkSel yX0_add := ⟨lw_good_in (n := 1551) (by decide +kernel) rfl, lw_good_in (n := 56) (by decide +kernel) rfl⟩
abbrev rmX0_copyFrom : Room := { frames := 0, cells := 0, slots := 0, locals := 0 }
theorem lcX0_copyFrom : LkC yX0_copyFrom cX0_copyFrom 3 none 1 := ⟨lw_good_in (n := 557) (by decide +kernel) rfl, lw_good_in (n := 69) (by decide +kernel) rfl, ⟨by decide +kernel, by decide +kernel⟩, by decide +kernel⟩
theorem lsX0_copyFrom : LkSel yX0_copyFrom := ⟨lw_good_in (n := 556) (by decide +kernel) rfl, lw_good_in (n := 22) (by decide +kernel) rfl⟩
abbrev rmX0_soldOnes : Room := { frames := 0, cells := 0, slots := 0, locals := 0 }
theorem lcX0_soldOnes : LkC yX0_soldOnes cX0_soldOnes 3 (some .int) 0 := ⟨lw_good_in (n := 1183) (by decide +kernel) rfl, lw_good_in (n := 69) (by decide +kernel) rfl, ⟨by decide +kernel, by decide +kernel⟩, by decide +kernel⟩
theorem lsX0_soldOnes : LkSel yX0_soldOnes := ⟨lw_good_in (n := 1182) (by decide +kernel) rfl, lw_good_in (n := 31) (by decide +kernel) rfl⟩
abbrev rmX0_isSoldBy : Room := { frames := 0, cells := 0, slots := 0, locals := 0 }
theorem lcX0_isSoldBy : LkC yX0_isSoldBy cX0_isSoldBy 3 (some .boolean) 2 := ⟨lw_good_in (n := 1304) (by decide +kernel) rfl, lw_good_in (n := 69) (by decide +kernel) rfl, ⟨by decide +kernel, by decide +kernel⟩, by decide +kernel⟩
theorem lsX0_isSoldBy : LkSel yX0_isSoldBy := ⟨lw_good_in (n := 1303) (by decide +kernel) rfl, lw_good_in (n := 48) (by decide +kernel) rfl⟩
abbrev rmX0_writtenUpTo : Room := { frames := 1, cells := 0, slots := 0, locals := 22 }
theorem lcX0_writtenUpTo : LkC yX0_writtenUpTo cX0_writtenUpTo 4 (some .int) 2 := ⟨lw_good_in (n := 1300) (by decide +kernel) rfl, lw_good_in (n := 69) (by decide +kernel) rfl, ⟨by decide +kernel, by decide +kernel⟩, by decide +kernel⟩
theorem lsX0_writtenUpTo : LkSel yX0_writtenUpTo := ⟨lw_good_in (n := 1299) (by decide +kernel) rfl, lw_good_in (n := 47) (by decide +kernel) rfl⟩
abbrev rmX0_valueAt : Room := { frames := 2, cells := 0, slots := 0, locals := 45 }
theorem lcX0_valueAt : LkC yX0_valueAt cX0_valueAt 4 (some .int) 2 := ⟨lw_good_in (n := 1563) (by decide +kernel) rfl, lw_good_in (n := 69) (by decide +kernel) rfl, ⟨by decide +kernel, by decide +kernel⟩, by decide +kernel⟩
theorem lsX0_valueAt : LkSel yX0_valueAt := ⟨lw_good_in (n := 1562) (by decide +kernel) rfl, lw_good_in (n := 57) (by decide +kernel) rfl⟩
abbrev rmX0_allWrittenUpTo : Room := { frames := 2, cells := 0, slots := 0, locals := 45 }
theorem lcX0_allWrittenUpTo : LkC yX0_allWrittenUpTo cX0_allWrittenUpTo 6 (some .long) 1 := ⟨lw_good_in (n := 1288) (by decide +kernel) rfl, lw_good_in (n := 69) (by decide +kernel) rfl, ⟨by decide +kernel, by decide +kernel⟩, by decide +kernel⟩
theorem lsX0_allWrittenUpTo : LkSel yX0_allWrittenUpTo := ⟨lw_good_in (n := 1287) (by decide +kernel) rfl, lw_good_in (n := 44) (by decide +kernel) rfl⟩
abbrev rmX0_poolAt : Room := { frames := 0, cells := 0, slots := 0, locals := 0 }
theorem lcX0_poolAt : LkC yX0_poolAt cX0_poolAt 4 (some .int) 1 := ⟨lw_good_in (n := 1296) (by decide +kernel) rfl, lw_good_in (n := 69) (by decide +kernel) rfl, ⟨by decide +kernel, by decide +kernel⟩, by decide +kernel⟩
theorem lsX0_poolAt : LkSel yX0_poolAt := ⟨lw_good_in (n := 1295) (by decide +kernel) rfl, lw_good_in (n := 46) (by decide +kernel) rfl⟩
abbrev rmX0_poolWrittenUpTo : Room := { frames := 1, cells := 0, slots := 0, locals := 23 }
theorem lcX0_poolWrittenUpTo : LkC yX0_poolWrittenUpTo cX0_poolWrittenUpTo 2 (some .int) 1 := ⟨lw_good_in (n := 1292) (by decide +kernel) rfl, lw_good_in (n := 69) (by decide +kernel) rfl, ⟨by decide +kernel, by decide +kernel⟩, by decide +kernel⟩
theorem lsX0_poolWrittenUpTo : LkSel yX0_poolWrittenUpTo := ⟨lw_good_in (n := 1291) (by decide +kernel) rfl, lw_good_in (n := 45) (by decide +kernel) rfl⟩
abbrev rmX0_soldFor : Room := { frames := 1, cells := 0, slots := 0, locals := 22 }
theorem lcX0_soldFor : LkC yX0_soldFor cX0_soldFor 6 (some .long) 2 := ⟨lw_good_in (n := 1262) (by decide +kernel) rfl, lw_good_in (n := 69) (by decide +kernel) rfl, ⟨by decide +kernel, by decide +kernel⟩, by decide +kernel⟩
theorem lsX0_soldFor : LkSel yX0_soldFor := ⟨lw_good_in (n := 1261) (by decide +kernel) rfl, lw_good_in (n := 38) (by decide +kernel) rfl⟩
abbrev rmX1_init : Room := { frames := 1, cells := 7, slots := 420, locals := 20 }
theorem lcX1_init : LkC yX1_init cX1_init 1 none 0 := ⟨lw_good_in (n := 233) (by decide +kernel) rfl, lw_good_in (n := 68) (by decide +kernel) rfl, ⟨by decide +kernel, by decide +kernel⟩, by decide +kernel⟩
theorem liX1_init : Cond.instanceMethod yX1_init ∈ lw_good := lw_good_in (n := 232) (by decide +kernel) rfl
abbrev rmX1_add : Room := { frames := 0, cells := 0, slots := 0, locals := 0 }
theorem lcX1_add : LkC yX1_add cX1_add 7 (some .int) 6 := ⟨lw_good_in (n := 1513) (by decide +kernel) rfl, lw_good_in (n := 68) (by decide +kernel) rfl, ⟨by decide +kernel, by decide +kernel⟩, by decide +kernel⟩
theorem lsX1_add : LkSel yX1_add := ⟨lw_good_in (n := 1512) (by decide +kernel) rfl, lw_good_in (n := 54) (by decide +kernel) rfl⟩
abbrev rmX1_copyFrom : Room := { frames := 0, cells := 0, slots := 0, locals := 0 }
theorem lcX1_copyFrom : LkC yX1_copyFrom cX1_copyFrom 3 none 1 := ⟨lw_good_in (n := 553) (by decide +kernel) rfl, lw_good_in (n := 68) (by decide +kernel) rfl, ⟨by decide +kernel, by decide +kernel⟩, by decide +kernel⟩
theorem lsX1_copyFrom : LkSel yX1_copyFrom := ⟨lw_good_in (n := 552) (by decide +kernel) rfl, lw_good_in (n := 21) (by decide +kernel) rfl⟩
abbrev rmX1_isOpen : Room := { frames := 0, cells := 0, slots := 0, locals := 0 }
theorem lcX1_isOpen : LkC yX1_isOpen cX1_isOpen 2 (some .boolean) 1 := ⟨lw_good_in (n := 1171) (by decide +kernel) rfl, lw_good_in (n := 68) (by decide +kernel) rfl, ⟨by decide +kernel, by decide +kernel⟩, by decide +kernel⟩
theorem lsX1_isOpen : LkSel yX1_isOpen := ⟨lw_good_in (n := 1170) (by decide +kernel) rfl, lw_good_in (n := 28) (by decide +kernel) rfl⟩
abbrev rmX1_counts : Room := { frames := 0, cells := 0, slots := 0, locals := 0 }
theorem lcX1_counts : LkC yX1_counts cX1_counts 2 (some .boolean) 1 := ⟨lw_good_in (n := 1229) (by decide +kernel) rfl, lw_good_in (n := 68) (by decide +kernel) rfl, ⟨by decide +kernel, by decide +kernel⟩, by decide +kernel⟩
theorem lsX1_counts : LkSel yX1_counts := ⟨lw_good_in (n := 1228) (by decide +kernel) rfl, lw_good_in (n := 33) (by decide +kernel) rfl⟩
abbrev rmX1_countsWithin : Room := { frames := 1, cells := 0, slots := 0, locals := 21 }
theorem lcX1_countsWithin : LkC yX1_countsWithin cX1_countsWithin 4 (some .boolean) 3 := ⟨lw_good_in (n := 1257) (by decide +kernel) rfl, lw_good_in (n := 68) (by decide +kernel) rfl, ⟨by decide +kernel, by decide +kernel⟩, by decide +kernel⟩
theorem lsX1_countsWithin : LkSel yX1_countsWithin := ⟨lw_good_in (n := 1256) (by decide +kernel) rfl, lw_good_in (n := 37) (by decide +kernel) rfl⟩
abbrev rmX1_openOnes : Room := { frames := 1, cells := 0, slots := 0, locals := 21 }
theorem lcX1_openOnes : LkC yX1_openOnes cX1_openOnes 3 (some .int) 0 := ⟨lw_good_in (n := 1167) (by decide +kernel) rfl, lw_good_in (n := 68) (by decide +kernel) rfl, ⟨by decide +kernel, by decide +kernel⟩, by decide +kernel⟩
theorem lsX1_openOnes : LkSel yX1_openOnes := ⟨lw_good_in (n := 1166) (by decide +kernel) rfl, lw_good_in (n := 27) (by decide +kernel) rfl⟩
abbrev rmX1_cancelledOnes : Room := { frames := 0, cells := 0, slots := 0, locals := 0 }
theorem lcX1_cancelledOnes : LkC yX1_cancelledOnes cX1_cancelledOnes 3 (some .int) 0 := ⟨lw_good_in (n := 1175) (by decide +kernel) rfl, lw_good_in (n := 68) (by decide +kernel) rfl, ⟨by decide +kernel, by decide +kernel⟩, by decide +kernel⟩
theorem lsX1_cancelledOnes : LkSel yX1_cancelledOnes := ⟨lw_good_in (n := 1174) (by decide +kernel) rfl, lw_good_in (n := 29) (by decide +kernel) rfl⟩
abbrev rmX1_lateOnes : Room := { frames := 0, cells := 0, slots := 0, locals := 0 }
theorem lcX1_lateOnes : LkC yX1_lateOnes cX1_lateOnes 3 (some .int) 0 := ⟨lw_good_in (n := 1179) (by decide +kernel) rfl, lw_good_in (n := 68) (by decide +kernel) rfl, ⟨by decide +kernel, by decide +kernel⟩, by decide +kernel⟩
theorem lsX1_lateOnes : LkSel yX1_lateOnes := ⟨lw_good_in (n := 1178) (by decide +kernel) rfl, lw_good_in (n := 30) (by decide +kernel) rfl⟩
abbrev rmX1_sumPaid : Room := { frames := 2, cells := 0, slots := 0, locals := 44 }
theorem lcX1_sumPaid : LkC yX1_sumPaid cX1_sumPaid 7 (some .long) 3 := ⟨lw_good_in (n := 1253) (by decide +kernel) rfl, lw_good_in (n := 68) (by decide +kernel) rfl, ⟨by decide +kernel, by decide +kernel⟩, by decide +kernel⟩
theorem lsX1_sumPaid : LkSel yX1_sumPaid := ⟨lw_good_in (n := 1252) (by decide +kernel) rfl, lw_good_in (n := 36) (by decide +kernel) rfl⟩
abbrev rmX2_init : Room := { frames := 3, cells := 169, slots := 4320, locals := 60 }
theorem lcX2_init : LkC yX2_init cX2_init 2 none 0 := ⟨lw_good_in (n := 344) (by decide +kernel) rfl, lw_good_in (n := 70) (by decide +kernel) rfl, ⟨by decide +kernel, by decide +kernel⟩, by decide +kernel⟩
theorem liX2_init : Cond.instanceMethod yX2_init ∈ lw_good := lw_good_in (n := 343) (by decide +kernel) rfl
abbrev rmX2_clear : Room := { frames := 0, cells := 0, slots := 0, locals := 0 }
theorem lcX2_clear : LkC yX2_clear cX2_clear 1 none 0 := ⟨lw_good_in (n := 1364) (by decide +kernel) rfl, lw_good_in (n := 70) (by decide +kernel) rfl, ⟨by decide +kernel, by decide +kernel⟩, by decide +kernel⟩
theorem lsX2_clear : LkSel yX2_clear := ⟨lw_good_in (n := 1363) (by decide +kernel) rfl, lw_good_in (n := 50) (by decide +kernel) rfl⟩
abbrev rmX2_remember : Room := { frames := 2, cells := 0, slots := 0, locals := 44 }
theorem lcX2_remember : LkC yX2_remember cX2_remember 3 none 1 := ⟨lw_good_in (n := 1424) (by decide +kernel) rfl, lw_good_in (n := 70) (by decide +kernel) rfl, ⟨by decide +kernel, by decide +kernel⟩, by decide +kernel⟩
theorem lsX2_remember : LkSel yX2_remember := ⟨lw_good_in (n := 1423) (by decide +kernel) rfl, lw_good_in (n := 52) (by decide +kernel) rfl⟩
abbrev rmX2_takeBack : Room := { frames := 2, cells := 0, slots := 0, locals := 44 }
theorem lcX2_takeBack : LkC yX2_takeBack cX2_takeBack 3 none 1 := ⟨lw_good_in (n := 1438) (by decide +kernel) rfl, lw_good_in (n := 70) (by decide +kernel) rfl, ⟨by decide +kernel, by decide +kernel⟩, by decide +kernel⟩
theorem lsX2_takeBack : LkSel yX2_takeBack := ⟨lw_good_in (n := 1437) (by decide +kernel) rfl, lw_good_in (n := 53) (by decide +kernel) rfl⟩
abbrev rmX3_init : Room := { frames := 1, cells := 3, slots := 18, locals := 20 }
theorem lcX3_init : LkC yX3_init cX3_init 1 none 0 := ⟨lw_good_in (n := 121) (by decide +kernel) rfl, lw_good_in (n := 66) (by decide +kernel) rfl, ⟨by decide +kernel, by decide +kernel⟩, by decide +kernel⟩
theorem liX3_init : Cond.instanceMethod yX3_init ∈ lw_good := lw_good_in (n := 120) (by decide +kernel) rfl
abbrev rmX3_add : Room := { frames := 0, cells := 0, slots := 0, locals := 0 }
theorem lcX3_add : LkC yX3_add cX3_add 4 (some .int) 3 := ⟨lw_good_in (n := 536) (by decide +kernel) rfl, lw_good_in (n := 66) (by decide +kernel) rfl, ⟨by decide +kernel, by decide +kernel⟩, by decide +kernel⟩
theorem lsX3_add : LkSel yX3_add := ⟨lw_good_in (n := 535) (by decide +kernel) rfl, lw_good_in (n := 19) (by decide +kernel) rfl⟩
abbrev rmX3_copyFrom : Room := { frames := 0, cells := 0, slots := 0, locals := 0 }
theorem lcX3_copyFrom : LkC yX3_copyFrom cX3_copyFrom 3 none 1 := ⟨lw_good_in (n := 373) (by decide +kernel) rfl, lw_good_in (n := 66) (by decide +kernel) rfl, ⟨by decide +kernel, by decide +kernel⟩, by decide +kernel⟩
theorem lsX3_copyFrom : LkSel yX3_copyFrom := ⟨lw_good_in (n := 372) (by decide +kernel) rfl, lw_good_in (n := 3) (by decide +kernel) rfl⟩
abbrev rmX3_daysUsed : Room := { frames := 0, cells := 0, slots := 0, locals := 0 }
theorem lcX3_daysUsed : LkC yX3_daysUsed cX3_daysUsed 6 (some .int) 3 := ⟨lw_good_in (n := 1284) (by decide +kernel) rfl, lw_good_in (n := 66) (by decide +kernel) rfl, ⟨by decide +kernel, by decide +kernel⟩, by decide +kernel⟩
theorem lsX3_daysUsed : LkSel yX3_daysUsed := ⟨lw_good_in (n := 1283) (by decide +kernel) rfl, lw_good_in (n := 43) (by decide +kernel) rfl⟩
abbrev rmX3_usedIn : Room := { frames := 1, cells := 0, slots := 0, locals := 25 }
theorem lcX3_usedIn : LkC yX3_usedIn cX3_usedIn 5 (some .int) 1 := ⟨lw_good_in (n := 1280) (by decide +kernel) rfl, lw_good_in (n := 66) (by decide +kernel) rfl, ⟨by decide +kernel, by decide +kernel⟩, by decide +kernel⟩
theorem lsX3_usedIn : LkSel yX3_usedIn := ⟨lw_good_in (n := 1279) (by decide +kernel) rfl, lw_good_in (n := 42) (by decide +kernel) rfl⟩
abbrev rmX3_wholeMonth : Room := { frames := 0, cells := 0, slots := 0, locals := 0 }
theorem lcX3_wholeMonth : LkC yX3_wholeMonth cX3_wholeMonth 3 (some .int) 0 := ⟨lw_good_in (n := 1276) (by decide +kernel) rfl, lw_good_in (n := 66) (by decide +kernel) rfl, ⟨by decide +kernel, by decide +kernel⟩, by decide +kernel⟩
theorem lsX3_wholeMonth : LkSel yX3_wholeMonth := ⟨lw_good_in (n := 1275) (by decide +kernel) rfl, lw_good_in (n := 41) (by decide +kernel) rfl⟩
abbrev rmX4_init : Room := { frames := 2, cells := 6, slots := 32, locals := 40 }
theorem lcX4_init : LkC yX4_init cX4_init 1 none 0 := ⟨lw_good_in (n := 115) (by decide +kernel) rfl, lw_good_in (n := 65) (by decide +kernel) rfl, ⟨by decide +kernel, by decide +kernel⟩, by decide +kernel⟩
theorem liX4_init : Cond.instanceMethod yX4_init ∈ lw_good := lw_good_in (n := 114) (by decide +kernel) rfl
abbrev rmX4_useDefaults : Room := { frames := 0, cells := 0, slots := 0, locals := 0 }
theorem lcX4_useDefaults : LkC yX4_useDefaults cX4_useDefaults 1 none 0 := ⟨lw_good_in (n := 146) (by decide +kernel) rfl, lw_good_in (n := 65) (by decide +kernel) rfl, ⟨by decide +kernel, by decide +kernel⟩, by decide +kernel⟩
theorem lsX4_useDefaults : LkSel yX4_useDefaults := ⟨lw_good_in (n := 145) (by decide +kernel) rfl, lw_good_in (n := 0) (by decide +kernel) rfl⟩
abbrev rmX4_addBracket : Room := { frames := 0, cells := 0, slots := 0, locals := 0 }
theorem lcX4_addBracket : LkC yX4_addBracket cX4_addBracket 3 none 2 := ⟨lw_good_in (n := 364) (by decide +kernel) rfl, lw_good_in (n := 65) (by decide +kernel) rfl, ⟨by decide +kernel, by decide +kernel⟩, by decide +kernel⟩
theorem lsX4_addBracket : LkSel yX4_addBracket := ⟨lw_good_in (n := 363) (by decide +kernel) rfl, lw_good_in (n := 1) (by decide +kernel) rfl⟩
abbrev rmX4_lastLimit : Room := { frames := 0, cells := 0, slots := 0, locals := 0 }
theorem lcX4_lastLimit : LkC yX4_lastLimit cX4_lastLimit 1 (some .int) 0 := ⟨lw_good_in (n := 524) (by decide +kernel) rfl, lw_good_in (n := 65) (by decide +kernel) rfl, ⟨by decide +kernel, by decide +kernel⟩, by decide +kernel⟩
theorem lsX4_lastLimit : LkSel yX4_lastLimit := ⟨lw_good_in (n := 523) (by decide +kernel) rfl, lw_good_in (n := 17) (by decide +kernel) rfl⟩
abbrev rmX4_sortOf : Room := { frames := 0, cells := 0, slots := 0, locals := 0 }
theorem lcX4_sortOf : LkC yX4_sortOf cX4_sortOf 2 (some .int) 1 := ⟨lw_good_in (n := 1548) (by decide +kernel) rfl, lw_good_in (n := 65) (by decide +kernel) rfl, ⟨by decide +kernel, by decide +kernel⟩, by decide +kernel⟩
theorem lsX4_sortOf : LkSel yX4_sortOf := ⟨lw_good_in (n := 1547) (by decide +kernel) rfl, lw_good_in (n := 55) (by decide +kernel) rfl⟩
abbrev rmX4_taxOf : Room := { frames := 1, cells := 0, slots := 0, locals := 21 }
theorem lcX4_taxOf : LkC yX4_taxOf cX4_taxOf 8 (some .long) 1 := ⟨lw_good_in (n := 1579) (by decide +kernel) rfl, lw_good_in (n := 65) (by decide +kernel) rfl, ⟨by decide +kernel, by decide +kernel⟩, by decide +kernel⟩
theorem lsX4_taxOf : LkSel yX4_taxOf := ⟨lw_good_in (n := 1578) (by decide +kernel) rfl, lw_good_in (n := 59) (by decide +kernel) rfl⟩
abbrev rmX5_init : Room := { frames := 3, cells := 8, slots := 441, locals := 60 }
theorem lcX5_init : LkC yX5_init cX5_init 1 none 0 := ⟨lw_good_in (n := 109) (by decide +kernel) rfl, lw_good_in (n := 64) (by decide +kernel) rfl, ⟨by decide +kernel, by decide +kernel⟩, by decide +kernel⟩
theorem liX5_init : Cond.instanceMethod yX5_init ∈ lw_good := lw_good_in (n := 108) (by decide +kernel) rfl
abbrev rmX5_read : Room := { frames := 9, cells := 0, slots := 0, locals := 245 }
theorem lcX5_read : LkC yX5_read cX5_read 4 (some .int) 2 := ⟨lw_good_in (n := 410) (by decide +kernel) rfl, lw_good_in (n := 64) (by decide +kernel) rfl, ⟨by decide +kernel, by decide +kernel⟩, by decide +kernel⟩
theorem lsX5_read : LkSel yX5_read := ⟨lw_good_in (n := 409) (by decide +kernel) rfl, lw_good_in (n := 4) (by decide +kernel) rfl⟩
abbrev rmX5_handOver : Room := { frames := 0, cells := 0, slots := 0, locals := 0 }
theorem lcX5_handOver : LkC yX5_handOver cX5_handOver 3 (some (.object "CashLedger$Setup")) 1 := ⟨lw_good_in (n := 1360) (by decide +kernel) rfl, lw_good_in (n := 64) (by decide +kernel) rfl, ⟨by decide +kernel, by decide +kernel⟩, by decide +kernel⟩
theorem lsX5_handOver : LkSel yX5_handOver := ⟨lw_good_in (n := 1359) (by decide +kernel) rfl, lw_good_in (n := 49) (by decide +kernel) rfl⟩
abbrev rmX5_begin : Room := { frames := 1, cells := 0, slots := 0, locals := 21 }
theorem lcX5_begin : LkC yX5_begin cX5_begin 4 none 2 := ⟨lw_good_in (n := 414) (by decide +kernel) rfl, lw_good_in (n := 64) (by decide +kernel) rfl, ⟨by decide +kernel, by decide +kernel⟩, by decide +kernel⟩
theorem lsX5_begin : LkSel yX5_begin := ⟨lw_good_in (n := 413) (by decide +kernel) rfl, lw_good_in (n := 5) (by decide +kernel) rfl⟩
abbrev rmX5_readStatement : Room := { frames := 8, cells := 0, slots := 0, locals := 225 }
theorem lcX5_readStatement : LkC yX5_readStatement cX5_readStatement 1 (some .boolean) 0 := ⟨lw_good_in (n := 434) (by decide +kernel) rfl, lw_good_in (n := 64) (by decide +kernel) rfl, ⟨by decide +kernel, by decide +kernel⟩, by decide +kernel⟩
theorem lsX5_readStatement : LkSel yX5_readStatement := ⟨lw_good_in (n := 433) (by decide +kernel) rfl, lw_good_in (n := 9) (by decide +kernel) rfl⟩
abbrev rmX5_readStart : Room := { frames := 3, cells := 0, slots := 0, locals := 66 }
theorem lcX5_readStart : LkC yX5_readStart cX5_readStart 1 (some .boolean) 0 := ⟨lw_good_in (n := 491) (by decide +kernel) rfl, lw_good_in (n := 64) (by decide +kernel) rfl, ⟨by decide +kernel, by decide +kernel⟩, by decide +kernel⟩
theorem lsX5_readStart : LkSel yX5_readStart := ⟨lw_good_in (n := 490) (by decide +kernel) rfl, lw_good_in (n := 11) (by decide +kernel) rfl⟩
abbrev rmX5_readAssets : Room := { frames := 3, cells := 0, slots := 0, locals := 66 }
theorem lcX5_readAssets : LkC yX5_readAssets cX5_readAssets 1 (some .boolean) 0 := ⟨lw_good_in (n := 504) (by decide +kernel) rfl, lw_good_in (n := 64) (by decide +kernel) rfl, ⟨by decide +kernel, by decide +kernel⟩, by decide +kernel⟩
theorem lsX5_readAssets : LkSel yX5_readAssets := ⟨lw_good_in (n := 503) (by decide +kernel) rfl, lw_good_in (n := 13) (by decide +kernel) rfl⟩
abbrev rmX5_readInterest : Room := { frames := 3, cells := 0, slots := 0, locals := 66 }
theorem lcX5_readInterest : LkC yX5_readInterest cX5_readInterest 1 (some .boolean) 0 := ⟨lw_good_in (n := 510) (by decide +kernel) rfl, lw_good_in (n := 64) (by decide +kernel) rfl, ⟨by decide +kernel, by decide +kernel⟩, by decide +kernel⟩
theorem lsX5_readInterest : LkSel yX5_readInterest := ⟨lw_good_in (n := 509) (by decide +kernel) rfl, lw_good_in (n := 14) (by decide +kernel) rfl⟩
abbrev rmX5_readTop : Room := { frames := 3, cells := 0, slots := 0, locals := 66 }
theorem lcX5_readTop : LkC yX5_readTop cX5_readTop 1 (some .boolean) 0 := ⟨lw_good_in (n := 515) (by decide +kernel) rfl, lw_good_in (n := 64) (by decide +kernel) rfl, ⟨by decide +kernel, by decide +kernel⟩, by decide +kernel⟩
theorem lsX5_readTop : LkSel yX5_readTop := ⟨lw_good_in (n := 514) (by decide +kernel) rfl, lw_good_in (n := 15) (by decide +kernel) rfl⟩
abbrev rmX5_readBracket : Room := { frames := 3, cells := 0, slots := 0, locals := 66 }
theorem lcX5_readBracket : LkC yX5_readBracket cX5_readBracket 3 (some .boolean) 0 := ⟨lw_good_in (n := 520) (by decide +kernel) rfl, lw_good_in (n := 64) (by decide +kernel) rfl, ⟨by decide +kernel, by decide +kernel⟩, by decide +kernel⟩
theorem lsX5_readBracket : LkSel yX5_readBracket := ⟨lw_good_in (n := 519) (by decide +kernel) rfl, lw_good_in (n := 16) (by decide +kernel) rfl⟩
abbrev rmX5_readRoom : Room := { frames := 7, cells := 0, slots := 0, locals := 202 }
theorem lcX5_readRoom : LkC yX5_readRoom cX5_readRoom 4 (some .boolean) 0 := ⟨lw_good_in (n := 531) (by decide +kernel) rfl, lw_good_in (n := 64) (by decide +kernel) rfl, ⟨by decide +kernel, by decide +kernel⟩, by decide +kernel⟩
theorem lsX5_readRoom : LkSel yX5_readRoom := ⟨lw_good_in (n := 530) (by decide +kernel) rfl, lw_good_in (n := 18) (by decide +kernel) rfl⟩
abbrev rmX5_takeNumber : Room := { frames := 2, cells := 0, slots := 0, locals := 43 }
theorem lcX5_takeNumber : LkC yX5_takeNumber cX5_takeNumber 4 (some .int) 2 := ⟨lw_good_in (n := 496) (by decide +kernel) rfl, lw_good_in (n := 64) (by decide +kernel) rfl, ⟨by decide +kernel, by decide +kernel⟩, by decide +kernel⟩
theorem lsX5_takeNumber : LkSel yX5_takeNumber := ⟨lw_good_in (n := 495) (by decide +kernel) rfl, lw_good_in (n := 12) (by decide +kernel) rfl⟩
abbrev rmX5_isWord : Room := { frames := 6, cells := 0, slots := 0, locals := 180 }
theorem lcX5_isWord : LkC yX5_isWord cX5_isWord 3 (some .boolean) 1 := ⟨lw_good_in (n := 439) (by decide +kernel) rfl, lw_good_in (n := 64) (by decide +kernel) rfl, ⟨by decide +kernel, by decide +kernel⟩, by decide +kernel⟩
theorem lsX5_isWord : LkSel yX5_isWord := ⟨lw_good_in (n := 438) (by decide +kernel) rfl, lw_good_in (n := 10) (by decide +kernel) rfl⟩
abbrev rmX5_nextToken : Room := { frames := 1, cells := 0, slots := 0, locals := 23 }
theorem lcX5_nextToken : LkC yX5_nextToken cX5_nextToken 1 none 0 := ⟨lw_good_in (n := 422) (by decide +kernel) rfl, lw_good_in (n := 64) (by decide +kernel) rfl, ⟨by decide +kernel, by decide +kernel⟩, by decide +kernel⟩
theorem lsX5_nextToken : LkSel yX5_nextToken := ⟨lw_good_in (n := 421) (by decide +kernel) rfl, lw_good_in (n := 6) (by decide +kernel) rfl⟩
abbrev rmX5_endOfRun : Room := { frames := 0, cells := 0, slots := 0, locals := 0 }
theorem lcX5_endOfRun : LkC yX5_endOfRun cX5_endOfRun 4 (some .int) 2 := ⟨lw_good_in (n := 426) (by decide +kernel) rfl, lw_good_in (n := 64) (by decide +kernel) rfl, ⟨by decide +kernel, by decide +kernel⟩, by decide +kernel⟩
theorem lsX5_endOfRun : LkSel yX5_endOfRun := ⟨lw_good_in (n := 425) (by decide +kernel) rfl, lw_good_in (n := 7) (by decide +kernel) rfl⟩
abbrev rmX5_valueOfDigits : Room := { frames := 0, cells := 0, slots := 0, locals := 0 }
theorem lcX5_valueOfDigits : LkC yX5_valueOfDigits cX5_valueOfDigits 3 (some .int) 0 := ⟨lw_good_in (n := 430) (by decide +kernel) rfl, lw_good_in (n := 64) (by decide +kernel) rfl, ⟨by decide +kernel, by decide +kernel⟩, by decide +kernel⟩
theorem lsX5_valueOfDigits : LkSel yX5_valueOfDigits := ⟨lw_good_in (n := 429) (by decide +kernel) rfl, lw_good_in (n := 8) (by decide +kernel) rfl⟩
abbrev rmX6_init : Room := { frames := 2, cells := 20, slots := 533, locals := 40 }
theorem lcX6_init : LkC yX6_init cX6_init 1 none 0 := ⟨lw_good_in (n := 227) (by decide +kernel) rfl, lw_good_in (n := 67) (by decide +kernel) rfl, ⟨by decide +kernel, by decide +kernel⟩, by decide +kernel⟩
theorem liX6_init : Cond.instanceMethod yX6_init ∈ lw_good := lw_good_in (n := 226) (by decide +kernel) rfl
abbrev rmX6_begin : Room := { frames := 1, cells := 0, slots := 0, locals := 22 }
theorem lcX6_begin : LkC yX6_begin cX6_begin 2 none 1 := ⟨lw_good_in (n := 369) (by decide +kernel) rfl, lw_good_in (n := 67) (by decide +kernel) rfl, ⟨by decide +kernel, by decide +kernel⟩, by decide +kernel⟩
theorem lsX6_begin : LkSel yX6_begin := ⟨lw_good_in (n := 368) (by decide +kernel) rfl, lw_good_in (n := 2) (by decide +kernel) rfl⟩
abbrev rmX6_copyFrom : Room := { frames := 1, cells := 0, slots := 0, locals := 22 }
theorem lcX6_copyFrom : LkC yX6_copyFrom cX6_copyFrom 3 none 1 := ⟨lw_good_in (n := 549) (by decide +kernel) rfl, lw_good_in (n := 67) (by decide +kernel) rfl, ⟨by decide +kernel, by decide +kernel⟩, by decide +kernel⟩
theorem lsX6_copyFrom : LkSel yX6_copyFrom := ⟨lw_good_in (n := 548) (by decide +kernel) rfl, lw_good_in (n := 20) (by decide +kernel) rfl⟩
abbrev rmX6_deductibleOf : Room := { frames := 2, cells := 0, slots := 0, locals := 49 }
theorem lcX6_deductibleOf : LkC yX6_deductibleOf cX6_deductibleOf 6 (some .long) 3 := ⟨lw_good_in (n := 1272) (by decide +kernel) rfl, lw_good_in (n := 67) (by decide +kernel) rfl, ⟨by decide +kernel, by decide +kernel⟩, by decide +kernel⟩
theorem lsX6_deductibleOf : LkSel yX6_deductibleOf := ⟨lw_good_in (n := 1271) (by decide +kernel) rfl, lw_good_in (n := 40) (by decide +kernel) rfl⟩
abbrev rmX6_deductibleUpTo : Room := { frames := 3, cells := 0, slots := 0, locals := 74 }
theorem lcX6_deductibleUpTo : LkC yX6_deductibleUpTo cX6_deductibleUpTo 5 (some .long) 1 := ⟨lw_good_in (n := 1267) (by decide +kernel) rfl, lw_good_in (n := 67) (by decide +kernel) rfl, ⟨by decide +kernel, by decide +kernel⟩, by decide +kernel⟩
theorem lsX6_deductibleUpTo : LkSel yX6_deductibleUpTo := ⟨lw_good_in (n := 1266) (by decide +kernel) rfl, lw_good_in (n := 39) (by decide +kernel) rfl⟩
abbrev rmX6_received : Room := { frames := 3, cells := 0, slots := 0, locals := 70 }
theorem lcX6_received : LkC yX6_received cX6_received 3 (some .long) 2 := ⟨lw_good_in (n := 1249) (by decide +kernel) rfl, lw_good_in (n := 67) (by decide +kernel) rfl, ⟨by decide +kernel, by decide +kernel⟩, by decide +kernel⟩
theorem lsX6_received : LkSel yX6_received := ⟨lw_good_in (n := 1248) (by decide +kernel) rfl, lw_good_in (n := 35) (by decide +kernel) rfl⟩
abbrev rmX6_profitUpTo : Room := { frames := 4, cells := 0, slots := 0, locals := 98 }
theorem lcX6_profitUpTo : LkC yX6_profitUpTo cX6_profitUpTo 3 (some .long) 1 := ⟨lw_good_in (n := 1245) (by decide +kernel) rfl, lw_good_in (n := 67) (by decide +kernel) rfl, ⟨by decide +kernel, by decide +kernel⟩, by decide +kernel⟩
theorem lsX6_profitUpTo : LkSel yX6_profitUpTo := ⟨lw_good_in (n := 1244) (by decide +kernel) rfl, lw_good_in (n := 34) (by decide +kernel) rfl⟩
abbrev rmX6_prepaidSoFar : Room := { frames := 0, cells := 0, slots := 0, locals := 0 }
theorem lcX6_prepaidSoFar : LkC yX6_prepaidSoFar cX6_prepaidSoFar 4 (some .long) 0 := ⟨lw_good_in (n := 1586) (by decide +kernel) rfl, lw_good_in (n := 67) (by decide +kernel) rfl, ⟨by decide +kernel, by decide +kernel⟩, by decide +kernel⟩
theorem lsX6_prepaidSoFar : LkSel yX6_prepaidSoFar := ⟨lw_good_in (n := 1585) (by decide +kernel) rfl, lw_good_in (n := 60) (by decide +kernel) rfl⟩
abbrev rmX6_fillBalances : Room := { frames := 1, cells := 0, slots := 0, locals := 22 }
theorem lcX6_fillBalances : LkC yX6_fillBalances cX6_fillBalances 4 none 1 := ⟨lw_good_in (n := 1222) (by decide +kernel) rfl, lw_good_in (n := 67) (by decide +kernel) rfl, ⟨by decide +kernel, by decide +kernel⟩, by decide +kernel⟩
theorem lsX6_fillBalances : LkSel yX6_fillBalances := ⟨lw_good_in (n := 1221) (by decide +kernel) rfl, lw_good_in (n := 32) (by decide +kernel) rfl⟩
abbrev rmX6_move : Room := { frames := 0, cells := 0, slots := 0, locals := 0 }
theorem lcX6_move : LkC yX6_move cX6_move 3 none 3 := ⟨lw_good_in (n := 1225) (by decide +kernel) rfl, lw_good_in (n := 67) (by decide +kernel) rfl, ⟨by decide +kernel, by decide +kernel⟩, by decide +kernel⟩
theorem stX6_move : Cond.static yX6_move ∈ lw_good := lw_good_in (n := 1224) (by decide +kernel) rfl
abbrev rmX7_init : Room := { frames := 4, cells := 230, slots := 6654, locals := 81 }
theorem lcX7_init : LkC yX7_init cX7_init 1 none 0 := ⟨lw_good_in (n := 101) (by decide +kernel) rfl, lw_good_in (n := 63) (by decide +kernel) rfl, ⟨by decide +kernel, by decide +kernel⟩, by decide +kernel⟩
theorem liX7_init : Cond.instanceMethod yX7_init ∈ lw_good := lw_good_in (n := 100) (by decide +kernel) rfl
abbrev rmX7_append : Room := { frames := 7, cells := 1, slots := 6, locals := 115 }
theorem lcX7_append : LkC yX7_append cX7_append 7 (some .int) 5 := ⟨lw_good_in (n := 1382) (by decide +kernel) rfl, lw_good_in (n := 63) (by decide +kernel) rfl, ⟨by decide +kernel, by decide +kernel⟩, by decide +kernel⟩
theorem lsX7_append : LkSel yX7_append := ⟨lw_good_in (n := 1380) (by decide +kernel) rfl, lw_good_in (n := 1381) (by decide +kernel) rfl⟩
abbrev rmX7_truncate : Room := { frames := 7, cells := 1, slots := 6, locals := 115 }
theorem lcX7_truncate : LkC yX7_truncate cX7_truncate 2 (some .int) 1 := ⟨lw_good_in (n := 1372) (by decide +kernel) rfl, lw_good_in (n := 63) (by decide +kernel) rfl, ⟨by decide +kernel, by decide +kernel⟩, by decide +kernel⟩
theorem lsX7_truncate : LkSel yX7_truncate := ⟨lw_good_in (n := 1370) (by decide +kernel) rfl, lw_good_in (n := 1371) (by decide +kernel) rfl⟩
abbrev rmX7_errorPosition : Room := { frames := 10, cells := 0, slots := 0, locals := 268 }
theorem lcX7_errorPosition : LkC yX7_errorPosition cX7_errorPosition 1 (some .int) 0 := ⟨lw_good_in (n := 406) (by decide +kernel) rfl, lw_good_in (n := 63) (by decide +kernel) rfl, ⟨by decide +kernel, by decide +kernel⟩, by decide +kernel⟩
theorem lsX7_errorPosition : LkSel yX7_errorPosition := ⟨lw_good_in (n := 404) (by decide +kernel) rfl, lw_good_in (n := 405) (by decide +kernel) rfl⟩
abbrev rmX7_load : Room := { frames := 10, cells := 1, slots := 6, locals := 268 }
theorem lcX7_load : LkC yX7_load cX7_load 1 (some .int) 0 := ⟨lw_good_in (n := 1356) (by decide +kernel) rfl, lw_good_in (n := 63) (by decide +kernel) rfl, ⟨by decide +kernel, by decide +kernel⟩, by decide +kernel⟩
theorem lsX7_load : LkSel yX7_load := ⟨lw_good_in (n := 1354) (by decide +kernel) rfl, lw_good_in (n := 1355) (by decide +kernel) rfl⟩
abbrev rmX7_addEntry : Room := { frames := 7, cells := 2, slots := 12, locals := 115 }
theorem lcX7_addEntry : LkC yX7_addEntry cX7_addEntry 7 (some .int) 5 := ⟨lw_good_in (n := 1508) (by decide +kernel) rfl, lw_good_in (n := 63) (by decide +kernel) rfl, ⟨by decide +kernel, by decide +kernel⟩, by decide +kernel⟩
theorem lsX7_addEntry : LkSel yX7_addEntry := ⟨lw_good_in (n := 1506) (by decide +kernel) rfl, lw_good_in (n := 1507) (by decide +kernel) rfl⟩
abbrev rmX7_pay : Room := { frames := 7, cells := 3, slots := 18, locals := 116 }
theorem lcX7_pay : LkC yX7_pay cX7_pay 4 (some .int) 2 := ⟨lw_good_in (n := 1417) (by decide +kernel) rfl, lw_good_in (n := 63) (by decide +kernel) rfl, ⟨by decide +kernel, by decide +kernel⟩, by decide +kernel⟩
theorem lsX7_pay : LkSel yX7_pay := ⟨lw_good_in (n := 1415) (by decide +kernel) rfl, lw_good_in (n := 1416) (by decide +kernel) rfl⟩
abbrev rmX7_cancel : Room := { frames := 7, cells := 2, slots := 12, locals := 116 }
theorem lcX7_cancel : LkC yX7_cancel cX7_cancel 2 (some .int) 1 := ⟨lw_good_in (n := 1520) (by decide +kernel) rfl, lw_good_in (n := 63) (by decide +kernel) rfl, ⟨by decide +kernel, by decide +kernel⟩, by decide +kernel⟩
theorem lsX7_cancel : LkSel yX7_cancel := ⟨lw_good_in (n := 1518) (by decide +kernel) rfl, lw_good_in (n := 1519) (by decide +kernel) rfl⟩
abbrev rmX7_addRoom : Room := { frames := 7, cells := 2, slots := 12, locals := 115 }
theorem lcX7_addRoom : LkC yX7_addRoom cX7_addRoom 2 (some .int) 1 := ⟨lw_good_in (n := 1527) (by decide +kernel) rfl, lw_good_in (n := 63) (by decide +kernel) rfl, ⟨by decide +kernel, by decide +kernel⟩, by decide +kernel⟩
theorem lsX7_addRoom : LkSel yX7_addRoom := ⟨lw_good_in (n := 1525) (by decide +kernel) rfl, lw_good_in (n := 1526) (by decide +kernel) rfl⟩
abbrev rmX7_setOffice : Room := { frames := 7, cells := 2, slots := 12, locals := 116 }
theorem lcX7_setOffice : LkC yX7_setOffice cX7_setOffice 5 (some .int) 3 := ⟨lw_good_in (n := 1535) (by decide +kernel) rfl, lw_good_in (n := 63) (by decide +kernel) rfl, ⟨by decide +kernel, by decide +kernel⟩, by decide +kernel⟩
theorem lsX7_setOffice : LkSel yX7_setOffice := ⟨lw_good_in (n := 1533) (by decide +kernel) rfl, lw_good_in (n := 1534) (by decide +kernel) rfl⟩
abbrev rmX7_addAsset : Room := { frames := 7, cells := 2, slots := 12, locals := 115 }
theorem lcX7_addAsset : LkC yX7_addAsset cX7_addAsset 4 (some .int) 3 := ⟨lw_good_in (n := 1543) (by decide +kernel) rfl, lw_good_in (n := 63) (by decide +kernel) rfl, ⟨by decide +kernel, by decide +kernel⟩, by decide +kernel⟩
theorem lsX7_addAsset : LkSel yX7_addAsset := ⟨lw_good_in (n := 1541) (by decide +kernel) rfl, lw_good_in (n := 1542) (by decide +kernel) rfl⟩
abbrev rmX7_sellAsset : Room := { frames := 7, cells := 3, slots := 18, locals := 116 }
theorem lcX7_sellAsset : LkC yX7_sellAsset cX7_sellAsset 5 (some .int) 3 := ⟨lw_good_in (n := 1559) (by decide +kernel) rfl, lw_good_in (n := 63) (by decide +kernel) rfl, ⟨by decide +kernel, by decide +kernel⟩, by decide +kernel⟩
theorem lsX7_sellAsset : LkSel yX7_sellAsset := ⟨lw_good_in (n := 1557) (by decide +kernel) rfl, lw_good_in (n := 1558) (by decide +kernel) rfl⟩
abbrev rmX7_closeQuarter : Room := { frames := 7, cells := 1, slots := 6, locals := 120 }
theorem lcX7_closeQuarter : LkC yX7_closeQuarter cX7_closeQuarter 5 (some .int) 0 := ⟨lw_good_in (n := 1570) (by decide +kernel) rfl, lw_good_in (n := 63) (by decide +kernel) rfl, ⟨by decide +kernel, by decide +kernel⟩, by decide +kernel⟩
theorem lsX7_closeQuarter : LkSel yX7_closeQuarter := ⟨lw_good_in (n := 1568) (by decide +kernel) rfl, lw_good_in (n := 1569) (by decide +kernel) rfl⟩
abbrev rmX7_setStart : Room := { frames := 7, cells := 1, slots := 6, locals := 115 }
theorem lcX7_setStart : LkC yX7_setStart cX7_setStart 3 (some .int) 1 := ⟨lw_good_in (n := 1594) (by decide +kernel) rfl, lw_good_in (n := 63) (by decide +kernel) rfl, ⟨by decide +kernel, by decide +kernel⟩, by decide +kernel⟩
theorem lsX7_setStart : LkSel yX7_setStart := ⟨lw_good_in (n := 1592) (by decide +kernel) rfl, lw_good_in (n := 1593) (by decide +kernel) rfl⟩
abbrev rmX7_undo : Room := { frames := 7, cells := 1, slots := 6, locals := 115 }
theorem lcX7_undo : LkC yX7_undo cX7_undo 1 (some .int) 0 := ⟨lw_good_in (n := 1434) (by decide +kernel) rfl, lw_good_in (n := 63) (by decide +kernel) rfl, ⟨by decide +kernel, by decide +kernel⟩, by decide +kernel⟩
theorem lsX7_undo : LkSel yX7_undo := ⟨lw_good_in (n := 1432) (by decide +kernel) rfl, lw_good_in (n := 1433) (by decide +kernel) rfl⟩
abbrev rmX7_undoCount : Room := { frames := 0, cells := 0, slots := 0, locals := 0 }
theorem lcX7_undoCount : LkC yX7_undoCount cX7_undoCount 1 (some .int) 0 := ⟨lw_good_in (n := 541) (by decide +kernel) rfl, lw_good_in (n := 63) (by decide +kernel) rfl, ⟨by decide +kernel, by decide +kernel⟩, by decide +kernel⟩
theorem lsX7_undoCount : LkSel yX7_undoCount := ⟨lw_good_in (n := 539) (by decide +kernel) rfl, lw_good_in (n := 540) (by decide +kernel) rfl⟩
abbrev rmX7_save : Room := { frames := 2, cells := 0, slots := 0, locals := 44 }
theorem lcX7_save : LkC yX7_save cX7_save 1 (some .int) 0 := ⟨lw_good_in (n := 545) (by decide +kernel) rfl, lw_good_in (n := 63) (by decide +kernel) rfl, ⟨by decide +kernel, by decide +kernel⟩, by decide +kernel⟩
theorem lsX7_save : LkSel yX7_save := ⟨lw_good_in (n := 543) (by decide +kernel) rfl, lw_good_in (n := 544) (by decide +kernel) rfl⟩
abbrev rmX7_restore : Room := { frames := 7, cells := 1, slots := 6, locals := 115 }
theorem lcX7_restore : LkC yX7_restore cX7_restore 1 (some .int) 0 := ⟨lw_good_in (n := 1446) (by decide +kernel) rfl, lw_good_in (n := 63) (by decide +kernel) rfl, ⟨by decide +kernel, by decide +kernel⟩, by decide +kernel⟩
theorem lsX7_restore : LkSel yX7_restore := ⟨lw_good_in (n := 1444) (by decide +kernel) rfl, lw_good_in (n := 1445) (by decide +kernel) rfl⟩
abbrev rmX7_count : Room := { frames := 6, cells := 1, slots := 6, locals := 95 }
theorem lcX7_count : LkC yX7_count cX7_count 2 (some .int) 1 := ⟨lw_good_in (n := 1163) (by decide +kernel) rfl, lw_good_in (n := 63) (by decide +kernel) rfl, ⟨by decide +kernel, by decide +kernel⟩, by decide +kernel⟩
theorem lsX7_count : LkSel yX7_count := ⟨lw_good_in (n := 1161) (by decide +kernel) rfl, lw_good_in (n := 1162) (by decide +kernel) rfl⟩
abbrev rmX7_entry : Room := { frames := 7, cells := 2, slots := 12, locals := 116 }
theorem lcX7_entry : LkC yX7_entry cX7_entry 3 (some .int) 2 := ⟨lw_good_in (n := 1125) (by decide +kernel) rfl, lw_good_in (n := 63) (by decide +kernel) rfl, ⟨by decide +kernel, by decide +kernel⟩, by decide +kernel⟩
theorem lsX7_entry : LkSel yX7_entry := ⟨lw_good_in (n := 1123) (by decide +kernel) rfl, lw_good_in (n := 1124) (by decide +kernel) rfl⟩
abbrev rmX7_room : Room := { frames := 7, cells := 2, slots := 12, locals := 116 }
theorem lcX7_room : LkC yX7_room cX7_room 3 (some .int) 2 := ⟨lw_good_in (n := 1151) (by decide +kernel) rfl, lw_good_in (n := 63) (by decide +kernel) rfl, ⟨by decide +kernel, by decide +kernel⟩, by decide +kernel⟩
theorem lsX7_room : LkSel yX7_room := ⟨lw_good_in (n := 1149) (by decide +kernel) rfl, lw_good_in (n := 1150) (by decide +kernel) rfl⟩
abbrev rmX7_asset : Room := { frames := 7, cells := 2, slots := 12, locals := 116 }
theorem lcX7_asset : LkC yX7_asset cX7_asset 3 (some .int) 2 := ⟨lw_good_in (n := 1155) (by decide +kernel) rfl, lw_good_in (n := 63) (by decide +kernel) rfl, ⟨by decide +kernel, by decide +kernel⟩, by decide +kernel⟩
theorem lsX7_asset : LkSel yX7_asset := ⟨lw_good_in (n := 1153) (by decide +kernel) rfl, lw_good_in (n := 1154) (by decide +kernel) rfl⟩
abbrev rmX7_profitTo : Room := { frames := 8, cells := 1, slots := 6, locals := 135 }
theorem lcX7_profitTo : LkC yX7_profitTo cX7_profitTo 2 (some .long) 1 := ⟨lw_good_in (n := 1241) (by decide +kernel) rfl, lw_good_in (n := 63) (by decide +kernel) rfl, ⟨by decide +kernel, by decide +kernel⟩, by decide +kernel⟩
theorem lsX7_profitTo : LkSel yX7_profitTo := ⟨lw_good_in (n := 1239) (by decide +kernel) rfl, lw_good_in (n := 1240) (by decide +kernel) rfl⟩
abbrev rmX7_prepayment : Room := { frames := 8, cells := 2, slots := 12, locals := 135 }
theorem lcX7_prepayment : LkC yX7_prepayment cX7_prepayment 2 (some .int) 1 := ⟨lw_good_in (n := 1187) (by decide +kernel) rfl, lw_good_in (n := 63) (by decide +kernel) rfl, ⟨by decide +kernel, by decide +kernel⟩, by decide +kernel⟩
theorem lsX7_prepayment : LkSel yX7_prepayment := ⟨lw_good_in (n := 1185) (by decide +kernel) rfl, lw_good_in (n := 1186) (by decide +kernel) rfl⟩
abbrev rmX7_balance : Room := { frames := 7, cells := 1, slots := 6, locals := 115 }
theorem lcX7_balance : LkC yX7_balance cX7_balance 2 (some .long) 1 := ⟨lw_good_in (n := 1218) (by decide +kernel) rfl, lw_good_in (n := 63) (by decide +kernel) rfl, ⟨by decide +kernel, by decide +kernel⟩, by decide +kernel⟩
theorem lsX7_balance : LkSel yX7_balance := ⟨lw_good_in (n := 1216) (by decide +kernel) rfl, lw_good_in (n := 1217) (by decide +kernel) rfl⟩
abbrev rmX7_requireArgument : Room := { frames := 6, cells := 1, slots := 6, locals := 95 }
theorem lcX7_requireArgument : LkC yX7_requireArgument cX7_requireArgument 1 none 1 := ⟨lw_good_in (n := 1194) (by decide +kernel) rfl, lw_good_in (n := 63) (by decide +kernel) rfl, ⟨by decide +kernel, by decide +kernel⟩, by decide +kernel⟩
theorem stX7_requireArgument : Cond.static yX7_requireArgument ∈ lw_good := lw_good_in (n := 1193) (by decide +kernel) rfl
abbrev rmX7_requireState : Room := { frames := 6, cells := 1, slots := 6, locals := 95 }
theorem lcX7_requireState : LkC yX7_requireState cX7_requireState 1 none 1 := ⟨lw_good_in (n := 1388) (by decide +kernel) rfl, lw_good_in (n := 63) (by decide +kernel) rfl, ⟨by decide +kernel, by decide +kernel⟩, by decide +kernel⟩
theorem stX7_requireState : Cond.static yX7_requireState ∈ lw_good := lw_good_in (n := 1387) (by decide +kernel) rfl
abbrev rmX7_requireElement : Room := { frames := 6, cells := 1, slots := 6, locals := 95 }
theorem lcX7_requireElement : LkC yX7_requireElement cX7_requireElement 1 none 1 := ⟨lw_good_in (n := 1198) (by decide +kernel) rfl, lw_good_in (n := 63) (by decide +kernel) rfl, ⟨by decide +kernel, by decide +kernel⟩, by decide +kernel⟩
theorem stX7_requireElement : Cond.static yX7_requireElement ∈ lw_good := lw_good_in (n := 1197) (by decide +kernel) rfl
abbrev rmX7_requireIndex : Room := { frames := 6, cells := 1, slots := 6, locals := 95 }
theorem lcX7_requireIndex : LkC yX7_requireIndex cX7_requireIndex 2 none 2 := ⟨lw_good_in (n := 1128) (by decide +kernel) rfl, lw_good_in (n := 63) (by decide +kernel) rfl, ⟨by decide +kernel, by decide +kernel⟩, by decide +kernel⟩
theorem stX7_requireIndex : Cond.static yX7_requireIndex ∈ lw_good := lw_good_in (n := 1127) (by decide +kernel) rfl
abbrev rmX7_requireQuarter : Room := { frames := 7, cells := 1, slots := 6, locals := 115 }
theorem lcX7_requireQuarter : LkC yX7_requireQuarter cX7_requireQuarter 1 none 1 := ⟨lw_good_in (n := 1190) (by decide +kernel) rfl, lw_good_in (n := 63) (by decide +kernel) rfl, ⟨by decide +kernel, by decide +kernel⟩, by decide +kernel⟩
theorem stX7_requireQuarter : Cond.static yX7_requireQuarter ∈ lw_good := lw_good_in (n := 1189) (by decide +kernel) rfl
abbrev rmX7_within : Room := { frames := 0, cells := 0, slots := 0, locals := 0 }
theorem lcX7_within : LkC yX7_within cX7_within 3 (some .boolean) 3 := ⟨lw_good_in (n := 499) (by decide +kernel) rfl, lw_good_in (n := 63) (by decide +kernel) rfl, ⟨by decide +kernel, by decide +kernel⟩, by decide +kernel⟩
theorem stX7_within : Cond.static yX7_within ∈ lw_good := lw_good_in (n := 498) (by decide +kernel) rfl
abbrev rmX7_isDayOrNone : Room := { frames := 1, cells := 0, slots := 0, locals := 22 }
theorem lcX7_isDayOrNone : LkC yX7_isDayOrNone cX7_isDayOrNone 1 (some .boolean) 1 := ⟨lw_good_in (n := 1420) (by decide +kernel) rfl, lw_good_in (n := 63) (by decide +kernel) rfl, ⟨by decide +kernel, by decide +kernel⟩, by decide +kernel⟩
theorem stX7_isDayOrNone : Cond.static yX7_isDayOrNone ∈ lw_good := lw_good_in (n := 1419) (by decide +kernel) rfl
abbrev rmX7_bytesIn : Room := { frames := 0, cells := 0, slots := 0, locals := 0 }
theorem lcX7_bytesIn : LkC yX7_bytesIn cX7_bytesIn 3 (some .int) 1 := ⟨lw_good_in (n := 1385) (by decide +kernel) rfl, lw_good_in (n := 63) (by decide +kernel) rfl, ⟨by decide +kernel, by decide +kernel⟩, by decide +kernel⟩
theorem stX7_bytesIn : Cond.static yX7_bytesIn ∈ lw_good := lw_good_in (n := 1384) (by decide +kernel) rfl
abbrev rmX7_putBytes : Room := { frames := 0, cells := 0, slots := 0, locals := 0 }
theorem lcX7_putBytes : LkC yX7_putBytes cX7_putBytes 4 none 1 := ⟨lw_good_in (n := 1408) (by decide +kernel) rfl, lw_good_in (n := 63) (by decide +kernel) rfl, ⟨by decide +kernel, by decide +kernel⟩, by decide +kernel⟩
theorem lsX7_putBytes : LkSel yX7_putBytes := ⟨lw_good_in (n := 1407) (by decide +kernel) rfl, lw_good_in (n := 51) (by decide +kernel) rfl⟩
abbrev rmX7_targetAt : Room := { frames := 2, cells := 0, slots := 0, locals := 48 }
theorem lcX7_targetAt : LkC yX7_targetAt cX7_targetAt 6 (some .long) 2 := ⟨lw_good_in (n := 1574) (by decide +kernel) rfl, lw_good_in (n := 63) (by decide +kernel) rfl, ⟨by decide +kernel, by decide +kernel⟩, by decide +kernel⟩
theorem lsX7_targetAt : LkSel yX7_targetAt := ⟨lw_good_in (n := 1573) (by decide +kernel) rfl, lw_good_in (n := 58) (by decide +kernel) rfl⟩
theorem lmX0_34 : LkM RX0 34 yX0_isSoldBy := lw_good_in (n := 1301) (by decide +kernel) rfl
theorem lmX0_38 : LkM RX0 38 yX0_writtenUpTo := lw_good_in (n := 1297) (by decide +kernel) rfl
theorem lmX0_42 : LkM RX0 42 yX0_poolWrittenUpTo := lw_good_in (n := 1289) (by decide +kernel) rfl
theorem lmX0_46 : LkM RX0 46 yX0_poolAt := lw_good_in (n := 1293) (by decide +kernel) rfl
theorem lnX0_49 : LkN RX0 49 yX7_within := ⟨"CashLedger", List.mem_filter.mpr ⟨List.mem_of_getElem? (i := 1263) (by decide +kernel), rfl⟩⟩
theorem lmX1_38 : LkM RX1 38 yX1_counts := lw_good_in (n := 1258) (by decide +kernel) rfl
theorem lmX1_42 : LkM RX1 42 yX1_isOpen := lw_good_in (n := 1168) (by decide +kernel) rfl
theorem lmX1_45 : LkM RX1 45 yX1_countsWithin := lw_good_in (n := 1254) (by decide +kernel) rfl
theorem lnX2_17 : LkN RX2 17 yX6_init := ⟨"CashLedger", List.mem_filter.mpr ⟨List.mem_of_getElem? (i := 348) (by decide +kernel), rfl⟩⟩
theorem lnX2_25 : LkN RX2 25 yX6_copyFrom := ⟨"CashLedger", List.mem_filter.mpr ⟨List.mem_of_getElem? (i := 1425) (by decide +kernel), rfl⟩⟩
theorem lmX3_25 : LkM RX3 25 yX3_daysUsed := lw_good_in (n := 1281) (by decide +kernel) rfl
theorem lnX4_20 : LkN RX4 20 yX3_init := ⟨"CashLedger", List.mem_filter.mpr ⟨List.mem_of_getElem? (i := 119) (by decide +kernel), rfl⟩⟩
theorem lmX4_25 : LkM RX4 25 yX4_useDefaults := lw_good_in (n := 143) (by decide +kernel) rfl
theorem lnX5_17 : LkN RX5 17 yX4_init := ⟨"CashLedger", List.mem_filter.mpr ⟨List.mem_of_getElem? (i := 113) (by decide +kernel), rfl⟩⟩
theorem lmX5_22 : LkM RX5 22 yX5_begin := lw_good_in (n := 411) (by decide +kernel) rfl
theorem lmX5_26 : LkM RX5 26 yX5_nextToken := lw_good_in (n := 419) (by decide +kernel) rfl
theorem lmX5_29 : LkM RX5 29 yX5_readStatement := lw_good_in (n := 431) (by decide +kernel) rfl
theorem lnX5_49 : LkN RX5 49 yX4_useDefaults := ⟨"CashLedger", List.mem_filter.mpr ⟨List.mem_of_getElem? (i := 418) (by decide +kernel), rfl⟩⟩
theorem lmX5_70 : LkM RX5 70 yX5_isWord := lw_good_in (n := 436) (by decide +kernel) rfl
theorem lmX5_74 : LkM RX5 74 yX5_readStart := lw_good_in (n := 488) (by decide +kernel) rfl
theorem lmX5_79 : LkM RX5 79 yX5_readAssets := lw_good_in (n := 501) (by decide +kernel) rfl
theorem lmX5_84 : LkM RX5 84 yX5_readInterest := lw_good_in (n := 507) (by decide +kernel) rfl
theorem lmX5_89 : LkM RX5 89 yX5_readTop := lw_good_in (n := 512) (by decide +kernel) rfl
theorem lmX5_94 : LkM RX5 94 yX5_readBracket := lw_good_in (n := 517) (by decide +kernel) rfl
theorem lmX5_99 : LkM RX5 99 yX5_readRoom := lw_good_in (n := 528) (by decide +kernel) rfl
theorem lmX5_103 : LkM RX5 103 yX5_takeNumber := lw_good_in (n := 493) (by decide +kernel) rfl
theorem lnX5_124 : LkN RX5 124 yX4_lastLimit := ⟨"CashLedger", List.mem_filter.mpr ⟨List.mem_of_getElem? (i := 521) (by decide +kernel), rfl⟩⟩
theorem lnX5_129 : LkN RX5 129 yX4_addBracket := ⟨"CashLedger", List.mem_filter.mpr ⟨List.mem_of_getElem? (i := 526) (by decide +kernel), rfl⟩⟩
theorem lnX5_144 : LkN RX5 144 yX3_add := ⟨"CashLedger", List.mem_filter.mpr ⟨List.mem_of_getElem? (i := 533) (by decide +kernel), rfl⟩⟩
theorem lnX5_151 : LkN RX5 151 yX7_within := ⟨"CashLedger", List.mem_filter.mpr ⟨List.mem_of_getElem? (i := 497) (by decide +kernel), rfl⟩⟩
theorem lmX5_163 : LkM RX5 163 yX5_endOfRun := lw_good_in (n := 423) (by decide +kernel) rfl
theorem lmX5_166 : LkM RX5 166 yX5_valueOfDigits := lw_good_in (n := 427) (by decide +kernel) rfl
theorem lnX6_11 : LkN RX6 11 yX1_init := ⟨"CashLedger", List.mem_filter.mpr ⟨List.mem_of_getElem? (i := 231) (by decide +kernel), rfl⟩⟩
theorem lnX6_20 : LkN RX6 20 yX3_init := ⟨"CashLedger", List.mem_filter.mpr ⟨List.mem_of_getElem? (i := 274) (by decide +kernel), rfl⟩⟩
theorem lnX6_27 : LkN RX6 27 yX0_init := ⟨"CashLedger", List.mem_filter.mpr ⟨List.mem_of_getElem? (i := 277) (by decide +kernel), rfl⟩⟩
theorem lnX6_44 : LkN RX6 44 yX3_copyFrom := ⟨"CashLedger", List.mem_filter.mpr ⟨List.mem_of_getElem? (i := 370) (by decide +kernel), rfl⟩⟩
theorem lnX6_55 : LkN RX6 55 yX1_copyFrom := ⟨"CashLedger", List.mem_filter.mpr ⟨List.mem_of_getElem? (i := 550) (by decide +kernel), rfl⟩⟩
theorem lnX6_58 : LkN RX6 58 yX0_copyFrom := ⟨"CashLedger", List.mem_filter.mpr ⟨List.mem_of_getElem? (i := 554) (by decide +kernel), rfl⟩⟩
theorem lnX6_61 : LkN RX6 61 yX3_wholeMonth := ⟨"CashLedger", List.mem_filter.mpr ⟨List.mem_of_getElem? (i := 1273) (by decide +kernel), rfl⟩⟩
theorem lnX6_65 : LkN RX6 65 yX3_usedIn := ⟨"CashLedger", List.mem_filter.mpr ⟨List.mem_of_getElem? (i := 1277) (by decide +kernel), rfl⟩⟩
theorem lnX6_92 : LkN RX6 92 yX1_countsWithin := ⟨"CashLedger", List.mem_filter.mpr ⟨List.mem_of_getElem? (i := 1268) (by decide +kernel), rfl⟩⟩
theorem lmX6_82 : LkM RX6 82 yX6_deductibleOf := lw_good_in (n := 1269) (by decide +kernel) rfl
theorem lnX6_96 : LkN RX6 96 yX1_sumPaid := ⟨"CashLedger", List.mem_filter.mpr ⟨List.mem_of_getElem? (i := 1250) (by decide +kernel), rfl⟩⟩
theorem lnX6_99 : LkN RX6 99 yX0_soldFor := ⟨"CashLedger", List.mem_filter.mpr ⟨List.mem_of_getElem? (i := 1259) (by decide +kernel), rfl⟩⟩
theorem lmX6_103 : LkM RX6 103 yX6_received := lw_good_in (n := 1246) (by decide +kernel) rfl
theorem lmX6_106 : LkM RX6 106 yX6_deductibleUpTo := lw_good_in (n := 1264) (by decide +kernel) rfl
theorem lnX6_110 : LkN RX6 110 yX0_allWrittenUpTo := ⟨"CashLedger", List.mem_filter.mpr ⟨List.mem_of_getElem? (i := 1285) (by decide +kernel), rfl⟩⟩
theorem lmX6_113 : LkM RX6 113 yX6_move := lw_good_in (n := 1223) (by decide +kernel) rfl
theorem lnX6_69 : LkN RX6 69 yX1_counts := ⟨"CashLedger", List.mem_filter.mpr ⟨List.mem_of_getElem? (i := 1226) (by decide +kernel), rfl⟩⟩
theorem lnX7_15 : LkN RX7 15 yX5_init := ⟨"CashLedger", List.mem_filter.mpr ⟨List.mem_of_getElem? (i := 107) (by decide +kernel), rfl⟩⟩
theorem lnX7_22 : LkN RX7 22 yX4_init := ⟨"CashLedger", List.mem_filter.mpr ⟨List.mem_of_getElem? (i := 222) (by decide +kernel), rfl⟩⟩
theorem lnX7_29 : LkN RX7 29 yX6_init := ⟨"CashLedger", List.mem_filter.mpr ⟨List.mem_of_getElem? (i := 225) (by decide +kernel), rfl⟩⟩
theorem lnX7_39 : LkN RX7 39 yX2_init := ⟨"CashLedger", List.mem_filter.mpr ⟨List.mem_of_getElem? (i := 342) (by decide +kernel), rfl⟩⟩
theorem lnX7_49 : LkN RX7 49 yX4_addBracket := ⟨"CashLedger", List.mem_filter.mpr ⟨List.mem_of_getElem? (i := 361) (by decide +kernel), rfl⟩⟩
theorem lnX7_54 : LkN RX7 54 yX6_begin := ⟨"CashLedger", List.mem_filter.mpr ⟨List.mem_of_getElem? (i := 366) (by decide +kernel), rfl⟩⟩
theorem lmX7_58 : LkM RX7 58 yX7_bytesIn := lw_good_in (n := 1383) (by decide +kernel) rfl
theorem lmX7_66 : LkM RX7 66 yX7_requireState := lw_good_in (n := 1386) (by decide +kernel) rfl
theorem lmX7_70 : LkM RX7 70 yX7_putBytes := lw_good_in (n := 1405) (by decide +kernel) rfl
theorem lmX7_74 : LkM RX7 74 yX7_within := lw_good_in (n := 1191) (by decide +kernel) rfl
theorem lmX7_78 : LkM RX7 78 yX7_requireArgument := lw_good_in (n := 1192) (by decide +kernel) rfl
theorem lnX7_81 : LkN RX7 81 yX5_read := ⟨"CashLedger", List.mem_filter.mpr ⟨List.mem_of_getElem? (i := 407) (by decide +kernel), rfl⟩⟩
theorem lnX7_85 : LkN RX7 85 yX5_handOver := ⟨"CashLedger", List.mem_filter.mpr ⟨List.mem_of_getElem? (i := 1357) (by decide +kernel), rfl⟩⟩
theorem lnX7_89 : LkN RX7 89 yX2_clear := ⟨"CashLedger", List.mem_filter.mpr ⟨List.mem_of_getElem? (i := 1361) (by decide +kernel), rfl⟩⟩
theorem lmX7_106 : LkM RX7 106 yX7_isDayOrNone := lw_good_in (n := 1418) (by decide +kernel) rfl
theorem lnX7_117 : LkN RX7 117 yX2_remember := ⟨"CashLedger", List.mem_filter.mpr ⟨List.mem_of_getElem? (i := 1421) (by decide +kernel), rfl⟩⟩
theorem lnX7_124 : LkN RX7 124 yX1_add := ⟨"CashLedger", List.mem_filter.mpr ⟨List.mem_of_getElem? (i := 1510) (by decide +kernel), rfl⟩⟩
theorem lmX7_128 : LkM RX7 128 yX7_requireIndex := lw_good_in (n := 1126) (by decide +kernel) rfl
theorem lnX7_141 : LkN RX7 141 yX3_add := ⟨"CashLedger", List.mem_filter.mpr ⟨List.mem_of_getElem? (i := 1528) (by decide +kernel), rfl⟩⟩
theorem lnX7_144 : LkN RX7 144 yX3_daysUsed := ⟨"CashLedger", List.mem_filter.mpr ⟨List.mem_of_getElem? (i := 1536) (by decide +kernel), rfl⟩⟩
theorem lnX7_161 : LkN RX7 161 yX4_sortOf := ⟨"CashLedger", List.mem_filter.mpr ⟨List.mem_of_getElem? (i := 1545) (by decide +kernel), rfl⟩⟩
theorem lnX7_164 : LkN RX7 164 yX0_add := ⟨"CashLedger", List.mem_filter.mpr ⟨List.mem_of_getElem? (i := 1549) (by decide +kernel), rfl⟩⟩
theorem lnX7_173 : LkN RX7 173 yX0_valueAt := ⟨"CashLedger", List.mem_filter.mpr ⟨List.mem_of_getElem? (i := 1560) (by decide +kernel), rfl⟩⟩
theorem lnX7_180 : LkN RX7 180 yX6_profitUpTo := ⟨"CashLedger", List.mem_filter.mpr ⟨List.mem_of_getElem? (i := 1242) (by decide +kernel), rfl⟩⟩
theorem lmX7_184 : LkM RX7 184 yX7_targetAt := lw_good_in (n := 1571) (by decide +kernel) rfl
theorem lnX7_188 : LkN RX7 188 yX6_prepaidSoFar := ⟨"CashLedger", List.mem_filter.mpr ⟨List.mem_of_getElem? (i := 1583) (by decide +kernel), rfl⟩⟩
theorem lnX7_206 : LkN RX7 206 yX2_takeBack := ⟨"CashLedger", List.mem_filter.mpr ⟨List.mem_of_getElem? (i := 1435) (by decide +kernel), rfl⟩⟩
theorem lnX7_209 : LkN RX7 209 yX6_copyFrom := ⟨"CashLedger", List.mem_filter.mpr ⟨List.mem_of_getElem? (i := 546) (by decide +kernel), rfl⟩⟩
theorem lnX7_212 : LkN RX7 212 yX1_openOnes := ⟨"CashLedger", List.mem_filter.mpr ⟨List.mem_of_getElem? (i := 1164) (by decide +kernel), rfl⟩⟩
theorem lnX7_216 : LkN RX7 216 yX1_cancelledOnes := ⟨"CashLedger", List.mem_filter.mpr ⟨List.mem_of_getElem? (i := 1172) (by decide +kernel), rfl⟩⟩
theorem lnX7_219 : LkN RX7 219 yX1_lateOnes := ⟨"CashLedger", List.mem_filter.mpr ⟨List.mem_of_getElem? (i := 1176) (by decide +kernel), rfl⟩⟩
theorem lnX7_222 : LkN RX7 222 yX0_soldOnes := ⟨"CashLedger", List.mem_filter.mpr ⟨List.mem_of_getElem? (i := 1180) (by decide +kernel), rfl⟩⟩
theorem lmX7_293 : LkM RX7 293 yX7_requireQuarter := lw_good_in (n := 1188) (by decide +kernel) rfl
theorem lmX7_266 : LkM RX7 266 yX7_requireElement := lw_good_in (n := 1196) (by decide +kernel) rfl
theorem lnX7_332 : LkN RX7 332 yX6_fillBalances := ⟨"CashLedger", List.mem_filter.mpr ⟨List.mem_of_getElem? (i := 1219) (by decide +kernel), rfl⟩⟩
theorem lnX7_302 : LkN RX7 302 yX4_taxOf := ⟨"CashLedger", List.mem_filter.mpr ⟨List.mem_of_getElem? (i := 1576) (by decide +kernel), rfl⟩⟩
theorem flX0_9 : FLk RX0 9 RX0 TX0 7 tyX0 1 := ⟨by decide, inX0, tyX0_ok, nmX0, Or.inl (lw_good_in (n := 284) (by decide +kernel) rfl)⟩
theorem flX0_15 : FLk RX0 15 RX0 TX0 7 tyX0 2 := ⟨by decide, inX0, tyX0_ok, nmX0, Or.inl (lw_good_in (n := 287) (by decide +kernel) rfl)⟩
theorem flX0_18 : FLk RX0 18 RX0 TX0 7 tyX0 3 := ⟨by decide, inX0, tyX0_ok, nmX0, Or.inl (lw_good_in (n := 290) (by decide +kernel) rfl)⟩
theorem flX0_21 : FLk RX0 21 RX0 TX0 7 tyX0 4 := ⟨by decide, inX0, tyX0_ok, nmX0, Or.inl (lw_good_in (n := 292) (by decide +kernel) rfl)⟩
theorem flX0_24 : FLk RX0 24 RX0 TX0 7 tyX0 5 := ⟨by decide, inX0, tyX0_ok, nmX0, Or.inl (lw_good_in (n := 294) (by decide +kernel) rfl)⟩
theorem flX0_27 : FLk RX0 27 RX0 TX0 7 tyX0 6 := ⟨by decide, inX0, tyX0_ok, nmX0, Or.inl (lw_good_in (n := 297) (by decide +kernel) rfl)⟩
theorem flX0_30 : FLk RX0 30 RX0 TX0 7 tyX0 0 := ⟨by decide, inX0, tyX0_ok, nmX0, Or.inl (lw_good_in (n := 281) (by decide +kernel) rfl)⟩
theorem flX1_9 : FLk RX1 9 RX1 TX1 8 tyX1 1 := ⟨by decide, inX1, tyX1_ok, nmX1, Or.inl (lw_good_in (n := 238) (by decide +kernel) rfl)⟩
theorem flX1_15 : FLk RX1 15 RX1 TX1 8 tyX1 2 := ⟨by decide, inX1, tyX1_ok, nmX1, Or.inl (lw_good_in (n := 241) (by decide +kernel) rfl)⟩
theorem flX1_18 : FLk RX1 18 RX1 TX1 8 tyX1 3 := ⟨by decide, inX1, tyX1_ok, nmX1, Or.inl (lw_good_in (n := 243) (by decide +kernel) rfl)⟩
theorem flX1_21 : FLk RX1 21 RX1 TX1 8 tyX1 4 := ⟨by decide, inX1, tyX1_ok, nmX1, Or.inl (lw_good_in (n := 246) (by decide +kernel) rfl)⟩
theorem flX1_24 : FLk RX1 24 RX1 TX1 8 tyX1 5 := ⟨by decide, inX1, tyX1_ok, nmX1, Or.inl (lw_good_in (n := 248) (by decide +kernel) rfl)⟩
theorem flX1_27 : FLk RX1 27 RX1 TX1 8 tyX1 6 := ⟨by decide, inX1, tyX1_ok, nmX1, Or.inl (lw_good_in (n := 251) (by decide +kernel) rfl)⟩
theorem flX1_31 : FLk RX1 31 RX1 TX1 8 tyX1 7 := ⟨by decide, inX1, tyX1_ok, nmX1, Or.inl (lw_good_in (n := 253) (by decide +kernel) rfl)⟩
theorem flX1_34 : FLk RX1 34 RX1 TX1 8 tyX1 0 := ⟨by decide, inX1, tyX1_ok, nmX1, Or.inl (lw_good_in (n := 235) (by decide +kernel) rfl)⟩
theorem flX2_11 : FLk RX2 11 RX2 TX2 3 tyX2 0 := ⟨by decide, inX2, tyX2_ok, nmX2, Or.inl (lw_good_in (n := 349) (by decide +kernel) rfl)⟩
theorem flX2_18 : FLk RX2 18 RX2 TX2 3 tyX2 1 := ⟨by decide, inX2, tyX2_ok, nmX2, Or.inl (lw_good_in (n := 350) (by decide +kernel) rfl)⟩
theorem flX2_22 : FLk RX2 22 RX2 TX2 3 tyX2 2 := ⟨by decide, inX2, tyX2_ok, nmX2, Or.inl (lw_good_in (n := 351) (by decide +kernel) rfl)⟩
theorem flX3_9 : FLk RX3 9 RX3 TX3 4 tyX3 1 := ⟨by decide, inX3, tyX3_ok, nmX3, Or.inl (lw_good_in (n := 127) (by decide +kernel) rfl)⟩
theorem flX3_15 : FLk RX3 15 RX3 TX3 4 tyX3 2 := ⟨by decide, inX3, tyX3_ok, nmX3, Or.inl (lw_good_in (n := 129) (by decide +kernel) rfl)⟩
theorem flX3_18 : FLk RX3 18 RX3 TX3 4 tyX3 3 := ⟨by decide, inX3, tyX3_ok, nmX3, Or.inl (lw_good_in (n := 131) (by decide +kernel) rfl)⟩
theorem flX3_21 : FLk RX3 21 RX3 TX3 4 tyX3 0 := ⟨by decide, inX3, tyX3_ok, nmX3, Or.inl (lw_good_in (n := 123) (by decide +kernel) rfl)⟩
theorem flX4_9 : FLk RX4 9 RX4 TX4 9 tyX4 6 := ⟨by decide, inX4, tyX4_ok, nmX4, Or.inl (lw_good_in (n := 163) (by decide +kernel) rfl)⟩
theorem flX4_15 : FLk RX4 15 RX4 TX4 9 tyX4 7 := ⟨by decide, inX4, tyX4_ok, nmX4, Or.inl (lw_good_in (n := 164) (by decide +kernel) rfl)⟩
theorem flX4_21 : FLk RX4 21 RX4 TX4 9 tyX4 8 := ⟨by decide, inX4, tyX4_ok, nmX4, Or.inl (lw_good_in (n := 165) (by decide +kernel) rfl)⟩
theorem flX4_28 : FLk RX4 28 RX4 TX4 9 tyX4 0 := ⟨by decide, inX4, tyX4_ok, nmX4, Or.inl (lw_good_in (n := 149) (by decide +kernel) rfl)⟩
theorem flX4_33 : FLk RX4 33 RX4 TX4 9 tyX4 1 := ⟨by decide, inX4, tyX4_ok, nmX4, Or.inl (lw_good_in (n := 152) (by decide +kernel) rfl)⟩
theorem flX4_37 : FLk RX4 37 RX4 TX4 9 tyX4 2 := ⟨by decide, inX4, tyX4_ok, nmX4, Or.inl (lw_good_in (n := 154) (by decide +kernel) rfl)⟩
theorem flX4_40 : FLk RX4 40 RX4 TX4 9 tyX4 3 := ⟨by decide, inX4, tyX4_ok, nmX4, Or.inl (lw_good_in (n := 156) (by decide +kernel) rfl)⟩
theorem flX4_43 : FLk RX4 43 RX4 TX4 9 tyX4 4 := ⟨by decide, inX4, tyX4_ok, nmX4, Or.inl (lw_good_in (n := 158) (by decide +kernel) rfl)⟩
theorem flX4_46 : FLk RX4 46 RX4 TX4 9 tyX4 5 := ⟨by decide, inX4, tyX4_ok, nmX4, Or.inl (lw_good_in (n := 160) (by decide +kernel) rfl)⟩
theorem flX4_49 : FLk RX4 49 RX3 TX3 4 tyX3 0 := ⟨by decide, inX3, tyX3_ok, nmX3, Or.inr ⟨"CashLedger", List.mem_filter.mpr ⟨List.mem_of_getElem? (i := 124) (by decide +kernel), rfl⟩⟩⟩
theorem flX5_9 : FLk RX5 9 RX5 TX5 11 tyX5 0 := ⟨by decide, inX5, tyX5_ok, nmX5, Or.inl (lw_good_in (n := 187) (by decide +kernel) rfl)⟩
theorem flX5_18 : FLk RX5 18 RX5 TX5 11 tyX5 6 := ⟨by decide, inX5, tyX5_ok, nmX5, Or.inl (lw_good_in (n := 193) (by decide +kernel) rfl)⟩
theorem flX5_33 : FLk RX5 33 RX5 TX5 11 tyX5 4 := ⟨by decide, inX5, tyX5_ok, nmX5, Or.inl (lw_good_in (n := 191) (by decide +kernel) rfl)⟩
theorem flX5_37 : FLk RX5 37 RX5 TX5 11 tyX5 3 := ⟨by decide, inX5, tyX5_ok, nmX5, Or.inl (lw_good_in (n := 190) (by decide +kernel) rfl)⟩
theorem flX5_46 : FLk RX5 46 RX5 TX5 11 tyX5 1 := ⟨by decide, inX5, tyX5_ok, nmX5, Or.inl (lw_good_in (n := 188) (by decide +kernel) rfl)⟩
theorem flX5_52 : FLk RX5 52 RX5 TX5 11 tyX5 7 := ⟨by decide, inX5, tyX5_ok, nmX5, Or.inl (lw_good_in (n := 194) (by decide +kernel) rfl)⟩
theorem flX5_56 : FLk RX5 56 RX5 TX5 11 tyX5 8 := ⟨by decide, inX5, tyX5_ok, nmX5, Or.inl (lw_good_in (n := 195) (by decide +kernel) rfl)⟩
theorem flX5_59 : FLk RX5 59 RX5 TX5 11 tyX5 9 := ⟨by decide, inX5, tyX5_ok, nmX5, Or.inl (lw_good_in (n := 196) (by decide +kernel) rfl)⟩
theorem flX5_62 : FLk RX5 62 RX5 TX5 11 tyX5 10 := ⟨by decide, inX5, tyX5_ok, nmX5, Or.inl (lw_good_in (n := 197) (by decide +kernel) rfl)⟩
theorem flX5_65 : FLk RX5 65 RX5 TX5 11 tyX5 2 := ⟨by decide, inX5, tyX5_ok, nmX5, Or.inl (lw_good_in (n := 189) (by decide +kernel) rfl)⟩
theorem flX5_106 : FLk RX5 106 RX4 TX4 9 tyX4 0 := ⟨by decide, inX4, tyX4_ok, nmX4, Or.inr ⟨"CashLedger", List.mem_filter.mpr ⟨List.mem_of_getElem? (i := 151) (by decide +kernel), rfl⟩⟩⟩
theorem flX5_109 : FLk RX5 109 RX4 TX4 9 tyX4 1 := ⟨by decide, inX4, tyX4_ok, nmX4, Or.inr ⟨"CashLedger", List.mem_filter.mpr ⟨List.mem_of_getElem? (i := 153) (by decide +kernel), rfl⟩⟩⟩
theorem flX5_112 : FLk RX5 112 RX4 TX4 9 tyX4 2 := ⟨by decide, inX4, tyX4_ok, nmX4, Or.inr ⟨"CashLedger", List.mem_filter.mpr ⟨List.mem_of_getElem? (i := 155) (by decide +kernel), rfl⟩⟩⟩
theorem flX5_115 : FLk RX5 115 RX4 TX4 9 tyX4 3 := ⟨by decide, inX4, tyX4_ok, nmX4, Or.inr ⟨"CashLedger", List.mem_filter.mpr ⟨List.mem_of_getElem? (i := 157) (by decide +kernel), rfl⟩⟩⟩
theorem flX5_118 : FLk RX5 118 RX4 TX4 9 tyX4 4 := ⟨by decide, inX4, tyX4_ok, nmX4, Or.inr ⟨"CashLedger", List.mem_filter.mpr ⟨List.mem_of_getElem? (i := 159) (by decide +kernel), rfl⟩⟩⟩
theorem flX5_121 : FLk RX5 121 RX4 TX4 9 tyX4 5 := ⟨by decide, inX4, tyX4_ok, nmX4, Or.inr ⟨"CashLedger", List.mem_filter.mpr ⟨List.mem_of_getElem? (i := 161) (by decide +kernel), rfl⟩⟩⟩
theorem flX5_133 : FLk RX5 133 RX4 TX4 9 tyX4 8 := ⟨by decide, inX4, tyX4_ok, nmX4, Or.inr ⟨"CashLedger", List.mem_filter.mpr ⟨List.mem_of_getElem? (i := 167) (by decide +kernel), rfl⟩⟩⟩
theorem flX5_137 : FLk RX5 137 RX3 TX3 4 tyX3 0 := ⟨by decide, inX3, tyX3_ok, nmX3, Or.inr ⟨"CashLedger", List.mem_filter.mpr ⟨List.mem_of_getElem? (i := 126) (by decide +kernel), rfl⟩⟩⟩
theorem flX5_148 : FLk RX5 148 RX5 TX5 11 tyX5 5 := ⟨by decide, inX5, tyX5_ok, nmX5, Or.inl (lw_good_in (n := 192) (by decide +kernel) rfl)⟩
theorem flX6_12 : FLk RX6 12 RX6 TX6 6 tyX6 0 := ⟨by decide, inX6, tyX6_ok, nmX6, Or.inl (lw_good_in (n := 315) (by decide +kernel) rfl)⟩
theorem flX6_21 : FLk RX6 21 RX6 TX6 6 tyX6 1 := ⟨by decide, inX6, tyX6_ok, nmX6, Or.inl (lw_good_in (n := 317) (by decide +kernel) rfl)⟩
theorem flX6_28 : FLk RX6 28 RX6 TX6 6 tyX6 2 := ⟨by decide, inX6, tyX6_ok, nmX6, Or.inl (lw_good_in (n := 319) (by decide +kernel) rfl)⟩
theorem flX6_32 : FLk RX6 32 RX6 TX6 6 tyX6 3 := ⟨by decide, inX6, tyX6_ok, nmX6, Or.inl (lw_good_in (n := 321) (by decide +kernel) rfl)⟩
theorem flX6_36 : FLk RX6 36 RX1 TX1 8 tyX1 0 := ⟨by decide, inX1, tyX1_ok, nmX1, Or.inr ⟨"CashLedger", List.mem_filter.mpr ⟨List.mem_of_getElem? (i := 236) (by decide +kernel), rfl⟩⟩⟩
theorem flX6_40 : FLk RX6 40 RX0 TX0 7 tyX0 0 := ⟨by decide, inX0, tyX0_ok, nmX0, Or.inr ⟨"CashLedger", List.mem_filter.mpr ⟨List.mem_of_getElem? (i := 282) (by decide +kernel), rfl⟩⟩⟩
theorem flX6_41 : FLk RX6 41 RX4 TX4 9 tyX4 8 := ⟨by decide, inX4, tyX4_ok, nmX4, Or.inr ⟨"CashLedger", List.mem_filter.mpr ⟨List.mem_of_getElem? (i := 166) (by decide +kernel), rfl⟩⟩⟩
theorem flX6_48 : FLk RX6 48 RX6 TX6 6 tyX6 4 := ⟨by decide, inX6, tyX6_ok, nmX6, Or.inl (lw_good_in (n := 323) (by decide +kernel) rfl)⟩
theorem flX6_51 : FLk RX6 51 RX4 TX4 9 tyX4 0 := ⟨by decide, inX4, tyX4_ok, nmX4, Or.inr ⟨"CashLedger", List.mem_filter.mpr ⟨List.mem_of_getElem? (i := 150) (by decide +kernel), rfl⟩⟩⟩
theorem flX6_54 : FLk RX6 54 RX6 TX6 6 tyX6 5 := ⟨by decide, inX6, tyX6_ok, nmX6, Or.inl (lw_good_in (n := 325) (by decide +kernel) rfl)⟩
theorem flX6_73 : FLk RX6 73 RX1 TX1 8 tyX1 1 := ⟨by decide, inX1, tyX1_ok, nmX1, Or.inr ⟨"CashLedger", List.mem_filter.mpr ⟨List.mem_of_getElem? (i := 239) (by decide +kernel), rfl⟩⟩⟩
theorem flX6_76 : FLk RX6 76 RX1 TX1 8 tyX1 3 := ⟨by decide, inX1, tyX1_ok, nmX1, Or.inr ⟨"CashLedger", List.mem_filter.mpr ⟨List.mem_of_getElem? (i := 244) (by decide +kernel), rfl⟩⟩⟩
theorem flX6_79 : FLk RX6 79 RX1 TX1 8 tyX1 5 := ⟨by decide, inX1, tyX1_ok, nmX1, Or.inr ⟨"CashLedger", List.mem_filter.mpr ⟨List.mem_of_getElem? (i := 249) (by decide +kernel), rfl⟩⟩⟩
theorem flX6_117 : FLk RX6 117 RX0 TX0 7 tyX0 2 := ⟨by decide, inX0, tyX0_ok, nmX0, Or.inr ⟨"CashLedger", List.mem_filter.mpr ⟨List.mem_of_getElem? (i := 289) (by decide +kernel), rfl⟩⟩⟩
theorem flX6_120 : FLk RX6 120 RX0 TX0 7 tyX0 1 := ⟨by decide, inX0, tyX0_ok, nmX0, Or.inr ⟨"CashLedger", List.mem_filter.mpr ⟨List.mem_of_getElem? (i := 285) (by decide +kernel), rfl⟩⟩⟩
theorem flX6_123 : FLk RX6 123 RX0 TX0 7 tyX0 5 := ⟨by decide, inX0, tyX0_ok, nmX0, Or.inr ⟨"CashLedger", List.mem_filter.mpr ⟨List.mem_of_getElem? (i := 296) (by decide +kernel), rfl⟩⟩⟩
theorem flX6_126 : FLk RX6 126 RX0 TX0 7 tyX0 6 := ⟨by decide, inX0, tyX0_ok, nmX0, Or.inr ⟨"CashLedger", List.mem_filter.mpr ⟨List.mem_of_getElem? (i := 299) (by decide +kernel), rfl⟩⟩⟩
theorem flX7_9 : FLk RX7 9 RX7 TX7 9 tyX7 0 := ⟨by decide, inX7, tyX7_ok, nmX7, Or.inl (lw_good_in (n := 374) (by decide +kernel) rfl)⟩
theorem flX7_16 : FLk RX7 16 RX7 TX7 9 tyX7 2 := ⟨by decide, inX7, tyX7_ok, nmX7, Or.inl (lw_good_in (n := 376) (by decide +kernel) rfl)⟩
theorem flX7_23 : FLk RX7 23 RX7 TX7 9 tyX7 3 := ⟨by decide, inX7, tyX7_ok, nmX7, Or.inl (lw_good_in (n := 377) (by decide +kernel) rfl)⟩
theorem flX7_30 : FLk RX7 30 RX7 TX7 9 tyX7 4 := ⟨by decide, inX7, tyX7_ok, nmX7, Or.inl (lw_good_in (n := 378) (by decide +kernel) rfl)⟩
theorem flX7_34 : FLk RX7 34 RX7 TX7 9 tyX7 5 := ⟨by decide, inX7, tyX7_ok, nmX7, Or.inl (lw_good_in (n := 379) (by decide +kernel) rfl)⟩
theorem flX7_40 : FLk RX7 40 RX7 TX7 9 tyX7 7 := ⟨by decide, inX7, tyX7_ok, nmX7, Or.inl (lw_good_in (n := 381) (by decide +kernel) rfl)⟩
theorem flX7_44 : FLk RX7 44 RX7 TX7 9 tyX7 8 := ⟨by decide, inX7, tyX7_ok, nmX7, Or.inl (lw_good_in (n := 382) (by decide +kernel) rfl)⟩
theorem flX7_62 : FLk RX7 62 RX7 TX7 9 tyX7 1 := ⟨by decide, inX7, tyX7_ok, nmX7, Or.inl (lw_good_in (n := 375) (by decide +kernel) rfl)⟩
theorem flX7_92 : FLk RX7 92 RX7 TX7 9 tyX7 6 := ⟨by decide, inX7, tyX7_ok, nmX7, Or.inl (lw_good_in (n := 380) (by decide +kernel) rfl)⟩
theorem flX7_96 : FLk RX7 96 RX6 TX6 6 tyX6 1 := ⟨by decide, inX6, tyX6_ok, nmX6, Or.inr ⟨"CashLedger", List.mem_filter.mpr ⟨List.mem_of_getElem? (i := 318) (by decide +kernel), rfl⟩⟩⟩
theorem flX7_100 : FLk RX7 100 RX3 TX3 4 tyX3 0 := ⟨by decide, inX3, tyX3_ok, nmX3, Or.inr ⟨"CashLedger", List.mem_filter.mpr ⟨List.mem_of_getElem? (i := 125) (by decide +kernel), rfl⟩⟩⟩
theorem flX7_110 : FLk RX7 110 RX6 TX6 6 tyX6 0 := ⟨by decide, inX6, tyX6_ok, nmX6, Or.inr ⟨"CashLedger", List.mem_filter.mpr ⟨List.mem_of_getElem? (i := 316) (by decide +kernel), rfl⟩⟩⟩
theorem flX7_114 : FLk RX7 114 RX1 TX1 8 tyX1 0 := ⟨by decide, inX1, tyX1_ok, nmX1, Or.inr ⟨"CashLedger", List.mem_filter.mpr ⟨List.mem_of_getElem? (i := 237) (by decide +kernel), rfl⟩⟩⟩
theorem flX7_121 : FLk RX7 121 RX6 TX6 6 tyX6 4 := ⟨by decide, inX6, tyX6_ok, nmX6, Or.inr ⟨"CashLedger", List.mem_filter.mpr ⟨List.mem_of_getElem? (i := 324) (by decide +kernel), rfl⟩⟩⟩
theorem flX7_131 : FLk RX7 131 RX1 TX1 8 tyX1 6 := ⟨by decide, inX1, tyX1_ok, nmX1, Or.inr ⟨"CashLedger", List.mem_filter.mpr ⟨List.mem_of_getElem? (i := 252) (by decide +kernel), rfl⟩⟩⟩
theorem flX7_135 : FLk RX7 135 RX1 TX1 8 tyX1 5 := ⟨by decide, inX1, tyX1_ok, nmX1, Or.inr ⟨"CashLedger", List.mem_filter.mpr ⟨List.mem_of_getElem? (i := 250) (by decide +kernel), rfl⟩⟩⟩
theorem flX7_138 : FLk RX7 138 RX1 TX1 8 tyX1 3 := ⟨by decide, inX1, tyX1_ok, nmX1, Or.inr ⟨"CashLedger", List.mem_filter.mpr ⟨List.mem_of_getElem? (i := 245) (by decide +kernel), rfl⟩⟩⟩
theorem flX7_147 : FLk RX7 147 RX3 TX3 4 tyX3 2 := ⟨by decide, inX3, tyX3_ok, nmX3, Or.inr ⟨"CashLedger", List.mem_filter.mpr ⟨List.mem_of_getElem? (i := 130) (by decide +kernel), rfl⟩⟩⟩
theorem flX7_150 : FLk RX7 150 RX3 TX3 4 tyX3 3 := ⟨by decide, inX3, tyX3_ok, nmX3, Or.inr ⟨"CashLedger", List.mem_filter.mpr ⟨List.mem_of_getElem? (i := 132) (by decide +kernel), rfl⟩⟩⟩
theorem flX7_154 : FLk RX7 154 RX6 TX6 6 tyX6 2 := ⟨by decide, inX6, tyX6_ok, nmX6, Or.inr ⟨"CashLedger", List.mem_filter.mpr ⟨List.mem_of_getElem? (i := 320) (by decide +kernel), rfl⟩⟩⟩
theorem flX7_158 : FLk RX7 158 RX0 TX0 7 tyX0 0 := ⟨by decide, inX0, tyX0_ok, nmX0, Or.inr ⟨"CashLedger", List.mem_filter.mpr ⟨List.mem_of_getElem? (i := 283) (by decide +kernel), rfl⟩⟩⟩
theorem flX7_167 : FLk RX7 167 RX0 TX0 7 tyX0 2 := ⟨by decide, inX0, tyX0_ok, nmX0, Or.inr ⟨"CashLedger", List.mem_filter.mpr ⟨List.mem_of_getElem? (i := 288) (by decide +kernel), rfl⟩⟩⟩
theorem flX7_170 : FLk RX7 170 RX0 TX0 7 tyX0 5 := ⟨by decide, inX0, tyX0_ok, nmX0, Or.inr ⟨"CashLedger", List.mem_filter.mpr ⟨List.mem_of_getElem? (i := 295) (by decide +kernel), rfl⟩⟩⟩
theorem flX7_177 : FLk RX7 177 RX0 TX0 7 tyX0 6 := ⟨by decide, inX0, tyX0_ok, nmX0, Or.inr ⟨"CashLedger", List.mem_filter.mpr ⟨List.mem_of_getElem? (i := 298) (by decide +kernel), rfl⟩⟩⟩
theorem flX7_198 : FLk RX7 198 RX6 TX6 6 tyX6 3 := ⟨by decide, inX6, tyX6_ok, nmX6, Or.inr ⟨"CashLedger", List.mem_filter.mpr ⟨List.mem_of_getElem? (i := 322) (by decide +kernel), rfl⟩⟩⟩
theorem flX7_202 : FLk RX7 202 RX6 TX6 6 tyX6 5 := ⟨by decide, inX6, tyX6_ok, nmX6, Or.inr ⟨"CashLedger", List.mem_filter.mpr ⟨List.mem_of_getElem? (i := 326) (by decide +kernel), rfl⟩⟩⟩
theorem flX7_205 : FLk RX7 205 RX2 TX2 3 tyX2 2 := ⟨by decide, inX2, tyX2_ok, nmX2, Or.inr ⟨"CashLedger", List.mem_filter.mpr ⟨List.mem_of_getElem? (i := 352) (by decide +kernel), rfl⟩⟩⟩
theorem flX7_225 : FLk RX7 225 RX4 TX4 9 tyX4 5 := ⟨by decide, inX4, tyX4_ok, nmX4, Or.inr ⟨"CashLedger", List.mem_filter.mpr ⟨List.mem_of_getElem? (i := 162) (by decide +kernel), rfl⟩⟩⟩
theorem flX7_235 : FLk RX7 235 RX1 TX1 8 tyX1 1 := ⟨by decide, inX1, tyX1_ok, nmX1, Or.inr ⟨"CashLedger", List.mem_filter.mpr ⟨List.mem_of_getElem? (i := 240) (by decide +kernel), rfl⟩⟩⟩
theorem flX7_238 : FLk RX7 238 RX1 TX1 8 tyX1 2 := ⟨by decide, inX1, tyX1_ok, nmX1, Or.inr ⟨"CashLedger", List.mem_filter.mpr ⟨List.mem_of_getElem? (i := 242) (by decide +kernel), rfl⟩⟩⟩
theorem flX7_241 : FLk RX7 241 RX1 TX1 8 tyX1 4 := ⟨by decide, inX1, tyX1_ok, nmX1, Or.inr ⟨"CashLedger", List.mem_filter.mpr ⟨List.mem_of_getElem? (i := 247) (by decide +kernel), rfl⟩⟩⟩
theorem flX7_244 : FLk RX7 244 RX1 TX1 8 tyX1 7 := ⟨by decide, inX1, tyX1_ok, nmX1, Or.inr ⟨"CashLedger", List.mem_filter.mpr ⟨List.mem_of_getElem? (i := 254) (by decide +kernel), rfl⟩⟩⟩
theorem flX7_269 : FLk RX7 269 RX3 TX3 4 tyX3 1 := ⟨by decide, inX3, tyX3_ok, nmX3, Or.inr ⟨"CashLedger", List.mem_filter.mpr ⟨List.mem_of_getElem? (i := 128) (by decide +kernel), rfl⟩⟩⟩
theorem flX7_281 : FLk RX7 281 RX0 TX0 7 tyX0 1 := ⟨by decide, inX0, tyX0_ok, nmX0, Or.inr ⟨"CashLedger", List.mem_filter.mpr ⟨List.mem_of_getElem? (i := 286) (by decide +kernel), rfl⟩⟩⟩
theorem flX7_284 : FLk RX7 284 RX0 TX0 7 tyX0 3 := ⟨by decide, inX0, tyX0_ok, nmX0, Or.inr ⟨"CashLedger", List.mem_filter.mpr ⟨List.mem_of_getElem? (i := 291) (by decide +kernel), rfl⟩⟩⟩
theorem flX7_287 : FLk RX7 287 RX0 TX0 7 tyX0 4 := ⟨by decide, inX0, tyX0_ok, nmX0, Or.inr ⟨"CashLedger", List.mem_filter.mpr ⟨List.mem_of_getElem? (i := 293) (by decide +kernel), rfl⟩⟩⟩
