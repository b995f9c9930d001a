/-! 38: rooms, links, constants and classes of the JDK's methods, of the Book and of the law -/
abbrev rmJ5_init_d00df : Room := { frames := 1, cells := 1, slots := 16, locals := 20 }
theorem lcJ5_init_d00df : LkC yJ5_init_d00df cJ5_init_d00df 2 none 1 := ⟨lw_good_in (n := 809) (by decide +kernel) rfl, lw_good_in (n := 92) (by decide +kernel) rfl, ⟨by decide +kernel, by decide +kernel⟩, by decide +kernel⟩
theorem liJ5_init_d00df : Cond.instanceMethod yJ5_init_d00df ∈ lw_good := lw_good_in (n := 808) (by decide +kernel) rfl
abbrev rmJ5_init_a7421 : Room := { frames := 5, cells := 2, slots := 1200, locals := 113 }
theorem lcJ5_init_a7421 : LkC yJ5_init_a7421 cJ5_init_a7421 5 none 1 := ⟨lw_good_in (n := 1077) (by decide +kernel) rfl, lw_good_in (n := 92) (by decide +kernel) rfl, ⟨by decide +kernel, by decide +kernel⟩, by decide +kernel⟩
theorem liJ5_init_a7421 : Cond.instanceMethod yJ5_init_a7421 ∈ lw_good := lw_good_in (n := 1076) (by decide +kernel) rfl
abbrev rmJ5_length_8abf5 : Room := { frames := 0, cells := 0, slots := 0, locals := 0 }
theorem lcJ5_length_8abf5 : LkC yJ5_length_8abf5 cJ5_length_8abf5 1 (some .int) 0 := ⟨lw_good_in (n := 967) (by decide +kernel) rfl, lw_good_in (n := 92) (by decide +kernel) rfl, ⟨by decide +kernel, by decide +kernel⟩, by decide +kernel⟩
theorem liJ5_length_8abf5 : Cond.instanceMethod yJ5_length_8abf5 ∈ lw_good := lw_good_in (n := 961) (by decide +kernel) rfl
abbrev rmJ5_ensureCapacityInternal_d00df : Room := { frames := 3, cells := 1, slots := 1000, locals := 69 }
theorem lcJ5_ensureCapacityInternal_d00df : LkC yJ5_ensureCapacityInternal_d00df cJ5_ensureCapacityInternal_d00df 3 none 1 := ⟨lw_good_in (n := 847) (by decide +kernel) rfl, lw_good_in (n := 92) (by decide +kernel) rfl, ⟨by decide +kernel, by decide +kernel⟩, by decide +kernel⟩
theorem liJ5_ensureCapacityInternal_d00df : Cond.instanceMethod yJ5_ensureCapacityInternal_d00df ∈ lw_good := lw_good_in (n := 846) (by decide +kernel) rfl
abbrev rmJ5_newCapacity_0f7a4 : Room := { frames := 2, cells := 0, slots := 0, locals := 44 }
theorem lcJ5_newCapacity_0f7a4 : LkC yJ5_newCapacity_0f7a4 cJ5_newCapacity_0f7a4 6 (some .int) 1 := ⟨lw_good_in (n := 851) (by decide +kernel) rfl, lw_good_in (n := 92) (by decide +kernel) rfl, ⟨by decide +kernel, by decide +kernel⟩, by decide +kernel⟩
theorem liJ5_newCapacity_0f7a4 : Cond.instanceMethod yJ5_newCapacity_0f7a4 ∈ lw_good := lw_good_in (n := 850) (by decide +kernel) rfl
abbrev rmJ5_append_cf1ce : Room := { frames := 4, cells := 1, slots := 1000, locals := 91 }
theorem lcJ5_append_cf1ce : LkC yJ5_append_cf1ce cJ5_append_cf1ce 3 (some (.object "java/lang/AbstractStringBuilder")) 1 := ⟨lw_good_in (n := 839) (by decide +kernel) rfl, lw_good_in (n := 92) (by decide +kernel) rfl, ⟨by decide +kernel, by decide +kernel⟩, by decide +kernel⟩
theorem liJ5_append_cf1ce : Cond.instanceMethod yJ5_append_cf1ce ∈ lw_good := lw_good_in (n := 838) (by decide +kernel) rfl
abbrev rmJ5_append_3fe6f : Room := { frames := 4, cells := 1, slots := 1000, locals := 91 }
theorem lcJ5_append_3fe6f : LkC yJ5_append_3fe6f cJ5_append_3fe6f 2 (some (.object "java/lang/AbstractStringBuilder")) 1 := ⟨lw_good_in (n := 1090) (by decide +kernel) rfl, lw_good_in (n := 92) (by decide +kernel) rfl, ⟨by decide +kernel, by decide +kernel⟩, by decide +kernel⟩
theorem liJ5_append_3fe6f : Cond.instanceMethod yJ5_append_3fe6f ∈ lw_good := lw_good_in (n := 1089) (by decide +kernel) rfl
abbrev rmJ5_append_c97b9 : Room := { frames := 4, cells := 1, slots := 1000, locals := 91 }
theorem lcJ5_append_c97b9 : LkC yJ5_append_c97b9 cJ5_append_c97b9 4 (some (.object "java/lang/AbstractStringBuilder")) 1 := ⟨lw_good_in (n := 923) (by decide +kernel) rfl, lw_good_in (n := 92) (by decide +kernel) rfl, ⟨by decide +kernel, by decide +kernel⟩, by decide +kernel⟩
theorem liJ5_append_c97b9 : Cond.instanceMethod yJ5_append_c97b9 ∈ lw_good := lw_good_in (n := 922) (by decide +kernel) rfl
abbrev rmJ5_getValue_6d5f1 : Room := { frames := 0, cells := 0, slots := 0, locals := 0 }
theorem lcJ5_getValue_6d5f1 : LkC yJ5_getValue_6d5f1 cJ5_getValue_6d5f1 1 (some (.array .byte)) 0 := ⟨lw_good_in (n := 959) (by decide +kernel) rfl, lw_good_in (n := 92) (by decide +kernel) rfl, ⟨by decide +kernel, by decide +kernel⟩, by decide +kernel⟩
theorem liJ5_getValue_6d5f1 : Cond.instanceMethod yJ5_getValue_6d5f1 ∈ lw_good := lw_good_in (n := 956) (by decide +kernel) rfl
abbrev rmJ5_isLatin1_aae02 : Room := { frames := 0, cells := 0, slots := 0, locals := 0 }
theorem lcJ5_isLatin1_aae02 : LkC yJ5_isLatin1_aae02 cJ5_isLatin1_aae02 1 (some .boolean) 0 := ⟨lw_good_in (n := 866) (by decide +kernel) rfl, lw_good_in (n := 92) (by decide +kernel) rfl, ⟨by decide +kernel, by decide +kernel⟩, by decide +kernel⟩
theorem liJ5_isLatin1_aae02 : Cond.instanceMethod yJ5_isLatin1_aae02 ∈ lw_good := lw_good_in (n := 863) (by decide +kernel) rfl
abbrev rmJ5_inflateIfNeededFor_a7421 : Room := { frames := 1, cells := 0, slots := 0, locals := 20 }
theorem lcJ5_inflateIfNeededFor_a7421 : LkC yJ5_inflateIfNeededFor_a7421 cJ5_inflateIfNeededFor_a7421 2 none 1 := ⟨lw_good_in (n := 890) (by decide +kernel) rfl, lw_good_in (n := 92) (by decide +kernel) rfl, ⟨by decide +kernel, by decide +kernel⟩, by decide +kernel⟩
theorem liJ5_inflateIfNeededFor_a7421 : Cond.instanceMethod yJ5_inflateIfNeededFor_a7421 ∈ lw_good := lw_good_in (n := 889) (by decide +kernel) rfl
abbrev rmJ5_putStringAt_47b60 : Room := { frames := 2, cells := 0, slots := 0, locals := 63 }
theorem lcJ5_putStringAt_47b60 : LkC yJ5_putStringAt_47b60 cJ5_putStringAt_47b60 3 none 2 := ⟨lw_good_in (n := 886) (by decide +kernel) rfl, lw_good_in (n := 92) (by decide +kernel) rfl, ⟨by decide +kernel, by decide +kernel⟩, by decide +kernel⟩
theorem liJ5_putStringAt_47b60 : Cond.instanceMethod yJ5_putStringAt_47b60 ∈ lw_good := lw_good_in (n := 885) (by decide +kernel) rfl
abbrev rmJ6_getChars_ba4f3 : Room := { frames := 0, cells := 0, slots := 0, locals := 0 }
theorem lcJ6_getChars_ba4f3 : LkC yJ6_getChars_ba4f3 cJ6_getChars_ba4f3 7 (some .int) 3 := ⟨lw_good_in (n := 929) (by decide +kernel) rfl, lw_good_in (n := 95) (by decide +kernel) rfl, ⟨by decide +kernel, by decide +kernel⟩, by decide +kernel⟩
theorem stJ6_getChars_ba4f3 : Cond.static yJ6_getChars_ba4f3 ∈ lw_good := lw_good_in (n := 928) (by decide +kernel) rfl
abbrev rmJ6_stringSize_0f7a4 : Room := { frames := 0, cells := 0, slots := 0, locals := 0 }
theorem lcJ6_stringSize_0f7a4 : LkC yJ6_stringSize_0f7a4 cJ6_stringSize_0f7a4 4 (some .int) 1 := ⟨lw_good_in (n := 926) (by decide +kernel) rfl, lw_good_in (n := 95) (by decide +kernel) rfl, ⟨by decide +kernel, by decide +kernel⟩, by decide +kernel⟩
theorem stJ6_stringSize_0f7a4 : Cond.static yJ6_stringSize_0f7a4 ∈ lw_good := lw_good_in (n := 925) (by decide +kernel) rfl
abbrev rmJ6_valueOf_2dffe : Room := { frames := 3, cells := 1, slots := 1, locals := 61 }
theorem lcJ6_valueOf_2dffe : LkC yJ6_valueOf_2dffe cJ6_valueOf_2dffe 1 (some (.object "java/lang/Integer")) 1 := ⟨lw_good_in (n := 718) (by decide +kernel) rfl, lw_good_in (n := 95) (by decide +kernel) rfl, ⟨by decide +kernel, by decide +kernel⟩, by decide +kernel⟩
theorem stJ6_valueOf_2dffe : Cond.static yJ6_valueOf_2dffe ∈ lw_good := lw_good_in (n := 717) (by decide +kernel) rfl
abbrev rmJ6_init_d00df : Room := { frames := 2, cells := 0, slots := 0, locals := 40 }
theorem lcJ6_init_d00df : LkC yJ6_init_d00df cJ6_init_d00df 2 none 1 := ⟨lw_good_in (n := 727) (by decide +kernel) rfl, lw_good_in (n := 95) (by decide +kernel) rfl, ⟨by decide +kernel, by decide +kernel⟩, by decide +kernel⟩
theorem liJ6_init_d00df : Cond.instanceMethod yJ6_init_d00df ∈ lw_good := lw_good_in (n := 726) (by decide +kernel) rfl
abbrev rmJ6_intValue_8abf5 : Room := { frames := 0, cells := 0, slots := 0, locals := 0 }
theorem lcJ6_intValue_8abf5 : LkC yJ6_intValue_8abf5 cJ6_intValue_8abf5 1 (some .int) 0 := ⟨lw_good_in (n := 715) (by decide +kernel) rfl, lw_good_in (n := 95) (by decide +kernel) rfl, ⟨by decide +kernel, by decide +kernel⟩, by decide +kernel⟩
theorem liJ6_intValue_8abf5 : Cond.instanceMethod yJ6_intValue_8abf5 ∈ lw_good := lw_good_in (n := 713) (by decide +kernel) rfl
theorem lsJ6_intValue_8abf5 : LkSel yJ6_intValue_8abf5 := ⟨lw_good_in (n := 713) (by decide +kernel) rfl, lw_good_in (n := 714) (by decide +kernel) rfl⟩
abbrev rmJxd2413_init_da8c8 : Room := { frames := 1, cells := 0, slots := 0, locals := 20 }
theorem lcJxd2413_init_da8c8 : LkC yJxd2413_init_da8c8 cJxd2413_init_da8c8 1 none 0 := ⟨lw_good_in (n := 730) (by decide +kernel) rfl, lw_good_in (n := 94) (by decide +kernel) rfl, ⟨by decide +kernel, by decide +kernel⟩, by decide +kernel⟩
theorem liJxd2413_init_da8c8 : Cond.instanceMethod yJxd2413_init_da8c8 ∈ lw_good := lw_good_in (n := 729) (by decide +kernel) rfl
abbrev rmJ0_init_81219 : Room := { frames := 4, cells := 1, slots := 500, locals := 110 }
theorem lcJ0_init_81219 : LkC yJ0_init_81219 cJ0_init_81219 2 none 1 := ⟨lw_good_in (n := 950) (by decide +kernel) rfl, lw_good_in (n := 76) (by decide +kernel) rfl, ⟨by decide +kernel, by decide +kernel⟩, by decide +kernel⟩
theorem liJ0_init_81219 : Cond.instanceMethod yJ0_init_81219 ∈ lw_good := lw_good_in (n := 949) (by decide +kernel) rfl
theorem liJ0_length_8abf5 : Cond.instanceMethod yJ0_length_8abf5 ∈ lw_good := lw_good_in (n := 441) (by decide +kernel) rfl
theorem liJ0_charAt_5068e : Cond.instanceMethod yJ0_charAt_5068e ∈ lw_good := lw_good_in (n := 451) (by decide +kernel) rfl
abbrev rmJ0_getBytes_840e7 : Room := { frames := 1, cells := 0, slots := 0, locals := 40 }
theorem lcJ0_getBytes_840e7 : LkC yJ0_getBytes_840e7 cJ0_getBytes_840e7 4 none 3 := ⟨lw_good_in (n := 914) (by decide +kernel) rfl, lw_good_in (n := 76) (by decide +kernel) rfl, ⟨by decide +kernel, by decide +kernel⟩, by decide +kernel⟩
theorem liJ0_getBytes_840e7 : Cond.instanceMethod yJ0_getBytes_840e7 ∈ lw_good := lw_good_in (n := 912) (by decide +kernel) rfl
theorem lsJ0_getBytes_840e7 : LkSel yJ0_getBytes_840e7 := ⟨lw_good_in (n := 912) (by decide +kernel) rfl, lw_good_in (n := 913) (by decide +kernel) rfl⟩
abbrev rmJ0_init_db425 : Room := { frames := 3, cells := 1, slots := 500, locals := 86 }
theorem lcJ0_init_db425 : LkC yJ0_init_db425 cJ0_init_db425 5 none 2 := ⟨lw_good_in (n := 953) (by decide +kernel) rfl, lw_good_in (n := 76) (by decide +kernel) rfl, ⟨by decide +kernel, by decide +kernel⟩, by decide +kernel⟩
theorem liJ0_init_db425 : Cond.instanceMethod yJ0_init_db425 ∈ lw_good := lw_good_in (n := 952) (by decide +kernel) rfl
theorem liJ0_coder_7d493 : Cond.instanceMethod yJ0_coder_7d493 ∈ lw_good := lw_good_in (n := 445) (by decide +kernel) rfl
theorem liJ0_isLatin1_aae02 : Cond.instanceMethod yJ0_isLatin1_aae02 ∈ lw_good := lw_good_in (n := 455) (by decide +kernel) rfl
abbrev rmJ4_init_da8c8 : Room := { frames := 2, cells := 1, slots := 16, locals := 41 }
theorem lcJ4_init_da8c8 : LkC yJ4_init_da8c8 cJ4_init_da8c8 1 none 0 := ⟨lw_good_in (n := 806) (by decide +kernel) rfl, lw_good_in (n := 93) (by decide +kernel) rfl, ⟨by decide +kernel, by decide +kernel⟩, by decide +kernel⟩
theorem liJ4_init_da8c8 : Cond.instanceMethod yJ4_init_da8c8 ∈ lw_good := lw_good_in (n := 805) (by decide +kernel) rfl
abbrev rmJ4_init_a7421 : Room := { frames := 6, cells := 2, slots := 1200, locals := 137 }
theorem lcJ4_init_a7421 : LkC yJ4_init_a7421 cJ4_init_a7421 2 none 1 := ⟨lw_good_in (n := 1074) (by decide +kernel) rfl, lw_good_in (n := 93) (by decide +kernel) rfl, ⟨by decide +kernel, by decide +kernel⟩, by decide +kernel⟩
theorem liJ4_init_a7421 : Cond.instanceMethod yJ4_init_a7421 ∈ lw_good := lw_good_in (n := 1073) (by decide +kernel) rfl
abbrev rmJ4_append_15ec4 : Room := { frames := 5, cells := 1, slots := 1000, locals := 113 }
theorem lcJ4_append_15ec4 : LkC yJ4_append_15ec4 cJ4_append_15ec4 2 (some (.object "java/lang/StringBuilder")) 1 := ⟨lw_good_in (n := 836) (by decide +kernel) rfl, lw_good_in (n := 93) (by decide +kernel) rfl, ⟨by decide +kernel, by decide +kernel⟩, by decide +kernel⟩
theorem liJ4_append_15ec4 : Cond.instanceMethod yJ4_append_15ec4 ∈ lw_good := lw_good_in (n := 834) (by decide +kernel) rfl
theorem lsJ4_append_15ec4 : LkSel yJ4_append_15ec4 := ⟨lw_good_in (n := 834) (by decide +kernel) rfl, lw_good_in (n := 835) (by decide +kernel) rfl⟩
abbrev rmJ4_append_cf468 : Room := { frames := 5, cells := 1, slots := 1000, locals := 112 }
theorem lcJ4_append_cf468 : LkC yJ4_append_cf468 cJ4_append_cf468 2 (some (.object "java/lang/StringBuilder")) 1 := ⟨lw_good_in (n := 1087) (by decide +kernel) rfl, lw_good_in (n := 93) (by decide +kernel) rfl, ⟨by decide +kernel, by decide +kernel⟩, by decide +kernel⟩
theorem liJ4_append_cf468 : Cond.instanceMethod yJ4_append_cf468 ∈ lw_good := lw_good_in (n := 1085) (by decide +kernel) rfl
theorem lsJ4_append_cf468 : LkSel yJ4_append_cf468 := ⟨lw_good_in (n := 1085) (by decide +kernel) rfl, lw_good_in (n := 1086) (by decide +kernel) rfl⟩
abbrev rmJ4_append_bf812 : Room := { frames := 5, cells := 1, slots := 1000, locals := 114 }
theorem lcJ4_append_bf812 : LkC yJ4_append_bf812 cJ4_append_bf812 2 (some (.object "java/lang/StringBuilder")) 1 := ⟨lw_good_in (n := 920) (by decide +kernel) rfl, lw_good_in (n := 93) (by decide +kernel) rfl, ⟨by decide +kernel, by decide +kernel⟩, by decide +kernel⟩
theorem liJ4_append_bf812 : Cond.instanceMethod yJ4_append_bf812 ∈ lw_good := lw_good_in (n := 918) (by decide +kernel) rfl
theorem lsJ4_append_bf812 : LkSel yJ4_append_bf812 := ⟨lw_good_in (n := 918) (by decide +kernel) rfl, lw_good_in (n := 919) (by decide +kernel) rfl⟩
abbrev rmJ4_toString_0e30d : Room := { frames := 5, cells := 2, slots := 504, locals := 131 }
theorem lcJ4_toString_0e30d : LkC yJ4_toString_0e30d cJ4_toString_0e30d 1 (some (.object "java/lang/String")) 0 := ⟨lw_good_in (n := 945) (by decide +kernel) rfl, lw_good_in (n := 93) (by decide +kernel) rfl, ⟨by decide +kernel, by decide +kernel⟩, by decide +kernel⟩
theorem liJ4_toString_0e30d : Cond.instanceMethod yJ4_toString_0e30d ∈ lw_good := lw_good_in (n := 943) (by decide +kernel) rfl
theorem lsJ4_toString_0e30d : LkSel yJ4_toString_0e30d := ⟨lw_good_in (n := 943) (by decide +kernel) rfl, lw_good_in (n := 944) (by decide +kernel) rfl⟩
abbrev rmJ4_append_cf1ce : Room := { frames := 6, cells := 1, slots := 1000, locals := 134 }
theorem lcJ4_append_cf1ce : LkC yJ4_append_cf1ce cJ4_append_cf1ce 2 (some (.object "java/lang/AbstractStringBuilder")) 1 := ⟨lw_good_in (n := 1081) (by decide +kernel) rfl, lw_good_in (n := 93) (by decide +kernel) rfl, ⟨by decide +kernel, by decide +kernel⟩, by decide +kernel⟩
theorem liJ4_append_cf1ce : Cond.instanceMethod yJ4_append_cf1ce ∈ lw_good := lw_good_in (n := 1080) (by decide +kernel) rfl
abbrev rmJ4_length_8abf5 : Room := { frames := 0, cells := 0, slots := 0, locals := 0 }
theorem lcJ4_length_8abf5 : LkC yJ4_length_8abf5 cJ4_length_8abf5 1 (some .int) 0 := ⟨lw_good_in (n := 965) (by decide +kernel) rfl, lw_good_in (n := 93) (by decide +kernel) rfl, ⟨by decide +kernel, by decide +kernel⟩, by decide +kernel⟩
theorem liJ4_length_8abf5 : Cond.instanceMethod yJ4_length_8abf5 ∈ lw_good := lw_good_in (n := 964) (by decide +kernel) rfl
abbrev rmJ1_canEncode_fc78d : Room := { frames := 0, cells := 0, slots := 0, locals := 0 }
theorem lcJ1_canEncode_fc78d : LkC yJ1_canEncode_fc78d cJ1_canEncode_fc78d 1 (some .boolean) 1 := ⟨lw_good_in (n := 1093) (by decide +kernel) rfl, lw_good_in (n := 77) (by decide +kernel) rfl, ⟨by decide +kernel, by decide +kernel⟩, by decide +kernel⟩
theorem stJ1_canEncode_fc78d : Cond.static yJ1_canEncode_fc78d ∈ lw_good := lw_good_in (n := 1092) (by decide +kernel) rfl
abbrev rmJxa1e45_init_da8c8 : Room := { frames := 1, cells := 0, slots := 0, locals := 20 }
theorem lcJxa1e45_init_da8c8 : LkC yJxa1e45_init_da8c8 cJxa1e45_init_da8c8 1 none 0 := ⟨lw_good_in (n := 576) (by decide +kernel) rfl, lw_good_in (n := 83) (by decide +kernel) rfl, ⟨by decide +kernel, by decide +kernel⟩, by decide +kernel⟩
theorem liJxa1e45_init_da8c8 : Cond.instanceMethod yJxa1e45_init_da8c8 ∈ lw_good := lw_good_in (n := 575) (by decide +kernel) rfl
abbrev rmJxc12de_init_da8c8 : Room := { frames := 2, cells := 0, slots := 0, locals := 40 }
theorem lcJxc12de_init_da8c8 : LkC yJxc12de_init_da8c8 cJxc12de_init_da8c8 1 none 0 := ⟨lw_good_in (n := 573) (by decide +kernel) rfl, lw_good_in (n := 84) (by decide +kernel) rfl, ⟨by decide +kernel, by decide +kernel⟩, by decide +kernel⟩
theorem liJxc12de_init_da8c8 : Cond.instanceMethod yJxc12de_init_da8c8 ∈ lw_good := lw_good_in (n := 572) (by decide +kernel) rfl
abbrev rmJx35411_init_45d68 : Room := { frames := 1, cells := 0, slots := 0, locals := 20 }
theorem lcJx35411_init_45d68 : LkC yJx35411_init_45d68 cJx35411_init_45d68 2 none 1 := ⟨lw_good_in (n := 603) (by decide +kernel) rfl, lw_good_in (n := 91) (by decide +kernel) rfl, ⟨by decide +kernel, by decide +kernel⟩, by decide +kernel⟩
theorem liJx35411_init_45d68 : Cond.instanceMethod yJx35411_init_45d68 ∈ lw_good := lw_good_in (n := 602) (by decide +kernel) rfl
abbrev rmJx35411_hasNext_aae02 : Room := { frames := 0, cells := 0, slots := 0, locals := 0 }
theorem lcJx35411_hasNext_aae02 : LkC yJx35411_hasNext_aae02 cJx35411_hasNext_aae02 1 (some .boolean) 0 := ⟨lw_good_in (n := 627) (by decide +kernel) rfl, lw_good_in (n := 91) (by decide +kernel) rfl, ⟨by decide +kernel, by decide +kernel⟩, by decide +kernel⟩
theorem liJx35411_hasNext_aae02 : Cond.instanceMethod yJx35411_hasNext_aae02 ∈ lw_good := lw_good_in (n := 625) (by decide +kernel) rfl
abbrev rmJx35411_next_0502b : Room := { frames := 1, cells := 0, slots := 0, locals := 20 }
theorem lcJx35411_next_0502b : LkC yJx35411_next_0502b cJx35411_next_0502b 3 (some (.object "java/lang/Object")) 0 := ⟨lw_good_in (n := 636) (by decide +kernel) rfl, lw_good_in (n := 91) (by decide +kernel) rfl, ⟨by decide +kernel, by decide +kernel⟩, by decide +kernel⟩
theorem liJx35411_next_0502b : Cond.instanceMethod yJx35411_next_0502b ∈ lw_good := lw_good_in (n := 634) (by decide +kernel) rfl
abbrev rmJx35411_checkForComodification_da8c8 : Room := { frames := 0, cells := 0, slots := 0, locals := 0 }
theorem lcJx35411_checkForComodification_da8c8 : LkC yJx35411_checkForComodification_da8c8 cJx35411_checkForComodification_da8c8 1 none 0 := ⟨lw_good_in (n := 640) (by decide +kernel) rfl, lw_good_in (n := 91) (by decide +kernel) rfl, ⟨by decide +kernel, by decide +kernel⟩, by decide +kernel⟩
theorem liJx35411_checkForComodification_da8c8 : Cond.instanceMethod yJx35411_checkForComodification_da8c8 ∈ lw_good := lw_good_in (n := 638) (by decide +kernel) rfl
theorem lsJx35411_checkForComodification_da8c8 : LkSel yJx35411_checkForComodification_da8c8 := ⟨lw_good_in (n := 638) (by decide +kernel) rfl, lw_good_in (n := 639) (by decide +kernel) rfl⟩
abbrev rmJx4a65c_init_da8c8 : Room := { frames := 3, cells := 0, slots := 0, locals := 60 }
theorem lcJx4a65c_init_da8c8 : LkC yJx4a65c_init_da8c8 cJx4a65c_init_da8c8 1 none 0 := ⟨lw_good_in (n := 570) (by decide +kernel) rfl, lw_good_in (n := 85) (by decide +kernel) rfl, ⟨by decide +kernel, by decide +kernel⟩, by decide +kernel⟩
theorem liJx4a65c_init_da8c8 : Cond.instanceMethod yJx4a65c_init_da8c8 ∈ lw_good := lw_good_in (n := 569) (by decide +kernel) rfl
abbrev rmJx4a65c_grow_92f84 : Room := { frames := 3, cells := 1, slots := 120, locals := 84 }
theorem lcJx4a65c_grow_92f84 : LkC yJx4a65c_grow_92f84 cJx4a65c_grow_92f84 4 (some (.array (.object "java/lang/Object"))) 1 := ⟨lw_good_in (n := 657) (by decide +kernel) rfl, lw_good_in (n := 85) (by decide +kernel) rfl, ⟨by decide +kernel, by decide +kernel⟩, by decide +kernel⟩
theorem liJx4a65c_grow_92f84 : Cond.instanceMethod yJx4a65c_grow_92f84 ∈ lw_good := lw_good_in (n := 656) (by decide +kernel) rfl
theorem lsJx4a65c_grow_92f84 : LkSel yJx4a65c_grow_92f84 := ⟨lw_good_in (n := 656) (by decide +kernel) rfl, lw_good_in (n := 25) (by decide +kernel) rfl⟩
abbrev rmJx4a65c_grow_d5877 : Room := { frames := 4, cells := 1, slots := 120, locals := 107 }
theorem lcJx4a65c_grow_d5877 : LkC yJx4a65c_grow_d5877 cJx4a65c_grow_d5877 1 (some (.array (.object "java/lang/Object"))) 0 := ⟨lw_good_in (n := 653) (by decide +kernel) rfl, lw_good_in (n := 85) (by decide +kernel) rfl, ⟨by decide +kernel, by decide +kernel⟩, by decide +kernel⟩
theorem liJx4a65c_grow_d5877 : Cond.instanceMethod yJx4a65c_grow_d5877 ∈ lw_good := lw_good_in (n := 652) (by decide +kernel) rfl
theorem lsJx4a65c_grow_d5877 : LkSel yJx4a65c_grow_d5877 := ⟨lw_good_in (n := 652) (by decide +kernel) rfl, lw_good_in (n := 24) (by decide +kernel) rfl⟩
abbrev rmJx4a65c_size_8abf5 : Room := { frames := 0, cells := 0, slots := 0, locals := 0 }
theorem lcJx4a65c_size_8abf5 : LkC yJx4a65c_size_8abf5 cJx4a65c_size_8abf5 1 (some .int) 0 := ⟨lw_good_in (n := 1109) (by decide +kernel) rfl, lw_good_in (n := 85) (by decide +kernel) rfl, ⟨by decide +kernel, by decide +kernel⟩, by decide +kernel⟩
theorem liJx4a65c_size_8abf5 : Cond.instanceMethod yJx4a65c_size_8abf5 ∈ lw_good := lw_good_in (n := 1107) (by decide +kernel) rfl
theorem lsJx4a65c_size_8abf5 : LkSel yJx4a65c_size_8abf5 := ⟨lw_good_in (n := 1107) (by decide +kernel) rfl, lw_good_in (n := 1108) (by decide +kernel) rfl⟩
abbrev rmJx4a65c_isEmpty_aae02 : Room := { frames := 0, cells := 0, slots := 0, locals := 0 }
theorem lcJx4a65c_isEmpty_aae02 : LkC yJx4a65c_isEmpty_aae02 cJx4a65c_isEmpty_aae02 1 (some .boolean) 0 := ⟨lw_good_in (n := 1495) (by decide +kernel) rfl, lw_good_in (n := 85) (by decide +kernel) rfl, ⟨by decide +kernel, by decide +kernel⟩, by decide +kernel⟩
theorem liJx4a65c_isEmpty_aae02 : Cond.instanceMethod yJx4a65c_isEmpty_aae02 ∈ lw_good := lw_good_in (n := 1493) (by decide +kernel) rfl
theorem lsJx4a65c_isEmpty_aae02 : LkSel yJx4a65c_isEmpty_aae02 := ⟨lw_good_in (n := 1493) (by decide +kernel) rfl, lw_good_in (n := 1494) (by decide +kernel) rfl⟩
abbrev rmJx4a65c_elementData_915e3 : Room := { frames := 0, cells := 0, slots := 0, locals := 0 }
theorem lcJx4a65c_elementData_915e3 : LkC yJx4a65c_elementData_915e3 cJx4a65c_elementData_915e3 2 (some (.object "java/lang/Object")) 1 := ⟨lw_good_in (n := 1121) (by decide +kernel) rfl, lw_good_in (n := 85) (by decide +kernel) rfl, ⟨by decide +kernel, by decide +kernel⟩, by decide +kernel⟩
theorem liJx4a65c_elementData_915e3 : Cond.instanceMethod yJx4a65c_elementData_915e3 ∈ lw_good := lw_good_in (n := 1119) (by decide +kernel) rfl
theorem lsJx4a65c_elementData_915e3 : LkSel yJx4a65c_elementData_915e3 := ⟨lw_good_in (n := 1119) (by decide +kernel) rfl, lw_good_in (n := 1120) (by decide +kernel) rfl⟩
abbrev rmJx4a65c_get_915e3 : Room := { frames := 2, cells := 0, slots := 0, locals := 43 }
theorem lcJx4a65c_get_915e3 : LkC yJx4a65c_get_915e3 cJx4a65c_get_915e3 2 (some (.object "java/lang/Object")) 1 := ⟨lw_good_in (n := 1113) (by decide +kernel) rfl, lw_good_in (n := 85) (by decide +kernel) rfl, ⟨by decide +kernel, by decide +kernel⟩, by decide +kernel⟩
theorem liJx4a65c_get_915e3 : Cond.instanceMethod yJx4a65c_get_915e3 ∈ lw_good := lw_good_in (n := 1111) (by decide +kernel) rfl
theorem lsJx4a65c_get_915e3 : LkSel yJx4a65c_get_915e3 := ⟨lw_good_in (n := 1111) (by decide +kernel) rfl, lw_good_in (n := 1112) (by decide +kernel) rfl⟩
abbrev rmJx4a65c_add_72be8 : Room := { frames := 5, cells := 1, slots := 120, locals := 127 }
theorem lcJx4a65c_add_72be8 : LkC yJx4a65c_add_72be8 cJx4a65c_add_72be8 4 none 3 := ⟨lw_good_in (n := 649) (by decide +kernel) rfl, lw_good_in (n := 85) (by decide +kernel) rfl, ⟨by decide +kernel, by decide +kernel⟩, by decide +kernel⟩
theorem liJx4a65c_add_72be8 : Cond.instanceMethod yJx4a65c_add_72be8 ∈ lw_good := lw_good_in (n := 648) (by decide +kernel) rfl
theorem lsJx4a65c_add_72be8 : LkSel yJx4a65c_add_72be8 := ⟨lw_good_in (n := 648) (by decide +kernel) rfl, lw_good_in (n := 23) (by decide +kernel) rfl⟩
abbrev rmJx4a65c_add_9ea2d : Room := { frames := 6, cells := 1, slots := 120, locals := 150 }
theorem lcJx4a65c_add_9ea2d : LkC yJx4a65c_add_9ea2d cJx4a65c_add_9ea2d 2 (some .boolean) 1 := ⟨lw_good_in (n := 645) (by decide +kernel) rfl, lw_good_in (n := 85) (by decide +kernel) rfl, ⟨by decide +kernel, by decide +kernel⟩, by decide +kernel⟩
theorem liJx4a65c_add_9ea2d : Cond.instanceMethod yJx4a65c_add_9ea2d ∈ lw_good := lw_good_in (n := 643) (by decide +kernel) rfl
theorem lsJx4a65c_add_9ea2d : LkSel yJx4a65c_add_9ea2d := ⟨lw_good_in (n := 643) (by decide +kernel) rfl, lw_good_in (n := 644) (by decide +kernel) rfl⟩
abbrev rmJx4a65c_remove_915e3 : Room := { frames := 2, cells := 0, slots := 0, locals := 63 }
theorem lcJx4a65c_remove_915e3 : LkC yJx4a65c_remove_915e3 cJx4a65c_remove_915e3 4 (some (.object "java/lang/Object")) 1 := ⟨lw_good_in (n := 1627) (by decide +kernel) rfl, lw_good_in (n := 85) (by decide +kernel) rfl, ⟨by decide +kernel, by decide +kernel⟩, by decide +kernel⟩
theorem liJx4a65c_remove_915e3 : Cond.instanceMethod yJx4a65c_remove_915e3 ∈ lw_good := lw_good_in (n := 1625) (by decide +kernel) rfl
theorem lsJx4a65c_remove_915e3 : LkSel yJx4a65c_remove_915e3 := ⟨lw_good_in (n := 1625) (by decide +kernel) rfl, lw_good_in (n := 1626) (by decide +kernel) rfl⟩
abbrev rmJx4a65c_fastRemove_b59b0 : Room := { frames := 1, cells := 0, slots := 0, locals := 40 }
theorem lcJx4a65c_fastRemove_b59b0 : LkC yJx4a65c_fastRemove_b59b0 cJx4a65c_fastRemove_b59b0 4 none 2 := ⟨lw_good_in (n := 1631) (by decide +kernel) rfl, lw_good_in (n := 85) (by decide +kernel) rfl, ⟨by decide +kernel, by decide +kernel⟩, by decide +kernel⟩
theorem liJx4a65c_fastRemove_b59b0 : Cond.instanceMethod yJx4a65c_fastRemove_b59b0 ∈ lw_good := lw_good_in (n := 1630) (by decide +kernel) rfl
theorem lsJx4a65c_fastRemove_b59b0 : LkSel yJx4a65c_fastRemove_b59b0 := ⟨lw_good_in (n := 1630) (by decide +kernel) rfl, lw_good_in (n := 61) (by decide +kernel) rfl⟩
abbrev rmJx4a65c_clear_da8c8 : Room := { frames := 0, cells := 0, slots := 0, locals := 0 }
theorem lcJx4a65c_clear_da8c8 : LkC yJx4a65c_clear_da8c8 cJx4a65c_clear_da8c8 4 none 0 := ⟨lw_good_in (n := 1636) (by decide +kernel) rfl, lw_good_in (n := 85) (by decide +kernel) rfl, ⟨by decide +kernel, by decide +kernel⟩, by decide +kernel⟩
theorem liJx4a65c_clear_da8c8 : Cond.instanceMethod yJx4a65c_clear_da8c8 ∈ lw_good := lw_good_in (n := 1634) (by decide +kernel) rfl
theorem lsJx4a65c_clear_da8c8 : LkSel yJx4a65c_clear_da8c8 := ⟨lw_good_in (n := 1634) (by decide +kernel) rfl, lw_good_in (n := 1635) (by decide +kernel) rfl⟩
abbrev rmJx4a65c_iterator_32c93 : Room := { frames := 2, cells := 1, slots := 4, locals := 41 }
theorem lcJx4a65c_iterator_32c93 : LkC yJx4a65c_iterator_32c93 cJx4a65c_iterator_32c93 1 (some (.object "java/util/Iterator")) 0 := ⟨lw_good_in (n := 598) (by decide +kernel) rfl, lw_good_in (n := 85) (by decide +kernel) rfl, ⟨by decide +kernel, by decide +kernel⟩, by decide +kernel⟩
theorem liJx4a65c_iterator_32c93 : Cond.instanceMethod yJx4a65c_iterator_32c93 ∈ lw_good := lw_good_in (n := 596) (by decide +kernel) rfl
theorem lsJx4a65c_iterator_32c93 : LkSel yJx4a65c_iterator_32c93 := ⟨lw_good_in (n := 596) (by decide +kernel) rfl, lw_good_in (n := 597) (by decide +kernel) rfl⟩
abbrev rmJ7_copyOf_1904c : Room := { frames := 2, cells := 1, slots := 120, locals := 63 }
theorem lcJ7_copyOf_1904c : LkC yJ7_copyOf_1904c cJ7_copyOf_1904c 2 (some (.array (.object "java/lang/Object"))) 2 := ⟨lw_good_in (n := 670) (by decide +kernel) rfl, lw_good_in (n := 87) (by decide +kernel) rfl, ⟨by decide +kernel, by decide +kernel⟩, by decide +kernel⟩
theorem stJ7_copyOf_1904c : Cond.static yJ7_copyOf_1904c ∈ lw_good := lw_good_in (n := 669) (by decide +kernel) rfl
abbrev rmJ7_copyOf_6403c : Room := { frames := 1, cells := 1, slots := 120, locals := 40 }
theorem lcJ7_copyOf_6403c : LkC yJ7_copyOf_6403c cJ7_copyOf_6403c 4 (some (.array (.object "java/lang/Object"))) 3 := ⟨lw_good_in (n := 695) (by decide +kernel) rfl, lw_good_in (n := 87) (by decide +kernel) rfl, ⟨by decide +kernel, by decide +kernel⟩, by decide +kernel⟩
theorem stJ7_copyOf_6403c : Cond.static yJ7_copyOf_6403c ∈ lw_good := lw_good_in (n := 694) (by decide +kernel) rfl
abbrev rmJ7_copyOf_9075b : Room := { frames := 1, cells := 1, slots := 1000, locals := 40 }
theorem lcJ7_copyOf_9075b : LkC yJ7_copyOf_9075b cJ7_copyOf_9075b 3 (some (.array .byte)) 2 := ⟨lw_good_in (n := 856) (by decide +kernel) rfl, lw_good_in (n := 87) (by decide +kernel) rfl, ⟨by decide +kernel, by decide +kernel⟩, by decide +kernel⟩
theorem stJ7_copyOf_9075b : Cond.static yJ7_copyOf_9075b ∈ lw_good := lw_good_in (n := 855) (by decide +kernel) rfl
abbrev rmJ7_checkLength_df160 : Room := { frames := 0, cells := 0, slots := 0, locals := 0 }
theorem lcJ7_checkLength_df160 : LkC yJ7_checkLength_df160 cJ7_checkLength_df160 2 none 2 := ⟨lw_good_in (n := 977) (by decide +kernel) rfl, lw_good_in (n := 87) (by decide +kernel) rfl, ⟨by decide +kernel, by decide +kernel⟩, by decide +kernel⟩
theorem stJ7_checkLength_df160 : Cond.static yJ7_checkLength_df160 ∈ lw_good := lw_good_in (n := 976) (by decide +kernel) rfl
abbrev rmJ7_copyOfRange_39247 : Room := { frames := 2, cells := 1, slots := 500, locals := 64 }
theorem lcJ7_copyOfRange_39247 : LkC yJ7_copyOfRange_39247 cJ7_copyOfRange_39247 3 (some (.array .byte)) 3 := ⟨lw_good_in (n := 971) (by decide +kernel) rfl, lw_good_in (n := 87) (by decide +kernel) rfl, ⟨by decide +kernel, by decide +kernel⟩, by decide +kernel⟩
theorem stJ7_copyOfRange_39247 : Cond.static yJ7_copyOfRange_39247 ∈ lw_good := lw_good_in (n := 970) (by decide +kernel) rfl
abbrev rmJ7_copyOfRangeByte_39247 : Room := { frames := 1, cells := 1, slots := 500, locals := 40 }
theorem lcJ7_copyOfRangeByte_39247 : LkC yJ7_copyOfRangeByte_39247 cJ7_copyOfRangeByte_39247 5 (some (.array .byte)) 3 := ⟨lw_good_in (n := 974) (by decide +kernel) rfl, lw_good_in (n := 87) (by decide +kernel) rfl, ⟨by decide +kernel, by decide +kernel⟩, by decide +kernel⟩
theorem stJ7_copyOfRangeByte_39247 : Cond.static yJ7_copyOfRangeByte_39247 ∈ lw_good := lw_good_in (n := 973) (by decide +kernel) rfl
abbrev rmJ15_checkIndex_7cf53 : Room := { frames := 1, cells := 0, slots := 0, locals := 22 }
theorem lcJ15_checkIndex_7cf53 : LkC yJ15_checkIndex_7cf53 cJ15_checkIndex_7cf53 2 (some .int) 2 := ⟨lw_good_in (n := 1116) (by decide +kernel) rfl, lw_good_in (n := 89) (by decide +kernel) rfl, ⟨by decide +kernel, by decide +kernel⟩, by decide +kernel⟩
theorem stJ15_checkIndex_7cf53 : Cond.static yJ15_checkIndex_7cf53 ∈ lw_good := lw_good_in (n := 1115) (by decide +kernel) rfl
abbrev rmJ8_newLength_cabcc : Room := { frames := 1, cells := 0, slots := 0, locals := 21 }
theorem lcJ8_newLength_cabcc : LkC yJ8_newLength_cabcc cJ8_newLength_cabcc 4 (some .int) 3 := ⟨lw_good_in (n := 660) (by decide +kernel) rfl, lw_good_in (n := 86) (by decide +kernel) rfl, ⟨by decide +kernel, by decide +kernel⟩, by decide +kernel⟩
theorem stJ8_newLength_cabcc : Cond.static yJ8_newLength_cabcc ∈ lw_good := lw_good_in (n := 659) (by decide +kernel) rfl
abbrev rmX8_init : Room := { frames := 4, cells := 5, slots := 15, locals := 80 }
theorem lcX8_init : LkC yX8_init cX8_init 1 none 0 := ⟨lw_good_in (n := 778) (by decide +kernel) rfl, lw_good_in (n := 82) (by decide +kernel) rfl, ⟨by decide +kernel, by decide +kernel⟩, by decide +kernel⟩
theorem liX8_init : Cond.instanceMethod yX8_init ∈ lw_good := lw_good_in (n := 777) (by decide +kernel) rfl
abbrev rmX8_init_ : Room := { frames := 7, cells := 200, slots := 12000, locals := 171 }
theorem lcX8_init_ : LkC yX8_init_ cX8_init_ 4 none 1 := ⟨lw_good_in (n := 562) (by decide +kernel) rfl, lw_good_in (n := 82) (by decide +kernel) rfl, ⟨by decide +kernel, by decide +kernel⟩, by decide +kernel⟩
theorem liX8_init_ : Cond.instanceMethod yX8_init_ ∈ lw_good := lw_good_in (n := 561) (by decide +kernel) rfl
abbrev rmX8_plain : Room := { frames := 7, cells := 10, slots := 300, locals := 171 }
theorem lcX8_plain : LkC yX8_plain cX8_plain 1 (some (.object "CashLedgerLaw$Book")) 0 := ⟨lw_good_in (n := 774) (by decide +kernel) rfl, lw_good_in (n := 82) (by decide +kernel) rfl, ⟨by decide +kernel, by decide +kernel⟩, by decide +kernel⟩
theorem stX8_plain : Cond.static yX8_plain ∈ lw_good := lw_good_in (n := 773) (by decide +kernel) rfl
abbrev rmX8_drawn : Room := { frames := 7, cells := 40, slots := 2000, locals := 171 }
theorem lcX8_drawn : LkC yX8_drawn cX8_drawn 8 (some (.object "CashLedgerLaw$Book")) 1 := ⟨lw_good_in (n := 783) (by decide +kernel) rfl, lw_good_in (n := 82) (by decide +kernel) rfl, ⟨by decide +kernel, by decide +kernel⟩, by decide +kernel⟩
theorem stX8_drawn : Cond.static yX8_drawn ∈ lw_good := lw_good_in (n := 782) (by decide +kernel) rfl
abbrev rmX8_text : Room := { frames := 7, cells := 80, slots := 90000, locals := 158 }
theorem lcX8_text : LkC yX8_text cX8_text 4 (some (.object "java/lang/String")) 0 := ⟨lw_good_in (n := 801) (by decide +kernel) rfl, lw_good_in (n := 82) (by decide +kernel) rfl, ⟨by decide +kernel, by decide +kernel⟩, by decide +kernel⟩
theorem liX8_text : Cond.instanceMethod yX8_text ∈ lw_good := lw_good_in (n := 799) (by decide +kernel) rfl
theorem lsX8_text : LkSel yX8_text := ⟨lw_good_in (n := 799) (by decide +kernel) rfl, lw_good_in (n := 800) (by decide +kernel) rfl⟩
abbrev rmX8_counts : Room := { frames := 0, cells := 0, slots := 0, locals := 0 }
theorem lcX8_counts : LkC yX8_counts cX8_counts 2 (some .boolean) 1 := ⟨lw_good_in (n := 1237) (by decide +kernel) rfl, lw_good_in (n := 82) (by decide +kernel) rfl, ⟨by decide +kernel, by decide +kernel⟩, by decide +kernel⟩
theorem liX8_counts : Cond.instanceMethod yX8_counts ∈ lw_good := lw_good_in (n := 1235) (by decide +kernel) rfl
theorem lsX8_counts : LkSel yX8_counts := ⟨lw_good_in (n := 1235) (by decide +kernel) rfl, lw_good_in (n := 1236) (by decide +kernel) rfl⟩
abbrev rmX8_used : Room := { frames := 0, cells := 0, slots := 0, locals := 0 }
theorem lcX8_used : LkC yX8_used cX8_used 5 (some .int) 2 := ⟨lw_good_in (n := 1332) (by decide +kernel) rfl, lw_good_in (n := 82) (by decide +kernel) rfl, ⟨by decide +kernel, by decide +kernel⟩, by decide +kernel⟩
theorem liX8_used : Cond.instanceMethod yX8_used ∈ lw_good := lw_good_in (n := 1330) (by decide +kernel) rfl
theorem lsX8_used : LkSel yX8_used := ⟨lw_good_in (n := 1330) (by decide +kernel) rfl, lw_good_in (n := 1331) (by decide +kernel) rfl⟩
abbrev rmX8_above : Room := { frames := 3, cells := 1, slots := 4, locals := 61 }
theorem lcX8_above : LkC yX8_above cX8_above 6 (some .long) 1 := ⟨lw_good_in (n := 1328) (by decide +kernel) rfl, lw_good_in (n := 82) (by decide +kernel) rfl, ⟨by decide +kernel, by decide +kernel⟩, by decide +kernel⟩
theorem liX8_above : Cond.instanceMethod yX8_above ∈ lw_good := lw_good_in (n := 1326) (by decide +kernel) rfl
theorem lsX8_above : LkSel yX8_above := ⟨lw_good_in (n := 1326) (by decide +kernel) rfl, lw_good_in (n := 1327) (by decide +kernel) rfl⟩
abbrev rmX8_below : Room := { frames := 3, cells := 1, slots := 4, locals := 61 }
theorem lcX8_below : LkC yX8_below cX8_below 5 (some .long) 0 := ⟨lw_good_in (n := 1336) (by decide +kernel) rfl, lw_good_in (n := 82) (by decide +kernel) rfl, ⟨by decide +kernel, by decide +kernel⟩, by decide +kernel⟩
theorem liX8_below : Cond.instanceMethod yX8_below ∈ lw_good := lw_good_in (n := 1334) (by decide +kernel) rfl
theorem lsX8_below : LkSel yX8_below := ⟨lw_good_in (n := 1334) (by decide +kernel) rfl, lw_good_in (n := 1335) (by decide +kernel) rfl⟩
abbrev rmX8_deducted : Room := { frames := 4, cells := 2, slots := 8, locals := 86 }
theorem lcX8_deducted : LkC yX8_deducted cX8_deducted 4 (some .long) 3 := ⟨lw_good_in (n := 1324) (by decide +kernel) rfl, lw_good_in (n := 82) (by decide +kernel) rfl, ⟨by decide +kernel, by decide +kernel⟩, by decide +kernel⟩
theorem liX8_deducted : Cond.instanceMethod yX8_deducted ∈ lw_good := lw_good_in (n := 1322) (by decide +kernel) rfl
theorem lsX8_deducted : LkSel yX8_deducted := ⟨lw_good_in (n := 1322) (by decide +kernel) rfl, lw_good_in (n := 1323) (by decide +kernel) rfl⟩
abbrev rmX8_sort : Room := { frames := 0, cells := 0, slots := 0, locals := 0 }
theorem lcX8_sort : LkC yX8_sort cX8_sort 2 (some .int) 1 := ⟨lw_good_in (n := 1159) (by decide +kernel) rfl, lw_good_in (n := 82) (by decide +kernel) rfl, ⟨by decide +kernel, by decide +kernel⟩, by decide +kernel⟩
theorem liX8_sort : Cond.instanceMethod yX8_sort ∈ lw_good := lw_good_in (n := 1157) (by decide +kernel) rfl
theorem lsX8_sort : LkSel yX8_sort := ⟨lw_good_in (n := 1157) (by decide +kernel) rfl, lw_good_in (n := 1158) (by decide +kernel) rfl⟩
abbrev rmX8_written : Room := { frames := 1, cells := 1, slots := 12, locals := 21 }
theorem lcX8_written : LkC yX8_written cX8_written 9 (some (.array .int)) 1 := ⟨lw_good_in (n := 1344) (by decide +kernel) rfl, lw_good_in (n := 82) (by decide +kernel) rfl, ⟨by decide +kernel, by decide +kernel⟩, by decide +kernel⟩
theorem liX8_written : Cond.instanceMethod yX8_written ∈ lw_good := lw_good_in (n := 1342) (by decide +kernel) rfl
theorem lsX8_written : LkSel yX8_written := ⟨lw_good_in (n := 1342) (by decide +kernel) rfl, lw_good_in (n := 1343) (by decide +kernel) rfl⟩
abbrev rmX8_value : Room := { frames := 2, cells := 12, slots := 144, locals := 49 }
theorem lcX8_value : LkC yX8_value cX8_value 5 (some .int) 2 := ⟨lw_good_in (n := 1478) (by decide +kernel) rfl, lw_good_in (n := 82) (by decide +kernel) rfl, ⟨by decide +kernel, by decide +kernel⟩, by decide +kernel⟩
theorem liX8_value : Cond.instanceMethod yX8_value ∈ lw_good := lw_good_in (n := 1476) (by decide +kernel) rfl
theorem lsX8_value : LkSel yX8_value := ⟨lw_good_in (n := 1476) (by decide +kernel) rfl, lw_good_in (n := 1477) (by decide +kernel) rfl⟩
abbrev rmX8_pooled : Room := { frames := 3, cells := 1, slots := 4, locals := 61 }
theorem lcX8_pooled : LkC yX8_pooled cX8_pooled 5 (some .int) 1 := ⟨lw_good_in (n := 1320) (by decide +kernel) rfl, lw_good_in (n := 82) (by decide +kernel) rfl, ⟨by decide +kernel, by decide +kernel⟩, by decide +kernel⟩
theorem liX8_pooled : Cond.instanceMethod yX8_pooled ∈ lw_good := lw_good_in (n := 1318) (by decide +kernel) rfl
theorem lsX8_pooled : LkSel yX8_pooled := ⟨lw_good_in (n := 1318) (by decide +kernel) rfl, lw_good_in (n := 1319) (by decide +kernel) rfl⟩
abbrev rmX8_poolOff : Room := { frames := 4, cells := 2, slots := 8, locals := 85 }
theorem lcX8_poolOff : LkC yX8_poolOff cX8_poolOff 2 (some .int) 1 := ⟨lw_good_in (n := 1316) (by decide +kernel) rfl, lw_good_in (n := 82) (by decide +kernel) rfl, ⟨by decide +kernel, by decide +kernel⟩, by decide +kernel⟩
theorem liX8_poolOff : Cond.instanceMethod yX8_poolOff ∈ lw_good := lw_good_in (n := 1314) (by decide +kernel) rfl
theorem lsX8_poolOff : LkSel yX8_poolOff := ⟨lw_good_in (n := 1314) (by decide +kernel) rfl, lw_good_in (n := 1315) (by decide +kernel) rfl⟩
abbrev rmX8_profit : Room := { frames := 5, cells := 160, slots := 928, locals := 109 }
theorem lcX8_profit : LkC yX8_profit cX8_profit 7 (some .long) 1 := ⟨lw_good_in (n := 1312) (by decide +kernel) rfl, lw_good_in (n := 82) (by decide +kernel) rfl, ⟨by decide +kernel, by decide +kernel⟩, by decide +kernel⟩
theorem liX8_profit : Cond.instanceMethod yX8_profit ∈ lw_good := lw_good_in (n := 1310) (by decide +kernel) rfl
theorem lsX8_profit : LkSel yX8_profit := ⟨lw_good_in (n := 1310) (by decide +kernel) rfl, lw_good_in (n := 1311) (by decide +kernel) rfl⟩
abbrev rmX8_profitTo : Room := { frames := 10, cells := 640, slots := 3712, locals := 255 }
theorem lcX8_profitTo : LkC yX8_profitTo cX8_profitTo 2 (some .long) 1 := ⟨lw_good_in (n := 1308) (by decide +kernel) rfl, lw_good_in (n := 82) (by decide +kernel) rfl, ⟨by decide +kernel, by decide +kernel⟩, by decide +kernel⟩
theorem liX8_profitTo : Cond.instanceMethod yX8_profitTo ∈ lw_good := lw_good_in (n := 1306) (by decide +kernel) rfl
theorem lsX8_profitTo : LkSel yX8_profitTo := ⟨lw_good_in (n := 1306) (by decide +kernel) rfl, lw_good_in (n := 1307) (by decide +kernel) rfl⟩
abbrev rmX8_tax : Room := { frames := 3, cells := 0, slots := 0, locals := 64 }
theorem lcX8_tax : LkC yX8_tax cX8_tax 8 (some .long) 1 := ⟨lw_good_in (n := 1491) (by decide +kernel) rfl, lw_good_in (n := 82) (by decide +kernel) rfl, ⟨by decide +kernel, by decide +kernel⟩, by decide +kernel⟩
theorem liX8_tax : Cond.instanceMethod yX8_tax ∈ lw_good := lw_good_in (n := 1489) (by decide +kernel) rfl
theorem lsX8_tax : LkSel yX8_tax := ⟨lw_good_in (n := 1489) (by decide +kernel) rfl, lw_good_in (n := 1490) (by decide +kernel) rfl⟩
abbrev rmX8_prepayment : Room := { frames := 11, cells := 640, slots := 3712, locals := 276 }
theorem lcX8_prepayment : LkC yX8_prepayment cX8_prepayment 6 (some .int) 2 := ⟨lw_good_in (n := 1486) (by decide +kernel) rfl, lw_good_in (n := 82) (by decide +kernel) rfl, ⟨by decide +kernel, by decide +kernel⟩, by decide +kernel⟩
theorem liX8_prepayment : Cond.instanceMethod yX8_prepayment ∈ lw_good := lw_good_in (n := 1484) (by decide +kernel) rfl
theorem lsX8_prepayment : LkSel yX8_prepayment := ⟨lw_good_in (n := 1484) (by decide +kernel) rfl, lw_good_in (n := 1485) (by decide +kernel) rfl⟩
abbrev rmX8_sumPrepaid : Room := { frames := 3, cells := 1, slots := 4, locals := 61 }
theorem lcX8_sumPrepaid : LkC yX8_sumPrepaid cX8_sumPrepaid 5 (some .long) 0 := ⟨lw_good_in (n := 1482) (by decide +kernel) rfl, lw_good_in (n := 82) (by decide +kernel) rfl, ⟨by decide +kernel, by decide +kernel⟩, by decide +kernel⟩
theorem liX8_sumPrepaid : Cond.instanceMethod yX8_sumPrepaid ∈ lw_good := lw_good_in (n := 1480) (by decide +kernel) rfl
theorem lsX8_sumPrepaid : LkSel yX8_sumPrepaid := ⟨lw_good_in (n := 1480) (by decide +kernel) rfl, lw_good_in (n := 1481) (by decide +kernel) rfl⟩
abbrev rmX8_balance : Room := { frames := 3, cells := 2, slots := 8, locals := 64 }
theorem lcX8_balance : LkC yX8_balance cX8_balance 6 (some .long) 1 := ⟨lw_good_in (n := 1233) (by decide +kernel) rfl, lw_good_in (n := 82) (by decide +kernel) rfl, ⟨by decide +kernel, by decide +kernel⟩, by decide +kernel⟩
theorem liX8_balance : Cond.instanceMethod yX8_balance ∈ lw_good := lw_good_in (n := 1231) (by decide +kernel) rfl
theorem lsX8_balance : LkSel yX8_balance := ⟨lw_good_in (n := 1231) (by decide +kernel) rfl, lw_good_in (n := 1232) (by decide +kernel) rfl⟩
abbrev rmX8_isAs : Room := { frames := 11, cells := 2600, slots := 16000, locals := 276 }
theorem lcX8_isAs : LkC yX8_isAs cX8_isAs 9 (some .boolean) 1 := ⟨lw_good_in (n := 1105) (by decide +kernel) rfl, lw_good_in (n := 82) (by decide +kernel) rfl, ⟨by decide +kernel, by decide +kernel⟩, by decide +kernel⟩
theorem liX8_isAs : Cond.instanceMethod yX8_isAs ∈ lw_good := lw_good_in (n := 1103) (by decide +kernel) rfl
theorem lsX8_isAs : LkSel yX8_isAs := ⟨lw_good_in (n := 1103) (by decide +kernel) rfl, lw_good_in (n := 1104) (by decide +kernel) rfl⟩
abbrev rmL_cell : Room := { frames := 0, cells := 0, slots := 0, locals := 0 }
theorem lcL_cell : LkC yL_cell cL_cell 2 (some .int) 2 := ⟨lw_good_in (n := 790) (by decide +kernel) rfl, lw_good_in (n := 62) (by decide +kernel) rfl, ⟨by decide +kernel, by decide +kernel⟩, by decide +kernel⟩
theorem stL_cell : Cond.static yL_cell ∈ lw_good := lw_good_in (n := 789) (by decide +kernel) rfl
abbrev rmL_pick : Room := { frames := 1, cells := 0, slots := 0, locals := 21 }
theorem lcL_pick : LkC yL_pick cL_pick 3 (some .int) 3 := ⟨lw_good_in (n := 787) (by decide +kernel) rfl, lw_good_in (n := 62) (by decide +kernel) rfl, ⟨by decide +kernel, by decide +kernel⟩, by decide +kernel⟩
theorem stL_pick : Cond.static yL_pick ∈ lw_good := lw_good_in (n := 786) (by decide +kernel) rfl
abbrev rmL_append : Room := { frames := 8, cells := 1, slots := 6, locals := 141 }
abbrev hhL_append : List (Nat × Nat × Nat × Nat) := [(0, 9, 10, 20)]
theorem cwL_append : Cond.codeWith yL_append cL_append 3 (some .int) hhL_append ∈ lw_good := lw_good_in (n := 1377) (by decide +kernel) rfl
theorem stL_append : Cond.static yL_append ∈ lw_good := lw_good_in (n := 1376) (by decide +kernel) rfl
abbrev rmL_load : Room := { frames := 11, cells := 1, slots := 6, locals := 288 }
abbrev hhL_load : List (Nat × Nat × Nat × Nat) := [(0, 4, 5, 27)]
theorem cwL_load : Cond.codeWith yL_load cL_load 2 (some .int) hhL_load ∈ lw_good := lw_good_in (n := 1351) (by decide +kernel) rfl
theorem stL_load : Cond.static yL_load ∈ lw_good := lw_good_in (n := 1350) (by decide +kernel) rfl
abbrev rmL_type : Room := { frames := 9, cells := 110, slots := 660, locals := 163 }
theorem lcL_type : LkC yL_type cL_type 6 (some .boolean) 2 := ⟨lw_good_in (n := 1368) (by decide +kernel) rfl, lw_good_in (n := 62) (by decide +kernel) rfl, ⟨by decide +kernel, by decide +kernel⟩, by decide +kernel⟩
theorem stL_type : Cond.static yL_type ∈ lw_good := lw_good_in (n := 1367) (by decide +kernel) rfl
abbrev rmL_addEntry : Room := { frames := 8, cells := 2, slots := 12, locals := 141 }
abbrev hhL_addEntry : List (Nat × Nat × Nat × Nat) := [(0, 11, 12, 27), (0, 11, 17, 20)]
theorem cwL_addEntry : Cond.codeWith yL_addEntry cL_addEntry 7 (some .int) hhL_addEntry ∈ lw_good := lw_good_in (n := 1504) (by decide +kernel) rfl
theorem stL_addEntry : Cond.static yL_addEntry ∈ lw_good := lw_good_in (n := 1503) (by decide +kernel) rfl
abbrev rmL_addAsset : Room := { frames := 8, cells := 2, slots := 12, locals := 138 }
abbrev hhL_addAsset : List (Nat × Nat × Nat × Nat) := [(0, 7, 8, 27), (0, 7, 13, 20)]
theorem cwL_addAsset : Cond.codeWith yL_addAsset cL_addAsset 5 (some .int) hhL_addAsset ∈ lw_good := lw_good_in (n := 1539) (by decide +kernel) rfl
theorem stL_addAsset : Cond.static yL_addAsset ∈ lw_good := lw_good_in (n := 1538) (by decide +kernel) rfl
abbrev rmL_sellAsset : Room := { frames := 8, cells := 3, slots := 18, locals := 140 }
abbrev hhL_sellAsset : List (Nat × Nat × Nat × Nat) := [(0, 7, 8, 56), (0, 7, 13, 27), (0, 7, 18, 20)]
theorem cwL_sellAsset : Cond.codeWith yL_sellAsset cL_sellAsset 5 (some .int) hhL_sellAsset ∈ lw_good := lw_good_in (n := 1555) (by decide +kernel) rfl
theorem stL_sellAsset : Cond.static yL_sellAsset ∈ lw_good := lw_good_in (n := 1554) (by decide +kernel) rfl
abbrev rmL_closeQuarter : Room := { frames := 8, cells := 1, slots := 6, locals := 144 }
abbrev hhL_closeQuarter : List (Nat × Nat × Nat × Nat) := [(0, 4, 5, 20)]
theorem cwL_closeQuarter : Cond.codeWith yL_closeQuarter cL_closeQuarter 2 (some .int) hhL_closeQuarter ∈ lw_good := lw_good_in (n := 1566) (by decide +kernel) rfl
theorem stL_closeQuarter : Cond.static yL_closeQuarter ∈ lw_good := lw_good_in (n := 1565) (by decide +kernel) rfl
abbrev rmL_setOffice : Room := { frames := 8, cells := 2, slots := 12, locals := 140 }
abbrev hhL_setOffice : List (Nat × Nat × Nat × Nat) := [(0, 7, 8, 56), (0, 7, 13, 27)]
theorem cwL_setOffice : Cond.codeWith yL_setOffice cL_setOffice 5 (some .int) hhL_setOffice ∈ lw_good := lw_good_in (n := 1531) (by decide +kernel) rfl
theorem stL_setOffice : Cond.static yL_setOffice ∈ lw_good := lw_good_in (n := 1530) (by decide +kernel) rfl
abbrev rmL_pay : Room := { frames := 8, cells := 3, slots := 18, locals := 139 }
abbrev hhL_pay : List (Nat × Nat × Nat × Nat) := [(0, 6, 7, 56), (0, 6, 11, 27), (0, 6, 15, 20)]
theorem cwL_pay : Cond.codeWith yL_pay cL_pay 4 (some .int) hhL_pay ∈ lw_good := lw_good_in (n := 1412) (by decide +kernel) rfl
theorem stL_pay : Cond.static yL_pay ∈ lw_good := lw_good_in (n := 1411) (by decide +kernel) rfl
abbrev rmL_cancel : Room := { frames := 8, cells := 2, slots := 12, locals := 137 }
abbrev hhL_cancel : List (Nat × Nat × Nat × Nat) := [(0, 5, 6, 56), (0, 5, 10, 20)]
theorem cwL_cancel : Cond.codeWith yL_cancel cL_cancel 3 (some .int) hhL_cancel ∈ lw_good := lw_good_in (n := 1516) (by decide +kernel) rfl
theorem stL_cancel : Cond.static yL_cancel ∈ lw_good := lw_good_in (n := 1515) (by decide +kernel) rfl
abbrev rmL_addRoom : Room := { frames := 8, cells := 2, slots := 12, locals := 136 }
abbrev hhL_addRoom : List (Nat × Nat × Nat × Nat) := [(0, 5, 6, 27), (0, 5, 10, 20)]
theorem cwL_addRoom : Cond.codeWith yL_addRoom cL_addRoom 3 (some .int) hhL_addRoom ∈ lw_good := lw_good_in (n := 1523) (by decide +kernel) rfl
theorem stL_addRoom : Cond.static yL_addRoom ∈ lw_good := lw_good_in (n := 1522) (by decide +kernel) rfl
abbrev rmL_setStart : Room := { frames := 8, cells := 1, slots := 6, locals := 137 }
abbrev hhL_setStart : List (Nat × Nat × Nat × Nat) := [(0, 5, 6, 27)]
theorem cwL_setStart : Cond.codeWith yL_setStart cL_setStart 3 (some .int) hhL_setStart ∈ lw_good := lw_good_in (n := 1590) (by decide +kernel) rfl
theorem stL_setStart : Cond.static yL_setStart ∈ lw_good := lw_good_in (n := 1589) (by decide +kernel) rfl
abbrev rmL_undo : Room := { frames := 8, cells := 1, slots := 6, locals := 135 }
abbrev hhL_undo : List (Nat × Nat × Nat × Nat) := [(0, 4, 5, 20)]
theorem cwL_undo : Cond.codeWith yL_undo cL_undo 2 (some .int) hhL_undo ∈ lw_good := lw_good_in (n := 1430) (by decide +kernel) rfl
theorem stL_undo : Cond.static yL_undo ∈ lw_good := lw_good_in (n := 1429) (by decide +kernel) rfl
abbrev rmL_restore : Room := { frames := 8, cells := 1, slots := 6, locals := 135 }
abbrev hhL_restore : List (Nat × Nat × Nat × Nat) := [(0, 4, 5, 20)]
theorem cwL_restore : Cond.codeWith yL_restore cL_restore 2 (some .int) hhL_restore ∈ lw_good := lw_good_in (n := 1442) (by decide +kernel) rfl
theorem stL_restore : Cond.static yL_restore ∈ lw_good := lw_good_in (n := 1441) (by decide +kernel) rfl
abbrev rmL_isError : Room := { frames := 0, cells := 0, slots := 0, locals := 0 }
theorem lcL_isError : LkC yL_isError cL_isError 1 (some .boolean) 1 := ⟨lw_good_in (n := 1449) (by decide +kernel) rfl, lw_good_in (n := 62) (by decide +kernel) rfl, ⟨by decide +kernel, by decide +kernel⟩, by decide +kernel⟩
theorem stL_isError : Cond.static yL_isError ∈ lw_good := lw_good_in (n := 1448) (by decide +kernel) rfl
abbrev rmL_number : Room := { frames := 0, cells := 0, slots := 0, locals := 0 }
theorem lcL_number : LkC yL_number cL_number 3 (some .int) 3 := ⟨lw_good_in (n := 1457) (by decide +kernel) rfl, lw_good_in (n := 62) (by decide +kernel) rfl, ⟨by decide +kernel, by decide +kernel⟩, by decide +kernel⟩
theorem stL_number : Cond.static yL_number ∈ lw_good := lw_good_in (n := 1456) (by decide +kernel) rfl
abbrev rmL_is : Room := { frames := 0, cells := 0, slots := 0, locals := 0 }
theorem lcL_is : LkC yL_is cL_is 3 (some .boolean) 3 := ⟨lw_good_in (n := 1469) (by decide +kernel) rfl, lw_good_in (n := 62) (by decide +kernel) rfl, ⟨by decide +kernel, by decide +kernel⟩, by decide +kernel⟩
theorem stL_is : Cond.static yL_is ∈ lw_good := lw_good_in (n := 1468) (by decide +kernel) rfl
abbrev rmL_amount : Room := { frames := 1, cells := 0, slots := 0, locals := 22 }
theorem lcL_amount : LkC yL_amount cL_amount 1 (some .int) 1 := ⟨lw_good_in (n := 1460) (by decide +kernel) rfl, lw_good_in (n := 62) (by decide +kernel) rfl, ⟨by decide +kernel, by decide +kernel⟩, by decide +kernel⟩
theorem stL_amount : Cond.static yL_amount ∈ lw_good := lw_good_in (n := 1459) (by decide +kernel) rfl
abbrev rmL_day : Room := { frames := 1, cells := 0, slots := 0, locals := 22 }
theorem lcL_day : LkC yL_day cL_day 1 (some .int) 1 := ⟨lw_good_in (n := 1466) (by decide +kernel) rfl, lw_good_in (n := 62) (by decide +kernel) rfl, ⟨by decide +kernel, by decide +kernel⟩, by decide +kernel⟩
theorem stL_day : Cond.static yL_day ∈ lw_good := lw_good_in (n := 1465) (by decide +kernel) rfl
abbrev rmL_act : Room := { frames := 12, cells := 700, slots := 4600, locals := 301 }
set_option maxRecDepth 1000000 in
theorem lcL_act : LkC yL_act cL_act 11 (some .int) 3 := ⟨lw_good_in (n := 1453) rfl rfl, lw_good_in (n := 62) (by decide +kernel) rfl, ⟨by decide +kernel, by decide +kernel⟩, by decide +kernel⟩
theorem stL_act : Cond.static yL_act ∈ lw_good := lw_good_in (n := 1452) (by decide +kernel) rfl
abbrev rmL_call : Room := { frames := 9, cells := 18, slots := 108, locals := 167 }
theorem lcL_call : LkC yL_call cL_call 6 (some .int) 4 := ⟨lw_good_in (n := 1501) (by decide +kernel) rfl, lw_good_in (n := 62) (by decide +kernel) rfl, ⟨by decide +kernel, by decide +kernel⟩, by decide +kernel⟩
theorem stL_call : Cond.static yL_call ∈ lw_good := lw_good_in (n := 1500) (by decide +kernel) rfl
abbrev rmL_isWrong : Room := { frames := 12, cells := 111, slots := 666, locals := 309 }
theorem lcL_isWrong : LkC yL_isWrong cL_isWrong 3 (some .boolean) 3 := ⟨lw_good_in (n := 1602) (by decide +kernel) rfl, lw_good_in (n := 62) (by decide +kernel) rfl, ⟨by decide +kernel, by decide +kernel⟩, by decide +kernel⟩
theorem stL_isWrong : Cond.static yL_isWrong ∈ lw_good := lw_good_in (n := 1601) (by decide +kernel) rfl
abbrev rmL_texts : Room := { frames := 13, cells := 2109, slots := 12654, locals := 331 }
theorem lcL_texts : LkC yL_texts cL_texts 2 (some .boolean) 1 := ⟨lw_good_in (n := 1598) (by decide +kernel) rfl, lw_good_in (n := 62) (by decide +kernel) rfl, ⟨by decide +kernel, by decide +kernel⟩, by decide +kernel⟩
theorem stL_texts : Cond.static yL_texts ∈ lw_good := lw_good_in (n := 1597) (by decide +kernel) rfl
theorem oiJ5_3 : Cond.methodLink RJ5 3 objectInit ∈ lw_good ∧ Cond.instanceMethod objectInit ∈ lw_good ∧ Cond.code objectInit ⟨#[0xb1]⟩ 1 none ∈ lw_good := ⟨lw_good_in (n := 810) (by decide +kernel) rfl, lw_good_in (n := 103) (by decide +kernel) rfl, lw_good_in (n := 104) (by decide +kernel) rfl⟩
theorem gsJ5_18 : Cond.fieldLink RJ5 18 "java/lang/String" "COMPACT_STRINGS" "Z" ∈ lw_good := lw_good_in (n := 811) (by decide +kernel) rfl
theorem flJ5_15 : FLk RJ5 15 RJ4 TJ4 4 tyJ4 0 := ⟨by decide, inJ4, tyJ4_ok, nmJ4, Or.inl (lw_good_in (n := 819) (by decide +kernel) rfl)⟩
theorem flJ5_22 : FLk RJ5 22 RJ4 TJ4 4 tyJ4 1 := ⟨by decide, inJ4, tyJ4_ok, nmJ4, Or.inl (lw_good_in (n := 820) (by decide +kernel) rfl)⟩
theorem lmJ5_26 : LkM RJ5 26 yJ2_newBytesFor_77867 := lw_good_in (n := 812) (by decide +kernel) rfl
theorem lmJ5_32 : LkM RJ5 32 yJ0_length_8abf5 := lw_good_in (n := 882) (by decide +kernel) rfl
theorem kcJ5_38 : Cond.constant RJ5 38 (nI 2147483631) ∈ lw_good := lw_good_in (n := 1078) (by decide +kernel) rfl
theorem kcJ5_39 : Cond.constant RJ5 39 (nI 2147483647) ∈ lw_good := lw_good_in (n := 853) (by decide +kernel) rfl
theorem lmJ5_40 : LkM RJ5 40 yJ0_coder_7d493 := lw_good_in (n := 891) (by decide +kernel) rfl
theorem lmJ5_43 : LkM RJ5 43 yJ5_append_cf1ce := lw_good_in (n := 1079) (by decide +kernel) rfl
theorem flJ5_79 : FLk RJ5 79 RJ4 TJ4 4 tyJ4 3 := ⟨by decide, inJ4, tyJ4_ok, nmJ4, Or.inl (lw_good_in (n := 822) (by decide +kernel) rfl)⟩
theorem lmJ5_104 : LkM RJ5 104 yJ5_newCapacity_0f7a4 := lw_good_in (n := 848) (by decide +kernel) rfl
theorem lmJ5_108 : LkM RJ5 108 yJ7_copyOf_9075b := lw_good_in (n := 854) (by decide +kernel) rfl
theorem lmJ5_114 : LkM RJ5 114 yJ8_newLength_cabcc := lw_good_in (n := 852) (by decide +kernel) rfl
theorem lmJ5_204 : LkM RJ5 204 yJ5_appendNull_278bc := lw_good_in (n := 840) (by decide +kernel) rfl
theorem lmJ5_100 : LkM RJ5 100 yJ5_ensureCapacityInternal_d00df := lw_good_in (n := 844) (by decide +kernel) rfl
theorem lmJ5_208 : LkM RJ5 208 yJ5_putStringAt_47b60 := lw_good_in (n := 883) (by decide +kernel) rfl
theorem lmJ5_83 : LkM RJ5 83 yJ5_isLatin1_aae02 := lw_good_in (n := 862) (by decide +kernel) rfl
theorem lmJ5_191 : LkM RJ5 191 yJ1_canEncode_fc78d := lw_good_in (n := 1091) (by decide +kernel) rfl
theorem lmJ5_195 : LkM RJ5 195 yJ5_inflate_da8c8 := lw_good_in (n := 892) (by decide +kernel) rfl
theorem lmJ5_197 : LkM RJ5 197 yJ2_putCharSB_b72d1 := lw_good_in (n := 1094) (by decide +kernel) rfl
theorem lmJ5_245 : LkM RJ5 245 yJ6_stringSize_0f7a4 := lw_good_in (n := 924) (by decide +kernel) rfl
theorem lmJ5_248 : LkM RJ5 248 yJ6_getChars_ba4f3 := lw_good_in (n := 927) (by decide +kernel) rfl
theorem lmJ5_251 : LkM RJ5 251 yJ2_getChars_46870 := lw_good_in (n := 934) (by decide +kernel) rfl
theorem lmJ5_397 : LkM RJ5 397 yJ5_inflateIfNeededFor_a7421 := lw_good_in (n := 887) (by decide +kernel) rfl
theorem lmJ5_399 : LkM RJ5 399 yJ0_getBytes_840e7 := lw_good_in (n := 911) (by decide +kernel) rfl
theorem gsJ6_83 : Cond.fieldLink RJ6 83 "java/lang/Integer" "DigitOnes" "[B" ∈ lw_good := lw_good_in (n := 930) (by decide +kernel) rfl
theorem gsJ6_87 : Cond.fieldLink RJ6 87 "java/lang/Integer" "DigitTens" "[B" ∈ lw_good := lw_good_in (n := 932) (by decide +kernel) rfl
theorem gsJ6_191 : Cond.fieldLink RJ6 191 "java/lang/Integer$IntegerCache" "high" "I" ∈ lw_good := lw_good_in (n := 719) (by decide +kernel) rfl
theorem gsJ6_195 : Cond.fieldLink RJ6 195 "java/lang/Integer$IntegerCache" "cache" "[Ljava/lang/Integer;" ∈ lw_good := lw_good_in (n := 721) (by decide +kernel) rfl
theorem nwJ6_1 : NWk RJ6 1 RJ6 TJ6 1 tyJ6 := ⟨inJ6, tyJ6_ok, lw_good_in (n := 723) (by decide +kernel) rfl, lw_good_in (n := 724) (by decide +kernel) rfl, lw_good_in (n := 95) (by decide +kernel) rfl⟩
theorem lmJ6_199 : LkM RJ6 199 yJ6_init_d00df := lw_good_in (n := 725) (by decide +kernel) rfl
theorem lmJ6_202 : LkM RJ6 202 yJxd2413_init_da8c8 := lw_good_in (n := 728) (by decide +kernel) rfl
theorem flJ6_205 : FLk RJ6 205 RJ6 TJ6 1 tyJ6 0 := ⟨by decide, inJ6, tyJ6_ok, nmJ6, Or.inl (lw_good_in (n := 732) (by decide +kernel) rfl)⟩
theorem ffJ6_205 : Cond.fieldLink RJ6 205 (TJ6 0).1 (TJ6 0).2.1 (TJ6 0).2.2.1 ∈ lw_good := lw_good_in (n := 732) (by decide +kernel) rfl
theorem oiJxd2413_1 : Cond.methodLink RJxd2413 1 objectInit ∈ lw_good ∧ Cond.instanceMethod objectInit ∈ lw_good ∧ Cond.code objectInit ⟨#[0xb1]⟩ 1 none ∈ lw_good := ⟨lw_good_in (n := 731) (by decide +kernel) rfl, lw_good_in (n := 103) (by decide +kernel) rfl, lw_good_in (n := 104) (by decide +kernel) rfl⟩
theorem lmJ0_489 : LkM RJ0 489 yJ0_init_db425 := lw_good_in (n := 951) (by decide +kernel) rfl
theorem flJ0_9 : FLk RJ0 9 RJ0 TJ0 4 tyJ0 0 := ⟨by decide, inJ0, tyJ0_ok, nmJ0, Or.inl (lw_good_in (n := 1061) (by decide +kernel) rfl)⟩
theorem ffJ0_9 : Cond.fieldLink RJ0 9 (TJ0 0).1 (TJ0 0).2.1 (TJ0 0).2.2.1 ∈ lw_good := lw_good_in (n := 1061) (by decide +kernel) rfl
theorem lmJ0_498 : LkM RJ0 498 yJ2_charAt_3b067 := lw_good_in (n := 469) (by decide +kernel) rfl
theorem cpJ0_212 : CpW RJ0 212 := ⟨lw_good_in (n := 915) (by decide +kernel) rfl, lw_good_in (n := 702) (by decide +kernel) rfl, lw_good_in (n := 701) (by decide +kernel) rfl, lw_good_in (n := 88) (by decide +kernel) rfl⟩
theorem lmJ0_106 : LkM RJ0 106 yJ1_inflate_0e8fd := lw_good_in (n := 916) (by decide +kernel) rfl
theorem oiJ0_1 : Cond.methodLink RJ0 1 objectInit ∈ lw_good ∧ Cond.instanceMethod objectInit ∈ lw_good ∧ Cond.code objectInit ⟨#[0xb1]⟩ 1 none ∈ lw_good := ⟨lw_good_in (n := 954) (by decide +kernel) rfl, lw_good_in (n := 103) (by decide +kernel) rfl, lw_good_in (n := 104) (by decide +kernel) rfl⟩
theorem lmJ0_552 : LkM RJ0 552 yJ5_getValue_6d5f1 := lw_good_in (n := 955) (by decide +kernel) rfl
theorem lmJ0_549 : LkM RJ0 549 yJ5_length_8abf5 := lw_good_in (n := 960) (by decide +kernel) rfl
theorem lmJ0_1047 : LkM RJ0 1047 yJ5_isLatin1_aae02 := lw_good_in (n := 968) (by decide +kernel) rfl
theorem flJ0_15 : FLk RJ0 15 RJ0 TJ0 4 tyJ0 1 := ⟨by decide, inJ0, tyJ0_ok, nmJ0, Or.inl (lw_good_in (n := 1062) (by decide +kernel) rfl)⟩
theorem ffJ0_15 : Cond.fieldLink RJ0 15 (TJ0 1).1 (TJ0 1).2.1 (TJ0 1).2.2.1 ∈ lw_good := lw_good_in (n := 1062) (by decide +kernel) rfl
theorem lmJ0_54 : LkM RJ0 54 yJ7_copyOfRange_39247 := lw_good_in (n := 969) (by decide +kernel) rfl
theorem gsJ0_38 : Cond.fieldLink RJ0 38 "java/lang/String" "COMPACT_STRINGS" "Z" ∈ lw_good := lw_good_in (n := 448) (by decide +kernel) rfl
theorem flJ0_1048 : FLk RJ0 1048 RJ4 TJ4 4 tyJ4 2 := ⟨by decide, inJ4, tyJ4_ok, nmJ4, Or.inl (lw_good_in (n := 821) (by decide +kernel) rfl)⟩
theorem lmJ0_1051 : LkM RJ0 1051 yJ2_compress_39247 := lw_good_in (n := 1051) (by decide +kernel) rfl
theorem lmJ0_47 : LkM RJ0 47 yJ2_coderFromArrayLen_85cad := lw_good_in (n := 1058) (by decide +kernel) rfl
theorem gsJ0_1053 : Cond.fieldLink RJ0 1053 "jdk/internal/util/Preconditions" "SIOOBE_FORMATTER" "Ljava/util/function/BiFunction;" ∈ lw_good := lw_good_in (n := 464) (by decide +kernel) rfl
theorem lmJ4_1 : LkM RJ4 1 yJ5_init_d00df := lw_good_in (n := 807) (by decide +kernel) rfl
theorem lmJ4_7 : LkM RJ4 7 yJ5_init_a7421 := lw_good_in (n := 1075) (by decide +kernel) rfl
theorem lmJ4_29 : LkM RJ4 29 yJ5_append_cf1ce := lw_good_in (n := 837) (by decide +kernel) rfl
theorem lmJ4_50 : LkM RJ4 50 yJ5_append_3fe6f := lw_good_in (n := 1088) (by decide +kernel) rfl
theorem lmJ4_53 : LkM RJ4 53 yJ5_append_c97b9 := lw_good_in (n := 921) (by decide +kernel) rfl
theorem nwJ4_18 : NWk RJ4 18 RJ0 TJ0 4 tyJ0 := ⟨inJ0, tyJ0_ok, lw_good_in (n := 946) (by decide +kernel) rfl, lw_good_in (n := 947) (by decide +kernel) rfl, lw_good_in (n := 76) (by decide +kernel) rfl⟩
theorem lmJ4_137 : LkM RJ4 137 yJ0_init_81219 := lw_good_in (n := 948) (by decide +kernel) rfl
theorem lmJ4_23 : LkM RJ4 23 yJ4_append_15ec4 := lw_good_in (n := 1082) (by decide +kernel) rfl
theorem lmJ4_343 : LkM RJ4 343 yJ5_length_8abf5 := lw_good_in (n := 966) (by decide +kernel) rfl
theorem oiJxa1e45_1 : Cond.methodLink RJxa1e45 1 objectInit ∈ lw_good ∧ Cond.instanceMethod objectInit ∈ lw_good ∧ Cond.code objectInit ⟨#[0xb1]⟩ 1 none ∈ lw_good := ⟨lw_good_in (n := 577) (by decide +kernel) rfl, lw_good_in (n := 103) (by decide +kernel) rfl, lw_good_in (n := 104) (by decide +kernel) rfl⟩
theorem lmJxc12de_1 : LkM RJxc12de 1 yJxa1e45_init_da8c8 := lw_good_in (n := 574) (by decide +kernel) rfl
theorem flJxc12de_7 : FLk RJxc12de 7 RJx4a65c TJx4a65c 3 tyJx4a65c 0 := ⟨by decide, inJx4a65c, tyJx4a65c_ok, nmJx4a65c, Or.inl (lw_good_in (n := 584) (by decide +kernel) rfl)⟩
theorem flJx35411_1 : FLk RJx35411 1 RJx35411 TJx35411 4 tyJx35411 3 := ⟨by decide, inJx35411, tyJx35411_ok, nmJx35411, Or.inl (lw_good_in (n := 608) (by decide +kernel) rfl)⟩
theorem ffJx35411_1 : Cond.fieldLink RJx35411 1 (TJx35411 3).1 (TJx35411 3).2.1 (TJx35411 3).2.2.1 ∈ lw_good := lw_good_in (n := 608) (by decide +kernel) rfl
theorem oiJx35411_7 : Cond.methodLink RJx35411 7 objectInit ∈ lw_good ∧ Cond.instanceMethod objectInit ∈ lw_good ∧ Cond.code objectInit ⟨#[0xb1]⟩ 1 none ∈ lw_good := ⟨lw_good_in (n := 604) (by decide +kernel) rfl, lw_good_in (n := 103) (by decide +kernel) rfl, lw_good_in (n := 104) (by decide +kernel) rfl⟩
theorem flJx35411_13 : FLk RJx35411 13 RJx35411 TJx35411 4 tyJx35411 1 := ⟨by decide, inJx35411, tyJx35411_ok, nmJx35411, Or.inl (lw_good_in (n := 606) (by decide +kernel) rfl)⟩
theorem frJx35411_17 : FLkR RJx35411 17 "java/util/ArrayList" RJx4a65c TJx4a65c 3 tyJx4a65c 0 := ⟨by decide, inJx4a65c, tyJx4a65c_ok, nmJx4a65c, lw_good_in (n := 585) (by decide +kernel) rfl, lw_good_in (n := 586) (by decide +kernel) rfl⟩
theorem flJx35411_22 : FLk RJx35411 22 RJx35411 TJx35411 4 tyJx35411 2 := ⟨by decide, inJx35411, tyJx35411_ok, nmJx35411, Or.inl (lw_good_in (n := 607) (by decide +kernel) rfl)⟩
theorem flJx35411_25 : FLk RJx35411 25 RJx35411 TJx35411 4 tyJx35411 0 := ⟨by decide, inJx35411, tyJx35411_ok, nmJx35411, Or.inl (lw_good_in (n := 605) (by decide +kernel) rfl)⟩
theorem flJx35411_28 : FLk RJx35411 28 RJx4a65c TJx4a65c 3 tyJx4a65c 2 := ⟨by decide, inJx4a65c, tyJx4a65c_ok, nmJx4a65c, Or.inr ⟨"java/util/ArrayList", List.mem_filter.mpr ⟨List.mem_of_getElem? (i := 582) (by decide +kernel), rfl⟩⟩⟩
theorem lmJx35411_31 : LkM RJx35411 31 yJx35411_checkForComodification_da8c8 := lw_good_in (n := 637) (by decide +kernel) rfl
theorem flJx35411_37 : FLk RJx35411 37 RJx4a65c TJx4a65c 3 tyJx4a65c 1 := ⟨by decide, inJx4a65c, tyJx4a65c_ok, nmJx4a65c, Or.inl (lw_good_in (n := 581) (by decide +kernel) rfl)⟩
theorem lmJx4a65c_1 : LkM RJx4a65c 1 yJxc12de_init_da8c8 := lw_good_in (n := 571) (by decide +kernel) rfl
theorem gsJx4a65c_39 : Cond.fieldLink RJx4a65c 39 "java/util/ArrayList" "DEFAULTCAPACITY_EMPTY_ELEMENTDATA" "[Ljava/lang/Object;" ∈ lw_good := lw_good_in (n := 578) (by decide +kernel) rfl
theorem flJx4a65c_9 : FLk RJx4a65c 9 RJx4a65c TJx4a65c 3 tyJx4a65c 1 := ⟨by decide, inJx4a65c, tyJx4a65c_ok, nmJx4a65c, Or.inl (lw_good_in (n := 580) (by decide +kernel) rfl)⟩
theorem lmJx4a65c_73 : LkM RJx4a65c 73 yJ8_newLength_cabcc := lw_good_in (n := 658) (by decide +kernel) rfl
theorem lmJx4a65c_66 : LkM RJx4a65c 66 yJ7_copyOf_1904c := lw_good_in (n := 668) (by decide +kernel) rfl
theorem lmJx4a65c_79 : Cond.methodLink RJx4a65c 79 Lib.Math.max.name ∈ lw_good := lw_good_in (n := 703) (by decide +kernel) rfl
theorem clJx4a65c_7 : Cond.classLink RJx4a65c 7 "java/lang/Object" ∈ lw_good := lw_good_in (n := 704) (by decide +kernel) rfl
theorem flJx4a65c_48 : FLk RJx4a65c 48 RJx4a65c TJx4a65c 3 tyJx4a65c 2 := ⟨by decide, inJx4a65c, tyJx4a65c_ok, nmJx4a65c, Or.inl (lw_good_in (n := 583) (by decide +kernel) rfl)⟩
theorem lmJx4a65c_69 : LkM RJx4a65c 69 yJx4a65c_grow_92f84 := lw_good_in (n := 654) (by decide +kernel) rfl
theorem lmJx4a65c_118 : LkM RJx4a65c 118 yJ15_checkIndex_7cf53 := lw_good_in (n := 1114) (by decide +kernel) rfl
theorem lmJx4a65c_123 : LkM RJx4a65c 123 yJx4a65c_elementData_915e3 := lw_good_in (n := 1118) (by decide +kernel) rfl
theorem lmJx4a65c_129 : LkM RJx4a65c 129 yJx4a65c_grow_d5877 := lw_good_in (n := 650) (by decide +kernel) rfl
theorem frJx4a65c_63 : FLkR RJx4a65c 63 "java/util/ArrayList" RJx4a65c TJx4a65c 3 tyJx4a65c 0 := ⟨by decide, inJx4a65c, tyJx4a65c_ok, nmJx4a65c, lw_good_in (n := 587) (by decide +kernel) rfl, lw_good_in (n := 586) (by decide +kernel) rfl⟩
theorem lmJx4a65c_131 : LkM RJx4a65c 131 yJx4a65c_add_72be8 := lw_good_in (n := 646) (by decide +kernel) rfl
theorem lmJx4a65c_144 : LkM RJx4a65c 144 yJx4a65c_fastRemove_b59b0 := lw_good_in (n := 1628) (by decide +kernel) rfl
theorem cpJx4a65c_112 : CpW RJx4a65c 112 := ⟨lw_good_in (n := 1632) (by decide +kernel) rfl, lw_good_in (n := 702) (by decide +kernel) rfl, lw_good_in (n := 701) (by decide +kernel) rfl, lw_good_in (n := 88) (by decide +kernel) rfl⟩
theorem nwJx4a65c_267 : NWk RJx4a65c 267 RJx35411 TJx35411 4 tyJx35411 := ⟨inJx35411, tyJx35411_ok, lw_good_in (n := 599) (by decide +kernel) rfl, lw_good_in (n := 600) (by decide +kernel) rfl, lw_good_in (n := 91) (by decide +kernel) rfl⟩
theorem lmJx4a65c_269 : LkM RJx4a65c 269 yJx35411_init_45d68 := lw_good_in (n := 601) (by decide +kernel) rfl
theorem lxJ7_86 : Cond.methodLink RJ7 86 ⟨"java/lang/Object", "getClass", "()Ljava/lang/Class;"⟩ ∈ lw_good := lw_good_in (n := 671) (by decide +kernel) rfl
theorem lmJ7_300 : LkM RJ7 300 yJ7_copyOf_6403c := lw_good_in (n := 693) (by decide +kernel) rfl
theorem clJ7_110 : Cond.classLink RJ7 110 "[Ljava/lang/Object;" ∈ lw_good := lw_good_in (n := 696) (by decide +kernel) rfl
theorem clJ7_2 : Cond.classLink RJ7 2 "java/lang/Object" ∈ lw_good := lw_good_in (n := 698) (by decide +kernel) rfl
theorem lmJ7_304 : Cond.methodLink RJ7 304 Lib.Math.min.name ∈ lw_good := lw_good_in (n := 699) (by decide +kernel) rfl
theorem cpJ7_150 : CpW RJ7 150 := ⟨lw_good_in (n := 700) (by decide +kernel) rfl, lw_good_in (n := 702) (by decide +kernel) rfl, lw_good_in (n := 701) (by decide +kernel) rfl, lw_good_in (n := 88) (by decide +kernel) rfl⟩
theorem clJ7_311 : Cond.classLink RJ7 311 "[B" ∈ lw_good := lw_good_in (n := 861) (by decide +kernel) rfl
theorem nwJ7_45 : NWk RJ7 45 RJ4 TJ4 4 tyJ4 := ⟨inJ4, tyJ4_ok, lw_good_in (n := 1020) (by decide +kernel) rfl, lw_good_in (n := 803) (by decide +kernel) rfl, lw_good_in (n := 93) (by decide +kernel) rfl⟩
theorem lmJ7_47 : LkM RJ7 47 yJ4_init_da8c8 := lw_good_in (n := 1021) (by decide +kernel) rfl
theorem lmJ7_54 : LkM RJ7 54 yJ4_append_bf812 := lw_good_in (n := 1022) (by decide +kernel) rfl
theorem lmJ7_50 : LkM RJ7 50 yJ4_append_15ec4 := lw_good_in (n := 1024) (by decide +kernel) rfl
theorem lmJ7_61 : LkM RJ7 61 yJ4_toString_0e30d := lw_good_in (n := 1025) (by decide +kernel) rfl
theorem lxJ7_65 : Cond.methodLink RJ7 65 ⟨"java/lang/IllegalArgumentException", "<init>", "(Ljava/lang/String;)V"⟩ ∈ lw_good := lw_good_in (n := 1026) (by decide +kernel) rfl
theorem lmJ7_339 : LkM RJ7 339 yJ7_copyOfRangeByte_39247 := lw_good_in (n := 972) (by decide +kernel) rfl
theorem lmJ7_343 : LkM RJ7 343 yJ7_checkLength_df160 := lw_good_in (n := 975) (by decide +kernel) rfl
theorem lmJ15_105 : LkM RJ15 105 yJ3_checkIndex_8e157 := lw_good_in (n := 1117) (by decide +kernel) rfl
theorem lmJ8_194 : Cond.methodLink RJ8 194 Lib.Math.max.name ∈ lw_good := lw_good_in (n := 661) (by decide +kernel) rfl
theorem kcJ8_200 : Cond.constant RJ8 200 (nI 2147483639) ∈ lw_good := lw_good_in (n := 664) (by decide +kernel) rfl
theorem lmJ8_201 : LkM RJ8 201 yJ8_hugeLength_7cf53 := lw_good_in (n := 665) (by decide +kernel) rfl
theorem oiX8_3 : Cond.methodLink RX8 3 objectInit ∈ lw_good ∧ Cond.instanceMethod objectInit ∈ lw_good ∧ Cond.code objectInit ⟨#[0xb1]⟩ 1 none ∈ lw_good := ⟨lw_good_in (n := 563) (by decide +kernel) rfl, lw_good_in (n := 103) (by decide +kernel) rfl, lw_good_in (n := 104) (by decide +kernel) rfl⟩
theorem kcX8_9 : Cond.constant RX8 9 (nI 80000) ∈ lw_good := lw_good_in (n := 564) (by decide +kernel) rfl
theorem flX8_10 : FLk RX8 10 RX8 TX8 10 tyX8 1 := ⟨by decide, inX8, tyX8_ok, nmX8, Or.inl (lw_good_in (n := 738) (by decide +kernel) rfl)⟩
theorem kcX8_16 : Cond.constant RX8 16 (nI 100000) ∈ lw_good := lw_good_in (n := 565) (by decide +kernel) rfl
theorem flX8_17 : FLk RX8 17 RX8 TX8 10 tyX8 2 := ⟨by decide, inX8, tyX8_ok, nmX8, Or.inl (lw_good_in (n := 739) (by decide +kernel) rfl)⟩
theorem flX8_20 : FLk RX8 20 RX8 TX8 10 tyX8 3 := ⟨by decide, inX8, tyX8_ok, nmX8, Or.inl (lw_good_in (n := 740) (by decide +kernel) rfl)⟩
theorem flX8_23 : FLk RX8 23 RX8 TX8 10 tyX8 4 := ⟨by decide, inX8, tyX8_ok, nmX8, Or.inl (lw_good_in (n := 741) (by decide +kernel) rfl)⟩
theorem nwX8_26 : NWk RX8 26 RJx4a65c TJx4a65c 3 tyJx4a65c := ⟨inJx4a65c, tyJx4a65c_ok, lw_good_in (n := 566) (by decide +kernel) rfl, lw_good_in (n := 567) (by decide +kernel) rfl, lw_good_in (n := 85) (by decide +kernel) rfl⟩
theorem lmX8_28 : LkM RX8 28 yJx4a65c_init_da8c8 := lw_good_in (n := 568) (by decide +kernel) rfl
theorem flX8_29 : FLk RX8 29 RX8 TX8 10 tyX8 5 := ⟨by decide, inX8, tyX8_ok, nmX8, Or.inl (lw_good_in (n := 742) (by decide +kernel) rfl)⟩
theorem ffX8_29 : Cond.fieldLink RX8 29 (TX8 5).1 (TX8 5).2.1 (TX8 5).2.2.1 ∈ lw_good := lw_good_in (n := 742) (by decide +kernel) rfl
theorem flX8_33 : FLk RX8 33 RX8 TX8 10 tyX8 6 := ⟨by decide, inX8, tyX8_ok, nmX8, Or.inl (lw_good_in (n := 743) (by decide +kernel) rfl)⟩
theorem ffX8_33 : Cond.fieldLink RX8 33 (TX8 6).1 (TX8 6).2.1 (TX8 6).2.2.1 ∈ lw_good := lw_good_in (n := 743) (by decide +kernel) rfl
theorem flX8_36 : FLk RX8 36 RX8 TX8 10 tyX8 7 := ⟨by decide, inX8, tyX8_ok, nmX8, Or.inl (lw_good_in (n := 745) (by decide +kernel) rfl)⟩
theorem ffX8_36 : Cond.fieldLink RX8 36 (TX8 7).1 (TX8 7).2.1 (TX8 7).2.2.1 ∈ lw_good := lw_good_in (n := 745) (by decide +kernel) rfl
theorem flX8_39 : FLk RX8 39 RX8 TX8 10 tyX8 8 := ⟨by decide, inX8, tyX8_ok, nmX8, Or.inl (lw_good_in (n := 747) (by decide +kernel) rfl)⟩
theorem ffX8_39 : Cond.fieldLink RX8 39 (TX8 8).1 (TX8 8).2.1 (TX8 8).2.2.1 ∈ lw_good := lw_good_in (n := 747) (by decide +kernel) rfl
theorem flX8_42 : FLk RX8 42 RX8 TX8 10 tyX8 9 := ⟨by decide, inX8, tyX8_ok, nmX8, Or.inl (lw_good_in (n := 749) (by decide +kernel) rfl)⟩
theorem ffX8_42 : Cond.fieldLink RX8 42 (TX8 9).1 (TX8 9).2.1 (TX8 9).2.2.1 ∈ lw_good := lw_good_in (n := 749) (by decide +kernel) rfl
theorem flX8_45 : FLk RX8 45 RX8 TX8 10 tyX8 0 := ⟨by decide, inX8, tyX8_ok, nmX8, Or.inl (lw_good_in (n := 736) (by decide +kernel) rfl)⟩
theorem lmX8_48 : LkM RX8 48 yJx4a65c_iterator_32c93 := lw_good_in (n := 595) (by decide +kernel) rfl
theorem lmX8_52 : Cond.methodLink RX8 52 ⟨"java/util/Iterator", "hasNext", "()Z"⟩ ∈ lw_good := lw_good_in (n := 619) (by decide +kernel) rfl
theorem lmX8_58 : Cond.methodLink RX8 58 ⟨"java/util/Iterator", "next", "()Ljava/lang/Object;"⟩ ∈ lw_good := lw_good_in (n := 629) (by decide +kernel) rfl
theorem clX8_62 : Cond.classLink RX8 62 "[I" ∈ lw_good := lw_good_in (n := 641) (by decide +kernel) rfl
theorem lmX8_64 : LkM RX8 64 yJx4a65c_add_9ea2d := lw_good_in (n := 642) (by decide +kernel) rfl
theorem clX8_68n : ClW RX8 68 "[I" := ⟨lw_good_in (n := 705) (by decide +kernel) rfl, lw_good_in (n := 706) (by decide +kernel) rfl, lw_good_in (n := 707) (by decide +kernel) rfl, lw_good_in (n := 708) (by decide +kernel) rfl, lw_good_in (n := 709) (by decide +kernel) rfl⟩
theorem clX8_71 : Cond.classLink RX8 71 "java/lang/Integer" ∈ lw_good := lw_good_in (n := 711) (by decide +kernel) rfl
theorem lmX8_73 : LkM RX8 73 yJ6_intValue_8abf5 := lw_good_in (n := 712) (by decide +kernel) rfl
theorem lmX8_77 : LkM RX8 77 yJ6_valueOf_2dffe := lw_good_in (n := 716) (by decide +kernel) rfl
theorem nwX8_11 : NWk RX8 11 RX8 TX8 10 tyX8 := ⟨inX8, tyX8_ok, lw_good_in (n := 775) (by decide +kernel) rfl, lw_good_in (n := 559) (by decide +kernel) rfl, lw_good_in (n := 82) (by decide +kernel) rfl⟩
theorem lmX8_81 : LkM RX8 81 yX8_init := lw_good_in (n := 776) (by decide +kernel) rfl
theorem kcX8_82 : Cond.constant RX8 82 (nI 1000000) ∈ lw_good := lw_good_in (n := 779) (by decide +kernel) rfl
theorem kcX8_83 : Cond.constant RX8 83 (nI 6000000) ∈ lw_good := lw_good_in (n := 780) (by decide +kernel) rfl
theorem kcX8_84 : Cond.constant RX8 84 (nI 1000000000) ∈ lw_good := lw_good_in (n := 784) (by decide +kernel) rfl
theorem lnX8_85 : LkN RX8 85 yL_pick := ⟨"CashLedgerLaw", List.mem_filter.mpr ⟨List.mem_of_getElem? (i := 785) (by decide +kernel), rfl⟩⟩
theorem kcX8_89 : Cond.constant RX8 89 (nI 500000) ∈ lw_good := lw_good_in (n := 792) (by decide +kernel) rfl
theorem kcX8_90 : Cond.constant RX8 90 (nI 90000) ∈ lw_good := lw_good_in (n := 793) (by decide +kernel) rfl
theorem kcX8_91 : Cond.constant RX8 91 (nI 200000) ∈ lw_good := lw_good_in (n := 794) (by decide +kernel) rfl
theorem kcX8_92 : Cond.constant RX8 92 (nI 400000) ∈ lw_good := lw_good_in (n := 795) (by decide +kernel) rfl
theorem kcX8_93 : Cond.constant RX8 93 (nI 3000000) ∈ lw_good := lw_good_in (n := 796) (by decide +kernel) rfl
theorem kcX8_94 : Cond.constant RX8 94 (nI 180000) ∈ lw_good := lw_good_in (n := 797) (by decide +kernel) rfl
theorem nwX8_95 : NWk RX8 95 RJ4 TJ4 4 tyJ4 := ⟨inJ4, tyJ4_ok, lw_good_in (n := 802) (by decide +kernel) rfl, lw_good_in (n := 803) (by decide +kernel) rfl, lw_good_in (n := 93) (by decide +kernel) rfl⟩
theorem lmX8_97 : LkM RX8 97 yJ4_init_da8c8 := lw_good_in (n := 804) (by decide +kernel) rfl
theorem lmX8_100 : LkM RX8 100 yJ4_append_15ec4 := lw_good_in (n := 833) (by decide +kernel) rfl
theorem lmX8_104 : LkM RX8 104 yJ4_append_bf812 := lw_good_in (n := 917) (by decide +kernel) rfl
theorem lmX8_107 : LkM RX8 107 yJ4_toString_0e30d := lw_good_in (n := 942) (by decide +kernel) rfl
theorem lmX8_111 : LkM RX8 111 yJ4_init_a7421 := lw_good_in (n := 1072) (by decide +kernel) rfl
theorem lmX8_116 : LkM RX8 116 yJ4_append_cf468 := lw_good_in (n := 1084) (by decide +kernel) rfl
theorem lmX8_129 : LkM RX8 129 yX8_used := lw_good_in (n := 1329) (by decide +kernel) rfl
theorem kcX8_133 : Cond.constantLong RX8 133 (30) ∈ lw_good := lw_good_in (n := 1337) (by decide +kernel) rfl
theorem lmX8_135 : Cond.methodLink RX8 135 Lib.MathLoose.max_long.x ∈ lw_good := lw_good_in (n := 1338) (by decide +kernel) rfl
theorem lmX8_141 : LkM RX8 141 yX8_above := lw_good_in (n := 1325) (by decide +kernel) rfl
theorem lmX8_145 : LkM RX8 145 yX8_below := lw_good_in (n := 1333) (by decide +kernel) rfl
theorem lmX8_149 : LkM RX8 149 yX8_sort := lw_good_in (n := 1156) (by decide +kernel) rfl
theorem lmX8_153 : Cond.methodLink RX8 153 Lib.MathLoose.min_long.x ∈ lw_good := lw_good_in (n := 1345) (by decide +kernel) rfl
theorem lmX8_156 : LkM RX8 156 yX8_written := lw_good_in (n := 1341) (by decide +kernel) rfl
theorem lmX8_160 : LkM RX8 160 yX8_pooled := lw_good_in (n := 1317) (by decide +kernel) rfl
theorem lmX8_164 : LkM RX8 164 yX8_poolOff := lw_good_in (n := 1313) (by decide +kernel) rfl
theorem lmX8_167 : LkM RX8 167 yX8_counts := lw_good_in (n := 1234) (by decide +kernel) rfl
theorem lmX8_171 : LkM RX8 171 yX8_deducted := lw_good_in (n := 1321) (by decide +kernel) rfl
theorem lmX8_175 : LkM RX8 175 yX8_profitTo := lw_good_in (n := 1305) (by decide +kernel) rfl
theorem lmX8_178 : LkM RX8 178 yX8_profit := lw_good_in (n := 1309) (by decide +kernel) rfl
theorem lmX8_181 : LkM RX8 181 yJx4a65c_isEmpty_aae02 := lw_good_in (n := 1492) (by decide +kernel) rfl
theorem lmX8_184 : LkM RX8 184 yJx4a65c_get_915e3 := lw_good_in (n := 1110) (by decide +kernel) rfl
theorem lmX8_188 : LkM RX8 188 yJx4a65c_size_8abf5 := lw_good_in (n := 1106) (by decide +kernel) rfl
theorem kcX8_191 : Cond.constantLong RX8 191 (1000) ∈ lw_good := lw_good_in (n := 1496) (by decide +kernel) rfl
theorem kcX8_193 : Cond.constantLong RX8 193 (4) ∈ lw_good := lw_good_in (n := 1487) (by decide +kernel) rfl
theorem lmX8_195 : LkM RX8 195 yX8_tax := lw_good_in (n := 1488) (by decide +kernel) rfl
theorem lmX8_203 : LkM RX8 203 yX7_entry := lw_good_in (n := 1122) (by decide +kernel) rfl
theorem lmX8_209 : LkM RX8 209 yX7_room := lw_good_in (n := 1148) (by decide +kernel) rfl
theorem lmX8_212 : LkM RX8 212 yX7_asset := lw_good_in (n := 1152) (by decide +kernel) rfl
theorem lmX8_215 : LkM RX8 215 yX7_count := lw_good_in (n := 1160) (by decide +kernel) rfl
theorem lmX8_218 : LkM RX8 218 yX7_prepayment := lw_good_in (n := 1184) (by decide +kernel) rfl
theorem lmX8_220 : LkM RX8 220 yX7_balance := lw_good_in (n := 1215) (by decide +kernel) rfl
theorem lmX8_223 : LkM RX8 223 yX8_balance := lw_good_in (n := 1230) (by decide +kernel) rfl
theorem lmX8_224 : LkM RX8 224 yX7_profitTo := lw_good_in (n := 1238) (by decide +kernel) rfl
theorem lmL_7 : LkM RL 7 yL_cell := lw_good_in (n := 788) (by decide +kernel) rfl
theorem kcL_13 : Cond.constant RL 13 (nI 2147483647) ∈ lw_good := lw_good_in (n := 791) (by decide +kernel) rfl
theorem lmL_14 : LkM RL 14 yX7_append := lw_good_in (n := 1379) (by decide +kernel) rfl
theorem kcL_22 : Cond.constant RL 22 (-1000000003) ∈ lw_good := lw_good_in (n := 1409) (by decide +kernel) rfl
theorem lmL_23 : LkM RL 23 yX7_load := lw_good_in (n := 1353) (by decide +kernel) rfl
theorem kcL_29 : Cond.constant RL 29 (-1000000002) ∈ lw_good := lw_good_in (n := 1365) (by decide +kernel) rfl
theorem lmL_30 : LkM RL 30 yX7_truncate := lw_good_in (n := 1369) (by decide +kernel) rfl
theorem lmL_34 : LkM RL 34 yJ0_length_8abf5 := lw_good_in (n := 1373) (by decide +kernel) rfl
theorem lmL_39 : LkM RL 39 yJ0_charAt_5068e := lw_good_in (n := 1374) (by decide +kernel) rfl
theorem lmL_43 : LkM RL 43 yL_append := lw_good_in (n := 1375) (by decide +kernel) rfl
theorem lmL_46 : LkM RL 46 yX7_addEntry := lw_good_in (n := 1505) (by decide +kernel) rfl
theorem lmL_49 : LkM RL 49 yX7_addAsset := lw_good_in (n := 1540) (by decide +kernel) rfl
theorem lmL_53 : LkM RL 53 yX7_sellAsset := lw_good_in (n := 1556) (by decide +kernel) rfl
theorem kcL_58 : Cond.constant RL 58 (-1000000001) ∈ lw_good := lw_good_in (n := 1427) (by decide +kernel) rfl
theorem lmL_59 : LkM RL 59 yX7_closeQuarter := lw_good_in (n := 1567) (by decide +kernel) rfl
theorem lmL_62 : LkM RL 62 yX7_setOffice := lw_good_in (n := 1532) (by decide +kernel) rfl
theorem lmL_65 : LkM RL 65 yX7_pay := lw_good_in (n := 1414) (by decide +kernel) rfl
theorem lmL_69 : LkM RL 69 yX7_cancel := lw_good_in (n := 1517) (by decide +kernel) rfl
theorem lmL_72 : LkM RL 72 yX7_addRoom := lw_good_in (n := 1524) (by decide +kernel) rfl
theorem lmL_75 : LkM RL 75 yX7_setStart := lw_good_in (n := 1591) (by decide +kernel) rfl
theorem lmL_78 : LkM RL 78 yX7_undo := lw_good_in (n := 1431) (by decide +kernel) rfl
theorem lmL_81 : LkM RL 81 yX7_restore := lw_good_in (n := 1443) (by decide +kernel) rfl
theorem kcL_84 : Cond.constant RL 84 (-1000000004) ∈ lw_good := lw_good_in (n := 1450) (by decide +kernel) rfl
theorem kcL_85 : Cond.constant RL 85 (nI 10000000) ∈ lw_good := lw_good_in (n := 1461) (by decide +kernel) rfl
theorem lmL_86 : LkM RL 86 yL_number := lw_good_in (n := 1455) (by decide +kernel) rfl
theorem kcL_89 : Cond.constant RL 89 (nI 300000) ∈ lw_good := lw_good_in (n := 1462) (by decide +kernel) rfl
theorem kcL_90 : Cond.constant RL 90 (nI 300001) ∈ lw_good := lw_good_in (n := 1463) (by decide +kernel) rfl
theorem flL_91 : FLk RL 91 RX8 TX8 10 tyX8 7 := ⟨by decide, inX8, tyX8_ok, nmX8, Or.inr ⟨"CashLedgerLaw", List.mem_filter.mpr ⟨List.mem_of_getElem? (i := 746) (by decide +kernel), rfl⟩⟩⟩
theorem lmL_97 : LkM RL 97 yJx4a65c_size_8abf5 := lw_good_in (n := 1454) (by decide +kernel) rfl
theorem flL_102 : FLk RL 102 RX8 TX8 10 tyX8 8 := ⟨by decide, inX8, tyX8_ok, nmX8, Or.inr ⟨"CashLedgerLaw", List.mem_filter.mpr ⟨List.mem_of_getElem? (i := 748) (by decide +kernel), rfl⟩⟩⟩
theorem flL_105 : FLk RL 105 RX8 TX8 10 tyX8 6 := ⟨by decide, inX8, tyX8_ok, nmX8, Or.inr ⟨"CashLedgerLaw", List.mem_filter.mpr ⟨List.mem_of_getElem? (i := 744) (by decide +kernel), rfl⟩⟩⟩
theorem lmL_108 : LkM RL 108 yL_amount := lw_good_in (n := 1458) (by decide +kernel) rfl
theorem lmL_111 : LkM RL 111 yL_day := lw_good_in (n := 1464) (by decide +kernel) rfl
theorem lmL_114 : LkM RL 114 yL_is := lw_good_in (n := 1467) (by decide +kernel) rfl
theorem flL_118 : FLk RL 118 RX8 TX8 10 tyX8 9 := ⟨by decide, inX8, tyX8_ok, nmX8, Or.inr ⟨"CashLedgerLaw", List.mem_filter.mpr ⟨List.mem_of_getElem? (i := 750) (by decide +kernel), rfl⟩⟩⟩
theorem lmL_121 : LkM RL 121 yJx4a65c_add_9ea2d := lw_good_in (n := 1470) (by decide +kernel) rfl
theorem lmL_125 : LkM RL 125 yJx4a65c_get_915e3 := lw_good_in (n := 1471) (by decide +kernel) rfl
theorem clL_129 : Cond.classLink RL 129 "[I" ∈ lw_good := lw_good_in (n := 1472) (by decide +kernel) rfl
theorem kcL_131 : Cond.constant RL 131 (nI 5000000) ∈ lw_good := lw_good_in (n := 1473) (by decide +kernel) rfl
theorem kcL_132 : Cond.constant RL 132 (nI 250000) ∈ lw_good := lw_good_in (n := 1474) (by decide +kernel) rfl
theorem lmL_133 : LkM RL 133 yX8_value := lw_good_in (n := 1475) (by decide +kernel) rfl
theorem lmL_136 : LkM RL 136 yX8_sumPrepaid := lw_good_in (n := 1479) (by decide +kernel) rfl
theorem lmL_140 : LkM RL 140 yX8_prepayment := lw_good_in (n := 1483) (by decide +kernel) rfl
theorem lmL_144 : LkM RL 144 yJ6_valueOf_2dffe := lw_good_in (n := 1497) (by decide +kernel) rfl
theorem kcL_150 : Cond.constant RL 150 (-10000000) ∈ lw_good := lw_good_in (n := 1498) (by decide +kernel) rfl
theorem flL_151 : FLk RL 151 RX8 TX8 10 tyX8 0 := ⟨by decide, inX8, tyX8_ok, nmX8, Or.inr ⟨"CashLedgerLaw", List.mem_filter.mpr ⟨List.mem_of_getElem? (i := 737) (by decide +kernel), rfl⟩⟩⟩
theorem lmL_155 : LkM RL 155 yL_addEntry := lw_good_in (n := 1502) (by decide +kernel) rfl
theorem lmL_158 : LkM RL 158 yL_pay := lw_good_in (n := 1410) (by decide +kernel) rfl
theorem lmL_161 : LkM RL 161 yL_cancel := lw_good_in (n := 1514) (by decide +kernel) rfl
theorem lmL_163 : LkM RL 163 yL_addRoom := lw_good_in (n := 1521) (by decide +kernel) rfl
theorem lmL_165 : LkM RL 165 yL_setOffice := lw_good_in (n := 1529) (by decide +kernel) rfl
theorem lmL_168 : LkM RL 168 yL_addAsset := lw_good_in (n := 1537) (by decide +kernel) rfl
theorem lmL_170 : LkM RL 170 yL_sellAsset := lw_good_in (n := 1553) (by decide +kernel) rfl
theorem lmL_172 : LkM RL 172 yL_closeQuarter := lw_good_in (n := 1564) (by decide +kernel) rfl
theorem lmL_175 : LkM RL 175 yL_setStart := lw_good_in (n := 1588) (by decide +kernel) rfl
theorem lmL_200 : LkM RL 200 yL_type := lw_good_in (n := 1366) (by decide +kernel) rfl
theorem lmL_204 : LkM RL 204 yX7_errorPosition := lw_good_in (n := 403) (by decide +kernel) rfl
theorem lmL_182 : LkM RL 182 yL_load := lw_good_in (n := 1349) (by decide +kernel) rfl
theorem lmL_249 : LkM RL 249 yL_isWrong := lw_good_in (n := 1600) (by decide +kernel) rfl
theorem nwL_15 : NWk RL 15 RX7 TX7 9 tyX7 := ⟨inX7, tyX7_ok, lw_good_in (n := 97) (by decide +kernel) rfl, lw_good_in (n := 98) (by decide +kernel) rfl, lw_good_in (n := 63) (by decide +kernel) rfl⟩
theorem lmL_177 : LkM RL 177 yX7_init := lw_good_in (n := 99) (by decide +kernel) rfl
theorem lmL_178 : LkM RL 178 yL_undo := lw_good_in (n := 1428) (by decide +kernel) rfl
theorem lmL_180 : LkM RL 180 yL_restore := lw_good_in (n := 1440) (by decide +kernel) rfl
theorem lmL_184 : LkM RL 184 yX8_plain := lw_good_in (n := 772) (by decide +kernel) rfl
theorem lmL_188 : LkM RL 188 yX8_isAs := lw_good_in (n := 1102) (by decide +kernel) rfl
theorem lmL_192 : LkM RL 192 yX8_drawn := lw_good_in (n := 781) (by decide +kernel) rfl
theorem lmL_196 : LkM RL 196 yX8_text := lw_good_in (n := 798) (by decide +kernel) rfl
theorem nwL_98 : NWk RL 98 RJx4a65c TJx4a65c 3 tyJx4a65c := ⟨inJx4a65c, tyJx4a65c_ok, lw_good_in (n := 1621) (by decide +kernel) rfl, lw_good_in (n := 567) (by decide +kernel) rfl, lw_good_in (n := 85) (by decide +kernel) rfl⟩
theorem lmL_207 : LkM RL 207 yJx4a65c_init_da8c8 := lw_good_in (n := 1622) (by decide +kernel) rfl
theorem kcL_208 : Cond.constant RL 208 (nI 1000000000) ∈ lw_good := lw_good_in (n := 1637) (by decide +kernel) rfl
theorem lmL_209 : LkM RL 209 yL_pick := lw_good_in (n := 1348) (by decide +kernel) rfl
theorem lmL_213 : LkM RL 213 yJx4a65c_isEmpty_aae02 := lw_good_in (n := 1623) (by decide +kernel) rfl
theorem lmL_217 : LkM RL 217 yJx4a65c_remove_915e3 := lw_good_in (n := 1624) (by decide +kernel) rfl
theorem clL_92 : Cond.classLink RL 92 "CashLedgerLaw$Book" ∈ lw_good := lw_good_in (n := 558) (by decide +kernel) rfl
theorem lmL_220 : LkM RL 220 yX7_save := lw_good_in (n := 542) (by decide +kernel) rfl
theorem nwL_92 : NWk RL 92 RX8 TX8 10 tyX8 := ⟨inX8, tyX8_ok, lw_good_in (n := 558) (by decide +kernel) rfl, lw_good_in (n := 559) (by decide +kernel) rfl, lw_good_in (n := 82) (by decide +kernel) rfl⟩
theorem lmL_223 : LkM RL 223 yX8_init_ := lw_good_in (n := 560) (by decide +kernel) rfl
theorem lmL_226 : LkM RL 226 yJx4a65c_clear_da8c8 := lw_good_in (n := 1633) (by decide +kernel) rfl
theorem lmL_229 : LkM RL 229 yL_act := lw_good_in (n := 1451) (by decide +kernel) rfl
theorem lmL_233 : LkM RL 233 yL_call := lw_good_in (n := 1499) (by decide +kernel) rfl
theorem lmL_237 : LkM RL 237 yL_isError := lw_good_in (n := 1447) (by decide +kernel) rfl
theorem lmL_241 : LkM RL 241 yX7_undoCount := lw_good_in (n := 538) (by decide +kernel) rfl
theorem lmL_244 : LkM RL 244 yL_texts := lw_good_in (n := 1596) (by decide +kernel) rfl
theorem cl9_20 : Cond.classLink RL 20 "java/lang/IllegalStateException" ∈ lw_good := lw_good_in (n := 1378) (by decide +kernel) rfl
theorem cl9_27 : Cond.classLink RL 27 "java/lang/IllegalArgumentException" ∈ lw_good := lw_good_in (n := 1352) (by decide +kernel) rfl
theorem cl9_56 : Cond.classLink RL 56 "java/lang/IndexOutOfBoundsException" ∈ lw_good := lw_good_in (n := 1413) (by decide +kernel) rfl
theorem ins_eIAE : Cond.instantiable "java/lang/IllegalArgumentException" 6 ∈ lw_good := lw_good_in (n := 979) (by decide +kernel) rfl
theorem ins_eISE : Cond.instantiable "java/lang/IllegalStateException" 6 ∈ lw_good := lw_good_in (n := 1390) (by decide +kernel) rfl
theorem ins_eIOB : Cond.instantiable "java/lang/IndexOutOfBoundsException" 6 ∈ lw_good := lw_good_in (n := 1130) (by decide +kernel) rfl
theorem ins_eNSE : Cond.instantiable "java/util/NoSuchElementException" 6 ∈ lw_good := lw_good_in (n := 1200) (by decide +kernel) rfl
theorem se_hasNext : Cond.selects RJx35411 ⟨"java/util/Iterator", "hasNext", "()Z"⟩ yJx35411_hasNext_aae02 ∈ lw_good := lw_good_in (n := 623) (by decide +kernel) rfl
theorem se_next : Cond.selects RJx35411 ⟨"java/util/Iterator", "next", "()Ljava/lang/Object;"⟩ yJx35411_next_0502b ∈ lw_good := lw_good_in (n := 632) (by decide +kernel) rfl
theorem aw_b : Cond.arrayClass .byte ∈ lw_good := lw_good_in (n := 537) (by decide +kernel) rfl
theorem sm_append_s : Cond.sameMethod RJ5 RJ5 "append" "(Ljava/lang/String;)Ljava/lang/AbstractStringBuilder;" ∈ lw_good := lw_good_in (n := 1638) (by decide +kernel) rfl
theorem sm_append_i : Cond.sameMethod RJ5 RJ5 "append" "(I)Ljava/lang/AbstractStringBuilder;" ∈ lw_good := lw_good_in (n := 1645) (by decide +kernel) rfl
theorem sm_append_c : Cond.sameMethod RJ5 RJ5 "append" "(C)Ljava/lang/AbstractStringBuilder;" ∈ lw_good := lw_good_in (n := 1648) (by decide +kernel) rfl
theorem sm_length : Cond.sameMethod RJ5 RJ5 "length" "()I" ∈ lw_good := lw_good_in (n := 962) (by decide +kernel) rfl
theorem su_sb : Cond.superclass RJ4 RJ5 ∈ lw_good := lw_good_in (n := 831) (by decide +kernel) rfl
