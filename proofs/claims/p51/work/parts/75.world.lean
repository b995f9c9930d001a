/-! 75: the world that the statement gives at the start -/
abbrev fl1 : List Cond := flatC (Jvm.Cond.and given_1 narrow_1)
/-- what the statement says of a string constant and its bytes -/
def strC (r : String × Nat × String) (bs : List Int32) : List Cond := [.exactly (.string r.1 r.2.1) "java/lang/String", .eq (.field (.string r.1 r.2.1) "java/lang/String" "coder" "B") (.int 0), .arrayOf (.field (.string r.1 r.2.1) "java/lang/String" "value" "[B") .byte, .eq (.length (.field (.string r.1 r.2.1) "java/lang/String" "value" "[B")) (.int (Int32.ofNat bs.length))] ++ (List.range bs.length).map (fun j => .eq (.elem (.field (.string r.1 r.2.1) "java/lang/String" "value" "[B") (.int (Int32.ofNat j))) (.int (bs.getD j 0)))
def strI : List (List Nat) := [[296, 297, 298, 299, 300, 301, 302, 303, 304], [305, 306, 307, 308, 309, 310, 311, 312, 313, 314], [315, 316, 317, 318, 319, 320, 321, 322, 323, 324, 325, 326], [327, 328, 329, 330, 331, 332, 333], [334, 335, 336, 337, 338, 339, 340, 341, 342, 343, 344], [345, 346, 347, 348, 349, 350, 351, 352], [353, 354, 355, 356, 357, 358, 359, 360, 361, 362], [594, 595, 596, 597, 598, 599, 600, 601, 602, 603, 604, 605, 606, 607, 608, 609, 610, 611, 612, 613, 614, 615, 616, 617, 618, 619, 620, 621, 622, 623, 624, 625, 626, 627, 628, 629, 630, 631, 632, 633, 634, 635, 636, 637, 638, 639, 640], [511, 512, 513, 514, 515, 516, 517, 518, 519, 520, 521, 522, 523, 524, 525, 526, 527, 528, 529, 530, 531, 532, 533, 534, 535, 536, 537, 538, 539, 540, 541, 542, 543, 544, 545, 546, 547, 548, 549, 550, 551, 552, 553, 554, 555, 556, 557, 558, 559, 560, 561, 562, 563, 564, 565, 566, 567], [452, 453, 454, 455, 456, 457, 458, 459, 460, 461, 462, 463, 464, 465, 466, 467, 468, 469, 470, 471, 472, 473, 474, 475, 476, 477, 478, 479, 480, 481, 482, 483, 484, 485, 486], [487, 488, 489, 490, 491, 492, 493, 494, 495, 496, 497, 498, 499, 500, 501, 502, 503, 504, 505, 506, 507, 508, 509, 510], [568, 569, 570, 571, 572, 573, 574, 575, 576, 577, 578, 579, 580, 581, 582, 583, 584, 585, 586, 587, 588, 589, 590, 591, 592, 593], [363, 364, 365, 366, 367, 368, 369, 370, 371, 372], [380, 381, 382, 383, 384, 385, 386, 387, 388, 389, 390, 391], [392, 393, 394, 395, 396, 397, 398, 399, 400, 401, 402, 403, 404, 405], [406, 407, 408, 409, 410, 411, 412, 413, 414, 415, 416], [417, 418, 419, 420, 421, 422, 423, 424, 425, 426, 427, 428, 429], [430, 431, 432, 433, 434, 435, 436, 437, 438, 439], [440, 441, 442, 443, 444, 445, 446, 447, 448, 449, 450, 451], [641, 642, 643, 644], [645, 646, 647, 648, 649, 650, 651, 652, 653, 654, 655, 656, 657, 658, 659, 660, 661, 662], [663, 664, 665, 666, 667, 668, 669, 670, 671, 672, 673, 674, 675, 676], [677, 678, 679, 680, 681, 682, 683, 684, 685, 686, 687, 688, 689, 690, 691, 692, 693, 694, 695, 696], [697, 698, 699, 700, 701, 702, 703, 704, 705, 706, 707, 708, 709, 710, 711, 712], [713, 714, 715, 716, 717, 718, 719, 720, 721, 722, 723], [724, 725, 726, 727, 728, 729, 730, 731, 732, 733, 734, 735, 736, 737, 738], [739, 740, 741, 742, 743, 744, 745, 746, 747, 748, 749, 750, 751, 752, 753, 754, 755, 756, 757, 758, 759, 760, 761, 762, 763, 764, 765], [766, 767, 768, 769, 770, 771, 772, 773, 774, 775, 776, 777, 778, 779, 780, 781, 782], [783, 784, 785, 786, 787, 788, 789, 790, 791, 792, 793, 794], [795, 796, 797, 798, 799, 800, 801, 802, 803, 804, 805, 806, 807, 808, 809, 810, 811, 812, 813, 814, 815], [816, 817, 818, 819, 820, 821, 822, 823, 824, 825, 826, 827, 828, 829, 830, 831, 832, 833, 834, 835, 836, 837, 838], [839, 840, 841, 842, 843, 844, 845, 846, 847, 848, 849, 850, 851, 852, 853, 854, 855, 856, 857], [858, 859, 860, 861, 862, 863, 864, 865, 866, 867, 868, 869, 870, 871, 872, 873, 874, 875, 876], [877, 878, 879, 880, 881, 882, 883, 884, 885, 886, 887, 888], [889, 890, 891, 892, 893, 894, 895, 896, 897, 898, 899, 900, 901, 902, 903, 904, 905, 906, 907], [908, 909, 910, 911, 912, 913, 914, 915, 916, 917, 918, 919], [920, 921, 922, 923, 924, 925, 926, 927, 928, 929, 930], [931, 932, 933, 934, 935, 936, 937, 938, 939, 940, 941, 942, 943, 944, 945, 946, 947, 948, 949, 950, 951, 952, 953, 954, 955, 956, 957, 958, 959, 960, 961, 962, 963, 964, 965, 966, 967, 968, 969, 970, 971, 972, 973, 974, 975, 976, 977, 978, 979, 980, 981, 982], [373, 374, 375, 376, 377, 378, 379]]
def strW : List Nat := [435, 500, 506, 511, 516, 527, 532, 1398, 1195, 1138, 1146, 1208, 832, 1083, 1097, 1098, 1099, 1100, 1101, 1599, 1603, 1604, 1605, 1606, 1607, 1608, 1609, 1610, 1611, 1612, 1613, 1614, 1615, 1616, 1617, 1618, 1619, 1620, 1023]
def strR (j : Nat) : String × Nat × String := strT.getD j ("", 0, "")
theorem strC_ok : ((List.range 39).all (fun j => decide ((strC (strR j) (strB.getD j [])).length ≤ (strI.getD j []).length) && ((strC (strR j) (strB.getD j [])).zip (strI.getD j [])).all (fun q => decide (fl1[q.2]? = some q.1)))) = true := by decide +kernel
theorem strW_ok : ((List.range 39).all (fun j => decide (lw_tbl[strW.getD j 0]? = some (.stringRef (strR j).1 (strR j).2.1 (strR j).2.2)) && decide ((strB.getD j []).length < 100) && decide (strT[j]? = some (strR j)))) = true := by decide +kernel
/-- what the statement says of a row of digits -/
def digC (nm : String) (g : Nat → Int32) (j : Nat) : Cond := .eq (.elem (.static "java/lang/Integer" nm "[B") (.int (Int32.ofNat j))) (.int (g j))
theorem dig1_ok : ((List.range 100).all (fun j => decide (fl1[21 + j]? = some (digC "DigitOnes" dgO j)))) = true := by decide +kernel
theorem dig2_ok : ((List.range 100).all (fun j => decide (fl1[124 + j]? = some (digC "DigitTens" dgT j)))) = true := by decide +kernel
theorem zip_all {α β : Type} {q : α × β → Bool} : ∀ {l : List α} {k : List β}, l.length ≤ k.length → (l.zip k).all q = true → ∀ x ∈ l, ∃ y, q (x, y) = true := by
  intro l
  induction l with
  | nil => intro k _ _ x hx; cases hx
  | cons a l ih =>
    intro k hk h x hx
    cases k with
    | nil => simp at hk
    | cons b k =>
      rw [List.zip_cons_cons, List.all_cons, Bool.and_eq_true] at h
      rcases List.mem_cons.mp hx with rfl | hx
      · exact ⟨b, h.1⟩
      · exact ih (by simpa using hk) h.2 x hx
theorem strC_in {j : Nat} (hj : j < 39) : ∀ w ∈ strC (strR j) (strB.getD j []), w ∈ fl1 := by
  intro w hw
  have h := List.all_eq_true.mp strC_ok j (List.mem_range.mpr hj)
  rw [Bool.and_eq_true] at h
  obtain ⟨y, hy⟩ := zip_all (of_decide_eq_true h.1) h.2 w hw
  exact List.mem_of_getElem? (of_decide_eq_true hy)
section WLD
variable {args : Array Value} {s : State}
theorem w_str (hts : ∀ w ∈ lw_tbl, w.before args s = true) (hg : ∀ w ∈ fl1, w.before args s = true) {A : Nat → Prop} (hA : ∀ a : Nat, a < s.heap.size → ¬ A a) {j : Nat} (hj : j < 39) : ∃ q : Nat × Nat, vk_R (strR j).1 (strR j).2.1 (strR j).2.2 q.1 s ∧ va_O "java/lang/String" q.1 A s s.heap ∧ va_OF "java/lang/String" "coder" "B" (.int 0) q.1 A s s.heap ∧ va_OF "java/lang/String" "value" "[B" (.ref q.2) q.1 A s s.heap ∧ va_T .byte q.2 (strB.getD j []).length (fun k => .int ((strB.getD j []).getD k 0)) A s s.heap := by
  have hc := fun w hw => hg w (strC_in hj w hw)
  have h9 := List.all_eq_true.mp strW_ok j (List.mem_range.mpr hj)
  rw [Bool.and_eq_true, Bool.and_eq_true] at h9
  generalize hr : strR j = r at *
  generalize hb : strB.getD j [] = bs at *
  have hlen : bs.length < 100 := of_decide_eq_true h9.1.2
  have i0 : ∀ i : Nat, i < 1 → i = 0 := fun i h => by omega
  obtain ⟨adK, adV, h1, h2⟩ := vk_Sof (args := args) (s := s) (N := 1) (tm := fun _ => Term.string r.1 r.2.1) (len := [bs.length]) (byt := [bs]) (A := A)
    (fun i hi => by rw [i0 i hi]; show bs.length < 2 ^ 31; omega)
    (fun i hi => hc _ (by simp [strC]))
    (fun i hi => hc _ (by simp [strC]))
    (fun i hi => hc _ (by simp [strC]))
    (fun i hi => by rw [i0 i hi]; exact hc _ (by simp [strC]))
    (fun i hi k hk => by
      rw [i0 i hi] at hk ⊢
      refine hc _ (List.mem_append_right _ (List.mem_map.mpr ⟨k, List.mem_range.mpr hk, rfl⟩)))
    (fun i k hi hk h => absurd ((i0 i hi).trans (i0 k hk).symm) h) hA
  obtain ⟨g1, g2, g3, g4⟩ := h1.1 0 (by decide)
  exact ⟨(adK 0, adV 0), vk_R.of (hts _ (List.mem_of_getElem? (of_decide_eq_true h9.1.1))) (h2 0 (by decide)), g1, g2, g3, g4⟩
theorem ex_ok : (exL.all (fun E => exL.all (fun E2 => decide (E = E2) || fl1.any (fun w => decide (w = .not (.castable E E2)))))) = true := by decide +kernel
theorem w_nc (hg : ∀ w ∈ fl1, w.before args s = true) : ∀ E ∈ exL, ∀ E2 ∈ exL, E ≠ E2 → va_Nc E E2 s := by
  intro E h1 E2 h2 hn
  have h := List.all_eq_true.mp (List.all_eq_true.mp ex_ok E h1) E2 h2
  rw [Bool.or_eq_true] at h
  rcases h with h | h
  · exact absurd (of_decide_eq_true h) hn
  · obtain ⟨w, hw, e⟩ := List.any_eq_true.mp h
    exact va_Nc.of (hg _ (of_decide_eq_true e ▸ hw))
theorem w_nw (hts : ∀ w ∈ lw_tbl, w.before args s = true) : NW s := by
  intro v hv
  have h1 := hts v (List.mem_filter.mp hv).1
  have h2 := (List.mem_filter.mp hv).2
  unfold nw_is at h2
  split at h2
  · exact va_Nw.of rfl h1
  · exact va_Nw.of rfl h1
  · cases h2
theorem w_k (hts : ∀ w ∈ lw_tbl, w.before args s = true) : ∃ (D : va_G) (cy : Nat → ClassId), va_K D vwCl (tysc cy) s := by
  have hgd : ∀ w ∈ lw_good, w.before args s = true := fun w hw => hts w (List.mem_filter.mp hw).1
  have h0 : ∀ k : Nat, ∃ q : ClassId × (Nat → Nat), ∀ r : vw_C, vwCl[k]? = some r → u_Kn s r.1 r.2.1 r.2.2 q.1 q.2 := by
    intro k
    match k with
    | 0 => obtain ⟨c, i, h⟩ := u_known (C := RX0) (T := TX0) (N := 7) (n := 7) hgd inX0 (hts _ (List.mem_of_getElem? (i := 276) (by decide +kernel))); exact ⟨(c, i), fun r hr => by cases hr; exact h⟩
    | 1 => obtain ⟨c, i, h⟩ := u_known (C := RX1) (T := TX1) (N := 8) (n := 8) hgd inX1 (hts _ (List.mem_of_getElem? (i := 230) (by decide +kernel))); exact ⟨(c, i), fun r hr => by cases hr; exact h⟩
    | 2 => obtain ⟨c, i, h⟩ := u_known (C := RX2) (T := TX2) (N := 3) (n := 3) hgd inX2 (hts _ (List.mem_of_getElem? (i := 341) (by decide +kernel))); exact ⟨(c, i), fun r hr => by cases hr; exact h⟩
    | 3 => obtain ⟨c, i, h⟩ := u_known (C := RX3) (T := TX3) (N := 4) (n := 4) hgd inX3 (hts _ (List.mem_of_getElem? (i := 118) (by decide +kernel))); exact ⟨(c, i), fun r hr => by cases hr; exact h⟩
    | 4 => obtain ⟨c, i, h⟩ := u_known (C := RX4) (T := TX4) (N := 9) (n := 9) hgd inX4 (hts _ (List.mem_of_getElem? (i := 112) (by decide +kernel))); exact ⟨(c, i), fun r hr => by cases hr; exact h⟩
    | 5 => obtain ⟨c, i, h⟩ := u_known (C := RX5) (T := TX5) (N := 11) (n := 11) hgd inX5 (hts _ (List.mem_of_getElem? (i := 106) (by decide +kernel))); exact ⟨(c, i), fun r hr => by cases hr; exact h⟩
    | 6 => obtain ⟨c, i, h⟩ := u_known (C := RX6) (T := TX6) (N := 6) (n := 6) hgd inX6 (hts _ (List.mem_of_getElem? (i := 224) (by decide +kernel))); exact ⟨(c, i), fun r hr => by cases hr; exact h⟩
    | 7 => obtain ⟨c, i, h⟩ := u_known (C := RX7) (T := TX7) (N := 9) (n := 9) hgd inX7 (hts _ (List.mem_of_getElem? (i := 98) (by decide +kernel))); exact ⟨(c, i), fun r hr => by cases hr; exact h⟩
    | 8 => obtain ⟨c, i, h⟩ := u_known (C := RX8) (T := TX8) (N := 10) (n := 10) hgd inX8 (hts _ (List.mem_of_getElem? (i := 559) (by decide +kernel))); exact ⟨(c, i), fun r hr => by cases hr; exact h⟩
    | 9 => obtain ⟨c, i, h⟩ := u_known (C := RJx4a65c) (T := TJx4a65c) (N := 3) (n := 3) hgd inJx4a65c (hts _ (List.mem_of_getElem? (i := 567) (by decide +kernel))); exact ⟨(c, i), fun r hr => by cases hr; exact h⟩
    | 10 => obtain ⟨c, i, h⟩ := u_known (C := RJx35411) (T := TJx35411) (N := 4) (n := 4) hgd inJx35411 (hts _ (List.mem_of_getElem? (i := 600) (by decide +kernel))); exact ⟨(c, i), fun r hr => by cases hr; exact h⟩
    | 11 => obtain ⟨c, i, h⟩ := u_known (C := RJ6) (T := TJ6) (N := 1) (n := 1) hgd inJ6 (hts _ (List.mem_of_getElem? (i := 724) (by decide +kernel))); exact ⟨(c, i), fun r hr => by cases hr; exact h⟩
    | 12 => obtain ⟨c, i, h⟩ := u_known (C := RJ4) (T := TJ4) (N := 4) (n := 4) hgd inJ4 (hts _ (List.mem_of_getElem? (i := 803) (by decide +kernel))); exact ⟨(c, i), fun r hr => by cases hr; exact h⟩
    | 13 => obtain ⟨c, i, h⟩ := u_known (C := RJ0) (T := TJ0) (N := 4) (n := 4) hgd inJ0 (hts _ (List.mem_of_getElem? (i := 947) (by decide +kernel))); exact ⟨(c, i), fun r hr => by cases hr; exact h⟩
    | k + 14 => exact ⟨(0, fun _ => 0), fun r hr => by simp at hr⟩
  obtain ⟨f, hf⟩ := Classical.axiomOfChoice h0
  obtain ⟨a0, k0, m0, b0, d0, e0⟩ := Cond.arrayClass_spec (hts (.arrayClass .int) (List.mem_of_getElem? (i := 142) (by decide +kernel)))
  obtain ⟨a1, k1, m1, b1, d1, e1⟩ := Cond.arrayClass_spec (hts (.arrayClass .long) (List.mem_of_getElem? (i := 402) (by decide +kernel)))
  obtain ⟨a2, k2, m2, b2, d2, e2⟩ := Cond.arrayClass_spec (hts (.arrayClass .boolean) (List.mem_of_getElem? (i := 272) (by decide +kernel)))
  obtain ⟨a3, k3, m3, b3, d3, e3⟩ := Cond.arrayClass_spec (hts (.arrayClass .byte) (List.mem_of_getElem? (i := 537) (by decide +kernel)))
  obtain ⟨m4, a4, k4, g4, -, d4, e4, b4⟩ := Cond.arrayOver_spec (hts (.arrayOver (.object RX6)) (List.mem_of_getElem? (i := 347) (by decide +kernel)))
  obtain ⟨m5, a5, k5, g5, -, d5, e5, b5⟩ := Cond.arrayOver_spec (hts (.arrayOver (.object "java/lang/Object")) (List.mem_of_getElem? (i := 697) (by decide +kernel)))
  refine ⟨(fun k => (f k).1, fun k => (f k).2), fun k => match k with | 0 => a0 | 1 => a1 | 2 => a2 | 3 => a3 | 4 => a4 | _ => a5, fun k r hr => hf k r hr, fun k q hq => ?_⟩
  match k, hq with
  | 0, hq => cases hq; exact ⟨fun n z => ⟨(fun k h => by cases h), k0, d0, m0, e0⟩, b0⟩
  | 1, hq => cases hq; exact ⟨fun n z => ⟨(fun k h => by cases h), k1, d1, m1, e1⟩, b1⟩
  | 2, hq => cases hq; exact ⟨fun n z => ⟨(fun k h => by cases h), k2, d2, m2, e2⟩, b2⟩
  | 3, hq => cases hq; exact ⟨fun n z => ⟨(fun k h => by cases h), k3, d3, m3, e3⟩, b3⟩
  | 4, hq => cases hq; exact ⟨fun n z => ⟨(fun k h => by cases h), k4, d4, m4, e4⟩, k4, m4, d4, e4, g4, b4⟩
  | 5, hq => cases hq; exact ⟨fun n z => ⟨(fun k h => by cases h), k5, d5, m5, e5⟩, k5, m5, d5, e5, g5, b5⟩
  | k + 6, hq => simp [tysc] at hq
/-- where what is old stands -/
def odX (aK aV g3 ad : Nat → Nat) (b L : Nat) (xs : Nat → Int32) : Nat → Option Nat := fun k => if k < 1000000 then none else if k < 2000000 then some (aK (k - 1000000)) else if k < 3000000 then some (aV (k - 2000000)) else if k < 3001000 then some (g3 (k - 3000000)) else if k < 4000000 then some (ad (k - 3001000)) else if k = 4000000 then some b else if k = 4000001 then some L else some (xs (k - 4000002)).toBitVec.toNat
section ODX
variable {aK aV g3 ad : Nat → Nat} {b L : Nat} {xs : Nat → Int32}
theorem odX_0 {k : Nat} (h : k < 1000000) : odX aK aV g3 ad b L xs k = none := by unfold odX; rw [if_pos h]
theorem odX_1 {j : Nat} (h : j < 1000) : odX aK aV g3 ad b L xs (1000000 + j) = some (aK j) := by unfold odX; rw [if_neg (by omega), if_pos (by omega), Nat.add_sub_cancel_left]
theorem odX_2 {j : Nat} (h : j < 1000) : odX aK aV g3 ad b L xs (2000000 + j) = some (aV j) := by unfold odX; rw [if_neg (by omega), if_neg (by omega), if_pos (by omega), Nat.add_sub_cancel_left]
theorem odX_3 {j : Nat} (h : j < 1000) : odX aK aV g3 ad b L xs (3000000 + j) = some (g3 j) := by unfold odX; rw [if_neg (by omega), if_neg (by omega), if_neg (by omega), if_pos (by omega), Nat.add_sub_cancel_left]
theorem odX_5 {j : Nat} (h : j < 1000) : odX aK aV g3 ad b L xs (3001000 + j) = some (ad j) := by unfold odX; rw [if_neg (by omega), if_neg (by omega), if_neg (by omega), if_neg (by omega), if_pos (by omega), Nat.add_sub_cancel_left]
theorem odX_4 : odX aK aV g3 ad b L xs 4000000 = some b := by unfold odX; rw [if_neg (by omega), if_neg (by omega), if_neg (by omega), if_neg (by omega), if_neg (by omega), if_pos rfl]
theorem odX_L : odX aK aV g3 ad b L xs 4000001 = some L := by unfold odX; rw [if_neg (by omega), if_neg (by omega), if_neg (by omega), if_neg (by omega), if_neg (by omega), if_neg (by omega), if_pos rfl]
theorem odX_x (j : Nat) : odX aK aV g3 ad b L xs (4000002 + j) = some (xs j).toBitVec.toNat := by unfold odX; rw [if_neg (by omega), if_neg (by omega), if_neg (by omega), if_neg (by omega), if_neg (by omega), if_neg (by omega), if_neg (by omega), Nat.add_sub_cancel_left]
theorem nI_nat (x : Int32) : nI x.toBitVec.toNat = x := by
  apply Int32.toBitVec_inj.1
  show BitVec.ofNat 32 x.toBitVec.toNat = x.toBitVec
  simp
theorem odX_sL : scL (odX aK aV g3 ad b L xs) = L := by unfold scL; rw [odX_L]; rfl
theorem odX_sX : scX (odX aK aV g3 ad b L xs) = xs := by
  funext j
  unfold scX
  rw [odX_x]
  exact nI_nat (xs j)
end ODX
def g3F (t a1 a2 a3 a4 mi : Nat) : Nat → Nat
  | 0 => t
  | 1 => a1
  | 2 => a2
  | 3 => a3
  | 4 => a4
  | _ => mi
theorem w_old (hts : ∀ w ∈ lw_tbl, w.before args s = true) (hg : ∀ w ∈ fl1, w.before args s = true) {b L : Nat} {xs : Nat → Int32} (hX : va_X b L xs s s.heap) (hb : b < s.heap.size) (hL : L ≤ 260) : ∃ od : Nat → Option Nat, OldF s.heap.size od s s.heap ∧ od 4000000 = some b := by
  have hA : ∀ a : Nat, a < s.heap.size → ¬ s.heap.size ≤ a := fun a h => Nat.not_le.mpr h
  have h0 : ∀ j : Nat, ∃ q : Nat × Nat, j < 39 → vk_R (strR j).1 (strR j).2.1 (strR j).2.2 q.1 s ∧ va_O "java/lang/String" q.1 (fun q => s.heap.size ≤ q) s s.heap ∧ va_OF "java/lang/String" "coder" "B" (.int 0) q.1 (fun q => s.heap.size ≤ q) s s.heap ∧ va_OF "java/lang/String" "value" "[B" (.ref q.2) q.1 (fun q => s.heap.size ≤ q) s s.heap ∧ va_T .byte q.2 (strB.getD j []).length (fun k => .int ((strB.getD j []).getD k 0)) (fun q => s.heap.size ≤ q) s s.heap := by
    intro j
    by_cases hj : j < 39
    · obtain ⟨q, h⟩ := w_str hts hg hA hj
      exact ⟨q, fun _ => h⟩
    · exact ⟨(0, 0), fun h => absurd h hj⟩
  obtain ⟨f, hf⟩ := Classical.axiomOfChoice h0
  have hZ := va_Zqof (C := "jdk/internal/util/Preconditions") (n := "SIOOBE_FORMATTER") (d := "Ljava/util/function/BiFunction;") (A := (fun q => s.heap.size ≤ q)) (hts _ (List.mem_of_getElem? (i := 465) (by decide +kernel))) (hts _ (List.mem_of_getElem? (i := 78) (by decide +kernel))) (hg _ (List.mem_of_getElem? (i := 5) (by decide +kernel))) hA
  obtain ⟨t, ht⟩ : ∃ t : Nat, va_Z "jdk/internal/util/Preconditions" "SIOOBE_FORMATTER" "Ljava/util/function/BiFunction;" .null (fun q => s.heap.size ≤ q) s s.heap ∨ va_Z "jdk/internal/util/Preconditions" "SIOOBE_FORMATTER" "Ljava/util/function/BiFunction;" (.ref t) (fun q => s.heap.size ≤ q) s s.heap := by
    rcases hZ with h | ⟨t, h⟩
    · exact ⟨0, Or.inl h⟩
    · exact ⟨t, Or.inr h⟩
  obtain ⟨a1, p1, r1⟩ := va_Tof (tm := (Term.static "java/util/ArrayList" "DEFAULTCAPACITY_EMPTY_ELEMENTDATA" "[Ljava/lang/Object;")) (ty := .object "java/lang/Object") (N := 0) (f := fun _ => .null) (A := (fun q => s.heap.size ≤ q)) (by decide) (hg _ (List.mem_of_getElem? (i := 10) (by decide +kernel))) (va_eqt (hg _ (List.mem_of_getElem? (i := 12) (by decide +kernel)))) (fun j hj => absurd hj (Nat.not_lt_zero j)) hA
  obtain ⟨ad, c1, c2⟩ := vb_Cof (st := (Term.static "java/lang/Integer$IntegerCache" "cache" "[Ljava/lang/Integer;")) (A := (fun q => s.heap.size ≤ q)) rfl (va_eqt (hg _ (List.mem_of_getElem? (i := 16) (by decide +kernel)))) (hg _ (List.mem_of_getElem? (i := 17) (by decide +kernel))) hA
  obtain ⟨a2, p2, r2⟩ := va_Tof (tm := (Term.static "java/lang/Integer$IntegerCache" "cache" "[Ljava/lang/Integer;")) (ty := .object "java/lang/Integer") (N := 256) (f := fun k => .ref (ad k)) (A := (fun q => s.heap.size ≤ q)) (by decide) (hg _ (List.mem_of_getElem? (i := 15) (by decide +kernel))) (va_eqt (hg _ (List.mem_of_getElem? (i := 16) (by decide +kernel)))) c2 hA
  obtain ⟨a3, p3, r3⟩ := va_Tof (tm := (Term.static "java/lang/Integer" "DigitOnes" "[B")) (ty := .byte) (N := 100) (f := fun k => .int (dgO k)) (A := (fun q => s.heap.size ≤ q)) (by decide) (hg _ (List.mem_of_getElem? (i := 19) (by decide +kernel))) (va_eqt (hg _ (List.mem_of_getElem? (i := 20) (by decide +kernel)))) (fun j hj => va_eqt (hg _ (List.mem_of_getElem? (of_decide_eq_true (List.all_eq_true.mp dig1_ok j (List.mem_range.mpr hj)))))) hA
  obtain ⟨a4, p4, r4⟩ := va_Tof (tm := (Term.static "java/lang/Integer" "DigitTens" "[B")) (ty := .byte) (N := 100) (f := fun k => .int (dgT k)) (A := (fun q => s.heap.size ≤ q)) (by decide) (hg _ (List.mem_of_getElem? (i := 122) (by decide +kernel))) (va_eqt (hg _ (List.mem_of_getElem? (i := 123) (by decide +kernel)))) (fun j hj => va_eqt (hg _ (List.mem_of_getElem? (of_decide_eq_true (List.all_eq_true.mp dig2_ok j (List.mem_range.mpr hj)))))) hA
  obtain ⟨mi, r5⟩ := va_Mi.of (C := "[Ljava/lang/Object;") (hg _ (List.mem_of_getElem? (i := 295) (by decide +kernel)))
  refine ⟨odX (fun j => (f j).1) (fun j => (f j).2) (g3F t a1 a2 a3 a4 mi) ad b L xs, ⟨?_, ?_, fun j q hq => ?_, fun k hk => odX_0 hk, ?_, ?_, fun j hj => ?_, w_nc hg, va_AO.of (hts _ (List.mem_of_getElem? (i := 347) (by decide +kernel))), va_AO.of (hts _ (List.mem_of_getElem? (i := 697) (by decide +kernel))), fun q hq => ?_, fun q hq => ?_, ⟨va_Dc.of (hts _ (List.mem_of_getElem? (i := 1670) (by decide +kernel))), fun y hy => ?_⟩, ⟨mi, odX_3 (j := 5) (by decide), r5⟩, ⟨a1, odX_3 (j := 1) (by decide), va_Zof (hts _ (List.mem_of_getElem? (i := 579) (by decide +kernel))) (hts _ (List.mem_of_getElem? (i := 85) (by decide +kernel))) p1 hA, r1, r1.choose_spec.2.2.2.2.2.2⟩, ⟨va_Zof (hts _ (List.mem_of_getElem? (i := 720) (by decide +kernel))) (hts _ (List.mem_of_getElem? (i := 96) (by decide +kernel))) (va_eqt (hg _ (List.mem_of_getElem? (i := 13) (by decide +kernel)))) hA, a2, odX_3 (j := 2) (by decide), va_Zof (hts _ (List.mem_of_getElem? (i := 722) (by decide +kernel))) (hts _ (List.mem_of_getElem? (i := 96) (by decide +kernel))) p2 hA, ad, fun k hk => odX_5 (by omega), r2, c1⟩, ⟨a3, odX_3 (j := 3) (by decide), va_Zof (hts _ (List.mem_of_getElem? (i := 931) (by decide +kernel))) (hts _ (List.mem_of_getElem? (i := 95) (by decide +kernel))) p3 hA, r3⟩, ⟨a4, odX_3 (j := 4) (by decide), va_Zof (hts _ (List.mem_of_getElem? (i := 933) (by decide +kernel))) (hts _ (List.mem_of_getElem? (i := 95) (by decide +kernel))) p4 hA, r4⟩, ⟨b, odX_4, by rw [odX_sL, odX_sX]; exact hX, Nat.not_le.mpr hb, by rw [odX_sL]; exact hL⟩⟩, odX_4⟩
  · exact vx_Zqof (hts _ (List.mem_of_getElem? (i := 1005) (by decide +kernel))) (hts _ (List.mem_of_getElem? (i := 71) (by decide +kernel))) (hg _ (List.mem_of_getElem? (i := 224) (by decide +kernel))) hA
  · exact vx_Zqof (hts _ (List.mem_of_getElem? (i := 1007) (by decide +kernel))) (hts _ (List.mem_of_getElem? (i := 71) (by decide +kernel))) (hg _ (List.mem_of_getElem? (i := 225) (by decide +kernel))) hA
  · have hj : j < 39 := (List.getElem?_eq_some_iff.mp hq).1
    have h9 := List.all_eq_true.mp strW_ok j (List.mem_range.mpr hj)
    rw [Bool.and_eq_true] at h9
    have e : q = strR j := Option.some.inj (hq.symm.trans (of_decide_eq_true h9.2))
    subst e
    exact ⟨_, odX_1 (by omega), (hf j hj).1⟩
  · exact va_Zof (hts _ (List.mem_of_getElem? (i := 449) (by decide +kernel))) (hts _ (List.mem_of_getElem? (i := 76) (by decide +kernel))) (va_eqt (hg _ (List.mem_of_getElem? (i := 4) (by decide +kernel)))) hA
  · rcases ht with h | h
    · exact Or.inl h
    · exact Or.inr ⟨t, odX_3 (j := 0) (by decide), h⟩
  · exact ⟨_, _, odX_1 (by omega), odX_2 (by omega), (hf j hj).2⟩
  · simp only [castL, List.mem_cons, List.not_mem_nil, or_false] at hq
    rcases hq with rfl | rfl | rfl | rfl | rfl
    · exact va_Nw.of rfl (hts _ (List.mem_of_getElem? (i := 1671) (by decide +kernel)))
    · exact va_Nw.of rfl (hts _ (List.mem_of_getElem? (i := 1661) (by decide +kernel)))
    · exact va_Nw.of rfl (hts _ (List.mem_of_getElem? (i := 1650) (by decide +kernel)))
    · exact va_Nw.of rfl (hts _ (List.mem_of_getElem? (i := 710) (by decide +kernel)))
    · exact va_Nw.of rfl (hts _ (List.mem_of_getElem? (i := 860) (by decide +kernel)))
  · simp only [faceL, List.mem_cons, List.not_mem_nil, or_false] at hq
    rcases hq with rfl | rfl
    · exact va_Fw.of (hts _ (List.mem_of_getElem? (i := 621) (by decide +kernel))) (hts _ (List.mem_of_getElem? (i := 620) (by decide +kernel))) (hts _ (List.mem_of_getElem? (i := 626) (by decide +kernel))) (hts _ (List.mem_of_getElem? (i := 624) (by decide +kernel))) (hts _ (List.mem_of_getElem? (i := 622) (by decide +kernel)))
    · exact va_Fw.of (hts _ (List.mem_of_getElem? (i := 631) (by decide +kernel))) (hts _ (List.mem_of_getElem? (i := 630) (by decide +kernel))) (hts _ (List.mem_of_getElem? (i := 635) (by decide +kernel))) (hts _ (List.mem_of_getElem? (i := 633) (by decide +kernel))) (hts _ (List.mem_of_getElem? (i := 622) (by decide +kernel)))
  · simp only [privL, List.mem_cons, List.not_mem_nil, or_false] at hy
    rcases hy with rfl | rfl | rfl | rfl
    · exact va_Nw.of rfl (hts _ (List.mem_of_getElem? (i := 845) (by decide +kernel)))
    · exact va_Nw.of rfl (hts _ (List.mem_of_getElem? (i := 849) (by decide +kernel)))
    · exact va_Nw.of rfl (hts _ (List.mem_of_getElem? (i := 888) (by decide +kernel)))
    · exact va_Nw.of rfl (hts _ (List.mem_of_getElem? (i := 884) (by decide +kernel)))
end WLD
