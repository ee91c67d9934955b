-- what the tables' words say of the program's tables: each by one decision over a list, by places
def tw : List Cond := lw_tbl.filter goodWord
theorem tw_sub : ∀ w ∈ tw, w ∈ lw_tbl := fun w h => (List.mem_filter.mp h).1
theorem tw_good : GoodIn lw_tbl tw := fun w h => ⟨(List.mem_filter.mp h).1, good_of_word (List.mem_filter.mp h).2⟩
theorem tw_self : GoodIn tw tw := fun w h => ⟨h, good_of_word (List.mem_filter.mp h).2⟩
/-- the word at a place of the tables, good -/
def wd_at (i : Nat) (w : Cond) : Bool := decide (lw_tbl[i]? = some w) && goodWord w
theorem wd_in {i : Nat} {w : Cond} (h : wd_at i w = true) : w ∈ tw := by
  unfold wd_at at h
  simp only [Bool.and_eq_true, decide_eq_true_eq] at h
  exact List.mem_filter.mpr ⟨List.mem_of_getElem? h.1, h.2⟩
def cPl : List Nat := [161, 686, 398, 553, 402, 491, 557, 642, 650, 450, 459, 500, 670, 646, 654, 658, 406, 414, 418, 455, 465, 509, 561, 678, 565, 592, 514, 523, 544, 528, 532, 125, 353, 379, 383, 387, 483, 324, 342, 349, 357, 361, 573, 119, 304, 320, 316, 312, 569, 76, 662, 308, 369, 699, 702, 249, 257, 269, 292, 296, 300, 277, 273, 281, 261, 265, 167, 617, 621, 690, 518, 430, 536, 540, 634, 434, 439, 422, 469, 478, 473, 626, 426, 442, 486, 82, 253, 288, 328, 335, 338, 577, 364, 68, 245, 373, 391, 410, 495, 504, 549, 583, 588, 596, 608, 613, 638, 666, 674, 682, 695, 709, 713, 717, 724, 602, 599, 720, 394, 345, 729, 842, 872, 880, 862, 869, 858, 866, 854, 819, 876, 900, 958, 950, 903, 918, 954, 962, 884, 896, 915, 911, 907, 892, 888, 926, 922, 942, 946, 938, 934, 930, 970, 966, 982, 978, 974, 986, 993, 990, 997, 1009, 1005, 1001, 1017, 1013, 1021, 1025, 1029, 1034, 1039, 831, 846, 839, 835, 827, 850, 823, 1043, 1047, 1051, 446, 284]
theorem wd_c0 : (List.range' 0 31).all (fun m => wd_at (cPl.getD m 0) (Cond.code (pY m) (pB m) (pL m) (pR m))) = true := by decide +kernel
theorem wd_c1 : (List.range' 31 31).all (fun m => wd_at (cPl.getD m 0) (Cond.code (pY m) (pB m) (pL m) (pR m))) = true := by decide +kernel
theorem wd_c2 : (List.range' 62 31).all (fun m => wd_at (cPl.getD m 0) (Cond.code (pY m) (pB m) (pL m) (pR m))) = true := by decide +kernel
theorem wd_c3 : (List.range' 93 31).all (fun m => wd_at (cPl.getD m 0) (Cond.code (pY m) (pB m) (pL m) (pR m))) = true := by decide +kernel
theorem wd_c4 : (List.range' 124 31).all (fun m => wd_at (cPl.getD m 0) (Cond.code (pY m) (pB m) (pL m) (pR m))) = true := by decide +kernel
theorem wd_c5 : (List.range' 155 28).all (fun m => wd_at (cPl.getD m 0) (Cond.code (pY m) (pB m) (pL m) (pR m))) = true := by decide +kernel
theorem wd_codes (m : Nat) (h : m < 183) : Cond.code (pY m) (pB m) (pL m) (pR m) ∈ tw := by
  by_cases h0 : m < 31
  · exact wd_in (List.all_eq_true.mp wd_c0 m (List.mem_range'_1.mpr ⟨by omega, by omega⟩))
  by_cases h31 : m < 62
  · exact wd_in (List.all_eq_true.mp wd_c1 m (List.mem_range'_1.mpr ⟨by omega, by omega⟩))
  by_cases h62 : m < 93
  · exact wd_in (List.all_eq_true.mp wd_c2 m (List.mem_range'_1.mpr ⟨by omega, by omega⟩))
  by_cases h93 : m < 124
  · exact wd_in (List.all_eq_true.mp wd_c3 m (List.mem_range'_1.mpr ⟨by omega, by omega⟩))
  by_cases h124 : m < 155
  · exact wd_in (List.all_eq_true.mp wd_c4 m (List.mem_range'_1.mpr ⟨by omega, by omega⟩))
  by_cases h155 : m < 183
  · exact wd_in (List.all_eq_true.mp wd_c5 m (List.mem_range'_1.mpr ⟨by omega, by omega⟩))
  omega
def wd_meth (q : pTy) : Bool := plainFor q.2.2.1 && decide (q.2.2.1.cls = pO q.2.2.2.2.1) && decide (q.2.2.1.cls ≠ "java/lang/invoke/MethodHandle") && decide (q.2.2.1.cls ≠ "java/lang/invoke/VarHandle") && decide ((parseMethodDescriptor q.2.2.1.desc).map (fun d => d.parameters.length) = some q.2.2.2.2.2.2.1) && decide (q.2.2.2.2.2.1 = 2 → q.2.2.1.name = "<init>" ∧ q.2.2.2.1 = none) && decide (q.2.2.2.2.1 < 10)
theorem wd_meths : pT.all wd_meth = true := by decide +kernel
def wd_ip : List (Nat × Nat) := [(0, 59), (1, 58), (2, 57), (3, 55), (4, 60), (5, 56), (6, 54), (7, 61), (8, 53), (9, 62)]
theorem wd_inits : wd_ip.all (fun q => wd_at q.2 (Cond.initialized (pO q.1))) = true := by decide +kernel
def wd_link (q : Nat × Nat × Nat × Nat) (p : Nat × Nat × Nat) : Bool := match q.2.2.2 with
  | 0 => wd_at p.1 (Cond.methodLink (pO q.1) q.2.1 (pY q.2.2.1)) && wd_at p.2.1 (Cond.instanceMethod (pY q.2.2.1)) && wd_at p.2.2 (Cond.selects (pY q.2.2.1).cls (pY q.2.2.1) (pY q.2.2.1)) && decide (pC q.2.2.1 < 8)
  | 1 => wd_at p.1 (Cond.methodLink (pO q.1) q.2.1 (pY q.2.2.1)) && wd_at p.2.1 (Cond.static (pY q.2.2.1))
  | 2 => wd_at p.1 (Cond.methodLink (pO q.1) q.2.1 (pY q.2.2.1)) && wd_at p.2.1 (Cond.instanceMethod (pY q.2.2.1)) && decide (pK q.2.2.1 = 2)
  | 3 => decide ((q.1, q.2.1, q.2.2.1) ∈ nTl) && wd_at p.2.1 (Cond.static (pY q.2.2.1))
  | 4 => decide ((q.1, q.2.1, q.2.2.1) ∈ nTl) && wd_at p.2.1 (Cond.instanceMethod (pY q.2.2.1)) && decide (pK q.2.2.1 = 2)
  | _ => false
def wd_pl : List (Nat × Nat × Nat) := [(66, 67, 0), (0, 75, 0), (0, 81, 0), (117, 118, 0), (0, 124, 0), (0, 81, 0), (159, 160, 0), (165, 166, 0), (242, 243, 244), (246, 247, 248), (250, 251, 252), (254, 256, 0), (258, 260, 1), (262, 264, 2), (266, 268, 3), (270, 272, 4), (274, 276, 5), (278, 280, 6), (282, 283, 0), (285, 286, 287), (289, 291, 7), (293, 295, 8), (297, 299, 9), (301, 302, 303), (305, 306, 307), (309, 310, 311), (313, 314, 315), (317, 318, 319), (321, 322, 323), (325, 326, 327), (332, 333, 334), (336, 337, 0), (339, 340, 341), (0, 344, 0), (346, 347, 348), (350, 351, 352), (354, 355, 356), (358, 359, 360), (362, 363, 0), (365, 283, 0), (366, 367, 368), (370, 371, 372), (374, 314, 315), (375, 351, 352), (376, 377, 378), (380, 381, 382), (384, 385, 386), (388, 389, 390), (392, 393, 0), (395, 396, 397), (399, 400, 401), (403, 404, 405), (407, 408, 409), (411, 412, 413), (415, 417, 10), (419, 420, 421), (423, 425, 11), (427, 428, 429), (431, 432, 433), (435, 318, 319), (436, 437, 438), (440, 441, 0), (443, 437, 438), (444, 445, 0), (447, 448, 449), (451, 432, 433), (452, 454, 12), (456, 457, 458), (460, 314, 315), (461, 381, 382), (462, 464, 13), (466, 467, 468), (470, 471, 472), (0, 344, 0), (475, 476, 477), (479, 471, 472), (480, 481, 482), (484, 485, 0), (487, 428, 429), (488, 489, 490), (492, 493, 494), (496, 457, 458), (497, 498, 499), (501, 502, 503), (505, 481, 482), (506, 507, 508), (511, 513, 14), (515, 516, 517), (519, 351, 352), (520, 522, 15), (524, 485, 0), (525, 527, 16), (529, 531, 17), (533, 534, 535), (537, 538, 539), (541, 543, 18), (545, 441, 0), (546, 547, 548), (550, 551, 552), (554, 555, 556), (558, 559, 560), (562, 564, 19), (566, 567, 568), (570, 571, 572), (574, 575, 576), (0, 344, 0), (579, 363, 0), (580, 581, 582), (584, 318, 319), (585, 586, 587), (589, 590, 591), (593, 594, 595), (597, 598, 0), (600, 601, 0), (603, 448, 449), (604, 428, 429), (605, 606, 607), (609, 534, 535), (610, 611, 612), (614, 615, 616), (618, 619, 620), (622, 420, 421), (623, 624, 625), (627, 420, 421), (628, 314, 315), (629, 467, 468), (630, 476, 477), (631, 632, 633), (635, 636, 637), (639, 640, 641), (643, 644, 645), (647, 648, 649), (651, 652, 653), (655, 656, 657), (659, 660, 661), (663, 664, 665), (667, 668, 669), (671, 672, 673), (675, 676, 677), (679, 680, 681), (683, 684, 685), (687, 688, 689), (692, 693, 694), (696, 697, 698), (700, 701, 0), (706, 707, 708), (710, 711, 712), (714, 715, 716), (718, 719, 0), (721, 722, 723), (727, 728, 0), (816, 817, 818), (820, 822, 20), (824, 826, 21), (828, 830, 22), (832, 834, 23), (836, 838, 24), (840, 841, 0), (843, 845, 25), (847, 849, 26), (851, 853, 27), (855, 857, 28), (859, 861, 29), (863, 865, 30), (867, 868, 0), (870, 871, 0), (873, 874, 875), (877, 879, 31), (881, 882, 883), (885, 886, 887), (889, 891, 32), (893, 895, 33), (897, 899, 34), (901, 902, 0), (904, 906, 35), (908, 910, 36), (912, 914, 37), (916, 917, 0), (919, 920, 921), (923, 925, 38), (927, 928, 929), (931, 933, 39), (935, 937, 40), (939, 941, 41), (943, 945, 42), (947, 949, 43), (951, 953, 44), (955, 957, 45), (959, 961, 46), (963, 964, 965), (967, 969, 47), (971, 972, 973), (975, 977, 48), (979, 981, 49), (983, 984, 985), (987, 988, 989), (991, 992, 0), (994, 995, 996), (998, 999, 1000), (1002, 1004, 50), (1006, 1008, 51), (1010, 1011, 1012), (1014, 1016, 52), (1018, 1019, 1020), (1022, 1023, 1024), (1026, 1027, 1028), (1030, 886, 887), (1031, 1032, 1033), (1036, 1037, 1038), (1040, 1041, 1042), (1044, 1045, 1046), (1048, 1049, 1050)]
theorem wd_l0 : ((mTl.zip wd_pl).drop 0 |>.take 40).all (fun q => wd_link q.1 q.2 && decide (q.1.2.2.1 < 183)) = true := by decide +kernel
theorem wd_l1 : ((mTl.zip wd_pl).drop 40 |>.take 40).all (fun q => wd_link q.1 q.2 && decide (q.1.2.2.1 < 183)) = true := by decide +kernel
theorem wd_l2 : ((mTl.zip wd_pl).drop 80 |>.take 40).all (fun q => wd_link q.1 q.2 && decide (q.1.2.2.1 < 183)) = true := by decide +kernel
theorem wd_l3 : ((mTl.zip wd_pl).drop 120 |>.take 40).all (fun q => wd_link q.1 q.2 && decide (q.1.2.2.1 < 183)) = true := by decide +kernel
theorem wd_l4 : ((mTl.zip wd_pl).drop 160 |>.take 40).all (fun q => wd_link q.1 q.2 && decide (q.1.2.2.1 < 183)) = true := by decide +kernel
theorem wd_l5 : ((mTl.zip wd_pl).drop 200 |>.take 40).all (fun q => wd_link q.1 q.2 && decide (q.1.2.2.1 < 183)) = true := by decide +kernel
theorem wd_links (q : Nat × Nat × Nat × Nat) (hq : q ∈ mTl) : ∃ p, wd_link q p = true ∧ q.2.2.1 < 183 := by
  obtain ⟨i, hi⟩ := List.getElem?_of_mem hq
  have hl : i < 212 := by 
    have := (List.getElem?_eq_some_iff.mp hi).1
    have e : mTl.length = 212 := by decide +kernel
    omega
  have hz : ∃ p, (mTl.zip wd_pl)[i]? = some (q, p) := by
    have e : wd_pl.length = 212 := by decide +kernel
    obtain ⟨p, hp⟩ : ∃ p, wd_pl[i]? = some p := ⟨wd_pl[i]'(by omega), List.getElem?_eq_getElem (by omega)⟩
    exact ⟨p, by rw [List.getElem?_zip_eq_some]; exact ⟨hi, hp⟩⟩
  obtain ⟨p, hp⟩ := hz
  have key : ∀ k, ((mTl.zip wd_pl).drop k |>.take 40).all (fun q => wd_link q.1 q.2 && decide (q.1.2.2.1 < 183)) = true → k ≤ i → i < k + 40 → wd_link q p = true ∧ q.2.2.1 < 183 := by
    intro k hk h1 h2
    have hm : (q, p) ∈ ((mTl.zip wd_pl).drop k |>.take 40) := by
      refine List.mem_of_getElem? (i := i - k) ?_
      rw [List.getElem?_take_of_lt (by omega), List.getElem?_drop, show k + (i - k) = i by omega]
      exact hp
    have h3 := List.all_eq_true.mp hk _ hm
    simp only [Bool.and_eq_true, decide_eq_true_eq] at h3
    exact h3
  refine ⟨p, ?_⟩
  by_cases h0 : i < 40
  · exact key 0 wd_l0 (by omega) h0
  by_cases h40 : i < 80
  · exact key 40 wd_l1 (by omega) h40
  by_cases h80 : i < 120
  · exact key 80 wd_l2 (by omega) h80
  by_cases h120 : i < 160
  · exact key 120 wd_l3 (by omega) h120
  by_cases h160 : i < 200
  · exact key 160 wd_l4 (by omega) h160
  by_cases h200 : i < 240
  · exact key 200 wd_l5 (by omega) h200
  omega
theorem wd_nests : nTl.all (fun q => decide (Cond.methodLinkNest (pO q.1) q.2.1 (pY q.2.2) "SettingsVault" ∈ lw_tbl)) = true := by decide +kernel
def wd_fp : List Nat := [84, 85, 86, 87, 88, 102, 103, 104, 105, 129, 130, 131, 132, 133, 147, 148, 149, 169, 170, 171, 179, 180, 181, 182, 183, 184, 185, 186, 187, 188, 189, 190, 191, 192, 223, 224, 225, 226, 227, 228, 731, 732, 733, 734, 735, 736, 737, 738, 739, 740, 741, 742, 743, 744, 745, 746, 747, 748, 749, 750, 751, 752, 753, 754, 755, 756, 757, 758]
theorem wd_fs : (fTl.zip wd_fp).all (fun z => match z with | (q, p) => wd_at p (Cond.fieldLink (pO q.1) q.2.1 (clC q.2.2.1) (clT q.2.2.1 q.2.2.2).2.1 (clT q.2.2.1 q.2.2.2).2.2.1) && decide (q.2.2.2 < clN q.2.2.1) && decide (q.2.2.1 < 8) && decide ((clT q.2.2.1 q.2.2.2).2.2.2 = fF q.2.2.1 q.2.2.2) && decide ((clT q.2.2.1 q.2.2.2).1 = clC q.2.2.1)) = true := by decide +kernel
theorem wd_fields (q : Nat × Nat × Nat × Nat) (hq : q ∈ fTl) : Cond.fieldLink (pO q.1) q.2.1 (clC q.2.2.1) (clT q.2.2.1 q.2.2.2).2.1 (clT q.2.2.1 q.2.2.2).2.2.1 ∈ tw ∧ q.2.2.2 < clN q.2.2.1 ∧ q.2.2.1 < 8 ∧ (clT q.2.2.1 q.2.2.2).2.2.2 = fF q.2.2.1 q.2.2.2 ∧ (clT q.2.2.1 q.2.2.2).1 = clC q.2.2.1 := by
  obtain ⟨i, hi⟩ := List.getElem?_of_mem hq
  have hl := (List.getElem?_eq_some_iff.mp hi).1
  have e1 : fTl.length = 68 := by decide +kernel
  have e2 : wd_fp.length = 68 := by decide +kernel
  obtain ⟨p, hp⟩ : ∃ p, wd_fp[i]? = some p := ⟨wd_fp[i]'(by omega), List.getElem?_eq_getElem (by omega)⟩
  have hm : (q, p) ∈ fTl.zip wd_fp := List.mem_of_getElem? (i := i) (by rw [List.getElem?_zip_eq_some]; exact ⟨hi, hp⟩)
  have h := List.all_eq_true.mp wd_fs _ hm
  simp only [Bool.and_eq_true, decide_eq_true_eq] at h
  exact ⟨wd_in h.1.1.1.1, h.1.1.1.2, h.1.1.2, h.1.2, h.2⟩
theorem wd_fieldT : (List.range 8).all (fun c => (List.range (clN c)).all fun k => decide (fT c k = (match clY c k with | .int => 0 | .boolean => 1 | .object _ => 2 | .array _ => 2 | _ => 7)) && decide (parseFieldDescriptor (clT c k).2.2.1 = some (clY c k)) && decide (fT c k < 3)) = true := by decide +kernel
theorem wd_names : (List.range 8).all (fun c => (List.range (clN c)).all fun a => (List.range (clN c)).all fun b => decide (a ≠ b → (clT c a).2.1 ≠ (clT c b).2.1)) = true := by decide +kernel
theorem wd_lays : (List.range 8).all (fun c => (u_ws (clC c) (clT c) (clN c)).all fun w => decide (w ∈ lw_tbl) && goodWord w) = true := by decide +kernel
theorem wd_class : (List.range 8).all (fun c => decide (Cond.instantiable (clC c) (clN c) ∈ lw_tbl) && goodWord (Cond.instantiable (clC c) (clN c)) && decide (Cond.initialized (clC c) ∈ lw_tbl) && goodWord (Cond.initialized (clC c))) = true := by decide +kernel
def wd_obj_p : List Nat := [69, 77, 83, 120, 126, 162, 168, 730]
theorem wd_obj_z : (oTl.zip wd_obj_p).all (fun z => match z with | (q, p) => wd_at p (Cond.methodLink (pO q.1) q.2 objectInit)) = true := by decide +kernel
theorem zip_all {α β : Type} {l : List α} {k : List β} {f : α × β → Bool} (h : (l.zip k).all f = true) (hl : l.length = k.length) (a : α) (ha : a ∈ l) : ∃ b, f (a, b) = true := by
  obtain ⟨i, hi⟩ := List.getElem?_of_mem ha
  have h1 := (List.getElem?_eq_some_iff.mp hi).1
  obtain ⟨p, hp⟩ : ∃ p, k[i]? = some p := ⟨k[i]'(by omega), List.getElem?_eq_getElem (by omega)⟩
  exact ⟨p, List.all_eq_true.mp h _ (List.mem_of_getElem? (i := i) (by rw [List.getElem?_zip_eq_some]; exact ⟨hi, hp⟩))⟩
theorem wd_obj (q : Nat × Nat) (h : q ∈ oTl) : Cond.methodLink (pO q.1) q.2 objectInit ∈ tw := by
  obtain ⟨p, hp⟩ := zip_all wd_obj_z (by decide +kernel) q h
  exact wd_in hp
theorem wd_obj2 : wd_at 70 (Cond.instanceMethod objectInit) = true ∧ wd_at 71 (Cond.code objectInit ⟨#[0xb1]⟩ 1 none) = true := by decide +kernel
def wd_copy_p : List Nat := [329, 510, 691]
theorem wd_copy_z : (aTl.zip wd_copy_p).all (fun z => match z with | (q, p) => wd_at p (Cond.methodLink (pO q.1) q.2 arraycopyName)) = true := by decide +kernel
theorem wd_copy (q : Nat × Nat) (h : q ∈ aTl) : Cond.methodLink (pO q.1) q.2 arraycopyName ∈ tw := by
  obtain ⟨p, hp⟩ := zip_all wd_copy_z (by decide +kernel) q h
  exact wd_in hp
theorem wd_copy2 : wd_at 331 (Cond.native arraycopyName) = true ∧ wd_at 330 (Cond.static arraycopyName) = true ∧ wd_at 63 (Cond.initialized "java/lang/System") = true := by decide +kernel
def wd_kl_p : List Nat := [64, 72, 78, 115, 121, 127, 157, 163, 725]
theorem wd_kl_z : (kTl.zip wd_kl_p).all (fun z => match z with | (q, p) => wd_at p (Cond.classLink (pO q.1) q.2.1 (clC q.2.2)) && decide (q.2.2 < 8)) = true := by decide +kernel
theorem wd_kl (q : Nat × Nat × Nat) (h : q ∈ kTl) : Cond.classLink (pO q.1) q.2.1 (clC q.2.2) ∈ tw ∧ q.2.2 < 8 := by
  obtain ⟨p, hp⟩ := zip_all wd_kl_z (by decide +kernel) q h
  simp only [Bool.and_eq_true, decide_eq_true_eq] at hp
  exact ⟨wd_in hp.1, hp.2⟩
theorem wd_arr : wd_at 101 (Cond.arrayClass .int) = true ∧ wd_at 145 (Cond.arrayClass .boolean) = true ∧ wd_at 100 (Cond.arrayClass .char) = true ∧ lw_tbl[146]? = some (Cond.arrayOver (.object RX1)) ∧ lw_tbl[222]? = some (Cond.arrayOver (.object RX0)) := by decide +kernel
def wd_long_p : List Nat := [703, 704, 705, 1035, 1052]
theorem wd_long_z : (lTl.zip wd_long_p).all (fun z => match z with | (q, p) => wd_at p (Cond.constantLong (pO q.1) q.2.1 q.2.2)) = true := by decide +kernel
theorem wd_long (q : Nat × Nat × Int64) (h : q ∈ lTl) : Cond.constantLong (pO q.1) q.2.1 q.2.2 ∈ tw := by
  obtain ⟨p, hp⟩ := zip_all wd_long_z (by decide +kernel) q h
  exact wd_in hp
