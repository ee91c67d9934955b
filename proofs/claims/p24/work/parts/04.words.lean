-- what the tables' words say of the program's tables: each by one decision over a list, by places
def tw : List Cond := lw_tbl.filter goodWord
theorem tw_sub : ∀ w ∈ tw, w ∈ lw_tbl := fun w h => (List.mem_filter.mp h).1
theorem tw_good : GoodIn lw_tbl tw := fun w h => ⟨(List.mem_filter.mp h).1, good_of_word (List.mem_filter.mp h).2⟩
theorem tw_self : GoodIn tw tw := fun w h => ⟨h, good_of_word (List.mem_filter.mp h).2⟩
/-- the word at a place of the tables, good -/
def wd_at (i : Nat) (w : Cond) : Bool := decide (lw_tbl[i]? = some w) && goodWord w
theorem wd_in {i : Nat} {w : Cond} (h : wd_at i w = true) : w ∈ tw := by
  unfold wd_at at h
  simp only [Bool.and_eq_true, decide_eq_true_eq] at h
  exact List.mem_filter.mpr ⟨List.mem_of_getElem? h.1, h.2⟩
def cPl : List Nat := [127, 629, 343, 501, 425, 396, 400, 404, 412, 429, 383, 614, 684, 408, 416, 421, 638, 646, 650, 379, 660, 642, 505, 604, 509, 348, 528, 533, 356, 363, 367, 91, 319, 485, 388, 490, 587, 290, 308, 315, 323, 327, 518, 85, 270, 286, 282, 278, 514, 42, 441, 274, 335, 449, 452, 215, 223, 235, 258, 262, 266, 243, 239, 247, 227, 231, 133, 433, 437, 633, 352, 555, 371, 375, 592, 559, 564, 547, 575, 579, 583, 569, 551, 359, 536, 48, 219, 254, 294, 301, 304, 522, 330, 34, 211, 479, 668, 676, 609, 672, 497, 596, 339, 688, 715, 540, 392, 680, 600, 621, 445, 732, 475, 708, 720, 543, 691, 711, 625, 311, 655, 250, 458, 462, 466, 469, 701, 493, 617, 695, 698, 704, 723, 726, 735]
theorem wd_c0 : (List.range' 0 31).all (fun m => wd_at (cPl.getD m 0) (Cond.code (pY m) (pB m) (pL m) (pR m))) = true := by decide +kernel
theorem wd_c1 : (List.range' 31 31).all (fun m => wd_at (cPl.getD m 0) (Cond.code (pY m) (pB m) (pL m) (pR m))) = true := by decide +kernel
theorem wd_c2 : (List.range' 62 31).all (fun m => wd_at (cPl.getD m 0) (Cond.code (pY m) (pB m) (pL m) (pR m))) = true := by decide +kernel
theorem wd_c3 : (List.range' 93 31).all (fun m => wd_at (cPl.getD m 0) (Cond.code (pY m) (pB m) (pL m) (pR m))) = true := by decide +kernel
set_option maxRecDepth 100000 in
theorem wt_124 : lw_tbl[466]? = some (Cond.code (pY 124) (pB 124) (pL 124) (pR 124)) := rfl
theorem wd_c4_124 : wd_at (cPl.getD 124 0) (Cond.code (pY 124) (pB 124) (pL 124) (pR 124)) = true := by
  unfold wd_at
  rw [show cPl.getD 124 0 = 466 from rfl, decide_eq_true wt_124]
  rfl
set_option maxRecDepth 100000 in
theorem wt_125 : lw_tbl[469]? = some (Cond.code (pY 125) (pB 125) (pL 125) (pR 125)) := rfl
theorem wd_c4_125 : wd_at (cPl.getD 125 0) (Cond.code (pY 125) (pB 125) (pL 125) (pR 125)) = true := by
  unfold wd_at
  rw [show cPl.getD 125 0 = 469 from rfl, decide_eq_true wt_125]
  rfl
set_option maxRecDepth 100000 in
theorem wt_126 : lw_tbl[701]? = some (Cond.code (pY 126) (pB 126) (pL 126) (pR 126)) := rfl
theorem wd_c4_126 : wd_at (cPl.getD 126 0) (Cond.code (pY 126) (pB 126) (pL 126) (pR 126)) = true := by
  unfold wd_at
  rw [show cPl.getD 126 0 = 701 from rfl, decide_eq_true wt_126]
  rfl
set_option maxRecDepth 100000 in
theorem wt_127 : lw_tbl[493]? = some (Cond.code (pY 127) (pB 127) (pL 127) (pR 127)) := rfl
theorem wd_c4_127 : wd_at (cPl.getD 127 0) (Cond.code (pY 127) (pB 127) (pL 127) (pR 127)) = true := by
  unfold wd_at
  rw [show cPl.getD 127 0 = 493 from rfl, decide_eq_true wt_127]
  rfl
set_option maxRecDepth 100000 in
theorem wt_128 : lw_tbl[617]? = some (Cond.code (pY 128) (pB 128) (pL 128) (pR 128)) := rfl
theorem wd_c4_128 : wd_at (cPl.getD 128 0) (Cond.code (pY 128) (pB 128) (pL 128) (pR 128)) = true := by
  unfold wd_at
  rw [show cPl.getD 128 0 = 617 from rfl, decide_eq_true wt_128]
  rfl
set_option maxRecDepth 100000 in
theorem wt_129 : lw_tbl[695]? = some (Cond.code (pY 129) (pB 129) (pL 129) (pR 129)) := rfl
theorem wd_c4_129 : wd_at (cPl.getD 129 0) (Cond.code (pY 129) (pB 129) (pL 129) (pR 129)) = true := by
  unfold wd_at
  rw [show cPl.getD 129 0 = 695 from rfl, decide_eq_true wt_129]
  rfl
set_option maxRecDepth 100000 in
theorem wt_130 : lw_tbl[698]? = some (Cond.code (pY 130) (pB 130) (pL 130) (pR 130)) := rfl
theorem wd_c4_130 : wd_at (cPl.getD 130 0) (Cond.code (pY 130) (pB 130) (pL 130) (pR 130)) = true := by
  unfold wd_at
  rw [show cPl.getD 130 0 = 698 from rfl, decide_eq_true wt_130]
  rfl
set_option maxRecDepth 100000 in
theorem wt_131 : lw_tbl[704]? = some (Cond.code (pY 131) (pB 131) (pL 131) (pR 131)) := rfl
theorem wd_c4_131 : wd_at (cPl.getD 131 0) (Cond.code (pY 131) (pB 131) (pL 131) (pR 131)) = true := by
  unfold wd_at
  rw [show cPl.getD 131 0 = 704 from rfl, decide_eq_true wt_131]
  rfl
set_option maxRecDepth 100000 in
theorem wt_132 : lw_tbl[723]? = some (Cond.code (pY 132) (pB 132) (pL 132) (pR 132)) := rfl
theorem wd_c4_132 : wd_at (cPl.getD 132 0) (Cond.code (pY 132) (pB 132) (pL 132) (pR 132)) = true := by
  unfold wd_at
  rw [show cPl.getD 132 0 = 723 from rfl, decide_eq_true wt_132]
  rfl
set_option maxRecDepth 100000 in
theorem wt_133 : lw_tbl[726]? = some (Cond.code (pY 133) (pB 133) (pL 133) (pR 133)) := rfl
theorem wd_c4_133 : wd_at (cPl.getD 133 0) (Cond.code (pY 133) (pB 133) (pL 133) (pR 133)) = true := by
  unfold wd_at
  rw [show cPl.getD 133 0 = 726 from rfl, decide_eq_true wt_133]
  rfl
set_option maxRecDepth 100000 in
theorem wt_134 : lw_tbl[735]? = some (Cond.code (pY 134) (pB 134) (pL 134) (pR 134)) := rfl
theorem wd_c4_134 : wd_at (cPl.getD 134 0) (Cond.code (pY 134) (pB 134) (pL 134) (pR 134)) = true := by
  unfold wd_at
  rw [show cPl.getD 134 0 = 735 from rfl, decide_eq_true wt_134]
  rfl
theorem wd_c4 : (List.range' 124 11).all (fun m => wd_at (cPl.getD m 0) (Cond.code (pY m) (pB m) (pL m) (pR m))) = true := List.all_eq_true.mpr fun m hm => by
  have h := List.mem_range'_1.mp hm
  have : m = 124 ∨ m = 125 ∨ m = 126 ∨ m = 127 ∨ m = 128 ∨ m = 129 ∨ m = 130 ∨ m = 131 ∨ m = 132 ∨ m = 133 ∨ m = 134 := by omega
  rcases this with rfl | rfl | rfl | rfl | rfl | rfl | rfl | rfl | rfl | rfl | rfl
  · exact wd_c4_124
  · exact wd_c4_125
  · exact wd_c4_126
  · exact wd_c4_127
  · exact wd_c4_128
  · exact wd_c4_129
  · exact wd_c4_130
  · exact wd_c4_131
  · exact wd_c4_132
  · exact wd_c4_133
  · exact wd_c4_134
theorem wd_codes (m : Nat) (h : m < 135) : Cond.code (pY m) (pB m) (pL m) (pR m) ∈ tw := by
  by_cases h0 : m < 31
  · exact wd_in (List.all_eq_true.mp wd_c0 m (List.mem_range'_1.mpr ⟨by omega, by omega⟩))
  by_cases h31 : m < 62
  · exact wd_in (List.all_eq_true.mp wd_c1 m (List.mem_range'_1.mpr ⟨by omega, by omega⟩))
  by_cases h62 : m < 93
  · exact wd_in (List.all_eq_true.mp wd_c2 m (List.mem_range'_1.mpr ⟨by omega, by omega⟩))
  by_cases h93 : m < 124
  · exact wd_in (List.all_eq_true.mp wd_c3 m (List.mem_range'_1.mpr ⟨by omega, by omega⟩))
  by_cases h124 : m < 135
  · exact wd_in (List.all_eq_true.mp wd_c4 m (List.mem_range'_1.mpr ⟨by omega, by omega⟩))
  omega
def wd_meth (q : pTy) : Bool := plainFor q.2.2.1 && decide (q.2.2.1.cls = pO q.2.2.2.2.1) && decide (q.2.2.1.cls ≠ "java/lang/invoke/MethodHandle") && decide (q.2.2.1.cls ≠ "java/lang/invoke/VarHandle") && decide ((parseMethodDescriptor q.2.2.1.desc).map (fun d => d.parameters.length) = some q.2.2.2.2.2.2.1) && decide (q.2.2.2.2.2.1 = 2 → q.2.2.1.name = "<init>" ∧ q.2.2.2.1 = none) && decide (q.2.2.2.2.1 < 10 ∧ q.2.2.2.2.1 ≠ 7)
theorem wd_meths : pT.all wd_meth = true := by decide +kernel
def wd_ip : List (Nat × Nat) := [(0, 26), (1, 25), (2, 24), (3, 22), (4, 27), (5, 23), (6, 21), (8, 20), (9, 28)]
theorem wd_inits : wd_ip.all (fun q => wd_at q.2 (Cond.initialized (pO q.1))) = true := by decide +kernel
def wd_link (q : Nat × Nat × Nat × Nat) (p : Nat × Nat × Nat) : Bool := match q.2.2.2 with
  | 0 => wd_at p.1 (Cond.methodLink (pO q.1) q.2.1 (pY q.2.2.1)) && wd_at p.2.1 (Cond.instanceMethod (pY q.2.2.1)) && wd_at p.2.2 (Cond.selects (pY q.2.2.1).cls (pY q.2.2.1) (pY q.2.2.1)) && decide (pC q.2.2.1 < 7)
  | 1 => wd_at p.1 (Cond.methodLink (pO q.1) q.2.1 (pY q.2.2.1)) && wd_at p.2.1 (Cond.static (pY q.2.2.1))
  | 2 => wd_at p.1 (Cond.methodLink (pO q.1) q.2.1 (pY q.2.2.1)) && wd_at p.2.1 (Cond.instanceMethod (pY q.2.2.1)) && decide (pK q.2.2.1 = 2)
  | 3 => decide ((q.1, q.2.1, q.2.2.1) ∈ nTl) && wd_at p.2.1 (Cond.static (pY q.2.2.1))
  | 4 => decide ((q.1, q.2.1, q.2.2.1) ∈ nTl) && wd_at p.2.1 (Cond.instanceMethod (pY q.2.2.1)) && decide (pK q.2.2.1 = 2)
  | _ => false
def wd_pl : List (Nat × Nat × Nat) := [(32, 33, 0), (0, 41, 0), (0, 47, 0), (83, 84, 0), (0, 90, 0), (0, 47, 0), (125, 126, 0), (131, 132, 0), (208, 209, 210), (212, 213, 214), (216, 217, 218), (220, 222, 0), (224, 226, 1), (228, 230, 2), (232, 234, 3), (236, 238, 4), (240, 242, 5), (244, 246, 6), (248, 249, 0), (251, 252, 253), (255, 257, 7), (259, 261, 8), (263, 265, 9), (267, 268, 269), (271, 272, 273), (275, 276, 277), (279, 280, 281), (283, 284, 285), (287, 288, 289), (291, 292, 293), (298, 299, 300), (302, 303, 0), (305, 306, 307), (0, 310, 0), (312, 313, 314), (316, 317, 318), (320, 321, 322), (324, 325, 326), (328, 329, 0), (331, 249, 0), (332, 333, 334), (336, 337, 338), (340, 341, 342), (344, 284, 285), (345, 346, 347), (349, 350, 351), (353, 355, 10), (357, 358, 0), (360, 362, 11), (364, 366, 12), (368, 369, 370), (372, 373, 374), (376, 378, 13), (380, 381, 382), (384, 280, 281), (385, 386, 387), (389, 390, 391), (393, 394, 395), (397, 398, 399), (401, 402, 403), (405, 406, 407), (409, 410, 411), (413, 414, 415), (417, 317, 318), (418, 419, 420), (422, 423, 424), (426, 427, 428), (430, 431, 432), (434, 435, 436), (438, 439, 440), (442, 443, 444), (446, 447, 448), (450, 451, 0), (456, 457, 0), (460, 461, 0), (464, 465, 0), (467, 468, 0), (472, 473, 474), (476, 477, 478), (480, 280, 281), (481, 317, 318), (482, 483, 484), (486, 386, 387), (487, 488, 489), (491, 492, 0), (494, 495, 496), (498, 499, 500), (502, 503, 504), (506, 508, 14), (511, 512, 513), (515, 516, 517), (519, 520, 521), (0, 310, 0), (524, 329, 0), (525, 527, 15), (529, 427, 428), (530, 532, 16), (534, 535, 0), (537, 538, 539), (541, 542, 0), (544, 545, 546), (548, 550, 17), (552, 553, 554), (556, 557, 558), (560, 284, 285), (561, 562, 563), (565, 358, 0), (566, 567, 568), (570, 545, 546), (571, 280, 281), (572, 573, 574), (576, 577, 578), (580, 581, 582), (584, 585, 586), (588, 535, 0), (589, 590, 591), (593, 594, 595), (597, 598, 599), (601, 602, 603), (0, 310, 0), (606, 607, 608), (610, 381, 382), (611, 612, 613), (615, 616, 0), (618, 619, 620), (622, 585, 586), (623, 624, 0), (626, 627, 628), (630, 631, 632), (635, 636, 637), (639, 640, 641), (643, 644, 645), (647, 649, 18), (651, 545, 546), (652, 562, 563), (653, 654, 0), (656, 557, 558), (657, 659, 19), (661, 573, 574), (662, 581, 582), (663, 577, 578), (664, 553, 554), (665, 666, 667), (669, 670, 671), (673, 674, 675), (677, 678, 679), (681, 682, 683), (685, 686, 687), (689, 690, 0), (692, 553, 554), (693, 694, 0), (696, 697, 0), (699, 700, 0), (702, 703, 0), (705, 706, 707), (709, 710, 0), (712, 713, 714), (716, 369, 370), (717, 718, 719), (721, 722, 0), (724, 725, 0), (729, 730, 731), (733, 734, 0)]
theorem wd_l0 : ((mTl.zip wd_pl).drop 0 |>.take 40).all (fun q => wd_link q.1 q.2 && decide (q.1.2.2.1 < 135)) = true := by decide +kernel
theorem wd_l1 : ((mTl.zip wd_pl).drop 40 |>.take 40).all (fun q => wd_link q.1 q.2 && decide (q.1.2.2.1 < 135)) = true := by decide +kernel
theorem wd_l2 : ((mTl.zip wd_pl).drop 80 |>.take 40).all (fun q => wd_link q.1 q.2 && decide (q.1.2.2.1 < 135)) = true := by decide +kernel
theorem wd_l3 : ((mTl.zip wd_pl).drop 120 |>.take 40).all (fun q => wd_link q.1 q.2 && decide (q.1.2.2.1 < 135)) = true := by decide +kernel
theorem wd_l4 : ((mTl.zip wd_pl).drop 160 |>.take 40).all (fun q => wd_link q.1 q.2 && decide (q.1.2.2.1 < 135)) = true := by decide +kernel
theorem wd_links (q : Nat × Nat × Nat × Nat) (hq : q ∈ mTl) : ∃ p, wd_link q p = true ∧ q.2.2.1 < 135 := by
  obtain ⟨i, hi⟩ := List.getElem?_of_mem hq
  have hl : i < 163 := by 
    have := (List.getElem?_eq_some_iff.mp hi).1
    have e : mTl.length = 163 := by decide +kernel
    omega
  have hz : ∃ p, (mTl.zip wd_pl)[i]? = some (q, p) := by
    have e : wd_pl.length = 163 := by decide +kernel
    obtain ⟨p, hp⟩ : ∃ p, wd_pl[i]? = some p := ⟨wd_pl[i]'(by omega), List.getElem?_eq_getElem (by omega)⟩
    exact ⟨p, by rw [List.getElem?_zip_eq_some]; exact ⟨hi, hp⟩⟩
  obtain ⟨p, hp⟩ := hz
  have key : ∀ k, ((mTl.zip wd_pl).drop k |>.take 40).all (fun q => wd_link q.1 q.2 && decide (q.1.2.2.1 < 135)) = true → k ≤ i → i < k + 40 → wd_link q p = true ∧ q.2.2.1 < 135 := by
    intro k hk h1 h2
    have hm : (q, p) ∈ ((mTl.zip wd_pl).drop k |>.take 40) := by
      refine List.mem_of_getElem? (i := i - k) ?_
      rw [List.getElem?_take_of_lt (by omega), List.getElem?_drop, show k + (i - k) = i by omega]
      exact hp
    have h3 := List.all_eq_true.mp hk _ hm
    simp only [Bool.and_eq_true, decide_eq_true_eq] at h3
    exact h3
  refine ⟨p, ?_⟩
  by_cases h0 : i < 40
  · exact key 0 wd_l0 (by omega) h0
  by_cases h40 : i < 80
  · exact key 40 wd_l1 (by omega) h40
  by_cases h80 : i < 120
  · exact key 80 wd_l2 (by omega) h80
  by_cases h120 : i < 160
  · exact key 120 wd_l3 (by omega) h120
  by_cases h160 : i < 200
  · exact key 160 wd_l4 (by omega) h160
  omega
theorem wd_nests : nTl.all (fun q => decide (Cond.methodLinkNest (pO q.1) q.2.1 (pY q.2.2) "SettingsVault" ∈ lw_tbl)) = true := by decide +kernel
def wd_fp : List Nat := [50, 51, 52, 53, 54, 68, 69, 70, 71, 95, 96, 97, 98, 99, 113, 114, 115, 135, 136, 137, 145, 146, 147, 148, 149, 150, 151, 152, 153, 154, 155, 156, 157, 158, 189, 190, 191, 192, 193, 194]
theorem wd_fs : (fTl.zip wd_fp).all (fun z => match z with | (q, p) => wd_at p (Cond.fieldLink (pO q.1) q.2.1 (clC q.2.2.1) (clT q.2.2.1 q.2.2.2).2.1 (clT q.2.2.1 q.2.2.2).2.2.1) && decide (q.2.2.2 < clN q.2.2.1) && decide (q.2.2.1 < 7) && decide ((clT q.2.2.1 q.2.2.2).2.2.2 = fF q.2.2.1 q.2.2.2) && decide ((clT q.2.2.1 q.2.2.2).1 = clC q.2.2.1)) = true := by decide +kernel
theorem wd_fields (q : Nat × Nat × Nat × Nat) (hq : q ∈ fTl) : Cond.fieldLink (pO q.1) q.2.1 (clC q.2.2.1) (clT q.2.2.1 q.2.2.2).2.1 (clT q.2.2.1 q.2.2.2).2.2.1 ∈ tw ∧ q.2.2.2 < clN q.2.2.1 ∧ q.2.2.1 < 7 ∧ (clT q.2.2.1 q.2.2.2).2.2.2 = fF q.2.2.1 q.2.2.2 ∧ (clT q.2.2.1 q.2.2.2).1 = clC q.2.2.1 := by
  obtain ⟨i, hi⟩ := List.getElem?_of_mem hq
  have hl := (List.getElem?_eq_some_iff.mp hi).1
  have e1 : fTl.length = 40 := by decide +kernel
  have e2 : wd_fp.length = 40 := by decide +kernel
  obtain ⟨p, hp⟩ : ∃ p, wd_fp[i]? = some p := ⟨wd_fp[i]'(by omega), List.getElem?_eq_getElem (by omega)⟩
  have hm : (q, p) ∈ fTl.zip wd_fp := List.mem_of_getElem? (i := i) (by rw [List.getElem?_zip_eq_some]; exact ⟨hi, hp⟩)
  have h := List.all_eq_true.mp wd_fs _ hm
  simp only [Bool.and_eq_true, decide_eq_true_eq] at h
  exact ⟨wd_in h.1.1.1.1, h.1.1.1.2, h.1.1.2, h.1.2, h.2⟩
theorem wd_fieldT : (List.range 7).all (fun c => (List.range (clN c)).all fun k => decide (fT c k = (match clY c k with | .int => 0 | .boolean => 1 | .object _ => 2 | .array _ => 2 | _ => 7)) && decide (parseFieldDescriptor (clT c k).2.2.1 = some (clY c k)) && decide (fT c k < 3)) = true := by decide +kernel
theorem wd_names : (List.range 7).all (fun c => (List.range (clN c)).all fun a => (List.range (clN c)).all fun b => decide (a ≠ b → (clT c a).2.1 ≠ (clT c b).2.1)) = true := by decide +kernel
theorem wd_lays : (List.range 7).all (fun c => (u_ws (clC c) (clT c) (clN c)).all fun w => decide (w ∈ lw_tbl) && goodWord w) = true := by decide +kernel
theorem wd_class : (List.range 7).all (fun c => decide (Cond.instantiable (clC c) (clN c) ∈ lw_tbl) && goodWord (Cond.instantiable (clC c) (clN c)) && decide (Cond.initialized (clC c) ∈ lw_tbl) && goodWord (Cond.initialized (clC c))) = true := by decide +kernel
def wd_obj_p : List Nat := [35, 43, 49, 86, 92, 128, 134]
theorem wd_obj_z : (oTl.zip wd_obj_p).all (fun z => match z with | (q, p) => wd_at p (Cond.methodLink (pO q.1) q.2 objectInit)) = true := by decide +kernel
theorem zip_all {α β : Type} {l : List α} {k : List β} {f : α × β → Bool} (h : (l.zip k).all f = true) (hl : l.length = k.length) (a : α) (ha : a ∈ l) : ∃ b, f (a, b) = true := by
  obtain ⟨i, hi⟩ := List.getElem?_of_mem ha
  have h1 := (List.getElem?_eq_some_iff.mp hi).1
  obtain ⟨p, hp⟩ : ∃ p, k[i]? = some p := ⟨k[i]'(by omega), List.getElem?_eq_getElem (by omega)⟩
  exact ⟨p, List.all_eq_true.mp h _ (List.mem_of_getElem? (i := i) (by rw [List.getElem?_zip_eq_some]; exact ⟨hi, hp⟩))⟩
theorem wd_obj (q : Nat × Nat) (h : q ∈ oTl) : Cond.methodLink (pO q.1) q.2 objectInit ∈ tw := by
  obtain ⟨p, hp⟩ := zip_all wd_obj_z (by decide +kernel) q h
  exact wd_in hp
theorem wd_obj2 : wd_at 36 (Cond.instanceMethod objectInit) = true ∧ wd_at 37 (Cond.code objectInit ⟨#[0xb1]⟩ 1 none) = true := by decide +kernel
def wd_copy_p : List Nat := [295, 510, 634]
theorem wd_copy_z : (aTl.zip wd_copy_p).all (fun z => match z with | (q, p) => wd_at p (Cond.methodLink (pO q.1) q.2 arraycopyName)) = true := by decide +kernel
theorem wd_copy (q : Nat × Nat) (h : q ∈ aTl) : Cond.methodLink (pO q.1) q.2 arraycopyName ∈ tw := by
  obtain ⟨p, hp⟩ := zip_all wd_copy_z (by decide +kernel) q h
  exact wd_in hp
theorem wd_copy2 : wd_at 297 (Cond.native arraycopyName) = true ∧ wd_at 296 (Cond.static arraycopyName) = true ∧ wd_at 29 (Cond.initialized "java/lang/System") = true := by decide +kernel
def wd_kl_p : List Nat := [30, 38, 44, 81, 87, 93, 123, 129]
theorem wd_kl_z : (kTl.zip wd_kl_p).all (fun z => match z with | (q, p) => wd_at p (Cond.classLink (pO q.1) q.2.1 (clC q.2.2)) && decide (q.2.2 < 7)) = true := by decide +kernel
theorem wd_kl (q : Nat × Nat × Nat) (h : q ∈ kTl) : Cond.classLink (pO q.1) q.2.1 (clC q.2.2) ∈ tw ∧ q.2.2 < 7 := by
  obtain ⟨p, hp⟩ := zip_all wd_kl_z (by decide +kernel) q h
  simp only [Bool.and_eq_true, decide_eq_true_eq] at hp
  exact ⟨wd_in hp.1, hp.2⟩
theorem wd_arr : wd_at 67 (Cond.arrayClass .int) = true ∧ wd_at 111 (Cond.arrayClass .boolean) = true ∧ wd_at 66 (Cond.arrayClass .char) = true ∧ lw_tbl[112]? = some (Cond.arrayOver (.object RX1)) ∧ lw_tbl[188]? = some (Cond.arrayOver (.object RX0)) := by decide +kernel
def wd_long_p : List Nat := [453, 454, 455, 470, 471, 727, 728, 737, 738]
theorem wd_long_z : (lTl.zip wd_long_p).all (fun z => match z with | (q, p) => wd_at p (Cond.constantLong (pO q.1) q.2.1 q.2.2)) = true := by decide +kernel
theorem wd_long (q : Nat × Nat × Int64) (h : q ∈ lTl) : Cond.constantLong (pO q.1) q.2.1 q.2.2 ∈ tw := by
  obtain ⟨p, hp⟩ := zip_all wd_long_z (by decide +kernel) q h
  exact wd_in hp
def wd_cst_p : List Nat := [459, 463, 736]
theorem wd_cst_z : (cTl.zip wd_cst_p).all (fun z => match z with | (q, p) => wd_at p (Cond.constant (pO q.1) q.2.1 q.2.2)) = true := by decide +kernel
theorem wd_cst (q : Nat × Nat × Int32) (h : q ∈ cTl) : Cond.constant (pO q.1) q.2.1 q.2.2 ∈ tw := by
  obtain ⟨p, hp⟩ := zip_all wd_cst_z (by decide +kernel) q h
  exact wd_in hp
