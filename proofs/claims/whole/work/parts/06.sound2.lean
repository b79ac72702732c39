/-! SOUNDNESS 2: what the tables say of the program's links -/
def am_gt : List Jvm.Cond := lw_tbl.filter goodWord
theorem am_gt_of {w : Jvm.Cond} {i : Nat} (h : lw_tbl[i]? = some w) (hg : goodWord w = true) : w ∈ am_gt := List.mem_filter.mpr ⟨List.mem_of_getElem? h, hg⟩
theorem am_gt_good : GoodIn am_gt am_gt := fun _ h => ⟨h, good_of_word (List.mem_filter.mp h).2⟩
/-- is the word at that place of the table -/
def am_is (i : Nat) (w : Jvm.Cond) : Bool := decide (lw_tbl[i]? = some w) && goodWord w
theorem am_is_in {i : Nat} {w : Jvm.Cond} (h : am_is i w = true) : w ∈ am_gt := by
  unfold am_is at h
  simp only [Bool.and_eq_true, decide_eq_true_eq] at h
  exact am_gt_of h.1 h.2
/-- the words of a class's fields, by their places -/
theorem am_u0 : ∀ w ∈ u_ws RX0 TX0 5, w ∈ am_gt := by
  have h : ((u_ws RX0 TX0 5).zip [129, 131, 133, 135, 137]).all (fun q => am_is q.2 q.1) = true := by decide +kernel
  intro w hw
  obtain ⟨i, hi⟩ := List.getElem?_of_mem hw
  have hl : i < 5 := (List.getElem?_eq_some_iff.mp hi).1
  have h2 := List.all_eq_true.mp h (w, [129, 131, 133, 135, 137].getD i 0) (by
    refine List.mem_of_getElem? (i := i) ?_
    rw [List.getElem?_zip_eq_some]
    exact ⟨hi, by rw [List.getD_eq_getElem?_getD, List.getElem?_eq_getElem (show i < List.length [129, 131, 133, 135, 137] from hl)]; rfl⟩)
  exact am_is_in h2
theorem am_u1 : ∀ w ∈ u_ws RX1 TX1 6, w ∈ am_gt := by
  have h : ((u_ws RX1 TX1 6).zip [212, 214, 216, 218, 220, 222]).all (fun q => am_is q.2 q.1) = true := by decide +kernel
  intro w hw
  obtain ⟨i, hi⟩ := List.getElem?_of_mem hw
  have hl : i < 6 := (List.getElem?_eq_some_iff.mp hi).1
  have h2 := List.all_eq_true.mp h (w, [212, 214, 216, 218, 220, 222].getD i 0) (by
    refine List.mem_of_getElem? (i := i) ?_
    rw [List.getElem?_zip_eq_some]
    exact ⟨hi, by rw [List.getD_eq_getElem?_getD, List.getElem?_eq_getElem (show i < List.length [212, 214, 216, 218, 220, 222] from hl)]; rfl⟩)
  exact am_is_in h2
theorem am_u2 : ∀ w ∈ u_ws RX2 TX2 4, w ∈ am_gt := by
  have h : ((u_ws RX2 TX2 4).zip [86, 88, 90, 92]).all (fun q => am_is q.2 q.1) = true := by decide +kernel
  intro w hw
  obtain ⟨i, hi⟩ := List.getElem?_of_mem hw
  have hl : i < 4 := (List.getElem?_eq_some_iff.mp hi).1
  have h2 := List.all_eq_true.mp h (w, [86, 88, 90, 92].getD i 0) (by
    refine List.mem_of_getElem? (i := i) ?_
    rw [List.getElem?_zip_eq_some]
    exact ⟨hi, by rw [List.getD_eq_getElem?_getD, List.getElem?_eq_getElem (show i < List.length [86, 88, 90, 92] from hl)]; rfl⟩)
  exact am_is_in h2
theorem am_u3 : ∀ w ∈ u_ws RX4 TX4 4, w ∈ am_gt := by
  have h : ((u_ws RX4 TX4 4).zip [161, 163, 165, 167]).all (fun q => am_is q.2 q.1) = true := by decide +kernel
  intro w hw
  obtain ⟨i, hi⟩ := List.getElem?_of_mem hw
  have hl : i < 4 := (List.getElem?_eq_some_iff.mp hi).1
  have h2 := List.all_eq_true.mp h (w, [161, 163, 165, 167].getD i 0) (by
    refine List.mem_of_getElem? (i := i) ?_
    rw [List.getElem?_zip_eq_some]
    exact ⟨hi, by rw [List.getD_eq_getElem?_getD, List.getElem?_eq_getElem (show i < List.length [161, 163, 165, 167] from hl)]; rfl⟩)
  exact am_is_in h2
theorem am_u4 : ∀ w ∈ u_ws RX5 TX5 4, w ∈ am_gt := by
  have h : ((u_ws RX5 TX5 4).zip [235, 237, 239, 241]).all (fun q => am_is q.2 q.1) = true := by decide +kernel
  intro w hw
  obtain ⟨i, hi⟩ := List.getElem?_of_mem hw
  have hl : i < 4 := (List.getElem?_eq_some_iff.mp hi).1
  have h2 := List.all_eq_true.mp h (w, [235, 237, 239, 241].getD i 0) (by
    refine List.mem_of_getElem? (i := i) ?_
    rw [List.getElem?_zip_eq_some]
    exact ⟨hi, by rw [List.getD_eq_getElem?_getD, List.getElem?_eq_getElem (show i < List.length [235, 237, 239, 241] from hl)]; rfl⟩)
  exact am_is_in h2
theorem am_u5 : ∀ w ∈ u_ws RX6 TX6 5, w ∈ am_gt := by
  have h : ((u_ws RX6 TX6 5).zip [183, 185, 187, 189, 191]).all (fun q => am_is q.2 q.1) = true := by decide +kernel
  intro w hw
  obtain ⟨i, hi⟩ := List.getElem?_of_mem hw
  have hl : i < 5 := (List.getElem?_eq_some_iff.mp hi).1
  have h2 := List.all_eq_true.mp h (w, [183, 185, 187, 189, 191].getD i 0) (by
    refine List.mem_of_getElem? (i := i) ?_
    rw [List.getElem?_zip_eq_some]
    exact ⟨hi, by rw [List.getD_eq_getElem?_getD, List.getElem?_eq_getElem (show i < List.length [183, 185, 187, 189, 191] from hl)]; rfl⟩)
  exact am_is_in h2
theorem am_u6 : ∀ w ∈ u_ws RX7 TX7 10, w ∈ am_gt := by
  have h : ((u_ws RX7 TX7 10).zip [254, 256, 258, 260, 262, 264, 266, 268, 270, 272]).all (fun q => am_is q.2 q.1) = true := by decide +kernel
  intro w hw
  obtain ⟨i, hi⟩ := List.getElem?_of_mem hw
  have hl : i < 10 := (List.getElem?_eq_some_iff.mp hi).1
  have h2 := List.all_eq_true.mp h (w, [254, 256, 258, 260, 262, 264, 266, 268, 270, 272].getD i 0) (by
    refine List.mem_of_getElem? (i := i) ?_
    rw [List.getElem?_zip_eq_some]
    exact ⟨hi, by rw [List.getD_eq_getElem?_getD, List.getElem?_eq_getElem (show i < List.length [254, 256, 258, 260, 262, 264, 266, 268, 270, 272] from hl)]; rfl⟩)
  exact am_is_in h2
theorem am_u7 : ∀ w ∈ u_ws RX8 TX8 41, w ∈ am_gt := by
  have h : ((u_ws RX8 TX8 41).zip [709, 711, 713, 715, 717, 719, 721, 723, 725, 727, 729, 731, 733, 735, 737, 739, 741, 743, 745, 747, 749, 751, 753, 755, 757, 759, 761, 763, 765, 767, 769, 771, 773, 775, 777, 779, 781, 783, 785, 787, 789]).all (fun q => am_is q.2 q.1) = true := by decide +kernel
  intro w hw
  obtain ⟨i, hi⟩ := List.getElem?_of_mem hw
  have hl : i < 41 := (List.getElem?_eq_some_iff.mp hi).1
  have h2 := List.all_eq_true.mp h (w, [709, 711, 713, 715, 717, 719, 721, 723, 725, 727, 729, 731, 733, 735, 737, 739, 741, 743, 745, 747, 749, 751, 753, 755, 757, 759, 761, 763, 765, 767, 769, 771, 773, 775, 777, 779, 781, 783, 785, 787, 789].getD i 0) (by
    refine List.mem_of_getElem? (i := i) ?_
    rw [List.getElem?_zip_eq_some]
    exact ⟨hi, by rw [List.getD_eq_getElem?_getD, List.getElem?_eq_getElem (show i < List.length [709, 711, 713, 715, 717, 719, 721, 723, 725, 727, 729, 731, 733, 735, 737, 739, 741, 743, 745, 747, 749, 751, 753, 755, 757, 759, 761, 763, 765, 767, 769, 771, 773, 775, 777, 779, 781, 783, 785, 787, 789] from hl)]; rfl⟩)
  exact am_is_in h2
/-- of each class: its fields' words, their types, their names apart -/
theorem am_cf : ∀ (ci : Nat) (r : vw_C), am_cl[ci]? = some r → (∀ w ∈ u_ws r.1 r.2.1 r.2.2, w ∈ am_gt) ∧ (∃ ty : Nat → FieldType, ∀ k, k < r.2.2 → parseFieldDescriptor (r.2.1 k).2.2.1 = some (ty k)) ∧ (∀ a, a < r.2.2 → ∀ b, b < r.2.2 → a ≠ b → (r.2.1 a).2.1 ≠ (r.2.1 b).2.1)
  | 0, _, h => by cases h; exact ⟨am_u0, ⟨tyX0, tyX0_ok⟩, nmX0⟩
  | 1, _, h => by cases h; exact ⟨am_u1, ⟨tyX1, tyX1_ok⟩, nmX1⟩
  | 2, _, h => by cases h; exact ⟨am_u2, ⟨tyX2, tyX2_ok⟩, nmX2⟩
  | 3, _, h => by cases h; exact ⟨am_u3, ⟨tyX4, tyX4_ok⟩, nmX4⟩
  | 4, _, h => by cases h; exact ⟨am_u4, ⟨tyX5, tyX5_ok⟩, nmX5⟩
  | 5, _, h => by cases h; exact ⟨am_u5, ⟨tyX6, tyX6_ok⟩, nmX6⟩
  | 6, _, h => by cases h; exact ⟨am_u6, ⟨tyX7, tyX7_ok⟩, nmX7⟩
  | 7, _, h => by cases h; exact ⟨am_u7, ⟨tyX8, tyX8_ok⟩, nmX8⟩
  | _ + 8, _, h => by simp [am_cl] at h
theorem am_cn_x : ∀ (ci : Nat) (r : vw_C), am_cl[ci]? = some r → am_cn ci = r.1
  | 0, _, h => by cases h; rfl
  | 1, _, h => by cases h; rfl
  | 2, _, h => by cases h; rfl
  | 3, _, h => by cases h; rfl
  | 4, _, h => by cases h; rfl
  | 5, _, h => by cases h; rfl
  | 6, _, h => by cases h; rfl
  | 7, _, h => by cases h; rfl
  | _ + 8, _, h => by simp [am_cl] at h
/-- a field's link -/
def am_kd (t : Option FieldType) (k : Nat) : Bool := match t with
  | some .int => k == 0
  | some .boolean => k == 1
  | some (.object _) => k == 2
  | some (.array _) => k == 2
  | _ => false
def am_flC (q : Nat × Nat × Nat × Nat × Nat) : Bool := match am_cl[q.2.2.1]? with
  | some r => decide (q.2.2.2.1 < r.2.2) && am_is q.2.2.2.2 (.fieldLink (am_cn q.1) q.2.1 r.1 (r.2.1 q.2.2.2.1).2.1 (r.2.1 q.2.2.2.1).2.2.1) && decide ((r.2.1 q.2.2.2.1).1 = r.1) && decide ((r.2.1 q.2.2.2.1).2.2.2 = (am_ff q.2.2.1).getD q.2.2.2.1 true) && am_kd (parseFieldDescriptor (r.2.1 q.2.2.2.1).2.2.1) ((am_fk q.2.2.1).getD q.2.2.2.1 9)
  | none => false
theorem am_flA : am_flP.all am_flC = true := by decide +kernel
theorem am_flk {own ix ci k : Nat} (h : am_fl own ix = some (ci, k)) : ∃ r : vw_C, am_cl[ci]? = some r ∧ k < r.2.2 ∧ Jvm.Cond.fieldLink (am_cn own) ix r.1 (r.2.1 k).2.1 (r.2.1 k).2.2.1 ∈ am_gt ∧ (r.2.1 k).1 = r.1 ∧ (r.2.1 k).2.2.2 = (am_ff ci).getD k true ∧ am_kd (parseFieldDescriptor (r.2.1 k).2.2.1) ((am_fk ci).getD k 9) = true := by
  unfold am_fl at h
  obtain ⟨q, h1, h2⟩ := Option.map_eq_some_iff.mp h
  have h3 := List.all_eq_true.mp am_flA q (List.mem_of_find?_eq_some h1)
  have h4 := List.find?_some h1
  simp only [Bool.and_eq_true, beq_iff_eq] at h4
  obtain ⟨q1, q2, q3, q4, q5⟩ := q
  obtain ⟨rfl, rfl⟩ := h4
  cases h2
  unfold am_flC at h3
  dsimp only at h3
  split at h3
  · next r hr =>
    simp only [Bool.and_eq_true, decide_eq_true_eq] at h3
    exact ⟨r, hr, h3.1.1.1.1, am_is_in h3.1.1.1.2, h3.1.1.2, h3.1.2, h3.2⟩
  · cases h3
theorem am_cl_99 {ci : Nat} {r : vw_C} (h : am_cl[ci]? = some r) : ci ≠ 99 := by
  rintro rfl
  simp [am_cl] at h
def am_iiP : List (Nat × Nat) := [(106, 53), (195, 55), (72, 51), (140, 54), (226, 56), (97, 52), (63, 50), (663, 57)]
def am_clC (q : Nat × Nat × Nat × Nat) : Bool := match am_cl[q.2.2.1]?, am_iiP[q.2.2.1]? with
  | some r, some i => am_is q.2.2.2 (.classLink (am_cn q.1) q.2.1 r.1) && am_is i.1 (.instantiable r.1 r.2.2) && am_is i.2 (.initialized r.1) && decide ((am_fk q.2.2.1).length = r.2.2)
  | _, _ => false
theorem am_clA : am_clP.all am_clC = true := by decide +kernel
theorem am_clk {own ix ci : Nat} (h : am_cll own ix = some ci) : ∃ r : vw_C, am_cl[ci]? = some r ∧ Jvm.Cond.classLink (am_cn own) ix r.1 ∈ am_gt ∧ Jvm.Cond.instantiable r.1 r.2.2 ∈ am_gt ∧ Jvm.Cond.initialized r.1 ∈ am_gt ∧ (am_fk ci).length = r.2.2 := by
  unfold am_cll at h
  obtain ⟨q, h1, h2⟩ := Option.map_eq_some_iff.mp h
  have h3 := List.all_eq_true.mp am_clA q (List.mem_of_find?_eq_some h1)
  have h4 := List.find?_some h1
  simp only [Bool.and_eq_true, beq_iff_eq] at h4
  obtain ⟨q1, q2, q3, q4⟩ := q
  obtain ⟨rfl, rfl⟩ := h4
  cases h2
  unfold am_clC at h3
  dsimp only at h3
  split at h3
  · next r i hr hi =>
    simp only [Bool.and_eq_true, decide_eq_true_eq] at h3
    exact ⟨r, hr, am_is_in h3.1.1.1, am_is_in h3.1.1.2, am_is_in h3.1.2, h3.2⟩
  · cases h3
/-- the types of fields and what a new object holds -/
def am_tyC (ci : Nat) : Bool := match am_cl[ci]? with
  | some r => (List.range r.2.2).all (fun k => am_kd (parseFieldDescriptor (r.2.1 k).2.2.1) ((am_fk ci).getD k 9))
  | none => true
theorem am_tyA : (List.range 8).all am_tyC = true := by decide +kernel
theorem am_tyk {ci k : Nat} {r : vw_C} (hr : am_cl[ci]? = some r) (hk : k < r.2.2) : am_kd (parseFieldDescriptor (r.2.1 k).2.2.1) ((am_fk ci).getD k 9) = true := by
  have hc : ci < 8 := (List.getElem?_eq_some_iff.mp hr).1
  have h := List.all_eq_true.mp am_tyA ci (List.mem_range.mpr hc)
  unfold am_tyC at h
  rw [hr] at h
  exact List.all_eq_true.mp h k (List.mem_range.mpr hk)
def am_ciC (q : Nat × Nat × Int × Nat) : Bool := am_is q.2.2.2 (.constant (am_cn q.1) q.2.1 (Int32.ofInt q.2.2.1))
theorem am_ciA : am_ciP.all am_ciC = true := by decide +kernel
theorem am_cik {own ix : Nat} {x : Int} (h : am_ci own ix = some x) : Jvm.Cond.constant (am_cn own) ix (Int32.ofInt x) ∈ am_gt := by
  unfold am_ci at h
  obtain ⟨q, h1, h2⟩ := Option.map_eq_some_iff.mp h
  have h3 := List.all_eq_true.mp am_ciA q (List.mem_of_find?_eq_some h1)
  have h4 := List.find?_some h1
  simp only [Bool.and_eq_true, beq_iff_eq] at h4
  obtain ⟨q1, q2, q3, q4⟩ := q
  obtain ⟨rfl, rfl⟩ := h4
  cases h2
  exact am_is_in h3
def am_cgC (q : Nat × Nat × Int × Nat) : Bool := am_is q.2.2.2 (.constantLong (am_cn q.1) q.2.1 (Int64.ofInt q.2.2.1))
theorem am_cgA : am_cgP.all am_cgC = true := by decide +kernel
theorem am_cgk {own ix : Nat} {x : Int} (h : am_cg own ix = some x) : Jvm.Cond.constantLong (am_cn own) ix (Int64.ofInt x) ∈ am_gt := by
  unfold am_cg at h
  obtain ⟨q, h1, h2⟩ := Option.map_eq_some_iff.mp h
  have h3 := List.all_eq_true.mp am_cgA q (List.mem_of_find?_eq_some h1)
  have h4 := List.find?_some h1
  simp only [Bool.and_eq_true, beq_iff_eq] at h4
  obtain ⟨q1, q2, q3, q4⟩ := q
  obtain ⟨rfl, rfl⟩ := h4
  cases h2
  exact am_is_in h3
def am_mpP : List (Nat × Nat × Nat × Nat) := [(109, 53, 108, 9999), (366, 53, 364, 365), (345, 53, 343, 344), (198, 55, 197, 9999), (464, 55, 462, 463), (470, 55, 469, 13), (475, 55, 474, 14), (432, 55, 430, 431), (439, 55, 438, 12), (444, 55, 443, 9999), (483, 55, 481, 482), (508, 55, 506, 507), (487, 55, 485, 486), (491, 55, 489, 490), (575, 55, 573, 574), (578, 55, 577, 9999), (75, 51, 74, 9999), (588, 51, 586, 587), (596, 51, 594, 595), (289, 51, 287, 288), (604, 51, 602, 603), (293, 51, 291, 292), (608, 51, 606, 607), (435, 59, 434, 9999), (428, 59, 427, 9999), (447, 59, 446, 9999), (450, 59, 449, 9999), (478, 59, 477, 9999), (143, 54, 142, 9999), (352, 54, 350, 351), (229, 56, 228, 9999), (305, 56, 303, 304), (313, 56, 312, 3), (317, 56, 316, 4), (325, 56, 324, 6), (329, 56, 328, 7), (333, 56, 332, 8), (337, 56, 336, 9), (321, 56, 320, 5), (309, 56, 308, 2), (100, 52, 99, 9999), (301, 52, 299, 300), (341, 52, 339, 340), (361, 52, 359, 360), (390, 52, 388, 389), (378, 52, 376, 377), (398, 52, 396, 397), (541, 52, 539, 540), (661, 52, 659, 660), (425, 52, 423, 424), (512, 52, 510, 511), (495, 52, 493, 494), (66, 50, 65, 9999), (278, 50, 276, 277), (357, 50, 355, 356), (370, 50, 368, 369), (382, 50, 380, 381), (386, 50, 384, 385), (394, 50, 392, 393), (406, 50, 404, 405), (410, 50, 408, 409), (417, 50, 415, 416), (421, 50, 419, 420), (460, 50, 458, 459), (504, 50, 502, 503), (527, 50, 525, 526), (550, 50, 548, 549), (554, 50, 552, 553), (558, 50, 556, 557), (566, 50, 564, 565), (570, 50, 568, 569), (584, 50, 582, 583), (592, 50, 590, 591), (600, 50, 598, 599), (612, 50, 610, 611), (616, 50, 614, 615), (621, 50, 619, 620), (641, 50, 639, 640), (645, 50, 643, 644), (649, 50, 647, 648), (653, 50, 651, 652), (657, 50, 655, 656), (285, 50, 284, 9999), (413, 50, 412, 9999), (282, 50, 281, 0), (297, 50, 296, 1), (374, 50, 373, 10), (402, 50, 401, 11), (562, 50, 561, 17), (453, 50, 452, 9999), (456, 50, 455, 9999), (530, 50, 529, 9999), (533, 50, 532, 9999), (537, 50, 536, 15), (546, 50, 545, 16), (637, 50, 636, 21), (633, 50, 632, 20), (625, 50, 624, 18), (629, 50, 628, 19), (666, 57, 665, 9999), (812, 57, 811, 23), (1005, 57, 1004, 47), (801, 57, 800, 9999), (798, 57, 797, 9999), (804, 57, 803, 9999), (808, 57, 807, 22), (840, 57, 839, 29), (864, 57, 863, 32), (828, 57, 827, 27), (820, 57, 819, 25), (795, 57, 793, 794), (816, 57, 815, 24), (824, 57, 823, 26), (832, 57, 831, 28), (844, 57, 843, 30), (836, 57, 834, 835), (852, 57, 851, 31), (848, 57, 846, 847), (856, 57, 854, 855), (860, 57, 858, 859), (868, 57, 866, 867), (872, 57, 870, 871), (876, 57, 874, 875), (899, 57, 898, 9999), (906, 57, 905, 9999), (896, 57, 895, 35), (903, 57, 902, 36), (892, 57, 891, 34), (888, 57, 887, 33), (880, 57, 878, 879), (884, 57, 882, 883), (926, 57, 925, 40), (918, 57, 917, 38), (922, 57, 921, 39), (914, 57, 913, 37), (910, 57, 908, 909), (934, 57, 933, 41), (930, 57, 928, 929), (949, 57, 948, 43), (941, 57, 940, 9999), (945, 57, 944, 42), (938, 57, 936, 937), (953, 57, 952, 44), (957, 57, 955, 956), (961, 57, 959, 960), (969, 57, 968, 45), (965, 57, 963, 964), (973, 57, 971, 972), (985, 57, 984, 9999), (982, 57, 981, 46), (977, 57, 975, 976), (989, 57, 987, 988), (993, 57, 991, 992), (997, 57, 995, 996), (1001, 57, 999, 1000), (1009, 57, 1007, 1008), (1017, 57, 1016, 48), (1013, 57, 1011, 1012), (1021, 57, 1019, 1020), (1025, 57, 1023, 1024), (1029, 57, 1027, 1028), (1033, 57, 1031, 1032), (1037, 57, 1035, 1036), (517, 61, 516, 9999), (500, 60, 499, 9999)]
set_option maxRecDepth 100000 in
theorem am_cdA : ([Jvm.Cond.code yX0_init cX0_init 1 none, Jvm.Cond.code yX0_cost cX0_cost 1 (some .int), Jvm.Cond.code yX0_take cX0_take 2 none, Jvm.Cond.code yX1_init cX1_init 1 none, Jvm.Cond.code yX1_fill cX1_fill 4 none, Jvm.Cond.code yX1_join cX1_join 2 none, Jvm.Cond.code yX1_goOn cX1_goOn 4 none, Jvm.Cond.code yX1_lookAt cX1_lookAt 7 none, Jvm.Cond.code yX1_outcomeOfFunction cX1_outcomeOfFunction 11 (some .int), Jvm.Cond.code yX1_outcomeOfChoice cX1_outcomeOfChoice 4 (some .int), Jvm.Cond.code yX1_answerCount cX1_answerCount 3 (some .int), Jvm.Cond.code yX1_placeOfAnswer cX1_placeOfAnswer 4 (some .int), Jvm.Cond.code yX1_valueSet cX1_valueSet 3 (some .int), Jvm.Cond.code yX1_leastPrice cX1_leastPrice 5 (some .int), Jvm.Cond.code yX1_throwsOf cX1_throwsOf 5 (some .int), Jvm.Cond.code yX1_throwsIn cX1_throwsIn 5 (some .int), Jvm.Cond.code yX2_init cX2_init 1 none, Jvm.Cond.code yX2_lay cX2_lay 4 none, Jvm.Cond.code yX2_clear cX2_clear 2 (some .boolean), Jvm.Cond.code yX2_faultAs cX2_faultAs 2 (some .int), Jvm.Cond.code yX2_has cX2_has 2 (some .boolean), Jvm.Cond.code yX2_holds cX2_holds 3 (some .boolean), Jvm.Cond.code yX2_cut cX2_cut 2 (some .int), Jvm.Cond.code yX3_bound cX3_bound 2 (some .int), Jvm.Cond.code yX3_bind cX3_bind 3 (some .int), Jvm.Cond.code yX3_picked cX3_picked 1 (some .int), Jvm.Cond.code yX3_second cX3_second 1 (some .int), Jvm.Cond.code yX3_pick cX3_pick 3 (some .int), Jvm.Cond.code yX4_init cX4_init 1 none, Jvm.Cond.code yX4_become cX4_become 5 none, Jvm.Cond.code yX5_init cX5_init 1 none, Jvm.Cond.code yX5_readInto cX5_readInto 6 (some .int), Jvm.Cond.code yX5_readFunction cX5_readFunction 6 (some .boolean), Jvm.Cond.code yX5_readKind cX5_readKind 1 (some .int), Jvm.Cond.code yX5_readTwig cX5_readTwig 4 (some .boolean), Jvm.Cond.code yX5_readChoice cX5_readChoice 3 (some .int), Jvm.Cond.code yX5_readParts cX5_readParts 5 (some .boolean), Jvm.Cond.code yX5_readEnd cX5_readEnd 1 (some .int), Jvm.Cond.code yX5_readDigit cX5_readDigit 4 (some .int), Jvm.Cond.code yX5_passes cX5_passes 3 (some .boolean), Jvm.Cond.code yX6_init cX6_init 2 none, Jvm.Cond.code yX6_clear cX6_clear 2 none, Jvm.Cond.code yX6_take cX6_take 4 none, Jvm.Cond.code yX6_functionAt cX6_functionAt 2 (some (.object "NeededAnswers$Function")), Jvm.Cond.code yX6_termAt cX6_termAt 2 (some (.object "NeededAnswers$Term")), Jvm.Cond.code yX6_add cX6_add 5 (some .int), Jvm.Cond.code yX6_takeLast cX6_takeLast 1 (some .boolean), Jvm.Cond.code yX6_play cX6_play 4 (some .boolean), Jvm.Cond.code yX6_givenCount cX6_givenCount 3 (some .int), Jvm.Cond.code yX6_firstStand cX6_firstStand 3 (some .int), Jvm.Cond.code yX6_boundSince cX6_boundSince 4 (some .int), Jvm.Cond.code yX6_costOf cX6_costOf 5 (some .int), Jvm.Cond.code yX7_init cX7_init 2 none, Jvm.Cond.code yX7_functions cX7_functions 8 (some .int), Jvm.Cond.code yX7_ofFunction cX7_ofFunction 4 (some .int), Jvm.Cond.code yX7_constant cX7_constant 2 (some .int), Jvm.Cond.code yX7_unknown cX7_unknown 2 (some .int), Jvm.Cond.code yX7_apply cX7_apply 4 (some .int), Jvm.Cond.code yX7_drop cX7_drop 1 (some .int), Jvm.Cond.code yX7_ofTerm cX7_ofTerm 4 (some .int), Jvm.Cond.code yX7_price cX7_price 5 (some .int), Jvm.Cond.code yX7_given cX7_given 4 (some .int), Jvm.Cond.code yX7_needs cX7_needs 3 (some .int), Jvm.Cond.code yX7_answers cX7_answers 3 (some .int), Jvm.Cond.code yX7_answer cX7_answer 6 (some .int), Jvm.Cond.code yX7_day cX7_day 9 (some .int), Jvm.Cond.code yX7_reading cX7_reading 3 (some .int), Jvm.Cond.code yX7_back cX7_back 2 (some .int), Jvm.Cond.code yX7_kinds cX7_kinds 4 (some .int), Jvm.Cond.code yX7_branches cX7_branches 4 (some .int), Jvm.Cond.code yX7_odds cX7_odds 8 (some .long), Jvm.Cond.code yX7_sheet cX7_sheet 5 (some .int), Jvm.Cond.code yX7_lose cX7_lose 3 (some .int), Jvm.Cond.code yX7_put cX7_put 5 (some .int), Jvm.Cond.code yX7_cell cX7_cell 6 (some .long), Jvm.Cond.code yX7_copy cX7_copy 8 (some .int), Jvm.Cond.code yX7_tell cX7_tell 3 (some .int), Jvm.Cond.code yX7_note cX7_note 3 (some .int), Jvm.Cond.code yX7_as cX7_as 4 (some .int), Jvm.Cond.code yX7_trace cX7_trace 1 (some .int), Jvm.Cond.code yX7_fault cX7_fault 1 (some .int), Jvm.Cond.code yX7_many cX7_many 2 (some .int), Jvm.Cond.code yX7_isBelow cX7_isBelow 2 (some .boolean), Jvm.Cond.code yX7_isPrice cX7_isPrice 1 (some .boolean), Jvm.Cond.code yX7_sheetAt cX7_sheetAt 2 (some (.object "NeededAnswers$Sheet")), Jvm.Cond.code yX7_faulted cX7_faulted 2 (some .int), Jvm.Cond.code yX7_leaf cX7_leaf 4 (some .int), Jvm.Cond.code yX7_forgetReadings cX7_forgetReadings 4 none, Jvm.Cond.code yX7_readingsHold cX7_readingsHold 3 (some .boolean), Jvm.Cond.code yX7_needOf cX7_needOf 1 (some .int), Jvm.Cond.code yX7_neededOf cX7_neededOf 1 (some .int), Jvm.Cond.code yX7_areActs cX7_areActs 4 (some .boolean), Jvm.Cond.code yX7_isAct cX7_isAct 2 (some .boolean), Jvm.Cond.code yX7_playActs cX7_playActs 5 (some .int), Jvm.Cond.code yX7_ofImagined cX7_ofImagined 2 (some .int), Jvm.Cond.code yX7_tellPlain cX7_tellPlain 2 (some .int), Jvm.Cond.code yX7_tellDear cX7_tellDear 2 (some .int), Jvm.Cond.code yX7_tellDouble cX7_tellDouble 2 (some .int), Jvm.Cond.code yX7_leaveTrace cX7_leaveTrace 2 none, Jvm.Cond.code yX8_init cX8_init 1 none, Jvm.Cond.code yX8_fails cX8_fails 2 (some .int), Jvm.Cond.code yX8_lost cX8_lost 2 (some .long), Jvm.Cond.code yX8_within cX8_within 3 (some .boolean), Jvm.Cond.code yX8_isSheet cX8_isSheet 1 (some .boolean), Jvm.Cond.code yX8_isSort cX8_isSort 1 (some .boolean), Jvm.Cond.code yX8_against cX8_against 5 (some .int), Jvm.Cond.code yX8_isFunction cX8_isFunction 2 (some .boolean), Jvm.Cond.code yX8_isTerm cX8_isTerm 2 (some .boolean), Jvm.Cond.code yX8_digit cX8_digit 4 (some .int), Jvm.Cond.code yX8_isSign cX8_isSign 3 (some .boolean), Jvm.Cond.code yX8_functions cX8_functions 8 (some .int), Jvm.Cond.code yX8_readAll cX8_readAll 2 (some .boolean), Jvm.Cond.code yX8_readFunction cX8_readFunction 5 (some .boolean), Jvm.Cond.code yX8_readTwig cX8_readTwig 5 (some .boolean), Jvm.Cond.code yX8_costOf cX8_costOf 2 (some .int), Jvm.Cond.code yX8_ofFunction cX8_ofFunction 3 (some .int), Jvm.Cond.code yX8_putOn cX8_putOn 5 (some .int), Jvm.Cond.code yX8_constant cX8_constant 2 (some .int), Jvm.Cond.code yX8_unknown cX8_unknown 2 (some .int), Jvm.Cond.code yX8_apply cX8_apply 4 (some .int), Jvm.Cond.code yX8_drop cX8_drop 3 (some .int), Jvm.Cond.code yX8_ofTerm cX8_ofTerm 3 (some .int), Jvm.Cond.code yX8_price cX8_price 4 (some .int), Jvm.Cond.code yX8_boundIn cX8_boundIn 2 (some .int), Jvm.Cond.code yX8_pickedIn cX8_pickedIn 2 (some .int), Jvm.Cond.code yX8_findTerm cX8_findTerm 6 none, Jvm.Cond.code yX8_findTwig cX8_findTwig 7 none, Jvm.Cond.code yX8_findTerms cX8_findTerms 4 none, Jvm.Cond.code yX8_firstStand cX8_firstStand 1 (some .int), Jvm.Cond.code yX8_given cX8_given 4 (some .int), Jvm.Cond.code yX8_needs cX8_needs 3 (some .int), Jvm.Cond.code yX8_priceOf cX8_priceOf 4 (some .int), Jvm.Cond.code yX8_toTheEnd cX8_toTheEnd 3 none, Jvm.Cond.code yX8_isAnswer cX8_isAnswer 4 none, Jvm.Cond.code yX8_findAnswers cX8_findAnswers 7 none, Jvm.Cond.code yX8_answers cX8_answers 3 (some .int), Jvm.Cond.code yX8_picks cX8_picks 4 (some .int), Jvm.Cond.code yX8_answer cX8_answer 4 (some .int), Jvm.Cond.code yX8_does cX8_does 3 (some .boolean), Jvm.Cond.code yX8_isPair cX8_isPair 2 (some .boolean), Jvm.Cond.code yX8_goDay cX8_goDay 4 (some .int), Jvm.Cond.code yX8_day cX8_day 11 (some .int), Jvm.Cond.code yX8_tellDay cX8_tellDay 2 (some .int), Jvm.Cond.code yX8_reading cX8_reading 3 (some .int), Jvm.Cond.code yX8_back cX8_back 2 (some .int), Jvm.Cond.code yX8_areSo cX8_areSo 2 (some .boolean), Jvm.Cond.code yX8_kinds cX8_kinds 5 (some .int), Jvm.Cond.code yX8_branches cX8_branches 5 (some .int), Jvm.Cond.code yX8_inLeastTerms cX8_inLeastTerms 11 (some .long), Jvm.Cond.code yX8_nextStand cX8_nextStand 5 (some .int), Jvm.Cond.code yX8_odds cX8_odds 7 (some .long), Jvm.Cond.code yX8_sheet cX8_sheet 5 (some .int), Jvm.Cond.code yX8_lose cX8_lose 3 (some .int), Jvm.Cond.code yX8_put cX8_put 4 (some .int), Jvm.Cond.code yX8_cell cX8_cell 4 (some .long), Jvm.Cond.code yX8_copy cX8_copy 10 (some .int), Jvm.Cond.code yX8_begins cX8_begins 2 none, Jvm.Cond.code yX8_tell cX8_tell 3 (some .int), Jvm.Cond.code yX8_note cX8_note 2 (some .int), Jvm.Cond.code yX8_as cX8_as 3 (some .int), Jvm.Cond.code yX8_trace cX8_trace 1 (some .int), Jvm.Cond.code yX8_fault cX8_fault 1 (some .int), Jvm.Cond.code yX8_many cX8_many 4 (some .int), Jvm.Cond.code yJ6_bitCount_0f7a4 cJ6_bitCount_0f7a4 1 (some .int), Jvm.Cond.code yJ9_min_7cf53 cJ9_min_7cf53 2 (some .int)] : List Jvm.Cond) = [109, 366, 345, 198, 464, 470, 475, 432, 439, 444, 483, 508, 487, 491, 575, 578, 75, 588, 596, 289, 604, 293, 608, 435, 428, 447, 450, 478, 143, 352, 229, 305, 313, 317, 325, 329, 333, 337, 321, 309, 100, 301, 341, 361, 390, 378, 398, 541, 661, 425, 512, 495, 66, 278, 357, 370, 382, 386, 394, 406, 410, 417, 421, 460, 504, 527, 550, 554, 558, 566, 570, 584, 592, 600, 612, 616, 621, 641, 645, 649, 653, 657, 285, 413, 282, 297, 374, 402, 562, 453, 456, 530, 533, 537, 546, 637, 633, 625, 629, 666, 812, 1005, 801, 798, 804, 808, 840, 864, 828, 820, 795, 816, 824, 832, 844, 836, 852, 848, 856, 860, 868, 872, 876, 899, 906, 896, 903, 892, 888, 880, 884, 926, 918, 922, 914, 910, 934, 930, 949, 941, 945, 938, 953, 957, 961, 969, 965, 973, 985, 982, 977, 989, 993, 997, 1001, 1009, 1017, 1013, 1021, 1025, 1029, 1033, 1037, 517, 500].filterMap (fun i => lw_tbl[i]?) := rfl
set_option maxRecDepth 100000 in
theorem am_cdB : ([Jvm.Cond.code yX0_init cX0_init 1 none, Jvm.Cond.code yX0_cost cX0_cost 1 (some .int), Jvm.Cond.code yX0_take cX0_take 2 none, Jvm.Cond.code yX1_init cX1_init 1 none, Jvm.Cond.code yX1_fill cX1_fill 4 none, Jvm.Cond.code yX1_join cX1_join 2 none, Jvm.Cond.code yX1_goOn cX1_goOn 4 none, Jvm.Cond.code yX1_lookAt cX1_lookAt 7 none, Jvm.Cond.code yX1_outcomeOfFunction cX1_outcomeOfFunction 11 (some .int), Jvm.Cond.code yX1_outcomeOfChoice cX1_outcomeOfChoice 4 (some .int), Jvm.Cond.code yX1_answerCount cX1_answerCount 3 (some .int), Jvm.Cond.code yX1_placeOfAnswer cX1_placeOfAnswer 4 (some .int), Jvm.Cond.code yX1_valueSet cX1_valueSet 3 (some .int), Jvm.Cond.code yX1_leastPrice cX1_leastPrice 5 (some .int), Jvm.Cond.code yX1_throwsOf cX1_throwsOf 5 (some .int), Jvm.Cond.code yX1_throwsIn cX1_throwsIn 5 (some .int), Jvm.Cond.code yX2_init cX2_init 1 none, Jvm.Cond.code yX2_lay cX2_lay 4 none, Jvm.Cond.code yX2_clear cX2_clear 2 (some .boolean), Jvm.Cond.code yX2_faultAs cX2_faultAs 2 (some .int), Jvm.Cond.code yX2_has cX2_has 2 (some .boolean), Jvm.Cond.code yX2_holds cX2_holds 3 (some .boolean), Jvm.Cond.code yX2_cut cX2_cut 2 (some .int), Jvm.Cond.code yX3_bound cX3_bound 2 (some .int), Jvm.Cond.code yX3_bind cX3_bind 3 (some .int), Jvm.Cond.code yX3_picked cX3_picked 1 (some .int), Jvm.Cond.code yX3_second cX3_second 1 (some .int), Jvm.Cond.code yX3_pick cX3_pick 3 (some .int), Jvm.Cond.code yX4_init cX4_init 1 none, Jvm.Cond.code yX4_become cX4_become 5 none, Jvm.Cond.code yX5_init cX5_init 1 none, Jvm.Cond.code yX5_readInto cX5_readInto 6 (some .int), Jvm.Cond.code yX5_readFunction cX5_readFunction 6 (some .boolean), Jvm.Cond.code yX5_readKind cX5_readKind 1 (some .int), Jvm.Cond.code yX5_readTwig cX5_readTwig 4 (some .boolean), Jvm.Cond.code yX5_readChoice cX5_readChoice 3 (some .int), Jvm.Cond.code yX5_readParts cX5_readParts 5 (some .boolean), Jvm.Cond.code yX5_readEnd cX5_readEnd 1 (some .int), Jvm.Cond.code yX5_readDigit cX5_readDigit 4 (some .int), Jvm.Cond.code yX5_passes cX5_passes 3 (some .boolean), Jvm.Cond.code yX6_init cX6_init 2 none, Jvm.Cond.code yX6_clear cX6_clear 2 none, Jvm.Cond.code yX6_take cX6_take 4 none, Jvm.Cond.code yX6_functionAt cX6_functionAt 2 (some (.object "NeededAnswers$Function")), Jvm.Cond.code yX6_termAt cX6_termAt 2 (some (.object "NeededAnswers$Term")), Jvm.Cond.code yX6_add cX6_add 5 (some .int), Jvm.Cond.code yX6_takeLast cX6_takeLast 1 (some .boolean), Jvm.Cond.code yX6_play cX6_play 4 (some .boolean), Jvm.Cond.code yX6_givenCount cX6_givenCount 3 (some .int), Jvm.Cond.code yX6_firstStand cX6_firstStand 3 (some .int), Jvm.Cond.code yX6_boundSince cX6_boundSince 4 (some .int), Jvm.Cond.code yX6_costOf cX6_costOf 5 (some .int), Jvm.Cond.code yX7_init cX7_init 2 none, Jvm.Cond.code yX7_functions cX7_functions 8 (some .int), Jvm.Cond.code yX7_ofFunction cX7_ofFunction 4 (some .int), Jvm.Cond.code yX7_constant cX7_constant 2 (some .int), Jvm.Cond.code yX7_unknown cX7_unknown 2 (some .int), Jvm.Cond.code yX7_apply cX7_apply 4 (some .int), Jvm.Cond.code yX7_drop cX7_drop 1 (some .int), Jvm.Cond.code yX7_ofTerm cX7_ofTerm 4 (some .int), Jvm.Cond.code yX7_price cX7_price 5 (some .int), Jvm.Cond.code yX7_given cX7_given 4 (some .int), Jvm.Cond.code yX7_needs cX7_needs 3 (some .int), Jvm.Cond.code yX7_answers cX7_answers 3 (some .int), Jvm.Cond.code yX7_answer cX7_answer 6 (some .int), Jvm.Cond.code yX7_day cX7_day 9 (some .int), Jvm.Cond.code yX7_reading cX7_reading 3 (some .int), Jvm.Cond.code yX7_back cX7_back 2 (some .int), Jvm.Cond.code yX7_kinds cX7_kinds 4 (some .int), Jvm.Cond.code yX7_branches cX7_branches 4 (some .int), Jvm.Cond.code yX7_odds cX7_odds 8 (some .long), Jvm.Cond.code yX7_sheet cX7_sheet 5 (some .int), Jvm.Cond.code yX7_lose cX7_lose 3 (some .int), Jvm.Cond.code yX7_put cX7_put 5 (some .int), Jvm.Cond.code yX7_cell cX7_cell 6 (some .long), Jvm.Cond.code yX7_copy cX7_copy 8 (some .int), Jvm.Cond.code yX7_tell cX7_tell 3 (some .int), Jvm.Cond.code yX7_note cX7_note 3 (some .int), Jvm.Cond.code yX7_as cX7_as 4 (some .int), Jvm.Cond.code yX7_trace cX7_trace 1 (some .int), Jvm.Cond.code yX7_fault cX7_fault 1 (some .int), Jvm.Cond.code yX7_many cX7_many 2 (some .int), Jvm.Cond.code yX7_isBelow cX7_isBelow 2 (some .boolean), Jvm.Cond.code yX7_isPrice cX7_isPrice 1 (some .boolean), Jvm.Cond.code yX7_sheetAt cX7_sheetAt 2 (some (.object "NeededAnswers$Sheet")), Jvm.Cond.code yX7_faulted cX7_faulted 2 (some .int), Jvm.Cond.code yX7_leaf cX7_leaf 4 (some .int), Jvm.Cond.code yX7_forgetReadings cX7_forgetReadings 4 none, Jvm.Cond.code yX7_readingsHold cX7_readingsHold 3 (some .boolean), Jvm.Cond.code yX7_needOf cX7_needOf 1 (some .int), Jvm.Cond.code yX7_neededOf cX7_neededOf 1 (some .int), Jvm.Cond.code yX7_areActs cX7_areActs 4 (some .boolean), Jvm.Cond.code yX7_isAct cX7_isAct 2 (some .boolean), Jvm.Cond.code yX7_playActs cX7_playActs 5 (some .int), Jvm.Cond.code yX7_ofImagined cX7_ofImagined 2 (some .int), Jvm.Cond.code yX7_tellPlain cX7_tellPlain 2 (some .int), Jvm.Cond.code yX7_tellDear cX7_tellDear 2 (some .int), Jvm.Cond.code yX7_tellDouble cX7_tellDouble 2 (some .int), Jvm.Cond.code yX7_leaveTrace cX7_leaveTrace 2 none, Jvm.Cond.code yX8_init cX8_init 1 none, Jvm.Cond.code yX8_fails cX8_fails 2 (some .int), Jvm.Cond.code yX8_lost cX8_lost 2 (some .long), Jvm.Cond.code yX8_within cX8_within 3 (some .boolean), Jvm.Cond.code yX8_isSheet cX8_isSheet 1 (some .boolean), Jvm.Cond.code yX8_isSort cX8_isSort 1 (some .boolean), Jvm.Cond.code yX8_against cX8_against 5 (some .int), Jvm.Cond.code yX8_isFunction cX8_isFunction 2 (some .boolean), Jvm.Cond.code yX8_isTerm cX8_isTerm 2 (some .boolean), Jvm.Cond.code yX8_digit cX8_digit 4 (some .int), Jvm.Cond.code yX8_isSign cX8_isSign 3 (some .boolean), Jvm.Cond.code yX8_functions cX8_functions 8 (some .int), Jvm.Cond.code yX8_readAll cX8_readAll 2 (some .boolean), Jvm.Cond.code yX8_readFunction cX8_readFunction 5 (some .boolean), Jvm.Cond.code yX8_readTwig cX8_readTwig 5 (some .boolean), Jvm.Cond.code yX8_costOf cX8_costOf 2 (some .int), Jvm.Cond.code yX8_ofFunction cX8_ofFunction 3 (some .int), Jvm.Cond.code yX8_putOn cX8_putOn 5 (some .int), Jvm.Cond.code yX8_constant cX8_constant 2 (some .int), Jvm.Cond.code yX8_unknown cX8_unknown 2 (some .int), Jvm.Cond.code yX8_apply cX8_apply 4 (some .int), Jvm.Cond.code yX8_drop cX8_drop 3 (some .int), Jvm.Cond.code yX8_ofTerm cX8_ofTerm 3 (some .int), Jvm.Cond.code yX8_price cX8_price 4 (some .int), Jvm.Cond.code yX8_boundIn cX8_boundIn 2 (some .int), Jvm.Cond.code yX8_pickedIn cX8_pickedIn 2 (some .int), Jvm.Cond.code yX8_findTerm cX8_findTerm 6 none, Jvm.Cond.code yX8_findTwig cX8_findTwig 7 none, Jvm.Cond.code yX8_findTerms cX8_findTerms 4 none, Jvm.Cond.code yX8_firstStand cX8_firstStand 1 (some .int), Jvm.Cond.code yX8_given cX8_given 4 (some .int), Jvm.Cond.code yX8_needs cX8_needs 3 (some .int), Jvm.Cond.code yX8_priceOf cX8_priceOf 4 (some .int), Jvm.Cond.code yX8_toTheEnd cX8_toTheEnd 3 none, Jvm.Cond.code yX8_isAnswer cX8_isAnswer 4 none, Jvm.Cond.code yX8_findAnswers cX8_findAnswers 7 none, Jvm.Cond.code yX8_answers cX8_answers 3 (some .int), Jvm.Cond.code yX8_picks cX8_picks 4 (some .int), Jvm.Cond.code yX8_answer cX8_answer 4 (some .int), Jvm.Cond.code yX8_does cX8_does 3 (some .boolean), Jvm.Cond.code yX8_isPair cX8_isPair 2 (some .boolean), Jvm.Cond.code yX8_goDay cX8_goDay 4 (some .int), Jvm.Cond.code yX8_day cX8_day 11 (some .int), Jvm.Cond.code yX8_tellDay cX8_tellDay 2 (some .int), Jvm.Cond.code yX8_reading cX8_reading 3 (some .int), Jvm.Cond.code yX8_back cX8_back 2 (some .int), Jvm.Cond.code yX8_areSo cX8_areSo 2 (some .boolean), Jvm.Cond.code yX8_kinds cX8_kinds 5 (some .int), Jvm.Cond.code yX8_branches cX8_branches 5 (some .int), Jvm.Cond.code yX8_inLeastTerms cX8_inLeastTerms 11 (some .long), Jvm.Cond.code yX8_nextStand cX8_nextStand 5 (some .int), Jvm.Cond.code yX8_odds cX8_odds 7 (some .long), Jvm.Cond.code yX8_sheet cX8_sheet 5 (some .int), Jvm.Cond.code yX8_lose cX8_lose 3 (some .int), Jvm.Cond.code yX8_put cX8_put 4 (some .int), Jvm.Cond.code yX8_cell cX8_cell 4 (some .long), Jvm.Cond.code yX8_copy cX8_copy 10 (some .int), Jvm.Cond.code yX8_begins cX8_begins 2 none, Jvm.Cond.code yX8_tell cX8_tell 3 (some .int), Jvm.Cond.code yX8_note cX8_note 2 (some .int), Jvm.Cond.code yX8_as cX8_as 3 (some .int), Jvm.Cond.code yX8_trace cX8_trace 1 (some .int), Jvm.Cond.code yX8_fault cX8_fault 1 (some .int), Jvm.Cond.code yX8_many cX8_many 4 (some .int), Jvm.Cond.code yJ6_bitCount_0f7a4 cJ6_bitCount_0f7a4 1 (some .int), Jvm.Cond.code yJ9_min_7cf53 cJ9_min_7cf53 2 (some .int)] : List Jvm.Cond) = (List.range am_N).map (fun q => Jvm.Cond.code (am_nm q) (am_code q) (am_mx q) (am_re q)) := rfl
theorem am_cdk {q : Nat} (hq : q < am_N) : Jvm.Cond.code (am_nm q) (am_code q) (am_mx q) (am_re q) ∈ am_gt := by
  have h := am_cdB.symm.trans am_cdA
  have h1 : Jvm.Cond.code (am_nm q) (am_code q) (am_mx q) (am_re q) ∈ (List.range am_N).map (fun q => Jvm.Cond.code (am_nm q) (am_code q) (am_mx q) (am_re q)) := List.mem_map.mpr ⟨q, List.mem_range.mpr hq, rfl⟩
  rw [h] at h1
  obtain ⟨i, -, hi⟩ := List.mem_filterMap.mp h1
  exact am_gt_of hi rfl
def am_rtC (t : Option FieldType) (k : Nat) : Bool := match t with
  | none => k == 0
  | some .boolean => k == 1
  | some .int => k == 2
  | some .long => k == 3
  | some (.object _) => k == 4
  | _ => false
def am_mpC (q : Nat) : Bool := match am_mpP[q]? with
  | some i => am_is i.2.1 (.initialized (am_nm q).cls) && (if am_sta q then am_is i.2.2.1 (.static (am_nm q)) else am_is i.2.2.1 (.instanceMethod (am_nm q))) && (am_sta q || am_ini q || am_is i.2.2.2 (.selects (am_nm q).cls (am_nm q) (am_nm q)))
    && (decide ((am_nm q).cls = am_cn (am_own q)) && (decide ((am_nm q).cls ≠ "java/lang/invoke/MethodHandle") && (decide ((am_nm q).cls ≠ "java/lang/invoke/VarHandle") && (plainFor (am_nm q) && (decide (am_mx q ≤ 19) && (decide ((parseMethodDescriptor (am_nm q).desc).map (fun d => d.parameters.length) = some (if am_sta q then am_na q else am_na q - 1)) && (decide (am_sta q = false → 1 ≤ am_na q) && (am_rtC (am_re q) (am_rt q) && decide (am_ini q = true ↔ (am_nm q).name = "<init>")))))))))
  | none => false
theorem am_mpA : (List.range am_N).all am_mpC = true := by decide +kernel
theorem am_mf {q : Nat} (hq : q < am_N) : Jvm.Cond.code (am_nm q) (am_code q) (am_mx q) (am_re q) ∈ am_gt ∧ Jvm.Cond.initialized (am_nm q).cls ∈ am_gt ∧ (am_sta q = true → Jvm.Cond.static (am_nm q) ∈ am_gt) ∧ (am_sta q = false → Jvm.Cond.instanceMethod (am_nm q) ∈ am_gt) ∧ (am_sta q = false → am_ini q = false → Jvm.Cond.selects (am_nm q).cls (am_nm q) (am_nm q) ∈ am_gt) ∧ (am_nm q).cls = am_cn (am_own q) ∧ (am_nm q).cls ≠ "java/lang/invoke/MethodHandle" ∧ (am_nm q).cls ≠ "java/lang/invoke/VarHandle" ∧ plainFor (am_nm q) = true ∧ am_mx q ≤ 19 ∧ (parseMethodDescriptor (am_nm q).desc).map (fun d => d.parameters.length) = some (if am_sta q then am_na q else am_na q - 1) ∧ (am_sta q = false → 1 ≤ am_na q) ∧ am_rtC (am_re q) (am_rt q) = true ∧ (am_ini q = true ↔ (am_nm q).name = "<init>") := by
  have h := List.all_eq_true.mp am_mpA q (List.mem_range.mpr hq)
  unfold am_mpC at h
  split at h
  · next i hi =>
    simp only [Bool.and_eq_true, Bool.or_eq_true, decide_eq_true_eq] at h
    obtain ⟨⟨⟨h2, h3⟩, h4⟩, h5, h6, h7, h8, h9, h10, h11, h12, h13⟩ := h
    refine ⟨am_cdk hq, am_is_in h2, fun e => ?_, fun e => ?_, fun e e2 => ?_, h5, h6, h7, h8, h9, h10, h11, h12, h13⟩
    · rw [if_pos e] at h3; exact am_is_in h3
    · rw [if_neg (by rw [e]; decide)] at h3; exact am_is_in h3
    · rcases h4 with (h4 | h4) | h4
      · rw [e] at h4; cases h4
      · rw [e2] at h4; cases h4
      · exact am_is_in h4
  · cases h
/-- links to private members of nest mates -/
def am_nw : List Jvm.Cond := [lw_tbl.getD 73 (.initialized ""), lw_tbl.getD 107 (.initialized ""), lw_tbl.getD 141 (.initialized ""), lw_tbl.getD 196 (.initialized ""), lw_tbl.getD 227 (.initialized ""), lw_tbl.getD 362 (.initialized ""), lw_tbl.getD 441 (.initialized "")]
def am_host : String := "NeededAnswers"
def am_mlC (q : Nat × Nat × Nat × Nat × Nat) : Bool := match q.2.2.1 with
  | 0 => decide (q.2.2.2.1 < am_N) && am_is q.2.2.2.2 (.methodLink (am_cn q.1) q.2.1 (am_nm q.2.2.2.1)) && (am_sta q.2.2.2.1 == false) && (am_ini q.2.2.2.1 == false)
  | 1 => decide (q.2.2.2.1 < am_N) && am_is q.2.2.2.2 (.methodLink (am_cn q.1) q.2.1 (am_nm q.2.2.2.1)) && (am_sta q.2.2.2.1 == true)
  | 2 => decide (q.2.2.2.1 < am_N) && am_is q.2.2.2.2 (.methodLink (am_cn q.1) q.2.1 (am_nm q.2.2.2.1)) && (am_sta q.2.2.2.1 == false) && (am_ini q.2.2.2.1 == true)
  | 3 => decide (q.2.2.2.1 < am_N) && decide (Jvm.Cond.methodLinkNest (am_cn q.1) q.2.1 (am_nm q.2.2.2.1) am_host ∈ am_nw) && (am_sta q.2.2.2.1 == true)
  | 4 => decide (q.2.2.2.1 < am_N) && decide (Jvm.Cond.methodLinkNest (am_cn q.1) q.2.1 (am_nm q.2.2.2.1) am_host ∈ am_nw) && (am_sta q.2.2.2.1 == false) && (am_ini q.2.2.2.1 == true)
  | 5 => am_is q.2.2.2.2 (.methodLink (am_cn q.1) q.2.1 arraycopyName)
  | 6 => am_is q.2.2.2.2 (.methodLink (am_cn q.1) q.2.1 objectInit)
  | _ => false
theorem am_mlA : am_mlP.all am_mlC = true := by decide +kernel
theorem am_mlk {own ix k q : Nat} (h : am_ml own ix = some (k, q)) : ∃ i, am_mlC (own, ix, k, q, i) = true := by
  unfold am_ml at h
  obtain ⟨q, h1, h2⟩ := Option.map_eq_some_iff.mp h
  have h3 := List.all_eq_true.mp am_mlA q (List.mem_of_find?_eq_some h1)
  have h4 := List.find?_some h1
  simp only [Bool.and_eq_true, beq_iff_eq] at h4
  obtain ⟨q1, q2, q3, q4, q5⟩ := q
  obtain ⟨rfl, rfl⟩ := h4
  cases h2
  exact ⟨q5, h3⟩
theorem am_w_nat : Jvm.Cond.native arraycopyName ∈ am_gt := am_is_in (i := 348) (by decide +kernel)
theorem am_w_sta : Jvm.Cond.static arraycopyName ∈ am_gt := am_is_in (i := 347) (by decide +kernel)
theorem am_w_sys : Jvm.Cond.initialized "java/lang/System" ∈ am_gt := am_is_in (i := 58) (by decide +kernel)
theorem am_w_obi : Jvm.Cond.instanceMethod objectInit ∈ am_gt := am_is_in (i := 68) (by decide +kernel)
theorem am_w_obc : Jvm.Cond.code objectInit ⟨#[0xb1]⟩ 1 none ∈ am_gt := am_is_in (i := 69) (by decide +kernel)
theorem am_w_arr : Jvm.Cond.arrayClass .int ∈ am_gt := am_is_in (i := 95) (by decide +kernel)
theorem am_lawN : am_own am_N = 10 ∧ am_rt am_N = 1 ∧ am_ini am_N = false ∧ am_code am_N = code ∧ am_mx am_N = 4 := ⟨rfl, rfl, rfl, rfl, rfl⟩
theorem am_ao_in : ∀ c, am_isq c = true → Jvm.Cond.arrayOver (.object (am_cn c)) ∈ lw_tbl := by
  intro c hc
  unfold am_isq at hc
  simp only [Bool.or_eq_true, beq_iff_eq] at hc
  rcases hc with (rfl | rfl) | rfl
  · exact List.mem_of_getElem? (i := 103) (by decide +kernel)
  · exact List.mem_of_getElem? (i := 71) (by decide +kernel)
  · exact List.mem_of_getElem? (i := 105) (by decide +kernel)
theorem am_nw_in : ∀ w ∈ am_nw, w ∈ lw_tbl := by decide +kernel
theorem am_nw_ml : ∀ w ∈ am_nw, ∃ a i y h, w = Jvm.Cond.methodLinkNest a i y h := by
  intro w hw
  unfold am_nw at hw
  simp only [List.mem_cons, List.not_mem_nil, or_false] at hw
  rcases hw with rfl | rfl | rfl | rfl | rfl | rfl | rfl <;> exact ⟨_, _, _, _, rfl⟩
