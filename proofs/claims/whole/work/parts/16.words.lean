/-! THE WORDS: each link of the tables is one of lw_tbl, at its place -/
def px_T : List Cond := lw_tbl.filter goodWord
theorem px_T_of {w : Cond} (h : w ∈ lw_tbl) (hg : goodWord w = true) : w ∈ px_T := List.mem_filter.mpr ⟨h, hg⟩
theorem px_Tg : ∀ w ∈ px_T, (w.onTables && w.keeps) = true ∨ ∃ ty, w = .arrayClass ty := fun _ h => good_of_word (List.mem_filter.mp h).2
theorem px_T_lw {args : Array Value} {s : State} (h : ∀ w ∈ lw_tbl, w.before args s = true) : ∀ w ∈ px_T, w.before args s = true := fun w hw => h w (List.mem_filter.mp hw).1
theorem px_pos {α : Type} {f : α → Cond} {L : List α} {ps : List Nat} (h : L.map f = ps.filterMap (fun i => lw_tbl[i]?)) {x : α} (hx : x ∈ L) : f x ∈ lw_tbl := by
  have h1 : f x ∈ L.map f := List.mem_map.mpr ⟨x, hx, rfl⟩
  rw [h] at h1
  obtain ⟨i, -, hi⟩ := List.mem_filterMap.mp h1
  exact List.mem_of_getElem? hi
def px_fT (ci f : Nat) : String × String × String × Bool := match px_cls[ci]? with
  | some q => q.2.1 f
  | none => ("", "", "", false)
def px_FL_0 : List (Nat × Nat × Nat × Nat) := [(0, 9, 0, 0), (0, 15, 0, 1), (0, 18, 0, 2), (0, 22, 0, 3), (1, 7, 1, 0), (1, 13, 1, 1), (1, 29, 1, 2), (1, 17, 1, 3), (1, 20, 1, 4), (1, 23, 1, 5), (1, 33, 1, 6), (1, 26, 1, 7), (1, 36, 1, 8), (1, 39, 1, 9), (1, 99, 1, 10), (1, 90, 1, 11), (1, 43, 1, 12), (2, 9, 2, 0), (2, 15, 2, 1), (2, 19, 2, 2), (2, 22, 2, 3), (2, 25, 2, 4), (3, 9, 3, 0), (3, 15, 3, 1), (3, 19, 3, 2)]
set_option maxRecDepth 100000 in
theorem px_FL_r0 : px_FL_0.map (fun q => Cond.fieldLink (px_cn q.1) q.2.1 (px_fT q.2.2.1 q.2.2.2).1 (px_fT q.2.2.1 q.2.2.2).2.1 (px_fT q.2.2.1 q.2.2.2).2.2.1) = [104, 105, 106, 107, 124, 125, 126, 127, 128, 129, 130, 131, 132, 133, 134, 135, 136, 170, 171, 172, 173, 174, 192, 193, 194].filterMap (fun i => lw_tbl[i]?) := by rfl
def px_FL_1 : List (Nat × Nat × Nat × Nat) := [(3, 22, 3, 3), (3, 25, 3, 4), (4, 7, 4, 0), (4, 19, 4, 1), (4, 23, 4, 2), (4, 26, 4, 3), (5, 9, 5, 0), (5, 15, 5, 1), (5, 19, 5, 2), (5, 55, 5, 3), (5, 22, 5, 4), (6, 23, 6, 0), (6, 32, 6, 1), (6, 39, 6, 2), (6, 48, 6, 3), (6, 55, 6, 4), (6, 62, 6, 5), (6, 66, 6, 6), (6, 96, 6, 7), (6, 76, 6, 8), (7, 75, 7, 0), (7, 68, 7, 1), (7, 72, 7, 2), (7, 7, 7, 3), (7, 13, 7, 4)]
set_option maxRecDepth 100000 in
theorem px_FL_r1 : px_FL_1.map (fun q => Cond.fieldLink (px_cn q.1) q.2.1 (px_fT q.2.2.1 q.2.2.2).1 (px_fT q.2.2.1 q.2.2.2).2.1 (px_fT q.2.2.1 q.2.2.2).2.2.1) = [195, 196, 218, 219, 220, 221, 237, 238, 239, 240, 241, 256, 257, 258, 259, 260, 261, 262, 263, 264, 816, 817, 818, 819, 820].filterMap (fun i => lw_tbl[i]?) := by rfl
def px_FL_2 : List (Nat × Nat × Nat × Nat) := [(7, 107, 7, 5), (7, 16, 7, 6), (7, 78, 7, 7), (7, 19, 7, 8), (7, 22, 7, 9), (7, 110, 7, 10), (7, 25, 7, 11), (7, 132, 7, 12), (7, 28, 7, 13), (7, 31, 7, 14), (7, 34, 7, 15), (7, 113, 7, 16), (7, 81, 7, 17), (7, 37, 7, 18), (7, 40, 7, 19), (7, 43, 7, 20), (7, 170, 7, 21), (7, 46, 7, 22), (7, 49, 7, 23), (7, 52, 7, 24), (7, 55, 7, 25), (7, 59, 7, 26), (7, 62, 7, 27), (7, 92, 7, 28), (7, 65, 7, 29)]
set_option maxRecDepth 100000 in
theorem px_FL_r2 : px_FL_2.map (fun q => Cond.fieldLink (px_cn q.1) q.2.1 (px_fT q.2.2.1 q.2.2.2).1 (px_fT q.2.2.1 q.2.2.2).2.1 (px_fT q.2.2.1 q.2.2.2).2.2.1) = [821, 822, 823, 824, 825, 826, 827, 828, 829, 830, 831, 832, 833, 834, 835, 836, 837, 838, 839, 840, 841, 842, 843, 844, 845].filterMap (fun i => lw_tbl[i]?) := by rfl
def px_FL : List (Nat × Nat × Nat × Nat) := px_FL_0 ++ (px_FL_1 ++ (px_FL_2))
theorem px_FL_in {x : (Nat × Nat × Nat × Nat)} (h : x ∈ px_FL) : (fun q => Cond.fieldLink (px_cn q.1) q.2.1 (px_fT q.2.2.1 q.2.2.2).1 (px_fT q.2.2.1 q.2.2.2).2.1 (px_fT q.2.2.1 q.2.2.2).2.2.1) x ∈ lw_tbl := by
  unfold px_FL at h
  simp only [List.mem_append] at h
  rcases h with h | h | h
  · exact px_pos px_FL_r0 h
  · exact px_pos px_FL_r1 h
  · exact px_pos px_FL_r2 h
def px_NL_0 : List (Nat × Nat × Nat) := [(9, 8, 6), (6, 18, 0), (6, 27, 1), (6, 36, 2), (6, 43, 3), (6, 52, 4), (6, 59, 5), (9, 68, 7)]
set_option maxRecDepth 100000 in
theorem px_NL_r0 : px_NL_0.map (fun q => Cond.classLink (px_cn q.1) q.2.1 (px_cn q.2.2)) = [81, 95, 118, 164, 186, 208, 231, 810].filterMap (fun i => lw_tbl[i]?) := by rfl
def px_NL : List (Nat × Nat × Nat) := px_NL_0
theorem px_NL_in {x : (Nat × Nat × Nat)} (h : x ∈ px_NL) : (fun q => Cond.classLink (px_cn q.1) q.2.1 (px_cn q.2.2)) x ∈ lw_tbl := by
  unfold px_NL at h
  exact px_pos px_NL_r0 h
def px_KL_0 : List (Nat × Nat × Nat) := [(9, 65, 73), (6, 20, 0), (0, 25, 171), (6, 29, 11), (6, 38, 32), (6, 45, 46), (6, 54, 57), (4, 13, 1), (6, 61, 64), (6, 70, 151), (9, 83, 74), (6, 102, 12), (9, 88, 75), (6, 106, 13), (1, 46, 14), (1, 56, 15), (1, 59, 16), (1, 63, 17), (1, 86, 18), (1, 102, 19), (1, 106, 2), (1, 50, 3), (1, 82, 20), (1, 78, 21), (1, 66, 22)]
set_option maxRecDepth 100000 in
theorem px_KL_r0 : px_KL_0.map (fun q => Cond.methodLink (px_cn q.1) q.2.1 (px_y q.2.2)) = [83, 97, 101, 120, 166, 188, 210, 214, 233, 253, 284, 288, 292, 296, 300, 304, 308, 312, 316, 320, 324, 328, 332, 336, 340].filterMap (fun i => lw_tbl[i]?) := by rfl
def px_KL_1 : List (Nat × Nat × Nat) := [(1, 69, 23), (1, 93, 24), (1, 96, 25), (1, 72, 26), (1, 75, 4), (6, 110, 27), (6, 113, 28), (6, 117, 29), (6, 120, 33), (6, 123, 30), (6, 126, 31), (6, 130, 34), (2, 35, 1), (2, 41, 35), (2, 63, 5), (9, 112, 76), (6, 156, 47), (9, 126, 77), (9, 136, 78), (6, 191, 65), (5, 25, 152), (5, 36, 6), (6, 194, 66), (5, 42, 1), (5, 46, 153)]
set_option maxRecDepth 100000 in
theorem px_KL_r1 : px_KL_1.map (fun q => Cond.methodLink (px_cn q.1) q.2.1 (px_y q.2.2)) = [344, 348, 352, 356, 360, 364, 368, 372, 376, 380, 384, 388, 395, 396, 400, 404, 408, 412, 416, 420, 424, 428, 432, 436, 437].filterMap (fun i => lw_tbl[i]?) := by rfl
def px_KL_2 : List (Nat × Nat × Nat) := [(6, 197, 67), (5, 49, 171), (5, 59, 68), (5, 63, 69), (5, 73, 7), (5, 76, 2), (5, 70, 70), (5, 80, 5), (6, 200, 71), (5, 67, 72), (9, 59, 156), (9, 71, 157), (9, 7, 79), (6, 80, 80), (6, 207, 4), (6, 84, 81), (6, 217, 6), (6, 87, 8), (0, 31, 9), (0, 47, 151), (0, 50, 10), (0, 35, 152), (0, 41, 5), (0, 44, 153), (6, 91, 36)]
set_option maxRecDepth 100000 in
theorem px_KL_r2 : px_KL_2.map (fun q => Cond.methodLink (px_cn q.1) q.2.1 (px_y q.2.2)) = [440, 444, 445, 449, 453, 457, 458, 462, 463, 467, 471, 474, 478, 482, 486, 558, 562, 564, 568, 572, 573, 577, 578, 579, 580].filterMap (fun i => lw_tbl[i]?) := by rfl
def px_KL_3 : List (Nat × Nat × Nat) := [(6, 94, 48), (6, 95, 58), (9, 79, 158), (9, 15, 82), (6, 99, 2), (9, 92, 159), (9, 19, 83), (6, 134, 84), (6, 222, 37), (6, 137, 38), (9, 95, 160), (9, 22, 85), (6, 140, 39), (9, 99, 161), (9, 26, 86), (6, 143, 40), (9, 102, 162), (9, 29, 87), (6, 146, 41), (2, 45, 152), (2, 50, 40), (2, 53, 153), (9, 106, 163), (9, 33, 88), (6, 149, 154)]
set_option maxRecDepth 100000 in
theorem px_KL_r3 : px_KL_3.map (fun q => Cond.methodLink (px_cn q.1) q.2.1 (px_y q.2.2)) = [584, 588, 592, 595, 599, 600, 603, 607, 611, 616, 620, 623, 627, 631, 634, 638, 642, 645, 649, 653, 654, 655, 656, 659, 663].filterMap (fun i => lw_tbl[i]?) := by rfl
def px_KL_4 : List (Nat × Nat × Nat) := [(8, 11, 152), (8, 15, 153), (9, 109, 164), (9, 37, 89), (6, 153, 152), (9, 116, 165), (9, 40, 90), (6, 158, 91), (6, 227, 49), (6, 161, 50), (9, 120, 166), (9, 44, 92), (6, 165, 51), (9, 123, 167), (9, 47, 93), (6, 169, 52), (3, 29, 155), (6, 172, 53), (3, 35, 54), (3, 54, 152), (3, 39, 42), (9, 130, 168), (9, 50, 94), (6, 175, 55), (6, 178, 59)]
set_option maxRecDepth 100000 in
theorem px_KL_r4 : px_KL_4.map (fun q => Cond.methodLink (px_cn q.1) q.2.1 (px_y q.2.2)) = [666, 667, 668, 671, 675, 676, 679, 683, 687, 692, 696, 699, 703, 707, 710, 714, 718, 721, 725, 729, 730, 734, 737, 741, 745].filterMap (fun i => lw_tbl[i]?) := by rfl
def px_KL_5 : List (Nat × Nat × Nat) := [(4, 30, 60), (4, 33, 171), (4, 39, 151), (4, 45, 61), (4, 56, 62), (4, 59, 152), (4, 62, 172), (4, 49, 7), (4, 52, 10), (6, 181, 63), (6, 184, 155), (9, 133, 169), (9, 53, 95), (6, 187, 56), (3, 45, 52), (3, 48, 53), (3, 51, 41), (9, 141, 170), (9, 56, 96), (6, 204, 43), (2, 56, 44), (2, 60, 45), (9, 70, 97), (9, 75, 98), (9, 74, 99)]
set_option maxRecDepth 100000 in
theorem px_KL_r5 : px_KL_5.map (fun q => Cond.methodLink (px_cn q.1) q.2.1 (px_y q.2.2)) = [749, 753, 754, 755, 759, 763, 764, 770, 771, 772, 776, 777, 780, 784, 788, 789, 790, 791, 794, 798, 802, 806, 812, 908, 912].filterMap (fun i => lw_tbl[i]?) := by rfl
def px_KL_6 : List (Nat × Nat × Nat) := [(7, 84, 100), (7, 88, 101), (9, 82, 102), (7, 103, 103), (7, 95, 104), (7, 99, 105), (9, 87, 106), (9, 91, 107), (7, 139, 108), (7, 117, 109), (7, 135, 110), (7, 121, 111), (7, 124, 112), (7, 128, 113), (7, 143, 114), (7, 146, 115), (9, 94, 116), (7, 149, 117), (9, 98, 118), (9, 101, 119), (7, 152, 120), (9, 143, 121), (9, 105, 122), (7, 155, 123), (7, 158, 124)]
set_option maxRecDepth 100000 in
theorem px_KL_r6 : px_KL_6.map (fun q => Cond.methodLink (px_cn q.1) q.2.1 (px_y q.2.2)) = [916, 920, 924, 928, 932, 936, 940, 944, 948, 952, 956, 960, 964, 968, 972, 976, 980, 984, 988, 992, 996, 1000, 1004, 1008, 1012].filterMap (fun i => lw_tbl[i]?) := by rfl
def px_KL_7 : List (Nat × Nat × Nat) := [(7, 161, 125), (9, 108, 126), (9, 111, 127), (9, 115, 128), (9, 119, 129), (7, 164, 130), (9, 122, 131), (9, 125, 132), (7, 176, 133), (7, 167, 134), (7, 173, 135), (9, 129, 136), (9, 132, 137), (7, 191, 138), (7, 185, 139), (7, 179, 140), (7, 182, 141), (7, 188, 142), (9, 135, 143), (9, 140, 144), (7, 201, 145), (7, 195, 146), (7, 204, 147), (7, 207, 148), (7, 198, 149)]
set_option maxRecDepth 100000 in
theorem px_KL_r7 : px_KL_7.map (fun q => Cond.methodLink (px_cn q.1) q.2.1 (px_y q.2.2)) = [1016, 1020, 1024, 1028, 1032, 1036, 1040, 1044, 1048, 1052, 1056, 1060, 1064, 1068, 1072, 1076, 1080, 1084, 1088, 1092, 1096, 1100, 1103, 1107, 1111].filterMap (fun i => lw_tbl[i]?) := by rfl
def px_KL_8 : List (Nat × Nat × Nat) := [(7, 210, 150)]
set_option maxRecDepth 100000 in
theorem px_KL_r8 : px_KL_8.map (fun q => Cond.methodLink (px_cn q.1) q.2.1 (px_y q.2.2)) = [1115].filterMap (fun i => lw_tbl[i]?) := by rfl
def px_KL : List (Nat × Nat × Nat) := px_KL_0 ++ (px_KL_1 ++ (px_KL_2 ++ (px_KL_3 ++ (px_KL_4 ++ (px_KL_5 ++ (px_KL_6 ++ (px_KL_7 ++ (px_KL_8))))))))
theorem px_KL_in {x : (Nat × Nat × Nat)} (h : x ∈ px_KL) : (fun q => Cond.methodLink (px_cn q.1) q.2.1 (px_y q.2.2)) x ∈ lw_tbl := by
  unfold px_KL at h
  simp only [List.mem_append] at h
  rcases h with h | h | h | h | h | h | h | h | h
  · exact px_pos px_KL_r0 h
  · exact px_pos px_KL_r1 h
  · exact px_pos px_KL_r2 h
  · exact px_pos px_KL_r3 h
  · exact px_pos px_KL_r4 h
  · exact px_pos px_KL_r5 h
  · exact px_pos px_KL_r6 h
  · exact px_pos px_KL_r7 h
  · exact px_pos px_KL_r8 h
def px_OL_0 : List (Nat × Nat) := [(6, 1), (0, 3), (1, 1), (2, 3), (3, 3), (4, 1), (5, 3), (7, 1)]
set_option maxRecDepth 100000 in
theorem px_OL_r0 : px_OL_0.map (fun q => Cond.methodLink (px_cn q.1) q.2 Lib.objectInit) = [86, 100, 123, 169, 191, 213, 236, 815].filterMap (fun i => lw_tbl[i]?) := by rfl
def px_OL : List (Nat × Nat) := px_OL_0
theorem px_OL_in {x : (Nat × Nat)} (h : x ∈ px_OL) : (fun q => Cond.methodLink (px_cn q.1) q.2 Lib.objectInit) x ∈ lw_tbl := by
  unfold px_OL at h
  exact px_pos px_OL_r0 h
def px_I0_0 : List (Nat × Nat) := [(6, 15), (5, 31)]
set_option maxRecDepth 100000 in
theorem px_I0_r0 : px_I0_0.map (fun q => Cond.methodLink (px_cn q.1) q.2 Lib.Math.max.name) = [92, 427].filterMap (fun i => lw_tbl[i]?) := by rfl
def px_I0 : List (Nat × Nat) := px_I0_0
theorem px_I0_in {x : (Nat × Nat)} (h : x ∈ px_I0) : (fun q => Cond.methodLink (px_cn q.1) q.2 Lib.Math.max.name) x ∈ lw_tbl := by
  unfold px_I0 at h
  exact px_pos px_I0_r0 h
def px_I1_0 : List (Nat × Nat) := [(6, 9)]
set_option maxRecDepth 100000 in
theorem px_I1_r0 : px_I1_0.map (fun q => Cond.methodLink (px_cn q.1) q.2 Lib.Math.min.name) = [89].filterMap (fun i => lw_tbl[i]?) := by rfl
def px_I1 : List (Nat × Nat) := px_I1_0
theorem px_I1_in {x : (Nat × Nat)} (h : x ∈ px_I1) : (fun q => Cond.methodLink (px_cn q.1) q.2 Lib.Math.min.name) x ∈ lw_tbl := by
  unfold px_I1 at h
  exact px_pos px_I1_r0 h
def px_I2_0 : List (Nat × Nat) := [(2, 29)]
set_option maxRecDepth 100000 in
theorem px_I2_r0 : px_I2_0.map (fun q => Cond.methodLink (px_cn q.1) q.2 arraycopyName) = [392].filterMap (fun i => lw_tbl[i]?) := by rfl
def px_I2 : List (Nat × Nat) := px_I2_0
theorem px_I2_in {x : (Nat × Nat)} (h : x ∈ px_I2) : (fun q => Cond.methodLink (px_cn q.1) q.2 arraycopyName) x ∈ lw_tbl := by
  unfold px_I2 at h
  exact px_pos px_I2_r0 h
def px_CL_0 : List (Nat × Nat × Int32) := [(11, 265, 1431655765), (11, 266, 858993459), (11, 267, 252645135)]
set_option maxRecDepth 100000 in
theorem px_CL_r0 : px_CL_0.map (fun q => Cond.constant (px_cn q.1) q.2.1 q.2.2) = [767, 768, 769].filterMap (fun i => lw_tbl[i]?) := by rfl
def px_CL : List (Nat × Nat × Int32) := px_CL_0
theorem px_CL_in {x : (Nat × Nat × Int32)} (h : x ∈ px_CL) : (fun q => Cond.constant (px_cn q.1) q.2.1 q.2.2) x ∈ lw_tbl := by
  unfold px_CL at h
  exact px_pos px_CL_r0 h
def px_DC_0 : List Nat := [0, 1, 2, 3, 4, 5, 6, 7, 8, 9, 10, 11, 12, 13, 14, 15, 16, 17, 18, 19, 20, 21, 22, 23, 24]
set_option maxRecDepth 100000 in
theorem px_DC_r0 : px_DC_0.map (fun N => Cond.code (px_y N) (px_b N) (px_ml N) (px_rt N)) = [99, 217, 327, 331, 363, 403, 431, 456, 567, 571, 576, 122, 291, 299, 303, 307, 311, 315, 319, 323, 335, 339, 343, 347, 351].filterMap (fun i => lw_tbl[i]?) := by rfl
def px_DC_1 : List Nat := [25, 26, 27, 28, 29, 30, 31, 32, 33, 34, 35, 36, 37, 38, 39, 40, 41, 42, 43, 44, 45, 46, 47, 48, 49]
set_option maxRecDepth 100000 in
theorem px_DC_r1 : px_DC_1.map (fun N => Cond.code (px_y N) (px_b N) (px_ml N) (px_rt N)) = [355, 359, 367, 371, 375, 383, 387, 168, 379, 391, 399, 583, 614, 619, 630, 641, 652, 733, 801, 805, 809, 190, 411, 587, 690].filterMap (fun i => lw_tbl[i]?) := by rfl
def px_DC_2 : List Nat := [50, 51, 52, 53, 54, 55, 56, 57, 58, 59, 60, 61, 62, 63, 64, 65, 66, 67, 68, 69, 70, 71, 72, 73, 74]
set_option maxRecDepth 100000 in
theorem px_DC_r2 : px_DC_2.map (fun N => Cond.code (px_y N) (px_b N) (px_ml N) (px_rt N)) = [695, 706, 717, 724, 728, 744, 787, 212, 591, 748, 752, 758, 762, 775, 235, 423, 435, 443, 448, 452, 461, 466, 470, 85, 287].filterMap (fun i => lw_tbl[i]?) := by rfl
def px_DC_3 : List Nat := [75, 76, 77, 78, 79, 80, 81, 82, 83, 84, 85, 86, 87, 88, 89, 90, 91, 92, 93, 94, 95, 96, 97, 98, 99]
set_option maxRecDepth 100000 in
theorem px_DC_r3 : px_DC_3.map (fun N => Cond.code (px_y N) (px_b N) (px_ml N) (px_rt N)) = [295, 407, 415, 419, 481, 485, 561, 598, 606, 610, 626, 637, 648, 662, 674, 682, 686, 702, 713, 740, 783, 797, 814, 911, 915].filterMap (fun i => lw_tbl[i]?) := by rfl
def px_DC_4 : List Nat := [100, 101, 102, 103, 104, 105, 106, 107, 108, 109, 110, 111, 112, 113, 114, 115, 116, 117, 118, 119, 120, 121, 122, 123, 124]
set_option maxRecDepth 100000 in
theorem px_DC_r4 : px_DC_4.map (fun N => Cond.code (px_y N) (px_b N) (px_ml N) (px_rt N)) = [919, 923, 927, 931, 935, 939, 943, 947, 951, 955, 959, 963, 967, 971, 975, 979, 983, 987, 991, 995, 999, 1003, 1007, 1011, 1015].filterMap (fun i => lw_tbl[i]?) := by rfl
def px_DC_5 : List Nat := [125, 126, 127, 128, 129, 130, 131, 132, 133, 134, 135, 136, 137, 138, 139, 140, 141, 142, 143, 144, 145, 146, 147, 148, 149]
set_option maxRecDepth 100000 in
theorem px_DC_r5 : px_DC_5.map (fun N => Cond.code (px_y N) (px_b N) (px_ml N) (px_rt N)) = [1019, 1023, 1027, 1031, 1035, 1039, 1043, 1047, 1051, 1055, 1059, 1063, 1067, 1071, 1075, 1079, 1083, 1087, 1091, 1095, 1099, 1102, 1106, 1110, 1114].filterMap (fun i => lw_tbl[i]?) := by rfl
def px_DC_6 : List Nat := [150, 151, 152, 153, 154, 155, 156, 171, 172]
set_option maxRecDepth 100000 in
theorem px_DC_r6 : px_DC_6.map (fun N => Cond.code (px_y N) (px_b N) (px_ml N) (px_rt N)) = [1118, 255, 426, 439, 665, 720, 473, 103, 766].filterMap (fun i => lw_tbl[i]?) := by rfl
def px_DC : List Nat := px_DC_0 ++ (px_DC_1 ++ (px_DC_2 ++ (px_DC_3 ++ (px_DC_4 ++ (px_DC_5 ++ (px_DC_6))))))
theorem px_DC_in {x : Nat} (h : x ∈ px_DC) : (fun N => Cond.code (px_y N) (px_b N) (px_ml N) (px_rt N)) x ∈ lw_tbl := by
  unfold px_DC at h
  simp only [List.mem_append] at h
  rcases h with h | h | h | h | h | h | h
  · exact px_pos px_DC_r0 h
  · exact px_pos px_DC_r1 h
  · exact px_pos px_DC_r2 h
  · exact px_pos px_DC_r3 h
  · exact px_pos px_DC_r4 h
  · exact px_pos px_DC_r5 h
  · exact px_pos px_DC_r6 h
def px_DW_0 : List Nat := [157, 158, 159, 160, 161, 162, 163, 164, 165, 166, 167, 168, 169, 170]
set_option maxRecDepth 100000 in
theorem px_DW_r0 : px_DW_0.map (fun N => Cond.codeWith (px_y N) (px_b N) (px_ml N) (px_rt N) (px_hh N)) = [476, 594, 602, 622, 633, 644, 658, 670, 678, 698, 709, 736, 779, 793].filterMap (fun i => lw_tbl[i]?) := by rfl
def px_DW : List Nat := px_DW_0
theorem px_DW_in {x : Nat} (h : x ∈ px_DW) : (fun N => Cond.codeWith (px_y N) (px_b N) (px_ml N) (px_rt N) (px_hh N)) x ∈ lw_tbl := by
  unfold px_DW at h
  exact px_pos px_DW_r0 h
def px_DI_0 : List Nat := [0, 1, 2, 3, 4, 5, 6, 7, 8, 9, 10, 11, 12, 13, 14, 15, 16, 17, 18, 19, 20, 21, 22, 23, 24]
set_option maxRecDepth 100000 in
theorem px_DI_r0 : px_DI_0.map (fun N => Cond.instanceMethod (px_y N)) = [98, 215, 325, 329, 361, 401, 429, 454, 565, 570, 574, 121, 289, 297, 302, 306, 310, 314, 318, 322, 334, 338, 342, 346, 350].filterMap (fun i => lw_tbl[i]?) := by rfl
def px_DI_1 : List Nat := [25, 26, 27, 28, 29, 30, 31, 32, 33, 34, 35, 36, 37, 38, 39, 40, 41, 42, 43, 44, 45, 46, 47, 48, 49]
set_option maxRecDepth 100000 in
theorem px_DI_r1 : px_DI_1.map (fun N => Cond.instanceMethod (px_y N)) = [354, 358, 365, 369, 373, 381, 385, 167, 377, 389, 398, 581, 612, 617, 628, 639, 650, 731, 799, 804, 808, 189, 409, 585, 688].filterMap (fun i => lw_tbl[i]?) := by rfl
def px_DI_2 : List Nat := [50, 51, 52, 53, 54, 55, 56, 57, 58, 59, 60, 61, 62, 63, 64, 65, 66, 67, 68, 69, 70, 71, 72, 73, 74]
set_option maxRecDepth 100000 in
theorem px_DI_r2 : px_DI_2.map (fun N => Cond.instanceMethod (px_y N)) = [693, 704, 715, 722, 727, 742, 785, 211, 589, 746, 751, 757, 761, 773, 234, 421, 433, 441, 447, 451, 460, 464, 469, 84, 285].filterMap (fun i => lw_tbl[i]?) := by rfl
def px_DI_3 : List Nat := [75, 76, 77, 78, 79, 80, 81, 82, 83, 84, 85, 86, 87, 88, 89, 90, 91, 92, 93, 94, 95, 96, 97, 98, 99]
set_option maxRecDepth 100000 in
theorem px_DI_r3 : px_DI_3.map (fun N => Cond.instanceMethod (px_y N)) = [293, 405, 413, 417, 479, 484, 560, 596, 604, 609, 624, 635, 646, 660, 672, 680, 685, 700, 711, 738, 781, 795, 813, 909, 913].filterMap (fun i => lw_tbl[i]?) := by rfl
def px_DI_4 : List Nat := [100, 101, 102, 103, 104, 105, 106, 107, 108, 109, 110, 111, 112, 113, 114, 115, 116, 117, 118, 119, 120, 121, 122, 123, 124]
set_option maxRecDepth 100000 in
theorem px_DI_r4 : px_DI_4.map (fun N => Cond.instanceMethod (px_y N)) = [918, 922, 925, 930, 934, 938, 941, 945, 950, 954, 958, 962, 966, 970, 974, 978, 981, 986, 989, 993, 998, 1001, 1005, 1010, 1014].filterMap (fun i => lw_tbl[i]?) := by rfl
def px_DI_5 : List Nat := [125, 126, 127, 128, 129, 130, 131, 132, 133, 134, 135, 136, 137, 138, 139, 140, 141, 142, 143, 144, 145, 147, 148, 149, 150]
set_option maxRecDepth 100000 in
theorem px_DI_r5 : px_DI_5.map (fun N => Cond.instanceMethod (px_y N)) = [1018, 1021, 1025, 1029, 1033, 1038, 1041, 1045, 1050, 1054, 1058, 1061, 1065, 1070, 1074, 1078, 1082, 1086, 1089, 1093, 1098, 1105, 1109, 1113, 1117].filterMap (fun i => lw_tbl[i]?) := by rfl
def px_DI : List Nat := px_DI_0 ++ (px_DI_1 ++ (px_DI_2 ++ (px_DI_3 ++ (px_DI_4 ++ (px_DI_5)))))
theorem px_DI_in {x : Nat} (h : x ∈ px_DI) : (fun N => Cond.instanceMethod (px_y N)) x ∈ lw_tbl := by
  unfold px_DI at h
  simp only [List.mem_append] at h
  rcases h with h | h | h | h | h | h
  · exact px_pos px_DI_r0 h
  · exact px_pos px_DI_r1 h
  · exact px_pos px_DI_r2 h
  · exact px_pos px_DI_r3 h
  · exact px_pos px_DI_r4 h
  · exact px_pos px_DI_r5 h
def px_DS_0 : List Nat := [1, 2, 3, 4, 5, 6, 7, 8, 9, 10, 12, 13, 14, 15, 16, 17, 18, 19, 20, 21, 22, 23, 24, 25, 26]
set_option maxRecDepth 100000 in
theorem px_DS_r0 : px_DS_0.map (fun N => Cond.selects (px_y N).cls (px_y N) (px_y N)) = [216, 326, 330, 362, 402, 430, 455, 566, 21, 575, 290, 298, 0, 1, 2, 3, 4, 5, 6, 7, 8, 9, 10, 11, 12].filterMap (fun i => lw_tbl[i]?) := by rfl
def px_DS_1 : List Nat := [27, 28, 29, 30, 31, 33, 34, 35, 36, 37, 38, 39, 40, 41, 42, 43, 44, 45, 47, 48, 49, 50, 51, 52, 53]
set_option maxRecDepth 100000 in
theorem px_DS_r1 : px_DS_1.map (fun N => Cond.selects (px_y N).cls (px_y N) (px_y N)) = [366, 370, 374, 382, 386, 378, 390, 13, 582, 613, 618, 629, 640, 651, 732, 800, 28, 29, 410, 586, 689, 694, 705, 716, 723].filterMap (fun i => lw_tbl[i]?) := by rfl
def px_DS_2 : List Nat := [54, 55, 56, 58, 59, 60, 61, 62, 63, 65, 66, 67, 68, 69, 70, 71, 72, 74, 75, 76, 77, 78, 79, 80, 81]
set_option maxRecDepth 100000 in
theorem px_DS_r2 : px_DS_2.map (fun N => Cond.selects (px_y N).cls (px_y N) (px_y N)) = [24, 743, 786, 590, 747, 25, 26, 27, 774, 422, 434, 442, 14, 15, 16, 465, 17, 286, 294, 406, 414, 418, 480, 18, 20].filterMap (fun i => lw_tbl[i]?) := by rfl
def px_DS_3 : List Nat := [82, 83, 84, 85, 86, 87, 88, 89, 90, 91, 92, 93, 94, 95, 96, 98, 99, 100, 101, 102, 103, 104, 105, 106, 107]
set_option maxRecDepth 100000 in
theorem px_DS_r3 : px_DS_3.map (fun N => Cond.selects (px_y N).cls (px_y N) (px_y N)) = [597, 605, 22, 625, 636, 647, 661, 673, 681, 23, 701, 712, 739, 782, 796, 910, 914, 30, 31, 926, 32, 33, 34, 942, 946].filterMap (fun i => lw_tbl[i]?) := by rfl
def px_DS_4 : List Nat := [108, 109, 110, 111, 112, 113, 114, 115, 116, 117, 118, 119, 120, 121, 122, 123, 124, 125, 126, 127, 128, 129, 130, 131, 132]
set_option maxRecDepth 100000 in
theorem px_DS_r4 : px_DS_4.map (fun N => Cond.selects (px_y N).cls (px_y N) (px_y N)) = [35, 36, 37, 38, 39, 40, 41, 42, 982, 43, 990, 994, 44, 1002, 1006, 45, 46, 47, 1022, 1026, 1030, 1034, 48, 1042, 1046].filterMap (fun i => lw_tbl[i]?) := by rfl
def px_DS_5 : List Nat := [133, 134, 135, 136, 137, 138, 139, 140, 141, 142, 143, 144, 145, 147, 148, 149, 150]
set_option maxRecDepth 100000 in
theorem px_DS_r5 : px_DS_5.map (fun N => Cond.selects (px_y N).cls (px_y N) (px_y N)) = [49, 50, 51, 1062, 1066, 52, 53, 54, 55, 56, 1090, 1094, 57, 58, 59, 60, 61].filterMap (fun i => lw_tbl[i]?) := by rfl
def px_DS : List Nat := px_DS_0 ++ (px_DS_1 ++ (px_DS_2 ++ (px_DS_3 ++ (px_DS_4 ++ (px_DS_5)))))
theorem px_DS_in {x : Nat} (h : x ∈ px_DS) : (fun N => Cond.selects (px_y N).cls (px_y N) (px_y N)) x ∈ lw_tbl := by
  unfold px_DS at h
  simp only [List.mem_append] at h
  rcases h with h | h | h | h | h | h
  · exact px_pos px_DS_r0 h
  · exact px_pos px_DS_r1 h
  · exact px_pos px_DS_r2 h
  · exact px_pos px_DS_r3 h
  · exact px_pos px_DS_r4 h
  · exact px_pos px_DS_r5 h
def px_DT_0 : List Nat := [146, 151, 152, 153, 154, 155, 156, 157, 158, 159, 160, 161, 162, 163, 164, 165, 166, 167, 168, 169, 170, 171, 172]
set_option maxRecDepth 100000 in
theorem px_DT_r0 : px_DT_0.map (fun N => Cond.static (px_y N)) = [1101, 254, 425, 438, 664, 719, 472, 475, 593, 601, 621, 632, 643, 657, 669, 677, 697, 708, 735, 778, 792, 102, 765].filterMap (fun i => lw_tbl[i]?) := by rfl
def px_DT : List Nat := px_DT_0
theorem px_DT_in {x : Nat} (h : x ∈ px_DT) : (fun N => Cond.static (px_y N)) x ∈ lw_tbl := by
  unfold px_DT at h
  exact px_pos px_DT_r0 h
def px_DO_0 : List Nat := [0, 1, 2, 3, 4, 5, 6, 7, 8, 9, 10, 11]
set_option maxRecDepth 100000 in
theorem px_DO_r0 : px_DO_0.map (fun q => Cond.initialized (px_cn q)) = [65, 67, 68, 69, 70, 71, 63, 73, 72, 62, 66, 80].filterMap (fun i => lw_tbl[i]?) := by rfl
def px_DO : List Nat := px_DO_0
theorem px_DO_in {x : Nat} (h : x ∈ px_DO) : (fun q => Cond.initialized (px_cn q)) x ∈ lw_tbl := by
  unfold px_DO at h
  exact px_pos px_DO_r0 h
def px_DN_0 : List Nat := [0, 1, 2, 3, 4, 5, 6, 7]
set_option maxRecDepth 100000 in
theorem px_DN_r0 : px_DN_0.map (fun q => Cond.instantiable (px_cn q) (px_sz q)) = [96, 119, 165, 187, 209, 232, 82, 811].filterMap (fun i => lw_tbl[i]?) := by rfl
def px_DN : List Nat := px_DN_0
theorem px_DN_in {x : Nat} (h : x ∈ px_DN) : (fun q => Cond.instantiable (px_cn q) (px_sz q)) x ∈ lw_tbl := by
  unfold px_DN at h
  exact px_pos px_DN_r0 h
set_option maxRecDepth 100000 in
theorem px_w1 : Cond.instanceMethod Lib.objectInit ∈ px_T := px_T_of (List.mem_of_getElem? (i := 87) (by rfl)) (by rfl)
set_option maxRecDepth 100000 in
theorem px_w2 : Cond.code Lib.objectInit ⟨#[0xb1]⟩ 1 none ∈ px_T := px_T_of (List.mem_of_getElem? (i := 88) (by rfl)) (by rfl)
set_option maxRecDepth 100000 in
theorem px_w3 : Cond.static Lib.Math.max.name ∈ px_T := px_T_of (List.mem_of_getElem? (i := 93) (by rfl)) (by rfl)
set_option maxRecDepth 100000 in
theorem px_w4 : Cond.static Lib.Math.min.name ∈ px_T := px_T_of (List.mem_of_getElem? (i := 90) (by rfl)) (by rfl)
set_option maxRecDepth 100000 in
theorem px_w5 : Cond.initialized "java/lang/Math" ∈ px_T := px_T_of (List.mem_of_getElem? (i := 64) (by rfl)) (by rfl)
set_option maxRecDepth 100000 in
theorem px_w6 : Cond.code Lib.Math.max.name Lib.Math.max.code 2 (some .int) ∈ px_T := px_T_of (List.mem_of_getElem? (i := 94) (by rfl)) (by rfl)
set_option maxRecDepth 100000 in
theorem px_w7 : Cond.code Lib.Math.min.name Lib.Math.min.code 2 (some .int) ∈ px_T := px_T_of (List.mem_of_getElem? (i := 91) (by rfl)) (by rfl)
set_option maxRecDepth 100000 in
theorem px_w8 : Cond.native arraycopyName ∈ px_T := px_T_of (List.mem_of_getElem? (i := 394) (by rfl)) (by rfl)
set_option maxRecDepth 100000 in
theorem px_w9 : Cond.static arraycopyName ∈ px_T := px_T_of (List.mem_of_getElem? (i := 393) (by rfl)) (by rfl)
set_option maxRecDepth 100000 in
theorem px_w10 : Cond.initialized "java/lang/System" ∈ px_T := px_T_of (List.mem_of_getElem? (i := 79) (by rfl)) (by rfl)
set_option maxRecDepth 100000 in
theorem px_w11 : Cond.arrayClass .int ∈ px_T := px_T_of (List.mem_of_getElem? (i := 117) (by rfl)) (by rfl)
set_option maxRecDepth 100000 in
theorem px_w12 : Cond.arrayClass .boolean ∈ px_T := px_T_of (List.mem_of_getElem? (i := 907) (by rfl)) (by rfl)
set_option maxRecDepth 100000 in
theorem px_w13 : Cond.arrayClass .long ∈ px_T := px_T_of (List.mem_of_getElem? (i := 1119) (by rfl)) (by rfl)
set_option maxRecDepth 100000 in
theorem px_w14 : Cond.classLink "StageRowsLaw" 13 px_exc ∈ px_T := px_T_of (List.mem_of_getElem? (i := 477) (by rfl)) (by rfl)
