/-! The words of the claim that the small machine's tables stand on, by their places. -/
def so_cnL : List String := [RX0, RX1, RX2, RX3, RX4, RX5, RX6, RX7, RX8, RX9, RX10, RL, RJ6, RJ9, RJ0, RJ10]
def so_cn (o : Nat) : String := so_cnL.getD o RL
def so_big : List Cond := lw_tbl.filter goodWord
def so_is (p : Nat) (w : Cond) : Bool := decide (lw_tbl[p]? = some w) && goodWord w
def so_nwk : Cond → Bool
  | .fieldLinkNest .. => true
  | .methodLinkNest .. => true
  | .castable .. => true
  | .declares .. => true
  | _ => false
def so_nw : List Cond := lw_tbl.filter so_nwk
def so_isN (p : Nat) (w : Cond) : Bool := decide (lw_tbl[p]? = some w) && so_nwk w
theorem so_isN_mem {p : Nat} {w : Cond} (h : so_isN p w = true) : w ∈ so_nw := by
  unfold so_isN at h
  rw [Bool.and_eq_true, decide_eq_true_eq] at h
  exact List.mem_filter.mpr ⟨List.mem_of_getElem? h.1, h.2⟩
theorem so_is_mem {p : Nat} {w : Cond} (h : so_is p w = true) : w ∈ so_big := by
  unfold so_is at h
  rw [Bool.and_eq_true, decide_eq_true_eq] at h
  exact List.mem_filter.mpr ⟨List.mem_of_getElem? h.1, h.2⟩
theorem mj_lk_mem {α : Type} : ∀ {l : List (Nat × α)} {n : Nat} {v : α}, mj_lk l n = some v → (n, v) ∈ l
  | [], _, _, h => by simp [mj_lk] at h
  | p :: r, n, v, h => by
    unfold mj_lk at h
    split at h
    · rename_i e
      cases h
      subst e
      exact List.mem_cons_self
    · exact List.mem_cons_of_mem _ (mj_lk_mem h)
def so_fP : List (Nat × Nat) := [
  (110, 0), (111, 1), (112, 0), (113, 1), (114, 1), (134, 0), (135, 0), (136, 0), (137, 1), (138, 1), (139, 0), (140, 1), (141, 0), (142, 1),
  (143, 0), (144, 1), (145, 0), (146, 1), (147, 0), (148, 1), (149, 0), (150, 1), (151, 1), (152, 0), (153, 1), (154, 1), (155, 0), (156, 1),
  (157, 0), (158, 1), (159, 0), (160, 1), (161, 0), (162, 1), (163, 0), (195, 0), (196, 0), (197, 1), (209, 0), (210, 0), (211, 0), (212, 0),
  (213, 0), (214, 0), (215, 0), (238, 0), (239, 0), (240, 0), (241, 0), (242, 0), (243, 0), (244, 0), (245, 0), (246, 0), (247, 0), (275, 0),
  (276, 0), (277, 0), (278, 1), (279, 0), (280, 0), (281, 0), (282, 0), (283, 0), (284, 0), (317, 0), (318, 0), (319, 0), (320, 0), (321, 0),
  (322, 0), (323, 0), (324, 0), (325, 1), (326, 1), (327, 1), (346, 0), (350, 0), (351, 0), (352, 0), (353, 0), (354, 0), (355, 0), (356, 0),
  (357, 0), (358, 0), (359, 0), (965, 0), (966, 0), (967, 0), (968, 0), (969, 0), (970, 0), (971, 0), (972, 0), (973, 0), (974, 0), (975, 0),
  (976, 0), (977, 0), (978, 0), (979, 0), (980, 0), (981, 0), (982, 0), (983, 0), (984, 0), (985, 0), (986, 0), (987, 0), (988, 0), (989, 0),
  (990, 0), (991, 0), (992, 0), (993, 0), (994, 0), (995, 0), (996, 0), (997, 0), (998, 0), (999, 0), (1000, 0), (1001, 0), (1002, 0), (1003, 0),
  (1004, 0), (1005, 0), (1006, 0), (1162, 0), (1163, 2)
  ]
def so_host (h : Nat) : String := if h = 1 then RX8 else RX10
def so_fc (e : Nat × Nat × Nat) (p : Nat × Nat) : Bool := match vwCl[e.2.1]? with
  | some q => decide (e.2.2 < q.2.2) && (if p.2 = 0 then so_is p.1 (.fieldLink (so_cn (e.1 / 1000)) (e.1 % 1000) (q.2.1 e.2.2).1 (q.2.1 e.2.2).2.1 (q.2.1 e.2.2).2.2.1) else so_isN p.1 (.fieldLinkNest (so_cn (e.1 / 1000)) (e.1 % 1000) (q.2.1 e.2.2).1 (q.2.1 e.2.2).2.1 (q.2.1 e.2.2).2.2.1 (so_host p.2)))
  | none => false
theorem so_zip {α β : Type} {f : α → β → Bool} {l : List α} {ps : List β} (hl : l.length = ps.length) (h : (List.zipWith f l ps).all id = true) {x : α} (hx : x ∈ l) : ∃ y, f x y = true := by
  obtain ⟨i, hi, rfl⟩ := List.getElem_of_mem hx
  refine ⟨ps[i]'(by omega), ?_⟩
  have h1 := List.all_eq_true.mp h (f (l[i]) (ps[i]'(by omega))) (by
    rw [List.mem_iff_getElem]
    refine ⟨i, by simp; omega, by simp⟩)
  exact h1
set_option maxRecDepth 100000 in
theorem so_f_all : (List.zipWith so_fc mj_fL so_fP).all id = true := by decide +kernel
theorem so_fld {o i ci k : Nat} (h : mj_fld o i = some (ci, k)) : ∃ q : vw_C, vwCl[ci]? = some q ∧ k < q.2.2 ∧ (Cond.fieldLink (so_cn o) i (q.2.1 k).1 (q.2.1 k).2.1 (q.2.1 k).2.2.1 ∈ so_big ∨ ∃ host, Cond.fieldLinkNest (so_cn o) i (q.2.1 k).1 (q.2.1 k).2.1 (q.2.1 k).2.2.1 host ∈ so_nw) := by
  unfold mj_fld at h
  split at h
  · rename_i hi
    obtain ⟨p, hp⟩ := so_zip (by decide +kernel) so_f_all (mj_lk_mem h)
    unfold so_fc at hp
    have e1 : (o * 1000 + i) / 1000 = o := by omega
    have e2 : (o * 1000 + i) % 1000 = i := by omega
    simp only [e1, e2] at hp
    cases hq : vwCl[ci]? with
    | none => rw [hq] at hp; cases hp
    | some q =>
      rw [hq] at hp
      simp only [Bool.and_eq_true, decide_eq_true_eq] at hp
      refine ⟨q, rfl, hp.1, ?_⟩
      have h2 := hp.2
      split at h2
      · exact Or.inl (so_is_mem h2)
      · exact Or.inr ⟨_, so_isN_mem h2⟩
  · cases h
theorem so_f9_all : mj_fL.all (fun e => decide (¬ e.2.1 = 9) || decide (e.2.2 = 6)) = true := by decide +kernel
theorem so_fld9 {o i k : Nat} (h : mj_fld o i = some (9, k)) : k = 6 := by
  unfold mj_fld at h
  split at h
  · have h1 := List.all_eq_true.mp so_f9_all _ (mj_lk_mem h)
    simpa using h1
  · cases h
theorem so_fin_ok {ci k : Nat} {q : vw_C} (h : vwCl[ci]? = some q) (hk : k < q.2.2) : (q.2.1 k).2.2.2 = mj_fin ci k ∧ (mj_fin ci k = true → (q.2.1 k).1 = so_cn ci) ∧ q.1 = so_cn ci := by
  have hlt : ci < 11 := (List.getElem?_eq_some_iff.mp h).1
  revert k
  rcases (show ci = 0 ∨ ci = 1 ∨ ci = 2 ∨ ci = 3 ∨ ci = 4 ∨ ci = 5 ∨ ci = 6 ∨ ci = 7 ∨ ci = 8 ∨ ci = 9 ∨ ci = 10 by omega) with rfl | rfl | rfl | rfl | rfl | rfl | rfl | rfl | rfl | rfl | rfl <;> (cases h; decide +kernel)
def so_tyL : List (Nat → FieldType) := [tyX0, tyX1, tyX2, tyX3, tyX4, tyX5, tyX6, tyX7, tyX8, tyX9, tyX10]
def so_uP : List (List Nat) := [[285, 287, 289, 291, 293, 295, 297, 299, 301], [328, 330, 332, 334, 336, 338, 340, 342], [347], [248, 250, 252, 254, 256, 258, 260, 262, 264, 266], [216, 218, 220, 222, 224, 226, 228], [164, 166, 168, 170, 172, 174, 176, 178, 180, 182, 184, 186, 188, 190, 192], [198, 200], [115, 117], [360, 362, 364, 366, 368, 370, 372, 374, 376, 378], [1147, 1148, 1149, 1150, 1151, 1166, 1164], [1007, 1009, 1011, 1013, 1015, 1017, 1019, 1021, 1023, 1025, 1027, 1029, 1031, 1033, 1035, 1037, 1039, 1041, 1043, 1045, 1047, 1049, 1051, 1053, 1055, 1057, 1059, 1061, 1063, 1065, 1067, 1069, 1071, 1073, 1075, 1077, 1079, 1081, 1083, 1085, 1087, 1089]]
theorem so_uw (ci : Nat) (q : vw_C) (h : vwCl[ci]? = some q) : ∀ w ∈ u_ws q.1 q.2.1 q.2.2, w ∈ so_big := by
  have hall : (List.zipWith (fun (q : vw_C) (ps : List Nat) => (List.zipWith (fun w p => so_is p w) (u_ws q.1 q.2.1 q.2.2) ps).all id && decide ((u_ws q.1 q.2.1 q.2.2).length = ps.length)) vwCl so_uP).all id = true := by decide +kernel
  intro w hw
  obtain ⟨ps, hps⟩ := so_zip (by decide +kernel) hall (List.mem_of_getElem? h)
  rw [Bool.and_eq_true, decide_eq_true_eq] at hps
  obtain ⟨p, hp⟩ := so_zip hps.2 hps.1 hw
  exact so_is_mem hp
theorem so_ty_ok (ci : Nat) (q : vw_C) (h : vwCl[ci]? = some q) : (∀ k, k < q.2.2 → parseFieldDescriptor (q.2.1 k).2.2.1 = some ((so_tyL.getD ci (fun _ => .int)) k)) ∧ (∀ a, a < q.2.2 → ∀ b, b < q.2.2 → a ≠ b → (q.2.1 a).2.1 ≠ (q.2.1 b).2.1) ∧ q.2.2 = mj_nf ci ∧ (∀ k, k < q.2.2 → mj_ft ci k = (match (so_tyL.getD ci (fun _ => .int)) k with
    | .int => 0
    | .boolean => 1
    | _ => 2)) ∧ (∀ k, k < q.2.2 → (match (so_tyL.getD ci (fun _ => .int)) k with
    | .int => true
    | .boolean => true
    | .object _ => true
    | .array _ => true
    | _ => false) = true) := by
  have hlt : ci < 11 := (List.getElem?_eq_some_iff.mp h).1
  rcases (show ci = 0 ∨ ci = 1 ∨ ci = 2 ∨ ci = 3 ∨ ci = 4 ∨ ci = 5 ∨ ci = 6 ∨ ci = 7 ∨ ci = 8 ∨ ci = 9 ∨ ci = 10 by omega) with rfl | rfl | rfl | rfl | rfl | rfl | rfl | rfl | rfl | rfl | rfl <;> (cases h; decide +kernel)
def so_mP : List (Nat × Nat × Nat × Nat) := [
  (273, 272, 0, 82), (900, 898, 899, 82), (396, 394, 395, 82), (458, 456, 457, 82), (392, 390, 391, 82), (905, 904, 33, 82), (917, 916, 34, 82), (925, 924, 36, 82),
  (921, 920, 35, 82), (929, 928, 37, 82), (933, 932, 38, 82), (939, 938, 39, 82), (315, 314, 0, 84), (795, 793, 794, 84), (803, 801, 802, 84), (807, 805, 806, 84),
  (445, 443, 444, 84), (449, 447, 448, 84), (441, 439, 440, 84), (858, 856, 857, 84), (888, 886, 887, 84), (870, 868, 869, 84), (874, 873, 32, 84), (308, 307, 0, 83),
  (431, 429, 430, 83), (812, 810, 811, 83), (236, 235, 0, 81), (734, 732, 733, 81), (738, 737, 20, 81), (742, 741, 21, 81), (755, 754, 22, 81), (764, 763, 23, 81),
  (768, 767, 24, 81), (775, 774, 25, 81), (779, 778, 26, 81), (783, 782, 27, 81), (787, 786, 28, 81), (791, 790, 29, 81), (799, 798, 30, 81), (207, 206, 0, 80),
  (585, 583, 584, 80), (674, 673, 19, 80), (593, 592, 4, 80), (597, 596, 5, 80), (601, 600, 6, 80), (605, 604, 7, 80), (613, 612, 9, 80), (631, 630, 12, 80),
  (635, 634, 13, 80), (639, 638, 14, 80), (621, 620, 11, 80), (617, 616, 10, 80), (609, 608, 8, 80), (627, 626, 0, 80), (642, 641, 0, 80), (624, 623, 0, 80),
  (646, 645, 15, 80), (666, 665, 18, 80), (658, 657, 16, 80), (662, 661, 17, 80), (132, 131, 0, 79), (581, 579, 580, 79), (650, 648, 649, 79), (670, 668, 669, 79),
  (678, 676, 677, 79), (654, 652, 653, 79), (751, 749, 750, 79), (687, 685, 686, 79), (683, 681, 682, 79), (760, 758, 759, 79), (421, 419, 420, 79), (125, 124, 0, 78),
  (849, 847, 848, 78), (417, 415, 416, 78), (746, 744, 745, 78), (576, 574, 575, 78), (691, 689, 690, 78), (108, 107, 0, 77), (539, 537, 538, 77), (589, 587, 588, 77),
  (909, 907, 908, 77), (100, 99, 0, 76), (466, 464, 465, 76), (547, 545, 546, 76), (570, 568, 569, 76), (384, 382, 383, 76), (699, 697, 698, 76), (722, 720, 721, 76),
  (730, 728, 729, 76), (820, 818, 819, 76), (828, 826, 827, 76), (837, 835, 836, 76), (845, 843, 844, 76), (865, 863, 864, 76), (883, 881, 882, 76), (895, 893, 894, 76),
  (947, 945, 946, 76), (955, 953, 954, 76), (388, 386, 387, 76), (400, 398, 399, 76), (408, 407, 0, 76), (413, 412, 1, 76), (437, 436, 0, 76), (453, 452, 2, 76),
  (434, 433, 0, 76), (405, 404, 0, 76), (854, 853, 31, 76), (1154, 1153, 0, 91), (961, 960, 0, 85), (1095, 1093, 1094, 85), (1103, 1102, 40, 85), (1114, 1113, 0, 85),
  (1099, 1097, 1098, 85), (1107, 1106, 41, 85), (1111, 1109, 1110, 85), (1143, 1142, 47, 85), (1170, 1169, 0, 85), (1127, 1126, 43, 85), (1190, 1189, 52, 85), (1131, 1130, 44, 85),
  (1186, 1185, 51, 85), (1135, 1134, 45, 85), (1182, 1181, 50, 85), (1139, 1138, 46, 85), (1178, 1177, 49, 85), (1174, 1173, 48, 85), (1123, 1122, 42, 85), (1118, 1116, 1117, 85),
  (1202, 1201, 55, 85), (1198, 1197, 54, 85), (1194, 1193, 53, 85), (1206, 1204, 1205, 85), (1214, 1213, 56, 85), (1210, 1208, 1209, 85), (1223, 1222, 57, 85), (1219, 1217, 1218, 85),
  (1243, 1242, 61, 85), (1239, 1238, 60, 85), (1235, 1234, 59, 85), (1247, 1246, 62, 85), (1231, 1230, 58, 85), (1254, 1253, 63, 85), (1262, 1261, 65, 85), (1258, 1257, 64, 85),
  (1266, 1265, 66, 85), (1227, 1225, 1226, 85), (1274, 1273, 0, 85), (1282, 1281, 67, 85), (1271, 1269, 1270, 85), (1278, 1276, 1277, 85), (1286, 1284, 1285, 85), (1294, 1293, 68, 85),
  (1298, 1297, 69, 85), (1290, 1288, 1289, 85), (1302, 1300, 1301, 85), (1306, 1304, 1305, 85), (1317, 1316, 70, 85), (1329, 1328, 73, 85), (1325, 1324, 72, 85), (1333, 1332, 74, 85),
  (1321, 1320, 71, 85), (1313, 1311, 1312, 85), (1337, 1335, 1336, 85), (1341, 1339, 1340, 85), (1345, 1343, 1344, 85), (1349, 1347, 1348, 85), (424, 423, 0, 93), (461, 460, 0, 75),
  (542, 541, 0, 75), (566, 565, 0, 75), (694, 693, 0, 75), (718, 717, 0, 75), (726, 725, 0, 75), (816, 815, 0, 75), (824, 823, 0, 75), (833, 832, 0, 75),
  (841, 840, 0, 75), (861, 860, 0, 75), (879, 878, 0, 75), (891, 890, 0, 75), (943, 942, 0, 75), (951, 950, 0, 75)
  ]
def so_hd (M : Nat) : Cond := if mj_h M = [] then .code (mj_y M) (mj_c M) (mj_l M) (mj_r M) else .codeWith (mj_y M) (mj_c M) (mj_l M) (mj_r M) (mj_h M)
set_option maxRecDepth 100000 in
theorem so_ha0 : so_hd 0 ∈ lw_tbl := List.mem_of_getElem? (i := 273) (by decide +kernel)
set_option maxRecDepth 100000 in
theorem so_ha1 : so_hd 1 ∈ lw_tbl := List.mem_of_getElem? (i := 900) (by decide +kernel)
set_option maxRecDepth 100000 in
theorem so_ha2 : so_hd 2 ∈ lw_tbl := List.mem_of_getElem? (i := 396) (by decide +kernel)
set_option maxRecDepth 100000 in
theorem so_ha3 : so_hd 3 ∈ lw_tbl := List.mem_of_getElem? (i := 458) (by decide +kernel)
set_option maxRecDepth 100000 in
theorem so_ha4 : so_hd 4 ∈ lw_tbl := List.mem_of_getElem? (i := 392) (by decide +kernel)
set_option maxRecDepth 100000 in
theorem so_ha5 : so_hd 5 ∈ lw_tbl := List.mem_of_getElem? (i := 905) (by decide +kernel)
set_option maxRecDepth 100000 in
theorem so_ha6 : so_hd 6 ∈ lw_tbl := List.mem_of_getElem? (i := 917) (by decide +kernel)
set_option maxRecDepth 100000 in
theorem so_ha7 : so_hd 7 ∈ lw_tbl := List.mem_of_getElem? (i := 925) (by decide +kernel)
set_option maxRecDepth 100000 in
theorem so_ha8 : so_hd 8 ∈ lw_tbl := List.mem_of_getElem? (i := 921) (by decide +kernel)
set_option maxRecDepth 100000 in
theorem so_ha9 : so_hd 9 ∈ lw_tbl := List.mem_of_getElem? (i := 929) (by decide +kernel)
set_option maxRecDepth 100000 in
theorem so_ha10 : so_hd 10 ∈ lw_tbl := List.mem_of_getElem? (i := 933) (by decide +kernel)
set_option maxRecDepth 100000 in
theorem so_ha11 : so_hd 11 ∈ lw_tbl := List.mem_of_getElem? (i := 939) (by decide +kernel)
set_option maxRecDepth 100000 in
theorem so_ha12 : so_hd 12 ∈ lw_tbl := List.mem_of_getElem? (i := 315) (by decide +kernel)
set_option maxRecDepth 100000 in
theorem so_ha13 : so_hd 13 ∈ lw_tbl := List.mem_of_getElem? (i := 795) (by decide +kernel)
set_option maxRecDepth 100000 in
theorem so_ha14 : so_hd 14 ∈ lw_tbl := List.mem_of_getElem? (i := 803) (by decide +kernel)
set_option maxRecDepth 100000 in
theorem so_ha15 : so_hd 15 ∈ lw_tbl := List.mem_of_getElem? (i := 807) (by decide +kernel)
set_option maxRecDepth 100000 in
theorem so_ha16 : so_hd 16 ∈ lw_tbl := List.mem_of_getElem? (i := 445) (by decide +kernel)
set_option maxRecDepth 100000 in
theorem so_ha17 : so_hd 17 ∈ lw_tbl := List.mem_of_getElem? (i := 449) (by decide +kernel)
set_option maxRecDepth 100000 in
theorem so_ha18 : so_hd 18 ∈ lw_tbl := List.mem_of_getElem? (i := 441) (by decide +kernel)
set_option maxRecDepth 100000 in
theorem so_ha19 : so_hd 19 ∈ lw_tbl := List.mem_of_getElem? (i := 858) (by decide +kernel)
set_option maxRecDepth 100000 in
theorem so_ha20 : so_hd 20 ∈ lw_tbl := List.mem_of_getElem? (i := 888) (by decide +kernel)
set_option maxRecDepth 100000 in
theorem so_ha21 : so_hd 21 ∈ lw_tbl := List.mem_of_getElem? (i := 870) (by decide +kernel)
set_option maxRecDepth 100000 in
theorem so_ha22 : so_hd 22 ∈ lw_tbl := List.mem_of_getElem? (i := 874) (by decide +kernel)
set_option maxRecDepth 100000 in
theorem so_ha23 : so_hd 23 ∈ lw_tbl := List.mem_of_getElem? (i := 308) (by decide +kernel)
set_option maxRecDepth 100000 in
theorem so_ha24 : so_hd 24 ∈ lw_tbl := List.mem_of_getElem? (i := 431) (by decide +kernel)
set_option maxRecDepth 100000 in
theorem so_ha25 : so_hd 25 ∈ lw_tbl := List.mem_of_getElem? (i := 812) (by decide +kernel)
set_option maxRecDepth 100000 in
theorem so_ha26 : so_hd 26 ∈ lw_tbl := List.mem_of_getElem? (i := 236) (by decide +kernel)
set_option maxRecDepth 100000 in
theorem so_ha27 : so_hd 27 ∈ lw_tbl := List.mem_of_getElem? (i := 734) (by decide +kernel)
set_option maxRecDepth 100000 in
theorem so_ha28 : so_hd 28 ∈ lw_tbl := List.mem_of_getElem? (i := 738) (by decide +kernel)
set_option maxRecDepth 100000 in
theorem so_ha29 : so_hd 29 ∈ lw_tbl := List.mem_of_getElem? (i := 742) (by decide +kernel)
set_option maxRecDepth 100000 in
theorem so_ha30 : so_hd 30 ∈ lw_tbl := List.mem_of_getElem? (i := 755) (by decide +kernel)
set_option maxRecDepth 100000 in
theorem so_ha31 : so_hd 31 ∈ lw_tbl := List.mem_of_getElem? (i := 764) (by decide +kernel)
set_option maxRecDepth 100000 in
theorem so_ha32 : so_hd 32 ∈ lw_tbl := List.mem_of_getElem? (i := 768) (by decide +kernel)
set_option maxRecDepth 100000 in
theorem so_ha33 : so_hd 33 ∈ lw_tbl := List.mem_of_getElem? (i := 775) (by decide +kernel)
set_option maxRecDepth 100000 in
theorem so_ha34 : so_hd 34 ∈ lw_tbl := List.mem_of_getElem? (i := 779) (by decide +kernel)
set_option maxRecDepth 100000 in
theorem so_ha35 : so_hd 35 ∈ lw_tbl := List.mem_of_getElem? (i := 783) (by decide +kernel)
set_option maxRecDepth 100000 in
theorem so_ha36 : so_hd 36 ∈ lw_tbl := List.mem_of_getElem? (i := 787) (by decide +kernel)
set_option maxRecDepth 100000 in
theorem so_ha37 : so_hd 37 ∈ lw_tbl := List.mem_of_getElem? (i := 791) (by decide +kernel)
set_option maxRecDepth 100000 in
theorem so_ha38 : so_hd 38 ∈ lw_tbl := List.mem_of_getElem? (i := 799) (by decide +kernel)
set_option maxRecDepth 100000 in
theorem so_ha39 : so_hd 39 ∈ lw_tbl := List.mem_of_getElem? (i := 207) (by decide +kernel)
set_option maxRecDepth 100000 in
theorem so_ha40 : so_hd 40 ∈ lw_tbl := List.mem_of_getElem? (i := 585) (by decide +kernel)
set_option maxRecDepth 100000 in
theorem so_ha41 : so_hd 41 ∈ lw_tbl := List.mem_of_getElem? (i := 674) (by decide +kernel)
set_option maxRecDepth 100000 in
theorem so_ha42 : so_hd 42 ∈ lw_tbl := List.mem_of_getElem? (i := 593) (by decide +kernel)
set_option maxRecDepth 100000 in
theorem so_ha43 : so_hd 43 ∈ lw_tbl := List.mem_of_getElem? (i := 597) (by decide +kernel)
set_option maxRecDepth 100000 in
theorem so_ha44 : so_hd 44 ∈ lw_tbl := List.mem_of_getElem? (i := 601) (by decide +kernel)
set_option maxRecDepth 100000 in
theorem so_ha45 : so_hd 45 ∈ lw_tbl := List.mem_of_getElem? (i := 605) (by decide +kernel)
set_option maxRecDepth 100000 in
theorem so_ha46 : so_hd 46 ∈ lw_tbl := List.mem_of_getElem? (i := 613) (by decide +kernel)
set_option maxRecDepth 100000 in
theorem so_ha47 : so_hd 47 ∈ lw_tbl := List.mem_of_getElem? (i := 631) (by decide +kernel)
set_option maxRecDepth 100000 in
theorem so_ha48 : so_hd 48 ∈ lw_tbl := List.mem_of_getElem? (i := 635) (by decide +kernel)
set_option maxRecDepth 100000 in
theorem so_ha49 : so_hd 49 ∈ lw_tbl := List.mem_of_getElem? (i := 639) (by decide +kernel)
set_option maxRecDepth 100000 in
theorem so_ha50 : so_hd 50 ∈ lw_tbl := List.mem_of_getElem? (i := 621) (by decide +kernel)
set_option maxRecDepth 100000 in
theorem so_ha51 : so_hd 51 ∈ lw_tbl := List.mem_of_getElem? (i := 617) (by decide +kernel)
set_option maxRecDepth 100000 in
theorem so_ha52 : so_hd 52 ∈ lw_tbl := List.mem_of_getElem? (i := 609) (by decide +kernel)
set_option maxRecDepth 100000 in
theorem so_ha53 : so_hd 53 ∈ lw_tbl := List.mem_of_getElem? (i := 627) (by decide +kernel)
set_option maxRecDepth 100000 in
theorem so_ha54 : so_hd 54 ∈ lw_tbl := List.mem_of_getElem? (i := 642) (by decide +kernel)
set_option maxRecDepth 100000 in
theorem so_ha55 : so_hd 55 ∈ lw_tbl := List.mem_of_getElem? (i := 624) (by decide +kernel)
set_option maxRecDepth 100000 in
theorem so_ha56 : so_hd 56 ∈ lw_tbl := List.mem_of_getElem? (i := 646) (by decide +kernel)
set_option maxRecDepth 100000 in
theorem so_ha57 : so_hd 57 ∈ lw_tbl := List.mem_of_getElem? (i := 666) (by decide +kernel)
set_option maxRecDepth 100000 in
theorem so_ha58 : so_hd 58 ∈ lw_tbl := List.mem_of_getElem? (i := 658) (by decide +kernel)
set_option maxRecDepth 100000 in
theorem so_ha59 : so_hd 59 ∈ lw_tbl := List.mem_of_getElem? (i := 662) (by decide +kernel)
set_option maxRecDepth 100000 in
theorem so_ha60 : so_hd 60 ∈ lw_tbl := List.mem_of_getElem? (i := 132) (by decide +kernel)
set_option maxRecDepth 100000 in
theorem so_ha61 : so_hd 61 ∈ lw_tbl := List.mem_of_getElem? (i := 581) (by decide +kernel)
set_option maxRecDepth 100000 in
theorem so_ha62 : so_hd 62 ∈ lw_tbl := List.mem_of_getElem? (i := 650) (by decide +kernel)
set_option maxRecDepth 100000 in
theorem so_ha63 : so_hd 63 ∈ lw_tbl := List.mem_of_getElem? (i := 670) (by decide +kernel)
set_option maxRecDepth 100000 in
theorem so_ha64 : so_hd 64 ∈ lw_tbl := List.mem_of_getElem? (i := 678) (by decide +kernel)
set_option maxRecDepth 100000 in
theorem so_ha65 : so_hd 65 ∈ lw_tbl := List.mem_of_getElem? (i := 654) (by decide +kernel)
set_option maxRecDepth 100000 in
theorem so_ha66 : so_hd 66 ∈ lw_tbl := List.mem_of_getElem? (i := 751) (by decide +kernel)
set_option maxRecDepth 100000 in
theorem so_ha67 : so_hd 67 ∈ lw_tbl := List.mem_of_getElem? (i := 687) (by decide +kernel)
set_option maxRecDepth 100000 in
theorem so_ha68 : so_hd 68 ∈ lw_tbl := List.mem_of_getElem? (i := 683) (by decide +kernel)
set_option maxRecDepth 100000 in
theorem so_ha69 : so_hd 69 ∈ lw_tbl := List.mem_of_getElem? (i := 760) (by decide +kernel)
set_option maxRecDepth 100000 in
theorem so_ha70 : so_hd 70 ∈ lw_tbl := List.mem_of_getElem? (i := 421) (by decide +kernel)
set_option maxRecDepth 100000 in
theorem so_ha71 : so_hd 71 ∈ lw_tbl := List.mem_of_getElem? (i := 125) (by decide +kernel)
set_option maxRecDepth 100000 in
theorem so_ha72 : so_hd 72 ∈ lw_tbl := List.mem_of_getElem? (i := 849) (by decide +kernel)
set_option maxRecDepth 100000 in
theorem so_ha73 : so_hd 73 ∈ lw_tbl := List.mem_of_getElem? (i := 417) (by decide +kernel)
set_option maxRecDepth 100000 in
theorem so_ha74 : so_hd 74 ∈ lw_tbl := List.mem_of_getElem? (i := 746) (by decide +kernel)
set_option maxRecDepth 100000 in
theorem so_ha75 : so_hd 75 ∈ lw_tbl := List.mem_of_getElem? (i := 576) (by decide +kernel)
set_option maxRecDepth 100000 in
theorem so_ha76 : so_hd 76 ∈ lw_tbl := List.mem_of_getElem? (i := 691) (by decide +kernel)
set_option maxRecDepth 100000 in
theorem so_ha77 : so_hd 77 ∈ lw_tbl := List.mem_of_getElem? (i := 108) (by decide +kernel)
set_option maxRecDepth 100000 in
theorem so_ha78 : so_hd 78 ∈ lw_tbl := List.mem_of_getElem? (i := 539) (by decide +kernel)
set_option maxRecDepth 100000 in
theorem so_ha79 : so_hd 79 ∈ lw_tbl := List.mem_of_getElem? (i := 589) (by decide +kernel)
set_option maxRecDepth 100000 in
theorem so_ha80 : so_hd 80 ∈ lw_tbl := List.mem_of_getElem? (i := 909) (by decide +kernel)
set_option maxRecDepth 100000 in
theorem so_ha81 : so_hd 81 ∈ lw_tbl := List.mem_of_getElem? (i := 100) (by decide +kernel)
set_option maxRecDepth 100000 in
theorem so_ha82 : so_hd 82 ∈ lw_tbl := List.mem_of_getElem? (i := 466) (by decide +kernel)
set_option maxRecDepth 100000 in
theorem so_ha83 : so_hd 83 ∈ lw_tbl := List.mem_of_getElem? (i := 547) (by decide +kernel)
set_option maxRecDepth 100000 in
theorem so_ha84 : so_hd 84 ∈ lw_tbl := List.mem_of_getElem? (i := 570) (by decide +kernel)
set_option maxRecDepth 100000 in
theorem so_ha85 : so_hd 85 ∈ lw_tbl := List.mem_of_getElem? (i := 384) (by decide +kernel)
set_option maxRecDepth 100000 in
theorem so_ha86 : so_hd 86 ∈ lw_tbl := List.mem_of_getElem? (i := 699) (by decide +kernel)
set_option maxRecDepth 100000 in
theorem so_ha87 : so_hd 87 ∈ lw_tbl := List.mem_of_getElem? (i := 722) (by decide +kernel)
set_option maxRecDepth 100000 in
theorem so_ha88 : so_hd 88 ∈ lw_tbl := List.mem_of_getElem? (i := 730) (by decide +kernel)
set_option maxRecDepth 100000 in
theorem so_ha89 : so_hd 89 ∈ lw_tbl := List.mem_of_getElem? (i := 820) (by decide +kernel)
set_option maxRecDepth 100000 in
theorem so_ha90 : so_hd 90 ∈ lw_tbl := List.mem_of_getElem? (i := 828) (by decide +kernel)
set_option maxRecDepth 100000 in
theorem so_ha91 : so_hd 91 ∈ lw_tbl := List.mem_of_getElem? (i := 837) (by decide +kernel)
set_option maxRecDepth 100000 in
theorem so_ha92 : so_hd 92 ∈ lw_tbl := List.mem_of_getElem? (i := 845) (by decide +kernel)
set_option maxRecDepth 100000 in
theorem so_ha93 : so_hd 93 ∈ lw_tbl := List.mem_of_getElem? (i := 865) (by decide +kernel)
set_option maxRecDepth 100000 in
theorem so_ha94 : so_hd 94 ∈ lw_tbl := List.mem_of_getElem? (i := 883) (by decide +kernel)
set_option maxRecDepth 100000 in
theorem so_ha95 : so_hd 95 ∈ lw_tbl := List.mem_of_getElem? (i := 895) (by decide +kernel)
set_option maxRecDepth 100000 in
theorem so_ha96 : so_hd 96 ∈ lw_tbl := List.mem_of_getElem? (i := 947) (by decide +kernel)
set_option maxRecDepth 100000 in
theorem so_ha97 : so_hd 97 ∈ lw_tbl := List.mem_of_getElem? (i := 955) (by decide +kernel)
set_option maxRecDepth 100000 in
theorem so_ha98 : so_hd 98 ∈ lw_tbl := List.mem_of_getElem? (i := 388) (by decide +kernel)
set_option maxRecDepth 100000 in
theorem so_ha99 : so_hd 99 ∈ lw_tbl := List.mem_of_getElem? (i := 400) (by decide +kernel)
set_option maxRecDepth 100000 in
theorem so_ha100 : so_hd 100 ∈ lw_tbl := List.mem_of_getElem? (i := 408) (by decide +kernel)
set_option maxRecDepth 100000 in
theorem so_ha101 : so_hd 101 ∈ lw_tbl := List.mem_of_getElem? (i := 413) (by decide +kernel)
set_option maxRecDepth 100000 in
theorem so_ha102 : so_hd 102 ∈ lw_tbl := List.mem_of_getElem? (i := 437) (by decide +kernel)
set_option maxRecDepth 100000 in
theorem so_ha103 : so_hd 103 ∈ lw_tbl := List.mem_of_getElem? (i := 453) (by decide +kernel)
set_option maxRecDepth 100000 in
theorem so_ha104 : so_hd 104 ∈ lw_tbl := List.mem_of_getElem? (i := 434) (by decide +kernel)
set_option maxRecDepth 100000 in
theorem so_ha105 : so_hd 105 ∈ lw_tbl := List.mem_of_getElem? (i := 405) (by decide +kernel)
set_option maxRecDepth 100000 in
theorem so_ha106 : so_hd 106 ∈ lw_tbl := List.mem_of_getElem? (i := 854) (by decide +kernel)
set_option maxRecDepth 100000 in
theorem so_ha107 : so_hd 107 ∈ lw_tbl := List.mem_of_getElem? (i := 1154) (by decide +kernel)
set_option maxRecDepth 100000 in
theorem so_ha108 : so_hd 108 ∈ lw_tbl := List.mem_of_getElem? (i := 961) (by decide +kernel)
set_option maxRecDepth 100000 in
theorem so_ha109 : so_hd 109 ∈ lw_tbl := List.mem_of_getElem? (i := 1095) (by decide +kernel)
set_option maxRecDepth 100000 in
theorem so_ha110 : so_hd 110 ∈ lw_tbl := List.mem_of_getElem? (i := 1103) (by decide +kernel)
set_option maxRecDepth 100000 in
theorem so_ha111 : so_hd 111 ∈ lw_tbl := List.mem_of_getElem? (i := 1114) (by decide +kernel)
set_option maxRecDepth 100000 in
theorem so_ha112 : so_hd 112 ∈ lw_tbl := List.mem_of_getElem? (i := 1099) (by decide +kernel)
set_option maxRecDepth 100000 in
theorem so_ha113 : so_hd 113 ∈ lw_tbl := List.mem_of_getElem? (i := 1107) (by decide +kernel)
set_option maxRecDepth 100000 in
theorem so_ha114 : so_hd 114 ∈ lw_tbl := List.mem_of_getElem? (i := 1111) (by decide +kernel)
set_option maxRecDepth 100000 in
theorem so_ha115 : so_hd 115 ∈ lw_tbl := List.mem_of_getElem? (i := 1143) (by decide +kernel)
set_option maxRecDepth 100000 in
theorem so_ha116 : so_hd 116 ∈ lw_tbl := List.mem_of_getElem? (i := 1170) (by decide +kernel)
set_option maxRecDepth 100000 in
theorem so_ha117 : so_hd 117 ∈ lw_tbl := List.mem_of_getElem? (i := 1127) (by decide +kernel)
set_option maxRecDepth 100000 in
theorem so_ha118 : so_hd 118 ∈ lw_tbl := List.mem_of_getElem? (i := 1190) (by decide +kernel)
set_option maxRecDepth 100000 in
theorem so_ha119 : so_hd 119 ∈ lw_tbl := List.mem_of_getElem? (i := 1131) (by decide +kernel)
set_option maxRecDepth 100000 in
theorem so_ha120 : so_hd 120 ∈ lw_tbl := List.mem_of_getElem? (i := 1186) (by decide +kernel)
set_option maxRecDepth 100000 in
theorem so_ha121 : so_hd 121 ∈ lw_tbl := List.mem_of_getElem? (i := 1135) (by decide +kernel)
set_option maxRecDepth 100000 in
theorem so_ha122 : so_hd 122 ∈ lw_tbl := List.mem_of_getElem? (i := 1182) (by decide +kernel)
set_option maxRecDepth 100000 in
theorem so_ha123 : so_hd 123 ∈ lw_tbl := List.mem_of_getElem? (i := 1139) (by decide +kernel)
set_option maxRecDepth 100000 in
theorem so_ha124 : so_hd 124 ∈ lw_tbl := List.mem_of_getElem? (i := 1178) (by decide +kernel)
set_option maxRecDepth 100000 in
theorem so_ha125 : so_hd 125 ∈ lw_tbl := List.mem_of_getElem? (i := 1174) (by decide +kernel)
set_option maxRecDepth 100000 in
theorem so_ha126 : so_hd 126 ∈ lw_tbl := List.mem_of_getElem? (i := 1123) (by decide +kernel)
set_option maxRecDepth 100000 in
theorem so_ha127 : so_hd 127 ∈ lw_tbl := List.mem_of_getElem? (i := 1118) (by decide +kernel)
set_option maxRecDepth 100000 in
theorem so_ha128 : so_hd 128 ∈ lw_tbl := List.mem_of_getElem? (i := 1202) (by decide +kernel)
set_option maxRecDepth 100000 in
theorem so_ha129 : so_hd 129 ∈ lw_tbl := List.mem_of_getElem? (i := 1198) (by decide +kernel)
set_option maxRecDepth 100000 in
theorem so_ha130 : so_hd 130 ∈ lw_tbl := List.mem_of_getElem? (i := 1194) (by decide +kernel)
set_option maxRecDepth 100000 in
theorem so_ha131 : so_hd 131 ∈ lw_tbl := List.mem_of_getElem? (i := 1206) (by decide +kernel)
set_option maxRecDepth 100000 in
theorem so_ha132 : so_hd 132 ∈ lw_tbl := List.mem_of_getElem? (i := 1214) (by decide +kernel)
set_option maxRecDepth 100000 in
theorem so_ha133 : so_hd 133 ∈ lw_tbl := List.mem_of_getElem? (i := 1210) (by decide +kernel)
set_option maxRecDepth 100000 in
theorem so_ha134 : so_hd 134 ∈ lw_tbl := List.mem_of_getElem? (i := 1223) (by decide +kernel)
set_option maxRecDepth 100000 in
theorem so_ha135 : so_hd 135 ∈ lw_tbl := List.mem_of_getElem? (i := 1219) (by decide +kernel)
set_option maxRecDepth 100000 in
theorem so_ha136 : so_hd 136 ∈ lw_tbl := List.mem_of_getElem? (i := 1243) (by decide +kernel)
set_option maxRecDepth 100000 in
theorem so_ha137 : so_hd 137 ∈ lw_tbl := List.mem_of_getElem? (i := 1239) (by decide +kernel)
set_option maxRecDepth 100000 in
theorem so_ha138 : so_hd 138 ∈ lw_tbl := List.mem_of_getElem? (i := 1235) (by decide +kernel)
set_option maxRecDepth 100000 in
theorem so_ha139 : so_hd 139 ∈ lw_tbl := List.mem_of_getElem? (i := 1247) (by decide +kernel)
set_option maxRecDepth 100000 in
theorem so_ha140 : so_hd 140 ∈ lw_tbl := List.mem_of_getElem? (i := 1231) (by decide +kernel)
set_option maxRecDepth 100000 in
theorem so_ha141 : so_hd 141 ∈ lw_tbl := List.mem_of_getElem? (i := 1254) (by decide +kernel)
set_option maxRecDepth 100000 in
theorem so_ha142 : so_hd 142 ∈ lw_tbl := List.mem_of_getElem? (i := 1262) (by decide +kernel)
set_option maxRecDepth 100000 in
theorem so_ha143 : so_hd 143 ∈ lw_tbl := List.mem_of_getElem? (i := 1258) (by decide +kernel)
set_option maxRecDepth 100000 in
theorem so_ha144 : so_hd 144 ∈ lw_tbl := List.mem_of_getElem? (i := 1266) (by decide +kernel)
set_option maxRecDepth 100000 in
theorem so_ha145 : so_hd 145 ∈ lw_tbl := List.mem_of_getElem? (i := 1227) (by decide +kernel)
set_option maxRecDepth 100000 in
theorem so_ha146 : so_hd 146 ∈ lw_tbl := List.mem_of_getElem? (i := 1274) (by decide +kernel)
set_option maxRecDepth 100000 in
theorem so_ha147 : so_hd 147 ∈ lw_tbl := List.mem_of_getElem? (i := 1282) (by decide +kernel)
set_option maxRecDepth 100000 in
theorem so_ha148 : so_hd 148 ∈ lw_tbl := List.mem_of_getElem? (i := 1271) (by decide +kernel)
set_option maxRecDepth 100000 in
theorem so_ha149 : so_hd 149 ∈ lw_tbl := List.mem_of_getElem? (i := 1278) (by decide +kernel)
set_option maxRecDepth 100000 in
theorem so_ha150 : so_hd 150 ∈ lw_tbl := List.mem_of_getElem? (i := 1286) (by decide +kernel)
set_option maxRecDepth 100000 in
theorem so_ha151 : so_hd 151 ∈ lw_tbl := List.mem_of_getElem? (i := 1294) (by decide +kernel)
set_option maxRecDepth 100000 in
theorem so_ha152 : so_hd 152 ∈ lw_tbl := List.mem_of_getElem? (i := 1298) (by decide +kernel)
set_option maxRecDepth 100000 in
theorem so_ha153 : so_hd 153 ∈ lw_tbl := List.mem_of_getElem? (i := 1290) (by decide +kernel)
set_option maxRecDepth 100000 in
theorem so_ha154 : so_hd 154 ∈ lw_tbl := List.mem_of_getElem? (i := 1302) (by decide +kernel)
set_option maxRecDepth 100000 in
theorem so_ha155 : so_hd 155 ∈ lw_tbl := List.mem_of_getElem? (i := 1306) (by decide +kernel)
set_option maxRecDepth 100000 in
theorem so_ha156 : so_hd 156 ∈ lw_tbl := List.mem_of_getElem? (i := 1317) (by decide +kernel)
set_option maxRecDepth 100000 in
theorem so_ha157 : so_hd 157 ∈ lw_tbl := List.mem_of_getElem? (i := 1329) (by decide +kernel)
set_option maxRecDepth 100000 in
theorem so_ha158 : so_hd 158 ∈ lw_tbl := List.mem_of_getElem? (i := 1325) (by decide +kernel)
set_option maxRecDepth 100000 in
theorem so_ha159 : so_hd 159 ∈ lw_tbl := List.mem_of_getElem? (i := 1333) (by decide +kernel)
set_option maxRecDepth 100000 in
theorem so_ha160 : so_hd 160 ∈ lw_tbl := List.mem_of_getElem? (i := 1321) (by decide +kernel)
set_option maxRecDepth 100000 in
theorem so_ha161 : so_hd 161 ∈ lw_tbl := List.mem_of_getElem? (i := 1313) (by decide +kernel)
set_option maxRecDepth 100000 in
theorem so_ha162 : so_hd 162 ∈ lw_tbl := List.mem_of_getElem? (i := 1337) (by decide +kernel)
set_option maxRecDepth 100000 in
theorem so_ha163 : so_hd 163 ∈ lw_tbl := List.mem_of_getElem? (i := 1341) (by decide +kernel)
set_option maxRecDepth 100000 in
theorem so_ha164 : so_hd 164 ∈ lw_tbl := List.mem_of_getElem? (i := 1345) (by decide +kernel)
set_option maxRecDepth 100000 in
theorem so_ha165 : so_hd 165 ∈ lw_tbl := List.mem_of_getElem? (i := 1349) (by decide +kernel)
set_option maxRecDepth 100000 in
theorem so_ha166 : so_hd 166 ∈ lw_tbl := List.mem_of_getElem? (i := 424) (by decide +kernel)
set_option maxRecDepth 100000 in
theorem so_ha167 : so_hd 167 ∈ lw_tbl := List.mem_of_getElem? (i := 461) (by decide +kernel)
set_option maxRecDepth 100000 in
theorem so_ha168 : so_hd 168 ∈ lw_tbl := List.mem_of_getElem? (i := 542) (by decide +kernel)
set_option maxRecDepth 100000 in
theorem so_ha169 : so_hd 169 ∈ lw_tbl := List.mem_of_getElem? (i := 566) (by decide +kernel)
set_option maxRecDepth 100000 in
theorem so_ha170 : so_hd 170 ∈ lw_tbl := List.mem_of_getElem? (i := 694) (by decide +kernel)
set_option maxRecDepth 100000 in
theorem so_ha171 : so_hd 171 ∈ lw_tbl := List.mem_of_getElem? (i := 718) (by decide +kernel)
set_option maxRecDepth 100000 in
theorem so_ha172 : so_hd 172 ∈ lw_tbl := List.mem_of_getElem? (i := 726) (by decide +kernel)
set_option maxRecDepth 100000 in
theorem so_ha173 : so_hd 173 ∈ lw_tbl := List.mem_of_getElem? (i := 816) (by decide +kernel)
set_option maxRecDepth 100000 in
theorem so_ha174 : so_hd 174 ∈ lw_tbl := List.mem_of_getElem? (i := 824) (by decide +kernel)
set_option maxRecDepth 100000 in
theorem so_ha175 : so_hd 175 ∈ lw_tbl := List.mem_of_getElem? (i := 833) (by decide +kernel)
set_option maxRecDepth 100000 in
theorem so_ha176 : so_hd 176 ∈ lw_tbl := List.mem_of_getElem? (i := 841) (by decide +kernel)
set_option maxRecDepth 100000 in
theorem so_ha177 : so_hd 177 ∈ lw_tbl := List.mem_of_getElem? (i := 861) (by decide +kernel)
set_option maxRecDepth 100000 in
theorem so_ha178 : so_hd 178 ∈ lw_tbl := List.mem_of_getElem? (i := 879) (by decide +kernel)
set_option maxRecDepth 100000 in
theorem so_ha179 : so_hd 179 ∈ lw_tbl := List.mem_of_getElem? (i := 891) (by decide +kernel)
set_option maxRecDepth 100000 in
theorem so_ha180 : so_hd 180 ∈ lw_tbl := List.mem_of_getElem? (i := 943) (by decide +kernel)
set_option maxRecDepth 100000 in
theorem so_ha181 : so_hd 181 ∈ lw_tbl := List.mem_of_getElem? (i := 951) (by decide +kernel)
theorem so_hg0 : ∀ k ∈ [0, 1, 2, 3, 4, 5, 6, 7, 8, 9, 10, 11, 12, 13, 14, 15], so_hd k ∈ lw_tbl := List.forall_mem_cons.mpr ⟨so_ha0, List.forall_mem_cons.mpr ⟨so_ha1, List.forall_mem_cons.mpr ⟨so_ha2, List.forall_mem_cons.mpr ⟨so_ha3, List.forall_mem_cons.mpr ⟨so_ha4, List.forall_mem_cons.mpr ⟨so_ha5, List.forall_mem_cons.mpr ⟨so_ha6, List.forall_mem_cons.mpr ⟨so_ha7, List.forall_mem_cons.mpr ⟨so_ha8, List.forall_mem_cons.mpr ⟨so_ha9, List.forall_mem_cons.mpr ⟨so_ha10, List.forall_mem_cons.mpr ⟨so_ha11, List.forall_mem_cons.mpr ⟨so_ha12, List.forall_mem_cons.mpr ⟨so_ha13, List.forall_mem_cons.mpr ⟨so_ha14, List.forall_mem_cons.mpr ⟨so_ha15, fun _ h => absurd h List.not_mem_nil⟩⟩⟩⟩⟩⟩⟩⟩⟩⟩⟩⟩⟩⟩⟩⟩
theorem so_hg1 : ∀ k ∈ [16, 17, 18, 19, 20, 21, 22, 23, 24, 25, 26, 27, 28, 29, 30, 31], so_hd k ∈ lw_tbl := List.forall_mem_cons.mpr ⟨so_ha16, List.forall_mem_cons.mpr ⟨so_ha17, List.forall_mem_cons.mpr ⟨so_ha18, List.forall_mem_cons.mpr ⟨so_ha19, List.forall_mem_cons.mpr ⟨so_ha20, List.forall_mem_cons.mpr ⟨so_ha21, List.forall_mem_cons.mpr ⟨so_ha22, List.forall_mem_cons.mpr ⟨so_ha23, List.forall_mem_cons.mpr ⟨so_ha24, List.forall_mem_cons.mpr ⟨so_ha25, List.forall_mem_cons.mpr ⟨so_ha26, List.forall_mem_cons.mpr ⟨so_ha27, List.forall_mem_cons.mpr ⟨so_ha28, List.forall_mem_cons.mpr ⟨so_ha29, List.forall_mem_cons.mpr ⟨so_ha30, List.forall_mem_cons.mpr ⟨so_ha31, fun _ h => absurd h List.not_mem_nil⟩⟩⟩⟩⟩⟩⟩⟩⟩⟩⟩⟩⟩⟩⟩⟩
theorem so_hg2 : ∀ k ∈ [32, 33, 34, 35, 36, 37, 38, 39, 40, 41, 42, 43, 44, 45, 46, 47], so_hd k ∈ lw_tbl := List.forall_mem_cons.mpr ⟨so_ha32, List.forall_mem_cons.mpr ⟨so_ha33, List.forall_mem_cons.mpr ⟨so_ha34, List.forall_mem_cons.mpr ⟨so_ha35, List.forall_mem_cons.mpr ⟨so_ha36, List.forall_mem_cons.mpr ⟨so_ha37, List.forall_mem_cons.mpr ⟨so_ha38, List.forall_mem_cons.mpr ⟨so_ha39, List.forall_mem_cons.mpr ⟨so_ha40, List.forall_mem_cons.mpr ⟨so_ha41, List.forall_mem_cons.mpr ⟨so_ha42, List.forall_mem_cons.mpr ⟨so_ha43, List.forall_mem_cons.mpr ⟨so_ha44, List.forall_mem_cons.mpr ⟨so_ha45, List.forall_mem_cons.mpr ⟨so_ha46, List.forall_mem_cons.mpr ⟨so_ha47, fun _ h => absurd h List.not_mem_nil⟩⟩⟩⟩⟩⟩⟩⟩⟩⟩⟩⟩⟩⟩⟩⟩
theorem so_hg3 : ∀ k ∈ [48, 49, 50, 51, 52, 53, 54, 55, 56, 57, 58, 59, 60, 61, 62, 63], so_hd k ∈ lw_tbl := List.forall_mem_cons.mpr ⟨so_ha48, List.forall_mem_cons.mpr ⟨so_ha49, List.forall_mem_cons.mpr ⟨so_ha50, List.forall_mem_cons.mpr ⟨so_ha51, List.forall_mem_cons.mpr ⟨so_ha52, List.forall_mem_cons.mpr ⟨so_ha53, List.forall_mem_cons.mpr ⟨so_ha54, List.forall_mem_cons.mpr ⟨so_ha55, List.forall_mem_cons.mpr ⟨so_ha56, List.forall_mem_cons.mpr ⟨so_ha57, List.forall_mem_cons.mpr ⟨so_ha58, List.forall_mem_cons.mpr ⟨so_ha59, List.forall_mem_cons.mpr ⟨so_ha60, List.forall_mem_cons.mpr ⟨so_ha61, List.forall_mem_cons.mpr ⟨so_ha62, List.forall_mem_cons.mpr ⟨so_ha63, fun _ h => absurd h List.not_mem_nil⟩⟩⟩⟩⟩⟩⟩⟩⟩⟩⟩⟩⟩⟩⟩⟩
theorem so_hg4 : ∀ k ∈ [64, 65, 66, 67, 68, 69, 70, 71, 72, 73, 74, 75, 76, 77, 78, 79], so_hd k ∈ lw_tbl := List.forall_mem_cons.mpr ⟨so_ha64, List.forall_mem_cons.mpr ⟨so_ha65, List.forall_mem_cons.mpr ⟨so_ha66, List.forall_mem_cons.mpr ⟨so_ha67, List.forall_mem_cons.mpr ⟨so_ha68, List.forall_mem_cons.mpr ⟨so_ha69, List.forall_mem_cons.mpr ⟨so_ha70, List.forall_mem_cons.mpr ⟨so_ha71, List.forall_mem_cons.mpr ⟨so_ha72, List.forall_mem_cons.mpr ⟨so_ha73, List.forall_mem_cons.mpr ⟨so_ha74, List.forall_mem_cons.mpr ⟨so_ha75, List.forall_mem_cons.mpr ⟨so_ha76, List.forall_mem_cons.mpr ⟨so_ha77, List.forall_mem_cons.mpr ⟨so_ha78, List.forall_mem_cons.mpr ⟨so_ha79, fun _ h => absurd h List.not_mem_nil⟩⟩⟩⟩⟩⟩⟩⟩⟩⟩⟩⟩⟩⟩⟩⟩
theorem so_hg5 : ∀ k ∈ [80, 81, 82, 83, 84, 85, 86, 87, 88, 89, 90, 91, 92, 93, 94, 95], so_hd k ∈ lw_tbl := List.forall_mem_cons.mpr ⟨so_ha80, List.forall_mem_cons.mpr ⟨so_ha81, List.forall_mem_cons.mpr ⟨so_ha82, List.forall_mem_cons.mpr ⟨so_ha83, List.forall_mem_cons.mpr ⟨so_ha84, List.forall_mem_cons.mpr ⟨so_ha85, List.forall_mem_cons.mpr ⟨so_ha86, List.forall_mem_cons.mpr ⟨so_ha87, List.forall_mem_cons.mpr ⟨so_ha88, List.forall_mem_cons.mpr ⟨so_ha89, List.forall_mem_cons.mpr ⟨so_ha90, List.forall_mem_cons.mpr ⟨so_ha91, List.forall_mem_cons.mpr ⟨so_ha92, List.forall_mem_cons.mpr ⟨so_ha93, List.forall_mem_cons.mpr ⟨so_ha94, List.forall_mem_cons.mpr ⟨so_ha95, fun _ h => absurd h List.not_mem_nil⟩⟩⟩⟩⟩⟩⟩⟩⟩⟩⟩⟩⟩⟩⟩⟩
theorem so_hg6 : ∀ k ∈ [96, 97, 98, 99, 100, 101, 102, 103, 104, 105, 106, 107, 108, 109, 110, 111], so_hd k ∈ lw_tbl := List.forall_mem_cons.mpr ⟨so_ha96, List.forall_mem_cons.mpr ⟨so_ha97, List.forall_mem_cons.mpr ⟨so_ha98, List.forall_mem_cons.mpr ⟨so_ha99, List.forall_mem_cons.mpr ⟨so_ha100, List.forall_mem_cons.mpr ⟨so_ha101, List.forall_mem_cons.mpr ⟨so_ha102, List.forall_mem_cons.mpr ⟨so_ha103, List.forall_mem_cons.mpr ⟨so_ha104, List.forall_mem_cons.mpr ⟨so_ha105, List.forall_mem_cons.mpr ⟨so_ha106, List.forall_mem_cons.mpr ⟨so_ha107, List.forall_mem_cons.mpr ⟨so_ha108, List.forall_mem_cons.mpr ⟨so_ha109, List.forall_mem_cons.mpr ⟨so_ha110, List.forall_mem_cons.mpr ⟨so_ha111, fun _ h => absurd h List.not_mem_nil⟩⟩⟩⟩⟩⟩⟩⟩⟩⟩⟩⟩⟩⟩⟩⟩
theorem so_hg7 : ∀ k ∈ [112, 113, 114, 115, 116, 117, 118, 119, 120, 121, 122, 123, 124, 125, 126, 127], so_hd k ∈ lw_tbl := List.forall_mem_cons.mpr ⟨so_ha112, List.forall_mem_cons.mpr ⟨so_ha113, List.forall_mem_cons.mpr ⟨so_ha114, List.forall_mem_cons.mpr ⟨so_ha115, List.forall_mem_cons.mpr ⟨so_ha116, List.forall_mem_cons.mpr ⟨so_ha117, List.forall_mem_cons.mpr ⟨so_ha118, List.forall_mem_cons.mpr ⟨so_ha119, List.forall_mem_cons.mpr ⟨so_ha120, List.forall_mem_cons.mpr ⟨so_ha121, List.forall_mem_cons.mpr ⟨so_ha122, List.forall_mem_cons.mpr ⟨so_ha123, List.forall_mem_cons.mpr ⟨so_ha124, List.forall_mem_cons.mpr ⟨so_ha125, List.forall_mem_cons.mpr ⟨so_ha126, List.forall_mem_cons.mpr ⟨so_ha127, fun _ h => absurd h List.not_mem_nil⟩⟩⟩⟩⟩⟩⟩⟩⟩⟩⟩⟩⟩⟩⟩⟩
theorem so_hg8 : ∀ k ∈ [128, 129, 130, 131, 132, 133, 134, 135, 136, 137, 138, 139, 140, 141, 142, 143], so_hd k ∈ lw_tbl := List.forall_mem_cons.mpr ⟨so_ha128, List.forall_mem_cons.mpr ⟨so_ha129, List.forall_mem_cons.mpr ⟨so_ha130, List.forall_mem_cons.mpr ⟨so_ha131, List.forall_mem_cons.mpr ⟨so_ha132, List.forall_mem_cons.mpr ⟨so_ha133, List.forall_mem_cons.mpr ⟨so_ha134, List.forall_mem_cons.mpr ⟨so_ha135, List.forall_mem_cons.mpr ⟨so_ha136, List.forall_mem_cons.mpr ⟨so_ha137, List.forall_mem_cons.mpr ⟨so_ha138, List.forall_mem_cons.mpr ⟨so_ha139, List.forall_mem_cons.mpr ⟨so_ha140, List.forall_mem_cons.mpr ⟨so_ha141, List.forall_mem_cons.mpr ⟨so_ha142, List.forall_mem_cons.mpr ⟨so_ha143, fun _ h => absurd h List.not_mem_nil⟩⟩⟩⟩⟩⟩⟩⟩⟩⟩⟩⟩⟩⟩⟩⟩
theorem so_hg9 : ∀ k ∈ [144, 145, 146, 147, 148, 149, 150, 151, 152, 153, 154, 155, 156, 157, 158, 159], so_hd k ∈ lw_tbl := List.forall_mem_cons.mpr ⟨so_ha144, List.forall_mem_cons.mpr ⟨so_ha145, List.forall_mem_cons.mpr ⟨so_ha146, List.forall_mem_cons.mpr ⟨so_ha147, List.forall_mem_cons.mpr ⟨so_ha148, List.forall_mem_cons.mpr ⟨so_ha149, List.forall_mem_cons.mpr ⟨so_ha150, List.forall_mem_cons.mpr ⟨so_ha151, List.forall_mem_cons.mpr ⟨so_ha152, List.forall_mem_cons.mpr ⟨so_ha153, List.forall_mem_cons.mpr ⟨so_ha154, List.forall_mem_cons.mpr ⟨so_ha155, List.forall_mem_cons.mpr ⟨so_ha156, List.forall_mem_cons.mpr ⟨so_ha157, List.forall_mem_cons.mpr ⟨so_ha158, List.forall_mem_cons.mpr ⟨so_ha159, fun _ h => absurd h List.not_mem_nil⟩⟩⟩⟩⟩⟩⟩⟩⟩⟩⟩⟩⟩⟩⟩⟩
theorem so_hg10 : ∀ k ∈ [160, 161, 162, 163, 164, 165, 166, 167, 168, 169, 170, 171, 172, 173, 174, 175], so_hd k ∈ lw_tbl := List.forall_mem_cons.mpr ⟨so_ha160, List.forall_mem_cons.mpr ⟨so_ha161, List.forall_mem_cons.mpr ⟨so_ha162, List.forall_mem_cons.mpr ⟨so_ha163, List.forall_mem_cons.mpr ⟨so_ha164, List.forall_mem_cons.mpr ⟨so_ha165, List.forall_mem_cons.mpr ⟨so_ha166, List.forall_mem_cons.mpr ⟨so_ha167, List.forall_mem_cons.mpr ⟨so_ha168, List.forall_mem_cons.mpr ⟨so_ha169, List.forall_mem_cons.mpr ⟨so_ha170, List.forall_mem_cons.mpr ⟨so_ha171, List.forall_mem_cons.mpr ⟨so_ha172, List.forall_mem_cons.mpr ⟨so_ha173, List.forall_mem_cons.mpr ⟨so_ha174, List.forall_mem_cons.mpr ⟨so_ha175, fun _ h => absurd h List.not_mem_nil⟩⟩⟩⟩⟩⟩⟩⟩⟩⟩⟩⟩⟩⟩⟩⟩
theorem so_hg11 : ∀ k ∈ [176, 177, 178, 179, 180, 181], so_hd k ∈ lw_tbl := List.forall_mem_cons.mpr ⟨so_ha176, List.forall_mem_cons.mpr ⟨so_ha177, List.forall_mem_cons.mpr ⟨so_ha178, List.forall_mem_cons.mpr ⟨so_ha179, List.forall_mem_cons.mpr ⟨so_ha180, List.forall_mem_cons.mpr ⟨so_ha181, fun _ h => absurd h List.not_mem_nil⟩⟩⟩⟩⟩⟩
theorem so_hdm {M : Nat} (h : M < 182) : so_hd M ∈ lw_tbl := by
  by_cases h0 : M < 16
  · exact so_hg0 M (by simp only [List.mem_cons, List.not_mem_nil, or_false]; omega)
  by_cases h1 : M < 32
  · exact so_hg1 M (by simp only [List.mem_cons, List.not_mem_nil, or_false]; omega)
  by_cases h2 : M < 48
  · exact so_hg2 M (by simp only [List.mem_cons, List.not_mem_nil, or_false]; omega)
  by_cases h3 : M < 64
  · exact so_hg3 M (by simp only [List.mem_cons, List.not_mem_nil, or_false]; omega)
  by_cases h4 : M < 80
  · exact so_hg4 M (by simp only [List.mem_cons, List.not_mem_nil, or_false]; omega)
  by_cases h5 : M < 96
  · exact so_hg5 M (by simp only [List.mem_cons, List.not_mem_nil, or_false]; omega)
  by_cases h6 : M < 112
  · exact so_hg6 M (by simp only [List.mem_cons, List.not_mem_nil, or_false]; omega)
  by_cases h7 : M < 128
  · exact so_hg7 M (by simp only [List.mem_cons, List.not_mem_nil, or_false]; omega)
  by_cases h8 : M < 144
  · exact so_hg8 M (by simp only [List.mem_cons, List.not_mem_nil, or_false]; omega)
  by_cases h9 : M < 160
  · exact so_hg9 M (by simp only [List.mem_cons, List.not_mem_nil, or_false]; omega)
  by_cases h10 : M < 176
  · exact so_hg10 M (by simp only [List.mem_cons, List.not_mem_nil, or_false]; omega)
  exact so_hg11 M (by simp only [List.mem_cons, List.not_mem_nil, or_false]; omega)
def so_mc (M : Nat) (p : Nat × Nat × Nat × Nat) : Bool := goodWord (so_hd M) && so_is p.2.1 (if mj_s M = true then .static (mj_y M) else .instanceMethod (mj_y M)) && so_is p.2.2.2 (.initialized (mj_y M).cls) && (mj_s M || mj_isI M || so_is p.2.2.1 (.selects (mj_y M).cls (mj_y M) (mj_y M))) &&
  Jvm.plainName (mj_y M).cls && decide ((mj_y M).cls = so_cn (mj_o M)) && decide ((mj_y M).cls ≠ "java/lang/invoke/MethodHandle") && decide ((mj_y M).cls ≠ "java/lang/invoke/VarHandle") && decide ((parseMethodDescriptor (mj_y M).desc).map (fun d => d.parameters.length) = some (mj_a M)) && decide (mj_l M ≤ 20) && (mj_s M || decide (mj_o M < 11)) && (!mj_isI M || (decide (mj_h M = []) && decide (mj_r M = none) && !mj_s M))
set_option maxRecDepth 100000 in
theorem so_m_all : (List.zipWith so_mc (List.range 182) so_mP).all id = true := by decide +kernel
theorem so_m {M : Nat} (h : M < 182) : so_hd M ∈ so_big ∧ (mj_s M = true → Cond.static (mj_y M) ∈ so_big) ∧ (mj_s M = false → Cond.instanceMethod (mj_y M) ∈ so_big) ∧ Cond.initialized (mj_y M).cls ∈ so_big ∧ (mj_s M = false → mj_isI M = false → Cond.selects (mj_y M).cls (mj_y M) (mj_y M) ∈ so_big) ∧
    Jvm.plainName (mj_y M).cls = true ∧ (mj_y M).cls = so_cn (mj_o M) ∧ ((mj_y M).cls ≠ "java/lang/invoke/MethodHandle" ∧ (mj_y M).cls ≠ "java/lang/invoke/VarHandle") ∧ (parseMethodDescriptor (mj_y M).desc).map (fun d => d.parameters.length) = some (mj_a M) ∧ mj_l M ≤ 20 ∧ (mj_s M = false → mj_o M < 11) ∧ (mj_isI M = true → mj_h M = [] ∧ mj_r M = none ∧ mj_s M = false) := by
  obtain ⟨p, hp⟩ := so_zip (by decide +kernel) so_m_all (List.mem_range.mpr h)
  unfold so_mc at hp
  simp only [Bool.and_eq_true, Bool.or_eq_true, decide_eq_true_eq, Bool.not_eq_true'] at hp
  obtain ⟨⟨⟨⟨⟨⟨⟨⟨⟨⟨⟨h1, h2⟩, h3⟩, h4⟩, h5⟩, h6⟩, h7⟩, h8⟩, h9⟩, h10⟩, h11⟩, h12⟩ := hp
  refine ⟨List.mem_filter.mpr ⟨so_hdm h, h1⟩, fun e => ?_, fun e => ?_, so_is_mem h3, fun e1 e2 => ?_, h5, h6, ⟨h7, h8⟩, h9, h10, fun e => ?_, fun e => ?_⟩
  · rw [if_pos e] at h2; exact so_is_mem h2
  · rw [if_neg (by rw [e]; decide)] at h2; exact so_is_mem h2
  · rcases h4 with (h4 | h4) | h4
    · rw [e1] at h4; cases h4
    · rw [e2] at h4; cases h4
    · exact so_is_mem h4
  · rcases h11 with h | h
    · rw [e] at h; cases h
    · exact h
  · rcases h12 with h | ⟨⟨ha, hb⟩, hc⟩
    · rw [e] at h; cases h
    · exact ⟨ha, hb, hc⟩
def so_lP : List (Nat × Nat) := [
  (98, 0), (101, 0), (106, 1), (109, 0), (123, 0), (126, 0), (130, 1), (133, 0), (205, 1), (208, 0), (234, 1), (237, 0), (271, 1), (274, 0),
  (306, 0), (309, 0), (313, 1), (316, 0), (381, 0), (385, 0), (389, 0), (393, 0), (397, 0), (402, 0), (406, 0), (410, 0), (414, 0), (418, 0),
  (422, 0), (428, 0), (432, 1), (435, 0), (438, 0), (442, 0), (446, 0), (450, 0), (454, 0), (455, 0), (459, 0), (463, 0), (536, 0), (540, 0),
  (544, 0), (564, 0), (567, 0), (571, 0), (573, 0), (578, 0), (582, 0), (586, 0), (590, 0), (594, 0), (598, 0), (602, 0), (606, 0), (610, 0),
  (614, 0), (618, 0), (622, 0), (625, 0), (628, 0), (632, 0), (636, 0), (640, 0), (643, 0), (647, 0), (651, 0), (655, 0), (659, 0), (663, 0),
  (667, 0), (671, 0), (675, 0), (679, 0), (680, 0), (684, 0), (688, 0), (692, 0), (696, 0), (716, 0), (719, 0), (724, 0), (727, 0), (731, 0),
  (735, 0), (739, 0), (743, 0), (747, 0), (748, 0), (752, 0), (756, 0), (757, 0), (761, 0), (765, 0), (769, 0), (772, 0), (776, 0), (780, 0),
  (784, 0), (788, 0), (792, 0), (796, 0), (800, 0), (804, 0), (809, 0), (813, 0), (814, 0), (817, 0), (822, 0), (825, 0), (829, 0), (831, 0),
  (834, 0), (839, 0), (842, 0), (846, 0), (851, 0), (855, 0), (859, 0), (862, 0), (867, 0), (871, 0), (875, 0), (876, 0), (877, 0), (880, 0),
  (885, 0), (889, 0), (892, 0), (897, 0), (901, 0), (902, 0), (906, 0), (910, 0), (911, 0), (912, 0), (913, 0), (914, 0), (918, 0), (922, 0),
  (926, 0), (930, 0), (934, 0), (935, 0), (936, 0), (940, 0), (941, 0), (944, 0), (949, 0), (952, 0), (959, 0), (962, 0), (1092, 0), (1096, 0),
  (1100, 0), (1104, 0), (1108, 0), (1112, 0), (1115, 0), (1120, 0), (1124, 0), (1128, 0), (1132, 0), (1136, 0), (1140, 0), (1152, 2), (1155, 0), (1168, 0),
  (1171, 0), (1175, 0), (1179, 0), (1183, 0), (1187, 0), (1191, 0), (1195, 0), (1199, 0), (1203, 0), (1207, 0), (1211, 0), (1215, 0), (1216, 0), (1220, 0),
  (1224, 0), (1228, 0), (1232, 0), (1236, 0), (1240, 0), (1244, 0), (1248, 0), (1251, 0), (1255, 0), (1259, 0), (1263, 0), (1267, 0), (1268, 0), (1272, 0),
  (1275, 0), (1279, 0), (1283, 0), (1287, 0), (1291, 0), (1295, 0), (1299, 0), (1303, 0), (1307, 0), (1310, 0), (1314, 0), (1318, 0), (1322, 0), (1326, 0),
  (1330, 0), (1334, 0), (1338, 0), (1342, 0), (1346, 0)
  ]
def so_ri : MethodName := ⟨"java/lang/RuntimeException", "<init>", "()V"⟩
def so_lt (e : Nat × Nat × Nat) : MethodName := if e.2.1 = 0 then mj_y e.2.2 else if e.2.1 = 1 then objectInit else if e.2.1 = 2 then so_ri else if e.2.1 = 3 then arraycopyName else if e.2.1 = 4 then Lib.Math.max.name else Lib.Math.min.name
def so_lc (e : Nat × Nat × Nat) (p : Nat × Nat) : Bool := (if p.2 = 0 then so_is p.1 (.methodLink (so_cn (e.1 / 1000)) (e.1 % 1000) (so_lt e)) else so_isN p.1 (.methodLinkNest (so_cn (e.1 / 1000)) (e.1 % 1000) (so_lt e) (so_host p.2))) && (!decide (e.2.1 = 0) || (decide (e.2.2 < 182) && (decide (p.2 = 0) || decide (mj_h e.2.2 = []) && (mj_s e.2.2 || mj_isI e.2.2)) && (!mj_isI e.2.2 || decide (mj_h e.2.2 = [])))) && (decide (e.2.1 = 0) || decide (p.2 = 0)) && decide (e.2.1 < 6)
set_option maxRecDepth 100000 in
theorem so_l_all : (List.zipWith so_lc mj_mL so_lP).all id = true := by decide +kernel
theorem so_mth {o i kd M : Nat} (h : mj_mth o i = some (kd, M)) : (kd = 0 → M < 182 ∧ (Cond.methodLink (so_cn o) i (mj_y M) ∈ so_big ∨ (∃ host, Cond.methodLinkNest (so_cn o) i (mj_y M) host ∈ so_nw) ∧ mj_h M = [] ∧ (mj_s M = true ∨ mj_isI M = true))) ∧ (¬ kd = 0 → Cond.methodLink (so_cn o) i (so_lt (0, kd, M)) ∈ so_big) := by
  unfold mj_mth at h
  split at h
  · rename_i hi
    obtain ⟨p, hp⟩ := so_zip (by decide +kernel) so_l_all (mj_lk_mem h)
    unfold so_lc at hp
    have e1 : (o * 1000 + i) / 1000 = o := by omega
    have e2 : (o * 1000 + i) % 1000 = i := by omega
    simp only [e1, e2, Bool.and_eq_true, Bool.or_eq_true, decide_eq_true_eq, Bool.not_eq_true', decide_eq_false_iff_not] at hp
    obtain ⟨⟨⟨h1, h2⟩, h3⟩, h4⟩ := hp
    have h5 := h1
    constructor
    · intro e0
      subst e0
      rcases h2 with h2 | ⟨⟨h2, h6⟩, h7⟩
      · exact absurd rfl h2
      · refine ⟨h2, ?_⟩
        split at h5
        · exact Or.inl (so_is_mem h5)
        · rename_i hne
          rcases h6 with h6 | h6
          · exact absurd h6 hne
          · exact Or.inr ⟨⟨_, so_isN_mem h5⟩, h6.1, h6.2⟩
    · intro e0
      rcases h3 with h3 | h3
      · exact absurd h3 e0
      · rw [if_pos h3] at h5
        exact so_is_mem h5
  · cases h
def so_xP : List Nat := [120, 345, 231, 102, 103, 771, 770, 94, 1249, 1308, 95, 1250, 1309]
def so_xw : List Cond := [.arrayClass .int, .arrayClass .long, .arrayClass .boolean, .instanceMethod objectInit, .code objectInit ⟨#[0xb1]⟩ 1 none, .native arraycopyName, .static arraycopyName, .initialized "java/lang/System", .static Lib.Math.max.name, .static Lib.Math.min.name, .initialized "java/lang/Math", .code Lib.Math.max.name Lib.Math.max.code 2 (some .int), .code Lib.Math.min.name Lib.Math.min.code 2 (some .int)]
theorem so_x_all : (List.zipWith (fun w p => so_is p w) so_xw so_xP).all id = true := by decide +kernel
theorem so_x {w : Cond} (h : w ∈ so_xw) : w ∈ so_big := by
  obtain ⟨p, hp⟩ := so_zip (by decide +kernel) so_x_all h
  exact so_is_mem hp
def so_nP : List (Nat × Nat × Nat) := [
  (96, 97, 76), (104, 105, 77), (121, 122, 78), (127, 129, 79), (203, 204, 80), (232, 233, 81), (269, 270, 82), (304, 305, 83), (310, 312, 84), (957, 958, 85),
  (1119, 1144, 91)
  ]
def so_nc (e : Nat × Nat) (p : Nat × Nat × Nat) : Bool := match vwCl[e.2]? with
  | some q => so_is p.1 (.classLink (so_cn (e.1 / 1000)) (e.1 % 1000) q.1) && so_is p.2.1 (.instantiable q.1 q.2.2) && so_is p.2.2 (.initialized q.1)
  | none => false
theorem so_n_all : (List.zipWith so_nc mj_nL so_nP).all id = true := by decide +kernel
theorem so_cls {o i ci : Nat} (h : mj_cls o i = some ci) : ∃ q : vw_C, vwCl[ci]? = some q ∧ Cond.classLink (so_cn o) i q.1 ∈ so_big ∧ Cond.instantiable q.1 q.2.2 ∈ so_big ∧ Cond.initialized q.1 ∈ so_big := by
  unfold mj_cls at h
  split at h
  · rename_i hi
    obtain ⟨p, hp⟩ := so_zip (by decide +kernel) so_n_all (mj_lk_mem h)
    unfold so_nc at hp
    have e1 : (o * 1000 + i) / 1000 = o := by omega
    have e2 : (o * 1000 + i) % 1000 = i := by omega
    simp only [e1, e2] at hp
    cases hq : vwCl[ci]? with
    | none => rw [hq] at hp; cases hp
    | some q =>
      rw [hq] at hp
      simp only [Bool.and_eq_true] at hp
      exact ⟨q, rfl, so_is_mem hp.1.1, so_is_mem hp.1.2, so_is_mem hp.2⟩
  · cases h
def so_xn (E : Nat) : String := if E = 0 then "java/lang/IllegalStateException" else if E = 1 then "java/lang/IllegalArgumentException" else if E = 2 then "java/lang/IndexOutOfBoundsException" else RX9
def so_eP : List (Nat × Nat × Nat) := [
  (462, 89, 469), (467, 89, 469), (543, 90, 550), (548, 90, 550), (695, 92, 702), (700, 92, 702), (1119, 91, 1145)
  ]
def so_ec (e : Nat × Nat) (p : Nat × Nat × Nat) : Bool := so_is p.1 (.classLink (so_cn (e.1 / 1000)) (e.1 % 1000) (so_xn e.2)) && so_is p.2.1 (.initialized (so_xn e.2)) && so_isN p.2.2 (.castable (so_xn e.2) (so_xn e.2)) && decide (e.2 < 4) && decide (¬ e.1 % 1000 = 0)
theorem so_e_all : (List.zipWith so_ec mj_xL so_eP).all id = true := by decide +kernel
theorem so_exc {o i E : Nat} (h : mj_exc o i = some E) : E < 4 ∧ ¬ i = 0 ∧ Cond.classLink (so_cn o) i (so_xn E) ∈ so_big ∧ Cond.initialized (so_xn E) ∈ so_big ∧ Cond.castable (so_xn E) (so_xn E) ∈ so_nw := by
  unfold mj_exc at h
  split at h
  · rename_i hi
    obtain ⟨p, hp⟩ := so_zip (by decide +kernel) so_e_all (mj_lk_mem h)
    unfold so_ec at hp
    have e1 : (o * 1000 + i) / 1000 = o := by omega
    have e2 : (o * 1000 + i) % 1000 = i := by omega
    simp only [e1, e2, Bool.and_eq_true, decide_eq_true_eq] at hp
    exact ⟨hp.1.2, hp.2, so_is_mem hp.1.1.1.1, so_is_mem hp.1.1.1.2, so_isN_mem hp.1.1.2⟩
  · cases h
def so_kP : List Nat := [425, 426, 427]
def so_k2P : List Nat := [401, 409, 1350, 1351]
theorem so_ki_all : (List.zipWith (fun (e : Nat × Int32) p => so_is p (.constant (so_cn (e.1 / 1000)) (e.1 % 1000) e.2)) mj_kL so_kP).all id = true := by decide +kernel
theorem so_ki {o i : Nat} {v : Int32} (h : mj_ki o i = some v) : Cond.constant (so_cn o) i v ∈ so_big := by
  unfold mj_ki at h
  split at h
  · rename_i hi
    obtain ⟨p, hp⟩ := so_zip (by decide +kernel) so_ki_all (mj_lk_mem h)
    have e1 : (o * 1000 + i) / 1000 = o := by omega
    have e2 : (o * 1000 + i) % 1000 = i := by omega
    simp only [e1, e2] at hp
    exact so_is_mem hp
  · cases h
theorem so_k2_all : (List.zipWith (fun (e : Nat × Int64) p => so_is p (.constantLong (so_cn (e.1 / 1000)) (e.1 % 1000) e.2)) mj_k2L so_k2P).all id = true := by decide +kernel
theorem so_k2 {o i : Nat} {v : Int64} (h : mj_k2 o i = some v) : Cond.constantLong (so_cn o) i v ∈ so_big := by
  unfold mj_k2 at h
  split at h
  · rename_i hi
    obtain ⟨p, hp⟩ := so_zip (by decide +kernel) so_k2_all (mj_lk_mem h)
    have e1 : (o * 1000 + i) / 1000 = o := by omega
    have e2 : (o * 1000 + i) % 1000 = i := by omega
    simp only [e1, e2] at hp
    exact so_is_mem hp
  · cases h
