/-! The words of the claim that the small machine's tables stand on, by their places. -/
def so_cnL : List String := [RX0, RX1, RX2, RX3, RX4, RX5, RX6, RX7, RX8, RX9, RX10, RL, RJ6, RJ9, RJ0, RJ10]
def so_cn (o : Nat) : String := so_cnL.getD o RL
def so_big : List Cond := lw_tbl.filter goodWord
def so_is (p : Nat) (w : Cond) : Bool := decide (lw_tbl[p]? = some w) && goodWord w
def so_nwk : Cond → Bool
  | .fieldLinkNest .. => true
  | .methodLinkNest .. => true
  | .castable .. => true
  | .declares .. => true
  | _ => false
def so_nw : List Cond := lw_tbl.filter so_nwk
def so_isN (p : Nat) (w : Cond) : Bool := decide (lw_tbl[p]? = some w) && so_nwk w
theorem so_isN_mem {p : Nat} {w : Cond} (h : so_isN p w = true) : w ∈ so_nw := by
  unfold so_isN at h
  rw [Bool.and_eq_true, decide_eq_true_eq] at h
  exact List.mem_filter.mpr ⟨List.mem_of_getElem? h.1, h.2⟩
theorem so_is_mem {p : Nat} {w : Cond} (h : so_is p w = true) : w ∈ so_big := by
  unfold so_is at h
  rw [Bool.and_eq_true, decide_eq_true_eq] at h
  exact List.mem_filter.mpr ⟨List.mem_of_getElem? h.1, h.2⟩
theorem mj_lk_mem {α : Type} : ∀ {l : List (Nat × α)} {n : Nat} {v : α}, mj_lk l n = some v → (n, v) ∈ l
  | [], _, _, h => by simp [mj_lk] at h
  | p :: r, n, v, h => by
    unfold mj_lk at h
    split at h
    · rename_i e
      cases h
      subst e
      exact List.mem_cons_self
    · exact List.mem_cons_of_mem _ (mj_lk_mem h)
def so_fP : List (Nat × Nat) := [
  (110, 0), (111, 1), (112, 0), (113, 1), (114, 1), (134, 0), (135, 0), (136, 0), (137, 1), (138, 1), (139, 0), (140, 1), (141, 0), (142, 1),
  (143, 0), (144, 1), (145, 0), (146, 1), (147, 0), (148, 1), (149, 0), (150, 1), (151, 1), (152, 0), (153, 1), (154, 1), (155, 0), (156, 1),
  (157, 0), (158, 1), (159, 0), (160, 1), (161, 0), (162, 1), (163, 0), (195, 0), (196, 0), (197, 1), (209, 0), (210, 0), (211, 0), (212, 0),
  (213, 0), (214, 0), (215, 0), (238, 0), (239, 0), (240, 0), (241, 0), (242, 0), (243, 0), (244, 0), (245, 0), (246, 0), (247, 0), (275, 0),
  (276, 0), (277, 0), (278, 1), (279, 0), (280, 0), (281, 0), (282, 0), (283, 0), (284, 0), (317, 0), (318, 0), (319, 0), (320, 0), (321, 0),
  (322, 0), (323, 0), (324, 0), (325, 1), (326, 1), (327, 1), (346, 0), (350, 0), (351, 0), (352, 0), (353, 0), (354, 0), (355, 0), (356, 0),
  (357, 0), (358, 0), (359, 0), (965, 0), (966, 0), (967, 0), (968, 0), (969, 0), (970, 0), (971, 0), (972, 0), (973, 0), (974, 0), (975, 0),
  (976, 0), (977, 0), (978, 0), (979, 0), (980, 0), (981, 0), (982, 0), (983, 0), (984, 0), (985, 0), (986, 0), (987, 0), (988, 0), (989, 0),
  (990, 0), (991, 0), (992, 0), (993, 0), (994, 0), (995, 0), (996, 0), (997, 0), (998, 0), (999, 0), (1000, 0), (1001, 0), (1002, 0), (1003, 0),
  (1004, 0), (1005, 0), (1006, 0), (1162, 0), (1163, 2)
  ]
def so_host (h : Nat) : String := if h = 1 then RX8 else RX10
def so_fc (e : Nat × Nat × Nat) (p : Nat × Nat) : Bool := match vwCl[e.2.1]? with
  | some q => decide (e.2.2 < q.2.2) && (if p.2 = 0 then so_is p.1 (.fieldLink (so_cn (e.1 / 1000)) (e.1 % 1000) (q.2.1 e.2.2).1 (q.2.1 e.2.2).2.1 (q.2.1 e.2.2).2.2.1) else so_isN p.1 (.fieldLinkNest (so_cn (e.1 / 1000)) (e.1 % 1000) (q.2.1 e.2.2).1 (q.2.1 e.2.2).2.1 (q.2.1 e.2.2).2.2.1 (so_host p.2)))
  | none => false
theorem so_zip {α β : Type} {f : α → β → Bool} {l : List α} {ps : List β} (hl : l.length = ps.length) (h : (List.zipWith f l ps).all id = true) {x : α} (hx : x ∈ l) : ∃ y, f x y = true := by
  obtain ⟨i, hi, rfl⟩ := List.getElem_of_mem hx
  refine ⟨ps[i]'(by omega), ?_⟩
  have h1 := List.all_eq_true.mp h (f (l[i]) (ps[i]'(by omega))) (by
    rw [List.mem_iff_getElem]
    refine ⟨i, by simp; omega, by simp⟩)
  exact h1
set_option maxRecDepth 100000 in
theorem so_f_all : (List.zipWith so_fc mj_fL so_fP).all id = true := by decide +kernel
theorem so_fld {o i ci k : Nat} (h : mj_fld o i = some (ci, k)) : ∃ q : vw_C, vwCl[ci]? = some q ∧ k < q.2.2 ∧ (Cond.fieldLink (so_cn o) i (q.2.1 k).1 (q.2.1 k).2.1 (q.2.1 k).2.2.1 ∈ so_big ∨ ∃ host, Cond.fieldLinkNest (so_cn o) i (q.2.1 k).1 (q.2.1 k).2.1 (q.2.1 k).2.2.1 host ∈ so_nw) := by
  unfold mj_fld at h
  split at h
  · rename_i hi
    obtain ⟨p, hp⟩ := so_zip (by decide +kernel) so_f_all (mj_lk_mem h)
    unfold so_fc at hp
    have e1 : (o * 1000 + i) / 1000 = o := by omega
    have e2 : (o * 1000 + i) % 1000 = i := by omega
    simp only [e1, e2] at hp
    cases hq : vwCl[ci]? with
    | none => rw [hq] at hp; cases hp
    | some q =>
      rw [hq] at hp
      simp only [Bool.and_eq_true, decide_eq_true_eq] at hp
      refine ⟨q, rfl, hp.1, ?_⟩
      have h2 := hp.2
      split at h2
      · exact Or.inl (so_is_mem h2)
      · exact Or.inr ⟨_, so_isN_mem h2⟩
  · cases h
theorem so_nf_all : mj_fL.all (fun e => match vwCl[e.2.1]? with
  | some q => !(decide (e.2.1 = e.1 / 1000)) || !(so_nw.any (fun w => match w with
    | .fieldLinkNest a i _ _ _ _ => decide (a = so_cn (e.1 / 1000)) && decide (i = e.1 % 1000)
    | _ => false))
  | none => true) = true := by decide +kernel
theorem so_nest_ne {o i ci k : Nat} {a b d h : String} (hk : mj_fld o i = some (ci, k)) (hw : Cond.fieldLinkNest (so_cn o) i a b d h ∈ so_nw) : ¬ ci = o := by
  have hk' := hk
  obtain ⟨q, hq, -⟩ := so_fld hk
  unfold mj_fld at hk
  split at hk
  · rename_i hi
    have h1 := List.all_eq_true.mp so_nf_all _ (mj_lk_mem hk)
    have e1 : (o * 1000 + i) / 1000 = o := by omega
    have e2 : (o * 1000 + i) % 1000 = i := by omega
    simp only [hq, e1, e2, Bool.or_eq_true, Bool.not_eq_true', decide_eq_false_iff_not] at h1
    rcases h1 with h1 | h1
    · exact h1
    · rw [List.any_eq_false] at h1
      have := h1 _ hw
      simp at this
  · cases hk
theorem so_f9_all : mj_fL.all (fun e => decide (¬ e.2.1 = 9) || decide (e.2.2 = 6)) = true := by decide +kernel
theorem so_fld9 {o i k : Nat} (h : mj_fld o i = some (9, k)) : k = 6 := by
  unfold mj_fld at h
  split at h
  · have h1 := List.all_eq_true.mp so_f9_all _ (mj_lk_mem h)
    simpa using h1
  · cases h
theorem so_fin_ok {ci k : Nat} {q : vw_C} (h : vwCl[ci]? = some q) (hk : k < q.2.2) : (q.2.1 k).2.2.2 = mj_fin ci k ∧ (mj_fin ci k = true → (q.2.1 k).1 = so_cn ci) ∧ q.1 = so_cn ci := by
  have hlt : ci < 11 := (List.getElem?_eq_some_iff.mp h).1
  revert k
  rcases (show ci = 0 ∨ ci = 1 ∨ ci = 2 ∨ ci = 3 ∨ ci = 4 ∨ ci = 5 ∨ ci = 6 ∨ ci = 7 ∨ ci = 8 ∨ ci = 9 ∨ ci = 10 by omega) with rfl | rfl | rfl | rfl | rfl | rfl | rfl | rfl | rfl | rfl | rfl <;> (cases h; decide +kernel)
def so_tyL : List (Nat → FieldType) := [tyX0, tyX1, tyX2, tyX3, tyX4, tyX5, tyX6, tyX7, tyX8, tyX9, tyX10]
def so_uP : List (List Nat) := [[285, 287, 289, 291, 293, 295, 297, 299, 301], [328, 330, 332, 334, 336, 338, 340, 342], [347], [248, 250, 252, 254, 256, 258, 260, 262, 264, 266], [216, 218, 220, 222, 224, 226, 228], [164, 166, 168, 170, 172, 174, 176, 178, 180, 182, 184, 186, 188, 190, 192], [198, 200], [115, 117], [360, 362, 364, 366, 368, 370, 372, 374, 376, 378], [1147, 1148, 1149, 1150, 1151, 1166, 1164], [1007, 1009, 1011, 1013, 1015, 1017, 1019, 1021, 1023, 1025, 1027, 1029, 1031, 1033, 1035, 1037, 1039, 1041, 1043, 1045, 1047, 1049, 1051, 1053, 1055, 1057, 1059, 1061, 1063, 1065, 1067, 1069, 1071, 1073, 1075, 1077, 1079, 1081, 1083, 1085, 1087, 1089]]
theorem so_uw (ci : Nat) (q : vw_C) (h : vwCl[ci]? = some q) : ∀ w ∈ u_ws q.1 q.2.1 q.2.2, w ∈ so_big := by
  have hall : (List.zipWith (fun (q : vw_C) (ps : List Nat) => (List.zipWith (fun w p => so_is p w) (u_ws q.1 q.2.1 q.2.2) ps).all id && decide ((u_ws q.1 q.2.1 q.2.2).length = ps.length)) vwCl so_uP).all id = true := by decide +kernel
  intro w hw
  obtain ⟨ps, hps⟩ := so_zip (by decide +kernel) hall (List.mem_of_getElem? h)
  rw [Bool.and_eq_true, decide_eq_true_eq] at hps
  obtain ⟨p, hp⟩ := so_zip hps.2 hps.1 hw
  exact so_is_mem hp
theorem so_ty_ok (ci : Nat) (q : vw_C) (h : vwCl[ci]? = some q) : (∀ k, k < q.2.2 → parseFieldDescriptor (q.2.1 k).2.2.1 = some ((so_tyL.getD ci (fun _ => .int)) k)) ∧ (∀ a, a < q.2.2 → ∀ b, b < q.2.2 → a ≠ b → (q.2.1 a).2.1 ≠ (q.2.1 b).2.1) ∧ q.2.2 = mj_nf ci ∧ (∀ k, k < q.2.2 → mj_ft ci k = (match (so_tyL.getD ci (fun _ => .int)) k with
    | .int => 0
    | .boolean => 1
    | _ => 2)) ∧ (∀ k, k < q.2.2 → (match (so_tyL.getD ci (fun _ => .int)) k with
    | .int => true
    | .boolean => true
    | .object _ => true
    | .array _ => true
    | _ => false) = true) := by
  have hlt : ci < 11 := (List.getElem?_eq_some_iff.mp h).1
  rcases (show ci = 0 ∨ ci = 1 ∨ ci = 2 ∨ ci = 3 ∨ ci = 4 ∨ ci = 5 ∨ ci = 6 ∨ ci = 7 ∨ ci = 8 ∨ ci = 9 ∨ ci = 10 by omega) with rfl | rfl | rfl | rfl | rfl | rfl | rfl | rfl | rfl | rfl | rfl <;> (cases h; decide +kernel)
def so_mP : List (Nat × Nat × Nat × Nat) := [
  (273, 272, 0, 82), (900, 898, 899, 82), (396, 394, 395, 82), (458, 456, 457, 82), (392, 390, 391, 82), (905, 904, 33, 82), (917, 916, 34, 82), (925, 924, 36, 82),
  (921, 920, 35, 82), (929, 928, 37, 82), (933, 932, 38, 82), (939, 938, 39, 82), (315, 314, 0, 84), (795, 793, 794, 84), (803, 801, 802, 84), (807, 805, 806, 84),
  (445, 443, 444, 84), (449, 447, 448, 84), (441, 439, 440, 84), (858, 856, 857, 84), (888, 886, 887, 84), (870, 868, 869, 84), (874, 873, 32, 84), (308, 307, 0, 83),
  (431, 429, 430, 83), (812, 810, 811, 83), (236, 235, 0, 81), (734, 732, 733, 81), (738, 737, 20, 81), (742, 741, 21, 81), (755, 754, 22, 81), (764, 763, 23, 81),
  (768, 767, 24, 81), (775, 774, 25, 81), (779, 778, 26, 81), (783, 782, 27, 81), (787, 786, 28, 81), (791, 790, 29, 81), (799, 798, 30, 81), (207, 206, 0, 80),
  (585, 583, 584, 80), (674, 673, 19, 80), (593, 592, 4, 80), (597, 596, 5, 80), (601, 600, 6, 80), (605, 604, 7, 80), (613, 612, 9, 80), (631, 630, 12, 80),
  (635, 634, 13, 80), (639, 638, 14, 80), (621, 620, 11, 80), (617, 616, 10, 80), (609, 608, 8, 80), (627, 626, 0, 80), (642, 641, 0, 80), (624, 623, 0, 80),
  (646, 645, 15, 80), (666, 665, 18, 80), (658, 657, 16, 80), (662, 661, 17, 80), (132, 131, 0, 79), (581, 579, 580, 79), (650, 648, 649, 79), (670, 668, 669, 79),
  (678, 676, 677, 79), (654, 652, 653, 79), (751, 749, 750, 79), (687, 685, 686, 79), (683, 681, 682, 79), (760, 758, 759, 79), (421, 419, 420, 79), (125, 124, 0, 78),
  (849, 847, 848, 78), (417, 415, 416, 78), (746, 744, 745, 78), (576, 574, 575, 78), (691, 689, 690, 78), (108, 107, 0, 77), (539, 537, 538, 77), (589, 587, 588, 77),
  (909, 907, 908, 77), (100, 99, 0, 76), (466, 464, 465, 76), (547, 545, 546, 76), (570, 568, 569, 76), (384, 382, 383, 76), (699, 697, 698, 76), (722, 720, 721, 76),
  (730, 728, 729, 76), (820, 818, 819, 76), (828, 826, 827, 76), (837, 835, 836, 76), (845, 843, 844, 76), (865, 863, 864, 76), (883, 881, 882, 76), (895, 893, 894, 76),
  (947, 945, 946, 76), (955, 953, 954, 76), (388, 386, 387, 76), (400, 398, 399, 76), (408, 407, 0, 76), (413, 412, 1, 76), (437, 436, 0, 76), (453, 452, 2, 76),
  (434, 433, 0, 76), (405, 404, 0, 76), (854, 853, 31, 76), (1154, 1153, 0, 91), (961, 960, 0, 85), (1095, 1093, 1094, 85), (1103, 1102, 40, 85), (1114, 1113, 0, 85),
  (1099, 1097, 1098, 85), (1107, 1106, 41, 85), (1111, 1109, 1110, 85), (1143, 1142, 47, 85), (1170, 1169, 0, 85), (1127, 1126, 43, 85), (1190, 1189, 52, 85), (1131, 1130, 44, 85),
  (1186, 1185, 51, 85), (1135, 1134, 45, 85), (1182, 1181, 50, 85), (1139, 1138, 46, 85), (1178, 1177, 49, 85), (1174, 1173, 48, 85), (1123, 1122, 42, 85), (1118, 1116, 1117, 85),
  (1202, 1201, 55, 85), (1198, 1197, 54, 85), (1194, 1193, 53, 85), (1206, 1204, 1205, 85), (1214, 1213, 56, 85), (1210, 1208, 1209, 85), (1223, 1222, 57, 85), (1219, 1217, 1218, 85),
  (1243, 1242, 61, 85), (1239, 1238, 60, 85), (1235, 1234, 59, 85), (1247, 1246, 62, 85), (1231, 1230, 58, 85), (1254, 1253, 63, 85), (1262, 1261, 65, 85), (1258, 1257, 64, 85),
  (1266, 1265, 66, 85), (1227, 1225, 1226, 85), (1274, 1273, 0, 85), (1282, 1281, 67, 85), (1271, 1269, 1270, 85), (1278, 1276, 1277, 85), (1286, 1284, 1285, 85), (1294, 1293, 68, 85),
  (1298, 1297, 69, 85), (1290, 1288, 1289, 85), (1302, 1300, 1301, 85), (1306, 1304, 1305, 85), (1317, 1316, 70, 85), (1329, 1328, 73, 85), (1325, 1324, 72, 85), (1333, 1332, 74, 85),
  (1321, 1320, 71, 85), (1313, 1311, 1312, 85), (1337, 1335, 1336, 85), (1341, 1339, 1340, 85), (1345, 1343, 1344, 85), (1349, 1347, 1348, 85), (424, 423, 0, 93), (461, 460, 0, 75),
  (542, 541, 0, 75), (566, 565, 0, 75), (694, 693, 0, 75), (718, 717, 0, 75), (726, 725, 0, 75), (816, 815, 0, 75), (824, 823, 0, 75), (833, 832, 0, 75),
  (841, 840, 0, 75), (861, 860, 0, 75), (879, 878, 0, 75), (891, 890, 0, 75), (943, 942, 0, 75), (951, 950, 0, 75)
  ]
def so_mc (M : Nat) (p : Nat × Nat × Nat × Nat) : Bool := goodWord (so_hd M) && so_is p.2.1 (if mj_s M = true then .static (mj_y M) else .instanceMethod (mj_y M)) && so_is p.2.2.2 (.initialized (mj_y M).cls) && (mj_s M || mj_isI M || so_is p.2.2.1 (.selects (mj_y M).cls (mj_y M) (mj_y M))) &&
  Jvm.plainName (mj_y M).cls && decide ((mj_y M).cls = so_cn (mj_o M)) && decide ((mj_y M).cls ≠ "java/lang/invoke/MethodHandle") && decide ((mj_y M).cls ≠ "java/lang/invoke/VarHandle") && decide ((parseMethodDescriptor (mj_y M).desc).map (fun d => d.parameters.length) = some (mj_a M)) && decide (mj_l M ≤ 20) && (mj_s M || decide (mj_o M < 11)) && (!mj_isI M || (decide (mj_h M = []) && decide (mj_r M = none) && !mj_s M))
set_option maxRecDepth 100000 in
theorem so_m_all : (List.zipWith so_mc (List.range 182) so_mP).all id = true := by decide +kernel
theorem so_m {M : Nat} (h : M < 182) : so_hd M ∈ so_big ∧ (mj_s M = true → Cond.static (mj_y M) ∈ so_big) ∧ (mj_s M = false → Cond.instanceMethod (mj_y M) ∈ so_big) ∧ Cond.initialized (mj_y M).cls ∈ so_big ∧ (mj_s M = false → mj_isI M = false → Cond.selects (mj_y M).cls (mj_y M) (mj_y M) ∈ so_big) ∧
    Jvm.plainName (mj_y M).cls = true ∧ (mj_y M).cls = so_cn (mj_o M) ∧ ((mj_y M).cls ≠ "java/lang/invoke/MethodHandle" ∧ (mj_y M).cls ≠ "java/lang/invoke/VarHandle") ∧ (parseMethodDescriptor (mj_y M).desc).map (fun d => d.parameters.length) = some (mj_a M) ∧ mj_l M ≤ 20 ∧ (mj_s M = false → mj_o M < 11) ∧ (mj_isI M = true → mj_h M = [] ∧ mj_r M = none ∧ mj_s M = false) := by
  obtain ⟨p, hp⟩ := so_zip (by decide +kernel) so_m_all (List.mem_range.mpr h)
  unfold so_mc at hp
  simp only [Bool.and_eq_true, Bool.or_eq_true, decide_eq_true_eq, Bool.not_eq_true'] at hp
  obtain ⟨⟨⟨⟨⟨⟨⟨⟨⟨⟨⟨h1, h2⟩, h3⟩, h4⟩, h5⟩, h6⟩, h7⟩, h8⟩, h9⟩, h10⟩, h11⟩, h12⟩ := hp
  refine ⟨List.mem_filter.mpr ⟨so_hdm h, h1⟩, fun e => ?_, fun e => ?_, so_is_mem h3, fun e1 e2 => ?_, h5, h6, ⟨h7, h8⟩, h9, h10, fun e => ?_, fun e => ?_⟩
  · rw [if_pos e] at h2; exact so_is_mem h2
  · rw [if_neg (by rw [e]; decide)] at h2; exact so_is_mem h2
  · rcases h4 with (h4 | h4) | h4
    · rw [e1] at h4; cases h4
    · rw [e2] at h4; cases h4
    · exact so_is_mem h4
  · rcases h11 with h | h
    · rw [e] at h; cases h
    · exact h
  · rcases h12 with h | ⟨⟨ha, hb⟩, hc⟩
    · rw [e] at h; cases h
    · exact ⟨ha, hb, hc⟩
def so_lP : List (Nat × Nat) := [
  (98, 0), (101, 0), (106, 1), (109, 0), (123, 0), (126, 0), (130, 1), (133, 0), (205, 1), (208, 0), (234, 1), (237, 0), (271, 1), (274, 0),
  (306, 0), (309, 0), (313, 1), (316, 0), (381, 0), (385, 0), (389, 0), (393, 0), (397, 0), (402, 0), (406, 0), (410, 0), (414, 0), (418, 0),
  (422, 0), (428, 0), (432, 1), (435, 0), (438, 0), (442, 0), (446, 0), (450, 0), (454, 0), (455, 0), (459, 0), (463, 0), (536, 0), (540, 0),
  (544, 0), (564, 0), (567, 0), (571, 0), (573, 0), (578, 0), (582, 0), (586, 0), (590, 0), (594, 0), (598, 0), (602, 0), (606, 0), (610, 0),
  (614, 0), (618, 0), (622, 0), (625, 0), (628, 0), (632, 0), (636, 0), (640, 0), (643, 0), (647, 0), (651, 0), (655, 0), (659, 0), (663, 0),
  (667, 0), (671, 0), (675, 0), (679, 0), (680, 0), (684, 0), (688, 0), (692, 0), (696, 0), (716, 0), (719, 0), (724, 0), (727, 0), (731, 0),
  (735, 0), (739, 0), (743, 0), (747, 0), (748, 0), (752, 0), (756, 0), (757, 0), (761, 0), (765, 0), (769, 0), (772, 0), (776, 0), (780, 0),
  (784, 0), (788, 0), (792, 0), (796, 0), (800, 0), (804, 0), (809, 0), (813, 0), (814, 0), (817, 0), (822, 0), (825, 0), (829, 0), (831, 0),
  (834, 0), (839, 0), (842, 0), (846, 0), (851, 0), (855, 0), (859, 0), (862, 0), (867, 0), (871, 0), (875, 0), (876, 0), (877, 0), (880, 0),
  (885, 0), (889, 0), (892, 0), (897, 0), (901, 0), (902, 0), (906, 0), (910, 0), (911, 0), (912, 0), (913, 0), (914, 0), (918, 0), (922, 0),
  (926, 0), (930, 0), (934, 0), (935, 0), (936, 0), (940, 0), (941, 0), (944, 0), (949, 0), (952, 0), (959, 0), (962, 0), (1092, 0), (1096, 0),
  (1100, 0), (1104, 0), (1108, 0), (1112, 0), (1115, 0), (1120, 0), (1124, 0), (1128, 0), (1132, 0), (1136, 0), (1140, 0), (1152, 2), (1155, 0), (1168, 0),
  (1171, 0), (1175, 0), (1179, 0), (1183, 0), (1187, 0), (1191, 0), (1195, 0), (1199, 0), (1203, 0), (1207, 0), (1211, 0), (1215, 0), (1216, 0), (1220, 0),
  (1224, 0), (1228, 0), (1232, 0), (1236, 0), (1240, 0), (1244, 0), (1248, 0), (1251, 0), (1255, 0), (1259, 0), (1263, 0), (1267, 0), (1268, 0), (1272, 0),
  (1275, 0), (1279, 0), (1283, 0), (1287, 0), (1291, 0), (1295, 0), (1299, 0), (1303, 0), (1307, 0), (1310, 0), (1314, 0), (1318, 0), (1322, 0), (1326, 0),
  (1330, 0), (1334, 0), (1338, 0), (1342, 0), (1346, 0)
  ]
def so_ri : MethodName := ⟨"java/lang/RuntimeException", "<init>", "()V"⟩
def so_lt (e : Nat × Nat × Nat) : MethodName := if e.2.1 = 0 then mj_y e.2.2 else if e.2.1 = 1 then objectInit else if e.2.1 = 2 then so_ri else if e.2.1 = 3 then arraycopyName else if e.2.1 = 4 then Lib.Math.max.name else Lib.Math.min.name
def so_lc (e : Nat × Nat × Nat) (p : Nat × Nat) : Bool := (if p.2 = 0 then so_is p.1 (.methodLink (so_cn (e.1 / 1000)) (e.1 % 1000) (so_lt e)) else so_isN p.1 (.methodLinkNest (so_cn (e.1 / 1000)) (e.1 % 1000) (so_lt e) (so_host p.2))) && (!decide (e.2.1 = 0) || (decide (e.2.2 < 182) && (decide (p.2 = 0) || decide (mj_h e.2.2 = []) && (mj_s e.2.2 || mj_isI e.2.2)) && (!mj_isI e.2.2 || decide (mj_h e.2.2 = [])))) && (decide (e.2.1 = 0) || decide (p.2 = 0)) && decide (e.2.1 < 6)
set_option maxRecDepth 100000 in
theorem so_l_all : (List.zipWith so_lc mj_mL so_lP).all id = true := by decide +kernel
theorem so_mth {o i kd M : Nat} (h : mj_mth o i = some (kd, M)) : (kd = 0 → M < 182 ∧ (Cond.methodLink (so_cn o) i (mj_y M) ∈ so_big ∨ (∃ host, Cond.methodLinkNest (so_cn o) i (mj_y M) host ∈ so_nw) ∧ mj_h M = [] ∧ (mj_s M = true ∨ mj_isI M = true))) ∧ (¬ kd = 0 → Cond.methodLink (so_cn o) i (so_lt (0, kd, M)) ∈ so_big) := by
  unfold mj_mth at h
  split at h
  · rename_i hi
    obtain ⟨p, hp⟩ := so_zip (by decide +kernel) so_l_all (mj_lk_mem h)
    unfold so_lc at hp
    have e1 : (o * 1000 + i) / 1000 = o := by omega
    have e2 : (o * 1000 + i) % 1000 = i := by omega
    simp only [e1, e2, Bool.and_eq_true, Bool.or_eq_true, decide_eq_true_eq, Bool.not_eq_true', decide_eq_false_iff_not] at hp
    obtain ⟨⟨⟨h1, h2⟩, h3⟩, h4⟩ := hp
    have h5 := h1
    constructor
    · intro e0
      subst e0
      rcases h2 with h2 | ⟨⟨h2, h6⟩, h7⟩
      · exact absurd rfl h2
      · refine ⟨h2, ?_⟩
        split at h5
        · exact Or.inl (so_is_mem h5)
        · rename_i hne
          rcases h6 with h6 | h6
          · exact absurd h6 hne
          · exact Or.inr ⟨⟨_, so_isN_mem h5⟩, h6.1, h6.2⟩
    · intro e0
      rcases h3 with h3 | h3
      · exact absurd h3 e0
      · rw [if_pos h3] at h5
        exact so_is_mem h5
  · cases h
def so_xP : List Nat := [963, 120, 345, 231, 102, 103, 771, 770, 94, 1249, 1308, 95, 1250, 1309]
def so_xw : List Cond := [.classLink RX10 60 ("[" ++ (FieldType.array .int).toString), .arrayClass .int, .arrayClass .long, .arrayClass .boolean, .instanceMethod objectInit, .code objectInit ⟨#[0xb1]⟩ 1 none, .native arraycopyName, .static arraycopyName, .initialized "java/lang/System", .static Lib.Math.max.name, .static Lib.Math.min.name, .initialized "java/lang/Math", .code Lib.Math.max.name Lib.Math.max.code 2 (some .int), .code Lib.Math.min.name Lib.Math.min.code 2 (some .int)]
theorem so_x_all : (List.zipWith (fun w p => so_is p w) so_xw so_xP).all id = true := by decide +kernel
theorem so_x {w : Cond} (h : w ∈ so_xw) : w ∈ so_big := by
  obtain ⟨p, hp⟩ := so_zip (by decide +kernel) so_x_all h
  exact so_is_mem hp
def so_nP : List (Nat × Nat × Nat) := [
  (96, 97, 76), (104, 105, 77), (121, 122, 78), (127, 129, 79), (203, 204, 80), (232, 233, 81), (269, 270, 82), (304, 305, 83), (310, 312, 84), (957, 958, 85),
  (1119, 1144, 91)
  ]
def so_nc (e : Nat × Nat) (p : Nat × Nat × Nat) : Bool := match vwCl[e.2]? with
  | some q => so_is p.1 (.classLink (so_cn (e.1 / 1000)) (e.1 % 1000) q.1) && so_is p.2.1 (.instantiable q.1 q.2.2) && so_is p.2.2 (.initialized q.1)
  | none => false
theorem so_n_all : (List.zipWith so_nc mj_nL so_nP).all id = true := by decide +kernel
theorem so_cls {o i ci : Nat} (h : mj_cls o i = some ci) : ∃ q : vw_C, vwCl[ci]? = some q ∧ Cond.classLink (so_cn o) i q.1 ∈ so_big ∧ Cond.instantiable q.1 q.2.2 ∈ so_big ∧ Cond.initialized q.1 ∈ so_big := by
  unfold mj_cls at h
  split at h
  · rename_i hi
    obtain ⟨p, hp⟩ := so_zip (by decide +kernel) so_n_all (mj_lk_mem h)
    unfold so_nc at hp
    have e1 : (o * 1000 + i) / 1000 = o := by omega
    have e2 : (o * 1000 + i) % 1000 = i := by omega
    simp only [e1, e2] at hp
    cases hq : vwCl[ci]? with
    | none => rw [hq] at hp; cases hp
    | some q =>
      rw [hq] at hp
      simp only [Bool.and_eq_true] at hp
      exact ⟨q, rfl, so_is_mem hp.1.1, so_is_mem hp.1.2, so_is_mem hp.2⟩
  · cases h
def so_xn (E : Nat) : String := if E = 0 then "java/lang/IllegalStateException" else if E = 1 then "java/lang/IllegalArgumentException" else if E = 2 then "java/lang/IndexOutOfBoundsException" else RX9
def so_eP : List (Nat × Nat × Nat) := [
  (462, 89, 469), (467, 89, 469), (543, 90, 550), (548, 90, 550), (695, 92, 702), (700, 92, 702), (1119, 91, 1145)
  ]
def so_ec (e : Nat × Nat) (p : Nat × Nat × Nat) : Bool := so_is p.1 (.classLink (so_cn (e.1 / 1000)) (e.1 % 1000) (so_xn e.2)) && so_is p.2.1 (.initialized (so_xn e.2)) && so_isN p.2.2 (.castable (so_xn e.2) (so_xn e.2)) && decide (e.2 < 4) && decide (¬ e.1 % 1000 = 0)
theorem so_e_all : (List.zipWith so_ec mj_xL so_eP).all id = true := by decide +kernel
theorem so_exc {o i E : Nat} (h : mj_exc o i = some E) : E < 4 ∧ ¬ i = 0 ∧ Cond.classLink (so_cn o) i (so_xn E) ∈ so_big ∧ Cond.initialized (so_xn E) ∈ so_big ∧ Cond.castable (so_xn E) (so_xn E) ∈ so_nw := by
  unfold mj_exc at h
  split at h
  · rename_i hi
    obtain ⟨p, hp⟩ := so_zip (by decide +kernel) so_e_all (mj_lk_mem h)
    unfold so_ec at hp
    have e1 : (o * 1000 + i) / 1000 = o := by omega
    have e2 : (o * 1000 + i) % 1000 = i := by omega
    simp only [e1, e2, Bool.and_eq_true, decide_eq_true_eq] at hp
    exact ⟨hp.1.2, hp.2, so_is_mem hp.1.1.1.1, so_is_mem hp.1.1.1.2, so_isN_mem hp.1.1.2⟩
  · cases h
def so_kP : List Nat := [425, 426, 427]
def so_k2P : List Nat := [401, 409, 1350, 1351]
theorem so_ki_all : (List.zipWith (fun (e : Nat × Int32) p => so_is p (.constant (so_cn (e.1 / 1000)) (e.1 % 1000) e.2)) mj_kL so_kP).all id = true := by decide +kernel
theorem so_ki {o i : Nat} {v : Int32} (h : mj_ki o i = some v) : Cond.constant (so_cn o) i v ∈ so_big := by
  unfold mj_ki at h
  split at h
  · rename_i hi
    obtain ⟨p, hp⟩ := so_zip (by decide +kernel) so_ki_all (mj_lk_mem h)
    have e1 : (o * 1000 + i) / 1000 = o := by omega
    have e2 : (o * 1000 + i) % 1000 = i := by omega
    simp only [e1, e2] at hp
    exact so_is_mem hp
  · cases h
theorem so_k2_all : (List.zipWith (fun (e : Nat × Int64) p => so_is p (.constantLong (so_cn (e.1 / 1000)) (e.1 % 1000) e.2)) mj_k2L so_k2P).all id = true := by decide +kernel
theorem so_k2 {o i : Nat} {v : Int64} (h : mj_k2 o i = some v) : Cond.constantLong (so_cn o) i v ∈ so_big := by
  unfold mj_k2 at h
  split at h
  · rename_i hi
    obtain ⟨p, hp⟩ := so_zip (by decide +kernel) so_k2_all (mj_lk_mem h)
    have e1 : (o * 1000 + i) / 1000 = o := by omega
    have e2 : (o * 1000 + i) % 1000 = i := by omega
    simp only [e1, e2] at hp
    exact so_is_mem hp
  · cases h
