/-- of each method: the places in the tables of its code, of its class's initialisation, 0 static, 1 instance, 2 constructor, and the places of that -/
def bg_PL : List (Nat × Nat × Nat × Nat × Nat) := [(171, 72, 2, 170, 0), (284, 76, 2, 283, 0), (115, 70, 2, 114, 0), (264, 75, 2, 263, 0), (219, 74, 2, 218, 0), (317, 77, 2, 316, 0), (94, 69, 2, 93, 0), (193, 73, 2, 192, 0), (86, 68, 2, 85, 0), (843, 78, 2, 842, 0), (462, 72, 1, 460, 461), (533, 72, 1, 531, 532), (543, 72, 1, 541, 542), (572, 72, 1, 570, 571), (539, 72, 1, 538, 9), (465, 72, 0, 464, 0), (722, 76, 1, 720, 721), (735, 76, 1, 734, 17), (725, 76, 0, 724, 0), (739, 76, 1, 738, 18), (758, 76, 1, 757, 22), (761, 76, 0, 760, 0), (746, 76, 1, 745, 19), (750, 76, 1, 749, 20), (754, 76, 1, 753, 21), (773, 76, 1, 772, 24), (769, 76, 1, 768, 23), (777, 76, 1, 776, 25), (782, 76, 1, 780, 781), (798, 76, 1, 796, 797), (122, 70, 1, 120, 121), (449, 70, 1, 447, 448), (423, 70, 1, 421, 422), (441, 70, 1, 440, 5), (427, 70, 1, 426, 3), (433, 70, 1, 432, 4), (437, 70, 1, 435, 436), (497, 70, 1, 495, 496), (501, 70, 1, 499, 500), (505, 70, 1, 503, 504), (509, 70, 1, 507, 508), (517, 70, 1, 515, 516), (555, 70, 1, 553, 554), (269, 75, 1, 267, 268), (829, 75, 1, 827, 828), (711, 75, 1, 709, 710), (718, 75, 1, 716, 717), (714, 75, 0, 713, 0), (484, 74, 1, 482, 483), (563, 74, 1, 561, 562), (604, 74, 1, 602, 603), (599, 74, 1, 597, 598), (576, 74, 1, 575, 10), (585, 74, 1, 584, 12), (581, 74, 1, 580, 11), (589, 74, 1, 588, 13), (595, 74, 1, 594, 14), (624, 74, 1, 622, 623), (681, 74, 1, 679, 680), (808, 77, 1, 806, 807), (813, 77, 1, 811, 812), (817, 77, 1, 816, 26), (384, 69, 1, 382, 383), (388, 69, 1, 386, 387), (400, 69, 1, 398, 399), (409, 69, 1, 408, 1), (413, 69, 1, 412, 2), (405, 69, 1, 404, 0), (416, 69, 0, 415, 0), (469, 73, 1, 467, 468), (472, 73, 0, 471, 0), (476, 73, 1, 475, 7), (632, 73, 1, 630, 631), (636, 73, 1, 634, 635), (644, 73, 1, 642, 643), (659, 73, 1, 657, 658), (671, 73, 1, 669, 670), (686, 73, 1, 684, 685), (380, 68, 1, 378, 379), (392, 68, 1, 390, 391), (396, 68, 1, 394, 395), (445, 68, 1, 443, 444), (488, 68, 1, 486, 487), (493, 68, 1, 491, 492), (513, 68, 1, 511, 512), (525, 68, 1, 523, 524), (547, 68, 1, 545, 546), (551, 68, 1, 549, 550), (559, 68, 1, 557, 558), (608, 68, 1, 606, 607), (612, 68, 1, 610, 611), (616, 68, 1, 614, 615), (620, 68, 1, 618, 619), (628, 68, 1, 626, 627), (640, 68, 1, 638, 639), (653, 68, 1, 651, 652), (667, 68, 1, 665, 666), (677, 68, 1, 675, 676), (690, 68, 1, 688, 689), (694, 68, 1, 692, 693), (698, 68, 1, 696, 697), (786, 68, 1, 784, 785), (790, 68, 1, 788, 789), (794, 68, 1, 792, 793), (803, 68, 1, 801, 802), (825, 68, 1, 823, 824), (834, 68, 1, 832, 833), (838, 68, 1, 836, 837), (458, 68, 1, 457, 6), (529, 68, 1, 528, 8), (703, 68, 1, 702, 15), (707, 68, 1, 706, 16), (960, 78, 0, 959, 0), (1029, 78, 0, 1028, 0), (1190, 78, 0, 1189, 0), (848, 78, 1, 847, 27), (852, 78, 1, 851, 28), (956, 78, 1, 954, 955), (965, 78, 1, 963, 964), (981, 78, 1, 980, 31), (989, 78, 1, 988, 33), (985, 78, 1, 984, 32), (996, 78, 1, 995, 34), (977, 78, 1, 976, 30), (973, 78, 1, 972, 29), (969, 78, 1, 967, 968), (1004, 78, 1, 1003, 35), (1000, 78, 1, 998, 999), (1012, 78, 1, 1011, 36), (1008, 78, 1, 1006, 1007), (1021, 78, 1, 1020, 37), (1026, 78, 1, 1025, 38), (1033, 78, 1, 1032, 39), (1037, 78, 1, 1036, 40), (1017, 78, 1, 1015, 1016), (1045, 78, 1, 1044, 41), (1041, 78, 1, 1039, 1040), (1057, 78, 1, 1056, 43), (1061, 78, 1, 1060, 44), (1053, 78, 1, 1052, 42), (1093, 78, 1, 1092, 48), (1049, 78, 1, 1047, 1048), (1066, 78, 1, 1064, 1065), (1076, 78, 1, 1075, 45), (1072, 78, 1, 1070, 1071), (1089, 78, 1, 1088, 47), (1085, 78, 1, 1084, 46), (1080, 78, 1, 1078, 1079), (1097, 78, 1, 1095, 1096), (1102, 78, 1, 1100, 1101), (1106, 78, 1, 1104, 1105), (1114, 78, 1, 1113, 49), (1110, 78, 1, 1108, 1109), (1126, 78, 1, 1125, 51), (1122, 78, 1, 1121, 50), (1130, 78, 1, 1129, 52), (1118, 78, 1, 1116, 1117), (1138, 78, 1, 1137, 53), (1134, 78, 1, 1132, 1133), (1147, 78, 1, 1146, 54), (1142, 78, 1, 1140, 1141), (1158, 78, 1, 1157, 55), (1162, 78, 1, 1161, 56), (1154, 78, 1, 1152, 1153), (1166, 78, 1, 1164, 1165), (1170, 78, 1, 1168, 1169), (1174, 78, 1, 1172, 1173), (1210, 78, 1, 1209, 63), (1187, 78, 1, 1186, 58), (1214, 78, 1, 1213, 64), (1206, 78, 1, 1205, 62), (1198, 78, 1, 1197, 60), (1202, 78, 1, 1201, 61), (1218, 78, 1, 1217, 65), (1194, 78, 1, 1193, 59), (1183, 78, 1, 1182, 57), (1224, 78, 0, 1223, 0), (1221, 78, 0, 1220, 0), (1179, 78, 1, 1177, 1178), (1229, 78, 1, 1227, 1228), (1233, 78, 1, 1231, 1232), (1238, 78, 1, 1236, 1237), (1242, 78, 1, 1240, 1241), (1252, 78, 1, 1251, 66), (1248, 78, 1, 1246, 1247), (1256, 78, 1, 1254, 1255), (1260, 78, 1, 1258, 1259), (764, 81, 0, 763, 0), (728, 81, 0, 727, 0), (742, 71, 0, 741, 0), (125, 71, 0, 124, 0), (521, 70, 1, 519, 520), (480, 70, 1, 478, 479)]
def bg_okm (M : bg_M) (k : Nat) (q : Nat × Nat × Nat × Nat × Nat) : Bool :=
  plainName M.1.cls && decide (M.1.cls ≠ "java/lang/invoke/MethodHandle" ∧ M.1.cls ≠ "java/lang/invoke/VarHandle") && bg_wd q.2.1 (.initialized M.1.cls) && decide (M.2.2.1 ≤ 100) && decide (M.2.2.2.2.2.1 = bg_mc k) && decide (M.2.2.2.1 = none ∨ M.2.2.2.1 = some .int ∨ M.2.2.2.1 = some .boolean ∨ M.2.2.2.1 = some .long) && (match q.2.2.1 with
    | 0 => bg_wd q.2.2.2.1 (.static M.1)
    | 1 => bg_wd q.2.2.2.1 (.instanceMethod M.1) && bg_wd q.2.2.2.2 (.selects M.1.cls M.1 M.1)
    | _ => bg_wd q.2.2.2.1 (.instanceMethod M.1))
def bg_okl : List bg_M → List (Nat × Nat × Nat × Nat × Nat) → Nat → Bool
  | [], [], _ => true
  | M :: l, q :: r, k => bg_okm M k q && bg_okl l r (k + 1)
  | _, _, _ => false
theorem bg_okl_of : ∀ (l : List bg_M) (r : List (Nat × Nat × Nat × Nat × Nat)) (n : Nat), bg_okl l r n = true → ∀ (k : Nat) (M : bg_M), bg_nth l k = some M → ∃ q, bg_nth r k = some q ∧ bg_okm M (n + k) q = true
  | [], [], _, _, k, M, h => by simp [bg_nth] at h
  | [], _ :: _, _, h, _, _, _ => by simp [bg_okl] at h
  | _ :: _, [], _, h, _, _, _ => by simp [bg_okl] at h
  | M0 :: l, q :: r, n, h, 0, M, hk => by
    simp only [bg_okl, Bool.and_eq_true] at h
    cases hk
    exact ⟨q, rfl, h.1⟩
  | M0 :: l, q :: r, n, h, k + 1, M, hk => by
    simp only [bg_okl, Bool.and_eq_true] at h
    obtain ⟨q', h1, h2⟩ := bg_okl_of l r (n + 1) h.2 k M hk
    exact ⟨q', h1, by rw [show n + (k + 1) = n + 1 + k by omega]; exact h2⟩
theorem cw_X0_init : lw_tbl[171]? = some (.code me_X0_init.1 me_X0_init.2.1 me_X0_init.2.2.1 me_X0_init.2.2.2.1) := by decide +kernel
theorem cw_X1_init : lw_tbl[284]? = some (.code me_X1_init.1 me_X1_init.2.1 me_X1_init.2.2.1 me_X1_init.2.2.2.1) := by decide +kernel
theorem cw_X2_init : lw_tbl[115]? = some (.code me_X2_init.1 me_X2_init.2.1 me_X2_init.2.2.1 me_X2_init.2.2.2.1) := by decide +kernel
theorem cw_X3_init : lw_tbl[264]? = some (.code me_X3_init.1 me_X3_init.2.1 me_X3_init.2.2.1 me_X3_init.2.2.2.1) := by decide +kernel
theorem cw_X4_init : lw_tbl[219]? = some (.code me_X4_init.1 me_X4_init.2.1 me_X4_init.2.2.1 me_X4_init.2.2.2.1) := by decide +kernel
theorem cw_X5_init : lw_tbl[317]? = some (.code me_X5_init.1 me_X5_init.2.1 me_X5_init.2.2.1 me_X5_init.2.2.2.1) := by decide +kernel
theorem cw_X6_init : lw_tbl[94]? = some (.code me_X6_init.1 me_X6_init.2.1 me_X6_init.2.2.1 me_X6_init.2.2.2.1) := by decide +kernel
theorem cw_X7_init : lw_tbl[193]? = some (.code me_X7_init.1 me_X7_init.2.1 me_X7_init.2.2.1 me_X7_init.2.2.2.1) := by decide +kernel
theorem cw_X8_init : lw_tbl[86]? = some (.code me_X8_init.1 me_X8_init.2.1 me_X8_init.2.2.1 me_X8_init.2.2.2.1) := by decide +kernel
theorem cw_X9_init : lw_tbl[843]? = some (.code me_X9_init.1 me_X9_init.2.1 me_X9_init.2.2.1 me_X9_init.2.2.2.1) := by decide +kernel
theorem cw_X0_survey : lw_tbl[462]? = some (.code me_X0_survey.1 me_X0_survey.2.1 me_X0_survey.2.2.1 me_X0_survey.2.2.2.1) := by decide +kernel
theorem cw_X0_weigh : lw_tbl[533]? = some (.code me_X0_weigh.1 me_X0_weigh.2.1 me_X0_weigh.2.2.1 me_X0_weigh.2.2.2.1) := by decide +kernel
theorem cw_X0_outOfShore : lw_tbl[543]? = some (.code me_X0_outOfShore.1 me_X0_outOfShore.2.1 me_X0_outOfShore.2.2.1 me_X0_outOfShore.2.2.2.1) := by decide +kernel
theorem cw_X0_isNeeded : lw_tbl[572]? = some (.code me_X0_isNeeded.1 me_X0_isNeeded.2.1 me_X0_isNeeded.2.2.1 me_X0_isNeeded.2.2.2.1) := by decide +kernel
theorem cw_X0_sumOver : lw_tbl[539]? = some (.code me_X0_sumOver.1 me_X0_sumOver.2.1 me_X0_sumOver.2.2.1 me_X0_sumOver.2.2.2.1) := by decide +kernel
theorem cw_X0_placesOf : lw_tbl[465]? = some (.code me_X0_placesOf.1 me_X0_placesOf.2.1 me_X0_placesOf.2.2.1 me_X0_placesOf.2.2.2.1) := by decide +kernel
theorem cw_X1_findSupport : lw_tbl[722]? = some (.code me_X1_findSupport.1 me_X1_findSupport.2.1 me_X1_findSupport.2.2.1 me_X1_findSupport.2.2.2.1) := by decide +kernel
theorem cw_X1_findCarriers : lw_tbl[735]? = some (.code me_X1_findCarriers.1 me_X1_findCarriers.2.1 me_X1_findCarriers.2.2.1 me_X1_findCarriers.2.2.2.1) := by decide +kernel
theorem cw_X1_isSetOf : lw_tbl[725]? = some (.code me_X1_isSetOf.1 me_X1_isSetOf.2.1 me_X1_isSetOf.2.2.1 me_X1_isSetOf.2.2.2.1) := by decide +kernel
theorem cw_X1_mixes : lw_tbl[739]? = some (.code me_X1_mixes.1 me_X1_mixes.2.1 me_X1_mixes.2.2.1 me_X1_mixes.2.2.2.1) := by decide +kernel
theorem cw_X1_turnSigns : lw_tbl[758]? = some (.code me_X1_turnSigns.1 me_X1_turnSigns.2.1 me_X1_turnSigns.2.2.1 me_X1_turnSigns.2.2.2.1) := by decide +kernel
theorem cw_X1_areAllAbove0 : lw_tbl[761]? = some (.code me_X1_areAllAbove0.1 me_X1_areAllAbove0.2.1 me_X1_areAllAbove0.2.2.1 me_X1_areAllAbove0.2.2.2.1) := by decide +kernel
theorem cw_X1_signedMinor : lw_tbl[746]? = some (.code me_X1_signedMinor.1 me_X1_signedMinor.2.1 me_X1_signedMinor.2.2.1 me_X1_signedMinor.2.2.2.1) := by decide +kernel
theorem cw_X1_fillLine : lw_tbl[750]? = some (.code me_X1_fillLine.1 me_X1_fillLine.2.1 me_X1_fillLine.2.2.1 me_X1_fillLine.2.2.2.1) := by decide +kernel
theorem cw_X1_minorOf : lw_tbl[754]? = some (.code me_X1_minorOf.1 me_X1_minorOf.2.1 me_X1_minorOf.2.2.1 me_X1_minorOf.2.2.2.1) := by decide +kernel
theorem cw_X1_noneDoesBetter : lw_tbl[773]? = some (.code me_X1_noneDoesBetter.1 me_X1_noneDoesBetter.2.1 me_X1_noneDoesBetter.2.2.1 me_X1_noneDoesBetter.2.2.2.1) := by decide +kernel
theorem cw_X1_meanBy : lw_tbl[769]? = some (.code me_X1_meanBy.1 me_X1_meanBy.2.1 me_X1_meanBy.2.2.1 me_X1_meanBy.2.2.2.1) := by decide +kernel
theorem cw_X1_meanOf : lw_tbl[777]? = some (.code me_X1_meanOf.1 me_X1_meanOf.2.1 me_X1_meanOf.2.2.1 me_X1_meanOf.2.2.2.1) := by decide +kernel
theorem cw_X1_lowest : lw_tbl[782]? = some (.code me_X1_lowest.1 me_X1_lowest.2.1 me_X1_lowest.2.2.1 me_X1_lowest.2.2.2.1) := by decide +kernel
theorem cw_X1_worthOfBeingTold : lw_tbl[798]? = some (.code me_X1_worthOfBeingTold.1 me_X1_worthOfBeingTold.2.1 me_X1_worthOfBeingTold.2.2.1 me_X1_worthOfBeingTold.2.2.2.1) := by decide +kernel
theorem cw_X2_clear : lw_tbl[122]? = some (.code me_X2_clear.1 me_X2_clear.2.1 me_X2_clear.2.2.1 me_X2_clear.2.2.2.1) := by decide +kernel
theorem cw_X2_copy : lw_tbl[449]? = some (.code me_X2_copy.1 me_X2_copy.2.1 me_X2_copy.2.2.1 me_X2_copy.2.2.2.1) := by decide +kernel
theorem cw_X2_takes : lw_tbl[423]? = some (.code me_X2_takes.1 me_X2_takes.2.1 me_X2_takes.2.2.1 me_X2_takes.2.2.2.1) := by decide +kernel
theorem cw_X2_takesNumber : lw_tbl[441]? = some (.code me_X2_takesNumber.1 me_X2_takesNumber.2.1 me_X2_takesNumber.2.2.1 me_X2_takesNumber.2.2.2.1) := by decide +kernel
theorem cw_X2_takesPath : lw_tbl[427]? = some (.code me_X2_takesPath.1 me_X2_takesPath.2.1 me_X2_takesPath.2.2.1 me_X2_takesPath.2.2.2.1) := by decide +kernel
theorem cw_X2_takesTower : lw_tbl[433]? = some (.code me_X2_takesTower.1 me_X2_takesTower.2.1 me_X2_takesTower.2.2.1 me_X2_takesTower.2.2.2.1) := by decide +kernel
theorem cw_X2_hasPath : lw_tbl[437]? = some (.code me_X2_hasPath.1 me_X2_hasPath.2.1 me_X2_hasPath.2.2.1 me_X2_hasPath.2.2.2.1) := by decide +kernel
theorem cw_X2_hasPosts : lw_tbl[497]? = some (.code me_X2_hasPosts.1 me_X2_hasPosts.2.1 me_X2_hasPosts.2.2.1 me_X2_hasPosts.2.2.2.1) := by decide +kernel
theorem cw_X2_costOf : lw_tbl[501]? = some (.code me_X2_costOf.1 me_X2_costOf.2.1 me_X2_costOf.2.2.1 me_X2_costOf.2.2.2.1) := by decide +kernel
theorem cw_X2_heldBy : lw_tbl[505]? = some (.code me_X2_heldBy.1 me_X2_heldBy.2.1 me_X2_heldBy.2.2.1 me_X2_heldBy.2.2.2.1) := by decide +kernel
theorem cw_X2_waitsOf : lw_tbl[509]? = some (.code me_X2_waitsOf.1 me_X2_waitsOf.2.1 me_X2_waitsOf.2.2.1 me_X2_waitsOf.2.2.2.1) := by decide +kernel
theorem cw_X2_bearing : lw_tbl[517]? = some (.code me_X2_bearing.1 me_X2_bearing.2.1 me_X2_bearing.2.2.1 me_X2_bearing.2.2.2.1) := by decide +kernel
theorem cw_X2_comesMoreThanGoes : lw_tbl[555]? = some (.code me_X2_comesMoreThanGoes.1 me_X2_comesMoreThanGoes.2.1 me_X2_comesMoreThanGoes.2.2.1 me_X2_comesMoreThanGoes.2.2.2.1) := by decide +kernel
theorem cw_X3_clear : lw_tbl[269]? = some (.code me_X3_clear.1 me_X3_clear.2.1 me_X3_clear.2.2.1 me_X3_clear.2.2.2.1) := by decide +kernel
theorem cw_X3_copy : lw_tbl[829]? = some (.code me_X3_copy.1 me_X3_copy.2.1 me_X3_copy.2.2.1 me_X3_copy.2.2.2.1) := by decide +kernel
theorem cw_X3_toldGuards : lw_tbl[711]? = some (.code me_X3_toldGuards.1 me_X3_toldGuards.2.1 me_X3_toldGuards.2.2.1 me_X3_toldGuards.2.2.2.1) := by decide +kernel
theorem cw_X3_toldCarriers : lw_tbl[718]? = some (.code me_X3_toldCarriers.1 me_X3_toldCarriers.2.1 me_X3_toldCarriers.2.2.1 me_X3_toldCarriers.2.2.2.1) := by decide +kernel
theorem cw_X3_toldOf : lw_tbl[714]? = some (.code me_X3_toldOf.1 me_X3_toldOf.2.1 me_X3_toldOf.2.2.1 me_X3_toldOf.2.2.2.1) := by decide +kernel
theorem cw_X4_forget : lw_tbl[484]? = some (.code me_X4_forget.1 me_X4_forget.2.1 me_X4_forget.2.2.1 me_X4_forget.2.2.2.1) := by decide +kernel
theorem cw_X4_prepare : lw_tbl[563]? = some (.code me_X4_prepare.1 me_X4_prepare.2.1 me_X4_prepare.2.2.1 me_X4_prepare.2.2.2.1) := by decide +kernel
theorem cw_X4_bestFor : lw_tbl[604]? = some (.code me_X4_bestFor.1 me_X4_bestFor.2.1 me_X4_bestFor.2.2.1 me_X4_bestFor.2.2.2.1) := by decide +kernel
theorem cw_X4_leastFor : lw_tbl[599]? = some (.code me_X4_leastFor.1 me_X4_leastFor.2.1 me_X4_leastFor.2.2.1 me_X4_leastFor.2.2.2.1) := by decide +kernel
theorem cw_X4_lowerMost : lw_tbl[576]? = some (.code me_X4_lowerMost.1 me_X4_lowerMost.2.1 me_X4_lowerMost.2.2.1 me_X4_lowerMost.2.2.2.1) := by decide +kernel
theorem cw_X4_sumNumbers : lw_tbl[585]? = some (.code me_X4_sumNumbers.1 me_X4_sumNumbers.2.1 me_X4_sumNumbers.2.2.1 me_X4_sumNumbers.2.2.2.1) := by decide +kernel
theorem cw_X4_sumAddends : lw_tbl[581]? = some (.code me_X4_sumAddends.1 me_X4_sumAddends.2.1 me_X4_sumAddends.2.2.1 me_X4_sumAddends.2.2.2.1) := by decide +kernel
theorem cw_X4_offerAll : lw_tbl[589]? = some (.code me_X4_offerAll.1 me_X4_offerAll.2.1 me_X4_offerAll.2.2.1 me_X4_offerAll.2.2.2.1) := by decide +kernel
theorem cw_X4_spreadBest : lw_tbl[595]? = some (.code me_X4_spreadBest.1 me_X4_spreadBest.2.1 me_X4_spreadBest.2.2.1 me_X4_spreadBest.2.2.2.1) := by decide +kernel
theorem cw_X4_weigh : lw_tbl[624]? = some (.code me_X4_weigh.1 me_X4_weigh.2.1 me_X4_weigh.2.2.1 me_X4_weigh.2.2.2.1) := by decide +kernel
theorem cw_X4_leastPaying : lw_tbl[681]? = some (.code me_X4_leastPaying.1 me_X4_leastPaying.2.1 me_X4_leastPaying.2.2.1 me_X4_leastPaying.2.2.2.1) := by decide +kernel
theorem cw_X5_begin : lw_tbl[808]? = some (.code me_X5_begin.1 me_X5_begin.2.1 me_X5_begin.2.2.1 me_X5_begin.2.2.2.1) := by decide +kernel
theorem cw_X5_leastSum : lw_tbl[813]? = some (.code me_X5_leastSum.1 me_X5_leastSum.2.1 me_X5_leastSum.2.2.1 me_X5_leastSum.2.2.2.1) := by decide +kernel
theorem cw_X5_leastBefore : lw_tbl[817]? = some (.code me_X5_leastBefore.1 me_X5_leastBefore.2.1 me_X5_leastBefore.2.2.1 me_X5_leastBefore.2.2.2.1) := by decide +kernel
theorem cw_X6_hasRoomFor : lw_tbl[384]? = some (.code me_X6_hasRoomFor.1 me_X6_hasRoomFor.2.1 me_X6_hasRoomFor.2.2.1 me_X6_hasRoomFor.2.2.2.1) := by decide +kernel
theorem cw_X6_append : lw_tbl[388]? = some (.code me_X6_append.1 me_X6_append.2.1 me_X6_append.2.2.1 me_X6_append.2.2.2.1) := by decide +kernel
theorem cw_X6_readInto : lw_tbl[400]? = some (.code me_X6_readInto.1 me_X6_readInto.2.1 me_X6_readInto.2.2.1 me_X6_readInto.2.2.2.1) := by decide +kernel
theorem cw_X6_readNumbers : lw_tbl[409]? = some (.code me_X6_readNumbers.1 me_X6_readNumbers.2.1 me_X6_readNumbers.2.2.1 me_X6_readNumbers.2.2.2.1) := by decide +kernel
theorem cw_X6_readNumber : lw_tbl[413]? = some (.code me_X6_readNumber.1 me_X6_readNumber.2.1 me_X6_readNumber.2.2.1 me_X6_readNumber.2.2.2.1) := by decide +kernel
theorem cw_X6_nextByte : lw_tbl[405]? = some (.code me_X6_nextByte.1 me_X6_nextByte.2.1 me_X6_nextByte.2.2.1 me_X6_nextByte.2.2.2.1) := by decide +kernel
theorem cw_X6_isFigure : lw_tbl[416]? = some (.code me_X6_isFigure.1 me_X6_isFigure.2.1 me_X6_isFigure.2.2.1 me_X6_isFigure.2.2.2.1) := by decide +kernel
theorem cw_X7_survey : lw_tbl[469]? = some (.code me_X7_survey.1 me_X7_survey.2.1 me_X7_survey.2.2.1 me_X7_survey.2.2.2.1) := by decide +kernel
theorem cw_X7_follow : lw_tbl[472]? = some (.code me_X7_follow.1 me_X7_follow.2.1 me_X7_follow.2.2.1 me_X7_follow.2.2.2.1) := by decide +kernel
theorem cw_X7_add : lw_tbl[476]? = some (.code me_X7_add.1 me_X7_add.2.1 me_X7_add.2.2.1 me_X7_add.2.2.2.1) := by decide +kernel
theorem cw_X7_lengthOf : lw_tbl[632]? = some (.code me_X7_lengthOf.1 me_X7_lengthOf.2.1 me_X7_lengthOf.2.2.1 me_X7_lengthOf.2.2.2.1) := by decide +kernel
theorem cw_X7_pathAt : lw_tbl[636]? = some (.code me_X7_pathAt.1 me_X7_pathAt.2.1 me_X7_pathAt.2.2.1 me_X7_pathAt.2.2.2.1) := by decide +kernel
theorem cw_X7_leastBearing : lw_tbl[644]? = some (.code me_X7_leastBearing.1 me_X7_leastBearing.2.1 me_X7_leastBearing.2.2.1 me_X7_leastBearing.2.2.2.1) := by decide +kernel
theorem cw_X7_gainOf : lw_tbl[659]? = some (.code me_X7_gainOf.1 me_X7_gainOf.2.1 me_X7_gainOf.2.2.1 me_X7_gainOf.2.2.2.1) := by decide +kernel
theorem cw_X7_bestOf : lw_tbl[671]? = some (.code me_X7_bestOf.1 me_X7_bestOf.2.1 me_X7_bestOf.2.2.1 me_X7_bestOf.2.2.2.1) := by decide +kernel
theorem cw_X7_greatestGain : lw_tbl[686]? = some (.code me_X7_greatestGain.1 me_X7_greatestGain.2.1 me_X7_greatestGain.2.2.1 me_X7_greatestGain.2.2.2.1) := by decide +kernel
theorem cw_X8_write : lw_tbl[380]? = some (.code me_X8_write.1 me_X8_write.2.1 me_X8_write.2.2.1 me_X8_write.2.2.2.1) := by decide +kernel
theorem cw_X8_wipe : lw_tbl[392]? = some (.code me_X8_wipe.1 me_X8_wipe.2.1 me_X8_wipe.2.2.1 me_X8_wipe.2.2.2.1) := by decide +kernel
theorem cw_X8_fault : lw_tbl[396]? = some (.code me_X8_fault.1 me_X8_fault.2.1 me_X8_fault.2.2.1 me_X8_fault.2.2.2.1) := by decide +kernel
theorem cw_X8_lay : lw_tbl[445]? = some (.code me_X8_lay.1 me_X8_lay.2.1 me_X8_lay.2.2.1 me_X8_lay.2.2.2.1) := by decide +kernel
theorem cw_X8_path : lw_tbl[488]? = some (.code me_X8_path.1 me_X8_path.2.1 me_X8_path.2.2.1 me_X8_path.2.2.2.1) := by decide +kernel
theorem cw_X8_posts : lw_tbl[493]? = some (.code me_X8_posts.1 me_X8_posts.2.1 me_X8_posts.2.2.1 me_X8_posts.2.2.2.1) := by decide +kernel
theorem cw_X8_bears : lw_tbl[513]? = some (.code me_X8_bears.1 me_X8_bears.2.1 me_X8_bears.2.2.1 me_X8_bears.2.2.2.1) := by decide +kernel
theorem cw_X8_most : lw_tbl[525]? = some (.code me_X8_most.1 me_X8_most.2.1 me_X8_most.2.2.1 me_X8_most.2.2.2.1) := by decide +kernel
theorem cw_X8_row : lw_tbl[547]? = some (.code me_X8_row.1 me_X8_row.2.1 me_X8_row.2.2.1 me_X8_row.2.2.2.1) := by decide +kernel
theorem cw_X8_judge : lw_tbl[551]? = some (.code me_X8_judge.1 me_X8_judge.2.1 me_X8_judge.2.2.1 me_X8_judge.2.2.2.1) := by decide +kernel
theorem cw_X8_best : lw_tbl[559]? = some (.code me_X8_best.1 me_X8_best.2.1 me_X8_best.2.2.1 me_X8_best.2.2.2.1) := by decide +kernel
theorem cw_X8_fewest : lw_tbl[608]? = some (.code me_X8_fewest.1 me_X8_fewest.2.1 me_X8_fewest.2.2.1 me_X8_fewest.2.2.2.1) := by decide +kernel
theorem cw_X8_more : lw_tbl[612]? = some (.code me_X8_more.1 me_X8_more.2.1 me_X8_more.2.2.1 me_X8_more.2.2.2.1) := by decide +kernel
theorem cw_X8_oneMore : lw_tbl[616]? = some (.code me_X8_oneMore.1 me_X8_oneMore.2.1 me_X8_oneMore.2.2.1 me_X8_oneMore.2.2.2.1) := by decide +kernel
theorem cw_X8_weighed : lw_tbl[620]? = some (.code me_X8_weighed.1 me_X8_weighed.2.1 me_X8_weighed.2.2.1 me_X8_weighed.2.2.2.1) := by decide +kernel
theorem cw_X8_way : lw_tbl[628]? = some (.code me_X8_way.1 me_X8_way.2.1 me_X8_way.2.2.1 me_X8_way.2.2.2.1) := by decide +kernel
theorem cw_X8_through : lw_tbl[640]? = some (.code me_X8_through.1 me_X8_through.2.1 me_X8_through.2.2.1 me_X8_through.2.2.2.1) := by decide +kernel
theorem cw_X8_gain : lw_tbl[653]? = some (.code me_X8_gain.1 me_X8_gain.2.1 me_X8_gain.2.2.1 me_X8_gain.2.2.2.1) := by decide +kernel
theorem cw_X8_bestWay : lw_tbl[667]? = some (.code me_X8_bestWay.1 me_X8_bestWay.2.1 me_X8_bestWay.2.2.1 me_X8_bestWay.2.2.2.1) := by decide +kernel
theorem cw_X8_leastPay : lw_tbl[677]? = some (.code me_X8_leastPay.1 me_X8_leastPay.2.1 me_X8_leastPay.2.2.1 me_X8_leastPay.2.2.2.1) := by decide +kernel
theorem cw_X8_guard : lw_tbl[690]? = some (.code me_X8_guard.1 me_X8_guard.2.1 me_X8_guard.2.2.1 me_X8_guard.2.2.2.1) := by decide +kernel
theorem cw_X8_carrier : lw_tbl[694]? = some (.code me_X8_carrier.1 me_X8_carrier.2.1 me_X8_carrier.2.2.1 me_X8_carrier.2.2.2.1) := by decide +kernel
theorem cw_X8_value : lw_tbl[698]? = some (.code me_X8_value.1 me_X8_value.2.1 me_X8_value.2.2.1 me_X8_value.2.2.2.1) := by decide +kernel
theorem cw_X8_chance : lw_tbl[786]? = some (.code me_X8_chance.1 me_X8_chance.2.1 me_X8_chance.2.2.1 me_X8_chance.2.2.2.1) := by decide +kernel
theorem cw_X8_tenths : lw_tbl[790]? = some (.code me_X8_tenths.1 me_X8_tenths.2.1 me_X8_tenths.2.2.1 me_X8_tenths.2.2.2.1) := by decide +kernel
theorem cw_X8_told : lw_tbl[794]? = some (.code me_X8_told.1 me_X8_told.2.1 me_X8_told.2.2.1 me_X8_told.2.2.2.1) := by decide +kernel
theorem cw_X8_nights : lw_tbl[803]? = some (.code me_X8_nights.1 me_X8_nights.2.1 me_X8_nights.2.2.1 me_X8_nights.2.2.2.1) := by decide +kernel
theorem cw_X8_keep : lw_tbl[825]? = some (.code me_X8_keep.1 me_X8_keep.2.1 me_X8_keep.2.2.1 me_X8_keep.2.2.2.1) := by decide +kernel
theorem cw_X8_back : lw_tbl[834]? = some (.code me_X8_back.1 me_X8_back.2.1 me_X8_back.2.2.1 me_X8_back.2.2.2.1) := by decide +kernel
theorem cw_X8_count : lw_tbl[838]? = some (.code me_X8_count.1 me_X8_count.2.1 me_X8_count.2.2.1 me_X8_count.2.2.2.1) := by decide +kernel
theorem cw_X8_survey : lw_tbl[458]? = some (.code me_X8_survey.1 me_X8_survey.2.1 me_X8_survey.2.2.1 me_X8_survey.2.2.2.1) := by decide +kernel
theorem cw_X8_mostBy : lw_tbl[529]? = some (.code me_X8_mostBy.1 me_X8_mostBy.2.1 me_X8_mostBy.2.2.1 me_X8_mostBy.2.2.2.1) := by decide +kernel
theorem cw_X8_playGame : lw_tbl[703]? = some (.code me_X8_playGame.1 me_X8_playGame.2.1 me_X8_playGame.2.2.1 me_X8_playGame.2.2.2.1) := by decide +kernel
theorem cw_X8_setUpGame : lw_tbl[707]? = some (.code me_X8_setUpGame.1 me_X8_setUpGame.2.1 me_X8_setUpGame.2.2.1 me_X8_setUpGame.2.2.2.1) := by decide +kernel
theorem cw_X9_in : lw_tbl[960]? = some (.code me_X9_in.1 me_X9_in.2.1 me_X9_in.2.2.1 me_X9_in.2.2.2.1) := by decide +kernel
theorem cw_X9_has : lw_tbl[1029]? = some (.code me_X9_has.1 me_X9_has.2.1 me_X9_has.2.2.1 me_X9_has.2.2.2.1) := by decide +kernel
theorem cw_X9_bits : lw_tbl[1190]? = some (.code me_X9_bits.1 me_X9_bits.2.1 me_X9_bits.2.2.1 me_X9_bits.2.2.2.1) := by decide +kernel
theorem cw_X9_noLand : lw_tbl[848]? = some (.code me_X9_noLand.1 me_X9_noLand.2.1 me_X9_noLand.2.2.1 me_X9_noLand.2.2.2.1) := by decide +kernel
theorem cw_X9_noPlayers : lw_tbl[852]? = some (.code me_X9_noPlayers.1 me_X9_noPlayers.2.1 me_X9_noPlayers.2.2.1 me_X9_noPlayers.2.2.2.1) := by decide +kernel
theorem cw_X9_write : lw_tbl[956]? = some (.code me_X9_write.1 me_X9_write.2.1 me_X9_write.2.2.1 me_X9_write.2.2.2.1) := by decide +kernel
theorem cw_X9_wipe : lw_tbl[965]? = some (.code me_X9_wipe.1 me_X9_wipe.2.1 me_X9_wipe.2.2.1 me_X9_wipe.2.2.2.1) := by decide +kernel
theorem cw_X9_byteAt : lw_tbl[981]? = some (.code me_X9_byteAt.1 me_X9_byteAt.2.1 me_X9_byteAt.2.2.1 me_X9_byteAt.2.2.2.1) := by decide +kernel
theorem cw_X9_figures : lw_tbl[989]? = some (.code me_X9_figures.1 me_X9_figures.2.1 me_X9_figures.2.2.1 me_X9_figures.2.2.2.1) := by decide +kernel
theorem cw_X9_pathItem : lw_tbl[985]? = some (.code me_X9_pathItem.1 me_X9_pathItem.2.1 me_X9_pathItem.2.2.1 me_X9_pathItem.2.2.2.1) := by decide +kernel
theorem cw_X9_towerItem : lw_tbl[996]? = some (.code me_X9_towerItem.1 me_X9_towerItem.2.1 me_X9_towerItem.2.2.1 me_X9_towerItem.2.2.2.1) := by decide +kernel
theorem cw_X9_item : lw_tbl[977]? = some (.code me_X9_item.1 me_X9_item.2.1 me_X9_item.2.2.1 me_X9_item.2.2.2.1) := by decide +kernel
theorem cw_X9_readAll : lw_tbl[973]? = some (.code me_X9_readAll.1 me_X9_readAll.2.1 me_X9_readAll.2.2.1 me_X9_readAll.2.2.2.1) := by decide +kernel
theorem cw_X9_fault : lw_tbl[969]? = some (.code me_X9_fault.1 me_X9_fault.2.1 me_X9_fault.2.2.1 me_X9_fault.2.2.2.1) := by decide +kernel
theorem cw_X9_copyLand : lw_tbl[1004]? = some (.code me_X9_copyLand.1 me_X9_copyLand.2.1 me_X9_copyLand.2.2.1 me_X9_copyLand.2.2.2.1) := by decide +kernel
theorem cw_X9_lay : lw_tbl[1000]? = some (.code me_X9_lay.1 me_X9_lay.2.1 me_X9_lay.2.2.1 me_X9_lay.2.2.2.1) := by decide +kernel
theorem cw_X9_isPath : lw_tbl[1012]? = some (.code me_X9_isPath.1 me_X9_isPath.2.1 me_X9_isPath.2.2.1 me_X9_isPath.2.2.2.1) := by decide +kernel
theorem cw_X9_path : lw_tbl[1008]? = some (.code me_X9_path.1 me_X9_path.2.1 me_X9_path.2.2.1 me_X9_path.2.2.2.1) := by decide +kernel
theorem cw_X9_arePosts : lw_tbl[1021]? = some (.code me_X9_arePosts.1 me_X9_arePosts.2.1 me_X9_arePosts.2.2.1 me_X9_arePosts.2.2.2.1) := by decide +kernel
theorem cw_X9_costOf : lw_tbl[1026]? = some (.code me_X9_costOf.1 me_X9_costOf.2.1 me_X9_costOf.2.2.1 me_X9_costOf.2.2.2.1) := by decide +kernel
theorem cw_X9_heldBy : lw_tbl[1033]? = some (.code me_X9_heldBy.1 me_X9_heldBy.2.1 me_X9_heldBy.2.2.1 me_X9_heldBy.2.2.2.1) := by decide +kernel
theorem cw_X9_waitsBy : lw_tbl[1037]? = some (.code me_X9_waitsBy.1 me_X9_waitsBy.2.1 me_X9_waitsBy.2.2.1 me_X9_waitsBy.2.2.2.1) := by decide +kernel
theorem cw_X9_posts : lw_tbl[1017]? = some (.code me_X9_posts.1 me_X9_posts.2.1 me_X9_posts.2.2.1 me_X9_posts.2.2.2.1) := by decide +kernel
theorem cw_X9_bearsWith : lw_tbl[1045]? = some (.code me_X9_bearsWith.1 me_X9_bearsWith.2.1 me_X9_bearsWith.2.2.1 me_X9_bearsWith.2.2.2.1) := by decide +kernel
theorem cw_X9_bears : lw_tbl[1041]? = some (.code me_X9_bears.1 me_X9_bears.2.1 me_X9_bears.2.2.1 me_X9_bears.2.2.2.1) := by decide +kernel
theorem cw_X9_spread : lw_tbl[1057]? = some (.code me_X9_spread.1 me_X9_spread.2.1 me_X9_spread.2.2.1 me_X9_spread.2.2.2.1) := by decide +kernel
theorem cw_X9_push : lw_tbl[1061]? = some (.code me_X9_push.1 me_X9_push.2.1 me_X9_push.2.2.1 me_X9_push.2.2.2.1) := by decide +kernel
theorem cw_X9_flow : lw_tbl[1053]? = some (.code me_X9_flow.1 me_X9_flow.2.1 me_X9_flow.2.2.1 me_X9_flow.2.2.2.1) := by decide +kernel
theorem cw_X9_mostBy : lw_tbl[1093]? = some (.code me_X9_mostBy.1 me_X9_mostBy.2.1 me_X9_mostBy.2.2.1 me_X9_mostBy.2.2.2.1) := by decide +kernel
theorem cw_X9_most : lw_tbl[1049]? = some (.code me_X9_most.1 me_X9_most.2.1 me_X9_most.2.2.1 me_X9_most.2.2.2.1) := by decide +kernel
theorem cw_X9_row : lw_tbl[1066]? = some (.code me_X9_row.1 me_X9_row.2.1 me_X9_row.2.2.1 me_X9_row.2.2.2.1) := by decide +kernel
theorem cw_X9_comeTo : lw_tbl[1076]? = some (.code me_X9_comeTo.1 me_X9_comeTo.2.1 me_X9_comeTo.2.2.1 me_X9_comeTo.2.2.2.1) := by decide +kernel
theorem cw_X9_judge : lw_tbl[1072]? = some (.code me_X9_judge.1 me_X9_judge.2.1 me_X9_judge.2.2.1 me_X9_judge.2.2.2.1) := by decide +kernel
theorem cw_X9_setMany : lw_tbl[1089]? = some (.code me_X9_setMany.1 me_X9_setMany.2.1 me_X9_setMany.2.2.1 me_X9_setMany.2.2.2.1) := by decide +kernel
theorem cw_X9_bestFor : lw_tbl[1085]? = some (.code me_X9_bestFor.1 me_X9_bestFor.2.1 me_X9_bestFor.2.2.1 me_X9_bestFor.2.2.2.1) := by decide +kernel
theorem cw_X9_best : lw_tbl[1080]? = some (.code me_X9_best.1 me_X9_best.2.1 me_X9_best.2.2.1 me_X9_best.2.2.2.1) := by decide +kernel
theorem cw_X9_fewest : lw_tbl[1097]? = some (.code me_X9_fewest.1 me_X9_fewest.2.1 me_X9_fewest.2.2.1 me_X9_fewest.2.2.2.1) := by decide +kernel
theorem cw_X9_more : lw_tbl[1102]? = some (.code me_X9_more.1 me_X9_more.2.1 me_X9_more.2.2.1 me_X9_more.2.2.2.1) := by decide +kernel
theorem cw_X9_oneMore : lw_tbl[1106]? = some (.code me_X9_oneMore.1 me_X9_oneMore.2.1 me_X9_oneMore.2.2.1 me_X9_oneMore.2.2.2.1) := by decide +kernel
theorem cw_X9_weigh : lw_tbl[1114]? = some (.code me_X9_weigh.1 me_X9_weigh.2.1 me_X9_weigh.2.2.1 me_X9_weigh.2.2.2.1) := by decide +kernel
theorem cw_X9_weighed : lw_tbl[1110]? = some (.code me_X9_weighed.1 me_X9_weighed.2.1 me_X9_weighed.2.2.1 me_X9_weighed.2.2.2.1) := by decide +kernel
theorem cw_X9_seenBy : lw_tbl[1126]? = some (.code me_X9_seenBy.1 me_X9_seenBy.2.1 me_X9_seenBy.2.2.1 me_X9_seenBy.2.2.2.1) := by decide +kernel
theorem cw_X9_layWays : lw_tbl[1122]? = some (.code me_X9_layWays.1 me_X9_layWays.2.1 me_X9_layWays.2.2.1 me_X9_layWays.2.2.2.1) := by decide +kernel
theorem cw_X9_noteWay : lw_tbl[1130]? = some (.code me_X9_noteWay.1 me_X9_noteWay.2.1 me_X9_noteWay.2.2.1 me_X9_noteWay.2.2.2.1) := by decide +kernel
theorem cw_X9_way : lw_tbl[1118]? = some (.code me_X9_way.1 me_X9_way.2.1 me_X9_way.2.2.1 me_X9_way.2.2.2.1) := by decide +kernel
theorem cw_X9_throughBy : lw_tbl[1138]? = some (.code me_X9_throughBy.1 me_X9_throughBy.2.1 me_X9_throughBy.2.2.1 me_X9_throughBy.2.2.2.1) := by decide +kernel
theorem cw_X9_through : lw_tbl[1134]? = some (.code me_X9_through.1 me_X9_through.2.1 me_X9_through.2.2.1 me_X9_through.2.2.2.1) := by decide +kernel
theorem cw_X9_gainBy : lw_tbl[1147]? = some (.code me_X9_gainBy.1 me_X9_gainBy.2.1 me_X9_gainBy.2.2.1 me_X9_gainBy.2.2.2.1) := by decide +kernel
theorem cw_X9_gain : lw_tbl[1142]? = some (.code me_X9_gain.1 me_X9_gain.2.1 me_X9_gain.2.2.1 me_X9_gain.2.2.2.1) := by decide +kernel
theorem cw_X9_bestWayBy : lw_tbl[1158]? = some (.code me_X9_bestWayBy.1 me_X9_bestWayBy.2.1 me_X9_bestWayBy.2.2.1 me_X9_bestWayBy.2.2.2.1) := by decide +kernel
theorem cw_X9_elseParts : lw_tbl[1162]? = some (.code me_X9_elseParts.1 me_X9_elseParts.2.1 me_X9_elseParts.2.2.1 me_X9_elseParts.2.2.2.1) := by decide +kernel
theorem cw_X9_bestWay : lw_tbl[1154]? = some (.code me_X9_bestWay.1 me_X9_bestWay.2.1 me_X9_bestWay.2.2.1 me_X9_bestWay.2.2.2.1) := by decide +kernel
theorem cw_X9_leastPay : lw_tbl[1166]? = some (.code me_X9_leastPay.1 me_X9_leastPay.2.1 me_X9_leastPay.2.2.1 me_X9_leastPay.2.2.2.1) := by decide +kernel
theorem cw_X9_guard : lw_tbl[1170]? = some (.code me_X9_guard.1 me_X9_guard.2.1 me_X9_guard.2.2.1 me_X9_guard.2.2.2.1) := by decide +kernel
theorem cw_X9_carrier : lw_tbl[1174]? = some (.code me_X9_carrier.1 me_X9_carrier.2.1 me_X9_carrier.2.2.1 me_X9_carrier.2.2.2.1) := by decide +kernel
theorem cw_X9_game : lw_tbl[1210]? = some (.code me_X9_game.1 me_X9_game.2.1 me_X9_game.2.2.1 me_X9_game.2.2.2.1) := by decide +kernel
theorem cw_X9_toldOnes : lw_tbl[1187]? = some (.code me_X9_toldOnes.1 me_X9_toldOnes.2.1 me_X9_toldOnes.2.2.1 me_X9_toldOnes.2.2.2.1) := by decide +kernel
theorem cw_X9_determinant : lw_tbl[1214]? = some (.code me_X9_determinant.1 me_X9_determinant.2.1 me_X9_determinant.2.2.1 me_X9_determinant.2.2.2.1) := by decide +kernel
theorem cw_X9_layCells : lw_tbl[1206]? = some (.code me_X9_layCells.1 me_X9_layCells.2.1 me_X9_layCells.2.2.1 me_X9_layCells.2.2.2.1) := by decide +kernel
theorem cw_X9_layMembers : lw_tbl[1198]? = some (.code me_X9_layMembers.1 me_X9_layMembers.2.1 me_X9_layMembers.2.2.1 me_X9_layMembers.2.2.2.1) := by decide +kernel
theorem cw_X9_solve : lw_tbl[1202]? = some (.code me_X9_solve.1 me_X9_solve.2.1 me_X9_solve.2.2.1 me_X9_solve.2.2.2.1) := by decide +kernel
theorem cw_X9_holds : lw_tbl[1218]? = some (.code me_X9_holds.1 me_X9_holds.2.1 me_X9_holds.2.2.1 me_X9_holds.2.2.2.1) := by decide +kernel
theorem cw_X9_isSupport : lw_tbl[1194]? = some (.code me_X9_isSupport.1 me_X9_isSupport.2.1 me_X9_isSupport.2.2.1 me_X9_isSupport.2.2.2.1) := by decide +kernel
theorem cw_X9_play : lw_tbl[1183]? = some (.code me_X9_play.1 me_X9_play.2.1 me_X9_play.2.2.1 me_X9_play.2.2.2.1) := by decide +kernel
theorem cw_X9_common : lw_tbl[1224]? = some (.code me_X9_common.1 me_X9_common.2.1 me_X9_common.2.2.1 me_X9_common.2.2.2.1) := by decide +kernel
theorem cw_X9_lowest : lw_tbl[1221]? = some (.code me_X9_lowest.1 me_X9_lowest.2.1 me_X9_lowest.2.2.1 me_X9_lowest.2.2.2.1) := by decide +kernel
theorem cw_X9_value : lw_tbl[1179]? = some (.code me_X9_value.1 me_X9_value.2.1 me_X9_value.2.2.1 me_X9_value.2.2.2.1) := by decide +kernel
theorem cw_X9_chance : lw_tbl[1229]? = some (.code me_X9_chance.1 me_X9_chance.2.1 me_X9_chance.2.2.1 me_X9_chance.2.2.2.1) := by decide +kernel
theorem cw_X9_tenths : lw_tbl[1233]? = some (.code me_X9_tenths.1 me_X9_tenths.2.1 me_X9_tenths.2.2.1 me_X9_tenths.2.2.2.1) := by decide +kernel
theorem cw_X9_told : lw_tbl[1238]? = some (.code me_X9_told.1 me_X9_told.2.1 me_X9_told.2.2.1 me_X9_told.2.2.2.1) := by decide +kernel
theorem cw_X9_nights : lw_tbl[1242]? = some (.code me_X9_nights.1 me_X9_nights.2.1 me_X9_nights.2.2.1 me_X9_nights.2.2.2.1) := by decide +kernel
theorem cw_X9_copy : lw_tbl[1252]? = some (.code me_X9_copy.1 me_X9_copy.2.1 me_X9_copy.2.2.1 me_X9_copy.2.2.2.1) := by decide +kernel
theorem cw_X9_keep : lw_tbl[1248]? = some (.code me_X9_keep.1 me_X9_keep.2.1 me_X9_keep.2.2.1 me_X9_keep.2.2.2.1) := by decide +kernel
theorem cw_X9_back : lw_tbl[1256]? = some (.code me_X9_back.1 me_X9_back.2.1 me_X9_back.2.2.1 me_X9_back.2.2.2.1) := by decide +kernel
theorem cw_X9_count : lw_tbl[1260]? = some (.code me_X9_count.1 me_X9_count.2.1 me_X9_count.2.2.1 me_X9_count.2.2.2.1) := by decide +kernel
theorem cw_J6_numberOfTrailingZeros_0f7a4 : lw_tbl[764]? = some (.code me_J6_numberOfTrailingZeros_0f7a4.1 me_J6_numberOfTrailingZeros_0f7a4.2.1 me_J6_numberOfTrailingZeros_0f7a4.2.2.1 me_J6_numberOfTrailingZeros_0f7a4.2.2.2.1) := by decide +kernel
theorem cw_J6_bitCount_0f7a4 : lw_tbl[728]? = some (.code me_J6_bitCount_0f7a4.1 me_J6_bitCount_0f7a4.2.1 me_J6_bitCount_0f7a4.2.2.1 me_J6_bitCount_0f7a4.2.2.2.1) := by decide +kernel
theorem cw_J7_fill_d0a16 : lw_tbl[742]? = some (.code me_J7_fill_d0a16.1 me_J7_fill_d0a16.2.1 me_J7_fill_d0a16.2.2.1 me_J7_fill_d0a16.2.2.2.1) := by decide +kernel
theorem cw_J7_fill_53178 : lw_tbl[125]? = some (.code me_J7_fill_53178.1 me_J7_fill_53178.2.1 me_J7_fill_53178.2.2.1 me_J7_fill_53178.2.2.2.1) := by decide +kernel
theorem cw_X2_hundredthsThrough : lw_tbl[521]? = some (.code me_X2_hundredthsThrough.1 me_X2_hundredthsThrough.2.1 me_X2_hundredthsThrough.2.2.1 me_X2_hundredthsThrough.2.2.2.1) := by decide +kernel
theorem cw_X2_carryingOn : lw_tbl[480]? = some (.code me_X2_carryingOn.1 me_X2_carryingOn.2.1 me_X2_carryingOn.2.2.1 me_X2_carryingOn.2.2.2.1) := by decide +kernel
def bg_cwl : List bg_M → Prop
  | [] => True
  | M :: l => Cond.code M.1 M.2.1 M.2.2.1 M.2.2.2.1 ∈ lw_tbl ∧ bg_cwl l
theorem bg_cw_all : bg_cwl bg_MS := ⟨List.mem_of_getElem? cw_X0_init, ⟨List.mem_of_getElem? cw_X1_init, ⟨List.mem_of_getElem? cw_X2_init, ⟨List.mem_of_getElem? cw_X3_init, ⟨List.mem_of_getElem? cw_X4_init, ⟨List.mem_of_getElem? cw_X5_init, ⟨List.mem_of_getElem? cw_X6_init, ⟨List.mem_of_getElem? cw_X7_init, ⟨List.mem_of_getElem? cw_X8_init, ⟨List.mem_of_getElem? cw_X9_init, ⟨List.mem_of_getElem? cw_X0_survey, ⟨List.mem_of_getElem? cw_X0_weigh, ⟨List.mem_of_getElem? cw_X0_outOfShore, ⟨List.mem_of_getElem? cw_X0_isNeeded, ⟨List.mem_of_getElem? cw_X0_sumOver, ⟨List.mem_of_getElem? cw_X0_placesOf, ⟨List.mem_of_getElem? cw_X1_findSupport, ⟨List.mem_of_getElem? cw_X1_findCarriers, ⟨List.mem_of_getElem? cw_X1_isSetOf, ⟨List.mem_of_getElem? cw_X1_mixes, ⟨List.mem_of_getElem? cw_X1_turnSigns, ⟨List.mem_of_getElem? cw_X1_areAllAbove0, ⟨List.mem_of_getElem? cw_X1_signedMinor, ⟨List.mem_of_getElem? cw_X1_fillLine, ⟨List.mem_of_getElem? cw_X1_minorOf, ⟨List.mem_of_getElem? cw_X1_noneDoesBetter, ⟨List.mem_of_getElem? cw_X1_meanBy, ⟨List.mem_of_getElem? cw_X1_meanOf, ⟨List.mem_of_getElem? cw_X1_lowest, ⟨List.mem_of_getElem? cw_X1_worthOfBeingTold, ⟨List.mem_of_getElem? cw_X2_clear, ⟨List.mem_of_getElem? cw_X2_copy, ⟨List.mem_of_getElem? cw_X2_takes, ⟨List.mem_of_getElem? cw_X2_takesNumber, ⟨List.mem_of_getElem? cw_X2_takesPath, ⟨List.mem_of_getElem? cw_X2_takesTower, ⟨List.mem_of_getElem? cw_X2_hasPath, ⟨List.mem_of_getElem? cw_X2_hasPosts, ⟨List.mem_of_getElem? cw_X2_costOf, ⟨List.mem_of_getElem? cw_X2_heldBy, ⟨List.mem_of_getElem? cw_X2_waitsOf, ⟨List.mem_of_getElem? cw_X2_bearing, ⟨List.mem_of_getElem? cw_X2_comesMoreThanGoes, ⟨List.mem_of_getElem? cw_X3_clear, ⟨List.mem_of_getElem? cw_X3_copy, ⟨List.mem_of_getElem? cw_X3_toldGuards, ⟨List.mem_of_getElem? cw_X3_toldCarriers, ⟨List.mem_of_getElem? cw_X3_toldOf, ⟨List.mem_of_getElem? cw_X4_forget, ⟨List.mem_of_getElem? cw_X4_prepare, ⟨List.mem_of_getElem? cw_X4_bestFor, ⟨List.mem_of_getElem? cw_X4_leastFor, ⟨List.mem_of_getElem? cw_X4_lowerMost, ⟨List.mem_of_getElem? cw_X4_sumNumbers, ⟨List.mem_of_getElem? cw_X4_sumAddends, ⟨List.mem_of_getElem? cw_X4_offerAll, ⟨List.mem_of_getElem? cw_X4_spreadBest, ⟨List.mem_of_getElem? cw_X4_weigh, ⟨List.mem_of_getElem? cw_X4_leastPaying, ⟨List.mem_of_getElem? cw_X5_begin, ⟨List.mem_of_getElem? cw_X5_leastSum, ⟨List.mem_of_getElem? cw_X5_leastBefore, ⟨List.mem_of_getElem? cw_X6_hasRoomFor, ⟨List.mem_of_getElem? cw_X6_append, ⟨List.mem_of_getElem? cw_X6_readInto, ⟨List.mem_of_getElem? cw_X6_readNumbers, ⟨List.mem_of_getElem? cw_X6_readNumber, ⟨List.mem_of_getElem? cw_X6_nextByte, ⟨List.mem_of_getElem? cw_X6_isFigure, ⟨List.mem_of_getElem? cw_X7_survey, ⟨List.mem_of_getElem? cw_X7_follow, ⟨List.mem_of_getElem? cw_X7_add, ⟨List.mem_of_getElem? cw_X7_lengthOf, ⟨List.mem_of_getElem? cw_X7_pathAt, ⟨List.mem_of_getElem? cw_X7_leastBearing, ⟨List.mem_of_getElem? cw_X7_gainOf, ⟨List.mem_of_getElem? cw_X7_bestOf, ⟨List.mem_of_getElem? cw_X7_greatestGain, ⟨List.mem_of_getElem? cw_X8_write, ⟨List.mem_of_getElem? cw_X8_wipe, ⟨List.mem_of_getElem? cw_X8_fault, ⟨List.mem_of_getElem? cw_X8_lay, ⟨List.mem_of_getElem? cw_X8_path, ⟨List.mem_of_getElem? cw_X8_posts, ⟨List.mem_of_getElem? cw_X8_bears, ⟨List.mem_of_getElem? cw_X8_most, ⟨List.mem_of_getElem? cw_X8_row, ⟨List.mem_of_getElem? cw_X8_judge, ⟨List.mem_of_getElem? cw_X8_best, ⟨List.mem_of_getElem? cw_X8_fewest, ⟨List.mem_of_getElem? cw_X8_more, ⟨List.mem_of_getElem? cw_X8_oneMore, ⟨List.mem_of_getElem? cw_X8_weighed, ⟨List.mem_of_getElem? cw_X8_way, ⟨List.mem_of_getElem? cw_X8_through, ⟨List.mem_of_getElem? cw_X8_gain, ⟨List.mem_of_getElem? cw_X8_bestWay, ⟨List.mem_of_getElem? cw_X8_leastPay, ⟨List.mem_of_getElem? cw_X8_guard, ⟨List.mem_of_getElem? cw_X8_carrier, ⟨List.mem_of_getElem? cw_X8_value, ⟨List.mem_of_getElem? cw_X8_chance, ⟨List.mem_of_getElem? cw_X8_tenths, ⟨List.mem_of_getElem? cw_X8_told, ⟨List.mem_of_getElem? cw_X8_nights, ⟨List.mem_of_getElem? cw_X8_keep, ⟨List.mem_of_getElem? cw_X8_back, ⟨List.mem_of_getElem? cw_X8_count, ⟨List.mem_of_getElem? cw_X8_survey, ⟨List.mem_of_getElem? cw_X8_mostBy, ⟨List.mem_of_getElem? cw_X8_playGame, ⟨List.mem_of_getElem? cw_X8_setUpGame, ⟨List.mem_of_getElem? cw_X9_in, ⟨List.mem_of_getElem? cw_X9_has, ⟨List.mem_of_getElem? cw_X9_bits, ⟨List.mem_of_getElem? cw_X9_noLand, ⟨List.mem_of_getElem? cw_X9_noPlayers, ⟨List.mem_of_getElem? cw_X9_write, ⟨List.mem_of_getElem? cw_X9_wipe, ⟨List.mem_of_getElem? cw_X9_byteAt, ⟨List.mem_of_getElem? cw_X9_figures, ⟨List.mem_of_getElem? cw_X9_pathItem, ⟨List.mem_of_getElem? cw_X9_towerItem, ⟨List.mem_of_getElem? cw_X9_item, ⟨List.mem_of_getElem? cw_X9_readAll, ⟨List.mem_of_getElem? cw_X9_fault, ⟨List.mem_of_getElem? cw_X9_copyLand, ⟨List.mem_of_getElem? cw_X9_lay, ⟨List.mem_of_getElem? cw_X9_isPath, ⟨List.mem_of_getElem? cw_X9_path, ⟨List.mem_of_getElem? cw_X9_arePosts, ⟨List.mem_of_getElem? cw_X9_costOf, ⟨List.mem_of_getElem? cw_X9_heldBy, ⟨List.mem_of_getElem? cw_X9_waitsBy, ⟨List.mem_of_getElem? cw_X9_posts, ⟨List.mem_of_getElem? cw_X9_bearsWith, ⟨List.mem_of_getElem? cw_X9_bears, ⟨List.mem_of_getElem? cw_X9_spread, ⟨List.mem_of_getElem? cw_X9_push, ⟨List.mem_of_getElem? cw_X9_flow, ⟨List.mem_of_getElem? cw_X9_mostBy, ⟨List.mem_of_getElem? cw_X9_most, ⟨List.mem_of_getElem? cw_X9_row, ⟨List.mem_of_getElem? cw_X9_comeTo, ⟨List.mem_of_getElem? cw_X9_judge, ⟨List.mem_of_getElem? cw_X9_setMany, ⟨List.mem_of_getElem? cw_X9_bestFor, ⟨List.mem_of_getElem? cw_X9_best, ⟨List.mem_of_getElem? cw_X9_fewest, ⟨List.mem_of_getElem? cw_X9_more, ⟨List.mem_of_getElem? cw_X9_oneMore, ⟨List.mem_of_getElem? cw_X9_weigh, ⟨List.mem_of_getElem? cw_X9_weighed, ⟨List.mem_of_getElem? cw_X9_seenBy, ⟨List.mem_of_getElem? cw_X9_layWays, ⟨List.mem_of_getElem? cw_X9_noteWay, ⟨List.mem_of_getElem? cw_X9_way, ⟨List.mem_of_getElem? cw_X9_throughBy, ⟨List.mem_of_getElem? cw_X9_through, ⟨List.mem_of_getElem? cw_X9_gainBy, ⟨List.mem_of_getElem? cw_X9_gain, ⟨List.mem_of_getElem? cw_X9_bestWayBy, ⟨List.mem_of_getElem? cw_X9_elseParts, ⟨List.mem_of_getElem? cw_X9_bestWay, ⟨List.mem_of_getElem? cw_X9_leastPay, ⟨List.mem_of_getElem? cw_X9_guard, ⟨List.mem_of_getElem? cw_X9_carrier, ⟨List.mem_of_getElem? cw_X9_game, ⟨List.mem_of_getElem? cw_X9_toldOnes, ⟨List.mem_of_getElem? cw_X9_determinant, ⟨List.mem_of_getElem? cw_X9_layCells, ⟨List.mem_of_getElem? cw_X9_layMembers, ⟨List.mem_of_getElem? cw_X9_solve, ⟨List.mem_of_getElem? cw_X9_holds, ⟨List.mem_of_getElem? cw_X9_isSupport, ⟨List.mem_of_getElem? cw_X9_play, ⟨List.mem_of_getElem? cw_X9_common, ⟨List.mem_of_getElem? cw_X9_lowest, ⟨List.mem_of_getElem? cw_X9_value, ⟨List.mem_of_getElem? cw_X9_chance, ⟨List.mem_of_getElem? cw_X9_tenths, ⟨List.mem_of_getElem? cw_X9_told, ⟨List.mem_of_getElem? cw_X9_nights, ⟨List.mem_of_getElem? cw_X9_copy, ⟨List.mem_of_getElem? cw_X9_keep, ⟨List.mem_of_getElem? cw_X9_back, ⟨List.mem_of_getElem? cw_X9_count, ⟨List.mem_of_getElem? cw_J6_numberOfTrailingZeros_0f7a4, ⟨List.mem_of_getElem? cw_J6_bitCount_0f7a4, ⟨List.mem_of_getElem? cw_J7_fill_d0a16, ⟨List.mem_of_getElem? cw_J7_fill_53178, ⟨List.mem_of_getElem? cw_X2_hundredthsThrough, ⟨List.mem_of_getElem? cw_X2_carryingOn, trivial⟩⟩⟩⟩⟩⟩⟩⟩⟩⟩⟩⟩⟩⟩⟩⟩⟩⟩⟩⟩⟩⟩⟩⟩⟩⟩⟩⟩⟩⟩⟩⟩⟩⟩⟩⟩⟩⟩⟩⟩⟩⟩⟩⟩⟩⟩⟩⟩⟩⟩⟩⟩⟩⟩⟩⟩⟩⟩⟩⟩⟩⟩⟩⟩⟩⟩⟩⟩⟩⟩⟩⟩⟩⟩⟩⟩⟩⟩⟩⟩⟩⟩⟩⟩⟩⟩⟩⟩⟩⟩⟩⟩⟩⟩⟩⟩⟩⟩⟩⟩⟩⟩⟩⟩⟩⟩⟩⟩⟩⟩⟩⟩⟩⟩⟩⟩⟩⟩⟩⟩⟩⟩⟩⟩⟩⟩⟩⟩⟩⟩⟩⟩⟩⟩⟩⟩⟩⟩⟩⟩⟩⟩⟩⟩⟩⟩⟩⟩⟩⟩⟩⟩⟩⟩⟩⟩⟩⟩⟩⟩⟩⟩⟩⟩⟩⟩⟩⟩⟩⟩⟩⟩⟩⟩⟩⟩⟩⟩⟩⟩⟩⟩⟩⟩⟩⟩⟩⟩⟩⟩⟩⟩⟩
theorem bg_cw_of : ∀ (l : List bg_M), bg_cwl l → ∀ (k : Nat) (M : bg_M), bg_nth l k = some M → Cond.code M.1 M.2.1 M.2.2.1 M.2.2.2.1 ∈ bg_tbl
  | [], _, k, M, h => by simp [bg_nth] at h
  | M0 :: l, h, 0, M, hk => by cases hk; exact List.mem_filter.mpr ⟨h.1, rfl⟩
  | M0 :: l, h, k + 1, M, hk => bg_cw_of l h.2 k M hk
theorem okm_X0_init : bg_okm me_X0_init 0 (171, 72, 2, 170, 0) = true := by decide +kernel
theorem okm_X1_init : bg_okm me_X1_init 1 (284, 76, 2, 283, 0) = true := by decide +kernel
theorem okm_X2_init : bg_okm me_X2_init 2 (115, 70, 2, 114, 0) = true := by decide +kernel
theorem okm_X3_init : bg_okm me_X3_init 3 (264, 75, 2, 263, 0) = true := by decide +kernel
theorem okm_X4_init : bg_okm me_X4_init 4 (219, 74, 2, 218, 0) = true := by decide +kernel
theorem okm_X5_init : bg_okm me_X5_init 5 (317, 77, 2, 316, 0) = true := by decide +kernel
theorem okm_X6_init : bg_okm me_X6_init 6 (94, 69, 2, 93, 0) = true := by decide +kernel
theorem okm_X7_init : bg_okm me_X7_init 7 (193, 73, 2, 192, 0) = true := by decide +kernel
theorem okm_X8_init : bg_okm me_X8_init 8 (86, 68, 2, 85, 0) = true := by decide +kernel
theorem okm_X9_init : bg_okm me_X9_init 9 (843, 78, 2, 842, 0) = true := by decide +kernel
theorem okm_X0_survey : bg_okm me_X0_survey 10 (462, 72, 1, 460, 461) = true := by decide +kernel
theorem okm_X0_weigh : bg_okm me_X0_weigh 11 (533, 72, 1, 531, 532) = true := by decide +kernel
theorem okm_X0_outOfShore : bg_okm me_X0_outOfShore 12 (543, 72, 1, 541, 542) = true := by decide +kernel
theorem okm_X0_isNeeded : bg_okm me_X0_isNeeded 13 (572, 72, 1, 570, 571) = true := by decide +kernel
theorem okm_X0_sumOver : bg_okm me_X0_sumOver 14 (539, 72, 1, 538, 9) = true := by decide +kernel
theorem okm_X0_placesOf : bg_okm me_X0_placesOf 15 (465, 72, 0, 464, 0) = true := by decide +kernel
theorem okm_X1_findSupport : bg_okm me_X1_findSupport 16 (722, 76, 1, 720, 721) = true := by decide +kernel
theorem okm_X1_findCarriers : bg_okm me_X1_findCarriers 17 (735, 76, 1, 734, 17) = true := by decide +kernel
theorem okm_X1_isSetOf : bg_okm me_X1_isSetOf 18 (725, 76, 0, 724, 0) = true := by decide +kernel
theorem okm_X1_mixes : bg_okm me_X1_mixes 19 (739, 76, 1, 738, 18) = true := by decide +kernel
theorem okm_X1_turnSigns : bg_okm me_X1_turnSigns 20 (758, 76, 1, 757, 22) = true := by decide +kernel
theorem okm_X1_areAllAbove0 : bg_okm me_X1_areAllAbove0 21 (761, 76, 0, 760, 0) = true := by decide +kernel
theorem okm_X1_signedMinor : bg_okm me_X1_signedMinor 22 (746, 76, 1, 745, 19) = true := by decide +kernel
theorem okm_X1_fillLine : bg_okm me_X1_fillLine 23 (750, 76, 1, 749, 20) = true := by decide +kernel
theorem okm_X1_minorOf : bg_okm me_X1_minorOf 24 (754, 76, 1, 753, 21) = true := by decide +kernel
theorem okm_X1_noneDoesBetter : bg_okm me_X1_noneDoesBetter 25 (773, 76, 1, 772, 24) = true := by decide +kernel
theorem okm_X1_meanBy : bg_okm me_X1_meanBy 26 (769, 76, 1, 768, 23) = true := by decide +kernel
theorem okm_X1_meanOf : bg_okm me_X1_meanOf 27 (777, 76, 1, 776, 25) = true := by decide +kernel
theorem okm_X1_lowest : bg_okm me_X1_lowest 28 (782, 76, 1, 780, 781) = true := by decide +kernel
theorem okm_X1_worthOfBeingTold : bg_okm me_X1_worthOfBeingTold 29 (798, 76, 1, 796, 797) = true := by decide +kernel
theorem okm_X2_clear : bg_okm me_X2_clear 30 (122, 70, 1, 120, 121) = true := by decide +kernel
theorem okm_X2_copy : bg_okm me_X2_copy 31 (449, 70, 1, 447, 448) = true := by decide +kernel
theorem okm_X2_takes : bg_okm me_X2_takes 32 (423, 70, 1, 421, 422) = true := by decide +kernel
theorem okm_X2_takesNumber : bg_okm me_X2_takesNumber 33 (441, 70, 1, 440, 5) = true := by decide +kernel
theorem okm_X2_takesPath : bg_okm me_X2_takesPath 34 (427, 70, 1, 426, 3) = true := by decide +kernel
theorem okm_X2_takesTower : bg_okm me_X2_takesTower 35 (433, 70, 1, 432, 4) = true := by decide +kernel
theorem okm_X2_hasPath : bg_okm me_X2_hasPath 36 (437, 70, 1, 435, 436) = true := by decide +kernel
theorem okm_X2_hasPosts : bg_okm me_X2_hasPosts 37 (497, 70, 1, 495, 496) = true := by decide +kernel
theorem okm_X2_costOf : bg_okm me_X2_costOf 38 (501, 70, 1, 499, 500) = true := by decide +kernel
theorem okm_X2_heldBy : bg_okm me_X2_heldBy 39 (505, 70, 1, 503, 504) = true := by decide +kernel
theorem okm_X2_waitsOf : bg_okm me_X2_waitsOf 40 (509, 70, 1, 507, 508) = true := by decide +kernel
theorem okm_X2_bearing : bg_okm me_X2_bearing 41 (517, 70, 1, 515, 516) = true := by decide +kernel
theorem okm_X2_comesMoreThanGoes : bg_okm me_X2_comesMoreThanGoes 42 (555, 70, 1, 553, 554) = true := by decide +kernel
theorem okm_X3_clear : bg_okm me_X3_clear 43 (269, 75, 1, 267, 268) = true := by decide +kernel
theorem okm_X3_copy : bg_okm me_X3_copy 44 (829, 75, 1, 827, 828) = true := by decide +kernel
theorem okm_X3_toldGuards : bg_okm me_X3_toldGuards 45 (711, 75, 1, 709, 710) = true := by decide +kernel
theorem okm_X3_toldCarriers : bg_okm me_X3_toldCarriers 46 (718, 75, 1, 716, 717) = true := by decide +kernel
theorem okm_X3_toldOf : bg_okm me_X3_toldOf 47 (714, 75, 0, 713, 0) = true := by decide +kernel
theorem okm_X4_forget : bg_okm me_X4_forget 48 (484, 74, 1, 482, 483) = true := by decide +kernel
theorem okm_X4_prepare : bg_okm me_X4_prepare 49 (563, 74, 1, 561, 562) = true := by decide +kernel
theorem okm_X4_bestFor : bg_okm me_X4_bestFor 50 (604, 74, 1, 602, 603) = true := by decide +kernel
theorem okm_X4_leastFor : bg_okm me_X4_leastFor 51 (599, 74, 1, 597, 598) = true := by decide +kernel
theorem okm_X4_lowerMost : bg_okm me_X4_lowerMost 52 (576, 74, 1, 575, 10) = true := by decide +kernel
theorem okm_X4_sumNumbers : bg_okm me_X4_sumNumbers 53 (585, 74, 1, 584, 12) = true := by decide +kernel
theorem okm_X4_sumAddends : bg_okm me_X4_sumAddends 54 (581, 74, 1, 580, 11) = true := by decide +kernel
theorem okm_X4_offerAll : bg_okm me_X4_offerAll 55 (589, 74, 1, 588, 13) = true := by decide +kernel
theorem okm_X4_spreadBest : bg_okm me_X4_spreadBest 56 (595, 74, 1, 594, 14) = true := by decide +kernel
theorem okm_X4_weigh : bg_okm me_X4_weigh 57 (624, 74, 1, 622, 623) = true := by decide +kernel
theorem okm_X4_leastPaying : bg_okm me_X4_leastPaying 58 (681, 74, 1, 679, 680) = true := by decide +kernel
theorem okm_X5_begin : bg_okm me_X5_begin 59 (808, 77, 1, 806, 807) = true := by decide +kernel
theorem okm_X5_leastSum : bg_okm me_X5_leastSum 60 (813, 77, 1, 811, 812) = true := by decide +kernel
theorem okm_X5_leastBefore : bg_okm me_X5_leastBefore 61 (817, 77, 1, 816, 26) = true := by decide +kernel
theorem okm_X6_hasRoomFor : bg_okm me_X6_hasRoomFor 62 (384, 69, 1, 382, 383) = true := by decide +kernel
theorem okm_X6_append : bg_okm me_X6_append 63 (388, 69, 1, 386, 387) = true := by decide +kernel
theorem okm_X6_readInto : bg_okm me_X6_readInto 64 (400, 69, 1, 398, 399) = true := by decide +kernel
theorem okm_X6_readNumbers : bg_okm me_X6_readNumbers 65 (409, 69, 1, 408, 1) = true := by decide +kernel
theorem okm_X6_readNumber : bg_okm me_X6_readNumber 66 (413, 69, 1, 412, 2) = true := by decide +kernel
theorem okm_X6_nextByte : bg_okm me_X6_nextByte 67 (405, 69, 1, 404, 0) = true := by decide +kernel
theorem okm_X6_isFigure : bg_okm me_X6_isFigure 68 (416, 69, 0, 415, 0) = true := by decide +kernel
theorem okm_X7_survey : bg_okm me_X7_survey 69 (469, 73, 1, 467, 468) = true := by decide +kernel
theorem okm_X7_follow : bg_okm me_X7_follow 70 (472, 73, 0, 471, 0) = true := by decide +kernel
theorem okm_X7_add : bg_okm me_X7_add 71 (476, 73, 1, 475, 7) = true := by decide +kernel
theorem okm_X7_lengthOf : bg_okm me_X7_lengthOf 72 (632, 73, 1, 630, 631) = true := by decide +kernel
theorem okm_X7_pathAt : bg_okm me_X7_pathAt 73 (636, 73, 1, 634, 635) = true := by decide +kernel
theorem okm_X7_leastBearing : bg_okm me_X7_leastBearing 74 (644, 73, 1, 642, 643) = true := by decide +kernel
theorem okm_X7_gainOf : bg_okm me_X7_gainOf 75 (659, 73, 1, 657, 658) = true := by decide +kernel
theorem okm_X7_bestOf : bg_okm me_X7_bestOf 76 (671, 73, 1, 669, 670) = true := by decide +kernel
theorem okm_X7_greatestGain : bg_okm me_X7_greatestGain 77 (686, 73, 1, 684, 685) = true := by decide +kernel
theorem okm_X8_write : bg_okm me_X8_write 78 (380, 68, 1, 378, 379) = true := by decide +kernel
theorem okm_X8_wipe : bg_okm me_X8_wipe 79 (392, 68, 1, 390, 391) = true := by decide +kernel
theorem okm_X8_fault : bg_okm me_X8_fault 80 (396, 68, 1, 394, 395) = true := by decide +kernel
theorem okm_X8_lay : bg_okm me_X8_lay 81 (445, 68, 1, 443, 444) = true := by decide +kernel
theorem okm_X8_path : bg_okm me_X8_path 82 (488, 68, 1, 486, 487) = true := by decide +kernel
theorem okm_X8_posts : bg_okm me_X8_posts 83 (493, 68, 1, 491, 492) = true := by decide +kernel
theorem okm_X8_bears : bg_okm me_X8_bears 84 (513, 68, 1, 511, 512) = true := by decide +kernel
theorem okm_X8_most : bg_okm me_X8_most 85 (525, 68, 1, 523, 524) = true := by decide +kernel
theorem okm_X8_row : bg_okm me_X8_row 86 (547, 68, 1, 545, 546) = true := by decide +kernel
theorem okm_X8_judge : bg_okm me_X8_judge 87 (551, 68, 1, 549, 550) = true := by decide +kernel
theorem okm_X8_best : bg_okm me_X8_best 88 (559, 68, 1, 557, 558) = true := by decide +kernel
theorem okm_X8_fewest : bg_okm me_X8_fewest 89 (608, 68, 1, 606, 607) = true := by decide +kernel
theorem okm_X8_more : bg_okm me_X8_more 90 (612, 68, 1, 610, 611) = true := by decide +kernel
theorem okm_X8_oneMore : bg_okm me_X8_oneMore 91 (616, 68, 1, 614, 615) = true := by decide +kernel
theorem okm_X8_weighed : bg_okm me_X8_weighed 92 (620, 68, 1, 618, 619) = true := by decide +kernel
theorem okm_X8_way : bg_okm me_X8_way 93 (628, 68, 1, 626, 627) = true := by decide +kernel
theorem okm_X8_through : bg_okm me_X8_through 94 (640, 68, 1, 638, 639) = true := by decide +kernel
theorem okm_X8_gain : bg_okm me_X8_gain 95 (653, 68, 1, 651, 652) = true := by decide +kernel
theorem okm_X8_bestWay : bg_okm me_X8_bestWay 96 (667, 68, 1, 665, 666) = true := by decide +kernel
theorem okm_X8_leastPay : bg_okm me_X8_leastPay 97 (677, 68, 1, 675, 676) = true := by decide +kernel
theorem okm_X8_guard : bg_okm me_X8_guard 98 (690, 68, 1, 688, 689) = true := by decide +kernel
theorem okm_X8_carrier : bg_okm me_X8_carrier 99 (694, 68, 1, 692, 693) = true := by decide +kernel
theorem okm_X8_value : bg_okm me_X8_value 100 (698, 68, 1, 696, 697) = true := by decide +kernel
theorem okm_X8_chance : bg_okm me_X8_chance 101 (786, 68, 1, 784, 785) = true := by decide +kernel
theorem okm_X8_tenths : bg_okm me_X8_tenths 102 (790, 68, 1, 788, 789) = true := by decide +kernel
theorem okm_X8_told : bg_okm me_X8_told 103 (794, 68, 1, 792, 793) = true := by decide +kernel
theorem okm_X8_nights : bg_okm me_X8_nights 104 (803, 68, 1, 801, 802) = true := by decide +kernel
theorem okm_X8_keep : bg_okm me_X8_keep 105 (825, 68, 1, 823, 824) = true := by decide +kernel
theorem okm_X8_back : bg_okm me_X8_back 106 (834, 68, 1, 832, 833) = true := by decide +kernel
theorem okm_X8_count : bg_okm me_X8_count 107 (838, 68, 1, 836, 837) = true := by decide +kernel
theorem okm_X8_survey : bg_okm me_X8_survey 108 (458, 68, 1, 457, 6) = true := by decide +kernel
theorem okm_X8_mostBy : bg_okm me_X8_mostBy 109 (529, 68, 1, 528, 8) = true := by decide +kernel
theorem okm_X8_playGame : bg_okm me_X8_playGame 110 (703, 68, 1, 702, 15) = true := by decide +kernel
theorem okm_X8_setUpGame : bg_okm me_X8_setUpGame 111 (707, 68, 1, 706, 16) = true := by decide +kernel
theorem okm_X9_in : bg_okm me_X9_in 112 (960, 78, 0, 959, 0) = true := by decide +kernel
theorem okm_X9_has : bg_okm me_X9_has 113 (1029, 78, 0, 1028, 0) = true := by decide +kernel
theorem okm_X9_bits : bg_okm me_X9_bits 114 (1190, 78, 0, 1189, 0) = true := by decide +kernel
theorem okm_X9_noLand : bg_okm me_X9_noLand 115 (848, 78, 1, 847, 27) = true := by decide +kernel
theorem okm_X9_noPlayers : bg_okm me_X9_noPlayers 116 (852, 78, 1, 851, 28) = true := by decide +kernel
theorem okm_X9_write : bg_okm me_X9_write 117 (956, 78, 1, 954, 955) = true := by decide +kernel
theorem okm_X9_wipe : bg_okm me_X9_wipe 118 (965, 78, 1, 963, 964) = true := by decide +kernel
theorem okm_X9_byteAt : bg_okm me_X9_byteAt 119 (981, 78, 1, 980, 31) = true := by decide +kernel
theorem okm_X9_figures : bg_okm me_X9_figures 120 (989, 78, 1, 988, 33) = true := by decide +kernel
theorem okm_X9_pathItem : bg_okm me_X9_pathItem 121 (985, 78, 1, 984, 32) = true := by decide +kernel
theorem okm_X9_towerItem : bg_okm me_X9_towerItem 122 (996, 78, 1, 995, 34) = true := by decide +kernel
theorem okm_X9_item : bg_okm me_X9_item 123 (977, 78, 1, 976, 30) = true := by decide +kernel
theorem okm_X9_readAll : bg_okm me_X9_readAll 124 (973, 78, 1, 972, 29) = true := by decide +kernel
theorem okm_X9_fault : bg_okm me_X9_fault 125 (969, 78, 1, 967, 968) = true := by decide +kernel
theorem okm_X9_copyLand : bg_okm me_X9_copyLand 126 (1004, 78, 1, 1003, 35) = true := by decide +kernel
theorem okm_X9_lay : bg_okm me_X9_lay 127 (1000, 78, 1, 998, 999) = true := by decide +kernel
theorem okm_X9_isPath : bg_okm me_X9_isPath 128 (1012, 78, 1, 1011, 36) = true := by decide +kernel
theorem okm_X9_path : bg_okm me_X9_path 129 (1008, 78, 1, 1006, 1007) = true := by decide +kernel
theorem okm_X9_arePosts : bg_okm me_X9_arePosts 130 (1021, 78, 1, 1020, 37) = true := by decide +kernel
theorem okm_X9_costOf : bg_okm me_X9_costOf 131 (1026, 78, 1, 1025, 38) = true := by decide +kernel
theorem okm_X9_heldBy : bg_okm me_X9_heldBy 132 (1033, 78, 1, 1032, 39) = true := by decide +kernel
theorem okm_X9_waitsBy : bg_okm me_X9_waitsBy 133 (1037, 78, 1, 1036, 40) = true := by decide +kernel
theorem okm_X9_posts : bg_okm me_X9_posts 134 (1017, 78, 1, 1015, 1016) = true := by decide +kernel
theorem okm_X9_bearsWith : bg_okm me_X9_bearsWith 135 (1045, 78, 1, 1044, 41) = true := by decide +kernel
theorem okm_X9_bears : bg_okm me_X9_bears 136 (1041, 78, 1, 1039, 1040) = true := by decide +kernel
theorem okm_X9_spread : bg_okm me_X9_spread 137 (1057, 78, 1, 1056, 43) = true := by decide +kernel
theorem okm_X9_push : bg_okm me_X9_push 138 (1061, 78, 1, 1060, 44) = true := by decide +kernel
theorem okm_X9_flow : bg_okm me_X9_flow 139 (1053, 78, 1, 1052, 42) = true := by decide +kernel
theorem okm_X9_mostBy : bg_okm me_X9_mostBy 140 (1093, 78, 1, 1092, 48) = true := by decide +kernel
theorem okm_X9_most : bg_okm me_X9_most 141 (1049, 78, 1, 1047, 1048) = true := by decide +kernel
theorem okm_X9_row : bg_okm me_X9_row 142 (1066, 78, 1, 1064, 1065) = true := by decide +kernel
theorem okm_X9_comeTo : bg_okm me_X9_comeTo 143 (1076, 78, 1, 1075, 45) = true := by decide +kernel
theorem okm_X9_judge : bg_okm me_X9_judge 144 (1072, 78, 1, 1070, 1071) = true := by decide +kernel
theorem okm_X9_setMany : bg_okm me_X9_setMany 145 (1089, 78, 1, 1088, 47) = true := by decide +kernel
theorem okm_X9_bestFor : bg_okm me_X9_bestFor 146 (1085, 78, 1, 1084, 46) = true := by decide +kernel
theorem okm_X9_best : bg_okm me_X9_best 147 (1080, 78, 1, 1078, 1079) = true := by decide +kernel
theorem okm_X9_fewest : bg_okm me_X9_fewest 148 (1097, 78, 1, 1095, 1096) = true := by decide +kernel
theorem okm_X9_more : bg_okm me_X9_more 149 (1102, 78, 1, 1100, 1101) = true := by decide +kernel
theorem okm_X9_oneMore : bg_okm me_X9_oneMore 150 (1106, 78, 1, 1104, 1105) = true := by decide +kernel
theorem okm_X9_weigh : bg_okm me_X9_weigh 151 (1114, 78, 1, 1113, 49) = true := by decide +kernel
theorem okm_X9_weighed : bg_okm me_X9_weighed 152 (1110, 78, 1, 1108, 1109) = true := by decide +kernel
theorem okm_X9_seenBy : bg_okm me_X9_seenBy 153 (1126, 78, 1, 1125, 51) = true := by decide +kernel
theorem okm_X9_layWays : bg_okm me_X9_layWays 154 (1122, 78, 1, 1121, 50) = true := by decide +kernel
theorem okm_X9_noteWay : bg_okm me_X9_noteWay 155 (1130, 78, 1, 1129, 52) = true := by decide +kernel
theorem okm_X9_way : bg_okm me_X9_way 156 (1118, 78, 1, 1116, 1117) = true := by decide +kernel
theorem okm_X9_throughBy : bg_okm me_X9_throughBy 157 (1138, 78, 1, 1137, 53) = true := by decide +kernel
theorem okm_X9_through : bg_okm me_X9_through 158 (1134, 78, 1, 1132, 1133) = true := by decide +kernel
theorem okm_X9_gainBy : bg_okm me_X9_gainBy 159 (1147, 78, 1, 1146, 54) = true := by decide +kernel
theorem okm_X9_gain : bg_okm me_X9_gain 160 (1142, 78, 1, 1140, 1141) = true := by decide +kernel
theorem okm_X9_bestWayBy : bg_okm me_X9_bestWayBy 161 (1158, 78, 1, 1157, 55) = true := by decide +kernel
theorem okm_X9_elseParts : bg_okm me_X9_elseParts 162 (1162, 78, 1, 1161, 56) = true := by decide +kernel
theorem okm_X9_bestWay : bg_okm me_X9_bestWay 163 (1154, 78, 1, 1152, 1153) = true := by decide +kernel
theorem okm_X9_leastPay : bg_okm me_X9_leastPay 164 (1166, 78, 1, 1164, 1165) = true := by decide +kernel
theorem okm_X9_guard : bg_okm me_X9_guard 165 (1170, 78, 1, 1168, 1169) = true := by decide +kernel
theorem okm_X9_carrier : bg_okm me_X9_carrier 166 (1174, 78, 1, 1172, 1173) = true := by decide +kernel
theorem okm_X9_game : bg_okm me_X9_game 167 (1210, 78, 1, 1209, 63) = true := by decide +kernel
theorem okm_X9_toldOnes : bg_okm me_X9_toldOnes 168 (1187, 78, 1, 1186, 58) = true := by decide +kernel
theorem okm_X9_determinant : bg_okm me_X9_determinant 169 (1214, 78, 1, 1213, 64) = true := by decide +kernel
theorem okm_X9_layCells : bg_okm me_X9_layCells 170 (1206, 78, 1, 1205, 62) = true := by decide +kernel
theorem okm_X9_layMembers : bg_okm me_X9_layMembers 171 (1198, 78, 1, 1197, 60) = true := by decide +kernel
theorem okm_X9_solve : bg_okm me_X9_solve 172 (1202, 78, 1, 1201, 61) = true := by decide +kernel
theorem okm_X9_holds : bg_okm me_X9_holds 173 (1218, 78, 1, 1217, 65) = true := by decide +kernel
theorem okm_X9_isSupport : bg_okm me_X9_isSupport 174 (1194, 78, 1, 1193, 59) = true := by decide +kernel
theorem okm_X9_play : bg_okm me_X9_play 175 (1183, 78, 1, 1182, 57) = true := by decide +kernel
theorem okm_X9_common : bg_okm me_X9_common 176 (1224, 78, 0, 1223, 0) = true := by decide +kernel
theorem okm_X9_lowest : bg_okm me_X9_lowest 177 (1221, 78, 0, 1220, 0) = true := by decide +kernel
theorem okm_X9_value : bg_okm me_X9_value 178 (1179, 78, 1, 1177, 1178) = true := by decide +kernel
theorem okm_X9_chance : bg_okm me_X9_chance 179 (1229, 78, 1, 1227, 1228) = true := by decide +kernel
theorem okm_X9_tenths : bg_okm me_X9_tenths 180 (1233, 78, 1, 1231, 1232) = true := by decide +kernel
theorem okm_X9_told : bg_okm me_X9_told 181 (1238, 78, 1, 1236, 1237) = true := by decide +kernel
theorem okm_X9_nights : bg_okm me_X9_nights 182 (1242, 78, 1, 1240, 1241) = true := by decide +kernel
theorem okm_X9_copy : bg_okm me_X9_copy 183 (1252, 78, 1, 1251, 66) = true := by decide +kernel
theorem okm_X9_keep : bg_okm me_X9_keep 184 (1248, 78, 1, 1246, 1247) = true := by decide +kernel
theorem okm_X9_back : bg_okm me_X9_back 185 (1256, 78, 1, 1254, 1255) = true := by decide +kernel
theorem okm_X9_count : bg_okm me_X9_count 186 (1260, 78, 1, 1258, 1259) = true := by decide +kernel
theorem okm_J6_numberOfTrailingZeros_0f7a4 : bg_okm me_J6_numberOfTrailingZeros_0f7a4 187 (764, 81, 0, 763, 0) = true := by decide +kernel
theorem okm_J6_bitCount_0f7a4 : bg_okm me_J6_bitCount_0f7a4 188 (728, 81, 0, 727, 0) = true := by decide +kernel
theorem okm_J7_fill_d0a16 : bg_okm me_J7_fill_d0a16 189 (742, 71, 0, 741, 0) = true := by decide +kernel
theorem okm_J7_fill_53178 : bg_okm me_J7_fill_53178 190 (125, 71, 0, 124, 0) = true := by decide +kernel
theorem okm_X2_hundredthsThrough : bg_okm me_X2_hundredthsThrough 191 (521, 70, 1, 519, 520) = true := by decide +kernel
theorem okm_X2_carryingOn : bg_okm me_X2_carryingOn 192 (480, 70, 1, 478, 479) = true := by decide +kernel
theorem bg_and2 {a b : Bool} (h1 : a = true) (h2 : b = true) : (a && b) = true := by rw [h1, h2]; rfl
set_option maxRecDepth 20000 in
theorem bg_okl_all : bg_okl bg_MS bg_PL 0 = true := bg_and2 okm_X0_init (bg_and2 okm_X1_init (bg_and2 okm_X2_init (bg_and2 okm_X3_init (bg_and2 okm_X4_init (bg_and2 okm_X5_init (bg_and2 okm_X6_init (bg_and2 okm_X7_init (bg_and2 okm_X8_init (bg_and2 okm_X9_init (bg_and2 okm_X0_survey (bg_and2 okm_X0_weigh (bg_and2 okm_X0_outOfShore (bg_and2 okm_X0_isNeeded (bg_and2 okm_X0_sumOver (bg_and2 okm_X0_placesOf (bg_and2 okm_X1_findSupport (bg_and2 okm_X1_findCarriers (bg_and2 okm_X1_isSetOf (bg_and2 okm_X1_mixes (bg_and2 okm_X1_turnSigns (bg_and2 okm_X1_areAllAbove0 (bg_and2 okm_X1_signedMinor (bg_and2 okm_X1_fillLine (bg_and2 okm_X1_minorOf (bg_and2 okm_X1_noneDoesBetter (bg_and2 okm_X1_meanBy (bg_and2 okm_X1_meanOf (bg_and2 okm_X1_lowest (bg_and2 okm_X1_worthOfBeingTold (bg_and2 okm_X2_clear (bg_and2 okm_X2_copy (bg_and2 okm_X2_takes (bg_and2 okm_X2_takesNumber (bg_and2 okm_X2_takesPath (bg_and2 okm_X2_takesTower (bg_and2 okm_X2_hasPath (bg_and2 okm_X2_hasPosts (bg_and2 okm_X2_costOf (bg_and2 okm_X2_heldBy (bg_and2 okm_X2_waitsOf (bg_and2 okm_X2_bearing (bg_and2 okm_X2_comesMoreThanGoes (bg_and2 okm_X3_clear (bg_and2 okm_X3_copy (bg_and2 okm_X3_toldGuards (bg_and2 okm_X3_toldCarriers (bg_and2 okm_X3_toldOf (bg_and2 okm_X4_forget (bg_and2 okm_X4_prepare (bg_and2 okm_X4_bestFor (bg_and2 okm_X4_leastFor (bg_and2 okm_X4_lowerMost (bg_and2 okm_X4_sumNumbers (bg_and2 okm_X4_sumAddends (bg_and2 okm_X4_offerAll (bg_and2 okm_X4_spreadBest (bg_and2 okm_X4_weigh (bg_and2 okm_X4_leastPaying (bg_and2 okm_X5_begin (bg_and2 okm_X5_leastSum (bg_and2 okm_X5_leastBefore (bg_and2 okm_X6_hasRoomFor (bg_and2 okm_X6_append (bg_and2 okm_X6_readInto (bg_and2 okm_X6_readNumbers (bg_and2 okm_X6_readNumber (bg_and2 okm_X6_nextByte (bg_and2 okm_X6_isFigure (bg_and2 okm_X7_survey (bg_and2 okm_X7_follow (bg_and2 okm_X7_add (bg_and2 okm_X7_lengthOf (bg_and2 okm_X7_pathAt (bg_and2 okm_X7_leastBearing (bg_and2 okm_X7_gainOf (bg_and2 okm_X7_bestOf (bg_and2 okm_X7_greatestGain (bg_and2 okm_X8_write (bg_and2 okm_X8_wipe (bg_and2 okm_X8_fault (bg_and2 okm_X8_lay (bg_and2 okm_X8_path (bg_and2 okm_X8_posts (bg_and2 okm_X8_bears (bg_and2 okm_X8_most (bg_and2 okm_X8_row (bg_and2 okm_X8_judge (bg_and2 okm_X8_best (bg_and2 okm_X8_fewest (bg_and2 okm_X8_more (bg_and2 okm_X8_oneMore (bg_and2 okm_X8_weighed (bg_and2 okm_X8_way (bg_and2 okm_X8_through (bg_and2 okm_X8_gain (bg_and2 okm_X8_bestWay (bg_and2 okm_X8_leastPay (bg_and2 okm_X8_guard (bg_and2 okm_X8_carrier (bg_and2 okm_X8_value (bg_and2 okm_X8_chance (bg_and2 okm_X8_tenths (bg_and2 okm_X8_told (bg_and2 okm_X8_nights (bg_and2 okm_X8_keep (bg_and2 okm_X8_back (bg_and2 okm_X8_count (bg_and2 okm_X8_survey (bg_and2 okm_X8_mostBy (bg_and2 okm_X8_playGame (bg_and2 okm_X8_setUpGame (bg_and2 okm_X9_in (bg_and2 okm_X9_has (bg_and2 okm_X9_bits (bg_and2 okm_X9_noLand (bg_and2 okm_X9_noPlayers (bg_and2 okm_X9_write (bg_and2 okm_X9_wipe (bg_and2 okm_X9_byteAt (bg_and2 okm_X9_figures (bg_and2 okm_X9_pathItem (bg_and2 okm_X9_towerItem (bg_and2 okm_X9_item (bg_and2 okm_X9_readAll (bg_and2 okm_X9_fault (bg_and2 okm_X9_copyLand (bg_and2 okm_X9_lay (bg_and2 okm_X9_isPath (bg_and2 okm_X9_path (bg_and2 okm_X9_arePosts (bg_and2 okm_X9_costOf (bg_and2 okm_X9_heldBy (bg_and2 okm_X9_waitsBy (bg_and2 okm_X9_posts (bg_and2 okm_X9_bearsWith (bg_and2 okm_X9_bears (bg_and2 okm_X9_spread (bg_and2 okm_X9_push (bg_and2 okm_X9_flow (bg_and2 okm_X9_mostBy (bg_and2 okm_X9_most (bg_and2 okm_X9_row (bg_and2 okm_X9_comeTo (bg_and2 okm_X9_judge (bg_and2 okm_X9_setMany (bg_and2 okm_X9_bestFor (bg_and2 okm_X9_best (bg_and2 okm_X9_fewest (bg_and2 okm_X9_more (bg_and2 okm_X9_oneMore (bg_and2 okm_X9_weigh (bg_and2 okm_X9_weighed (bg_and2 okm_X9_seenBy (bg_and2 okm_X9_layWays (bg_and2 okm_X9_noteWay (bg_and2 okm_X9_way (bg_and2 okm_X9_throughBy (bg_and2 okm_X9_through (bg_and2 okm_X9_gainBy (bg_and2 okm_X9_gain (bg_and2 okm_X9_bestWayBy (bg_and2 okm_X9_elseParts (bg_and2 okm_X9_bestWay (bg_and2 okm_X9_leastPay (bg_and2 okm_X9_guard (bg_and2 okm_X9_carrier (bg_and2 okm_X9_game (bg_and2 okm_X9_toldOnes (bg_and2 okm_X9_determinant (bg_and2 okm_X9_layCells (bg_and2 okm_X9_layMembers (bg_and2 okm_X9_solve (bg_and2 okm_X9_holds (bg_and2 okm_X9_isSupport (bg_and2 okm_X9_play (bg_and2 okm_X9_common (bg_and2 okm_X9_lowest (bg_and2 okm_X9_value (bg_and2 okm_X9_chance (bg_and2 okm_X9_tenths (bg_and2 okm_X9_told (bg_and2 okm_X9_nights (bg_and2 okm_X9_copy (bg_and2 okm_X9_keep (bg_and2 okm_X9_back (bg_and2 okm_X9_count (bg_and2 okm_J6_numberOfTrailingZeros_0f7a4 (bg_and2 okm_J6_bitCount_0f7a4 (bg_and2 okm_J7_fill_d0a16 (bg_and2 okm_J7_fill_53178 (bg_and2 okm_X2_hundredthsThrough (bg_and2 okm_X2_carryingOn (rfl)))))))))))))))))))))))))))))))))))))))))))))))))))))))))))))))))))))))))))))))))))))))))))))))))))))))))))))))))))))))))))))))))))))))))))))))))))))))))))))))))))))))))))))))))))))))))))))))))
def bg_okcl : List bg_M → Prop
  | [] => True
  | M :: l => bg_okc M M.2.2.2.2.1 = true ∧ bg_okcl l
theorem bg_okc_all : bg_okcl bg_MS := ⟨ok_X0_init, ⟨ok_X1_init, ⟨ok_X2_init, ⟨ok_X3_init, ⟨ok_X4_init, ⟨ok_X5_init, ⟨ok_X6_init, ⟨ok_X7_init, ⟨ok_X8_init, ⟨ok_X9_init, ⟨ok_X0_survey, ⟨ok_X0_weigh, ⟨ok_X0_outOfShore, ⟨ok_X0_isNeeded, ⟨ok_X0_sumOver, ⟨ok_X0_placesOf, ⟨ok_X1_findSupport, ⟨ok_X1_findCarriers, ⟨ok_X1_isSetOf, ⟨ok_X1_mixes, ⟨ok_X1_turnSigns, ⟨ok_X1_areAllAbove0, ⟨ok_X1_signedMinor, ⟨ok_X1_fillLine, ⟨ok_X1_minorOf, ⟨ok_X1_noneDoesBetter, ⟨ok_X1_meanBy, ⟨ok_X1_meanOf, ⟨ok_X1_lowest, ⟨ok_X1_worthOfBeingTold, ⟨ok_X2_clear, ⟨ok_X2_copy, ⟨ok_X2_takes, ⟨ok_X2_takesNumber, ⟨ok_X2_takesPath, ⟨ok_X2_takesTower, ⟨ok_X2_hasPath, ⟨ok_X2_hasPosts, ⟨ok_X2_costOf, ⟨ok_X2_heldBy, ⟨ok_X2_waitsOf, ⟨ok_X2_bearing, ⟨ok_X2_comesMoreThanGoes, ⟨ok_X3_clear, ⟨ok_X3_copy, ⟨ok_X3_toldGuards, ⟨ok_X3_toldCarriers, ⟨ok_X3_toldOf, ⟨ok_X4_forget, ⟨ok_X4_prepare, ⟨ok_X4_bestFor, ⟨ok_X4_leastFor, ⟨ok_X4_lowerMost, ⟨ok_X4_sumNumbers, ⟨ok_X4_sumAddends, ⟨ok_X4_offerAll, ⟨ok_X4_spreadBest, ⟨ok_X4_weigh, ⟨ok_X4_leastPaying, ⟨ok_X5_begin, ⟨ok_X5_leastSum, ⟨ok_X5_leastBefore, ⟨ok_X6_hasRoomFor, ⟨ok_X6_append, ⟨ok_X6_readInto, ⟨ok_X6_readNumbers, ⟨ok_X6_readNumber, ⟨ok_X6_nextByte, ⟨ok_X6_isFigure, ⟨ok_X7_survey, ⟨ok_X7_follow, ⟨ok_X7_add, ⟨ok_X7_lengthOf, ⟨ok_X7_pathAt, ⟨ok_X7_leastBearing, ⟨ok_X7_gainOf, ⟨ok_X7_bestOf, ⟨ok_X7_greatestGain, ⟨ok_X8_write, ⟨ok_X8_wipe, ⟨ok_X8_fault, ⟨ok_X8_lay, ⟨ok_X8_path, ⟨ok_X8_posts, ⟨ok_X8_bears, ⟨ok_X8_most, ⟨ok_X8_row, ⟨ok_X8_judge, ⟨ok_X8_best, ⟨ok_X8_fewest, ⟨ok_X8_more, ⟨ok_X8_oneMore, ⟨ok_X8_weighed, ⟨ok_X8_way, ⟨ok_X8_through, ⟨ok_X8_gain, ⟨ok_X8_bestWay, ⟨ok_X8_leastPay, ⟨ok_X8_guard, ⟨ok_X8_carrier, ⟨ok_X8_value, ⟨ok_X8_chance, ⟨ok_X8_tenths, ⟨ok_X8_told, ⟨ok_X8_nights, ⟨ok_X8_keep, ⟨ok_X8_back, ⟨ok_X8_count, ⟨ok_X8_survey, ⟨ok_X8_mostBy, ⟨ok_X8_playGame, ⟨ok_X8_setUpGame, ⟨ok_X9_in, ⟨ok_X9_has, ⟨ok_X9_bits, ⟨ok_X9_noLand, ⟨ok_X9_noPlayers, ⟨ok_X9_write, ⟨ok_X9_wipe, ⟨ok_X9_byteAt, ⟨ok_X9_figures, ⟨ok_X9_pathItem, ⟨ok_X9_towerItem, ⟨ok_X9_item, ⟨ok_X9_readAll, ⟨ok_X9_fault, ⟨ok_X9_copyLand, ⟨ok_X9_lay, ⟨ok_X9_isPath, ⟨ok_X9_path, ⟨ok_X9_arePosts, ⟨ok_X9_costOf, ⟨ok_X9_heldBy, ⟨ok_X9_waitsBy, ⟨ok_X9_posts, ⟨ok_X9_bearsWith, ⟨ok_X9_bears, ⟨ok_X9_spread, ⟨ok_X9_push, ⟨ok_X9_flow, ⟨ok_X9_mostBy, ⟨ok_X9_most, ⟨ok_X9_row, ⟨ok_X9_comeTo, ⟨ok_X9_judge, ⟨ok_X9_setMany, ⟨ok_X9_bestFor, ⟨ok_X9_best, ⟨ok_X9_fewest, ⟨ok_X9_more, ⟨ok_X9_oneMore, ⟨ok_X9_weigh, ⟨ok_X9_weighed, ⟨ok_X9_seenBy, ⟨ok_X9_layWays, ⟨ok_X9_noteWay, ⟨ok_X9_way, ⟨ok_X9_throughBy, ⟨ok_X9_through, ⟨ok_X9_gainBy, ⟨ok_X9_gain, ⟨ok_X9_bestWayBy, ⟨ok_X9_elseParts, ⟨ok_X9_bestWay, ⟨ok_X9_leastPay, ⟨ok_X9_guard, ⟨ok_X9_carrier, ⟨ok_X9_game, ⟨ok_X9_toldOnes, ⟨ok_X9_determinant, ⟨ok_X9_layCells, ⟨ok_X9_layMembers, ⟨ok_X9_solve, ⟨ok_X9_holds, ⟨ok_X9_isSupport, ⟨ok_X9_play, ⟨ok_X9_common, ⟨ok_X9_lowest, ⟨ok_X9_value, ⟨ok_X9_chance, ⟨ok_X9_tenths, ⟨ok_X9_told, ⟨ok_X9_nights, ⟨ok_X9_copy, ⟨ok_X9_keep, ⟨ok_X9_back, ⟨ok_X9_count, ⟨ok_J6_numberOfTrailingZeros_0f7a4, ⟨ok_J6_bitCount_0f7a4, ⟨ok_J7_fill_d0a16, ⟨ok_J7_fill_53178, ⟨ok_X2_hundredthsThrough, ⟨ok_X2_carryingOn, trivial⟩⟩⟩⟩⟩⟩⟩⟩⟩⟩⟩⟩⟩⟩⟩⟩⟩⟩⟩⟩⟩⟩⟩⟩⟩⟩⟩⟩⟩⟩⟩⟩⟩⟩⟩⟩⟩⟩⟩⟩⟩⟩⟩⟩⟩⟩⟩⟩⟩⟩⟩⟩⟩⟩⟩⟩⟩⟩⟩⟩⟩⟩⟩⟩⟩⟩⟩⟩⟩⟩⟩⟩⟩⟩⟩⟩⟩⟩⟩⟩⟩⟩⟩⟩⟩⟩⟩⟩⟩⟩⟩⟩⟩⟩⟩⟩⟩⟩⟩⟩⟩⟩⟩⟩⟩⟩⟩⟩⟩⟩⟩⟩⟩⟩⟩⟩⟩⟩⟩⟩⟩⟩⟩⟩⟩⟩⟩⟩⟩⟩⟩⟩⟩⟩⟩⟩⟩⟩⟩⟩⟩⟩⟩⟩⟩⟩⟩⟩⟩⟩⟩⟩⟩⟩⟩⟩⟩⟩⟩⟩⟩⟩⟩⟩⟩⟩⟩⟩⟩⟩⟩⟩⟩⟩⟩⟩⟩⟩⟩⟩⟩⟩⟩⟩⟩⟩⟩⟩⟩⟩⟩⟩⟩
theorem bg_okc_of : ∀ (l : List bg_M), bg_okcl l → ∀ (k : Nat) (M : bg_M), bg_nth l k = some M → bg_okc M M.2.2.2.2.1 = true
  | [], _, k, M, h => by simp [bg_nth] at h
  | M0 :: l, h, 0, M, hk => by cases hk; exact h.1
  | M0 :: l, h, k + 1, M, hk => bg_okc_of l h.2 k M hk
theorem bg_wd_in {p : Nat} {w : Cond} (h : bg_wd p w = true) : w ∈ bg_tbl := by
  simp only [bg_wd, Bool.and_eq_true, decide_eq_true_eq] at h
  exact List.mem_filter.mpr ⟨List.mem_of_getElem? h.1, h.2⟩
theorem bg_in_mem : ∀ (l : List (Nat × bg_I)) (pc : Nat) (q : bg_I), bg_in l pc = some q → (pc, q) ∈ l
  | [], pc, q, h => by simp [bg_in] at h
  | (i, x) :: l, pc, q, h => by
    unfold bg_in at h
    split at h
    · rename_i e
      have := Nat.eq_of_beq_eq_true e
      subst this
      cases h
      exact List.mem_cons_self
    · exact List.mem_cons_of_mem _ (bg_in_mem l pc q h)
theorem bg_look_ok {M : bg_M} : ∀ (cd : bg_K), bg_okc M cd = true → ∀ (pc : Nat) (q : bg_I), bg_look cd pc = some q → bg_ok1 M pc q = true
  | [], _, pc, q, h => by simp [bg_look] at h
  | (n, l) :: cd, hok, pc, q, h => by
    unfold bg_okc at hok
    rw [List.all_cons, Bool.and_eq_true] at hok
    unfold bg_look at h
    split at h
    · exact List.all_eq_true.mp hok.1 _ (bg_in_mem l pc q h)
    · exact bg_look_ok cd hok.2 pc q h
def bg_kd (a : Nat) : Nat := match bg_nth bg_PL a with
  | some q => q.2.2.1
  | none => 9
def bg_kq (q : bg_I) : Bool := match q with
  | (.invokevirtual _, _, (a, _)) => Nat.beq (bg_kd a) 1
  | (.invokestatic _, _, (a, _, t, _)) => (Nat.ble 1 t && Nat.ble t 4) || Nat.beq (bg_kd a) 0
  | (.invokespecial _, _, (a, _, t, _)) => Nat.beq t 1 || Nat.beq (bg_kd a) 2
  | _ => true
def bg_kc (cd : bg_K) : Bool := cd.all (fun ch => ch.2.all (fun r => bg_kq r.2))
theorem bg_kc_all : bg_MS.all (fun M => bg_kc M.2.2.2.2.1) = true := by decide +kernel
theorem bg_kc_law : bg_kc cd_L_law = true := by decide +kernel
theorem bg_look_kq : ∀ (cd : bg_K), bg_kc cd = true → ∀ (pc : Nat) (q : bg_I), bg_look cd pc = some q → bg_kq q = true
  | [], _, pc, q, h => by simp [bg_look] at h
  | (n, l) :: cd, hok, pc, q, h => by
    unfold bg_kc at hok
    rw [List.all_cons, Bool.and_eq_true] at hok
    unfold bg_look at h
    split at h
    · exact List.all_eq_true.mp hok.1 _ (bg_in_mem l pc q h)
    · exact bg_look_kq cd hok.2 pc q h
theorem bg_okn_all {M : bg_M} : ∀ (cd : bg_K), (∀ i, i < cd.length → bg_okn M cd i = true) → bg_okc M cd = true
  | [], _ => rfl
  | (n, l) :: cd, h => by
    unfold bg_okc
    rw [List.all_cons, Bool.and_eq_true]
    exact ⟨h 0 (by simp), bg_okn_all cd (fun i hi => h (i + 1) (by simpa using hi))⟩
theorem ok_L_law : bg_okc me_L_law cd_L_law = true := bg_okn_all cd_L_law (fun i hi => by
  have hi : i < 29 := hi
  match i, hi with
  | 0, _ => exact ok_L_0
  | 1, _ => exact ok_L_1
  | 2, _ => exact ok_L_2
  | 3, _ => exact ok_L_3
  | 4, _ => exact ok_L_4
  | 5, _ => exact ok_L_5
  | 6, _ => exact ok_L_6
  | 7, _ => exact ok_L_7
  | 8, _ => exact ok_L_8
  | 9, _ => exact ok_L_9
  | 10, _ => exact ok_L_10
  | 11, _ => exact ok_L_11
  | 12, _ => exact ok_L_12
  | 13, _ => exact ok_L_13
  | 14, _ => exact ok_L_14
  | 15, _ => exact ok_L_15
  | 16, _ => exact ok_L_16
  | 17, _ => exact ok_L_17
  | 18, _ => exact ok_L_18
  | 19, _ => exact ok_L_19
  | 20, _ => exact ok_L_20
  | 21, _ => exact ok_L_21
  | 22, _ => exact ok_L_22
  | 23, _ => exact ok_L_23
  | 24, _ => exact ok_L_24
  | 25, _ => exact ok_L_25
  | 26, _ => exact ok_L_26
  | 27, _ => exact ok_L_27
  | 28, _ => exact ok_L_28
  | i + 29, h => exact absurd h (by omega))
