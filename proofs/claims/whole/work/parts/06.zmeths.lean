/-- of each method: the places in the tables of its code, of its class's initialisation, 0 static, 1 instance, 2 constructor, and the places of that -/
def bg_PL : List (Nat × Nat × Nat × Nat × Nat) := [(171, 72, 2, 170, 0), (278, 76, 2, 277, 0), (115, 70, 2, 114, 0), (258, 75, 2, 257, 0), (213, 74, 2, 212, 0), (311, 77, 2, 310, 0), (94, 69, 2, 93, 0), (193, 73, 2, 192, 0), (86, 68, 2, 85, 0), (829, 78, 2, 828, 0), (335, 72, 1, 333, 334), (519, 72, 1, 517, 518), (529, 72, 1, 527, 528), (558, 72, 1, 556, 557), (525, 72, 1, 524, 9), (338, 72, 0, 337, 0), (708, 76, 1, 706, 707), (721, 76, 1, 720, 17), (711, 76, 0, 710, 0), (725, 76, 1, 724, 18), (744, 76, 1, 743, 22), (747, 76, 0, 746, 0), (732, 76, 1, 731, 19), (736, 76, 1, 735, 20), (740, 76, 1, 739, 21), (759, 76, 1, 758, 24), (755, 76, 1, 754, 23), (763, 76, 1, 762, 25), (768, 76, 1, 766, 767), (784, 76, 1, 782, 783), (122, 70, 1, 120, 121), (469, 70, 1, 467, 468), (443, 70, 1, 441, 442), (461, 70, 1, 460, 7), (447, 70, 1, 446, 5), (453, 70, 1, 452, 6), (457, 70, 1, 455, 456), (487, 70, 1, 485, 486), (491, 70, 1, 489, 490), (495, 70, 1, 493, 494), (499, 70, 1, 497, 498), (507, 70, 1, 505, 506), (541, 70, 1, 539, 540), (263, 75, 1, 261, 262), (815, 75, 1, 813, 814), (697, 75, 1, 695, 696), (704, 75, 1, 702, 703), (700, 75, 0, 699, 0), (353, 74, 1, 351, 352), (549, 74, 1, 547, 548), (590, 74, 1, 588, 589), (585, 74, 1, 583, 584), (562, 74, 1, 561, 10), (571, 74, 1, 570, 12), (567, 74, 1, 566, 11), (575, 74, 1, 574, 13), (581, 74, 1, 580, 14), (610, 74, 1, 608, 609), (664, 74, 1, 662, 663), (794, 77, 1, 792, 793), (799, 77, 1, 797, 798), (803, 77, 1, 802, 26), (404, 69, 1, 402, 403), (408, 69, 1, 406, 407), (420, 69, 1, 418, 419), (429, 69, 1, 428, 3), (433, 69, 1, 432, 4), (425, 69, 1, 424, 2), (436, 69, 0, 435, 0), (342, 73, 1, 340, 341), (345, 73, 0, 344, 0), (349, 73, 1, 348, 1), (618, 73, 1, 616, 617), (622, 73, 1, 620, 621), (630, 73, 1, 628, 629), (645, 73, 1, 643, 644), (654, 73, 1, 652, 653), (669, 73, 1, 667, 668), (400, 68, 1, 398, 399), (412, 68, 1, 410, 411), (416, 68, 1, 414, 415), (465, 68, 1, 463, 464), (478, 68, 1, 476, 477), (483, 68, 1, 481, 482), (503, 68, 1, 501, 502), (511, 68, 1, 509, 510), (533, 68, 1, 531, 532), (537, 68, 1, 535, 536), (545, 68, 1, 543, 544), (594, 68, 1, 592, 593), (598, 68, 1, 596, 597), (602, 68, 1, 600, 601), (606, 68, 1, 604, 605), (614, 68, 1, 612, 613), (626, 68, 1, 624, 625), (639, 68, 1, 637, 638), (650, 68, 1, 648, 649), (660, 68, 1, 658, 659), (676, 68, 1, 674, 675), (680, 68, 1, 678, 679), (684, 68, 1, 682, 683), (772, 68, 1, 770, 771), (776, 68, 1, 774, 775), (780, 68, 1, 778, 779), (789, 68, 1, 787, 788), (811, 68, 1, 809, 810), (820, 68, 1, 818, 819), (824, 68, 1, 822, 823), (331, 68, 1, 330, 0), (515, 68, 1, 514, 8), (689, 68, 1, 688, 15), (693, 68, 1, 692, 16), (946, 78, 0, 945, 0), (1015, 78, 0, 1014, 0), (1176, 78, 0, 1175, 0), (834, 78, 1, 833, 27), (838, 78, 1, 837, 28), (942, 78, 1, 940, 941), (951, 78, 1, 949, 950), (967, 78, 1, 966, 31), (975, 78, 1, 974, 33), (971, 78, 1, 970, 32), (982, 78, 1, 981, 34), (963, 78, 1, 962, 30), (959, 78, 1, 958, 29), (955, 78, 1, 953, 954), (990, 78, 1, 989, 35), (986, 78, 1, 984, 985), (998, 78, 1, 997, 36), (994, 78, 1, 992, 993), (1007, 78, 1, 1006, 37), (1012, 78, 1, 1011, 38), (1019, 78, 1, 1018, 39), (1023, 78, 1, 1022, 40), (1003, 78, 1, 1001, 1002), (1031, 78, 1, 1030, 41), (1027, 78, 1, 1025, 1026), (1043, 78, 1, 1042, 43), (1047, 78, 1, 1046, 44), (1039, 78, 1, 1038, 42), (1079, 78, 1, 1078, 48), (1035, 78, 1, 1033, 1034), (1052, 78, 1, 1050, 1051), (1062, 78, 1, 1061, 45), (1058, 78, 1, 1056, 1057), (1075, 78, 1, 1074, 47), (1071, 78, 1, 1070, 46), (1066, 78, 1, 1064, 1065), (1083, 78, 1, 1081, 1082), (1088, 78, 1, 1086, 1087), (1092, 78, 1, 1090, 1091), (1100, 78, 1, 1099, 49), (1096, 78, 1, 1094, 1095), (1112, 78, 1, 1111, 51), (1108, 78, 1, 1107, 50), (1116, 78, 1, 1115, 52), (1104, 78, 1, 1102, 1103), (1124, 78, 1, 1123, 53), (1120, 78, 1, 1118, 1119), (1133, 78, 1, 1132, 54), (1128, 78, 1, 1126, 1127), (1144, 78, 1, 1143, 55), (1148, 78, 1, 1147, 56), (1140, 78, 1, 1138, 1139), (1152, 78, 1, 1150, 1151), (1156, 78, 1, 1154, 1155), (1160, 78, 1, 1158, 1159), (1196, 78, 1, 1195, 63), (1173, 78, 1, 1172, 58), (1200, 78, 1, 1199, 64), (1192, 78, 1, 1191, 62), (1184, 78, 1, 1183, 60), (1188, 78, 1, 1187, 61), (1204, 78, 1, 1203, 65), (1180, 78, 1, 1179, 59), (1169, 78, 1, 1168, 57), (1210, 78, 0, 1209, 0), (1207, 78, 0, 1206, 0), (1165, 78, 1, 1163, 1164), (1215, 78, 1, 1213, 1214), (1219, 78, 1, 1217, 1218), (1224, 78, 1, 1222, 1223), (1228, 78, 1, 1226, 1227), (1238, 78, 1, 1237, 66), (1234, 78, 1, 1232, 1233), (1242, 78, 1, 1240, 1241), (1246, 78, 1, 1244, 1245), (750, 81, 0, 749, 0), (714, 81, 0, 713, 0), (728, 71, 0, 727, 0), (125, 71, 0, 124, 0)]
def bg_okm (M : bg_M) (k : Nat) (q : Nat × Nat × Nat × Nat × Nat) : Bool :=
  plainName M.1.cls && decide (M.1.cls ≠ "java/lang/invoke/MethodHandle" ∧ M.1.cls ≠ "java/lang/invoke/VarHandle") && bg_wd q.2.1 (.initialized M.1.cls) && decide (M.2.2.1 ≤ 100) && decide (M.2.2.2.2.2.1 = bg_mc k) && decide (M.2.2.2.1 = none ∨ M.2.2.2.1 = some .int ∨ M.2.2.2.1 = some .boolean ∨ M.2.2.2.1 = some .long) && (match q.2.2.1 with
    | 0 => bg_wd q.2.2.2.1 (.static M.1)
    | 1 => bg_wd q.2.2.2.1 (.instanceMethod M.1) && bg_wd q.2.2.2.2 (.selects M.1.cls M.1 M.1)
    | _ => bg_wd q.2.2.2.1 (.instanceMethod M.1))
def bg_okl : List bg_M → List (Nat × Nat × Nat × Nat × Nat) → Nat → Bool
  | [], [], _ => true
  | M :: l, q :: r, k => bg_okm M k q && bg_okl l r (k + 1)
  | _, _, _ => false
theorem bg_okl_of : ∀ (l : List bg_M) (r : List (Nat × Nat × Nat × Nat × Nat)) (n : Nat), bg_okl l r n = true → ∀ (k : Nat) (M : bg_M), bg_nth l k = some M → ∃ q, bg_nth r k = some q ∧ bg_okm M (n + k) q = true
  | [], [], _, _, k, M, h => by simp [bg_nth] at h
  | [], _ :: _, _, h, _, _, _ => by simp [bg_okl] at h
  | _ :: _, [], _, h, _, _, _ => by simp [bg_okl] at h
  | M0 :: l, q :: r, n, h, 0, M, hk => by
    simp only [bg_okl, Bool.and_eq_true] at h
    cases hk
    exact ⟨q, rfl, h.1⟩
  | M0 :: l, q :: r, n, h, k + 1, M, hk => by
    simp only [bg_okl, Bool.and_eq_true] at h
    obtain ⟨q', h1, h2⟩ := bg_okl_of l r (n + 1) h.2 k M hk
    exact ⟨q', h1, by rw [show n + (k + 1) = n + 1 + k by omega]; exact h2⟩
theorem cw_X0_init : lw_tbl[171]? = some (.code me_X0_init.1 me_X0_init.2.1 me_X0_init.2.2.1 me_X0_init.2.2.2.1) := by decide +kernel
theorem cw_X1_init : lw_tbl[278]? = some (.code me_X1_init.1 me_X1_init.2.1 me_X1_init.2.2.1 me_X1_init.2.2.2.1) := by decide +kernel
theorem cw_X2_init : lw_tbl[115]? = some (.code me_X2_init.1 me_X2_init.2.1 me_X2_init.2.2.1 me_X2_init.2.2.2.1) := by decide +kernel
theorem cw_X3_init : lw_tbl[258]? = some (.code me_X3_init.1 me_X3_init.2.1 me_X3_init.2.2.1 me_X3_init.2.2.2.1) := by decide +kernel
theorem cw_X4_init : lw_tbl[213]? = some (.code me_X4_init.1 me_X4_init.2.1 me_X4_init.2.2.1 me_X4_init.2.2.2.1) := by decide +kernel
theorem cw_X5_init : lw_tbl[311]? = some (.code me_X5_init.1 me_X5_init.2.1 me_X5_init.2.2.1 me_X5_init.2.2.2.1) := by decide +kernel
theorem cw_X6_init : lw_tbl[94]? = some (.code me_X6_init.1 me_X6_init.2.1 me_X6_init.2.2.1 me_X6_init.2.2.2.1) := by decide +kernel
theorem cw_X7_init : lw_tbl[193]? = some (.code me_X7_init.1 me_X7_init.2.1 me_X7_init.2.2.1 me_X7_init.2.2.2.1) := by decide +kernel
theorem cw_X8_init : lw_tbl[86]? = some (.code me_X8_init.1 me_X8_init.2.1 me_X8_init.2.2.1 me_X8_init.2.2.2.1) := by decide +kernel
theorem cw_X9_init : lw_tbl[829]? = some (.code me_X9_init.1 me_X9_init.2.1 me_X9_init.2.2.1 me_X9_init.2.2.2.1) := by decide +kernel
theorem cw_X0_survey : lw_tbl[335]? = some (.code me_X0_survey.1 me_X0_survey.2.1 me_X0_survey.2.2.1 me_X0_survey.2.2.2.1) := by decide +kernel
theorem cw_X0_weigh : lw_tbl[519]? = some (.code me_X0_weigh.1 me_X0_weigh.2.1 me_X0_weigh.2.2.1 me_X0_weigh.2.2.2.1) := by decide +kernel
theorem cw_X0_outOfShore : lw_tbl[529]? = some (.code me_X0_outOfShore.1 me_X0_outOfShore.2.1 me_X0_outOfShore.2.2.1 me_X0_outOfShore.2.2.2.1) := by decide +kernel
theorem cw_X0_isNeeded : lw_tbl[558]? = some (.code me_X0_isNeeded.1 me_X0_isNeeded.2.1 me_X0_isNeeded.2.2.1 me_X0_isNeeded.2.2.2.1) := by decide +kernel
theorem cw_X0_sumOver : lw_tbl[525]? = some (.code me_X0_sumOver.1 me_X0_sumOver.2.1 me_X0_sumOver.2.2.1 me_X0_sumOver.2.2.2.1) := by decide +kernel
theorem cw_X0_placesOf : lw_tbl[338]? = some (.code me_X0_placesOf.1 me_X0_placesOf.2.1 me_X0_placesOf.2.2.1 me_X0_placesOf.2.2.2.1) := by decide +kernel
theorem cw_X1_findSupport : lw_tbl[708]? = some (.code me_X1_findSupport.1 me_X1_findSupport.2.1 me_X1_findSupport.2.2.1 me_X1_findSupport.2.2.2.1) := by decide +kernel
theorem cw_X1_findCarriers : lw_tbl[721]? = some (.code me_X1_findCarriers.1 me_X1_findCarriers.2.1 me_X1_findCarriers.2.2.1 me_X1_findCarriers.2.2.2.1) := by decide +kernel
theorem cw_X1_isSetOf : lw_tbl[711]? = some (.code me_X1_isSetOf.1 me_X1_isSetOf.2.1 me_X1_isSetOf.2.2.1 me_X1_isSetOf.2.2.2.1) := by decide +kernel
theorem cw_X1_mixes : lw_tbl[725]? = some (.code me_X1_mixes.1 me_X1_mixes.2.1 me_X1_mixes.2.2.1 me_X1_mixes.2.2.2.1) := by decide +kernel
theorem cw_X1_turnSigns : lw_tbl[744]? = some (.code me_X1_turnSigns.1 me_X1_turnSigns.2.1 me_X1_turnSigns.2.2.1 me_X1_turnSigns.2.2.2.1) := by decide +kernel
theorem cw_X1_areAllAbove0 : lw_tbl[747]? = some (.code me_X1_areAllAbove0.1 me_X1_areAllAbove0.2.1 me_X1_areAllAbove0.2.2.1 me_X1_areAllAbove0.2.2.2.1) := by decide +kernel
theorem cw_X1_signedMinor : lw_tbl[732]? = some (.code me_X1_signedMinor.1 me_X1_signedMinor.2.1 me_X1_signedMinor.2.2.1 me_X1_signedMinor.2.2.2.1) := by decide +kernel
theorem cw_X1_fillLine : lw_tbl[736]? = some (.code me_X1_fillLine.1 me_X1_fillLine.2.1 me_X1_fillLine.2.2.1 me_X1_fillLine.2.2.2.1) := by decide +kernel
theorem cw_X1_minorOf : lw_tbl[740]? = some (.code me_X1_minorOf.1 me_X1_minorOf.2.1 me_X1_minorOf.2.2.1 me_X1_minorOf.2.2.2.1) := by decide +kernel
theorem cw_X1_noneDoesBetter : lw_tbl[759]? = some (.code me_X1_noneDoesBetter.1 me_X1_noneDoesBetter.2.1 me_X1_noneDoesBetter.2.2.1 me_X1_noneDoesBetter.2.2.2.1) := by decide +kernel
theorem cw_X1_meanBy : lw_tbl[755]? = some (.code me_X1_meanBy.1 me_X1_meanBy.2.1 me_X1_meanBy.2.2.1 me_X1_meanBy.2.2.2.1) := by decide +kernel
theorem cw_X1_meanOf : lw_tbl[763]? = some (.code me_X1_meanOf.1 me_X1_meanOf.2.1 me_X1_meanOf.2.2.1 me_X1_meanOf.2.2.2.1) := by decide +kernel
theorem cw_X1_lowest : lw_tbl[768]? = some (.code me_X1_lowest.1 me_X1_lowest.2.1 me_X1_lowest.2.2.1 me_X1_lowest.2.2.2.1) := by decide +kernel
theorem cw_X1_worthOfBeingTold : lw_tbl[784]? = some (.code me_X1_worthOfBeingTold.1 me_X1_worthOfBeingTold.2.1 me_X1_worthOfBeingTold.2.2.1 me_X1_worthOfBeingTold.2.2.2.1) := by decide +kernel
theorem cw_X2_clear : lw_tbl[122]? = some (.code me_X2_clear.1 me_X2_clear.2.1 me_X2_clear.2.2.1 me_X2_clear.2.2.2.1) := by decide +kernel
theorem cw_X2_copy : lw_tbl[469]? = some (.code me_X2_copy.1 me_X2_copy.2.1 me_X2_copy.2.2.1 me_X2_copy.2.2.2.1) := by decide +kernel
theorem cw_X2_takes : lw_tbl[443]? = some (.code me_X2_takes.1 me_X2_takes.2.1 me_X2_takes.2.2.1 me_X2_takes.2.2.2.1) := by decide +kernel
theorem cw_X2_takesNumber : lw_tbl[461]? = some (.code me_X2_takesNumber.1 me_X2_takesNumber.2.1 me_X2_takesNumber.2.2.1 me_X2_takesNumber.2.2.2.1) := by decide +kernel
theorem cw_X2_takesPath : lw_tbl[447]? = some (.code me_X2_takesPath.1 me_X2_takesPath.2.1 me_X2_takesPath.2.2.1 me_X2_takesPath.2.2.2.1) := by decide +kernel
theorem cw_X2_takesTower : lw_tbl[453]? = some (.code me_X2_takesTower.1 me_X2_takesTower.2.1 me_X2_takesTower.2.2.1 me_X2_takesTower.2.2.2.1) := by decide +kernel
theorem cw_X2_hasPath : lw_tbl[457]? = some (.code me_X2_hasPath.1 me_X2_hasPath.2.1 me_X2_hasPath.2.2.1 me_X2_hasPath.2.2.2.1) := by decide +kernel
theorem cw_X2_hasPosts : lw_tbl[487]? = some (.code me_X2_hasPosts.1 me_X2_hasPosts.2.1 me_X2_hasPosts.2.2.1 me_X2_hasPosts.2.2.2.1) := by decide +kernel
theorem cw_X2_costOf : lw_tbl[491]? = some (.code me_X2_costOf.1 me_X2_costOf.2.1 me_X2_costOf.2.2.1 me_X2_costOf.2.2.2.1) := by decide +kernel
theorem cw_X2_heldBy : lw_tbl[495]? = some (.code me_X2_heldBy.1 me_X2_heldBy.2.1 me_X2_heldBy.2.2.1 me_X2_heldBy.2.2.2.1) := by decide +kernel
theorem cw_X2_waitsOf : lw_tbl[499]? = some (.code me_X2_waitsOf.1 me_X2_waitsOf.2.1 me_X2_waitsOf.2.2.1 me_X2_waitsOf.2.2.2.1) := by decide +kernel
theorem cw_X2_bearing : lw_tbl[507]? = some (.code me_X2_bearing.1 me_X2_bearing.2.1 me_X2_bearing.2.2.1 me_X2_bearing.2.2.2.1) := by decide +kernel
theorem cw_X2_comesMoreThanGoes : lw_tbl[541]? = some (.code me_X2_comesMoreThanGoes.1 me_X2_comesMoreThanGoes.2.1 me_X2_comesMoreThanGoes.2.2.1 me_X2_comesMoreThanGoes.2.2.2.1) := by decide +kernel
theorem cw_X3_clear : lw_tbl[263]? = some (.code me_X3_clear.1 me_X3_clear.2.1 me_X3_clear.2.2.1 me_X3_clear.2.2.2.1) := by decide +kernel
theorem cw_X3_copy : lw_tbl[815]? = some (.code me_X3_copy.1 me_X3_copy.2.1 me_X3_copy.2.2.1 me_X3_copy.2.2.2.1) := by decide +kernel
theorem cw_X3_toldGuards : lw_tbl[697]? = some (.code me_X3_toldGuards.1 me_X3_toldGuards.2.1 me_X3_toldGuards.2.2.1 me_X3_toldGuards.2.2.2.1) := by decide +kernel
theorem cw_X3_toldCarriers : lw_tbl[704]? = some (.code me_X3_toldCarriers.1 me_X3_toldCarriers.2.1 me_X3_toldCarriers.2.2.1 me_X3_toldCarriers.2.2.2.1) := by decide +kernel
theorem cw_X3_toldOf : lw_tbl[700]? = some (.code me_X3_toldOf.1 me_X3_toldOf.2.1 me_X3_toldOf.2.2.1 me_X3_toldOf.2.2.2.1) := by decide +kernel
theorem cw_X4_forget : lw_tbl[353]? = some (.code me_X4_forget.1 me_X4_forget.2.1 me_X4_forget.2.2.1 me_X4_forget.2.2.2.1) := by decide +kernel
theorem cw_X4_prepare : lw_tbl[549]? = some (.code me_X4_prepare.1 me_X4_prepare.2.1 me_X4_prepare.2.2.1 me_X4_prepare.2.2.2.1) := by decide +kernel
theorem cw_X4_bestFor : lw_tbl[590]? = some (.code me_X4_bestFor.1 me_X4_bestFor.2.1 me_X4_bestFor.2.2.1 me_X4_bestFor.2.2.2.1) := by decide +kernel
theorem cw_X4_leastFor : lw_tbl[585]? = some (.code me_X4_leastFor.1 me_X4_leastFor.2.1 me_X4_leastFor.2.2.1 me_X4_leastFor.2.2.2.1) := by decide +kernel
theorem cw_X4_lowerMost : lw_tbl[562]? = some (.code me_X4_lowerMost.1 me_X4_lowerMost.2.1 me_X4_lowerMost.2.2.1 me_X4_lowerMost.2.2.2.1) := by decide +kernel
theorem cw_X4_sumNumbers : lw_tbl[571]? = some (.code me_X4_sumNumbers.1 me_X4_sumNumbers.2.1 me_X4_sumNumbers.2.2.1 me_X4_sumNumbers.2.2.2.1) := by decide +kernel
theorem cw_X4_sumAddends : lw_tbl[567]? = some (.code me_X4_sumAddends.1 me_X4_sumAddends.2.1 me_X4_sumAddends.2.2.1 me_X4_sumAddends.2.2.2.1) := by decide +kernel
theorem cw_X4_offerAll : lw_tbl[575]? = some (.code me_X4_offerAll.1 me_X4_offerAll.2.1 me_X4_offerAll.2.2.1 me_X4_offerAll.2.2.2.1) := by decide +kernel
theorem cw_X4_spreadBest : lw_tbl[581]? = some (.code me_X4_spreadBest.1 me_X4_spreadBest.2.1 me_X4_spreadBest.2.2.1 me_X4_spreadBest.2.2.2.1) := by decide +kernel
theorem cw_X4_weigh : lw_tbl[610]? = some (.code me_X4_weigh.1 me_X4_weigh.2.1 me_X4_weigh.2.2.1 me_X4_weigh.2.2.2.1) := by decide +kernel
theorem cw_X4_leastPaying : lw_tbl[664]? = some (.code me_X4_leastPaying.1 me_X4_leastPaying.2.1 me_X4_leastPaying.2.2.1 me_X4_leastPaying.2.2.2.1) := by decide +kernel
theorem cw_X5_begin : lw_tbl[794]? = some (.code me_X5_begin.1 me_X5_begin.2.1 me_X5_begin.2.2.1 me_X5_begin.2.2.2.1) := by decide +kernel
theorem cw_X5_leastSum : lw_tbl[799]? = some (.code me_X5_leastSum.1 me_X5_leastSum.2.1 me_X5_leastSum.2.2.1 me_X5_leastSum.2.2.2.1) := by decide +kernel
theorem cw_X5_leastBefore : lw_tbl[803]? = some (.code me_X5_leastBefore.1 me_X5_leastBefore.2.1 me_X5_leastBefore.2.2.1 me_X5_leastBefore.2.2.2.1) := by decide +kernel
theorem cw_X6_hasRoomFor : lw_tbl[404]? = some (.code me_X6_hasRoomFor.1 me_X6_hasRoomFor.2.1 me_X6_hasRoomFor.2.2.1 me_X6_hasRoomFor.2.2.2.1) := by decide +kernel
theorem cw_X6_append : lw_tbl[408]? = some (.code me_X6_append.1 me_X6_append.2.1 me_X6_append.2.2.1 me_X6_append.2.2.2.1) := by decide +kernel
theorem cw_X6_readInto : lw_tbl[420]? = some (.code me_X6_readInto.1 me_X6_readInto.2.1 me_X6_readInto.2.2.1 me_X6_readInto.2.2.2.1) := by decide +kernel
theorem cw_X6_readNumbers : lw_tbl[429]? = some (.code me_X6_readNumbers.1 me_X6_readNumbers.2.1 me_X6_readNumbers.2.2.1 me_X6_readNumbers.2.2.2.1) := by decide +kernel
theorem cw_X6_readNumber : lw_tbl[433]? = some (.code me_X6_readNumber.1 me_X6_readNumber.2.1 me_X6_readNumber.2.2.1 me_X6_readNumber.2.2.2.1) := by decide +kernel
theorem cw_X6_nextByte : lw_tbl[425]? = some (.code me_X6_nextByte.1 me_X6_nextByte.2.1 me_X6_nextByte.2.2.1 me_X6_nextByte.2.2.2.1) := by decide +kernel
theorem cw_X6_isFigure : lw_tbl[436]? = some (.code me_X6_isFigure.1 me_X6_isFigure.2.1 me_X6_isFigure.2.2.1 me_X6_isFigure.2.2.2.1) := by decide +kernel
theorem cw_X7_survey : lw_tbl[342]? = some (.code me_X7_survey.1 me_X7_survey.2.1 me_X7_survey.2.2.1 me_X7_survey.2.2.2.1) := by decide +kernel
theorem cw_X7_follow : lw_tbl[345]? = some (.code me_X7_follow.1 me_X7_follow.2.1 me_X7_follow.2.2.1 me_X7_follow.2.2.2.1) := by decide +kernel
theorem cw_X7_add : lw_tbl[349]? = some (.code me_X7_add.1 me_X7_add.2.1 me_X7_add.2.2.1 me_X7_add.2.2.2.1) := by decide +kernel
theorem cw_X7_lengthOf : lw_tbl[618]? = some (.code me_X7_lengthOf.1 me_X7_lengthOf.2.1 me_X7_lengthOf.2.2.1 me_X7_lengthOf.2.2.2.1) := by decide +kernel
theorem cw_X7_pathAt : lw_tbl[622]? = some (.code me_X7_pathAt.1 me_X7_pathAt.2.1 me_X7_pathAt.2.2.1 me_X7_pathAt.2.2.2.1) := by decide +kernel
theorem cw_X7_leastBearing : lw_tbl[630]? = some (.code me_X7_leastBearing.1 me_X7_leastBearing.2.1 me_X7_leastBearing.2.2.1 me_X7_leastBearing.2.2.2.1) := by decide +kernel
theorem cw_X7_gainOf : lw_tbl[645]? = some (.code me_X7_gainOf.1 me_X7_gainOf.2.1 me_X7_gainOf.2.2.1 me_X7_gainOf.2.2.2.1) := by decide +kernel
theorem cw_X7_bestOf : lw_tbl[654]? = some (.code me_X7_bestOf.1 me_X7_bestOf.2.1 me_X7_bestOf.2.2.1 me_X7_bestOf.2.2.2.1) := by decide +kernel
theorem cw_X7_greatestGain : lw_tbl[669]? = some (.code me_X7_greatestGain.1 me_X7_greatestGain.2.1 me_X7_greatestGain.2.2.1 me_X7_greatestGain.2.2.2.1) := by decide +kernel
theorem cw_X8_write : lw_tbl[400]? = some (.code me_X8_write.1 me_X8_write.2.1 me_X8_write.2.2.1 me_X8_write.2.2.2.1) := by decide +kernel
theorem cw_X8_wipe : lw_tbl[412]? = some (.code me_X8_wipe.1 me_X8_wipe.2.1 me_X8_wipe.2.2.1 me_X8_wipe.2.2.2.1) := by decide +kernel
theorem cw_X8_fault : lw_tbl[416]? = some (.code me_X8_fault.1 me_X8_fault.2.1 me_X8_fault.2.2.1 me_X8_fault.2.2.2.1) := by decide +kernel
theorem cw_X8_lay : lw_tbl[465]? = some (.code me_X8_lay.1 me_X8_lay.2.1 me_X8_lay.2.2.1 me_X8_lay.2.2.2.1) := by decide +kernel
theorem cw_X8_path : lw_tbl[478]? = some (.code me_X8_path.1 me_X8_path.2.1 me_X8_path.2.2.1 me_X8_path.2.2.2.1) := by decide +kernel
theorem cw_X8_posts : lw_tbl[483]? = some (.code me_X8_posts.1 me_X8_posts.2.1 me_X8_posts.2.2.1 me_X8_posts.2.2.2.1) := by decide +kernel
theorem cw_X8_bears : lw_tbl[503]? = some (.code me_X8_bears.1 me_X8_bears.2.1 me_X8_bears.2.2.1 me_X8_bears.2.2.2.1) := by decide +kernel
theorem cw_X8_most : lw_tbl[511]? = some (.code me_X8_most.1 me_X8_most.2.1 me_X8_most.2.2.1 me_X8_most.2.2.2.1) := by decide +kernel
theorem cw_X8_row : lw_tbl[533]? = some (.code me_X8_row.1 me_X8_row.2.1 me_X8_row.2.2.1 me_X8_row.2.2.2.1) := by decide +kernel
theorem cw_X8_judge : lw_tbl[537]? = some (.code me_X8_judge.1 me_X8_judge.2.1 me_X8_judge.2.2.1 me_X8_judge.2.2.2.1) := by decide +kernel
theorem cw_X8_best : lw_tbl[545]? = some (.code me_X8_best.1 me_X8_best.2.1 me_X8_best.2.2.1 me_X8_best.2.2.2.1) := by decide +kernel
theorem cw_X8_fewest : lw_tbl[594]? = some (.code me_X8_fewest.1 me_X8_fewest.2.1 me_X8_fewest.2.2.1 me_X8_fewest.2.2.2.1) := by decide +kernel
theorem cw_X8_more : lw_tbl[598]? = some (.code me_X8_more.1 me_X8_more.2.1 me_X8_more.2.2.1 me_X8_more.2.2.2.1) := by decide +kernel
theorem cw_X8_oneMore : lw_tbl[602]? = some (.code me_X8_oneMore.1 me_X8_oneMore.2.1 me_X8_oneMore.2.2.1 me_X8_oneMore.2.2.2.1) := by decide +kernel
theorem cw_X8_weighed : lw_tbl[606]? = some (.code me_X8_weighed.1 me_X8_weighed.2.1 me_X8_weighed.2.2.1 me_X8_weighed.2.2.2.1) := by decide +kernel
theorem cw_X8_way : lw_tbl[614]? = some (.code me_X8_way.1 me_X8_way.2.1 me_X8_way.2.2.1 me_X8_way.2.2.2.1) := by decide +kernel
theorem cw_X8_through : lw_tbl[626]? = some (.code me_X8_through.1 me_X8_through.2.1 me_X8_through.2.2.1 me_X8_through.2.2.2.1) := by decide +kernel
theorem cw_X8_gain : lw_tbl[639]? = some (.code me_X8_gain.1 me_X8_gain.2.1 me_X8_gain.2.2.1 me_X8_gain.2.2.2.1) := by decide +kernel
theorem cw_X8_bestWay : lw_tbl[650]? = some (.code me_X8_bestWay.1 me_X8_bestWay.2.1 me_X8_bestWay.2.2.1 me_X8_bestWay.2.2.2.1) := by decide +kernel
theorem cw_X8_leastPay : lw_tbl[660]? = some (.code me_X8_leastPay.1 me_X8_leastPay.2.1 me_X8_leastPay.2.2.1 me_X8_leastPay.2.2.2.1) := by decide +kernel
theorem cw_X8_guard : lw_tbl[676]? = some (.code me_X8_guard.1 me_X8_guard.2.1 me_X8_guard.2.2.1 me_X8_guard.2.2.2.1) := by decide +kernel
theorem cw_X8_carrier : lw_tbl[680]? = some (.code me_X8_carrier.1 me_X8_carrier.2.1 me_X8_carrier.2.2.1 me_X8_carrier.2.2.2.1) := by decide +kernel
theorem cw_X8_value : lw_tbl[684]? = some (.code me_X8_value.1 me_X8_value.2.1 me_X8_value.2.2.1 me_X8_value.2.2.2.1) := by decide +kernel
theorem cw_X8_chance : lw_tbl[772]? = some (.code me_X8_chance.1 me_X8_chance.2.1 me_X8_chance.2.2.1 me_X8_chance.2.2.2.1) := by decide +kernel
theorem cw_X8_tenths : lw_tbl[776]? = some (.code me_X8_tenths.1 me_X8_tenths.2.1 me_X8_tenths.2.2.1 me_X8_tenths.2.2.2.1) := by decide +kernel
theorem cw_X8_told : lw_tbl[780]? = some (.code me_X8_told.1 me_X8_told.2.1 me_X8_told.2.2.1 me_X8_told.2.2.2.1) := by decide +kernel
theorem cw_X8_nights : lw_tbl[789]? = some (.code me_X8_nights.1 me_X8_nights.2.1 me_X8_nights.2.2.1 me_X8_nights.2.2.2.1) := by decide +kernel
theorem cw_X8_keep : lw_tbl[811]? = some (.code me_X8_keep.1 me_X8_keep.2.1 me_X8_keep.2.2.1 me_X8_keep.2.2.2.1) := by decide +kernel
theorem cw_X8_back : lw_tbl[820]? = some (.code me_X8_back.1 me_X8_back.2.1 me_X8_back.2.2.1 me_X8_back.2.2.2.1) := by decide +kernel
theorem cw_X8_count : lw_tbl[824]? = some (.code me_X8_count.1 me_X8_count.2.1 me_X8_count.2.2.1 me_X8_count.2.2.2.1) := by decide +kernel
theorem cw_X8_survey : lw_tbl[331]? = some (.code me_X8_survey.1 me_X8_survey.2.1 me_X8_survey.2.2.1 me_X8_survey.2.2.2.1) := by decide +kernel
theorem cw_X8_mostBy : lw_tbl[515]? = some (.code me_X8_mostBy.1 me_X8_mostBy.2.1 me_X8_mostBy.2.2.1 me_X8_mostBy.2.2.2.1) := by decide +kernel
theorem cw_X8_playGame : lw_tbl[689]? = some (.code me_X8_playGame.1 me_X8_playGame.2.1 me_X8_playGame.2.2.1 me_X8_playGame.2.2.2.1) := by decide +kernel
theorem cw_X8_setUpGame : lw_tbl[693]? = some (.code me_X8_setUpGame.1 me_X8_setUpGame.2.1 me_X8_setUpGame.2.2.1 me_X8_setUpGame.2.2.2.1) := by decide +kernel
theorem cw_X9_in : lw_tbl[946]? = some (.code me_X9_in.1 me_X9_in.2.1 me_X9_in.2.2.1 me_X9_in.2.2.2.1) := by decide +kernel
theorem cw_X9_has : lw_tbl[1015]? = some (.code me_X9_has.1 me_X9_has.2.1 me_X9_has.2.2.1 me_X9_has.2.2.2.1) := by decide +kernel
theorem cw_X9_bits : lw_tbl[1176]? = some (.code me_X9_bits.1 me_X9_bits.2.1 me_X9_bits.2.2.1 me_X9_bits.2.2.2.1) := by decide +kernel
theorem cw_X9_noLand : lw_tbl[834]? = some (.code me_X9_noLand.1 me_X9_noLand.2.1 me_X9_noLand.2.2.1 me_X9_noLand.2.2.2.1) := by decide +kernel
theorem cw_X9_noPlayers : lw_tbl[838]? = some (.code me_X9_noPlayers.1 me_X9_noPlayers.2.1 me_X9_noPlayers.2.2.1 me_X9_noPlayers.2.2.2.1) := by decide +kernel
theorem cw_X9_write : lw_tbl[942]? = some (.code me_X9_write.1 me_X9_write.2.1 me_X9_write.2.2.1 me_X9_write.2.2.2.1) := by decide +kernel
theorem cw_X9_wipe : lw_tbl[951]? = some (.code me_X9_wipe.1 me_X9_wipe.2.1 me_X9_wipe.2.2.1 me_X9_wipe.2.2.2.1) := by decide +kernel
theorem cw_X9_byteAt : lw_tbl[967]? = some (.code me_X9_byteAt.1 me_X9_byteAt.2.1 me_X9_byteAt.2.2.1 me_X9_byteAt.2.2.2.1) := by decide +kernel
theorem cw_X9_figures : lw_tbl[975]? = some (.code me_X9_figures.1 me_X9_figures.2.1 me_X9_figures.2.2.1 me_X9_figures.2.2.2.1) := by decide +kernel
theorem cw_X9_pathItem : lw_tbl[971]? = some (.code me_X9_pathItem.1 me_X9_pathItem.2.1 me_X9_pathItem.2.2.1 me_X9_pathItem.2.2.2.1) := by decide +kernel
theorem cw_X9_towerItem : lw_tbl[982]? = some (.code me_X9_towerItem.1 me_X9_towerItem.2.1 me_X9_towerItem.2.2.1 me_X9_towerItem.2.2.2.1) := by decide +kernel
theorem cw_X9_item : lw_tbl[963]? = some (.code me_X9_item.1 me_X9_item.2.1 me_X9_item.2.2.1 me_X9_item.2.2.2.1) := by decide +kernel
theorem cw_X9_readAll : lw_tbl[959]? = some (.code me_X9_readAll.1 me_X9_readAll.2.1 me_X9_readAll.2.2.1 me_X9_readAll.2.2.2.1) := by decide +kernel
theorem cw_X9_fault : lw_tbl[955]? = some (.code me_X9_fault.1 me_X9_fault.2.1 me_X9_fault.2.2.1 me_X9_fault.2.2.2.1) := by decide +kernel
theorem cw_X9_copyLand : lw_tbl[990]? = some (.code me_X9_copyLand.1 me_X9_copyLand.2.1 me_X9_copyLand.2.2.1 me_X9_copyLand.2.2.2.1) := by decide +kernel
theorem cw_X9_lay : lw_tbl[986]? = some (.code me_X9_lay.1 me_X9_lay.2.1 me_X9_lay.2.2.1 me_X9_lay.2.2.2.1) := by decide +kernel
theorem cw_X9_isPath : lw_tbl[998]? = some (.code me_X9_isPath.1 me_X9_isPath.2.1 me_X9_isPath.2.2.1 me_X9_isPath.2.2.2.1) := by decide +kernel
theorem cw_X9_path : lw_tbl[994]? = some (.code me_X9_path.1 me_X9_path.2.1 me_X9_path.2.2.1 me_X9_path.2.2.2.1) := by decide +kernel
theorem cw_X9_arePosts : lw_tbl[1007]? = some (.code me_X9_arePosts.1 me_X9_arePosts.2.1 me_X9_arePosts.2.2.1 me_X9_arePosts.2.2.2.1) := by decide +kernel
theorem cw_X9_costOf : lw_tbl[1012]? = some (.code me_X9_costOf.1 me_X9_costOf.2.1 me_X9_costOf.2.2.1 me_X9_costOf.2.2.2.1) := by decide +kernel
theorem cw_X9_heldBy : lw_tbl[1019]? = some (.code me_X9_heldBy.1 me_X9_heldBy.2.1 me_X9_heldBy.2.2.1 me_X9_heldBy.2.2.2.1) := by decide +kernel
theorem cw_X9_waitsBy : lw_tbl[1023]? = some (.code me_X9_waitsBy.1 me_X9_waitsBy.2.1 me_X9_waitsBy.2.2.1 me_X9_waitsBy.2.2.2.1) := by decide +kernel
theorem cw_X9_posts : lw_tbl[1003]? = some (.code me_X9_posts.1 me_X9_posts.2.1 me_X9_posts.2.2.1 me_X9_posts.2.2.2.1) := by decide +kernel
theorem cw_X9_bearsWith : lw_tbl[1031]? = some (.code me_X9_bearsWith.1 me_X9_bearsWith.2.1 me_X9_bearsWith.2.2.1 me_X9_bearsWith.2.2.2.1) := by decide +kernel
theorem cw_X9_bears : lw_tbl[1027]? = some (.code me_X9_bears.1 me_X9_bears.2.1 me_X9_bears.2.2.1 me_X9_bears.2.2.2.1) := by decide +kernel
theorem cw_X9_spread : lw_tbl[1043]? = some (.code me_X9_spread.1 me_X9_spread.2.1 me_X9_spread.2.2.1 me_X9_spread.2.2.2.1) := by decide +kernel
theorem cw_X9_push : lw_tbl[1047]? = some (.code me_X9_push.1 me_X9_push.2.1 me_X9_push.2.2.1 me_X9_push.2.2.2.1) := by decide +kernel
theorem cw_X9_flow : lw_tbl[1039]? = some (.code me_X9_flow.1 me_X9_flow.2.1 me_X9_flow.2.2.1 me_X9_flow.2.2.2.1) := by decide +kernel
theorem cw_X9_mostBy : lw_tbl[1079]? = some (.code me_X9_mostBy.1 me_X9_mostBy.2.1 me_X9_mostBy.2.2.1 me_X9_mostBy.2.2.2.1) := by decide +kernel
theorem cw_X9_most : lw_tbl[1035]? = some (.code me_X9_most.1 me_X9_most.2.1 me_X9_most.2.2.1 me_X9_most.2.2.2.1) := by decide +kernel
theorem cw_X9_row : lw_tbl[1052]? = some (.code me_X9_row.1 me_X9_row.2.1 me_X9_row.2.2.1 me_X9_row.2.2.2.1) := by decide +kernel
theorem cw_X9_comeTo : lw_tbl[1062]? = some (.code me_X9_comeTo.1 me_X9_comeTo.2.1 me_X9_comeTo.2.2.1 me_X9_comeTo.2.2.2.1) := by decide +kernel
theorem cw_X9_judge : lw_tbl[1058]? = some (.code me_X9_judge.1 me_X9_judge.2.1 me_X9_judge.2.2.1 me_X9_judge.2.2.2.1) := by decide +kernel
theorem cw_X9_setMany : lw_tbl[1075]? = some (.code me_X9_setMany.1 me_X9_setMany.2.1 me_X9_setMany.2.2.1 me_X9_setMany.2.2.2.1) := by decide +kernel
theorem cw_X9_bestFor : lw_tbl[1071]? = some (.code me_X9_bestFor.1 me_X9_bestFor.2.1 me_X9_bestFor.2.2.1 me_X9_bestFor.2.2.2.1) := by decide +kernel
theorem cw_X9_best : lw_tbl[1066]? = some (.code me_X9_best.1 me_X9_best.2.1 me_X9_best.2.2.1 me_X9_best.2.2.2.1) := by decide +kernel
theorem cw_X9_fewest : lw_tbl[1083]? = some (.code me_X9_fewest.1 me_X9_fewest.2.1 me_X9_fewest.2.2.1 me_X9_fewest.2.2.2.1) := by decide +kernel
theorem cw_X9_more : lw_tbl[1088]? = some (.code me_X9_more.1 me_X9_more.2.1 me_X9_more.2.2.1 me_X9_more.2.2.2.1) := by decide +kernel
theorem cw_X9_oneMore : lw_tbl[1092]? = some (.code me_X9_oneMore.1 me_X9_oneMore.2.1 me_X9_oneMore.2.2.1 me_X9_oneMore.2.2.2.1) := by decide +kernel
theorem cw_X9_weigh : lw_tbl[1100]? = some (.code me_X9_weigh.1 me_X9_weigh.2.1 me_X9_weigh.2.2.1 me_X9_weigh.2.2.2.1) := by decide +kernel
theorem cw_X9_weighed : lw_tbl[1096]? = some (.code me_X9_weighed.1 me_X9_weighed.2.1 me_X9_weighed.2.2.1 me_X9_weighed.2.2.2.1) := by decide +kernel
theorem cw_X9_seenBy : lw_tbl[1112]? = some (.code me_X9_seenBy.1 me_X9_seenBy.2.1 me_X9_seenBy.2.2.1 me_X9_seenBy.2.2.2.1) := by decide +kernel
theorem cw_X9_layWays : lw_tbl[1108]? = some (.code me_X9_layWays.1 me_X9_layWays.2.1 me_X9_layWays.2.2.1 me_X9_layWays.2.2.2.1) := by decide +kernel
theorem cw_X9_noteWay : lw_tbl[1116]? = some (.code me_X9_noteWay.1 me_X9_noteWay.2.1 me_X9_noteWay.2.2.1 me_X9_noteWay.2.2.2.1) := by decide +kernel
theorem cw_X9_way : lw_tbl[1104]? = some (.code me_X9_way.1 me_X9_way.2.1 me_X9_way.2.2.1 me_X9_way.2.2.2.1) := by decide +kernel
theorem cw_X9_throughBy : lw_tbl[1124]? = some (.code me_X9_throughBy.1 me_X9_throughBy.2.1 me_X9_throughBy.2.2.1 me_X9_throughBy.2.2.2.1) := by decide +kernel
theorem cw_X9_through : lw_tbl[1120]? = some (.code me_X9_through.1 me_X9_through.2.1 me_X9_through.2.2.1 me_X9_through.2.2.2.1) := by decide +kernel
theorem cw_X9_gainBy : lw_tbl[1133]? = some (.code me_X9_gainBy.1 me_X9_gainBy.2.1 me_X9_gainBy.2.2.1 me_X9_gainBy.2.2.2.1) := by decide +kernel
theorem cw_X9_gain : lw_tbl[1128]? = some (.code me_X9_gain.1 me_X9_gain.2.1 me_X9_gain.2.2.1 me_X9_gain.2.2.2.1) := by decide +kernel
theorem cw_X9_bestWayBy : lw_tbl[1144]? = some (.code me_X9_bestWayBy.1 me_X9_bestWayBy.2.1 me_X9_bestWayBy.2.2.1 me_X9_bestWayBy.2.2.2.1) := by decide +kernel
theorem cw_X9_elseParts : lw_tbl[1148]? = some (.code me_X9_elseParts.1 me_X9_elseParts.2.1 me_X9_elseParts.2.2.1 me_X9_elseParts.2.2.2.1) := by decide +kernel
theorem cw_X9_bestWay : lw_tbl[1140]? = some (.code me_X9_bestWay.1 me_X9_bestWay.2.1 me_X9_bestWay.2.2.1 me_X9_bestWay.2.2.2.1) := by decide +kernel
theorem cw_X9_leastPay : lw_tbl[1152]? = some (.code me_X9_leastPay.1 me_X9_leastPay.2.1 me_X9_leastPay.2.2.1 me_X9_leastPay.2.2.2.1) := by decide +kernel
theorem cw_X9_guard : lw_tbl[1156]? = some (.code me_X9_guard.1 me_X9_guard.2.1 me_X9_guard.2.2.1 me_X9_guard.2.2.2.1) := by decide +kernel
theorem cw_X9_carrier : lw_tbl[1160]? = some (.code me_X9_carrier.1 me_X9_carrier.2.1 me_X9_carrier.2.2.1 me_X9_carrier.2.2.2.1) := by decide +kernel
theorem cw_X9_game : lw_tbl[1196]? = some (.code me_X9_game.1 me_X9_game.2.1 me_X9_game.2.2.1 me_X9_game.2.2.2.1) := by decide +kernel
theorem cw_X9_toldOnes : lw_tbl[1173]? = some (.code me_X9_toldOnes.1 me_X9_toldOnes.2.1 me_X9_toldOnes.2.2.1 me_X9_toldOnes.2.2.2.1) := by decide +kernel
theorem cw_X9_determinant : lw_tbl[1200]? = some (.code me_X9_determinant.1 me_X9_determinant.2.1 me_X9_determinant.2.2.1 me_X9_determinant.2.2.2.1) := by decide +kernel
theorem cw_X9_layCells : lw_tbl[1192]? = some (.code me_X9_layCells.1 me_X9_layCells.2.1 me_X9_layCells.2.2.1 me_X9_layCells.2.2.2.1) := by decide +kernel
theorem cw_X9_layMembers : lw_tbl[1184]? = some (.code me_X9_layMembers.1 me_X9_layMembers.2.1 me_X9_layMembers.2.2.1 me_X9_layMembers.2.2.2.1) := by decide +kernel
theorem cw_X9_solve : lw_tbl[1188]? = some (.code me_X9_solve.1 me_X9_solve.2.1 me_X9_solve.2.2.1 me_X9_solve.2.2.2.1) := by decide +kernel
theorem cw_X9_holds : lw_tbl[1204]? = some (.code me_X9_holds.1 me_X9_holds.2.1 me_X9_holds.2.2.1 me_X9_holds.2.2.2.1) := by decide +kernel
theorem cw_X9_isSupport : lw_tbl[1180]? = some (.code me_X9_isSupport.1 me_X9_isSupport.2.1 me_X9_isSupport.2.2.1 me_X9_isSupport.2.2.2.1) := by decide +kernel
theorem cw_X9_play : lw_tbl[1169]? = some (.code me_X9_play.1 me_X9_play.2.1 me_X9_play.2.2.1 me_X9_play.2.2.2.1) := by decide +kernel
theorem cw_X9_common : lw_tbl[1210]? = some (.code me_X9_common.1 me_X9_common.2.1 me_X9_common.2.2.1 me_X9_common.2.2.2.1) := by decide +kernel
theorem cw_X9_lowest : lw_tbl[1207]? = some (.code me_X9_lowest.1 me_X9_lowest.2.1 me_X9_lowest.2.2.1 me_X9_lowest.2.2.2.1) := by decide +kernel
theorem cw_X9_value : lw_tbl[1165]? = some (.code me_X9_value.1 me_X9_value.2.1 me_X9_value.2.2.1 me_X9_value.2.2.2.1) := by decide +kernel
theorem cw_X9_chance : lw_tbl[1215]? = some (.code me_X9_chance.1 me_X9_chance.2.1 me_X9_chance.2.2.1 me_X9_chance.2.2.2.1) := by decide +kernel
theorem cw_X9_tenths : lw_tbl[1219]? = some (.code me_X9_tenths.1 me_X9_tenths.2.1 me_X9_tenths.2.2.1 me_X9_tenths.2.2.2.1) := by decide +kernel
theorem cw_X9_told : lw_tbl[1224]? = some (.code me_X9_told.1 me_X9_told.2.1 me_X9_told.2.2.1 me_X9_told.2.2.2.1) := by decide +kernel
theorem cw_X9_nights : lw_tbl[1228]? = some (.code me_X9_nights.1 me_X9_nights.2.1 me_X9_nights.2.2.1 me_X9_nights.2.2.2.1) := by decide +kernel
theorem cw_X9_copy : lw_tbl[1238]? = some (.code me_X9_copy.1 me_X9_copy.2.1 me_X9_copy.2.2.1 me_X9_copy.2.2.2.1) := by decide +kernel
theorem cw_X9_keep : lw_tbl[1234]? = some (.code me_X9_keep.1 me_X9_keep.2.1 me_X9_keep.2.2.1 me_X9_keep.2.2.2.1) := by decide +kernel
theorem cw_X9_back : lw_tbl[1242]? = some (.code me_X9_back.1 me_X9_back.2.1 me_X9_back.2.2.1 me_X9_back.2.2.2.1) := by decide +kernel
theorem cw_X9_count : lw_tbl[1246]? = some (.code me_X9_count.1 me_X9_count.2.1 me_X9_count.2.2.1 me_X9_count.2.2.2.1) := by decide +kernel
theorem cw_J6_numberOfTrailingZeros_0f7a4 : lw_tbl[750]? = some (.code me_J6_numberOfTrailingZeros_0f7a4.1 me_J6_numberOfTrailingZeros_0f7a4.2.1 me_J6_numberOfTrailingZeros_0f7a4.2.2.1 me_J6_numberOfTrailingZeros_0f7a4.2.2.2.1) := by decide +kernel
theorem cw_J6_bitCount_0f7a4 : lw_tbl[714]? = some (.code me_J6_bitCount_0f7a4.1 me_J6_bitCount_0f7a4.2.1 me_J6_bitCount_0f7a4.2.2.1 me_J6_bitCount_0f7a4.2.2.2.1) := by decide +kernel
theorem cw_J7_fill_d0a16 : lw_tbl[728]? = some (.code me_J7_fill_d0a16.1 me_J7_fill_d0a16.2.1 me_J7_fill_d0a16.2.2.1 me_J7_fill_d0a16.2.2.2.1) := by decide +kernel
theorem cw_J7_fill_53178 : lw_tbl[125]? = some (.code me_J7_fill_53178.1 me_J7_fill_53178.2.1 me_J7_fill_53178.2.2.1 me_J7_fill_53178.2.2.2.1) := by decide +kernel
def bg_cwl : List bg_M → Prop
  | [] => True
  | M :: l => Cond.code M.1 M.2.1 M.2.2.1 M.2.2.2.1 ∈ lw_tbl ∧ bg_cwl l
theorem bg_cw_all : bg_cwl bg_MS := ⟨List.mem_of_getElem? cw_X0_init, ⟨List.mem_of_getElem? cw_X1_init, ⟨List.mem_of_getElem? cw_X2_init, ⟨List.mem_of_getElem? cw_X3_init, ⟨List.mem_of_getElem? cw_X4_init, ⟨List.mem_of_getElem? cw_X5_init, ⟨List.mem_of_getElem? cw_X6_init, ⟨List.mem_of_getElem? cw_X7_init, ⟨List.mem_of_getElem? cw_X8_init, ⟨List.mem_of_getElem? cw_X9_init, ⟨List.mem_of_getElem? cw_X0_survey, ⟨List.mem_of_getElem? cw_X0_weigh, ⟨List.mem_of_getElem? cw_X0_outOfShore, ⟨List.mem_of_getElem? cw_X0_isNeeded, ⟨List.mem_of_getElem? cw_X0_sumOver, ⟨List.mem_of_getElem? cw_X0_placesOf, ⟨List.mem_of_getElem? cw_X1_findSupport, ⟨List.mem_of_getElem? cw_X1_findCarriers, ⟨List.mem_of_getElem? cw_X1_isSetOf, ⟨List.mem_of_getElem? cw_X1_mixes, ⟨List.mem_of_getElem? cw_X1_turnSigns, ⟨List.mem_of_getElem? cw_X1_areAllAbove0, ⟨List.mem_of_getElem? cw_X1_signedMinor, ⟨List.mem_of_getElem? cw_X1_fillLine, ⟨List.mem_of_getElem? cw_X1_minorOf, ⟨List.mem_of_getElem? cw_X1_noneDoesBetter, ⟨List.mem_of_getElem? cw_X1_meanBy, ⟨List.mem_of_getElem? cw_X1_meanOf, ⟨List.mem_of_getElem? cw_X1_lowest, ⟨List.mem_of_getElem? cw_X1_worthOfBeingTold, ⟨List.mem_of_getElem? cw_X2_clear, ⟨List.mem_of_getElem? cw_X2_copy, ⟨List.mem_of_getElem? cw_X2_takes, ⟨List.mem_of_getElem? cw_X2_takesNumber, ⟨List.mem_of_getElem? cw_X2_takesPath, ⟨List.mem_of_getElem? cw_X2_takesTower, ⟨List.mem_of_getElem? cw_X2_hasPath, ⟨List.mem_of_getElem? cw_X2_hasPosts, ⟨List.mem_of_getElem? cw_X2_costOf, ⟨List.mem_of_getElem? cw_X2_heldBy, ⟨List.mem_of_getElem? cw_X2_waitsOf, ⟨List.mem_of_getElem? cw_X2_bearing, ⟨List.mem_of_getElem? cw_X2_comesMoreThanGoes, ⟨List.mem_of_getElem? cw_X3_clear, ⟨List.mem_of_getElem? cw_X3_copy, ⟨List.mem_of_getElem? cw_X3_toldGuards, ⟨List.mem_of_getElem? cw_X3_toldCarriers, ⟨List.mem_of_getElem? cw_X3_toldOf, ⟨List.mem_of_getElem? cw_X4_forget, ⟨List.mem_of_getElem? cw_X4_prepare, ⟨List.mem_of_getElem? cw_X4_bestFor, ⟨List.mem_of_getElem? cw_X4_leastFor, ⟨List.mem_of_getElem? cw_X4_lowerMost, ⟨List.mem_of_getElem? cw_X4_sumNumbers, ⟨List.mem_of_getElem? cw_X4_sumAddends, ⟨List.mem_of_getElem? cw_X4_offerAll, ⟨List.mem_of_getElem? cw_X4_spreadBest, ⟨List.mem_of_getElem? cw_X4_weigh, ⟨List.mem_of_getElem? cw_X4_leastPaying, ⟨List.mem_of_getElem? cw_X5_begin, ⟨List.mem_of_getElem? cw_X5_leastSum, ⟨List.mem_of_getElem? cw_X5_leastBefore, ⟨List.mem_of_getElem? cw_X6_hasRoomFor, ⟨List.mem_of_getElem? cw_X6_append, ⟨List.mem_of_getElem? cw_X6_readInto, ⟨List.mem_of_getElem? cw_X6_readNumbers, ⟨List.mem_of_getElem? cw_X6_readNumber, ⟨List.mem_of_getElem? cw_X6_nextByte, ⟨List.mem_of_getElem? cw_X6_isFigure, ⟨List.mem_of_getElem? cw_X7_survey, ⟨List.mem_of_getElem? cw_X7_follow, ⟨List.mem_of_getElem? cw_X7_add, ⟨List.mem_of_getElem? cw_X7_lengthOf, ⟨List.mem_of_getElem? cw_X7_pathAt, ⟨List.mem_of_getElem? cw_X7_leastBearing, ⟨List.mem_of_getElem? cw_X7_gainOf, ⟨List.mem_of_getElem? cw_X7_bestOf, ⟨List.mem_of_getElem? cw_X7_greatestGain, ⟨List.mem_of_getElem? cw_X8_write, ⟨List.mem_of_getElem? cw_X8_wipe, ⟨List.mem_of_getElem? cw_X8_fault, ⟨List.mem_of_getElem? cw_X8_lay, ⟨List.mem_of_getElem? cw_X8_path, ⟨List.mem_of_getElem? cw_X8_posts, ⟨List.mem_of_getElem? cw_X8_bears, ⟨List.mem_of_getElem? cw_X8_most, ⟨List.mem_of_getElem? cw_X8_row, ⟨List.mem_of_getElem? cw_X8_judge, ⟨List.mem_of_getElem? cw_X8_best, ⟨List.mem_of_getElem? cw_X8_fewest, ⟨List.mem_of_getElem? cw_X8_more, ⟨List.mem_of_getElem? cw_X8_oneMore, ⟨List.mem_of_getElem? cw_X8_weighed, ⟨List.mem_of_getElem? cw_X8_way, ⟨List.mem_of_getElem? cw_X8_through, ⟨List.mem_of_getElem? cw_X8_gain, ⟨List.mem_of_getElem? cw_X8_bestWay, ⟨List.mem_of_getElem? cw_X8_leastPay, ⟨List.mem_of_getElem? cw_X8_guard, ⟨List.mem_of_getElem? cw_X8_carrier, ⟨List.mem_of_getElem? cw_X8_value, ⟨List.mem_of_getElem? cw_X8_chance, ⟨List.mem_of_getElem? cw_X8_tenths, ⟨List.mem_of_getElem? cw_X8_told, ⟨List.mem_of_getElem? cw_X8_nights, ⟨List.mem_of_getElem? cw_X8_keep, ⟨List.mem_of_getElem? cw_X8_back, ⟨List.mem_of_getElem? cw_X8_count, ⟨List.mem_of_getElem? cw_X8_survey, ⟨List.mem_of_getElem? cw_X8_mostBy, ⟨List.mem_of_getElem? cw_X8_playGame, ⟨List.mem_of_getElem? cw_X8_setUpGame, ⟨List.mem_of_getElem? cw_X9_in, ⟨List.mem_of_getElem? cw_X9_has, ⟨List.mem_of_getElem? cw_X9_bits, ⟨List.mem_of_getElem? cw_X9_noLand, ⟨List.mem_of_getElem? cw_X9_noPlayers, ⟨List.mem_of_getElem? cw_X9_write, ⟨List.mem_of_getElem? cw_X9_wipe, ⟨List.mem_of_getElem? cw_X9_byteAt, ⟨List.mem_of_getElem? cw_X9_figures, ⟨List.mem_of_getElem? cw_X9_pathItem, ⟨List.mem_of_getElem? cw_X9_towerItem, ⟨List.mem_of_getElem? cw_X9_item, ⟨List.mem_of_getElem? cw_X9_readAll, ⟨List.mem_of_getElem? cw_X9_fault, ⟨List.mem_of_getElem? cw_X9_copyLand, ⟨List.mem_of_getElem? cw_X9_lay, ⟨List.mem_of_getElem? cw_X9_isPath, ⟨List.mem_of_getElem? cw_X9_path, ⟨List.mem_of_getElem? cw_X9_arePosts, ⟨List.mem_of_getElem? cw_X9_costOf, ⟨List.mem_of_getElem? cw_X9_heldBy, ⟨List.mem_of_getElem? cw_X9_waitsBy, ⟨List.mem_of_getElem? cw_X9_posts, ⟨List.mem_of_getElem? cw_X9_bearsWith, ⟨List.mem_of_getElem? cw_X9_bears, ⟨List.mem_of_getElem? cw_X9_spread, ⟨List.mem_of_getElem? cw_X9_push, ⟨List.mem_of_getElem? cw_X9_flow, ⟨List.mem_of_getElem? cw_X9_mostBy, ⟨List.mem_of_getElem? cw_X9_most, ⟨List.mem_of_getElem? cw_X9_row, ⟨List.mem_of_getElem? cw_X9_comeTo, ⟨List.mem_of_getElem? cw_X9_judge, ⟨List.mem_of_getElem? cw_X9_setMany, ⟨List.mem_of_getElem? cw_X9_bestFor, ⟨List.mem_of_getElem? cw_X9_best, ⟨List.mem_of_getElem? cw_X9_fewest, ⟨List.mem_of_getElem? cw_X9_more, ⟨List.mem_of_getElem? cw_X9_oneMore, ⟨List.mem_of_getElem? cw_X9_weigh, ⟨List.mem_of_getElem? cw_X9_weighed, ⟨List.mem_of_getElem? cw_X9_seenBy, ⟨List.mem_of_getElem? cw_X9_layWays, ⟨List.mem_of_getElem? cw_X9_noteWay, ⟨List.mem_of_getElem? cw_X9_way, ⟨List.mem_of_getElem? cw_X9_throughBy, ⟨List.mem_of_getElem? cw_X9_through, ⟨List.mem_of_getElem? cw_X9_gainBy, ⟨List.mem_of_getElem? cw_X9_gain, ⟨List.mem_of_getElem? cw_X9_bestWayBy, ⟨List.mem_of_getElem? cw_X9_elseParts, ⟨List.mem_of_getElem? cw_X9_bestWay, ⟨List.mem_of_getElem? cw_X9_leastPay, ⟨List.mem_of_getElem? cw_X9_guard, ⟨List.mem_of_getElem? cw_X9_carrier, ⟨List.mem_of_getElem? cw_X9_game, ⟨List.mem_of_getElem? cw_X9_toldOnes, ⟨List.mem_of_getElem? cw_X9_determinant, ⟨List.mem_of_getElem? cw_X9_layCells, ⟨List.mem_of_getElem? cw_X9_layMembers, ⟨List.mem_of_getElem? cw_X9_solve, ⟨List.mem_of_getElem? cw_X9_holds, ⟨List.mem_of_getElem? cw_X9_isSupport, ⟨List.mem_of_getElem? cw_X9_play, ⟨List.mem_of_getElem? cw_X9_common, ⟨List.mem_of_getElem? cw_X9_lowest, ⟨List.mem_of_getElem? cw_X9_value, ⟨List.mem_of_getElem? cw_X9_chance, ⟨List.mem_of_getElem? cw_X9_tenths, ⟨List.mem_of_getElem? cw_X9_told, ⟨List.mem_of_getElem? cw_X9_nights, ⟨List.mem_of_getElem? cw_X9_copy, ⟨List.mem_of_getElem? cw_X9_keep, ⟨List.mem_of_getElem? cw_X9_back, ⟨List.mem_of_getElem? cw_X9_count, ⟨List.mem_of_getElem? cw_J6_numberOfTrailingZeros_0f7a4, ⟨List.mem_of_getElem? cw_J6_bitCount_0f7a4, ⟨List.mem_of_getElem? cw_J7_fill_d0a16, ⟨List.mem_of_getElem? cw_J7_fill_53178, trivial⟩⟩⟩⟩⟩⟩⟩⟩⟩⟩⟩⟩⟩⟩⟩⟩⟩⟩⟩⟩⟩⟩⟩⟩⟩⟩⟩⟩⟩⟩⟩⟩⟩⟩⟩⟩⟩⟩⟩⟩⟩⟩⟩⟩⟩⟩⟩⟩⟩⟩⟩⟩⟩⟩⟩⟩⟩⟩⟩⟩⟩⟩⟩⟩⟩⟩⟩⟩⟩⟩⟩⟩⟩⟩⟩⟩⟩⟩⟩⟩⟩⟩⟩⟩⟩⟩⟩⟩⟩⟩⟩⟩⟩⟩⟩⟩⟩⟩⟩⟩⟩⟩⟩⟩⟩⟩⟩⟩⟩⟩⟩⟩⟩⟩⟩⟩⟩⟩⟩⟩⟩⟩⟩⟩⟩⟩⟩⟩⟩⟩⟩⟩⟩⟩⟩⟩⟩⟩⟩⟩⟩⟩⟩⟩⟩⟩⟩⟩⟩⟩⟩⟩⟩⟩⟩⟩⟩⟩⟩⟩⟩⟩⟩⟩⟩⟩⟩⟩⟩⟩⟩⟩⟩⟩⟩⟩⟩⟩⟩⟩⟩⟩⟩⟩⟩⟩⟩⟩⟩⟩⟩
theorem bg_cw_of : ∀ (l : List bg_M), bg_cwl l → ∀ (k : Nat) (M : bg_M), bg_nth l k = some M → Cond.code M.1 M.2.1 M.2.2.1 M.2.2.2.1 ∈ bg_tbl
  | [], _, k, M, h => by simp [bg_nth] at h
  | M0 :: l, h, 0, M, hk => by cases hk; exact List.mem_filter.mpr ⟨h.1, rfl⟩
  | M0 :: l, h, k + 1, M, hk => bg_cw_of l h.2 k M hk
theorem okm_X0_init : bg_okm me_X0_init 0 (171, 72, 2, 170, 0) = true := by decide +kernel
theorem okm_X1_init : bg_okm me_X1_init 1 (278, 76, 2, 277, 0) = true := by decide +kernel
theorem okm_X2_init : bg_okm me_X2_init 2 (115, 70, 2, 114, 0) = true := by decide +kernel
theorem okm_X3_init : bg_okm me_X3_init 3 (258, 75, 2, 257, 0) = true := by decide +kernel
theorem okm_X4_init : bg_okm me_X4_init 4 (213, 74, 2, 212, 0) = true := by decide +kernel
theorem okm_X5_init : bg_okm me_X5_init 5 (311, 77, 2, 310, 0) = true := by decide +kernel
theorem okm_X6_init : bg_okm me_X6_init 6 (94, 69, 2, 93, 0) = true := by decide +kernel
theorem okm_X7_init : bg_okm me_X7_init 7 (193, 73, 2, 192, 0) = true := by decide +kernel
theorem okm_X8_init : bg_okm me_X8_init 8 (86, 68, 2, 85, 0) = true := by decide +kernel
theorem okm_X9_init : bg_okm me_X9_init 9 (829, 78, 2, 828, 0) = true := by decide +kernel
theorem okm_X0_survey : bg_okm me_X0_survey 10 (335, 72, 1, 333, 334) = true := by decide +kernel
theorem okm_X0_weigh : bg_okm me_X0_weigh 11 (519, 72, 1, 517, 518) = true := by decide +kernel
theorem okm_X0_outOfShore : bg_okm me_X0_outOfShore 12 (529, 72, 1, 527, 528) = true := by decide +kernel
theorem okm_X0_isNeeded : bg_okm me_X0_isNeeded 13 (558, 72, 1, 556, 557) = true := by decide +kernel
theorem okm_X0_sumOver : bg_okm me_X0_sumOver 14 (525, 72, 1, 524, 9) = true := by decide +kernel
theorem okm_X0_placesOf : bg_okm me_X0_placesOf 15 (338, 72, 0, 337, 0) = true := by decide +kernel
theorem okm_X1_findSupport : bg_okm me_X1_findSupport 16 (708, 76, 1, 706, 707) = true := by decide +kernel
theorem okm_X1_findCarriers : bg_okm me_X1_findCarriers 17 (721, 76, 1, 720, 17) = true := by decide +kernel
theorem okm_X1_isSetOf : bg_okm me_X1_isSetOf 18 (711, 76, 0, 710, 0) = true := by decide +kernel
theorem okm_X1_mixes : bg_okm me_X1_mixes 19 (725, 76, 1, 724, 18) = true := by decide +kernel
theorem okm_X1_turnSigns : bg_okm me_X1_turnSigns 20 (744, 76, 1, 743, 22) = true := by decide +kernel
theorem okm_X1_areAllAbove0 : bg_okm me_X1_areAllAbove0 21 (747, 76, 0, 746, 0) = true := by decide +kernel
theorem okm_X1_signedMinor : bg_okm me_X1_signedMinor 22 (732, 76, 1, 731, 19) = true := by decide +kernel
theorem okm_X1_fillLine : bg_okm me_X1_fillLine 23 (736, 76, 1, 735, 20) = true := by decide +kernel
theorem okm_X1_minorOf : bg_okm me_X1_minorOf 24 (740, 76, 1, 739, 21) = true := by decide +kernel
theorem okm_X1_noneDoesBetter : bg_okm me_X1_noneDoesBetter 25 (759, 76, 1, 758, 24) = true := by decide +kernel
theorem okm_X1_meanBy : bg_okm me_X1_meanBy 26 (755, 76, 1, 754, 23) = true := by decide +kernel
theorem okm_X1_meanOf : bg_okm me_X1_meanOf 27 (763, 76, 1, 762, 25) = true := by decide +kernel
theorem okm_X1_lowest : bg_okm me_X1_lowest 28 (768, 76, 1, 766, 767) = true := by decide +kernel
theorem okm_X1_worthOfBeingTold : bg_okm me_X1_worthOfBeingTold 29 (784, 76, 1, 782, 783) = true := by decide +kernel
theorem okm_X2_clear : bg_okm me_X2_clear 30 (122, 70, 1, 120, 121) = true := by decide +kernel
theorem okm_X2_copy : bg_okm me_X2_copy 31 (469, 70, 1, 467, 468) = true := by decide +kernel
theorem okm_X2_takes : bg_okm me_X2_takes 32 (443, 70, 1, 441, 442) = true := by decide +kernel
theorem okm_X2_takesNumber : bg_okm me_X2_takesNumber 33 (461, 70, 1, 460, 7) = true := by decide +kernel
theorem okm_X2_takesPath : bg_okm me_X2_takesPath 34 (447, 70, 1, 446, 5) = true := by decide +kernel
theorem okm_X2_takesTower : bg_okm me_X2_takesTower 35 (453, 70, 1, 452, 6) = true := by decide +kernel
theorem okm_X2_hasPath : bg_okm me_X2_hasPath 36 (457, 70, 1, 455, 456) = true := by decide +kernel
theorem okm_X2_hasPosts : bg_okm me_X2_hasPosts 37 (487, 70, 1, 485, 486) = true := by decide +kernel
theorem okm_X2_costOf : bg_okm me_X2_costOf 38 (491, 70, 1, 489, 490) = true := by decide +kernel
theorem okm_X2_heldBy : bg_okm me_X2_heldBy 39 (495, 70, 1, 493, 494) = true := by decide +kernel
theorem okm_X2_waitsOf : bg_okm me_X2_waitsOf 40 (499, 70, 1, 497, 498) = true := by decide +kernel
theorem okm_X2_bearing : bg_okm me_X2_bearing 41 (507, 70, 1, 505, 506) = true := by decide +kernel
theorem okm_X2_comesMoreThanGoes : bg_okm me_X2_comesMoreThanGoes 42 (541, 70, 1, 539, 540) = true := by decide +kernel
theorem okm_X3_clear : bg_okm me_X3_clear 43 (263, 75, 1, 261, 262) = true := by decide +kernel
theorem okm_X3_copy : bg_okm me_X3_copy 44 (815, 75, 1, 813, 814) = true := by decide +kernel
theorem okm_X3_toldGuards : bg_okm me_X3_toldGuards 45 (697, 75, 1, 695, 696) = true := by decide +kernel
theorem okm_X3_toldCarriers : bg_okm me_X3_toldCarriers 46 (704, 75, 1, 702, 703) = true := by decide +kernel
theorem okm_X3_toldOf : bg_okm me_X3_toldOf 47 (700, 75, 0, 699, 0) = true := by decide +kernel
theorem okm_X4_forget : bg_okm me_X4_forget 48 (353, 74, 1, 351, 352) = true := by decide +kernel
theorem okm_X4_prepare : bg_okm me_X4_prepare 49 (549, 74, 1, 547, 548) = true := by decide +kernel
theorem okm_X4_bestFor : bg_okm me_X4_bestFor 50 (590, 74, 1, 588, 589) = true := by decide +kernel
theorem okm_X4_leastFor : bg_okm me_X4_leastFor 51 (585, 74, 1, 583, 584) = true := by decide +kernel
theorem okm_X4_lowerMost : bg_okm me_X4_lowerMost 52 (562, 74, 1, 561, 10) = true := by decide +kernel
theorem okm_X4_sumNumbers : bg_okm me_X4_sumNumbers 53 (571, 74, 1, 570, 12) = true := by decide +kernel
theorem okm_X4_sumAddends : bg_okm me_X4_sumAddends 54 (567, 74, 1, 566, 11) = true := by decide +kernel
theorem okm_X4_offerAll : bg_okm me_X4_offerAll 55 (575, 74, 1, 574, 13) = true := by decide +kernel
theorem okm_X4_spreadBest : bg_okm me_X4_spreadBest 56 (581, 74, 1, 580, 14) = true := by decide +kernel
theorem okm_X4_weigh : bg_okm me_X4_weigh 57 (610, 74, 1, 608, 609) = true := by decide +kernel
theorem okm_X4_leastPaying : bg_okm me_X4_leastPaying 58 (664, 74, 1, 662, 663) = true := by decide +kernel
theorem okm_X5_begin : bg_okm me_X5_begin 59 (794, 77, 1, 792, 793) = true := by decide +kernel
theorem okm_X5_leastSum : bg_okm me_X5_leastSum 60 (799, 77, 1, 797, 798) = true := by decide +kernel
theorem okm_X5_leastBefore : bg_okm me_X5_leastBefore 61 (803, 77, 1, 802, 26) = true := by decide +kernel
theorem okm_X6_hasRoomFor : bg_okm me_X6_hasRoomFor 62 (404, 69, 1, 402, 403) = true := by decide +kernel
theorem okm_X6_append : bg_okm me_X6_append 63 (408, 69, 1, 406, 407) = true := by decide +kernel
theorem okm_X6_readInto : bg_okm me_X6_readInto 64 (420, 69, 1, 418, 419) = true := by decide +kernel
theorem okm_X6_readNumbers : bg_okm me_X6_readNumbers 65 (429, 69, 1, 428, 3) = true := by decide +kernel
theorem okm_X6_readNumber : bg_okm me_X6_readNumber 66 (433, 69, 1, 432, 4) = true := by decide +kernel
theorem okm_X6_nextByte : bg_okm me_X6_nextByte 67 (425, 69, 1, 424, 2) = true := by decide +kernel
theorem okm_X6_isFigure : bg_okm me_X6_isFigure 68 (436, 69, 0, 435, 0) = true := by decide +kernel
theorem okm_X7_survey : bg_okm me_X7_survey 69 (342, 73, 1, 340, 341) = true := by decide +kernel
theorem okm_X7_follow : bg_okm me_X7_follow 70 (345, 73, 0, 344, 0) = true := by decide +kernel
theorem okm_X7_add : bg_okm me_X7_add 71 (349, 73, 1, 348, 1) = true := by decide +kernel
theorem okm_X7_lengthOf : bg_okm me_X7_lengthOf 72 (618, 73, 1, 616, 617) = true := by decide +kernel
theorem okm_X7_pathAt : bg_okm me_X7_pathAt 73 (622, 73, 1, 620, 621) = true := by decide +kernel
theorem okm_X7_leastBearing : bg_okm me_X7_leastBearing 74 (630, 73, 1, 628, 629) = true := by decide +kernel
theorem okm_X7_gainOf : bg_okm me_X7_gainOf 75 (645, 73, 1, 643, 644) = true := by decide +kernel
theorem okm_X7_bestOf : bg_okm me_X7_bestOf 76 (654, 73, 1, 652, 653) = true := by decide +kernel
theorem okm_X7_greatestGain : bg_okm me_X7_greatestGain 77 (669, 73, 1, 667, 668) = true := by decide +kernel
theorem okm_X8_write : bg_okm me_X8_write 78 (400, 68, 1, 398, 399) = true := by decide +kernel
theorem okm_X8_wipe : bg_okm me_X8_wipe 79 (412, 68, 1, 410, 411) = true := by decide +kernel
theorem okm_X8_fault : bg_okm me_X8_fault 80 (416, 68, 1, 414, 415) = true := by decide +kernel
theorem okm_X8_lay : bg_okm me_X8_lay 81 (465, 68, 1, 463, 464) = true := by decide +kernel
theorem okm_X8_path : bg_okm me_X8_path 82 (478, 68, 1, 476, 477) = true := by decide +kernel
theorem okm_X8_posts : bg_okm me_X8_posts 83 (483, 68, 1, 481, 482) = true := by decide +kernel
theorem okm_X8_bears : bg_okm me_X8_bears 84 (503, 68, 1, 501, 502) = true := by decide +kernel
theorem okm_X8_most : bg_okm me_X8_most 85 (511, 68, 1, 509, 510) = true := by decide +kernel
theorem okm_X8_row : bg_okm me_X8_row 86 (533, 68, 1, 531, 532) = true := by decide +kernel
theorem okm_X8_judge : bg_okm me_X8_judge 87 (537, 68, 1, 535, 536) = true := by decide +kernel
theorem okm_X8_best : bg_okm me_X8_best 88 (545, 68, 1, 543, 544) = true := by decide +kernel
theorem okm_X8_fewest : bg_okm me_X8_fewest 89 (594, 68, 1, 592, 593) = true := by decide +kernel
theorem okm_X8_more : bg_okm me_X8_more 90 (598, 68, 1, 596, 597) = true := by decide +kernel
theorem okm_X8_oneMore : bg_okm me_X8_oneMore 91 (602, 68, 1, 600, 601) = true := by decide +kernel
theorem okm_X8_weighed : bg_okm me_X8_weighed 92 (606, 68, 1, 604, 605) = true := by decide +kernel
theorem okm_X8_way : bg_okm me_X8_way 93 (614, 68, 1, 612, 613) = true := by decide +kernel
theorem okm_X8_through : bg_okm me_X8_through 94 (626, 68, 1, 624, 625) = true := by decide +kernel
theorem okm_X8_gain : bg_okm me_X8_gain 95 (639, 68, 1, 637, 638) = true := by decide +kernel
theorem okm_X8_bestWay : bg_okm me_X8_bestWay 96 (650, 68, 1, 648, 649) = true := by decide +kernel
theorem okm_X8_leastPay : bg_okm me_X8_leastPay 97 (660, 68, 1, 658, 659) = true := by decide +kernel
theorem okm_X8_guard : bg_okm me_X8_guard 98 (676, 68, 1, 674, 675) = true := by decide +kernel
theorem okm_X8_carrier : bg_okm me_X8_carrier 99 (680, 68, 1, 678, 679) = true := by decide +kernel
theorem okm_X8_value : bg_okm me_X8_value 100 (684, 68, 1, 682, 683) = true := by decide +kernel
theorem okm_X8_chance : bg_okm me_X8_chance 101 (772, 68, 1, 770, 771) = true := by decide +kernel
theorem okm_X8_tenths : bg_okm me_X8_tenths 102 (776, 68, 1, 774, 775) = true := by decide +kernel
theorem okm_X8_told : bg_okm me_X8_told 103 (780, 68, 1, 778, 779) = true := by decide +kernel
theorem okm_X8_nights : bg_okm me_X8_nights 104 (789, 68, 1, 787, 788) = true := by decide +kernel
theorem okm_X8_keep : bg_okm me_X8_keep 105 (811, 68, 1, 809, 810) = true := by decide +kernel
theorem okm_X8_back : bg_okm me_X8_back 106 (820, 68, 1, 818, 819) = true := by decide +kernel
theorem okm_X8_count : bg_okm me_X8_count 107 (824, 68, 1, 822, 823) = true := by decide +kernel
theorem okm_X8_survey : bg_okm me_X8_survey 108 (331, 68, 1, 330, 0) = true := by decide +kernel
theorem okm_X8_mostBy : bg_okm me_X8_mostBy 109 (515, 68, 1, 514, 8) = true := by decide +kernel
theorem okm_X8_playGame : bg_okm me_X8_playGame 110 (689, 68, 1, 688, 15) = true := by decide +kernel
theorem okm_X8_setUpGame : bg_okm me_X8_setUpGame 111 (693, 68, 1, 692, 16) = true := by decide +kernel
theorem okm_X9_in : bg_okm me_X9_in 112 (946, 78, 0, 945, 0) = true := by decide +kernel
theorem okm_X9_has : bg_okm me_X9_has 113 (1015, 78, 0, 1014, 0) = true := by decide +kernel
theorem okm_X9_bits : bg_okm me_X9_bits 114 (1176, 78, 0, 1175, 0) = true := by decide +kernel
theorem okm_X9_noLand : bg_okm me_X9_noLand 115 (834, 78, 1, 833, 27) = true := by decide +kernel
theorem okm_X9_noPlayers : bg_okm me_X9_noPlayers 116 (838, 78, 1, 837, 28) = true := by decide +kernel
theorem okm_X9_write : bg_okm me_X9_write 117 (942, 78, 1, 940, 941) = true := by decide +kernel
theorem okm_X9_wipe : bg_okm me_X9_wipe 118 (951, 78, 1, 949, 950) = true := by decide +kernel
theorem okm_X9_byteAt : bg_okm me_X9_byteAt 119 (967, 78, 1, 966, 31) = true := by decide +kernel
theorem okm_X9_figures : bg_okm me_X9_figures 120 (975, 78, 1, 974, 33) = true := by decide +kernel
theorem okm_X9_pathItem : bg_okm me_X9_pathItem 121 (971, 78, 1, 970, 32) = true := by decide +kernel
theorem okm_X9_towerItem : bg_okm me_X9_towerItem 122 (982, 78, 1, 981, 34) = true := by decide +kernel
theorem okm_X9_item : bg_okm me_X9_item 123 (963, 78, 1, 962, 30) = true := by decide +kernel
theorem okm_X9_readAll : bg_okm me_X9_readAll 124 (959, 78, 1, 958, 29) = true := by decide +kernel
theorem okm_X9_fault : bg_okm me_X9_fault 125 (955, 78, 1, 953, 954) = true := by decide +kernel
theorem okm_X9_copyLand : bg_okm me_X9_copyLand 126 (990, 78, 1, 989, 35) = true := by decide +kernel
theorem okm_X9_lay : bg_okm me_X9_lay 127 (986, 78, 1, 984, 985) = true := by decide +kernel
theorem okm_X9_isPath : bg_okm me_X9_isPath 128 (998, 78, 1, 997, 36) = true := by decide +kernel
theorem okm_X9_path : bg_okm me_X9_path 129 (994, 78, 1, 992, 993) = true := by decide +kernel
theorem okm_X9_arePosts : bg_okm me_X9_arePosts 130 (1007, 78, 1, 1006, 37) = true := by decide +kernel
theorem okm_X9_costOf : bg_okm me_X9_costOf 131 (1012, 78, 1, 1011, 38) = true := by decide +kernel
theorem okm_X9_heldBy : bg_okm me_X9_heldBy 132 (1019, 78, 1, 1018, 39) = true := by decide +kernel
theorem okm_X9_waitsBy : bg_okm me_X9_waitsBy 133 (1023, 78, 1, 1022, 40) = true := by decide +kernel
theorem okm_X9_posts : bg_okm me_X9_posts 134 (1003, 78, 1, 1001, 1002) = true := by decide +kernel
theorem okm_X9_bearsWith : bg_okm me_X9_bearsWith 135 (1031, 78, 1, 1030, 41) = true := by decide +kernel
theorem okm_X9_bears : bg_okm me_X9_bears 136 (1027, 78, 1, 1025, 1026) = true := by decide +kernel
theorem okm_X9_spread : bg_okm me_X9_spread 137 (1043, 78, 1, 1042, 43) = true := by decide +kernel
theorem okm_X9_push : bg_okm me_X9_push 138 (1047, 78, 1, 1046, 44) = true := by decide +kernel
theorem okm_X9_flow : bg_okm me_X9_flow 139 (1039, 78, 1, 1038, 42) = true := by decide +kernel
theorem okm_X9_mostBy : bg_okm me_X9_mostBy 140 (1079, 78, 1, 1078, 48) = true := by decide +kernel
theorem okm_X9_most : bg_okm me_X9_most 141 (1035, 78, 1, 1033, 1034) = true := by decide +kernel
theorem okm_X9_row : bg_okm me_X9_row 142 (1052, 78, 1, 1050, 1051) = true := by decide +kernel
theorem okm_X9_comeTo : bg_okm me_X9_comeTo 143 (1062, 78, 1, 1061, 45) = true := by decide +kernel
theorem okm_X9_judge : bg_okm me_X9_judge 144 (1058, 78, 1, 1056, 1057) = true := by decide +kernel
theorem okm_X9_setMany : bg_okm me_X9_setMany 145 (1075, 78, 1, 1074, 47) = true := by decide +kernel
theorem okm_X9_bestFor : bg_okm me_X9_bestFor 146 (1071, 78, 1, 1070, 46) = true := by decide +kernel
theorem okm_X9_best : bg_okm me_X9_best 147 (1066, 78, 1, 1064, 1065) = true := by decide +kernel
theorem okm_X9_fewest : bg_okm me_X9_fewest 148 (1083, 78, 1, 1081, 1082) = true := by decide +kernel
theorem okm_X9_more : bg_okm me_X9_more 149 (1088, 78, 1, 1086, 1087) = true := by decide +kernel
theorem okm_X9_oneMore : bg_okm me_X9_oneMore 150 (1092, 78, 1, 1090, 1091) = true := by decide +kernel
theorem okm_X9_weigh : bg_okm me_X9_weigh 151 (1100, 78, 1, 1099, 49) = true := by decide +kernel
theorem okm_X9_weighed : bg_okm me_X9_weighed 152 (1096, 78, 1, 1094, 1095) = true := by decide +kernel
theorem okm_X9_seenBy : bg_okm me_X9_seenBy 153 (1112, 78, 1, 1111, 51) = true := by decide +kernel
theorem okm_X9_layWays : bg_okm me_X9_layWays 154 (1108, 78, 1, 1107, 50) = true := by decide +kernel
theorem okm_X9_noteWay : bg_okm me_X9_noteWay 155 (1116, 78, 1, 1115, 52) = true := by decide +kernel
theorem okm_X9_way : bg_okm me_X9_way 156 (1104, 78, 1, 1102, 1103) = true := by decide +kernel
theorem okm_X9_throughBy : bg_okm me_X9_throughBy 157 (1124, 78, 1, 1123, 53) = true := by decide +kernel
theorem okm_X9_through : bg_okm me_X9_through 158 (1120, 78, 1, 1118, 1119) = true := by decide +kernel
theorem okm_X9_gainBy : bg_okm me_X9_gainBy 159 (1133, 78, 1, 1132, 54) = true := by decide +kernel
theorem okm_X9_gain : bg_okm me_X9_gain 160 (1128, 78, 1, 1126, 1127) = true := by decide +kernel
theorem okm_X9_bestWayBy : bg_okm me_X9_bestWayBy 161 (1144, 78, 1, 1143, 55) = true := by decide +kernel
theorem okm_X9_elseParts : bg_okm me_X9_elseParts 162 (1148, 78, 1, 1147, 56) = true := by decide +kernel
theorem okm_X9_bestWay : bg_okm me_X9_bestWay 163 (1140, 78, 1, 1138, 1139) = true := by decide +kernel
theorem okm_X9_leastPay : bg_okm me_X9_leastPay 164 (1152, 78, 1, 1150, 1151) = true := by decide +kernel
theorem okm_X9_guard : bg_okm me_X9_guard 165 (1156, 78, 1, 1154, 1155) = true := by decide +kernel
theorem okm_X9_carrier : bg_okm me_X9_carrier 166 (1160, 78, 1, 1158, 1159) = true := by decide +kernel
theorem okm_X9_game : bg_okm me_X9_game 167 (1196, 78, 1, 1195, 63) = true := by decide +kernel
theorem okm_X9_toldOnes : bg_okm me_X9_toldOnes 168 (1173, 78, 1, 1172, 58) = true := by decide +kernel
theorem okm_X9_determinant : bg_okm me_X9_determinant 169 (1200, 78, 1, 1199, 64) = true := by decide +kernel
theorem okm_X9_layCells : bg_okm me_X9_layCells 170 (1192, 78, 1, 1191, 62) = true := by decide +kernel
theorem okm_X9_layMembers : bg_okm me_X9_layMembers 171 (1184, 78, 1, 1183, 60) = true := by decide +kernel
theorem okm_X9_solve : bg_okm me_X9_solve 172 (1188, 78, 1, 1187, 61) = true := by decide +kernel
theorem okm_X9_holds : bg_okm me_X9_holds 173 (1204, 78, 1, 1203, 65) = true := by decide +kernel
theorem okm_X9_isSupport : bg_okm me_X9_isSupport 174 (1180, 78, 1, 1179, 59) = true := by decide +kernel
theorem okm_X9_play : bg_okm me_X9_play 175 (1169, 78, 1, 1168, 57) = true := by decide +kernel
theorem okm_X9_common : bg_okm me_X9_common 176 (1210, 78, 0, 1209, 0) = true := by decide +kernel
theorem okm_X9_lowest : bg_okm me_X9_lowest 177 (1207, 78, 0, 1206, 0) = true := by decide +kernel
theorem okm_X9_value : bg_okm me_X9_value 178 (1165, 78, 1, 1163, 1164) = true := by decide +kernel
theorem okm_X9_chance : bg_okm me_X9_chance 179 (1215, 78, 1, 1213, 1214) = true := by decide +kernel
theorem okm_X9_tenths : bg_okm me_X9_tenths 180 (1219, 78, 1, 1217, 1218) = true := by decide +kernel
theorem okm_X9_told : bg_okm me_X9_told 181 (1224, 78, 1, 1222, 1223) = true := by decide +kernel
theorem okm_X9_nights : bg_okm me_X9_nights 182 (1228, 78, 1, 1226, 1227) = true := by decide +kernel
theorem okm_X9_copy : bg_okm me_X9_copy 183 (1238, 78, 1, 1237, 66) = true := by decide +kernel
theorem okm_X9_keep : bg_okm me_X9_keep 184 (1234, 78, 1, 1232, 1233) = true := by decide +kernel
theorem okm_X9_back : bg_okm me_X9_back 185 (1242, 78, 1, 1240, 1241) = true := by decide +kernel
theorem okm_X9_count : bg_okm me_X9_count 186 (1246, 78, 1, 1244, 1245) = true := by decide +kernel
theorem okm_J6_numberOfTrailingZeros_0f7a4 : bg_okm me_J6_numberOfTrailingZeros_0f7a4 187 (750, 81, 0, 749, 0) = true := by decide +kernel
theorem okm_J6_bitCount_0f7a4 : bg_okm me_J6_bitCount_0f7a4 188 (714, 81, 0, 713, 0) = true := by decide +kernel
theorem okm_J7_fill_d0a16 : bg_okm me_J7_fill_d0a16 189 (728, 71, 0, 727, 0) = true := by decide +kernel
theorem okm_J7_fill_53178 : bg_okm me_J7_fill_53178 190 (125, 71, 0, 124, 0) = true := by decide +kernel
theorem bg_and2 {a b : Bool} (h1 : a = true) (h2 : b = true) : (a && b) = true := by rw [h1, h2]; rfl
set_option maxRecDepth 20000 in
theorem bg_okl_all : bg_okl bg_MS bg_PL 0 = true := bg_and2 okm_X0_init (bg_and2 okm_X1_init (bg_and2 okm_X2_init (bg_and2 okm_X3_init (bg_and2 okm_X4_init (bg_and2 okm_X5_init (bg_and2 okm_X6_init (bg_and2 okm_X7_init (bg_and2 okm_X8_init (bg_and2 okm_X9_init (bg_and2 okm_X0_survey (bg_and2 okm_X0_weigh (bg_and2 okm_X0_outOfShore (bg_and2 okm_X0_isNeeded (bg_and2 okm_X0_sumOver (bg_and2 okm_X0_placesOf (bg_and2 okm_X1_findSupport (bg_and2 okm_X1_findCarriers (bg_and2 okm_X1_isSetOf (bg_and2 okm_X1_mixes (bg_and2 okm_X1_turnSigns (bg_and2 okm_X1_areAllAbove0 (bg_and2 okm_X1_signedMinor (bg_and2 okm_X1_fillLine (bg_and2 okm_X1_minorOf (bg_and2 okm_X1_noneDoesBetter (bg_and2 okm_X1_meanBy (bg_and2 okm_X1_meanOf (bg_and2 okm_X1_lowest (bg_and2 okm_X1_worthOfBeingTold (bg_and2 okm_X2_clear (bg_and2 okm_X2_copy (bg_and2 okm_X2_takes (bg_and2 okm_X2_takesNumber (bg_and2 okm_X2_takesPath (bg_and2 okm_X2_takesTower (bg_and2 okm_X2_hasPath (bg_and2 okm_X2_hasPosts (bg_and2 okm_X2_costOf (bg_and2 okm_X2_heldBy (bg_and2 okm_X2_waitsOf (bg_and2 okm_X2_bearing (bg_and2 okm_X2_comesMoreThanGoes (bg_and2 okm_X3_clear (bg_and2 okm_X3_copy (bg_and2 okm_X3_toldGuards (bg_and2 okm_X3_toldCarriers (bg_and2 okm_X3_toldOf (bg_and2 okm_X4_forget (bg_and2 okm_X4_prepare (bg_and2 okm_X4_bestFor (bg_and2 okm_X4_leastFor (bg_and2 okm_X4_lowerMost (bg_and2 okm_X4_sumNumbers (bg_and2 okm_X4_sumAddends (bg_and2 okm_X4_offerAll (bg_and2 okm_X4_spreadBest (bg_and2 okm_X4_weigh (bg_and2 okm_X4_leastPaying (bg_and2 okm_X5_begin (bg_and2 okm_X5_leastSum (bg_and2 okm_X5_leastBefore (bg_and2 okm_X6_hasRoomFor (bg_and2 okm_X6_append (bg_and2 okm_X6_readInto (bg_and2 okm_X6_readNumbers (bg_and2 okm_X6_readNumber (bg_and2 okm_X6_nextByte (bg_and2 okm_X6_isFigure (bg_and2 okm_X7_survey (bg_and2 okm_X7_follow (bg_and2 okm_X7_add (bg_and2 okm_X7_lengthOf (bg_and2 okm_X7_pathAt (bg_and2 okm_X7_leastBearing (bg_and2 okm_X7_gainOf (bg_and2 okm_X7_bestOf (bg_and2 okm_X7_greatestGain (bg_and2 okm_X8_write (bg_and2 okm_X8_wipe (bg_and2 okm_X8_fault (bg_and2 okm_X8_lay (bg_and2 okm_X8_path (bg_and2 okm_X8_posts (bg_and2 okm_X8_bears (bg_and2 okm_X8_most (bg_and2 okm_X8_row (bg_and2 okm_X8_judge (bg_and2 okm_X8_best (bg_and2 okm_X8_fewest (bg_and2 okm_X8_more (bg_and2 okm_X8_oneMore (bg_and2 okm_X8_weighed (bg_and2 okm_X8_way (bg_and2 okm_X8_through (bg_and2 okm_X8_gain (bg_and2 okm_X8_bestWay (bg_and2 okm_X8_leastPay (bg_and2 okm_X8_guard (bg_and2 okm_X8_carrier (bg_and2 okm_X8_value (bg_and2 okm_X8_chance (bg_and2 okm_X8_tenths (bg_and2 okm_X8_told (bg_and2 okm_X8_nights (bg_and2 okm_X8_keep (bg_and2 okm_X8_back (bg_and2 okm_X8_count (bg_and2 okm_X8_survey (bg_and2 okm_X8_mostBy (bg_and2 okm_X8_playGame (bg_and2 okm_X8_setUpGame (bg_and2 okm_X9_in (bg_and2 okm_X9_has (bg_and2 okm_X9_bits (bg_and2 okm_X9_noLand (bg_and2 okm_X9_noPlayers (bg_and2 okm_X9_write (bg_and2 okm_X9_wipe (bg_and2 okm_X9_byteAt (bg_and2 okm_X9_figures (bg_and2 okm_X9_pathItem (bg_and2 okm_X9_towerItem (bg_and2 okm_X9_item (bg_and2 okm_X9_readAll (bg_and2 okm_X9_fault (bg_and2 okm_X9_copyLand (bg_and2 okm_X9_lay (bg_and2 okm_X9_isPath (bg_and2 okm_X9_path (bg_and2 okm_X9_arePosts (bg_and2 okm_X9_costOf (bg_and2 okm_X9_heldBy (bg_and2 okm_X9_waitsBy (bg_and2 okm_X9_posts (bg_and2 okm_X9_bearsWith (bg_and2 okm_X9_bears (bg_and2 okm_X9_spread (bg_and2 okm_X9_push (bg_and2 okm_X9_flow (bg_and2 okm_X9_mostBy (bg_and2 okm_X9_most (bg_and2 okm_X9_row (bg_and2 okm_X9_comeTo (bg_and2 okm_X9_judge (bg_and2 okm_X9_setMany (bg_and2 okm_X9_bestFor (bg_and2 okm_X9_best (bg_and2 okm_X9_fewest (bg_and2 okm_X9_more (bg_and2 okm_X9_oneMore (bg_and2 okm_X9_weigh (bg_and2 okm_X9_weighed (bg_and2 okm_X9_seenBy (bg_and2 okm_X9_layWays (bg_and2 okm_X9_noteWay (bg_and2 okm_X9_way (bg_and2 okm_X9_throughBy (bg_and2 okm_X9_through (bg_and2 okm_X9_gainBy (bg_and2 okm_X9_gain (bg_and2 okm_X9_bestWayBy (bg_and2 okm_X9_elseParts (bg_and2 okm_X9_bestWay (bg_and2 okm_X9_leastPay (bg_and2 okm_X9_guard (bg_and2 okm_X9_carrier (bg_and2 okm_X9_game (bg_and2 okm_X9_toldOnes (bg_and2 okm_X9_determinant (bg_and2 okm_X9_layCells (bg_and2 okm_X9_layMembers (bg_and2 okm_X9_solve (bg_and2 okm_X9_holds (bg_and2 okm_X9_isSupport (bg_and2 okm_X9_play (bg_and2 okm_X9_common (bg_and2 okm_X9_lowest (bg_and2 okm_X9_value (bg_and2 okm_X9_chance (bg_and2 okm_X9_tenths (bg_and2 okm_X9_told (bg_and2 okm_X9_nights (bg_and2 okm_X9_copy (bg_and2 okm_X9_keep (bg_and2 okm_X9_back (bg_and2 okm_X9_count (bg_and2 okm_J6_numberOfTrailingZeros_0f7a4 (bg_and2 okm_J6_bitCount_0f7a4 (bg_and2 okm_J7_fill_d0a16 (bg_and2 okm_J7_fill_53178 (rfl)))))))))))))))))))))))))))))))))))))))))))))))))))))))))))))))))))))))))))))))))))))))))))))))))))))))))))))))))))))))))))))))))))))))))))))))))))))))))))))))))))))))))))))))))))))))))))))))
def bg_okcl : List bg_M → Prop
  | [] => True
  | M :: l => bg_okc M M.2.2.2.2.1 = true ∧ bg_okcl l
theorem bg_okc_all : bg_okcl bg_MS := ⟨ok_X0_init, ⟨ok_X1_init, ⟨ok_X2_init, ⟨ok_X3_init, ⟨ok_X4_init, ⟨ok_X5_init, ⟨ok_X6_init, ⟨ok_X7_init, ⟨ok_X8_init, ⟨ok_X9_init, ⟨ok_X0_survey, ⟨ok_X0_weigh, ⟨ok_X0_outOfShore, ⟨ok_X0_isNeeded, ⟨ok_X0_sumOver, ⟨ok_X0_placesOf, ⟨ok_X1_findSupport, ⟨ok_X1_findCarriers, ⟨ok_X1_isSetOf, ⟨ok_X1_mixes, ⟨ok_X1_turnSigns, ⟨ok_X1_areAllAbove0, ⟨ok_X1_signedMinor, ⟨ok_X1_fillLine, ⟨ok_X1_minorOf, ⟨ok_X1_noneDoesBetter, ⟨ok_X1_meanBy, ⟨ok_X1_meanOf, ⟨ok_X1_lowest, ⟨ok_X1_worthOfBeingTold, ⟨ok_X2_clear, ⟨ok_X2_copy, ⟨ok_X2_takes, ⟨ok_X2_takesNumber, ⟨ok_X2_takesPath, ⟨ok_X2_takesTower, ⟨ok_X2_hasPath, ⟨ok_X2_hasPosts, ⟨ok_X2_costOf, ⟨ok_X2_heldBy, ⟨ok_X2_waitsOf, ⟨ok_X2_bearing, ⟨ok_X2_comesMoreThanGoes, ⟨ok_X3_clear, ⟨ok_X3_copy, ⟨ok_X3_toldGuards, ⟨ok_X3_toldCarriers, ⟨ok_X3_toldOf, ⟨ok_X4_forget, ⟨ok_X4_prepare, ⟨ok_X4_bestFor, ⟨ok_X4_leastFor, ⟨ok_X4_lowerMost, ⟨ok_X4_sumNumbers, ⟨ok_X4_sumAddends, ⟨ok_X4_offerAll, ⟨ok_X4_spreadBest, ⟨ok_X4_weigh, ⟨ok_X4_leastPaying, ⟨ok_X5_begin, ⟨ok_X5_leastSum, ⟨ok_X5_leastBefore, ⟨ok_X6_hasRoomFor, ⟨ok_X6_append, ⟨ok_X6_readInto, ⟨ok_X6_readNumbers, ⟨ok_X6_readNumber, ⟨ok_X6_nextByte, ⟨ok_X6_isFigure, ⟨ok_X7_survey, ⟨ok_X7_follow, ⟨ok_X7_add, ⟨ok_X7_lengthOf, ⟨ok_X7_pathAt, ⟨ok_X7_leastBearing, ⟨ok_X7_gainOf, ⟨ok_X7_bestOf, ⟨ok_X7_greatestGain, ⟨ok_X8_write, ⟨ok_X8_wipe, ⟨ok_X8_fault, ⟨ok_X8_lay, ⟨ok_X8_path, ⟨ok_X8_posts, ⟨ok_X8_bears, ⟨ok_X8_most, ⟨ok_X8_row, ⟨ok_X8_judge, ⟨ok_X8_best, ⟨ok_X8_fewest, ⟨ok_X8_more, ⟨ok_X8_oneMore, ⟨ok_X8_weighed, ⟨ok_X8_way, ⟨ok_X8_through, ⟨ok_X8_gain, ⟨ok_X8_bestWay, ⟨ok_X8_leastPay, ⟨ok_X8_guard, ⟨ok_X8_carrier, ⟨ok_X8_value, ⟨ok_X8_chance, ⟨ok_X8_tenths, ⟨ok_X8_told, ⟨ok_X8_nights, ⟨ok_X8_keep, ⟨ok_X8_back, ⟨ok_X8_count, ⟨ok_X8_survey, ⟨ok_X8_mostBy, ⟨ok_X8_playGame, ⟨ok_X8_setUpGame, ⟨ok_X9_in, ⟨ok_X9_has, ⟨ok_X9_bits, ⟨ok_X9_noLand, ⟨ok_X9_noPlayers, ⟨ok_X9_write, ⟨ok_X9_wipe, ⟨ok_X9_byteAt, ⟨ok_X9_figures, ⟨ok_X9_pathItem, ⟨ok_X9_towerItem, ⟨ok_X9_item, ⟨ok_X9_readAll, ⟨ok_X9_fault, ⟨ok_X9_copyLand, ⟨ok_X9_lay, ⟨ok_X9_isPath, ⟨ok_X9_path, ⟨ok_X9_arePosts, ⟨ok_X9_costOf, ⟨ok_X9_heldBy, ⟨ok_X9_waitsBy, ⟨ok_X9_posts, ⟨ok_X9_bearsWith, ⟨ok_X9_bears, ⟨ok_X9_spread, ⟨ok_X9_push, ⟨ok_X9_flow, ⟨ok_X9_mostBy, ⟨ok_X9_most, ⟨ok_X9_row, ⟨ok_X9_comeTo, ⟨ok_X9_judge, ⟨ok_X9_setMany, ⟨ok_X9_bestFor, ⟨ok_X9_best, ⟨ok_X9_fewest, ⟨ok_X9_more, ⟨ok_X9_oneMore, ⟨ok_X9_weigh, ⟨ok_X9_weighed, ⟨ok_X9_seenBy, ⟨ok_X9_layWays, ⟨ok_X9_noteWay, ⟨ok_X9_way, ⟨ok_X9_throughBy, ⟨ok_X9_through, ⟨ok_X9_gainBy, ⟨ok_X9_gain, ⟨ok_X9_bestWayBy, ⟨ok_X9_elseParts, ⟨ok_X9_bestWay, ⟨ok_X9_leastPay, ⟨ok_X9_guard, ⟨ok_X9_carrier, ⟨ok_X9_game, ⟨ok_X9_toldOnes, ⟨ok_X9_determinant, ⟨ok_X9_layCells, ⟨ok_X9_layMembers, ⟨ok_X9_solve, ⟨ok_X9_holds, ⟨ok_X9_isSupport, ⟨ok_X9_play, ⟨ok_X9_common, ⟨ok_X9_lowest, ⟨ok_X9_value, ⟨ok_X9_chance, ⟨ok_X9_tenths, ⟨ok_X9_told, ⟨ok_X9_nights, ⟨ok_X9_copy, ⟨ok_X9_keep, ⟨ok_X9_back, ⟨ok_X9_count, ⟨ok_J6_numberOfTrailingZeros_0f7a4, ⟨ok_J6_bitCount_0f7a4, ⟨ok_J7_fill_d0a16, ⟨ok_J7_fill_53178, trivial⟩⟩⟩⟩⟩⟩⟩⟩⟩⟩⟩⟩⟩⟩⟩⟩⟩⟩⟩⟩⟩⟩⟩⟩⟩⟩⟩⟩⟩⟩⟩⟩⟩⟩⟩⟩⟩⟩⟩⟩⟩⟩⟩⟩⟩⟩⟩⟩⟩⟩⟩⟩⟩⟩⟩⟩⟩⟩⟩⟩⟩⟩⟩⟩⟩⟩⟩⟩⟩⟩⟩⟩⟩⟩⟩⟩⟩⟩⟩⟩⟩⟩⟩⟩⟩⟩⟩⟩⟩⟩⟩⟩⟩⟩⟩⟩⟩⟩⟩⟩⟩⟩⟩⟩⟩⟩⟩⟩⟩⟩⟩⟩⟩⟩⟩⟩⟩⟩⟩⟩⟩⟩⟩⟩⟩⟩⟩⟩⟩⟩⟩⟩⟩⟩⟩⟩⟩⟩⟩⟩⟩⟩⟩⟩⟩⟩⟩⟩⟩⟩⟩⟩⟩⟩⟩⟩⟩⟩⟩⟩⟩⟩⟩⟩⟩⟩⟩⟩⟩⟩⟩⟩⟩⟩⟩⟩⟩⟩⟩⟩⟩⟩⟩⟩⟩⟩⟩⟩⟩⟩⟩
theorem bg_okc_of : ∀ (l : List bg_M), bg_okcl l → ∀ (k : Nat) (M : bg_M), bg_nth l k = some M → bg_okc M M.2.2.2.2.1 = true
  | [], _, k, M, h => by simp [bg_nth] at h
  | M0 :: l, h, 0, M, hk => by cases hk; exact h.1
  | M0 :: l, h, k + 1, M, hk => bg_okc_of l h.2 k M hk
theorem bg_wd_in {p : Nat} {w : Cond} (h : bg_wd p w = true) : w ∈ bg_tbl := by
  simp only [bg_wd, Bool.and_eq_true, decide_eq_true_eq] at h
  exact List.mem_filter.mpr ⟨List.mem_of_getElem? h.1, h.2⟩
theorem bg_in_mem : ∀ (l : List (Nat × bg_I)) (pc : Nat) (q : bg_I), bg_in l pc = some q → (pc, q) ∈ l
  | [], pc, q, h => by simp [bg_in] at h
  | (i, x) :: l, pc, q, h => by
    unfold bg_in at h
    split at h
    · rename_i e
      have := Nat.eq_of_beq_eq_true e
      subst this
      cases h
      exact List.mem_cons_self
    · exact List.mem_cons_of_mem _ (bg_in_mem l pc q h)
theorem bg_look_ok {M : bg_M} : ∀ (cd : bg_K), bg_okc M cd = true → ∀ (pc : Nat) (q : bg_I), bg_look cd pc = some q → bg_ok1 M pc q = true
  | [], _, pc, q, h => by simp [bg_look] at h
  | (n, l) :: cd, hok, pc, q, h => by
    unfold bg_okc at hok
    rw [List.all_cons, Bool.and_eq_true] at hok
    unfold bg_look at h
    split at h
    · exact List.all_eq_true.mp hok.1 _ (bg_in_mem l pc q h)
    · exact bg_look_ok cd hok.2 pc q h
def bg_kd (a : Nat) : Nat := match bg_nth bg_PL a with
  | some q => q.2.2.1
  | none => 9
def bg_kq (q : bg_I) : Bool := match q with
  | (.invokevirtual _, _, (a, _)) => Nat.beq (bg_kd a) 1
  | (.invokestatic _, _, (a, _, t, _)) => (Nat.ble 1 t && Nat.ble t 4) || Nat.beq (bg_kd a) 0
  | (.invokespecial _, _, (a, _, t, _)) => Nat.beq t 1 || Nat.beq (bg_kd a) 2
  | _ => true
def bg_kc (cd : bg_K) : Bool := cd.all (fun ch => ch.2.all (fun r => bg_kq r.2))
theorem bg_kc_all : bg_MS.all (fun M => bg_kc M.2.2.2.2.1) = true := by decide +kernel
theorem bg_kc_law : bg_kc cd_L_law = true := by decide +kernel
theorem bg_look_kq : ∀ (cd : bg_K), bg_kc cd = true → ∀ (pc : Nat) (q : bg_I), bg_look cd pc = some q → bg_kq q = true
  | [], _, pc, q, h => by simp [bg_look] at h
  | (n, l) :: cd, hok, pc, q, h => by
    unfold bg_kc at hok
    rw [List.all_cons, Bool.and_eq_true] at hok
    unfold bg_look at h
    split at h
    · exact List.all_eq_true.mp hok.1 _ (bg_in_mem l pc q h)
    · exact bg_look_kq cd hok.2 pc q h
theorem bg_okn_all {M : bg_M} : ∀ (cd : bg_K), (∀ i, i < cd.length → bg_okn M cd i = true) → bg_okc M cd = true
  | [], _ => rfl
  | (n, l) :: cd, h => by
    unfold bg_okc
    rw [List.all_cons, Bool.and_eq_true]
    exact ⟨h 0 (by simp), bg_okn_all cd (fun i hi => h (i + 1) (by simpa using hi))⟩
theorem ok_L_law : bg_okc me_L_law cd_L_law = true := bg_okn_all cd_L_law (fun i hi => by
  have hi : i < 29 := hi
  match i, hi with
  | 0, _ => exact ok_L_0
  | 1, _ => exact ok_L_1
  | 2, _ => exact ok_L_2
  | 3, _ => exact ok_L_3
  | 4, _ => exact ok_L_4
  | 5, _ => exact ok_L_5
  | 6, _ => exact ok_L_6
  | 7, _ => exact ok_L_7
  | 8, _ => exact ok_L_8
  | 9, _ => exact ok_L_9
  | 10, _ => exact ok_L_10
  | 11, _ => exact ok_L_11
  | 12, _ => exact ok_L_12
  | 13, _ => exact ok_L_13
  | 14, _ => exact ok_L_14
  | 15, _ => exact ok_L_15
  | 16, _ => exact ok_L_16
  | 17, _ => exact ok_L_17
  | 18, _ => exact ok_L_18
  | 19, _ => exact ok_L_19
  | 20, _ => exact ok_L_20
  | 21, _ => exact ok_L_21
  | 22, _ => exact ok_L_22
  | 23, _ => exact ok_L_23
  | 24, _ => exact ok_L_24
  | 25, _ => exact ok_L_25
  | 26, _ => exact ok_L_26
  | 27, _ => exact ok_L_27
  | 28, _ => exact ok_L_28
  | i + 29, h => exact absurd h (by omega))
