/-! ===== the words of each method, by their places in lw_tbl ===== -/
def xmw : List (List Nat) := [[84, 67, 83, 0], [92, 68, 91, 0], [99, 69, 98, 0], [137, 70, 136, 0], [185, 71, 184, 0], [204, 72, 203, 0], [222, 73, 221, 0], [228, 74, 227, 0], [284, 67, 282, 283], [287, 67, 286, 0], [291, 67, 290, 0], [295, 71, 294, 1], [299, 68, 298, 2], [303, 69, 302, 3], [309, 77, 308, 0], [313, 73, 312, 4], [317, 69, 316, 5], [321, 67, 319, 320], [325, 68, 324, 6], [329, 68, 328, 7], [333, 67, 331, 332], [337, 67, 335, 336], [341, 67, 339, 340], [347, 67, 345, 346], [351, 67, 349, 350], [355, 69, 354, 8], [361, 69, 360, 9], [365, 67, 363, 364], [369, 67, 368, 10], [373, 68, 372, 11], [377, 68, 376, 12], [381, 78, 380, 0], [388, 68, 387, 13], [392, 68, 391, 14], [396, 67, 394, 395], [401, 67, 399, 400], [406, 72, 405, 15], [409, 72, 408, 0], [413, 72, 412, 0], [418, 72, 417, 0], [421, 72, 420, 0], [424, 72, 423, 0], [428, 67, 426, 427], [432, 68, 431, 16], [436, 72, 435, 17], [440, 72, 439, 18], [444, 72, 443, 19], [448, 77, 447, 0], [451, 72, 450, 0], [455, 72, 454, 20], [458, 72, 457, 0], [464, 72, 463, 0], [467, 72, 466, 0], [470, 72, 469, 0], [473, 72, 472, 0], [476, 72, 475, 0], [484, 67, 482, 483], [488, 73, 487, 21], [492, 74, 491, 22], [499, 74, 498, 23], [506, 68, 505, 24], [512, 74, 511, 25], [516, 74, 515, 26], [522, 74, 521, 27], [528, 73, 527, 28], [533, 73, 532, 29], [540, 73, 539, 30], [545, 73, 544, 31], [550, 73, 549, 32], [554, 73, 553, 33], [558, 74, 557, 34], [563, 73, 562, 35], [567, 73, 566, 36], [571, 73, 570, 37], [575, 73, 574, 38], [579, 73, 578, 39], [584, 67, 582, 583], [588, 67, 586, 587], [592, 73, 591, 40], [596, 73, 595, 41], [607, 69, 606, 42], [611, 73, 610, 43], [618, 67, 616, 617], [622, 73, 621, 44], [625, 79, 624, 0], [632, 79, 631, 0], [635, 79, 634, 0], [639, 79, 638, 0], [646, 79, 645, 0], [650, 67, 648, 649], [654, 71, 653, 45], [659, 75, 658, 0], [734, 75, 732, 733], [738, 75, 737, 46], [742, 75, 740, 741], [746, 75, 745, 47], [750, 75, 748, 749], [754, 75, 753, 48], [758, 75, 757, 49], [762, 75, 761, 50], [766, 75, 764, 765], [770, 75, 768, 769], [774, 75, 772, 773], [778, 75, 776, 777], [782, 75, 780, 781], [786, 75, 785, 51], [791, 75, 790, 52], [795, 75, 794, 53], [799, 75, 797, 798], [803, 75, 802, 54], [807, 75, 806, 55], [811, 75, 809, 810], [815, 75, 813, 814], [819, 75, 818, 56], [823, 75, 822, 57], [828, 75, 826, 827], [832, 75, 831, 58], [836, 75, 834, 835], [840, 75, 839, 59], [844, 75, 843, 60], [848, 75, 847, 61], [852, 75, 851, 62], [856, 75, 855, 63], [860, 75, 859, 64], [864, 75, 862, 863], [868, 75, 866, 867], [872, 75, 871, 65], [876, 75, 874, 875]]
def xmwi (mi j : Nat) : Option Jvm.Cond := xwd (xnth (xnth xmw mi []) j 0)
def xmokb (mi : Nat) : Bool := mi == 14 || (mi == 47 || 
  (decide (xmwi mi 1 = some (.initialized (xy mi).cls)) && ((match xmi mi 3 with
    | 0 => decide (xmwi mi 2 = some (.static (xy mi)))
    | 1 => decide (xmwi mi 2 = some (.instanceMethod (xy mi))) && (decide (xmwi mi 3 = some (.selects (xy mi).cls (xy mi) (xy mi))) && (decide (xCn (xmi mi 4) = (xy mi).cls) && decide (xmi mi 4 < 8)))
    | 2 => decide (xmwi mi 2 = some (.instanceMethod (xy mi))) && (decide ((xy mi).name = "<init>") && decide (xmi mi 1 = 0))
    | _ => false) && (plainName (xy mi).cls && (decide ((xy mi).cls ≠ "java/lang/invoke/MethodHandle") && (decide ((xy mi).cls ≠ "java/lang/invoke/VarHandle") && (decide ((parseMethodDescriptor (xy mi).desc).map (fun d => d.parameters.length) = some (if xmi mi 3 = 0 then xmi mi 2 else xmi mi 2 - 1)) && (decide (xmi mi 2 ≤ xmi mi 0) && decide (xmi mi 3 = 0 ∨ 1 ≤ xmi mi 2)))))))))
theorem xmok_0 : xmokb 0 = true := by decide +kernel
theorem xmok_1 : xmokb 1 = true := by decide +kernel
theorem xmok_2 : xmokb 2 = true := by decide +kernel
theorem xmok_3 : xmokb 3 = true := by decide +kernel
theorem xmok_4 : xmokb 4 = true := by decide +kernel
theorem xmok_5 : xmokb 5 = true := by decide +kernel
theorem xmok_6 : xmokb 6 = true := by decide +kernel
theorem xmok_7 : xmokb 7 = true := by decide +kernel
theorem xmok_8 : xmokb 8 = true := by decide +kernel
theorem xmok_9 : xmokb 9 = true := by decide +kernel
theorem xmok_10 : xmokb 10 = true := by decide +kernel
theorem xmok_11 : xmokb 11 = true := by decide +kernel
theorem xmok_12 : xmokb 12 = true := by decide +kernel
theorem xmok_13 : xmokb 13 = true := by decide +kernel
theorem xmok_14 : xmokb 14 = true := by decide +kernel
theorem xmok_15 : xmokb 15 = true := by decide +kernel
theorem xmok_16 : xmokb 16 = true := by decide +kernel
theorem xmok_17 : xmokb 17 = true := by decide +kernel
theorem xmok_18 : xmokb 18 = true := by decide +kernel
theorem xmok_19 : xmokb 19 = true := by decide +kernel
theorem xmok_20 : xmokb 20 = true := by decide +kernel
theorem xmok_21 : xmokb 21 = true := by decide +kernel
theorem xmok_22 : xmokb 22 = true := by decide +kernel
theorem xmok_23 : xmokb 23 = true := by decide +kernel
theorem xmok_24 : xmokb 24 = true := by decide +kernel
theorem xmok_25 : xmokb 25 = true := by decide +kernel
theorem xmok_26 : xmokb 26 = true := by decide +kernel
theorem xmok_27 : xmokb 27 = true := by decide +kernel
theorem xmok_28 : xmokb 28 = true := by decide +kernel
theorem xmok_29 : xmokb 29 = true := by decide +kernel
theorem xmok_30 : xmokb 30 = true := by decide +kernel
theorem xmok_31 : xmokb 31 = true := by decide +kernel
theorem xmok_32 : xmokb 32 = true := by decide +kernel
theorem xmok_33 : xmokb 33 = true := by decide +kernel
theorem xmok_34 : xmokb 34 = true := by decide +kernel
theorem xmok_35 : xmokb 35 = true := by decide +kernel
theorem xmok_36 : xmokb 36 = true := by decide +kernel
theorem xmok_37 : xmokb 37 = true := by decide +kernel
theorem xmok_38 : xmokb 38 = true := by decide +kernel
theorem xmok_39 : xmokb 39 = true := by decide +kernel
theorem xmok_40 : xmokb 40 = true := by decide +kernel
theorem xmok_41 : xmokb 41 = true := by decide +kernel
theorem xmok_42 : xmokb 42 = true := by decide +kernel
theorem xmok_43 : xmokb 43 = true := by decide +kernel
theorem xmok_44 : xmokb 44 = true := by decide +kernel
theorem xmok_45 : xmokb 45 = true := by decide +kernel
theorem xmok_46 : xmokb 46 = true := by decide +kernel
theorem xmok_47 : xmokb 47 = true := by decide +kernel
theorem xmok_48 : xmokb 48 = true := by decide +kernel
theorem xmok_49 : xmokb 49 = true := by decide +kernel
theorem xmok_50 : xmokb 50 = true := by decide +kernel
theorem xmok_51 : xmokb 51 = true := by decide +kernel
theorem xmok_52 : xmokb 52 = true := by decide +kernel
theorem xmok_53 : xmokb 53 = true := by decide +kernel
theorem xmok_54 : xmokb 54 = true := by decide +kernel
theorem xmok_55 : xmokb 55 = true := by decide +kernel
theorem xmok_56 : xmokb 56 = true := by decide +kernel
theorem xmok_57 : xmokb 57 = true := by decide +kernel
theorem xmok_58 : xmokb 58 = true := by decide +kernel
theorem xmok_59 : xmokb 59 = true := by decide +kernel
theorem xmok_60 : xmokb 60 = true := by decide +kernel
theorem xmok_61 : xmokb 61 = true := by decide +kernel
theorem xmok_62 : xmokb 62 = true := by decide +kernel
theorem xmok_63 : xmokb 63 = true := by decide +kernel
theorem xmok_64 : xmokb 64 = true := by decide +kernel
theorem xmok_65 : xmokb 65 = true := by decide +kernel
theorem xmok_66 : xmokb 66 = true := by decide +kernel
theorem xmok_67 : xmokb 67 = true := by decide +kernel
theorem xmok_68 : xmokb 68 = true := by decide +kernel
theorem xmok_69 : xmokb 69 = true := by decide +kernel
theorem xmok_70 : xmokb 70 = true := by decide +kernel
theorem xmok_71 : xmokb 71 = true := by decide +kernel
theorem xmok_72 : xmokb 72 = true := by decide +kernel
theorem xmok_73 : xmokb 73 = true := by decide +kernel
theorem xmok_74 : xmokb 74 = true := by decide +kernel
theorem xmok_75 : xmokb 75 = true := by decide +kernel
theorem xmok_76 : xmokb 76 = true := by decide +kernel
theorem xmok_77 : xmokb 77 = true := by decide +kernel
theorem xmok_78 : xmokb 78 = true := by decide +kernel
theorem xmok_79 : xmokb 79 = true := by decide +kernel
theorem xmok_80 : xmokb 80 = true := by decide +kernel
theorem xmok_81 : xmokb 81 = true := by decide +kernel
theorem xmok_82 : xmokb 82 = true := by decide +kernel
theorem xmok_83 : xmokb 83 = true := by decide +kernel
theorem xmok_84 : xmokb 84 = true := by decide +kernel
theorem xmok_85 : xmokb 85 = true := by decide +kernel
theorem xmok_86 : xmokb 86 = true := by decide +kernel
theorem xmok_87 : xmokb 87 = true := by decide +kernel
theorem xmok_88 : xmokb 88 = true := by decide +kernel
theorem xmok_89 : xmokb 89 = true := by decide +kernel
theorem xmok_90 : xmokb 90 = true := by decide +kernel
theorem xmok_91 : xmokb 91 = true := by decide +kernel
theorem xmok_92 : xmokb 92 = true := by decide +kernel
theorem xmok_93 : xmokb 93 = true := by decide +kernel
theorem xmok_94 : xmokb 94 = true := by decide +kernel
theorem xmok_95 : xmokb 95 = true := by decide +kernel
theorem xmok_96 : xmokb 96 = true := by decide +kernel
theorem xmok_97 : xmokb 97 = true := by decide +kernel
theorem xmok_98 : xmokb 98 = true := by decide +kernel
theorem xmok_99 : xmokb 99 = true := by decide +kernel
theorem xmok_100 : xmokb 100 = true := by decide +kernel
theorem xmok_101 : xmokb 101 = true := by decide +kernel
theorem xmok_102 : xmokb 102 = true := by decide +kernel
theorem xmok_103 : xmokb 103 = true := by decide +kernel
theorem xmok_104 : xmokb 104 = true := by decide +kernel
theorem xmok_105 : xmokb 105 = true := by decide +kernel
theorem xmok_106 : xmokb 106 = true := by decide +kernel
theorem xmok_107 : xmokb 107 = true := by decide +kernel
theorem xmok_108 : xmokb 108 = true := by decide +kernel
theorem xmok_109 : xmokb 109 = true := by decide +kernel
theorem xmok_110 : xmokb 110 = true := by decide +kernel
theorem xmok_111 : xmokb 111 = true := by decide +kernel
theorem xmok_112 : xmokb 112 = true := by decide +kernel
theorem xmok_113 : xmokb 113 = true := by decide +kernel
theorem xmok_114 : xmokb 114 = true := by decide +kernel
theorem xmok_115 : xmokb 115 = true := by decide +kernel
theorem xmok_116 : xmokb 116 = true := by decide +kernel
theorem xmok_117 : xmokb 117 = true := by decide +kernel
theorem xmok_118 : xmokb 118 = true := by decide +kernel
theorem xmok_119 : xmokb 119 = true := by decide +kernel
theorem xmok_120 : xmokb 120 = true := by decide +kernel
theorem xmok_121 : xmokb 121 = true := by decide +kernel
theorem xmok_122 : xmokb 122 = true := by decide +kernel
theorem xmok_123 : xmokb 123 = true := by decide +kernel
theorem xmok_124 : xmokb 124 = true := by decide +kernel
theorem xmok_125 : xmokb 125 = true := by decide +kernel
theorem xmok_126 : xmokb 126 = true := by decide +kernel
theorem xmok_127 : xmokb 127 = true := by decide +kernel
set_option maxRecDepth 100000 in
theorem xmco_0 : xmwi 0 0 = some (.code (xy 0) (xb 0) (xmi 0 0) (xret 0)) := rfl
set_option maxRecDepth 100000 in
theorem xmco_1 : xmwi 1 0 = some (.code (xy 1) (xb 1) (xmi 1 0) (xret 1)) := rfl
set_option maxRecDepth 100000 in
theorem xmco_2 : xmwi 2 0 = some (.code (xy 2) (xb 2) (xmi 2 0) (xret 2)) := rfl
set_option maxRecDepth 100000 in
theorem xmco_3 : xmwi 3 0 = some (.code (xy 3) (xb 3) (xmi 3 0) (xret 3)) := rfl
set_option maxRecDepth 100000 in
theorem xmco_4 : xmwi 4 0 = some (.code (xy 4) (xb 4) (xmi 4 0) (xret 4)) := rfl
set_option maxRecDepth 100000 in
theorem xmco_5 : xmwi 5 0 = some (.code (xy 5) (xb 5) (xmi 5 0) (xret 5)) := rfl
set_option maxRecDepth 100000 in
theorem xmco_6 : xmwi 6 0 = some (.code (xy 6) (xb 6) (xmi 6 0) (xret 6)) := rfl
set_option maxRecDepth 100000 in
theorem xmco_7 : xmwi 7 0 = some (.code (xy 7) (xb 7) (xmi 7 0) (xret 7)) := rfl
set_option maxRecDepth 100000 in
theorem xmco_8 : xmwi 8 0 = some (.code (xy 8) (xb 8) (xmi 8 0) (xret 8)) := rfl
set_option maxRecDepth 100000 in
theorem xmco_9 : xmwi 9 0 = some (.code (xy 9) (xb 9) (xmi 9 0) (xret 9)) := rfl
set_option maxRecDepth 100000 in
theorem xmco_10 : xmwi 10 0 = some (.code (xy 10) (xb 10) (xmi 10 0) (xret 10)) := rfl
set_option maxRecDepth 100000 in
theorem xmco_11 : xmwi 11 0 = some (.code (xy 11) (xb 11) (xmi 11 0) (xret 11)) := rfl
set_option maxRecDepth 100000 in
theorem xmco_12 : xmwi 12 0 = some (.code (xy 12) (xb 12) (xmi 12 0) (xret 12)) := rfl
set_option maxRecDepth 100000 in
theorem xmco_13 : xmwi 13 0 = some (.code (xy 13) (xb 13) (xmi 13 0) (xret 13)) := rfl
set_option maxRecDepth 100000 in
theorem xmco_15 : xmwi 15 0 = some (.code (xy 15) (xb 15) (xmi 15 0) (xret 15)) := rfl
set_option maxRecDepth 100000 in
theorem xmco_16 : xmwi 16 0 = some (.code (xy 16) (xb 16) (xmi 16 0) (xret 16)) := rfl
set_option maxRecDepth 100000 in
theorem xmco_17 : xmwi 17 0 = some (.code (xy 17) (xb 17) (xmi 17 0) (xret 17)) := rfl
set_option maxRecDepth 100000 in
theorem xmco_18 : xmwi 18 0 = some (.code (xy 18) (xb 18) (xmi 18 0) (xret 18)) := rfl
set_option maxRecDepth 100000 in
theorem xmco_19 : xmwi 19 0 = some (.code (xy 19) (xb 19) (xmi 19 0) (xret 19)) := rfl
set_option maxRecDepth 100000 in
theorem xmco_20 : xmwi 20 0 = some (.code (xy 20) (xb 20) (xmi 20 0) (xret 20)) := rfl
set_option maxRecDepth 100000 in
theorem xmco_21 : xmwi 21 0 = some (.code (xy 21) (xb 21) (xmi 21 0) (xret 21)) := rfl
set_option maxRecDepth 100000 in
theorem xmco_22 : xmwi 22 0 = some (.code (xy 22) (xb 22) (xmi 22 0) (xret 22)) := rfl
set_option maxRecDepth 100000 in
theorem xmco_23 : xmwi 23 0 = some (.code (xy 23) (xb 23) (xmi 23 0) (xret 23)) := rfl
set_option maxRecDepth 100000 in
theorem xmco_24 : xmwi 24 0 = some (.code (xy 24) (xb 24) (xmi 24 0) (xret 24)) := rfl
set_option maxRecDepth 100000 in
theorem xmco_25 : xmwi 25 0 = some (.code (xy 25) (xb 25) (xmi 25 0) (xret 25)) := rfl
set_option maxRecDepth 100000 in
theorem xmco_26 : xmwi 26 0 = some (.code (xy 26) (xb 26) (xmi 26 0) (xret 26)) := rfl
set_option maxRecDepth 100000 in
theorem xmco_27 : xmwi 27 0 = some (.code (xy 27) (xb 27) (xmi 27 0) (xret 27)) := rfl
set_option maxRecDepth 100000 in
theorem xmco_28 : xmwi 28 0 = some (.code (xy 28) (xb 28) (xmi 28 0) (xret 28)) := rfl
set_option maxRecDepth 100000 in
theorem xmco_29 : xmwi 29 0 = some (.code (xy 29) (xb 29) (xmi 29 0) (xret 29)) := rfl
set_option maxRecDepth 100000 in
theorem xmco_30 : xmwi 30 0 = some (.code (xy 30) (xb 30) (xmi 30 0) (xret 30)) := rfl
set_option maxRecDepth 100000 in
theorem xmco_31 : xmwi 31 0 = some (.code (xy 31) (xb 31) (xmi 31 0) (xret 31)) := rfl
set_option maxRecDepth 100000 in
theorem xmco_32 : xmwi 32 0 = some (.code (xy 32) (xb 32) (xmi 32 0) (xret 32)) := rfl
set_option maxRecDepth 100000 in
theorem xmco_33 : xmwi 33 0 = some (.code (xy 33) (xb 33) (xmi 33 0) (xret 33)) := rfl
set_option maxRecDepth 100000 in
theorem xmco_34 : xmwi 34 0 = some (.code (xy 34) (xb 34) (xmi 34 0) (xret 34)) := rfl
set_option maxRecDepth 100000 in
theorem xmco_35 : xmwi 35 0 = some (.code (xy 35) (xb 35) (xmi 35 0) (xret 35)) := rfl
set_option maxRecDepth 100000 in
theorem xmco_36 : xmwi 36 0 = some (.code (xy 36) (xb 36) (xmi 36 0) (xret 36)) := rfl
set_option maxRecDepth 100000 in
theorem xmco_37 : xmwi 37 0 = some (.code (xy 37) (xb 37) (xmi 37 0) (xret 37)) := rfl
set_option maxRecDepth 100000 in
theorem xmco_38 : xmwi 38 0 = some (.code (xy 38) (xb 38) (xmi 38 0) (xret 38)) := rfl
set_option maxRecDepth 100000 in
theorem xmco_39 : xmwi 39 0 = some (.code (xy 39) (xb 39) (xmi 39 0) (xret 39)) := rfl
set_option maxRecDepth 100000 in
theorem xmco_40 : xmwi 40 0 = some (.code (xy 40) (xb 40) (xmi 40 0) (xret 40)) := rfl
set_option maxRecDepth 100000 in
theorem xmco_41 : xmwi 41 0 = some (.code (xy 41) (xb 41) (xmi 41 0) (xret 41)) := rfl
set_option maxRecDepth 100000 in
theorem xmco_42 : xmwi 42 0 = some (.code (xy 42) (xb 42) (xmi 42 0) (xret 42)) := rfl
set_option maxRecDepth 100000 in
theorem xmco_43 : xmwi 43 0 = some (.code (xy 43) (xb 43) (xmi 43 0) (xret 43)) := rfl
set_option maxRecDepth 100000 in
theorem xmco_44 : xmwi 44 0 = some (.code (xy 44) (xb 44) (xmi 44 0) (xret 44)) := rfl
set_option maxRecDepth 100000 in
theorem xmco_45 : xmwi 45 0 = some (.code (xy 45) (xb 45) (xmi 45 0) (xret 45)) := rfl
set_option maxRecDepth 100000 in
theorem xmco_46 : xmwi 46 0 = some (.code (xy 46) (xb 46) (xmi 46 0) (xret 46)) := rfl
set_option maxRecDepth 100000 in
theorem xmco_48 : xmwi 48 0 = some (.code (xy 48) (xb 48) (xmi 48 0) (xret 48)) := rfl
set_option maxRecDepth 100000 in
theorem xmco_49 : xmwi 49 0 = some (.code (xy 49) (xb 49) (xmi 49 0) (xret 49)) := rfl
set_option maxRecDepth 100000 in
theorem xmco_50 : xmwi 50 0 = some (.code (xy 50) (xb 50) (xmi 50 0) (xret 50)) := rfl
set_option maxRecDepth 100000 in
theorem xmco_51 : xmwi 51 0 = some (.code (xy 51) (xb 51) (xmi 51 0) (xret 51)) := rfl
set_option maxRecDepth 100000 in
theorem xmco_52 : xmwi 52 0 = some (.code (xy 52) (xb 52) (xmi 52 0) (xret 52)) := rfl
set_option maxRecDepth 100000 in
theorem xmco_53 : xmwi 53 0 = some (.code (xy 53) (xb 53) (xmi 53 0) (xret 53)) := rfl
set_option maxRecDepth 100000 in
theorem xmco_54 : xmwi 54 0 = some (.code (xy 54) (xb 54) (xmi 54 0) (xret 54)) := rfl
set_option maxRecDepth 100000 in
theorem xmco_55 : xmwi 55 0 = some (.code (xy 55) (xb 55) (xmi 55 0) (xret 55)) := rfl
set_option maxRecDepth 100000 in
theorem xmco_56 : xmwi 56 0 = some (.code (xy 56) (xb 56) (xmi 56 0) (xret 56)) := rfl
set_option maxRecDepth 100000 in
theorem xmco_57 : xmwi 57 0 = some (.code (xy 57) (xb 57) (xmi 57 0) (xret 57)) := rfl
set_option maxRecDepth 100000 in
theorem xmco_58 : xmwi 58 0 = some (.code (xy 58) (xb 58) (xmi 58 0) (xret 58)) := rfl
set_option maxRecDepth 100000 in
theorem xmco_59 : xmwi 59 0 = some (.code (xy 59) (xb 59) (xmi 59 0) (xret 59)) := rfl
set_option maxRecDepth 100000 in
theorem xmco_60 : xmwi 60 0 = some (.code (xy 60) (xb 60) (xmi 60 0) (xret 60)) := rfl
set_option maxRecDepth 100000 in
theorem xmco_61 : xmwi 61 0 = some (.code (xy 61) (xb 61) (xmi 61 0) (xret 61)) := rfl
set_option maxRecDepth 100000 in
theorem xmco_62 : xmwi 62 0 = some (.code (xy 62) (xb 62) (xmi 62 0) (xret 62)) := rfl
set_option maxRecDepth 100000 in
theorem xmco_63 : xmwi 63 0 = some (.code (xy 63) (xb 63) (xmi 63 0) (xret 63)) := rfl
set_option maxRecDepth 100000 in
theorem xmco_64 : xmwi 64 0 = some (.code (xy 64) (xb 64) (xmi 64 0) (xret 64)) := rfl
set_option maxRecDepth 100000 in
theorem xmco_65 : xmwi 65 0 = some (.code (xy 65) (xb 65) (xmi 65 0) (xret 65)) := rfl
set_option maxRecDepth 100000 in
theorem xmco_66 : xmwi 66 0 = some (.code (xy 66) (xb 66) (xmi 66 0) (xret 66)) := rfl
set_option maxRecDepth 100000 in
theorem xmco_67 : xmwi 67 0 = some (.code (xy 67) (xb 67) (xmi 67 0) (xret 67)) := rfl
set_option maxRecDepth 100000 in
theorem xmco_68 : xmwi 68 0 = some (.code (xy 68) (xb 68) (xmi 68 0) (xret 68)) := rfl
set_option maxRecDepth 100000 in
theorem xmco_69 : xmwi 69 0 = some (.code (xy 69) (xb 69) (xmi 69 0) (xret 69)) := rfl
set_option maxRecDepth 100000 in
theorem xmco_70 : xmwi 70 0 = some (.code (xy 70) (xb 70) (xmi 70 0) (xret 70)) := rfl
set_option maxRecDepth 100000 in
theorem xmco_71 : xmwi 71 0 = some (.code (xy 71) (xb 71) (xmi 71 0) (xret 71)) := rfl
set_option maxRecDepth 100000 in
theorem xmco_72 : xmwi 72 0 = some (.code (xy 72) (xb 72) (xmi 72 0) (xret 72)) := rfl
set_option maxRecDepth 100000 in
theorem xmco_73 : xmwi 73 0 = some (.code (xy 73) (xb 73) (xmi 73 0) (xret 73)) := rfl
set_option maxRecDepth 100000 in
theorem xmco_74 : xmwi 74 0 = some (.code (xy 74) (xb 74) (xmi 74 0) (xret 74)) := rfl
set_option maxRecDepth 100000 in
theorem xmco_75 : xmwi 75 0 = some (.code (xy 75) (xb 75) (xmi 75 0) (xret 75)) := rfl
set_option maxRecDepth 100000 in
theorem xmco_76 : xmwi 76 0 = some (.code (xy 76) (xb 76) (xmi 76 0) (xret 76)) := rfl
set_option maxRecDepth 100000 in
theorem xmco_77 : xmwi 77 0 = some (.code (xy 77) (xb 77) (xmi 77 0) (xret 77)) := rfl
set_option maxRecDepth 100000 in
theorem xmco_78 : xmwi 78 0 = some (.code (xy 78) (xb 78) (xmi 78 0) (xret 78)) := rfl
set_option maxRecDepth 100000 in
theorem xmco_79 : xmwi 79 0 = some (.code (xy 79) (xb 79) (xmi 79 0) (xret 79)) := rfl
set_option maxRecDepth 100000 in
theorem xmco_80 : xmwi 80 0 = some (.code (xy 80) (xb 80) (xmi 80 0) (xret 80)) := rfl
set_option maxRecDepth 100000 in
theorem xmco_81 : xmwi 81 0 = some (.code (xy 81) (xb 81) (xmi 81 0) (xret 81)) := rfl
set_option maxRecDepth 100000 in
theorem xmco_82 : xmwi 82 0 = some (.code (xy 82) (xb 82) (xmi 82 0) (xret 82)) := rfl
set_option maxRecDepth 100000 in
theorem xmco_83 : xmwi 83 0 = some (.code (xy 83) (xb 83) (xmi 83 0) (xret 83)) := rfl
set_option maxRecDepth 100000 in
theorem xmco_84 : xmwi 84 0 = some (.code (xy 84) (xb 84) (xmi 84 0) (xret 84)) := rfl
set_option maxRecDepth 100000 in
theorem xmco_85 : xmwi 85 0 = some (.code (xy 85) (xb 85) (xmi 85 0) (xret 85)) := rfl
set_option maxRecDepth 100000 in
theorem xmco_86 : xmwi 86 0 = some (.code (xy 86) (xb 86) (xmi 86 0) (xret 86)) := rfl
set_option maxRecDepth 100000 in
theorem xmco_87 : xmwi 87 0 = some (.code (xy 87) (xb 87) (xmi 87 0) (xret 87)) := rfl
set_option maxRecDepth 100000 in
theorem xmco_88 : xmwi 88 0 = some (.code (xy 88) (xb 88) (xmi 88 0) (xret 88)) := rfl
set_option maxRecDepth 100000 in
theorem xmco_89 : xmwi 89 0 = some (.code (xy 89) (xb 89) (xmi 89 0) (xret 89)) := rfl
set_option maxRecDepth 100000 in
theorem xmco_90 : xmwi 90 0 = some (.code (xy 90) (xb 90) (xmi 90 0) (xret 90)) := rfl
set_option maxRecDepth 100000 in
theorem xmco_91 : xmwi 91 0 = some (.code (xy 91) (xb 91) (xmi 91 0) (xret 91)) := rfl
set_option maxRecDepth 100000 in
theorem xmco_92 : xmwi 92 0 = some (.code (xy 92) (xb 92) (xmi 92 0) (xret 92)) := rfl
set_option maxRecDepth 100000 in
theorem xmco_93 : xmwi 93 0 = some (.code (xy 93) (xb 93) (xmi 93 0) (xret 93)) := rfl
set_option maxRecDepth 100000 in
theorem xmco_94 : xmwi 94 0 = some (.code (xy 94) (xb 94) (xmi 94 0) (xret 94)) := rfl
set_option maxRecDepth 100000 in
theorem xmco_95 : xmwi 95 0 = some (.code (xy 95) (xb 95) (xmi 95 0) (xret 95)) := rfl
set_option maxRecDepth 100000 in
theorem xmco_96 : xmwi 96 0 = some (.code (xy 96) (xb 96) (xmi 96 0) (xret 96)) := rfl
set_option maxRecDepth 100000 in
theorem xmco_97 : xmwi 97 0 = some (.code (xy 97) (xb 97) (xmi 97 0) (xret 97)) := rfl
set_option maxRecDepth 100000 in
theorem xmco_98 : xmwi 98 0 = some (.code (xy 98) (xb 98) (xmi 98 0) (xret 98)) := rfl
set_option maxRecDepth 100000 in
theorem xmco_99 : xmwi 99 0 = some (.code (xy 99) (xb 99) (xmi 99 0) (xret 99)) := rfl
set_option maxRecDepth 100000 in
theorem xmco_100 : xmwi 100 0 = some (.code (xy 100) (xb 100) (xmi 100 0) (xret 100)) := rfl
set_option maxRecDepth 100000 in
theorem xmco_101 : xmwi 101 0 = some (.code (xy 101) (xb 101) (xmi 101 0) (xret 101)) := rfl
set_option maxRecDepth 100000 in
theorem xmco_102 : xmwi 102 0 = some (.code (xy 102) (xb 102) (xmi 102 0) (xret 102)) := rfl
set_option maxRecDepth 100000 in
theorem xmco_103 : xmwi 103 0 = some (.code (xy 103) (xb 103) (xmi 103 0) (xret 103)) := rfl
set_option maxRecDepth 100000 in
theorem xmco_104 : xmwi 104 0 = some (.code (xy 104) (xb 104) (xmi 104 0) (xret 104)) := rfl
set_option maxRecDepth 100000 in
theorem xmco_105 : xmwi 105 0 = some (.code (xy 105) (xb 105) (xmi 105 0) (xret 105)) := rfl
set_option maxRecDepth 100000 in
theorem xmco_106 : xmwi 106 0 = some (.code (xy 106) (xb 106) (xmi 106 0) (xret 106)) := rfl
set_option maxRecDepth 100000 in
theorem xmco_107 : xmwi 107 0 = some (.code (xy 107) (xb 107) (xmi 107 0) (xret 107)) := rfl
set_option maxRecDepth 100000 in
theorem xmco_108 : xmwi 108 0 = some (.code (xy 108) (xb 108) (xmi 108 0) (xret 108)) := rfl
set_option maxRecDepth 100000 in
theorem xmco_109 : xmwi 109 0 = some (.code (xy 109) (xb 109) (xmi 109 0) (xret 109)) := rfl
set_option maxRecDepth 100000 in
theorem xmco_110 : xmwi 110 0 = some (.code (xy 110) (xb 110) (xmi 110 0) (xret 110)) := rfl
set_option maxRecDepth 100000 in
theorem xmco_111 : xmwi 111 0 = some (.code (xy 111) (xb 111) (xmi 111 0) (xret 111)) := rfl
set_option maxRecDepth 100000 in
theorem xmco_112 : xmwi 112 0 = some (.code (xy 112) (xb 112) (xmi 112 0) (xret 112)) := rfl
set_option maxRecDepth 100000 in
theorem xmco_113 : xmwi 113 0 = some (.code (xy 113) (xb 113) (xmi 113 0) (xret 113)) := rfl
set_option maxRecDepth 100000 in
theorem xmco_114 : xmwi 114 0 = some (.code (xy 114) (xb 114) (xmi 114 0) (xret 114)) := rfl
set_option maxRecDepth 100000 in
theorem xmco_115 : xmwi 115 0 = some (.code (xy 115) (xb 115) (xmi 115 0) (xret 115)) := rfl
set_option maxRecDepth 100000 in
theorem xmco_116 : xmwi 116 0 = some (.code (xy 116) (xb 116) (xmi 116 0) (xret 116)) := rfl
set_option maxRecDepth 100000 in
theorem xmco_117 : xmwi 117 0 = some (.code (xy 117) (xb 117) (xmi 117 0) (xret 117)) := rfl
set_option maxRecDepth 100000 in
theorem xmco_118 : xmwi 118 0 = some (.code (xy 118) (xb 118) (xmi 118 0) (xret 118)) := rfl
set_option maxRecDepth 100000 in
theorem xmco_119 : xmwi 119 0 = some (.code (xy 119) (xb 119) (xmi 119 0) (xret 119)) := rfl
set_option maxRecDepth 100000 in
theorem xmco_120 : xmwi 120 0 = some (.code (xy 120) (xb 120) (xmi 120 0) (xret 120)) := rfl
set_option maxRecDepth 100000 in
theorem xmco_121 : xmwi 121 0 = some (.code (xy 121) (xb 121) (xmi 121 0) (xret 121)) := rfl
set_option maxRecDepth 100000 in
theorem xmco_122 : xmwi 122 0 = some (.code (xy 122) (xb 122) (xmi 122 0) (xret 122)) := rfl
set_option maxRecDepth 100000 in
theorem xmco_123 : xmwi 123 0 = some (.code (xy 123) (xb 123) (xmi 123 0) (xret 123)) := rfl
set_option maxRecDepth 100000 in
theorem xmco_124 : xmwi 124 0 = some (.code (xy 124) (xb 124) (xmi 124 0) (xret 124)) := rfl
set_option maxRecDepth 100000 in
theorem xmco_125 : xmwi 125 0 = some (.code (xy 125) (xb 125) (xmi 125 0) (xret 125)) := rfl
set_option maxRecDepth 100000 in
theorem xmco_126 : xmwi 126 0 = some (.code (xy 126) (xb 126) (xmi 126 0) (xret 126)) := rfl
set_option maxRecDepth 100000 in
theorem xmco_127 : xmwi 127 0 = some (.code (xy 127) (xb 127) (xmi 127 0) (xret 127)) := rfl
theorem xmok (mi : Nat) (h : mi < 128) : xmokb mi = true := by
  rcases Nat.lt_or_ge mi 64 with h64 | h64
  ·
    rcases Nat.lt_or_ge mi 32 with h32 | h32
    ·
      rcases Nat.lt_or_ge mi 16 with h16 | h16
      ·
        rcases Nat.lt_or_ge mi 8 with h8 | h8
        ·
          rcases Nat.lt_or_ge mi 4 with h4 | h4
          ·
            rcases Nat.lt_or_ge mi 2 with h2 | h2
            ·
              rcases Nat.lt_or_ge mi 1 with h1 | h1
              ·
                exact (show mi = 0 by omega) ▸ xmok_0
              ·
                exact (show mi = 1 by omega) ▸ xmok_1
            ·
              rcases Nat.lt_or_ge mi 3 with h3 | h3
              ·
                exact (show mi = 2 by omega) ▸ xmok_2
              ·
                exact (show mi = 3 by omega) ▸ xmok_3
          ·
            rcases Nat.lt_or_ge mi 6 with h6 | h6
            ·
              rcases Nat.lt_or_ge mi 5 with h5 | h5
              ·
                exact (show mi = 4 by omega) ▸ xmok_4
              ·
                exact (show mi = 5 by omega) ▸ xmok_5
            ·
              rcases Nat.lt_or_ge mi 7 with h7 | h7
              ·
                exact (show mi = 6 by omega) ▸ xmok_6
              ·
                exact (show mi = 7 by omega) ▸ xmok_7
        ·
          rcases Nat.lt_or_ge mi 12 with h12 | h12
          ·
            rcases Nat.lt_or_ge mi 10 with h10 | h10
            ·
              rcases Nat.lt_or_ge mi 9 with h9 | h9
              ·
                exact (show mi = 8 by omega) ▸ xmok_8
              ·
                exact (show mi = 9 by omega) ▸ xmok_9
            ·
              rcases Nat.lt_or_ge mi 11 with h11 | h11
              ·
                exact (show mi = 10 by omega) ▸ xmok_10
              ·
                exact (show mi = 11 by omega) ▸ xmok_11
          ·
            rcases Nat.lt_or_ge mi 14 with h14 | h14
            ·
              rcases Nat.lt_or_ge mi 13 with h13 | h13
              ·
                exact (show mi = 12 by omega) ▸ xmok_12
              ·
                exact (show mi = 13 by omega) ▸ xmok_13
            ·
              rcases Nat.lt_or_ge mi 15 with h15 | h15
              ·
                exact (show mi = 14 by omega) ▸ xmok_14
              ·
                exact (show mi = 15 by omega) ▸ xmok_15
      ·
        rcases Nat.lt_or_ge mi 24 with h24 | h24
        ·
          rcases Nat.lt_or_ge mi 20 with h20 | h20
          ·
            rcases Nat.lt_or_ge mi 18 with h18 | h18
            ·
              rcases Nat.lt_or_ge mi 17 with h17 | h17
              ·
                exact (show mi = 16 by omega) ▸ xmok_16
              ·
                exact (show mi = 17 by omega) ▸ xmok_17
            ·
              rcases Nat.lt_or_ge mi 19 with h19 | h19
              ·
                exact (show mi = 18 by omega) ▸ xmok_18
              ·
                exact (show mi = 19 by omega) ▸ xmok_19
          ·
            rcases Nat.lt_or_ge mi 22 with h22 | h22
            ·
              rcases Nat.lt_or_ge mi 21 with h21 | h21
              ·
                exact (show mi = 20 by omega) ▸ xmok_20
              ·
                exact (show mi = 21 by omega) ▸ xmok_21
            ·
              rcases Nat.lt_or_ge mi 23 with h23 | h23
              ·
                exact (show mi = 22 by omega) ▸ xmok_22
              ·
                exact (show mi = 23 by omega) ▸ xmok_23
        ·
          rcases Nat.lt_or_ge mi 28 with h28 | h28
          ·
            rcases Nat.lt_or_ge mi 26 with h26 | h26
            ·
              rcases Nat.lt_or_ge mi 25 with h25 | h25
              ·
                exact (show mi = 24 by omega) ▸ xmok_24
              ·
                exact (show mi = 25 by omega) ▸ xmok_25
            ·
              rcases Nat.lt_or_ge mi 27 with h27 | h27
              ·
                exact (show mi = 26 by omega) ▸ xmok_26
              ·
                exact (show mi = 27 by omega) ▸ xmok_27
          ·
            rcases Nat.lt_or_ge mi 30 with h30 | h30
            ·
              rcases Nat.lt_or_ge mi 29 with h29 | h29
              ·
                exact (show mi = 28 by omega) ▸ xmok_28
              ·
                exact (show mi = 29 by omega) ▸ xmok_29
            ·
              rcases Nat.lt_or_ge mi 31 with h31 | h31
              ·
                exact (show mi = 30 by omega) ▸ xmok_30
              ·
                exact (show mi = 31 by omega) ▸ xmok_31
    ·
      rcases Nat.lt_or_ge mi 48 with h48 | h48
      ·
        rcases Nat.lt_or_ge mi 40 with h40 | h40
        ·
          rcases Nat.lt_or_ge mi 36 with h36 | h36
          ·
            rcases Nat.lt_or_ge mi 34 with h34 | h34
            ·
              rcases Nat.lt_or_ge mi 33 with h33 | h33
              ·
                exact (show mi = 32 by omega) ▸ xmok_32
              ·
                exact (show mi = 33 by omega) ▸ xmok_33
            ·
              rcases Nat.lt_or_ge mi 35 with h35 | h35
              ·
                exact (show mi = 34 by omega) ▸ xmok_34
              ·
                exact (show mi = 35 by omega) ▸ xmok_35
          ·
            rcases Nat.lt_or_ge mi 38 with h38 | h38
            ·
              rcases Nat.lt_or_ge mi 37 with h37 | h37
              ·
                exact (show mi = 36 by omega) ▸ xmok_36
              ·
                exact (show mi = 37 by omega) ▸ xmok_37
            ·
              rcases Nat.lt_or_ge mi 39 with h39 | h39
              ·
                exact (show mi = 38 by omega) ▸ xmok_38
              ·
                exact (show mi = 39 by omega) ▸ xmok_39
        ·
          rcases Nat.lt_or_ge mi 44 with h44 | h44
          ·
            rcases Nat.lt_or_ge mi 42 with h42 | h42
            ·
              rcases Nat.lt_or_ge mi 41 with h41 | h41
              ·
                exact (show mi = 40 by omega) ▸ xmok_40
              ·
                exact (show mi = 41 by omega) ▸ xmok_41
            ·
              rcases Nat.lt_or_ge mi 43 with h43 | h43
              ·
                exact (show mi = 42 by omega) ▸ xmok_42
              ·
                exact (show mi = 43 by omega) ▸ xmok_43
          ·
            rcases Nat.lt_or_ge mi 46 with h46 | h46
            ·
              rcases Nat.lt_or_ge mi 45 with h45 | h45
              ·
                exact (show mi = 44 by omega) ▸ xmok_44
              ·
                exact (show mi = 45 by omega) ▸ xmok_45
            ·
              rcases Nat.lt_or_ge mi 47 with h47 | h47
              ·
                exact (show mi = 46 by omega) ▸ xmok_46
              ·
                exact (show mi = 47 by omega) ▸ xmok_47
      ·
        rcases Nat.lt_or_ge mi 56 with h56 | h56
        ·
          rcases Nat.lt_or_ge mi 52 with h52 | h52
          ·
            rcases Nat.lt_or_ge mi 50 with h50 | h50
            ·
              rcases Nat.lt_or_ge mi 49 with h49 | h49
              ·
                exact (show mi = 48 by omega) ▸ xmok_48
              ·
                exact (show mi = 49 by omega) ▸ xmok_49
            ·
              rcases Nat.lt_or_ge mi 51 with h51 | h51
              ·
                exact (show mi = 50 by omega) ▸ xmok_50
              ·
                exact (show mi = 51 by omega) ▸ xmok_51
          ·
            rcases Nat.lt_or_ge mi 54 with h54 | h54
            ·
              rcases Nat.lt_or_ge mi 53 with h53 | h53
              ·
                exact (show mi = 52 by omega) ▸ xmok_52
              ·
                exact (show mi = 53 by omega) ▸ xmok_53
            ·
              rcases Nat.lt_or_ge mi 55 with h55 | h55
              ·
                exact (show mi = 54 by omega) ▸ xmok_54
              ·
                exact (show mi = 55 by omega) ▸ xmok_55
        ·
          rcases Nat.lt_or_ge mi 60 with h60 | h60
          ·
            rcases Nat.lt_or_ge mi 58 with h58 | h58
            ·
              rcases Nat.lt_or_ge mi 57 with h57 | h57
              ·
                exact (show mi = 56 by omega) ▸ xmok_56
              ·
                exact (show mi = 57 by omega) ▸ xmok_57
            ·
              rcases Nat.lt_or_ge mi 59 with h59 | h59
              ·
                exact (show mi = 58 by omega) ▸ xmok_58
              ·
                exact (show mi = 59 by omega) ▸ xmok_59
          ·
            rcases Nat.lt_or_ge mi 62 with h62 | h62
            ·
              rcases Nat.lt_or_ge mi 61 with h61 | h61
              ·
                exact (show mi = 60 by omega) ▸ xmok_60
              ·
                exact (show mi = 61 by omega) ▸ xmok_61
            ·
              rcases Nat.lt_or_ge mi 63 with h63 | h63
              ·
                exact (show mi = 62 by omega) ▸ xmok_62
              ·
                exact (show mi = 63 by omega) ▸ xmok_63
  ·
    rcases Nat.lt_or_ge mi 96 with h96 | h96
    ·
      rcases Nat.lt_or_ge mi 80 with h80 | h80
      ·
        rcases Nat.lt_or_ge mi 72 with h72 | h72
        ·
          rcases Nat.lt_or_ge mi 68 with h68 | h68
          ·
            rcases Nat.lt_or_ge mi 66 with h66 | h66
            ·
              rcases Nat.lt_or_ge mi 65 with h65 | h65
              ·
                exact (show mi = 64 by omega) ▸ xmok_64
              ·
                exact (show mi = 65 by omega) ▸ xmok_65
            ·
              rcases Nat.lt_or_ge mi 67 with h67 | h67
              ·
                exact (show mi = 66 by omega) ▸ xmok_66
              ·
                exact (show mi = 67 by omega) ▸ xmok_67
          ·
            rcases Nat.lt_or_ge mi 70 with h70 | h70
            ·
              rcases Nat.lt_or_ge mi 69 with h69 | h69
              ·
                exact (show mi = 68 by omega) ▸ xmok_68
              ·
                exact (show mi = 69 by omega) ▸ xmok_69
            ·
              rcases Nat.lt_or_ge mi 71 with h71 | h71
              ·
                exact (show mi = 70 by omega) ▸ xmok_70
              ·
                exact (show mi = 71 by omega) ▸ xmok_71
        ·
          rcases Nat.lt_or_ge mi 76 with h76 | h76
          ·
            rcases Nat.lt_or_ge mi 74 with h74 | h74
            ·
              rcases Nat.lt_or_ge mi 73 with h73 | h73
              ·
                exact (show mi = 72 by omega) ▸ xmok_72
              ·
                exact (show mi = 73 by omega) ▸ xmok_73
            ·
              rcases Nat.lt_or_ge mi 75 with h75 | h75
              ·
                exact (show mi = 74 by omega) ▸ xmok_74
              ·
                exact (show mi = 75 by omega) ▸ xmok_75
          ·
            rcases Nat.lt_or_ge mi 78 with h78 | h78
            ·
              rcases Nat.lt_or_ge mi 77 with h77 | h77
              ·
                exact (show mi = 76 by omega) ▸ xmok_76
              ·
                exact (show mi = 77 by omega) ▸ xmok_77
            ·
              rcases Nat.lt_or_ge mi 79 with h79 | h79
              ·
                exact (show mi = 78 by omega) ▸ xmok_78
              ·
                exact (show mi = 79 by omega) ▸ xmok_79
      ·
        rcases Nat.lt_or_ge mi 88 with h88 | h88
        ·
          rcases Nat.lt_or_ge mi 84 with h84 | h84
          ·
            rcases Nat.lt_or_ge mi 82 with h82 | h82
            ·
              rcases Nat.lt_or_ge mi 81 with h81 | h81
              ·
                exact (show mi = 80 by omega) ▸ xmok_80
              ·
                exact (show mi = 81 by omega) ▸ xmok_81
            ·
              rcases Nat.lt_or_ge mi 83 with h83 | h83
              ·
                exact (show mi = 82 by omega) ▸ xmok_82
              ·
                exact (show mi = 83 by omega) ▸ xmok_83
          ·
            rcases Nat.lt_or_ge mi 86 with h86 | h86
            ·
              rcases Nat.lt_or_ge mi 85 with h85 | h85
              ·
                exact (show mi = 84 by omega) ▸ xmok_84
              ·
                exact (show mi = 85 by omega) ▸ xmok_85
            ·
              rcases Nat.lt_or_ge mi 87 with h87 | h87
              ·
                exact (show mi = 86 by omega) ▸ xmok_86
              ·
                exact (show mi = 87 by omega) ▸ xmok_87
        ·
          rcases Nat.lt_or_ge mi 92 with h92 | h92
          ·
            rcases Nat.lt_or_ge mi 90 with h90 | h90
            ·
              rcases Nat.lt_or_ge mi 89 with h89 | h89
              ·
                exact (show mi = 88 by omega) ▸ xmok_88
              ·
                exact (show mi = 89 by omega) ▸ xmok_89
            ·
              rcases Nat.lt_or_ge mi 91 with h91 | h91
              ·
                exact (show mi = 90 by omega) ▸ xmok_90
              ·
                exact (show mi = 91 by omega) ▸ xmok_91
          ·
            rcases Nat.lt_or_ge mi 94 with h94 | h94
            ·
              rcases Nat.lt_or_ge mi 93 with h93 | h93
              ·
                exact (show mi = 92 by omega) ▸ xmok_92
              ·
                exact (show mi = 93 by omega) ▸ xmok_93
            ·
              rcases Nat.lt_or_ge mi 95 with h95 | h95
              ·
                exact (show mi = 94 by omega) ▸ xmok_94
              ·
                exact (show mi = 95 by omega) ▸ xmok_95
    ·
      rcases Nat.lt_or_ge mi 112 with h112 | h112
      ·
        rcases Nat.lt_or_ge mi 104 with h104 | h104
        ·
          rcases Nat.lt_or_ge mi 100 with h100 | h100
          ·
            rcases Nat.lt_or_ge mi 98 with h98 | h98
            ·
              rcases Nat.lt_or_ge mi 97 with h97 | h97
              ·
                exact (show mi = 96 by omega) ▸ xmok_96
              ·
                exact (show mi = 97 by omega) ▸ xmok_97
            ·
              rcases Nat.lt_or_ge mi 99 with h99 | h99
              ·
                exact (show mi = 98 by omega) ▸ xmok_98
              ·
                exact (show mi = 99 by omega) ▸ xmok_99
          ·
            rcases Nat.lt_or_ge mi 102 with h102 | h102
            ·
              rcases Nat.lt_or_ge mi 101 with h101 | h101
              ·
                exact (show mi = 100 by omega) ▸ xmok_100
              ·
                exact (show mi = 101 by omega) ▸ xmok_101
            ·
              rcases Nat.lt_or_ge mi 103 with h103 | h103
              ·
                exact (show mi = 102 by omega) ▸ xmok_102
              ·
                exact (show mi = 103 by omega) ▸ xmok_103
        ·
          rcases Nat.lt_or_ge mi 108 with h108 | h108
          ·
            rcases Nat.lt_or_ge mi 106 with h106 | h106
            ·
              rcases Nat.lt_or_ge mi 105 with h105 | h105
              ·
                exact (show mi = 104 by omega) ▸ xmok_104
              ·
                exact (show mi = 105 by omega) ▸ xmok_105
            ·
              rcases Nat.lt_or_ge mi 107 with h107 | h107
              ·
                exact (show mi = 106 by omega) ▸ xmok_106
              ·
                exact (show mi = 107 by omega) ▸ xmok_107
          ·
            rcases Nat.lt_or_ge mi 110 with h110 | h110
            ·
              rcases Nat.lt_or_ge mi 109 with h109 | h109
              ·
                exact (show mi = 108 by omega) ▸ xmok_108
              ·
                exact (show mi = 109 by omega) ▸ xmok_109
            ·
              rcases Nat.lt_or_ge mi 111 with h111 | h111
              ·
                exact (show mi = 110 by omega) ▸ xmok_110
              ·
                exact (show mi = 111 by omega) ▸ xmok_111
      ·
        rcases Nat.lt_or_ge mi 120 with h120 | h120
        ·
          rcases Nat.lt_or_ge mi 116 with h116 | h116
          ·
            rcases Nat.lt_or_ge mi 114 with h114 | h114
            ·
              rcases Nat.lt_or_ge mi 113 with h113 | h113
              ·
                exact (show mi = 112 by omega) ▸ xmok_112
              ·
                exact (show mi = 113 by omega) ▸ xmok_113
            ·
              rcases Nat.lt_or_ge mi 115 with h115 | h115
              ·
                exact (show mi = 114 by omega) ▸ xmok_114
              ·
                exact (show mi = 115 by omega) ▸ xmok_115
          ·
            rcases Nat.lt_or_ge mi 118 with h118 | h118
            ·
              rcases Nat.lt_or_ge mi 117 with h117 | h117
              ·
                exact (show mi = 116 by omega) ▸ xmok_116
              ·
                exact (show mi = 117 by omega) ▸ xmok_117
            ·
              rcases Nat.lt_or_ge mi 119 with h119 | h119
              ·
                exact (show mi = 118 by omega) ▸ xmok_118
              ·
                exact (show mi = 119 by omega) ▸ xmok_119
        ·
          rcases Nat.lt_or_ge mi 124 with h124 | h124
          ·
            rcases Nat.lt_or_ge mi 122 with h122 | h122
            ·
              rcases Nat.lt_or_ge mi 121 with h121 | h121
              ·
                exact (show mi = 120 by omega) ▸ xmok_120
              ·
                exact (show mi = 121 by omega) ▸ xmok_121
            ·
              rcases Nat.lt_or_ge mi 123 with h123 | h123
              ·
                exact (show mi = 122 by omega) ▸ xmok_122
              ·
                exact (show mi = 123 by omega) ▸ xmok_123
          ·
            rcases Nat.lt_or_ge mi 126 with h126 | h126
            ·
              rcases Nat.lt_or_ge mi 125 with h125 | h125
              ·
                exact (show mi = 124 by omega) ▸ xmok_124
              ·
                exact (show mi = 125 by omega) ▸ xmok_125
            ·
              rcases Nat.lt_or_ge mi 127 with h127 | h127
              ·
                exact (show mi = 126 by omega) ▸ xmok_126
              ·
                exact (show mi = 127 by omega) ▸ xmok_127
theorem xmco (mi : Nat) (h : mi < 128) (n14 : mi ≠ 14) (n47 : mi ≠ 47) : xmwi mi 0 = some (.code (xy mi) (xb mi) (xmi mi 0) (xret mi)) := by
  rcases Nat.lt_or_ge mi 64 with h64 | h64
  ·
    rcases Nat.lt_or_ge mi 32 with h32 | h32
    ·
      rcases Nat.lt_or_ge mi 16 with h16 | h16
      ·
        rcases Nat.lt_or_ge mi 8 with h8 | h8
        ·
          rcases Nat.lt_or_ge mi 4 with h4 | h4
          ·
            rcases Nat.lt_or_ge mi 2 with h2 | h2
            ·
              rcases Nat.lt_or_ge mi 1 with h1 | h1
              ·
                exact (show mi = 0 by omega) ▸ xmco_0
              ·
                exact (show mi = 1 by omega) ▸ xmco_1
            ·
              rcases Nat.lt_or_ge mi 3 with h3 | h3
              ·
                exact (show mi = 2 by omega) ▸ xmco_2
              ·
                exact (show mi = 3 by omega) ▸ xmco_3
          ·
            rcases Nat.lt_or_ge mi 6 with h6 | h6
            ·
              rcases Nat.lt_or_ge mi 5 with h5 | h5
              ·
                exact (show mi = 4 by omega) ▸ xmco_4
              ·
                exact (show mi = 5 by omega) ▸ xmco_5
            ·
              rcases Nat.lt_or_ge mi 7 with h7 | h7
              ·
                exact (show mi = 6 by omega) ▸ xmco_6
              ·
                exact (show mi = 7 by omega) ▸ xmco_7
        ·
          rcases Nat.lt_or_ge mi 12 with h12 | h12
          ·
            rcases Nat.lt_or_ge mi 10 with h10 | h10
            ·
              rcases Nat.lt_or_ge mi 9 with h9 | h9
              ·
                exact (show mi = 8 by omega) ▸ xmco_8
              ·
                exact (show mi = 9 by omega) ▸ xmco_9
            ·
              rcases Nat.lt_or_ge mi 11 with h11 | h11
              ·
                exact (show mi = 10 by omega) ▸ xmco_10
              ·
                exact (show mi = 11 by omega) ▸ xmco_11
          ·
            rcases Nat.lt_or_ge mi 14 with h14 | h14
            ·
              rcases Nat.lt_or_ge mi 13 with h13 | h13
              ·
                exact (show mi = 12 by omega) ▸ xmco_12
              ·
                exact (show mi = 13 by omega) ▸ xmco_13
            ·
              rcases Nat.lt_or_ge mi 15 with h15 | h15
              ·
                exact absurd (show mi = 14 by omega) n14
              ·
                exact (show mi = 15 by omega) ▸ xmco_15
      ·
        rcases Nat.lt_or_ge mi 24 with h24 | h24
        ·
          rcases Nat.lt_or_ge mi 20 with h20 | h20
          ·
            rcases Nat.lt_or_ge mi 18 with h18 | h18
            ·
              rcases Nat.lt_or_ge mi 17 with h17 | h17
              ·
                exact (show mi = 16 by omega) ▸ xmco_16
              ·
                exact (show mi = 17 by omega) ▸ xmco_17
            ·
              rcases Nat.lt_or_ge mi 19 with h19 | h19
              ·
                exact (show mi = 18 by omega) ▸ xmco_18
              ·
                exact (show mi = 19 by omega) ▸ xmco_19
          ·
            rcases Nat.lt_or_ge mi 22 with h22 | h22
            ·
              rcases Nat.lt_or_ge mi 21 with h21 | h21
              ·
                exact (show mi = 20 by omega) ▸ xmco_20
              ·
                exact (show mi = 21 by omega) ▸ xmco_21
            ·
              rcases Nat.lt_or_ge mi 23 with h23 | h23
              ·
                exact (show mi = 22 by omega) ▸ xmco_22
              ·
                exact (show mi = 23 by omega) ▸ xmco_23
        ·
          rcases Nat.lt_or_ge mi 28 with h28 | h28
          ·
            rcases Nat.lt_or_ge mi 26 with h26 | h26
            ·
              rcases Nat.lt_or_ge mi 25 with h25 | h25
              ·
                exact (show mi = 24 by omega) ▸ xmco_24
              ·
                exact (show mi = 25 by omega) ▸ xmco_25
            ·
              rcases Nat.lt_or_ge mi 27 with h27 | h27
              ·
                exact (show mi = 26 by omega) ▸ xmco_26
              ·
                exact (show mi = 27 by omega) ▸ xmco_27
          ·
            rcases Nat.lt_or_ge mi 30 with h30 | h30
            ·
              rcases Nat.lt_or_ge mi 29 with h29 | h29
              ·
                exact (show mi = 28 by omega) ▸ xmco_28
              ·
                exact (show mi = 29 by omega) ▸ xmco_29
            ·
              rcases Nat.lt_or_ge mi 31 with h31 | h31
              ·
                exact (show mi = 30 by omega) ▸ xmco_30
              ·
                exact (show mi = 31 by omega) ▸ xmco_31
    ·
      rcases Nat.lt_or_ge mi 48 with h48 | h48
      ·
        rcases Nat.lt_or_ge mi 40 with h40 | h40
        ·
          rcases Nat.lt_or_ge mi 36 with h36 | h36
          ·
            rcases Nat.lt_or_ge mi 34 with h34 | h34
            ·
              rcases Nat.lt_or_ge mi 33 with h33 | h33
              ·
                exact (show mi = 32 by omega) ▸ xmco_32
              ·
                exact (show mi = 33 by omega) ▸ xmco_33
            ·
              rcases Nat.lt_or_ge mi 35 with h35 | h35
              ·
                exact (show mi = 34 by omega) ▸ xmco_34
              ·
                exact (show mi = 35 by omega) ▸ xmco_35
          ·
            rcases Nat.lt_or_ge mi 38 with h38 | h38
            ·
              rcases Nat.lt_or_ge mi 37 with h37 | h37
              ·
                exact (show mi = 36 by omega) ▸ xmco_36
              ·
                exact (show mi = 37 by omega) ▸ xmco_37
            ·
              rcases Nat.lt_or_ge mi 39 with h39 | h39
              ·
                exact (show mi = 38 by omega) ▸ xmco_38
              ·
                exact (show mi = 39 by omega) ▸ xmco_39
        ·
          rcases Nat.lt_or_ge mi 44 with h44 | h44
          ·
            rcases Nat.lt_or_ge mi 42 with h42 | h42
            ·
              rcases Nat.lt_or_ge mi 41 with h41 | h41
              ·
                exact (show mi = 40 by omega) ▸ xmco_40
              ·
                exact (show mi = 41 by omega) ▸ xmco_41
            ·
              rcases Nat.lt_or_ge mi 43 with h43 | h43
              ·
                exact (show mi = 42 by omega) ▸ xmco_42
              ·
                exact (show mi = 43 by omega) ▸ xmco_43
          ·
            rcases Nat.lt_or_ge mi 46 with h46 | h46
            ·
              rcases Nat.lt_or_ge mi 45 with h45 | h45
              ·
                exact (show mi = 44 by omega) ▸ xmco_44
              ·
                exact (show mi = 45 by omega) ▸ xmco_45
            ·
              rcases Nat.lt_or_ge mi 47 with h47 | h47
              ·
                exact (show mi = 46 by omega) ▸ xmco_46
              ·
                exact absurd (show mi = 47 by omega) n47
      ·
        rcases Nat.lt_or_ge mi 56 with h56 | h56
        ·
          rcases Nat.lt_or_ge mi 52 with h52 | h52
          ·
            rcases Nat.lt_or_ge mi 50 with h50 | h50
            ·
              rcases Nat.lt_or_ge mi 49 with h49 | h49
              ·
                exact (show mi = 48 by omega) ▸ xmco_48
              ·
                exact (show mi = 49 by omega) ▸ xmco_49
            ·
              rcases Nat.lt_or_ge mi 51 with h51 | h51
              ·
                exact (show mi = 50 by omega) ▸ xmco_50
              ·
                exact (show mi = 51 by omega) ▸ xmco_51
          ·
            rcases Nat.lt_or_ge mi 54 with h54 | h54
            ·
              rcases Nat.lt_or_ge mi 53 with h53 | h53
              ·
                exact (show mi = 52 by omega) ▸ xmco_52
              ·
                exact (show mi = 53 by omega) ▸ xmco_53
            ·
              rcases Nat.lt_or_ge mi 55 with h55 | h55
              ·
                exact (show mi = 54 by omega) ▸ xmco_54
              ·
                exact (show mi = 55 by omega) ▸ xmco_55
        ·
          rcases Nat.lt_or_ge mi 60 with h60 | h60
          ·
            rcases Nat.lt_or_ge mi 58 with h58 | h58
            ·
              rcases Nat.lt_or_ge mi 57 with h57 | h57
              ·
                exact (show mi = 56 by omega) ▸ xmco_56
              ·
                exact (show mi = 57 by omega) ▸ xmco_57
            ·
              rcases Nat.lt_or_ge mi 59 with h59 | h59
              ·
                exact (show mi = 58 by omega) ▸ xmco_58
              ·
                exact (show mi = 59 by omega) ▸ xmco_59
          ·
            rcases Nat.lt_or_ge mi 62 with h62 | h62
            ·
              rcases Nat.lt_or_ge mi 61 with h61 | h61
              ·
                exact (show mi = 60 by omega) ▸ xmco_60
              ·
                exact (show mi = 61 by omega) ▸ xmco_61
            ·
              rcases Nat.lt_or_ge mi 63 with h63 | h63
              ·
                exact (show mi = 62 by omega) ▸ xmco_62
              ·
                exact (show mi = 63 by omega) ▸ xmco_63
  ·
    rcases Nat.lt_or_ge mi 96 with h96 | h96
    ·
      rcases Nat.lt_or_ge mi 80 with h80 | h80
      ·
        rcases Nat.lt_or_ge mi 72 with h72 | h72
        ·
          rcases Nat.lt_or_ge mi 68 with h68 | h68
          ·
            rcases Nat.lt_or_ge mi 66 with h66 | h66
            ·
              rcases Nat.lt_or_ge mi 65 with h65 | h65
              ·
                exact (show mi = 64 by omega) ▸ xmco_64
              ·
                exact (show mi = 65 by omega) ▸ xmco_65
            ·
              rcases Nat.lt_or_ge mi 67 with h67 | h67
              ·
                exact (show mi = 66 by omega) ▸ xmco_66
              ·
                exact (show mi = 67 by omega) ▸ xmco_67
          ·
            rcases Nat.lt_or_ge mi 70 with h70 | h70
            ·
              rcases Nat.lt_or_ge mi 69 with h69 | h69
              ·
                exact (show mi = 68 by omega) ▸ xmco_68
              ·
                exact (show mi = 69 by omega) ▸ xmco_69
            ·
              rcases Nat.lt_or_ge mi 71 with h71 | h71
              ·
                exact (show mi = 70 by omega) ▸ xmco_70
              ·
                exact (show mi = 71 by omega) ▸ xmco_71
        ·
          rcases Nat.lt_or_ge mi 76 with h76 | h76
          ·
            rcases Nat.lt_or_ge mi 74 with h74 | h74
            ·
              rcases Nat.lt_or_ge mi 73 with h73 | h73
              ·
                exact (show mi = 72 by omega) ▸ xmco_72
              ·
                exact (show mi = 73 by omega) ▸ xmco_73
            ·
              rcases Nat.lt_or_ge mi 75 with h75 | h75
              ·
                exact (show mi = 74 by omega) ▸ xmco_74
              ·
                exact (show mi = 75 by omega) ▸ xmco_75
          ·
            rcases Nat.lt_or_ge mi 78 with h78 | h78
            ·
              rcases Nat.lt_or_ge mi 77 with h77 | h77
              ·
                exact (show mi = 76 by omega) ▸ xmco_76
              ·
                exact (show mi = 77 by omega) ▸ xmco_77
            ·
              rcases Nat.lt_or_ge mi 79 with h79 | h79
              ·
                exact (show mi = 78 by omega) ▸ xmco_78
              ·
                exact (show mi = 79 by omega) ▸ xmco_79
      ·
        rcases Nat.lt_or_ge mi 88 with h88 | h88
        ·
          rcases Nat.lt_or_ge mi 84 with h84 | h84
          ·
            rcases Nat.lt_or_ge mi 82 with h82 | h82
            ·
              rcases Nat.lt_or_ge mi 81 with h81 | h81
              ·
                exact (show mi = 80 by omega) ▸ xmco_80
              ·
                exact (show mi = 81 by omega) ▸ xmco_81
            ·
              rcases Nat.lt_or_ge mi 83 with h83 | h83
              ·
                exact (show mi = 82 by omega) ▸ xmco_82
              ·
                exact (show mi = 83 by omega) ▸ xmco_83
          ·
            rcases Nat.lt_or_ge mi 86 with h86 | h86
            ·
              rcases Nat.lt_or_ge mi 85 with h85 | h85
              ·
                exact (show mi = 84 by omega) ▸ xmco_84
              ·
                exact (show mi = 85 by omega) ▸ xmco_85
            ·
              rcases Nat.lt_or_ge mi 87 with h87 | h87
              ·
                exact (show mi = 86 by omega) ▸ xmco_86
              ·
                exact (show mi = 87 by omega) ▸ xmco_87
        ·
          rcases Nat.lt_or_ge mi 92 with h92 | h92
          ·
            rcases Nat.lt_or_ge mi 90 with h90 | h90
            ·
              rcases Nat.lt_or_ge mi 89 with h89 | h89
              ·
                exact (show mi = 88 by omega) ▸ xmco_88
              ·
                exact (show mi = 89 by omega) ▸ xmco_89
            ·
              rcases Nat.lt_or_ge mi 91 with h91 | h91
              ·
                exact (show mi = 90 by omega) ▸ xmco_90
              ·
                exact (show mi = 91 by omega) ▸ xmco_91
          ·
            rcases Nat.lt_or_ge mi 94 with h94 | h94
            ·
              rcases Nat.lt_or_ge mi 93 with h93 | h93
              ·
                exact (show mi = 92 by omega) ▸ xmco_92
              ·
                exact (show mi = 93 by omega) ▸ xmco_93
            ·
              rcases Nat.lt_or_ge mi 95 with h95 | h95
              ·
                exact (show mi = 94 by omega) ▸ xmco_94
              ·
                exact (show mi = 95 by omega) ▸ xmco_95
    ·
      rcases Nat.lt_or_ge mi 112 with h112 | h112
      ·
        rcases Nat.lt_or_ge mi 104 with h104 | h104
        ·
          rcases Nat.lt_or_ge mi 100 with h100 | h100
          ·
            rcases Nat.lt_or_ge mi 98 with h98 | h98
            ·
              rcases Nat.lt_or_ge mi 97 with h97 | h97
              ·
                exact (show mi = 96 by omega) ▸ xmco_96
              ·
                exact (show mi = 97 by omega) ▸ xmco_97
            ·
              rcases Nat.lt_or_ge mi 99 with h99 | h99
              ·
                exact (show mi = 98 by omega) ▸ xmco_98
              ·
                exact (show mi = 99 by omega) ▸ xmco_99
          ·
            rcases Nat.lt_or_ge mi 102 with h102 | h102
            ·
              rcases Nat.lt_or_ge mi 101 with h101 | h101
              ·
                exact (show mi = 100 by omega) ▸ xmco_100
              ·
                exact (show mi = 101 by omega) ▸ xmco_101
            ·
              rcases Nat.lt_or_ge mi 103 with h103 | h103
              ·
                exact (show mi = 102 by omega) ▸ xmco_102
              ·
                exact (show mi = 103 by omega) ▸ xmco_103
        ·
          rcases Nat.lt_or_ge mi 108 with h108 | h108
          ·
            rcases Nat.lt_or_ge mi 106 with h106 | h106
            ·
              rcases Nat.lt_or_ge mi 105 with h105 | h105
              ·
                exact (show mi = 104 by omega) ▸ xmco_104
              ·
                exact (show mi = 105 by omega) ▸ xmco_105
            ·
              rcases Nat.lt_or_ge mi 107 with h107 | h107
              ·
                exact (show mi = 106 by omega) ▸ xmco_106
              ·
                exact (show mi = 107 by omega) ▸ xmco_107
          ·
            rcases Nat.lt_or_ge mi 110 with h110 | h110
            ·
              rcases Nat.lt_or_ge mi 109 with h109 | h109
              ·
                exact (show mi = 108 by omega) ▸ xmco_108
              ·
                exact (show mi = 109 by omega) ▸ xmco_109
            ·
              rcases Nat.lt_or_ge mi 111 with h111 | h111
              ·
                exact (show mi = 110 by omega) ▸ xmco_110
              ·
                exact (show mi = 111 by omega) ▸ xmco_111
      ·
        rcases Nat.lt_or_ge mi 120 with h120 | h120
        ·
          rcases Nat.lt_or_ge mi 116 with h116 | h116
          ·
            rcases Nat.lt_or_ge mi 114 with h114 | h114
            ·
              rcases Nat.lt_or_ge mi 113 with h113 | h113
              ·
                exact (show mi = 112 by omega) ▸ xmco_112
              ·
                exact (show mi = 113 by omega) ▸ xmco_113
            ·
              rcases Nat.lt_or_ge mi 115 with h115 | h115
              ·
                exact (show mi = 114 by omega) ▸ xmco_114
              ·
                exact (show mi = 115 by omega) ▸ xmco_115
          ·
            rcases Nat.lt_or_ge mi 118 with h118 | h118
            ·
              rcases Nat.lt_or_ge mi 117 with h117 | h117
              ·
                exact (show mi = 116 by omega) ▸ xmco_116
              ·
                exact (show mi = 117 by omega) ▸ xmco_117
            ·
              rcases Nat.lt_or_ge mi 119 with h119 | h119
              ·
                exact (show mi = 118 by omega) ▸ xmco_118
              ·
                exact (show mi = 119 by omega) ▸ xmco_119
        ·
          rcases Nat.lt_or_ge mi 124 with h124 | h124
          ·
            rcases Nat.lt_or_ge mi 122 with h122 | h122
            ·
              rcases Nat.lt_or_ge mi 121 with h121 | h121
              ·
                exact (show mi = 120 by omega) ▸ xmco_120
              ·
                exact (show mi = 121 by omega) ▸ xmco_121
            ·
              rcases Nat.lt_or_ge mi 123 with h123 | h123
              ·
                exact (show mi = 122 by omega) ▸ xmco_122
              ·
                exact (show mi = 123 by omega) ▸ xmco_123
          ·
            rcases Nat.lt_or_ge mi 126 with h126 | h126
            ·
              rcases Nat.lt_or_ge mi 125 with h125 | h125
              ·
                exact (show mi = 124 by omega) ▸ xmco_124
              ·
                exact (show mi = 125 by omega) ▸ xmco_125
            ·
              rcases Nat.lt_or_ge mi 127 with h127 | h127
              ·
                exact (show mi = 126 by omega) ▸ xmco_126
              ·
                exact (show mi = 127 by omega) ▸ xmco_127
theorem xok_all (mi : Nat) (h : mi < 129) : xokm mi = true := by
  rcases Nat.lt_or_ge mi 64 with h64 | h64
  ·
    rcases Nat.lt_or_ge mi 32 with h32 | h32
    ·
      rcases Nat.lt_or_ge mi 16 with h16 | h16
      ·
        rcases Nat.lt_or_ge mi 8 with h8 | h8
        ·
          rcases Nat.lt_or_ge mi 4 with h4 | h4
          ·
            rcases Nat.lt_or_ge mi 2 with h2 | h2
            ·
              rcases Nat.lt_or_ge mi 1 with h1 | h1
              ·
                exact (show mi = 0 by omega) ▸ xokm_0
              ·
                exact (show mi = 1 by omega) ▸ xokm_1
            ·
              rcases Nat.lt_or_ge mi 3 with h3 | h3
              ·
                exact (show mi = 2 by omega) ▸ xokm_2
              ·
                exact (show mi = 3 by omega) ▸ xokm_3
          ·
            rcases Nat.lt_or_ge mi 6 with h6 | h6
            ·
              rcases Nat.lt_or_ge mi 5 with h5 | h5
              ·
                exact (show mi = 4 by omega) ▸ xokm_4
              ·
                exact (show mi = 5 by omega) ▸ xokm_5
            ·
              rcases Nat.lt_or_ge mi 7 with h7 | h7
              ·
                exact (show mi = 6 by omega) ▸ xokm_6
              ·
                exact (show mi = 7 by omega) ▸ xokm_7
        ·
          rcases Nat.lt_or_ge mi 12 with h12 | h12
          ·
            rcases Nat.lt_or_ge mi 10 with h10 | h10
            ·
              rcases Nat.lt_or_ge mi 9 with h9 | h9
              ·
                exact (show mi = 8 by omega) ▸ xokm_8
              ·
                exact (show mi = 9 by omega) ▸ xokm_9
            ·
              rcases Nat.lt_or_ge mi 11 with h11 | h11
              ·
                exact (show mi = 10 by omega) ▸ xokm_10
              ·
                exact (show mi = 11 by omega) ▸ xokm_11
          ·
            rcases Nat.lt_or_ge mi 14 with h14 | h14
            ·
              rcases Nat.lt_or_ge mi 13 with h13 | h13
              ·
                exact (show mi = 12 by omega) ▸ xokm_12
              ·
                exact (show mi = 13 by omega) ▸ xokm_13
            ·
              rcases Nat.lt_or_ge mi 15 with h15 | h15
              ·
                exact (show mi = 14 by omega) ▸ xokm_14
              ·
                exact (show mi = 15 by omega) ▸ xokm_15
      ·
        rcases Nat.lt_or_ge mi 24 with h24 | h24
        ·
          rcases Nat.lt_or_ge mi 20 with h20 | h20
          ·
            rcases Nat.lt_or_ge mi 18 with h18 | h18
            ·
              rcases Nat.lt_or_ge mi 17 with h17 | h17
              ·
                exact (show mi = 16 by omega) ▸ xokm_16
              ·
                exact (show mi = 17 by omega) ▸ xokm_17
            ·
              rcases Nat.lt_or_ge mi 19 with h19 | h19
              ·
                exact (show mi = 18 by omega) ▸ xokm_18
              ·
                exact (show mi = 19 by omega) ▸ xokm_19
          ·
            rcases Nat.lt_or_ge mi 22 with h22 | h22
            ·
              rcases Nat.lt_or_ge mi 21 with h21 | h21
              ·
                exact (show mi = 20 by omega) ▸ xokm_20
              ·
                exact (show mi = 21 by omega) ▸ xokm_21
            ·
              rcases Nat.lt_or_ge mi 23 with h23 | h23
              ·
                exact (show mi = 22 by omega) ▸ xokm_22
              ·
                exact (show mi = 23 by omega) ▸ xokm_23
        ·
          rcases Nat.lt_or_ge mi 28 with h28 | h28
          ·
            rcases Nat.lt_or_ge mi 26 with h26 | h26
            ·
              rcases Nat.lt_or_ge mi 25 with h25 | h25
              ·
                exact (show mi = 24 by omega) ▸ xokm_24
              ·
                exact (show mi = 25 by omega) ▸ xokm_25
            ·
              rcases Nat.lt_or_ge mi 27 with h27 | h27
              ·
                exact (show mi = 26 by omega) ▸ xokm_26
              ·
                exact (show mi = 27 by omega) ▸ xokm_27
          ·
            rcases Nat.lt_or_ge mi 30 with h30 | h30
            ·
              rcases Nat.lt_or_ge mi 29 with h29 | h29
              ·
                exact (show mi = 28 by omega) ▸ xokm_28
              ·
                exact (show mi = 29 by omega) ▸ xokm_29
            ·
              rcases Nat.lt_or_ge mi 31 with h31 | h31
              ·
                exact (show mi = 30 by omega) ▸ xokm_30
              ·
                exact (show mi = 31 by omega) ▸ xokm_31
    ·
      rcases Nat.lt_or_ge mi 48 with h48 | h48
      ·
        rcases Nat.lt_or_ge mi 40 with h40 | h40
        ·
          rcases Nat.lt_or_ge mi 36 with h36 | h36
          ·
            rcases Nat.lt_or_ge mi 34 with h34 | h34
            ·
              rcases Nat.lt_or_ge mi 33 with h33 | h33
              ·
                exact (show mi = 32 by omega) ▸ xokm_32
              ·
                exact (show mi = 33 by omega) ▸ xokm_33
            ·
              rcases Nat.lt_or_ge mi 35 with h35 | h35
              ·
                exact (show mi = 34 by omega) ▸ xokm_34
              ·
                exact (show mi = 35 by omega) ▸ xokm_35
          ·
            rcases Nat.lt_or_ge mi 38 with h38 | h38
            ·
              rcases Nat.lt_or_ge mi 37 with h37 | h37
              ·
                exact (show mi = 36 by omega) ▸ xokm_36
              ·
                exact (show mi = 37 by omega) ▸ xokm_37
            ·
              rcases Nat.lt_or_ge mi 39 with h39 | h39
              ·
                exact (show mi = 38 by omega) ▸ xokm_38
              ·
                exact (show mi = 39 by omega) ▸ xokm_39
        ·
          rcases Nat.lt_or_ge mi 44 with h44 | h44
          ·
            rcases Nat.lt_or_ge mi 42 with h42 | h42
            ·
              rcases Nat.lt_or_ge mi 41 with h41 | h41
              ·
                exact (show mi = 40 by omega) ▸ xokm_40
              ·
                exact (show mi = 41 by omega) ▸ xokm_41
            ·
              rcases Nat.lt_or_ge mi 43 with h43 | h43
              ·
                exact (show mi = 42 by omega) ▸ xokm_42
              ·
                exact (show mi = 43 by omega) ▸ xokm_43
          ·
            rcases Nat.lt_or_ge mi 46 with h46 | h46
            ·
              rcases Nat.lt_or_ge mi 45 with h45 | h45
              ·
                exact (show mi = 44 by omega) ▸ xokm_44
              ·
                exact (show mi = 45 by omega) ▸ xokm_45
            ·
              rcases Nat.lt_or_ge mi 47 with h47 | h47
              ·
                exact (show mi = 46 by omega) ▸ xokm_46
              ·
                exact (show mi = 47 by omega) ▸ xokm_47
      ·
        rcases Nat.lt_or_ge mi 56 with h56 | h56
        ·
          rcases Nat.lt_or_ge mi 52 with h52 | h52
          ·
            rcases Nat.lt_or_ge mi 50 with h50 | h50
            ·
              rcases Nat.lt_or_ge mi 49 with h49 | h49
              ·
                exact (show mi = 48 by omega) ▸ xokm_48
              ·
                exact (show mi = 49 by omega) ▸ xokm_49
            ·
              rcases Nat.lt_or_ge mi 51 with h51 | h51
              ·
                exact (show mi = 50 by omega) ▸ xokm_50
              ·
                exact (show mi = 51 by omega) ▸ xokm_51
          ·
            rcases Nat.lt_or_ge mi 54 with h54 | h54
            ·
              rcases Nat.lt_or_ge mi 53 with h53 | h53
              ·
                exact (show mi = 52 by omega) ▸ xokm_52
              ·
                exact (show mi = 53 by omega) ▸ xokm_53
            ·
              rcases Nat.lt_or_ge mi 55 with h55 | h55
              ·
                exact (show mi = 54 by omega) ▸ xokm_54
              ·
                exact (show mi = 55 by omega) ▸ xokm_55
        ·
          rcases Nat.lt_or_ge mi 60 with h60 | h60
          ·
            rcases Nat.lt_or_ge mi 58 with h58 | h58
            ·
              rcases Nat.lt_or_ge mi 57 with h57 | h57
              ·
                exact (show mi = 56 by omega) ▸ xokm_56
              ·
                exact (show mi = 57 by omega) ▸ xokm_57
            ·
              rcases Nat.lt_or_ge mi 59 with h59 | h59
              ·
                exact (show mi = 58 by omega) ▸ xokm_58
              ·
                exact (show mi = 59 by omega) ▸ xokm_59
          ·
            rcases Nat.lt_or_ge mi 62 with h62 | h62
            ·
              rcases Nat.lt_or_ge mi 61 with h61 | h61
              ·
                exact (show mi = 60 by omega) ▸ xokm_60
              ·
                exact (show mi = 61 by omega) ▸ xokm_61
            ·
              rcases Nat.lt_or_ge mi 63 with h63 | h63
              ·
                exact (show mi = 62 by omega) ▸ xokm_62
              ·
                exact (show mi = 63 by omega) ▸ xokm_63
  ·
    rcases Nat.lt_or_ge mi 96 with h96 | h96
    ·
      rcases Nat.lt_or_ge mi 80 with h80 | h80
      ·
        rcases Nat.lt_or_ge mi 72 with h72 | h72
        ·
          rcases Nat.lt_or_ge mi 68 with h68 | h68
          ·
            rcases Nat.lt_or_ge mi 66 with h66 | h66
            ·
              rcases Nat.lt_or_ge mi 65 with h65 | h65
              ·
                exact (show mi = 64 by omega) ▸ xokm_64
              ·
                exact (show mi = 65 by omega) ▸ xokm_65
            ·
              rcases Nat.lt_or_ge mi 67 with h67 | h67
              ·
                exact (show mi = 66 by omega) ▸ xokm_66
              ·
                exact (show mi = 67 by omega) ▸ xokm_67
          ·
            rcases Nat.lt_or_ge mi 70 with h70 | h70
            ·
              rcases Nat.lt_or_ge mi 69 with h69 | h69
              ·
                exact (show mi = 68 by omega) ▸ xokm_68
              ·
                exact (show mi = 69 by omega) ▸ xokm_69
            ·
              rcases Nat.lt_or_ge mi 71 with h71 | h71
              ·
                exact (show mi = 70 by omega) ▸ xokm_70
              ·
                exact (show mi = 71 by omega) ▸ xokm_71
        ·
          rcases Nat.lt_or_ge mi 76 with h76 | h76
          ·
            rcases Nat.lt_or_ge mi 74 with h74 | h74
            ·
              rcases Nat.lt_or_ge mi 73 with h73 | h73
              ·
                exact (show mi = 72 by omega) ▸ xokm_72
              ·
                exact (show mi = 73 by omega) ▸ xokm_73
            ·
              rcases Nat.lt_or_ge mi 75 with h75 | h75
              ·
                exact (show mi = 74 by omega) ▸ xokm_74
              ·
                exact (show mi = 75 by omega) ▸ xokm_75
          ·
            rcases Nat.lt_or_ge mi 78 with h78 | h78
            ·
              rcases Nat.lt_or_ge mi 77 with h77 | h77
              ·
                exact (show mi = 76 by omega) ▸ xokm_76
              ·
                exact (show mi = 77 by omega) ▸ xokm_77
            ·
              rcases Nat.lt_or_ge mi 79 with h79 | h79
              ·
                exact (show mi = 78 by omega) ▸ xokm_78
              ·
                exact (show mi = 79 by omega) ▸ xokm_79
      ·
        rcases Nat.lt_or_ge mi 88 with h88 | h88
        ·
          rcases Nat.lt_or_ge mi 84 with h84 | h84
          ·
            rcases Nat.lt_or_ge mi 82 with h82 | h82
            ·
              rcases Nat.lt_or_ge mi 81 with h81 | h81
              ·
                exact (show mi = 80 by omega) ▸ xokm_80
              ·
                exact (show mi = 81 by omega) ▸ xokm_81
            ·
              rcases Nat.lt_or_ge mi 83 with h83 | h83
              ·
                exact (show mi = 82 by omega) ▸ xokm_82
              ·
                exact (show mi = 83 by omega) ▸ xokm_83
          ·
            rcases Nat.lt_or_ge mi 86 with h86 | h86
            ·
              rcases Nat.lt_or_ge mi 85 with h85 | h85
              ·
                exact (show mi = 84 by omega) ▸ xokm_84
              ·
                exact (show mi = 85 by omega) ▸ xokm_85
            ·
              rcases Nat.lt_or_ge mi 87 with h87 | h87
              ·
                exact (show mi = 86 by omega) ▸ xokm_86
              ·
                exact (show mi = 87 by omega) ▸ xokm_87
        ·
          rcases Nat.lt_or_ge mi 92 with h92 | h92
          ·
            rcases Nat.lt_or_ge mi 90 with h90 | h90
            ·
              rcases Nat.lt_or_ge mi 89 with h89 | h89
              ·
                exact (show mi = 88 by omega) ▸ xokm_88
              ·
                exact (show mi = 89 by omega) ▸ xokm_89
            ·
              rcases Nat.lt_or_ge mi 91 with h91 | h91
              ·
                exact (show mi = 90 by omega) ▸ xokm_90
              ·
                exact (show mi = 91 by omega) ▸ xokm_91
          ·
            rcases Nat.lt_or_ge mi 94 with h94 | h94
            ·
              rcases Nat.lt_or_ge mi 93 with h93 | h93
              ·
                exact (show mi = 92 by omega) ▸ xokm_92
              ·
                exact (show mi = 93 by omega) ▸ xokm_93
            ·
              rcases Nat.lt_or_ge mi 95 with h95 | h95
              ·
                exact (show mi = 94 by omega) ▸ xokm_94
              ·
                exact (show mi = 95 by omega) ▸ xokm_95
    ·
      rcases Nat.lt_or_ge mi 112 with h112 | h112
      ·
        rcases Nat.lt_or_ge mi 104 with h104 | h104
        ·
          rcases Nat.lt_or_ge mi 100 with h100 | h100
          ·
            rcases Nat.lt_or_ge mi 98 with h98 | h98
            ·
              rcases Nat.lt_or_ge mi 97 with h97 | h97
              ·
                exact (show mi = 96 by omega) ▸ xokm_96
              ·
                exact (show mi = 97 by omega) ▸ xokm_97
            ·
              rcases Nat.lt_or_ge mi 99 with h99 | h99
              ·
                exact (show mi = 98 by omega) ▸ xokm_98
              ·
                exact (show mi = 99 by omega) ▸ xokm_99
          ·
            rcases Nat.lt_or_ge mi 102 with h102 | h102
            ·
              rcases Nat.lt_or_ge mi 101 with h101 | h101
              ·
                exact (show mi = 100 by omega) ▸ xokm_100
              ·
                exact (show mi = 101 by omega) ▸ xokm_101
            ·
              rcases Nat.lt_or_ge mi 103 with h103 | h103
              ·
                exact (show mi = 102 by omega) ▸ xokm_102
              ·
                exact (show mi = 103 by omega) ▸ xokm_103
        ·
          rcases Nat.lt_or_ge mi 108 with h108 | h108
          ·
            rcases Nat.lt_or_ge mi 106 with h106 | h106
            ·
              rcases Nat.lt_or_ge mi 105 with h105 | h105
              ·
                exact (show mi = 104 by omega) ▸ xokm_104
              ·
                exact (show mi = 105 by omega) ▸ xokm_105
            ·
              rcases Nat.lt_or_ge mi 107 with h107 | h107
              ·
                exact (show mi = 106 by omega) ▸ xokm_106
              ·
                exact (show mi = 107 by omega) ▸ xokm_107
          ·
            rcases Nat.lt_or_ge mi 110 with h110 | h110
            ·
              rcases Nat.lt_or_ge mi 109 with h109 | h109
              ·
                exact (show mi = 108 by omega) ▸ xokm_108
              ·
                exact (show mi = 109 by omega) ▸ xokm_109
            ·
              rcases Nat.lt_or_ge mi 111 with h111 | h111
              ·
                exact (show mi = 110 by omega) ▸ xokm_110
              ·
                exact (show mi = 111 by omega) ▸ xokm_111
      ·
        rcases Nat.lt_or_ge mi 120 with h120 | h120
        ·
          rcases Nat.lt_or_ge mi 116 with h116 | h116
          ·
            rcases Nat.lt_or_ge mi 114 with h114 | h114
            ·
              rcases Nat.lt_or_ge mi 113 with h113 | h113
              ·
                exact (show mi = 112 by omega) ▸ xokm_112
              ·
                exact (show mi = 113 by omega) ▸ xokm_113
            ·
              rcases Nat.lt_or_ge mi 115 with h115 | h115
              ·
                exact (show mi = 114 by omega) ▸ xokm_114
              ·
                exact (show mi = 115 by omega) ▸ xokm_115
          ·
            rcases Nat.lt_or_ge mi 118 with h118 | h118
            ·
              rcases Nat.lt_or_ge mi 117 with h117 | h117
              ·
                exact (show mi = 116 by omega) ▸ xokm_116
              ·
                exact (show mi = 117 by omega) ▸ xokm_117
            ·
              rcases Nat.lt_or_ge mi 119 with h119 | h119
              ·
                exact (show mi = 118 by omega) ▸ xokm_118
              ·
                exact (show mi = 119 by omega) ▸ xokm_119
        ·
          rcases Nat.lt_or_ge mi 124 with h124 | h124
          ·
            rcases Nat.lt_or_ge mi 122 with h122 | h122
            ·
              rcases Nat.lt_or_ge mi 121 with h121 | h121
              ·
                exact (show mi = 120 by omega) ▸ xokm_120
              ·
                exact (show mi = 121 by omega) ▸ xokm_121
            ·
              rcases Nat.lt_or_ge mi 123 with h123 | h123
              ·
                exact (show mi = 122 by omega) ▸ xokm_122
              ·
                exact (show mi = 123 by omega) ▸ xokm_123
          ·
            rcases Nat.lt_or_ge mi 126 with h126 | h126
            ·
              rcases Nat.lt_or_ge mi 125 with h125 | h125
              ·
                exact (show mi = 124 by omega) ▸ xokm_124
              ·
                exact (show mi = 125 by omega) ▸ xokm_125
            ·
              rcases Nat.lt_or_ge mi 127 with h127 | h127
              ·
                exact (show mi = 126 by omega) ▸ xokm_126
              ·
                rcases Nat.lt_or_ge mi 128 with h128 | h128
                ·
                  exact (show mi = 127 by omega) ▸ xokm_127
                ·
                  exact (show mi = 128 by omega) ▸ xokm_128
theorem xnth_of_le {α : Type} : ∀ (l : List α) (n : Nat) (d : α), l.length ≤ n → xnth l n d = d
  | [], _, _, _ => rfl
  | _ :: t, 0, _, h => by simp at h
  | _ :: t, n + 1, d, h => xnth_of_le t n d (by simpa using h)
theorem xnth_get {α : Type} : ∀ (l : List α) (n : Nat) (d : α), xnth l n d = l.getD n d
  | [], _, _ => by simp [xnth]
  | _ :: t, 0, _ => by simp [xnth]
  | _ :: t, n + 1, d => by simp [xnth, xnth_get t n d]
set_option maxRecDepth 100000 in
theorem xlens : (List.range 129).all (fun mi => decide ((xnth xprog mi []).length ≤ xmi mi 9)) = true := by decide +kernel
theorem xins_ok (mi pc : Nat) : xokb (xy mi).cls (decide ((xy mi).name = "<init>")) (xmi mi 0) (xb mi) mi pc (xins mi pc) = true := by
  by_cases h : mi < 129
  · by_cases hp : pc < xmi mi 9
    · exact List.all_eq_true.mp (xok_all mi h) pc (List.mem_range.mpr hp)
    · have h1 := List.all_eq_true.mp xlens mi (List.mem_range.mpr h)
      have h2 : xins mi pc = (0, 0, 0, 0) := xnth_of_le _ _ _ (Nat.le_trans (of_decide_eq_true h1) (Nat.not_lt.mp hp))
      rw [h2]; rfl
  · have h1 : xnth xprog mi [] = [] := xnth_of_le _ _ _ (by have : xprog.length = 129 := rfl; omega)
    have h2 : xins mi pc = (0, 0, 0, 0) := by unfold xins; rw [h1]; rfl
    rw [h2]; rfl
theorem xwd_mem {i : Nat} {w : Jvm.Cond} (h : xwd i = some w) : w ∈ lw_tbl := List.mem_of_getElem? h
def xkp (w : Jvm.Cond) : Bool := goodWord w || (match w with
  | .fieldLinkNest .. => true
  | .methodLinkNest .. => true
  | .arrayOver _ => true
  | _ => false)
def xwl : List Jvm.Cond := lw_tbl.filter xkp
set_option maxRecDepth 100000 in
theorem xus_0 : ∀ w ∈ u_ws RX0 TX0 2, w ∈ xwl := by decide +kernel
set_option maxRecDepth 100000 in
theorem xus_1 : ∀ w ∈ u_ws RX1 TX1 3, w ∈ xwl := by decide +kernel
set_option maxRecDepth 100000 in
theorem xus_2 : ∀ w ∈ u_ws RX3 TX3 9, w ∈ xwl := by decide +kernel
set_option maxRecDepth 100000 in
theorem xus_3 : ∀ w ∈ u_ws RX4 TX4 7, w ∈ xwl := by decide +kernel
set_option maxRecDepth 100000 in
theorem xus_4 : ∀ w ∈ u_ws RX5 TX5 8, w ∈ xwl := by decide +kernel
set_option maxRecDepth 100000 in
theorem xus_5 : ∀ w ∈ u_ws RX6 TX6 3, w ∈ xwl := by decide +kernel
set_option maxRecDepth 100000 in
theorem xus_6 : ∀ w ∈ u_ws RX7 TX7 4, w ∈ xwl := by decide +kernel
set_option maxRecDepth 100000 in
theorem xus_7 : ∀ w ∈ u_ws RX8 TX8 23, w ∈ xwl := by decide +kernel
def xiw : List (Nat × Nat) := [(225, 74), (182, 71), (219, 73), (96, 69), (89, 68), (201, 72), (81, 67), (656, 75)]
theorem xiw_ok : (List.range 8).all (fun c => decide (xwd (xnth xiw c (0, 0)).1 = some (.instantiable (xCn c) (xN c))) && decide (xwd (xnth xiw c (0, 0)).2 = some (.initialized (xCn c)))) = true := by decide +kernel
set_option maxRecDepth 100000 in
theorem xw_int : xwd 134 = some (.arrayClass .int) := rfl
set_option maxRecDepth 100000 in
theorem xw_reed : xwd 95 = some (.arrayOver (.object "ReedBench$Reed")) := rfl
set_option maxRecDepth 100000 in
theorem xw_state : xwd 188 = some (.arrayOver (.object "ReedBench$State")) := rfl
set_option maxRecDepth 100000 in
theorem xw_aint : xwd 207 = some (.arrayOver (.array .int)) := rfl
set_option maxRecDepth 100000 in
theorem xw_nat : xwd 306 = some (.native arraycopyName) := rfl
set_option maxRecDepth 100000 in
theorem xw_cst : xwd 305 = some (.static arraycopyName) := rfl
set_option maxRecDepth 100000 in
theorem xw_csi : xwd 76 = some (.initialized "java/lang/System") := rfl
set_option maxRecDepth 100000 in
theorem xw_obi : xwd 86 = some (.instanceMethod objectInit) := rfl
set_option maxRecDepth 100000 in
theorem xw_obc : xwd 87 = some (.code objectInit ⟨#[0xb1]⟩ 1 none) := rfl
set_option maxRecDepth 100000 in
theorem xw_mis : xwd 308 = some (.static Lib.Math.min.name) := rfl
set_option maxRecDepth 100000 in
theorem xw_mic : xwd 309 = some (.code Lib.Math.min.name Lib.Math.min.code 2 (some .int)) := rfl
set_option maxRecDepth 100000 in
theorem xw_mas : xwd 447 = some (.static Lib.Math.max.name) := rfl
set_option maxRecDepth 100000 in
theorem xw_mac : xwd 448 = some (.code Lib.Math.max.name Lib.Math.max.code 2 (some .int)) := rfl
set_option maxRecDepth 100000 in
theorem xw_mai : xwd 77 = some (.initialized "java/lang/Math") := rfl
