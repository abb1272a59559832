/-! ===== the shapes behind the constructors ===== -/
def SHL (L : Nat) : List xC := [(0, 0, fun _ => 0), (5, L, fun _ => 0), (5, 24, fun _ => 0), (16, 4, fun i => xnth [4, 21, 125, 141] i 0), (14, 8, fun i => xnth [5, 6, 7, 8] i 0), (2, 12, fun i => xnth [9, 10, 11, 12, 13, 14, 15, 16, 17, 18, 19, 20] i 0), (1, 8, fun _ => 0), (1, 4, fun _ => 0), (1, 4, fun _ => 0), (13, 7, fun _ => 0), (13, 7, fun _ => 0), (13, 7, fun _ => 0), (13, 7, fun _ => 0), (13, 7, fun _ => 0), (13, 7, fun _ => 0), (13, 7, fun _ => 0), (13, 7, fun _ => 0), (13, 7, fun _ => 0), (13, 7, fun _ => 0), (13, 7, fun _ => 0), (13, 7, fun _ => 0), (11, 3, fun i => xnth [22] i 0), (3, 6, fun i => xnth [23, 40, 57, 74, 91, 108] i 0), (14, 8, fun i => xnth [24, 25, 26, 27] i 0), (2, 12, fun i => xnth [28, 29, 30, 31, 32, 33, 34, 35, 36, 37, 38, 39] i 0), (1, 8, fun _ => 0), (1, 4, fun _ => 0), (1, 4, fun _ => 0), (13, 7, fun _ => 0), (13, 7, fun _ => 0), (13, 7, fun _ => 0), (13, 7, fun _ => 0), (13, 7, fun _ => 0), (13, 7, fun _ => 0), (13, 7, fun _ => 0), (13, 7, fun _ => 0), (13, 7, fun _ => 0), (13, 7, fun _ => 0), (13, 7, fun _ => 0), (13, 7, fun _ => 0), (14, 8, fun i => xnth [41, 42, 43, 44] i 0), (2, 12, fun i => xnth [45, 46, 47, 48, 49, 50, 51, 52, 53, 54, 55, 56] i 0), (1, 8, fun _ => 0), (1, 4, fun _ => 0), (1, 4, fun _ => 0), (13, 7, fun _ => 0), (13, 7, fun _ => 0), (13, 7, fun _ => 0), (13, 7, fun _ => 0), (13, 7, fun _ => 0), (13, 7, fun _ => 0), (13, 7, fun _ => 0), (13, 7, fun _ => 0), (13, 7, fun _ => 0), (13, 7, fun _ => 0), (13, 7, fun _ => 0), (13, 7, fun _ => 0), (14, 8, fun i => xnth [58, 59, 60, 61] i 0), (2, 12, fun i => xnth [62, 63, 64, 65, 66, 67, 68, 69, 70, 71, 72, 73] i 0), (1, 8, fun _ => 0), (1, 4, fun _ => 0), (1, 4, fun _ => 0), (13, 7, fun _ => 0), (13, 7, fun _ => 0), (13, 7, fun _ => 0), (13, 7, fun _ => 0), (13, 7, fun _ => 0), (13, 7, fun _ => 0), (13, 7, fun _ => 0), (13, 7, fun _ => 0), (13, 7, fun _ => 0), (13, 7, fun _ => 0), (13, 7, fun _ => 0), (13, 7, fun _ => 0), (14, 8, fun i => xnth [75, 76, 77, 78] i 0), (2, 12, fun i => xnth [79, 80, 81, 82, 83, 84, 85, 86, 87, 88, 89, 90] i 0), (1, 8, fun _ => 0), (1, 4, fun _ => 0), (1, 4, fun _ => 0), (13, 7, fun _ => 0), (13, 7, fun _ => 0), (13, 7, fun _ => 0), (13, 7, fun _ => 0), (13, 7, fun _ => 0), (13, 7, fun _ => 0), (13, 7, fun _ => 0), (13, 7, fun _ => 0), (13, 7, fun _ => 0), (13, 7, fun _ => 0), (13, 7, fun _ => 0), (13, 7, fun _ => 0), (14, 8, fun i => xnth [92, 93, 94, 95] i 0), (2, 12, fun i => xnth [96, 97, 98, 99, 100, 101, 102, 103, 104, 105, 106, 107] i 0), (1, 8, fun _ => 0), (1, 4, fun _ => 0), (1, 4, fun _ => 0), (13, 7, fun _ => 0), (13, 7, fun _ => 0), (13, 7, fun _ => 0), (13, 7, fun _ => 0), (13, 7, fun _ => 0), (13, 7, fun _ => 0), (13, 7, fun _ => 0), (13, 7, fun _ => 0), (13, 7, fun _ => 0), (13, 7, fun _ => 0), (13, 7, fun _ => 0), (13, 7, fun _ => 0), (14, 8, fun i => xnth [109, 110, 111, 112] i 0), (2, 12, fun i => xnth [113, 114, 115, 116, 117, 118, 119, 120, 121, 122, 123, 124] i 0), (1, 8, fun _ => 0), (1, 4, fun _ => 0), (1, 4, fun _ => 0), (13, 7, fun _ => 0), (13, 7, fun _ => 0), (13, 7, fun _ => 0), (13, 7, fun _ => 0), (13, 7, fun _ => 0), (13, 7, fun _ => 0), (13, 7, fun _ => 0), (13, 7, fun _ => 0), (13, 7, fun _ => 0), (13, 7, fun _ => 0), (13, 7, fun _ => 0), (13, 7, fun _ => 0), (15, 3, fun i => xnth [126, 139, 140] i 0), (4, 12, fun i => 127 + i), (1, 101, fun _ => 0), (1, 101, fun _ => 0), (1, 101, fun _ => 0), (1, 101, fun _ => 0), (1, 101, fun _ => 0), (1, 101, fun _ => 0), (1, 101, fun _ => 0), (1, 101, fun _ => 0), (1, 101, fun _ => 0), (1, 101, fun _ => 0), (1, 101, fun _ => 0), (1, 101, fun _ => 0), (1, 101, fun _ => 0), (1, 101, fun _ => 0), (12, 9, fun i => xnth [142, 145, 146, 147, 148] i 0), (10, 2, fun i => xnth [143, 144] i 0), (1, 96, fun _ => 0), (1, 576, fun _ => 0), (1, 4096, fun _ => 0), (1, 4096, fun _ => 0), (1, 8, fun _ => 0), (1, 8, fun _ => 0), (17, 23, fun i => xnth [0, 150, 151, 0, 0, 152, 153, 154, 155, 156, 0, 0, 0, 0, 0, 0, 157, 158, 159, 160, 0, 0, 161] i 0), (1, 112, fun _ => 0), (1, 672, fun _ => 0), (1, 8, fun _ => 0), (1, 8, fun _ => 0), (1, 8, fun _ => 0), (1, 202, fun _ => 0), (1, 202, fun _ => 0), (1, 96, fun _ => 0), (1, 576, fun _ => 0), (1, 20480, fun _ => 0), (1, 20480, fun _ => 0), (1, 8, fun _ => 0)]
section SH
variable {L : Nat}
theorem kd_0 : xkd (SHL L) 0 = 0 := rfl
theorem kd_1 : xkd (SHL L) 1 = 5 := rfl
theorem ln_1 : xln (SHL L) 1 = L := rfl
theorem kd_2 : xkd (SHL L) 2 = 5 := rfl
theorem ln_2 : xln (SHL L) 2 = 24 := rfl
theorem kd_3 : xkd (SHL L) 3 = 16 := rfl
theorem rr_3_0 : xrr (SHL L) 3 0 = 4 := rfl
theorem rr_3_1 : xrr (SHL L) 3 1 = 21 := rfl
theorem rr_3_2 : xrr (SHL L) 3 2 = 125 := rfl
theorem rr_3_3 : xrr (SHL L) 3 3 = 141 := rfl
theorem kd_4 : xkd (SHL L) 4 = 14 := rfl
theorem rr_4_0 : xrr (SHL L) 4 0 = 5 := rfl
theorem rr_4_1 : xrr (SHL L) 4 1 = 6 := rfl
theorem rr_4_2 : xrr (SHL L) 4 2 = 7 := rfl
theorem rr_4_3 : xrr (SHL L) 4 3 = 8 := rfl
theorem kd_5 : xkd (SHL L) 5 = 2 := rfl
theorem ln_5 : xln (SHL L) 5 = 12 := rfl
theorem kd_6 : xkd (SHL L) 6 = 1 := rfl
theorem ln_6 : xln (SHL L) 6 = 8 := rfl
theorem kd_7 : xkd (SHL L) 7 = 1 := rfl
theorem ln_7 : xln (SHL L) 7 = 4 := rfl
theorem kd_8 : xkd (SHL L) 8 = 1 := rfl
theorem ln_8 : xln (SHL L) 8 = 4 := rfl
theorem kd_9 : xkd (SHL L) 9 = 13 := rfl
theorem kd_10 : xkd (SHL L) 10 = 13 := rfl
theorem kd_11 : xkd (SHL L) 11 = 13 := rfl
theorem kd_12 : xkd (SHL L) 12 = 13 := rfl
theorem kd_13 : xkd (SHL L) 13 = 13 := rfl
theorem kd_14 : xkd (SHL L) 14 = 13 := rfl
theorem kd_15 : xkd (SHL L) 15 = 13 := rfl
theorem kd_16 : xkd (SHL L) 16 = 13 := rfl
theorem kd_17 : xkd (SHL L) 17 = 13 := rfl
theorem kd_18 : xkd (SHL L) 18 = 13 := rfl
theorem kd_19 : xkd (SHL L) 19 = 13 := rfl
theorem kd_20 : xkd (SHL L) 20 = 13 := rfl
theorem kd_21 : xkd (SHL L) 21 = 11 := rfl
theorem rr_21_0 : xrr (SHL L) 21 0 = 22 := rfl
theorem kd_22 : xkd (SHL L) 22 = 3 := rfl
theorem ln_22 : xln (SHL L) 22 = 6 := rfl
theorem kd_23 : xkd (SHL L) 23 = 14 := rfl
theorem rr_23_0 : xrr (SHL L) 23 0 = 24 := rfl
theorem rr_23_1 : xrr (SHL L) 23 1 = 25 := rfl
theorem rr_23_2 : xrr (SHL L) 23 2 = 26 := rfl
theorem rr_23_3 : xrr (SHL L) 23 3 = 27 := rfl
theorem kd_24 : xkd (SHL L) 24 = 2 := rfl
theorem ln_24 : xln (SHL L) 24 = 12 := rfl
theorem kd_25 : xkd (SHL L) 25 = 1 := rfl
theorem ln_25 : xln (SHL L) 25 = 8 := rfl
theorem kd_26 : xkd (SHL L) 26 = 1 := rfl
theorem ln_26 : xln (SHL L) 26 = 4 := rfl
theorem kd_27 : xkd (SHL L) 27 = 1 := rfl
theorem ln_27 : xln (SHL L) 27 = 4 := rfl
theorem kd_28 : xkd (SHL L) 28 = 13 := rfl
theorem kd_29 : xkd (SHL L) 29 = 13 := rfl
theorem kd_30 : xkd (SHL L) 30 = 13 := rfl
theorem kd_31 : xkd (SHL L) 31 = 13 := rfl
theorem kd_32 : xkd (SHL L) 32 = 13 := rfl
theorem kd_33 : xkd (SHL L) 33 = 13 := rfl
theorem kd_34 : xkd (SHL L) 34 = 13 := rfl
theorem kd_35 : xkd (SHL L) 35 = 13 := rfl
theorem kd_36 : xkd (SHL L) 36 = 13 := rfl
theorem kd_37 : xkd (SHL L) 37 = 13 := rfl
theorem kd_38 : xkd (SHL L) 38 = 13 := rfl
theorem kd_39 : xkd (SHL L) 39 = 13 := rfl
theorem kd_40 : xkd (SHL L) 40 = 14 := rfl
theorem rr_40_0 : xrr (SHL L) 40 0 = 41 := rfl
theorem rr_40_1 : xrr (SHL L) 40 1 = 42 := rfl
theorem rr_40_2 : xrr (SHL L) 40 2 = 43 := rfl
theorem rr_40_3 : xrr (SHL L) 40 3 = 44 := rfl
theorem kd_41 : xkd (SHL L) 41 = 2 := rfl
theorem ln_41 : xln (SHL L) 41 = 12 := rfl
theorem kd_42 : xkd (SHL L) 42 = 1 := rfl
theorem ln_42 : xln (SHL L) 42 = 8 := rfl
theorem kd_43 : xkd (SHL L) 43 = 1 := rfl
theorem ln_43 : xln (SHL L) 43 = 4 := rfl
theorem kd_44 : xkd (SHL L) 44 = 1 := rfl
theorem ln_44 : xln (SHL L) 44 = 4 := rfl
theorem kd_45 : xkd (SHL L) 45 = 13 := rfl
theorem kd_46 : xkd (SHL L) 46 = 13 := rfl
theorem kd_47 : xkd (SHL L) 47 = 13 := rfl
theorem kd_48 : xkd (SHL L) 48 = 13 := rfl
theorem kd_49 : xkd (SHL L) 49 = 13 := rfl
theorem kd_50 : xkd (SHL L) 50 = 13 := rfl
theorem kd_51 : xkd (SHL L) 51 = 13 := rfl
theorem kd_52 : xkd (SHL L) 52 = 13 := rfl
theorem kd_53 : xkd (SHL L) 53 = 13 := rfl
theorem kd_54 : xkd (SHL L) 54 = 13 := rfl
theorem kd_55 : xkd (SHL L) 55 = 13 := rfl
theorem kd_56 : xkd (SHL L) 56 = 13 := rfl
theorem kd_57 : xkd (SHL L) 57 = 14 := rfl
theorem rr_57_0 : xrr (SHL L) 57 0 = 58 := rfl
theorem rr_57_1 : xrr (SHL L) 57 1 = 59 := rfl
theorem rr_57_2 : xrr (SHL L) 57 2 = 60 := rfl
theorem rr_57_3 : xrr (SHL L) 57 3 = 61 := rfl
theorem kd_58 : xkd (SHL L) 58 = 2 := rfl
theorem ln_58 : xln (SHL L) 58 = 12 := rfl
theorem kd_59 : xkd (SHL L) 59 = 1 := rfl
theorem ln_59 : xln (SHL L) 59 = 8 := rfl
theorem kd_60 : xkd (SHL L) 60 = 1 := rfl
theorem ln_60 : xln (SHL L) 60 = 4 := rfl
theorem kd_61 : xkd (SHL L) 61 = 1 := rfl
theorem ln_61 : xln (SHL L) 61 = 4 := rfl
theorem kd_62 : xkd (SHL L) 62 = 13 := rfl
theorem kd_63 : xkd (SHL L) 63 = 13 := rfl
theorem kd_64 : xkd (SHL L) 64 = 13 := rfl
theorem kd_65 : xkd (SHL L) 65 = 13 := rfl
theorem kd_66 : xkd (SHL L) 66 = 13 := rfl
theorem kd_67 : xkd (SHL L) 67 = 13 := rfl
theorem kd_68 : xkd (SHL L) 68 = 13 := rfl
theorem kd_69 : xkd (SHL L) 69 = 13 := rfl
theorem kd_70 : xkd (SHL L) 70 = 13 := rfl
theorem kd_71 : xkd (SHL L) 71 = 13 := rfl
theorem kd_72 : xkd (SHL L) 72 = 13 := rfl
theorem kd_73 : xkd (SHL L) 73 = 13 := rfl
theorem kd_74 : xkd (SHL L) 74 = 14 := rfl
theorem rr_74_0 : xrr (SHL L) 74 0 = 75 := rfl
theorem rr_74_1 : xrr (SHL L) 74 1 = 76 := rfl
theorem rr_74_2 : xrr (SHL L) 74 2 = 77 := rfl
theorem rr_74_3 : xrr (SHL L) 74 3 = 78 := rfl
theorem kd_75 : xkd (SHL L) 75 = 2 := rfl
theorem ln_75 : xln (SHL L) 75 = 12 := rfl
theorem kd_76 : xkd (SHL L) 76 = 1 := rfl
theorem ln_76 : xln (SHL L) 76 = 8 := rfl
theorem kd_77 : xkd (SHL L) 77 = 1 := rfl
theorem ln_77 : xln (SHL L) 77 = 4 := rfl
theorem kd_78 : xkd (SHL L) 78 = 1 := rfl
theorem ln_78 : xln (SHL L) 78 = 4 := rfl
theorem kd_79 : xkd (SHL L) 79 = 13 := rfl
theorem kd_80 : xkd (SHL L) 80 = 13 := rfl
theorem kd_81 : xkd (SHL L) 81 = 13 := rfl
theorem kd_82 : xkd (SHL L) 82 = 13 := rfl
theorem kd_83 : xkd (SHL L) 83 = 13 := rfl
theorem kd_84 : xkd (SHL L) 84 = 13 := rfl
theorem kd_85 : xkd (SHL L) 85 = 13 := rfl
theorem kd_86 : xkd (SHL L) 86 = 13 := rfl
theorem kd_87 : xkd (SHL L) 87 = 13 := rfl
theorem kd_88 : xkd (SHL L) 88 = 13 := rfl
theorem kd_89 : xkd (SHL L) 89 = 13 := rfl
theorem kd_90 : xkd (SHL L) 90 = 13 := rfl
theorem kd_91 : xkd (SHL L) 91 = 14 := rfl
theorem rr_91_0 : xrr (SHL L) 91 0 = 92 := rfl
theorem rr_91_1 : xrr (SHL L) 91 1 = 93 := rfl
theorem rr_91_2 : xrr (SHL L) 91 2 = 94 := rfl
theorem rr_91_3 : xrr (SHL L) 91 3 = 95 := rfl
theorem kd_92 : xkd (SHL L) 92 = 2 := rfl
theorem ln_92 : xln (SHL L) 92 = 12 := rfl
theorem kd_93 : xkd (SHL L) 93 = 1 := rfl
theorem ln_93 : xln (SHL L) 93 = 8 := rfl
theorem kd_94 : xkd (SHL L) 94 = 1 := rfl
theorem ln_94 : xln (SHL L) 94 = 4 := rfl
theorem kd_95 : xkd (SHL L) 95 = 1 := rfl
theorem ln_95 : xln (SHL L) 95 = 4 := rfl
theorem kd_96 : xkd (SHL L) 96 = 13 := rfl
theorem kd_97 : xkd (SHL L) 97 = 13 := rfl
theorem kd_98 : xkd (SHL L) 98 = 13 := rfl
theorem kd_99 : xkd (SHL L) 99 = 13 := rfl
theorem kd_100 : xkd (SHL L) 100 = 13 := rfl
theorem kd_101 : xkd (SHL L) 101 = 13 := rfl
theorem kd_102 : xkd (SHL L) 102 = 13 := rfl
theorem kd_103 : xkd (SHL L) 103 = 13 := rfl
theorem kd_104 : xkd (SHL L) 104 = 13 := rfl
theorem kd_105 : xkd (SHL L) 105 = 13 := rfl
theorem kd_106 : xkd (SHL L) 106 = 13 := rfl
theorem kd_107 : xkd (SHL L) 107 = 13 := rfl
theorem kd_108 : xkd (SHL L) 108 = 14 := rfl
theorem rr_108_0 : xrr (SHL L) 108 0 = 109 := rfl
theorem rr_108_1 : xrr (SHL L) 108 1 = 110 := rfl
theorem rr_108_2 : xrr (SHL L) 108 2 = 111 := rfl
theorem rr_108_3 : xrr (SHL L) 108 3 = 112 := rfl
theorem kd_109 : xkd (SHL L) 109 = 2 := rfl
theorem ln_109 : xln (SHL L) 109 = 12 := rfl
theorem kd_110 : xkd (SHL L) 110 = 1 := rfl
theorem ln_110 : xln (SHL L) 110 = 8 := rfl
theorem kd_111 : xkd (SHL L) 111 = 1 := rfl
theorem ln_111 : xln (SHL L) 111 = 4 := rfl
theorem kd_112 : xkd (SHL L) 112 = 1 := rfl
theorem ln_112 : xln (SHL L) 112 = 4 := rfl
theorem kd_113 : xkd (SHL L) 113 = 13 := rfl
theorem kd_114 : xkd (SHL L) 114 = 13 := rfl
theorem kd_115 : xkd (SHL L) 115 = 13 := rfl
theorem kd_116 : xkd (SHL L) 116 = 13 := rfl
theorem kd_117 : xkd (SHL L) 117 = 13 := rfl
theorem kd_118 : xkd (SHL L) 118 = 13 := rfl
theorem kd_119 : xkd (SHL L) 119 = 13 := rfl
theorem kd_120 : xkd (SHL L) 120 = 13 := rfl
theorem kd_121 : xkd (SHL L) 121 = 13 := rfl
theorem kd_122 : xkd (SHL L) 122 = 13 := rfl
theorem kd_123 : xkd (SHL L) 123 = 13 := rfl
theorem kd_124 : xkd (SHL L) 124 = 13 := rfl
theorem kd_125 : xkd (SHL L) 125 = 15 := rfl
theorem rr_125_0 : xrr (SHL L) 125 0 = 126 := rfl
theorem rr_125_1 : xrr (SHL L) 125 1 = 139 := rfl
theorem rr_125_2 : xrr (SHL L) 125 2 = 140 := rfl
theorem kd_126 : xkd (SHL L) 126 = 4 := rfl
theorem ln_126 : xln (SHL L) 126 = 12 := rfl
theorem kd_127 : xkd (SHL L) 127 = 1 := rfl
theorem ln_127 : xln (SHL L) 127 = 101 := rfl
theorem kd_128 : xkd (SHL L) 128 = 1 := rfl
theorem ln_128 : xln (SHL L) 128 = 101 := rfl
theorem kd_129 : xkd (SHL L) 129 = 1 := rfl
theorem ln_129 : xln (SHL L) 129 = 101 := rfl
theorem kd_130 : xkd (SHL L) 130 = 1 := rfl
theorem ln_130 : xln (SHL L) 130 = 101 := rfl
theorem kd_131 : xkd (SHL L) 131 = 1 := rfl
theorem ln_131 : xln (SHL L) 131 = 101 := rfl
theorem kd_132 : xkd (SHL L) 132 = 1 := rfl
theorem ln_132 : xln (SHL L) 132 = 101 := rfl
theorem kd_133 : xkd (SHL L) 133 = 1 := rfl
theorem ln_133 : xln (SHL L) 133 = 101 := rfl
theorem kd_134 : xkd (SHL L) 134 = 1 := rfl
theorem ln_134 : xln (SHL L) 134 = 101 := rfl
theorem kd_135 : xkd (SHL L) 135 = 1 := rfl
theorem ln_135 : xln (SHL L) 135 = 101 := rfl
theorem kd_136 : xkd (SHL L) 136 = 1 := rfl
theorem ln_136 : xln (SHL L) 136 = 101 := rfl
theorem kd_137 : xkd (SHL L) 137 = 1 := rfl
theorem ln_137 : xln (SHL L) 137 = 101 := rfl
theorem kd_138 : xkd (SHL L) 138 = 1 := rfl
theorem ln_138 : xln (SHL L) 138 = 101 := rfl
theorem kd_139 : xkd (SHL L) 139 = 1 := rfl
theorem ln_139 : xln (SHL L) 139 = 101 := rfl
theorem kd_140 : xkd (SHL L) 140 = 1 := rfl
theorem ln_140 : xln (SHL L) 140 = 101 := rfl
theorem kd_141 : xkd (SHL L) 141 = 12 := rfl
theorem rr_141_0 : xrr (SHL L) 141 0 = 142 := rfl
theorem rr_141_1 : xrr (SHL L) 141 1 = 145 := rfl
theorem rr_141_2 : xrr (SHL L) 141 2 = 146 := rfl
theorem rr_141_3 : xrr (SHL L) 141 3 = 147 := rfl
theorem rr_141_4 : xrr (SHL L) 141 4 = 148 := rfl
theorem kd_142 : xkd (SHL L) 142 = 10 := rfl
theorem rr_142_0 : xrr (SHL L) 142 0 = 143 := rfl
theorem rr_142_1 : xrr (SHL L) 142 1 = 144 := rfl
theorem kd_143 : xkd (SHL L) 143 = 1 := rfl
theorem ln_143 : xln (SHL L) 143 = 96 := rfl
theorem kd_144 : xkd (SHL L) 144 = 1 := rfl
theorem ln_144 : xln (SHL L) 144 = 576 := rfl
theorem kd_145 : xkd (SHL L) 145 = 1 := rfl
theorem ln_145 : xln (SHL L) 145 = 4096 := rfl
theorem kd_146 : xkd (SHL L) 146 = 1 := rfl
theorem ln_146 : xln (SHL L) 146 = 4096 := rfl
theorem kd_147 : xkd (SHL L) 147 = 1 := rfl
theorem ln_147 : xln (SHL L) 147 = 8 := rfl
theorem kd_148 : xkd (SHL L) 148 = 1 := rfl
theorem ln_148 : xln (SHL L) 148 = 8 := rfl
theorem kd_149 : xkd (SHL L) 149 = 17 := rfl
theorem rr_149_1 : xrr (SHL L) 149 1 = 150 := rfl
theorem rr_149_2 : xrr (SHL L) 149 2 = 151 := rfl
theorem rr_149_5 : xrr (SHL L) 149 5 = 152 := rfl
theorem rr_149_6 : xrr (SHL L) 149 6 = 153 := rfl
theorem rr_149_7 : xrr (SHL L) 149 7 = 154 := rfl
theorem rr_149_8 : xrr (SHL L) 149 8 = 155 := rfl
theorem rr_149_9 : xrr (SHL L) 149 9 = 156 := rfl
theorem rr_149_16 : xrr (SHL L) 149 16 = 157 := rfl
theorem rr_149_17 : xrr (SHL L) 149 17 = 158 := rfl
theorem rr_149_18 : xrr (SHL L) 149 18 = 159 := rfl
theorem rr_149_19 : xrr (SHL L) 149 19 = 160 := rfl
theorem rr_149_22 : xrr (SHL L) 149 22 = 161 := rfl
theorem kd_150 : xkd (SHL L) 150 = 1 := rfl
theorem ln_150 : xln (SHL L) 150 = 112 := rfl
theorem kd_151 : xkd (SHL L) 151 = 1 := rfl
theorem ln_151 : xln (SHL L) 151 = 672 := rfl
theorem kd_152 : xkd (SHL L) 152 = 1 := rfl
theorem ln_152 : xln (SHL L) 152 = 8 := rfl
theorem kd_153 : xkd (SHL L) 153 = 1 := rfl
theorem ln_153 : xln (SHL L) 153 = 8 := rfl
theorem kd_154 : xkd (SHL L) 154 = 1 := rfl
theorem ln_154 : xln (SHL L) 154 = 8 := rfl
theorem kd_155 : xkd (SHL L) 155 = 1 := rfl
theorem ln_155 : xln (SHL L) 155 = 202 := rfl
theorem kd_156 : xkd (SHL L) 156 = 1 := rfl
theorem ln_156 : xln (SHL L) 156 = 202 := rfl
theorem kd_157 : xkd (SHL L) 157 = 1 := rfl
theorem ln_157 : xln (SHL L) 157 = 96 := rfl
theorem kd_158 : xkd (SHL L) 158 = 1 := rfl
theorem ln_158 : xln (SHL L) 158 = 576 := rfl
theorem kd_159 : xkd (SHL L) 159 = 1 := rfl
theorem ln_159 : xln (SHL L) 159 = 20480 := rfl
theorem kd_160 : xkd (SHL L) 160 = 1 := rfl
theorem ln_160 : xln (SHL L) 160 = 20480 := rfl
theorem kd_161 : xkd (SHL L) 161 = 1 := rfl
theorem ln_161 : xln (SHL L) 161 = 8 := rfl
theorem x12 {P : Nat → Prop} (h : P 0 ∧ P 1 ∧ P 2 ∧ P 3 ∧ P 4 ∧ P 5 ∧ P 6 ∧ P 7 ∧ P 8 ∧ P 9 ∧ P 10 ∧ P 11) : ∀ r, r < 12 → P r := by
  intro r hr
  obtain ⟨h0, h1, h2, h3, h4, h5, h6, h7, h8, h9, h10, h11⟩ := h
  rcases (show r = 0 ∨ r = 1 ∨ r = 2 ∨ r = 3 ∨ r = 4 ∨ r = 5 ∨ r = 6 ∨ r = 7 ∨ r = 8 ∨ r = 9 ∨ r = 10 ∨ r = 11 by omega) with rfl | rfl | rfl | rfl | rfl | rfl | rfl | rfl | rfl | rfl | rfl | rfl <;> assumption
theorem x6 {P : Nat → Prop} (h : P 0 ∧ P 1 ∧ P 2 ∧ P 3 ∧ P 4 ∧ P 5) : ∀ r, r < 6 → P r := by
  intro r hr
  obtain ⟨h0, h1, h2, h3, h4, h5⟩ := h
  rcases (show r = 0 ∨ r = 1 ∨ r = 2 ∨ r = 3 ∨ r = 4 ∨ r = 5 by omega) with rfl | rfl | rfl | rfl | rfl | rfl <;> assumption
theorem kd_reed : ∀ r, r < 12 → xkd (SHL L) (9 + r) = 13 := x12 ⟨rfl, rfl, rfl, rfl, rfl, rfl, rfl, rfl, rfl, rfl, rfl, rfl⟩
theorem rr_reed : ∀ r, r < 12 → xrr (SHL L) 5 r = 9 + r := x12 ⟨rfl, rfl, rfl, rfl, rfl, rfl, rfl, rfl, rfl, rfl, rfl, rfl⟩
theorem kd_first : ∀ r, r < 12 → xkd (SHL L) (127 + r) = 1 := x12 ⟨rfl, rfl, rfl, rfl, rfl, rfl, rfl, rfl, rfl, rfl, rfl, rfl⟩
theorem ln_first : ∀ r, r < 12 → xln (SHL L) (127 + r) = 101 := x12 ⟨rfl, rfl, rfl, rfl, rfl, rfl, rfl, rfl, rfl, rfl, rfl, rfl⟩
theorem rr_first : ∀ r, r < 12 → xrr (SHL L) 126 r = 127 + r := x12 ⟨rfl, rfl, rfl, rfl, rfl, rfl, rfl, rfl, rfl, rfl, rfl, rfl⟩
theorem rr_ring : ∀ t, t < 6 → xrr (SHL L) 22 t = 23 + 17 * t := x6 ⟨rfl, rfl, rfl, rfl, rfl, rfl⟩
theorem kd_ring : ∀ t, t < 6 → xkd (SHL L) (23 + 17 * t) = 14 := x6 ⟨rfl, rfl, rfl, rfl, rfl, rfl⟩
end SH
