set_option maxRecDepth 100000 in
theorem xokm_0 : xokm 0 = true := by decide +kernel
set_option maxRecDepth 100000 in
theorem xokm_1 : xokm 1 = true := by decide +kernel
set_option maxRecDepth 100000 in
theorem xokm_2 : xokm 2 = true := by decide +kernel
set_option maxRecDepth 100000 in
theorem xokm_3 : xokm 3 = true := by decide +kernel
set_option maxRecDepth 100000 in
theorem xokm_4 : xokm 4 = true := by decide +kernel
set_option maxRecDepth 100000 in
theorem xokm_5 : xokm 5 = true := by decide +kernel
set_option maxRecDepth 100000 in
theorem xokm_6 : xokm 6 = true := by decide +kernel
set_option maxRecDepth 100000 in
theorem xokm_7 : xokm 7 = true := by decide +kernel
set_option maxRecDepth 100000 in
theorem xokm_8 : xokm 8 = true := by decide +kernel
set_option maxRecDepth 100000 in
theorem xokm_9 : xokm 9 = true := by decide +kernel
set_option maxRecDepth 100000 in
theorem xokm_10 : xokm 10 = true := by decide +kernel
set_option maxRecDepth 100000 in
theorem xokm_11 : xokm 11 = true := by decide +kernel
set_option maxRecDepth 100000 in
theorem xokm_12 : xokm 12 = true := by decide +kernel
set_option maxRecDepth 100000 in
theorem xokm_13 : xokm 13 = true := by decide +kernel
set_option maxRecDepth 100000 in
theorem xokm_14 : xokm 14 = true := by decide +kernel
set_option maxRecDepth 100000 in
theorem xokm_15 : xokm 15 = true := by decide +kernel
set_option maxRecDepth 100000 in
theorem xokm_16 : xokm 16 = true := by decide +kernel
set_option maxRecDepth 100000 in
theorem xokm_17 : xokm 17 = true := by decide +kernel
set_option maxRecDepth 100000 in
theorem xokm_18 : xokm 18 = true := by decide +kernel
set_option maxRecDepth 100000 in
theorem xokm_19 : xokm 19 = true := by decide +kernel
set_option maxRecDepth 100000 in
theorem xokm_20 : xokm 20 = true := by decide +kernel
set_option maxRecDepth 100000 in
theorem xokm_21 : xokm 21 = true := by decide +kernel
set_option maxRecDepth 100000 in
theorem xokm_22 : xokm 22 = true := by decide +kernel
set_option maxRecDepth 100000 in
theorem xokm_23 : xokm 23 = true := by decide +kernel
set_option maxRecDepth 100000 in
theorem xokm_24 : xokm 24 = true := by decide +kernel
set_option maxRecDepth 100000 in
theorem xokm_25 : xokm 25 = true := by decide +kernel
set_option maxRecDepth 100000 in
theorem xokm_26 : xokm 26 = true := by decide +kernel
set_option maxRecDepth 100000 in
theorem xokm_27 : xokm 27 = true := by decide +kernel
set_option maxRecDepth 100000 in
theorem xokm_28 : xokm 28 = true := by decide +kernel
set_option maxRecDepth 100000 in
theorem xokm_29 : xokm 29 = true := by decide +kernel
set_option maxRecDepth 100000 in
theorem xokm_30 : xokm 30 = true := by decide +kernel
set_option maxRecDepth 100000 in
theorem xokm_31 : xokm 31 = true := by decide +kernel
set_option maxRecDepth 100000 in
theorem xokm_32 : xokm 32 = true := by decide +kernel
set_option maxRecDepth 100000 in
theorem xokm_33 : xokm 33 = true := by decide +kernel
set_option maxRecDepth 100000 in
theorem xokm_34 : xokm 34 = true := by decide +kernel
set_option maxRecDepth 100000 in
theorem xokm_35 : xokm 35 = true := by decide +kernel
set_option maxRecDepth 100000 in
theorem xokm_36 : xokm 36 = true := by decide +kernel
set_option maxRecDepth 100000 in
theorem xokm_37 : xokm 37 = true := by decide +kernel
set_option maxRecDepth 100000 in
theorem xokm_38 : xokm 38 = true := by decide +kernel
set_option maxRecDepth 100000 in
theorem xokm_39 : xokm 39 = true := by decide +kernel
set_option maxRecDepth 100000 in
theorem xokm_40 : xokm 40 = true := by decide +kernel
set_option maxRecDepth 100000 in
theorem xokm_41 : xokm 41 = true := by decide +kernel
set_option maxRecDepth 100000 in
theorem xokm_42 : xokm 42 = true := by decide +kernel
set_option maxRecDepth 100000 in
theorem xokm_43 : xokm 43 = true := by decide +kernel
set_option maxRecDepth 100000 in
theorem xokm_44 : xokm 44 = true := by decide +kernel
set_option maxRecDepth 100000 in
theorem xokm_45 : xokm 45 = true := by decide +kernel
set_option maxRecDepth 100000 in
theorem xokm_46 : xokm 46 = true := by decide +kernel
set_option maxRecDepth 100000 in
theorem xokm_47 : xokm 47 = true := by decide +kernel
set_option maxRecDepth 100000 in
theorem xokm_48 : xokm 48 = true := by decide +kernel
set_option maxRecDepth 100000 in
theorem xokm_49 : xokm 49 = true := by decide +kernel
set_option maxRecDepth 100000 in
theorem xokm_50 : xokm 50 = true := by decide +kernel
set_option maxRecDepth 100000 in
theorem xokm_51 : xokm 51 = true := by decide +kernel
set_option maxRecDepth 100000 in
theorem xokm_52 : xokm 52 = true := by decide +kernel
set_option maxRecDepth 100000 in
theorem xokm_53 : xokm 53 = true := by decide +kernel
set_option maxRecDepth 100000 in
theorem xokm_54 : xokm 54 = true := by decide +kernel
set_option maxRecDepth 100000 in
theorem xokm_55 : xokm 55 = true := by decide +kernel
set_option maxRecDepth 100000 in
theorem xokm_56 : xokm 56 = true := by decide +kernel
set_option maxRecDepth 100000 in
theorem xokm_57 : xokm 57 = true := by decide +kernel
set_option maxRecDepth 100000 in
theorem xokm_58 : xokm 58 = true := by decide +kernel
set_option maxRecDepth 100000 in
theorem xokm_59 : xokm 59 = true := by decide +kernel
set_option maxRecDepth 100000 in
theorem xokm_60 : xokm 60 = true := by decide +kernel
set_option maxRecDepth 100000 in
theorem xokm_61 : xokm 61 = true := by decide +kernel
set_option maxRecDepth 100000 in
theorem xokm_62 : xokm 62 = true := by decide +kernel
set_option maxRecDepth 100000 in
theorem xokm_63 : xokm 63 = true := by decide +kernel
set_option maxRecDepth 100000 in
theorem xokm_64 : xokm 64 = true := by decide +kernel
set_option maxRecDepth 100000 in
theorem xokm_65 : xokm 65 = true := by decide +kernel
set_option maxRecDepth 100000 in
theorem xokm_66 : xokm 66 = true := by decide +kernel
set_option maxRecDepth 100000 in
theorem xokm_67 : xokm 67 = true := by decide +kernel
set_option maxRecDepth 100000 in
theorem xokm_68 : xokm 68 = true := by decide +kernel
set_option maxRecDepth 100000 in
theorem xokm_69 : xokm 69 = true := by decide +kernel
set_option maxRecDepth 100000 in
theorem xokm_70 : xokm 70 = true := by decide +kernel
set_option maxRecDepth 100000 in
theorem xokm_71 : xokm 71 = true := by decide +kernel
set_option maxRecDepth 100000 in
theorem xokm_72 : xokm 72 = true := by decide +kernel
set_option maxRecDepth 100000 in
theorem xokm_73 : xokm 73 = true := by decide +kernel
set_option maxRecDepth 100000 in
theorem xokm_74 : xokm 74 = true := by decide +kernel
set_option maxRecDepth 100000 in
theorem xokm_75 : xokm 75 = true := by decide +kernel
set_option maxRecDepth 100000 in
theorem xokm_76 : xokm 76 = true := by decide +kernel
set_option maxRecDepth 100000 in
theorem xokm_77 : xokm 77 = true := by decide +kernel
set_option maxRecDepth 100000 in
theorem xokm_78 : xokm 78 = true := by decide +kernel
set_option maxRecDepth 100000 in
theorem xokm_79 : xokm 79 = true := by decide +kernel
set_option maxRecDepth 100000 in
theorem xokm_80 : xokm 80 = true := by decide +kernel
set_option maxRecDepth 100000 in
theorem xokm_81 : xokm 81 = true := by decide +kernel
set_option maxRecDepth 100000 in
theorem xokm_82 : xokm 82 = true := by decide +kernel
set_option maxRecDepth 100000 in
theorem xokm_83 : xokm 83 = true := by decide +kernel
set_option maxRecDepth 100000 in
theorem xokm_84 : xokm 84 = true := by decide +kernel
set_option maxRecDepth 100000 in
theorem xokm_85 : xokm 85 = true := by decide +kernel
set_option maxRecDepth 100000 in
theorem xokm_86 : xokm 86 = true := by decide +kernel
set_option maxRecDepth 100000 in
theorem xokm_87 : xokm 87 = true := by decide +kernel
set_option maxRecDepth 100000 in
theorem xokm_88 : xokm 88 = true := by decide +kernel
set_option maxRecDepth 100000 in
theorem xokm_89 : xokm 89 = true := by decide +kernel
set_option maxRecDepth 100000 in
theorem xokm_90 : xokm 90 = true := by decide +kernel
set_option maxRecDepth 100000 in
theorem xokm_91 : xokm 91 = true := by decide +kernel
set_option maxRecDepth 100000 in
theorem xokm_92 : xokm 92 = true := by decide +kernel
set_option maxRecDepth 100000 in
theorem xokm_93 : xokm 93 = true := by decide +kernel
set_option maxRecDepth 100000 in
theorem xokm_94 : xokm 94 = true := by decide +kernel
set_option maxRecDepth 100000 in
theorem xokm_95 : xokm 95 = true := by decide +kernel
set_option maxRecDepth 100000 in
theorem xokm_96 : xokm 96 = true := by decide +kernel
set_option maxRecDepth 100000 in
theorem xokm_97 : xokm 97 = true := by decide +kernel
set_option maxRecDepth 100000 in
theorem xokm_98 : xokm 98 = true := by decide +kernel
set_option maxRecDepth 100000 in
theorem xokm_99 : xokm 99 = true := by decide +kernel
set_option maxRecDepth 100000 in
theorem xokm_100 : xokm 100 = true := by decide +kernel
set_option maxRecDepth 100000 in
theorem xokm_101 : xokm 101 = true := by decide +kernel
set_option maxRecDepth 100000 in
theorem xokm_102 : xokm 102 = true := by decide +kernel
set_option maxRecDepth 100000 in
theorem xokm_103 : xokm 103 = true := by decide +kernel
set_option maxRecDepth 100000 in
theorem xokm_104 : xokm 104 = true := by decide +kernel
set_option maxRecDepth 100000 in
theorem xokm_105 : xokm 105 = true := by decide +kernel
set_option maxRecDepth 100000 in
theorem xokm_106 : xokm 106 = true := by decide +kernel
set_option maxRecDepth 100000 in
theorem xokm_107 : xokm 107 = true := by decide +kernel
set_option maxRecDepth 100000 in
theorem xokm_108 : xokm 108 = true := by decide +kernel
set_option maxRecDepth 100000 in
theorem xokm_109 : xokm 109 = true := by decide +kernel
set_option maxRecDepth 100000 in
theorem xokm_110 : xokm 110 = true := by decide +kernel
set_option maxRecDepth 100000 in
theorem xokm_111 : xokm 111 = true := by decide +kernel
set_option maxRecDepth 100000 in
theorem xokm_112 : xokm 112 = true := by decide +kernel
set_option maxRecDepth 100000 in
theorem xokm_113 : xokm 113 = true := by decide +kernel
set_option maxRecDepth 100000 in
theorem xokm_114 : xokm 114 = true := by decide +kernel
set_option maxRecDepth 100000 in
theorem xokm_115 : xokm 115 = true := by decide +kernel
set_option maxRecDepth 100000 in
theorem xokm_116 : xokm 116 = true := by decide +kernel
set_option maxRecDepth 100000 in
theorem xokm_117 : xokm 117 = true := by decide +kernel
set_option maxRecDepth 100000 in
theorem xokm_118 : xokm 118 = true := by decide +kernel
set_option maxRecDepth 100000 in
theorem xokm_119 : xokm 119 = true := by decide +kernel
set_option maxRecDepth 100000 in
theorem xokm_120 : xokm 120 = true := by decide +kernel
set_option maxRecDepth 100000 in
theorem xokm_121 : xokm 121 = true := by decide +kernel
set_option maxRecDepth 100000 in
theorem xokm_122 : xokm 122 = true := by decide +kernel
set_option maxRecDepth 100000 in
theorem xokm_123 : xokm 123 = true := by decide +kernel
set_option maxRecDepth 100000 in
theorem xokm_124 : xokm 124 = true := by decide +kernel
set_option maxRecDepth 100000 in
theorem xokm_125 : xokm 125 = true := by decide +kernel
set_option maxRecDepth 100000 in
theorem xokm_126 : xokm 126 = true := by decide +kernel
set_option maxRecDepth 100000 in
theorem xokm_127 : xokm 127 = true := by decide +kernel
set_option maxRecDepth 100000 in
theorem xokm_128 : xokm 128 = true := by decide +kernel
