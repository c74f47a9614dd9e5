/-! THE CELLS of the class and of the reference, by numbers. -/
def zsh : List MSh := [.inl (11, [0, 2, 2, 2, 2, 2, 0, 0, 0, 0, 0, 0, 0, 0, 0, 0, 0, 0, 2, 2, 2, 0, 0, 0, 2, 2, 0, 2, 2, 2, 2, 2, 2, 2, 2, 2]), .inr (0, 6), .inr (0, 1734), .inr (2, 2), .inr (0, 400), .inr (0, 477), .inr (0, 42), .inr (0, 504), .inr (2, 220), .inr (2, 8), .inr (2, 8), .inr (1, 5), .inr (1, 8), .inr (1, 8), .inr (0, 13000), .inr (0, 13000), .inr (0, 40), .inr (0, 4), .inr (0, 4), .inr (1, 160), .inl (10, [2, 0, 2, 2, 2, 2, 2, 2, 0, 2, 2, 2, 2, 2, 2, 2]), .inr (3, 400), .inr (2, 2), .inr (1, 256), .inr (0, 40), .inr (0, 6), .inr (5, 2), .inr (4, 4), .inl (3, [2, 2, 0, 0, 3, 0, 0, 0, 0, 0, 0]), .inr (3, 0), .inl (6, [0, 0, 2, 2, 2, 2, 0, 0, 0, 0, 0, 0]), .inr (0, 8), .inr (0, 8), .inr (0, 8), .inr (0, 8), .inl (6, [0, 0, 2, 2, 2, 2, 0, 0, 0, 0, 0, 0]), .inr (0, 8), .inr (0, 8), .inr (0, 8), .inr (0, 8), .inl (6, [0, 0, 2, 2, 2, 2, 0, 0, 0, 0, 0, 0]), .inr (0, 8), .inr (0, 8), .inr (0, 8), .inr (0, 8), .inl (6, [0, 0, 2, 2, 2, 2, 0, 0, 0, 0, 0, 0]), .inr (0, 8), .inr (0, 8), .inr (0, 8), .inr (0, 8), .inl (6, [0, 0, 2, 2, 2, 2, 0, 0, 0, 0, 0, 0]), .inr (0, 8), .inr (0, 8), .inr (0, 8), .inr (0, 8), .inl (1, [0, 2, 2, 2, 0]), .inr (0, 12), .inr (0, 12), .inr (0, 400), .inl (1, [0, 2, 2, 2, 0]), .inr (0, 12), .inr (0, 12), .inr (0, 400), .inl (1, [0, 2, 2, 2, 0]), .inr (0, 12), .inr (0, 12), .inr (0, 400), .inl (1, [0, 2, 2, 2, 0]), .inr (0, 12), .inr (0, 12), .inr (0, 400), .inl (2, [0, 2, 2, 2, 2, 2, 2, 2, 2]), .inr (0, 12), .inr (0, 12), .inr (0, 12), .inr (0, 12), .inr (0, 12), .inr (0, 12), .inr (0, 4), .inr (0, 4), .inl (2, [0, 2, 2, 2, 2, 2, 2, 2, 2]), .inr (0, 12), .inr (0, 12), .inr (0, 12), .inr (0, 12), .inr (0, 12), .inr (0, 12), .inr (0, 4), .inr (0, 4), .inl (2, [0, 2, 2, 2, 2, 2, 2, 2, 2]), .inr (0, 12), .inr (0, 12), .inr (0, 12), .inr (0, 12), .inr (0, 12), .inr (0, 12), .inr (0, 4), .inr (0, 4), .inl (8, [2, 2, 2, 2]), .inr (0, 20), .inl (8, [2, 2, 2, 2]), .inr (0, 20), .inl (8, [2, 2, 2, 2]), .inr (0, 20), .inl (4, [2, 3, 2, 0, 2, 2, 2, 2, 2, 2, 0, 0, 0, 0, 0, 0, 0, 0, 0]), .inr (0, 8), .inr (0, 8), .inr (0, 8), .inr (2, 8), .inr (0, 8), .inr (0, 4), .inl (0, [0, 0, 2, 0, 0, 1]), .inr (2, 8), .inl (9, [1, 1, 1, 1, 1, 1, 0, 2, 2]), .inr (1, 8), .inr (1, 8), .inl (9, [1, 1, 1, 1, 1, 1, 0, 2, 2]), .inr (1, 8), .inr (1, 8), .inl (7, [0, 2, 2, 2, 0, 2, 2]), .inr (1, 1000), .inr (1, 1000), .inr (0, 16), .inr (0, 16), .inr (1, 16), .inl (5, [0, 0, 0, 2]), .inr (1, 40), .inl (5, [0, 0, 0, 2]), .inr (1, 40), .inl (5, [0, 0, 0, 2]), .inr (1, 40), .inl (5, [0, 0, 0, 2]), .inr (1, 40)]
def zrf : List (List Nat) := [[0, 1, 2, 3, 4, 5, 0, 0, 0, 0, 0, 0, 0, 0, 0, 0, 0, 0, 6, 7, 8, 0, 0, 0, 9, 10, 0, 11, 12, 13, 14, 15, 16, 17, 18, 19], [], [], [], [], [], [], [], [], [], [], [], [], [], [], [], [], [], [], [], [21, 0, 28, 98, 26, 22, 104, 113, 0, 50, 116, 23, 119, 27, 24, 25], [], [], [], [], [], [100, 102], [125, 127, 129, 131], [30, 55], [], [0, 0, 31, 32, 33, 34], [], [], [], [], [0, 0, 36, 37, 38, 39], [], [], [], [], [0, 0, 41, 42, 43, 44], [], [], [], [], [0, 0, 46, 47, 48, 49], [], [], [], [], [0, 0, 51, 52, 53, 54], [], [], [], [], [0, 56, 57, 58], [], [], [], [0, 60, 61, 62], [], [], [], [0, 64, 65, 66], [], [], [], [0, 68, 69, 70], [], [], [], [0, 72, 73, 74, 75, 76, 77, 78, 79], [], [], [], [], [], [], [], [], [0, 81, 82, 83, 84, 85, 86, 87, 88], [], [], [], [], [], [], [], [], [0, 90, 91, 92, 93, 94, 95, 96, 97], [], [], [], [], [], [], [], [], [35, 59, 71, 99], [], [40, 63, 80, 101], [], [45, 67, 89, 103], [], [111, 0, 59, 0, 105, 106, 107, 108, 109, 110], [], [], [], [], [], [], [0, 0, 112], [], [0, 0, 0, 0, 0, 0, 0, 114, 115], [], [], [0, 0, 0, 0, 0, 0, 0, 117, 118], [], [], [0, 120, 121, 122, 0, 123, 124], [], [], [], [], [], [0, 0, 0, 126], [], [0, 0, 0, 128], [], [0, 0, 0, 130], [], [0, 0, 0, 132], []]
def zX : MX := (zsh, fun c k => (zrf.getD c []).getD k 0)
theorem sh_0 : zX.1[0]? = some (.inl (11, [0, 2, 2, 2, 2, 2, 0, 0, 0, 0, 0, 0, 0, 0, 0, 0, 0, 0, 2, 2, 2, 0, 0, 0, 2, 2, 0, 2, 2, 2, 2, 2, 2, 2, 2, 2])) := rfl
theorem sh_1 : zX.1[1]? = some (.inr (0, 6)) := rfl
theorem sh_2 : zX.1[2]? = some (.inr (0, 1734)) := rfl
theorem sh_3 : zX.1[3]? = some (.inr (2, 2)) := rfl
theorem sh_4 : zX.1[4]? = some (.inr (0, 400)) := rfl
theorem sh_5 : zX.1[5]? = some (.inr (0, 477)) := rfl
theorem sh_6 : zX.1[6]? = some (.inr (0, 42)) := rfl
theorem sh_7 : zX.1[7]? = some (.inr (0, 504)) := rfl
theorem sh_8 : zX.1[8]? = some (.inr (2, 220)) := rfl
theorem sh_9 : zX.1[9]? = some (.inr (2, 8)) := rfl
theorem sh_10 : zX.1[10]? = some (.inr (2, 8)) := rfl
theorem sh_11 : zX.1[11]? = some (.inr (1, 5)) := rfl
theorem sh_12 : zX.1[12]? = some (.inr (1, 8)) := rfl
theorem sh_13 : zX.1[13]? = some (.inr (1, 8)) := rfl
theorem sh_14 : zX.1[14]? = some (.inr (0, 13000)) := rfl
theorem sh_15 : zX.1[15]? = some (.inr (0, 13000)) := rfl
theorem sh_16 : zX.1[16]? = some (.inr (0, 40)) := rfl
theorem sh_17 : zX.1[17]? = some (.inr (0, 4)) := rfl
theorem sh_18 : zX.1[18]? = some (.inr (0, 4)) := rfl
theorem sh_19 : zX.1[19]? = some (.inr (1, 160)) := rfl
theorem sh_20 : zX.1[20]? = some (.inl (10, [2, 0, 2, 2, 2, 2, 2, 2, 0, 2, 2, 2, 2, 2, 2, 2])) := rfl
theorem sh_21 : zX.1[21]? = some (.inr (3, 400)) := rfl
theorem sh_22 : zX.1[22]? = some (.inr (2, 2)) := rfl
theorem sh_23 : zX.1[23]? = some (.inr (1, 256)) := rfl
theorem sh_24 : zX.1[24]? = some (.inr (0, 40)) := rfl
theorem sh_25 : zX.1[25]? = some (.inr (0, 6)) := rfl
theorem sh_26 : zX.1[26]? = some (.inr (5, 2)) := rfl
theorem sh_27 : zX.1[27]? = some (.inr (4, 4)) := rfl
theorem sh_28 : zX.1[28]? = some (.inl (3, [2, 2, 0, 0, 3, 0, 0, 0, 0, 0, 0])) := rfl
theorem sh_29 : zX.1[29]? = some (.inr (3, 0)) := rfl
theorem sh_30 : zX.1[30]? = some (.inl (6, [0, 0, 2, 2, 2, 2, 0, 0, 0, 0, 0, 0])) := rfl
theorem sh_31 : zX.1[31]? = some (.inr (0, 8)) := rfl
theorem sh_32 : zX.1[32]? = some (.inr (0, 8)) := rfl
theorem sh_33 : zX.1[33]? = some (.inr (0, 8)) := rfl
theorem sh_34 : zX.1[34]? = some (.inr (0, 8)) := rfl
theorem sh_35 : zX.1[35]? = some (.inl (6, [0, 0, 2, 2, 2, 2, 0, 0, 0, 0, 0, 0])) := rfl
theorem sh_36 : zX.1[36]? = some (.inr (0, 8)) := rfl
theorem sh_37 : zX.1[37]? = some (.inr (0, 8)) := rfl
theorem sh_38 : zX.1[38]? = some (.inr (0, 8)) := rfl
theorem sh_39 : zX.1[39]? = some (.inr (0, 8)) := rfl
theorem sh_40 : zX.1[40]? = some (.inl (6, [0, 0, 2, 2, 2, 2, 0, 0, 0, 0, 0, 0])) := rfl
theorem sh_41 : zX.1[41]? = some (.inr (0, 8)) := rfl
theorem sh_42 : zX.1[42]? = some (.inr (0, 8)) := rfl
theorem sh_43 : zX.1[43]? = some (.inr (0, 8)) := rfl
theorem sh_44 : zX.1[44]? = some (.inr (0, 8)) := rfl
theorem sh_45 : zX.1[45]? = some (.inl (6, [0, 0, 2, 2, 2, 2, 0, 0, 0, 0, 0, 0])) := rfl
theorem sh_46 : zX.1[46]? = some (.inr (0, 8)) := rfl
theorem sh_47 : zX.1[47]? = some (.inr (0, 8)) := rfl
theorem sh_48 : zX.1[48]? = some (.inr (0, 8)) := rfl
theorem sh_49 : zX.1[49]? = some (.inr (0, 8)) := rfl
theorem sh_50 : zX.1[50]? = some (.inl (6, [0, 0, 2, 2, 2, 2, 0, 0, 0, 0, 0, 0])) := rfl
theorem sh_51 : zX.1[51]? = some (.inr (0, 8)) := rfl
theorem sh_52 : zX.1[52]? = some (.inr (0, 8)) := rfl
theorem sh_53 : zX.1[53]? = some (.inr (0, 8)) := rfl
theorem sh_54 : zX.1[54]? = some (.inr (0, 8)) := rfl
theorem sh_55 : zX.1[55]? = some (.inl (1, [0, 2, 2, 2, 0])) := rfl
theorem sh_56 : zX.1[56]? = some (.inr (0, 12)) := rfl
theorem sh_57 : zX.1[57]? = some (.inr (0, 12)) := rfl
theorem sh_58 : zX.1[58]? = some (.inr (0, 400)) := rfl
theorem sh_59 : zX.1[59]? = some (.inl (1, [0, 2, 2, 2, 0])) := rfl
theorem sh_60 : zX.1[60]? = some (.inr (0, 12)) := rfl
theorem sh_61 : zX.1[61]? = some (.inr (0, 12)) := rfl
theorem sh_62 : zX.1[62]? = some (.inr (0, 400)) := rfl
theorem sh_63 : zX.1[63]? = some (.inl (1, [0, 2, 2, 2, 0])) := rfl
theorem sh_64 : zX.1[64]? = some (.inr (0, 12)) := rfl
theorem sh_65 : zX.1[65]? = some (.inr (0, 12)) := rfl
theorem sh_66 : zX.1[66]? = some (.inr (0, 400)) := rfl
theorem sh_67 : zX.1[67]? = some (.inl (1, [0, 2, 2, 2, 0])) := rfl
theorem sh_68 : zX.1[68]? = some (.inr (0, 12)) := rfl
theorem sh_69 : zX.1[69]? = some (.inr (0, 12)) := rfl
theorem sh_70 : zX.1[70]? = some (.inr (0, 400)) := rfl
theorem sh_71 : zX.1[71]? = some (.inl (2, [0, 2, 2, 2, 2, 2, 2, 2, 2])) := rfl
theorem sh_72 : zX.1[72]? = some (.inr (0, 12)) := rfl
theorem sh_73 : zX.1[73]? = some (.inr (0, 12)) := rfl
theorem sh_74 : zX.1[74]? = some (.inr (0, 12)) := rfl
theorem sh_75 : zX.1[75]? = some (.inr (0, 12)) := rfl
theorem sh_76 : zX.1[76]? = some (.inr (0, 12)) := rfl
theorem sh_77 : zX.1[77]? = some (.inr (0, 12)) := rfl
theorem sh_78 : zX.1[78]? = some (.inr (0, 4)) := rfl
theorem sh_79 : zX.1[79]? = some (.inr (0, 4)) := rfl
theorem sh_80 : zX.1[80]? = some (.inl (2, [0, 2, 2, 2, 2, 2, 2, 2, 2])) := rfl
theorem sh_81 : zX.1[81]? = some (.inr (0, 12)) := rfl
theorem sh_82 : zX.1[82]? = some (.inr (0, 12)) := rfl
theorem sh_83 : zX.1[83]? = some (.inr (0, 12)) := rfl
theorem sh_84 : zX.1[84]? = some (.inr (0, 12)) := rfl
theorem sh_85 : zX.1[85]? = some (.inr (0, 12)) := rfl
theorem sh_86 : zX.1[86]? = some (.inr (0, 12)) := rfl
theorem sh_87 : zX.1[87]? = some (.inr (0, 4)) := rfl
theorem sh_88 : zX.1[88]? = some (.inr (0, 4)) := rfl
theorem sh_89 : zX.1[89]? = some (.inl (2, [0, 2, 2, 2, 2, 2, 2, 2, 2])) := rfl
theorem sh_90 : zX.1[90]? = some (.inr (0, 12)) := rfl
theorem sh_91 : zX.1[91]? = some (.inr (0, 12)) := rfl
theorem sh_92 : zX.1[92]? = some (.inr (0, 12)) := rfl
theorem sh_93 : zX.1[93]? = some (.inr (0, 12)) := rfl
theorem sh_94 : zX.1[94]? = some (.inr (0, 12)) := rfl
theorem sh_95 : zX.1[95]? = some (.inr (0, 12)) := rfl
theorem sh_96 : zX.1[96]? = some (.inr (0, 4)) := rfl
theorem sh_97 : zX.1[97]? = some (.inr (0, 4)) := rfl
theorem sh_98 : zX.1[98]? = some (.inl (8, [2, 2, 2, 2])) := rfl
theorem sh_99 : zX.1[99]? = some (.inr (0, 20)) := rfl
theorem sh_100 : zX.1[100]? = some (.inl (8, [2, 2, 2, 2])) := rfl
theorem sh_101 : zX.1[101]? = some (.inr (0, 20)) := rfl
theorem sh_102 : zX.1[102]? = some (.inl (8, [2, 2, 2, 2])) := rfl
theorem sh_103 : zX.1[103]? = some (.inr (0, 20)) := rfl
theorem sh_104 : zX.1[104]? = some (.inl (4, [2, 3, 2, 0, 2, 2, 2, 2, 2, 2, 0, 0, 0, 0, 0, 0, 0, 0, 0])) := rfl
theorem sh_105 : zX.1[105]? = some (.inr (0, 8)) := rfl
theorem sh_106 : zX.1[106]? = some (.inr (0, 8)) := rfl
theorem sh_107 : zX.1[107]? = some (.inr (0, 8)) := rfl
theorem sh_108 : zX.1[108]? = some (.inr (2, 8)) := rfl
theorem sh_109 : zX.1[109]? = some (.inr (0, 8)) := rfl
theorem sh_110 : zX.1[110]? = some (.inr (0, 4)) := rfl
theorem sh_111 : zX.1[111]? = some (.inl (0, [0, 0, 2, 0, 0, 1])) := rfl
theorem sh_112 : zX.1[112]? = some (.inr (2, 8)) := rfl
theorem sh_113 : zX.1[113]? = some (.inl (9, [1, 1, 1, 1, 1, 1, 0, 2, 2])) := rfl
theorem sh_114 : zX.1[114]? = some (.inr (1, 8)) := rfl
theorem sh_115 : zX.1[115]? = some (.inr (1, 8)) := rfl
theorem sh_116 : zX.1[116]? = some (.inl (9, [1, 1, 1, 1, 1, 1, 0, 2, 2])) := rfl
theorem sh_117 : zX.1[117]? = some (.inr (1, 8)) := rfl
theorem sh_118 : zX.1[118]? = some (.inr (1, 8)) := rfl
theorem sh_119 : zX.1[119]? = some (.inl (7, [0, 2, 2, 2, 0, 2, 2])) := rfl
theorem sh_120 : zX.1[120]? = some (.inr (1, 1000)) := rfl
theorem sh_121 : zX.1[121]? = some (.inr (1, 1000)) := rfl
theorem sh_122 : zX.1[122]? = some (.inr (0, 16)) := rfl
theorem sh_123 : zX.1[123]? = some (.inr (0, 16)) := rfl
theorem sh_124 : zX.1[124]? = some (.inr (1, 16)) := rfl
theorem sh_125 : zX.1[125]? = some (.inl (5, [0, 0, 0, 2])) := rfl
theorem sh_126 : zX.1[126]? = some (.inr (1, 40)) := rfl
theorem sh_127 : zX.1[127]? = some (.inl (5, [0, 0, 0, 2])) := rfl
theorem sh_128 : zX.1[128]? = some (.inr (1, 40)) := rfl
theorem sh_129 : zX.1[129]? = some (.inl (5, [0, 0, 0, 2])) := rfl
theorem sh_130 : zX.1[130]? = some (.inr (1, 40)) := rfl
theorem sh_131 : zX.1[131]? = some (.inl (5, [0, 0, 0, 2])) := rfl
theorem sh_132 : zX.1[132]? = some (.inr (1, 40)) := rfl
theorem rf_0_1 : zX.2 0 1 = 1 := rfl
theorem rf_0_2 : zX.2 0 2 = 2 := rfl
theorem rf_0_3 : zX.2 0 3 = 3 := rfl
theorem rf_0_4 : zX.2 0 4 = 4 := rfl
theorem rf_0_5 : zX.2 0 5 = 5 := rfl
theorem rf_0_18 : zX.2 0 18 = 6 := rfl
theorem rf_0_19 : zX.2 0 19 = 7 := rfl
theorem rf_0_20 : zX.2 0 20 = 8 := rfl
theorem rf_0_24 : zX.2 0 24 = 9 := rfl
theorem rf_0_25 : zX.2 0 25 = 10 := rfl
theorem rf_0_27 : zX.2 0 27 = 11 := rfl
theorem rf_0_28 : zX.2 0 28 = 12 := rfl
theorem rf_0_29 : zX.2 0 29 = 13 := rfl
theorem rf_0_30 : zX.2 0 30 = 14 := rfl
theorem rf_0_31 : zX.2 0 31 = 15 := rfl
theorem rf_0_32 : zX.2 0 32 = 16 := rfl
theorem rf_0_33 : zX.2 0 33 = 17 := rfl
theorem rf_0_34 : zX.2 0 34 = 18 := rfl
theorem rf_0_35 : zX.2 0 35 = 19 := rfl
theorem rf_20_0 : zX.2 20 0 = 21 := rfl
theorem rf_20_5 : zX.2 20 5 = 22 := rfl
theorem rf_20_11 : zX.2 20 11 = 23 := rfl
theorem rf_20_14 : zX.2 20 14 = 24 := rfl
theorem rf_20_15 : zX.2 20 15 = 25 := rfl
theorem rf_20_4 : zX.2 20 4 = 26 := rfl
theorem rf_20_13 : zX.2 20 13 = 27 := rfl
theorem rf_20_2 : zX.2 20 2 = 28 := rfl
theorem rf_20_3 : zX.2 20 3 = 98 := rfl
theorem rf_20_6 : zX.2 20 6 = 104 := rfl
theorem rf_20_7 : zX.2 20 7 = 113 := rfl
theorem rf_20_9 : zX.2 20 9 = 50 := rfl
theorem rf_20_10 : zX.2 20 10 = 116 := rfl
theorem rf_20_12 : zX.2 20 12 = 119 := rfl
theorem rf_26_0 : zX.2 26 0 = 100 := rfl
theorem rf_26_1 : zX.2 26 1 = 102 := rfl
theorem rf_27_0 : zX.2 27 0 = 125 := rfl
theorem rf_27_1 : zX.2 27 1 = 127 := rfl
theorem rf_27_2 : zX.2 27 2 = 129 := rfl
theorem rf_27_3 : zX.2 27 3 = 131 := rfl
theorem rf_28_0 : zX.2 28 0 = 30 := rfl
theorem rf_28_1 : zX.2 28 1 = 55 := rfl
theorem rf_30_2 : zX.2 30 2 = 31 := rfl
theorem rf_30_3 : zX.2 30 3 = 32 := rfl
theorem rf_30_4 : zX.2 30 4 = 33 := rfl
theorem rf_30_5 : zX.2 30 5 = 34 := rfl
theorem rf_35_2 : zX.2 35 2 = 36 := rfl
theorem rf_35_3 : zX.2 35 3 = 37 := rfl
theorem rf_35_4 : zX.2 35 4 = 38 := rfl
theorem rf_35_5 : zX.2 35 5 = 39 := rfl
theorem rf_40_2 : zX.2 40 2 = 41 := rfl
theorem rf_40_3 : zX.2 40 3 = 42 := rfl
theorem rf_40_4 : zX.2 40 4 = 43 := rfl
theorem rf_40_5 : zX.2 40 5 = 44 := rfl
theorem rf_45_2 : zX.2 45 2 = 46 := rfl
theorem rf_45_3 : zX.2 45 3 = 47 := rfl
theorem rf_45_4 : zX.2 45 4 = 48 := rfl
theorem rf_45_5 : zX.2 45 5 = 49 := rfl
theorem rf_50_2 : zX.2 50 2 = 51 := rfl
theorem rf_50_3 : zX.2 50 3 = 52 := rfl
theorem rf_50_4 : zX.2 50 4 = 53 := rfl
theorem rf_50_5 : zX.2 50 5 = 54 := rfl
theorem rf_55_1 : zX.2 55 1 = 56 := rfl
theorem rf_55_2 : zX.2 55 2 = 57 := rfl
theorem rf_55_3 : zX.2 55 3 = 58 := rfl
theorem rf_59_1 : zX.2 59 1 = 60 := rfl
theorem rf_59_2 : zX.2 59 2 = 61 := rfl
theorem rf_59_3 : zX.2 59 3 = 62 := rfl
theorem rf_63_1 : zX.2 63 1 = 64 := rfl
theorem rf_63_2 : zX.2 63 2 = 65 := rfl
theorem rf_63_3 : zX.2 63 3 = 66 := rfl
theorem rf_67_1 : zX.2 67 1 = 68 := rfl
theorem rf_67_2 : zX.2 67 2 = 69 := rfl
theorem rf_67_3 : zX.2 67 3 = 70 := rfl
theorem rf_71_1 : zX.2 71 1 = 72 := rfl
theorem rf_71_2 : zX.2 71 2 = 73 := rfl
theorem rf_71_3 : zX.2 71 3 = 74 := rfl
theorem rf_71_4 : zX.2 71 4 = 75 := rfl
theorem rf_71_5 : zX.2 71 5 = 76 := rfl
theorem rf_71_6 : zX.2 71 6 = 77 := rfl
theorem rf_71_7 : zX.2 71 7 = 78 := rfl
theorem rf_71_8 : zX.2 71 8 = 79 := rfl
theorem rf_80_1 : zX.2 80 1 = 81 := rfl
theorem rf_80_2 : zX.2 80 2 = 82 := rfl
theorem rf_80_3 : zX.2 80 3 = 83 := rfl
theorem rf_80_4 : zX.2 80 4 = 84 := rfl
theorem rf_80_5 : zX.2 80 5 = 85 := rfl
theorem rf_80_6 : zX.2 80 6 = 86 := rfl
theorem rf_80_7 : zX.2 80 7 = 87 := rfl
theorem rf_80_8 : zX.2 80 8 = 88 := rfl
theorem rf_89_1 : zX.2 89 1 = 90 := rfl
theorem rf_89_2 : zX.2 89 2 = 91 := rfl
theorem rf_89_3 : zX.2 89 3 = 92 := rfl
theorem rf_89_4 : zX.2 89 4 = 93 := rfl
theorem rf_89_5 : zX.2 89 5 = 94 := rfl
theorem rf_89_6 : zX.2 89 6 = 95 := rfl
theorem rf_89_7 : zX.2 89 7 = 96 := rfl
theorem rf_89_8 : zX.2 89 8 = 97 := rfl
theorem rf_98_0 : zX.2 98 0 = 35 := rfl
theorem rf_98_1 : zX.2 98 1 = 59 := rfl
theorem rf_98_2 : zX.2 98 2 = 71 := rfl
theorem rf_98_3 : zX.2 98 3 = 99 := rfl
theorem rf_100_0 : zX.2 100 0 = 40 := rfl
theorem rf_100_1 : zX.2 100 1 = 63 := rfl
theorem rf_100_2 : zX.2 100 2 = 80 := rfl
theorem rf_100_3 : zX.2 100 3 = 101 := rfl
theorem rf_102_0 : zX.2 102 0 = 45 := rfl
theorem rf_102_1 : zX.2 102 1 = 67 := rfl
theorem rf_102_2 : zX.2 102 2 = 89 := rfl
theorem rf_102_3 : zX.2 102 3 = 103 := rfl
theorem rf_104_0 : zX.2 104 0 = 111 := rfl
theorem rf_104_2 : zX.2 104 2 = 59 := rfl
theorem rf_104_4 : zX.2 104 4 = 105 := rfl
theorem rf_104_5 : zX.2 104 5 = 106 := rfl
theorem rf_104_6 : zX.2 104 6 = 107 := rfl
theorem rf_104_7 : zX.2 104 7 = 108 := rfl
theorem rf_104_8 : zX.2 104 8 = 109 := rfl
theorem rf_104_9 : zX.2 104 9 = 110 := rfl
theorem rf_111_2 : zX.2 111 2 = 112 := rfl
theorem rf_113_7 : zX.2 113 7 = 114 := rfl
theorem rf_113_8 : zX.2 113 8 = 115 := rfl
theorem rf_116_7 : zX.2 116 7 = 117 := rfl
theorem rf_116_8 : zX.2 116 8 = 118 := rfl
theorem rf_119_1 : zX.2 119 1 = 120 := rfl
theorem rf_119_2 : zX.2 119 2 = 121 := rfl
theorem rf_119_3 : zX.2 119 3 = 122 := rfl
theorem rf_119_5 : zX.2 119 5 = 123 := rfl
theorem rf_119_6 : zX.2 119 6 = 124 := rfl
theorem rf_125_3 : zX.2 125 3 = 126 := rfl
theorem rf_127_3 : zX.2 127 3 = 128 := rfl
theorem rf_129_3 : zX.2 129 3 = 130 := rfl
theorem rf_131_3 : zX.2 131 3 = 132 := rfl
def isSc (s : Nat) : Prop := s = 30 ∨ s = 35 ∨ s = 40 ∨ s = 45 ∨ s = 50
theorem sh_Sc0 {s : Nat} (hs : isSc s) : zX.1[s]? = some (.inl (6, [0, 0, 2, 2, 2, 2, 0, 0, 0, 0, 0, 0])) := by rcases hs with rfl | rfl | rfl | rfl | rfl <;> rfl
theorem sh_Sc1 {s : Nat} (hs : isSc s) : zX.1[s + 1]? = some (.inr (0, 8)) := by rcases hs with rfl | rfl | rfl | rfl | rfl <;> rfl
theorem sh_Sc2 {s : Nat} (hs : isSc s) : zX.1[s + 2]? = some (.inr (0, 8)) := by rcases hs with rfl | rfl | rfl | rfl | rfl <;> rfl
theorem sh_Sc3 {s : Nat} (hs : isSc s) : zX.1[s + 3]? = some (.inr (0, 8)) := by rcases hs with rfl | rfl | rfl | rfl | rfl <;> rfl
theorem sh_Sc4 {s : Nat} (hs : isSc s) : zX.1[s + 4]? = some (.inr (0, 8)) := by rcases hs with rfl | rfl | rfl | rfl | rfl <;> rfl
theorem rf_Sc_2 {s : Nat} (hs : isSc s) : zX.2 s 2 = s + 1 := by rcases hs with rfl | rfl | rfl | rfl | rfl <;> rfl
theorem rf_Sc_3 {s : Nat} (hs : isSc s) : zX.2 s 3 = s + 2 := by rcases hs with rfl | rfl | rfl | rfl | rfl <;> rfl
theorem rf_Sc_4 {s : Nat} (hs : isSc s) : zX.2 s 4 = s + 3 := by rcases hs with rfl | rfl | rfl | rfl | rfl <;> rfl
theorem rf_Sc_5 {s : Nat} (hs : isSc s) : zX.2 s 5 = s + 4 := by rcases hs with rfl | rfl | rfl | rfl | rfl <;> rfl
theorem isSc_30 : isSc 30 := by unfold isSc; decide
theorem isSc_35 : isSc 35 := by unfold isSc; decide
theorem isSc_40 : isSc 40 := by unfold isSc; decide
theorem isSc_45 : isSc 45 := by unfold isSc; decide
theorem isSc_50 : isSc 50 := by unfold isSc; decide
theorem isSc_r {s : Nat} (hs : isSc s) : 30 ≤ s ∧ s ≤ 50 := by rcases hs with rfl | rfl | rfl | rfl | rfl <;> decide
def isLw (s : Nat) : Prop := s = 55 ∨ s = 59 ∨ s = 63 ∨ s = 67
theorem sh_Lw0 {s : Nat} (hs : isLw s) : zX.1[s]? = some (.inl (1, [0, 2, 2, 2, 0])) := by rcases hs with rfl | rfl | rfl | rfl <;> rfl
theorem sh_Lw1 {s : Nat} (hs : isLw s) : zX.1[s + 1]? = some (.inr (0, 12)) := by rcases hs with rfl | rfl | rfl | rfl <;> rfl
theorem sh_Lw2 {s : Nat} (hs : isLw s) : zX.1[s + 2]? = some (.inr (0, 12)) := by rcases hs with rfl | rfl | rfl | rfl <;> rfl
theorem sh_Lw3 {s : Nat} (hs : isLw s) : zX.1[s + 3]? = some (.inr (0, 400)) := by rcases hs with rfl | rfl | rfl | rfl <;> rfl
theorem rf_Lw_1 {s : Nat} (hs : isLw s) : zX.2 s 1 = s + 1 := by rcases hs with rfl | rfl | rfl | rfl <;> rfl
theorem rf_Lw_2 {s : Nat} (hs : isLw s) : zX.2 s 2 = s + 2 := by rcases hs with rfl | rfl | rfl | rfl <;> rfl
theorem rf_Lw_3 {s : Nat} (hs : isLw s) : zX.2 s 3 = s + 3 := by rcases hs with rfl | rfl | rfl | rfl <;> rfl
theorem isLw_55 : isLw 55 := by unfold isLw; decide
theorem isLw_59 : isLw 59 := by unfold isLw; decide
theorem isLw_63 : isLw 63 := by unfold isLw; decide
theorem isLw_67 : isLw 67 := by unfold isLw; decide
theorem isLw_r {s : Nat} (hs : isLw s) : 55 ≤ s ∧ s ≤ 67 := by rcases hs with rfl | rfl | rfl | rfl <;> decide
def isPl (s : Nat) : Prop := s = 71 ∨ s = 80 ∨ s = 89
theorem sh_Pl0 {s : Nat} (hs : isPl s) : zX.1[s]? = some (.inl (2, [0, 2, 2, 2, 2, 2, 2, 2, 2])) := by rcases hs with rfl | rfl | rfl <;> rfl
theorem sh_Pl1 {s : Nat} (hs : isPl s) : zX.1[s + 1]? = some (.inr (0, 12)) := by rcases hs with rfl | rfl | rfl <;> rfl
theorem sh_Pl2 {s : Nat} (hs : isPl s) : zX.1[s + 2]? = some (.inr (0, 12)) := by rcases hs with rfl | rfl | rfl <;> rfl
theorem sh_Pl3 {s : Nat} (hs : isPl s) : zX.1[s + 3]? = some (.inr (0, 12)) := by rcases hs with rfl | rfl | rfl <;> rfl
theorem sh_Pl4 {s : Nat} (hs : isPl s) : zX.1[s + 4]? = some (.inr (0, 12)) := by rcases hs with rfl | rfl | rfl <;> rfl
theorem sh_Pl5 {s : Nat} (hs : isPl s) : zX.1[s + 5]? = some (.inr (0, 12)) := by rcases hs with rfl | rfl | rfl <;> rfl
theorem sh_Pl6 {s : Nat} (hs : isPl s) : zX.1[s + 6]? = some (.inr (0, 12)) := by rcases hs with rfl | rfl | rfl <;> rfl
theorem sh_Pl7 {s : Nat} (hs : isPl s) : zX.1[s + 7]? = some (.inr (0, 4)) := by rcases hs with rfl | rfl | rfl <;> rfl
theorem sh_Pl8 {s : Nat} (hs : isPl s) : zX.1[s + 8]? = some (.inr (0, 4)) := by rcases hs with rfl | rfl | rfl <;> rfl
theorem rf_Pl_1 {s : Nat} (hs : isPl s) : zX.2 s 1 = s + 1 := by rcases hs with rfl | rfl | rfl <;> rfl
theorem rf_Pl_2 {s : Nat} (hs : isPl s) : zX.2 s 2 = s + 2 := by rcases hs with rfl | rfl | rfl <;> rfl
theorem rf_Pl_3 {s : Nat} (hs : isPl s) : zX.2 s 3 = s + 3 := by rcases hs with rfl | rfl | rfl <;> rfl
theorem rf_Pl_4 {s : Nat} (hs : isPl s) : zX.2 s 4 = s + 4 := by rcases hs with rfl | rfl | rfl <;> rfl
theorem rf_Pl_5 {s : Nat} (hs : isPl s) : zX.2 s 5 = s + 5 := by rcases hs with rfl | rfl | rfl <;> rfl
theorem rf_Pl_6 {s : Nat} (hs : isPl s) : zX.2 s 6 = s + 6 := by rcases hs with rfl | rfl | rfl <;> rfl
theorem rf_Pl_7 {s : Nat} (hs : isPl s) : zX.2 s 7 = s + 7 := by rcases hs with rfl | rfl | rfl <;> rfl
theorem rf_Pl_8 {s : Nat} (hs : isPl s) : zX.2 s 8 = s + 8 := by rcases hs with rfl | rfl | rfl <;> rfl
theorem isPl_71 : isPl 71 := by unfold isPl; decide
theorem isPl_80 : isPl 80 := by unfold isPl; decide
theorem isPl_89 : isPl 89 := by unfold isPl; decide
theorem isPl_r {s : Nat} (hs : isPl s) : 71 ≤ s ∧ s ≤ 89 := by rcases hs with rfl | rfl | rfl <;> decide
def isSt (s : Nat) : Prop := s = 98 ∨ s = 100 ∨ s = 102
theorem sh_St0 {s : Nat} (hs : isSt s) : zX.1[s]? = some (.inl (8, [2, 2, 2, 2])) := by rcases hs with rfl | rfl | rfl <;> rfl
theorem sh_St1 {s : Nat} (hs : isSt s) : zX.1[s + 1]? = some (.inr (0, 20)) := by rcases hs with rfl | rfl | rfl <;> rfl
theorem rf_St_3 {s : Nat} (hs : isSt s) : zX.2 s 3 = s + 1 := by rcases hs with rfl | rfl | rfl <;> rfl
theorem isSt_98 : isSt 98 := by unfold isSt; decide
theorem isSt_100 : isSt 100 := by unfold isSt; decide
theorem isSt_102 : isSt 102 := by unfold isSt; decide
theorem isSt_r {s : Nat} (hs : isSt s) : 98 ≤ s ∧ s ≤ 102 := by rcases hs with rfl | rfl | rfl <;> decide
def isTr (s : Nat) : Prop := s = 113 ∨ s = 116
theorem sh_Tr0 {s : Nat} (hs : isTr s) : zX.1[s]? = some (.inl (9, [1, 1, 1, 1, 1, 1, 0, 2, 2])) := by rcases hs with rfl | rfl <;> rfl
theorem sh_Tr1 {s : Nat} (hs : isTr s) : zX.1[s + 1]? = some (.inr (1, 8)) := by rcases hs with rfl | rfl <;> rfl
theorem sh_Tr2 {s : Nat} (hs : isTr s) : zX.1[s + 2]? = some (.inr (1, 8)) := by rcases hs with rfl | rfl <;> rfl
theorem rf_Tr_7 {s : Nat} (hs : isTr s) : zX.2 s 7 = s + 1 := by rcases hs with rfl | rfl <;> rfl
theorem rf_Tr_8 {s : Nat} (hs : isTr s) : zX.2 s 8 = s + 2 := by rcases hs with rfl | rfl <;> rfl
theorem isTr_113 : isTr 113 := by unfold isTr; decide
theorem isTr_116 : isTr 116 := by unfold isTr; decide
theorem isTr_r {s : Nat} (hs : isTr s) : 113 ≤ s ∧ s ≤ 116 := by rcases hs with rfl | rfl <;> decide
def isRw (s : Nat) : Prop := s = 125 ∨ s = 127 ∨ s = 129 ∨ s = 131
theorem sh_Rw0 {s : Nat} (hs : isRw s) : zX.1[s]? = some (.inl (5, [0, 0, 0, 2])) := by rcases hs with rfl | rfl | rfl | rfl <;> rfl
theorem sh_Rw1 {s : Nat} (hs : isRw s) : zX.1[s + 1]? = some (.inr (1, 40)) := by rcases hs with rfl | rfl | rfl | rfl <;> rfl
theorem rf_Rw_3 {s : Nat} (hs : isRw s) : zX.2 s 3 = s + 1 := by rcases hs with rfl | rfl | rfl | rfl <;> rfl
theorem isRw_125 : isRw 125 := by unfold isRw; decide
theorem isRw_127 : isRw 127 := by unfold isRw; decide
theorem isRw_129 : isRw 129 := by unfold isRw; decide
theorem isRw_131 : isRw 131 := by unfold isRw; decide
theorem isRw_r {s : Nat} (hs : isRw s) : 125 ≤ s ∧ s ≤ 131 := by rcases hs with rfl | rfl | rfl | rfl <;> decide
theorem rf_26 {j : Nat} (h : j < 2) : zX.2 26 j = 100 + 2 * j := by rcases (show j = 0 ∨ j = 1 by omega) with rfl | rfl <;> rfl
theorem rf_27 {j : Nat} (h : j < 4) : zX.2 27 j = 125 + 2 * j := by rcases (show j = 0 ∨ j = 1 ∨ j = 2 ∨ j = 3 by omega) with rfl | rfl | rfl | rfl <;> rfl
