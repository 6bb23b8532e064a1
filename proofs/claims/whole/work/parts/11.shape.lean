/-! ===== the cells of the two objects: the reference 0 (its arrays 1 to 20), the class 21 ===== -/
def SH : am_Sh := [.inr (9, [0, 4, 5, 6, 7, 0, 0, 0, 8, 0, 9, 0, 0, 0, 0, 10, 11, 12, 13, 0, 14, 0, 15, 16, 17, 0, 0, 18, 19, 0, 20, 21, 0, 22, 0, 23, 1, 1]), .inl (0, 8, none), .inl (0, 8, none), .inl (0, 24, none), .inl (0, 24, none), .inl (0, 56, none), .inl (0, 56, none), .inl (0, 8, none), .inl (0, 8, none), .inl (0, 24, none), .inl (0, 24, none), .inl (0, 12, none), .inl (0, 200, none), .inl (0, 201, none), .inl (0, 201, none), .inl (0, 200, none), .inl (1, 40, none), .inl (0, 40, none), .inl (0, 8000, none), .inl (0, 200, none), .inl (0, 200, none), .inr (8, [25, 32, 34, 36, 38, 43, 46, 112, 118, 0, 0, 0, 0, 0]), .inr (5, [26, 28, 30, 0]), .inr (1, [27, 0]), .inl (0, 8, none), .inr (1, [29, 0]), .inl (0, 8, none), .inr (1, [31, 0]), .inl (0, 8, none), .inr (1, [33, 0]), .inl (0, 56, none), .inr (1, [35, 0]), .inl (0, 56, none), .inr (1, [37, 0]), .inl (0, 56, none), .inr (3, [39, 41, 0, 0]), .inr (1, [40, 0]), .inl (0, 8, none), .inr (1, [42, 0]), .inl (0, 8, none), .inr (6, [44, 45, 0]), .inl (0, 57, none), .inl (0, 57, none), .inr (0, [47, 50, 52, 54, 56, 107, 109]), .inr (4, [48, 0]), .inr (1, [49, 0]), .inl (0, 25, none), .inr (1, [51, 0]), .inl (0, 56, none), .inr (1, [53, 0]), .inl (0, 56, none), .inr (1, [55, 0]), .inl (0, 56, none), .inl (2, 25, some (fun i => if i < 25 then some (54 + 2 * i) else none)), .inr (1, [58, 0]), .inl (0, 56, none), .inr (1, [60, 0]), .inl (0, 56, none), .inr (1, [62, 0]), .inl (0, 56, none), .inr (1, [64, 0]), .inl (0, 56, none), .inr (1, [66, 0]), .inl (0, 56, none), .inr (1, [68, 0]), .inl (0, 56, none), .inr (1, [70, 0]), .inl (0, 56, none), .inr (1, [72, 0]), .inl (0, 56, none), .inr (1, [74, 0]), .inl (0, 56, none), .inr (1, [76, 0]), .inl (0, 56, none), .inr (1, [78, 0]), .inl (0, 56, none), .inr (1, [80, 0]), .inl (0, 56, none), .inr (1, [82, 0]), .inl (0, 56, none), .inr (1, [84, 0]), .inl (0, 56, none), .inr (1, [86, 0]), .inl (0, 56, none), .inr (1, [88, 0]), .inl (0, 56, none), .inr (1, [90, 0]), .inl (0, 56, none), .inr (1, [92, 0]), .inl (0, 56, none), .inr (1, [94, 0]), .inl (0, 56, none), .inr (1, [96, 0]), .inl (0, 56, none), .inr (1, [98, 0]), .inl (0, 56, none), .inr (1, [100, 0]), .inl (0, 56, none), .inr (1, [102, 0]), .inl (0, 56, none), .inr (1, [104, 0]), .inl (0, 56, none), .inr (1, [106, 0]), .inl (0, 56, none), .inr (1, [108, 0]), .inl (0, 56, none), .inr (6, [110, 111, 0]), .inl (0, 57, none), .inl (0, 57, none), .inr (2, [113, 116, 0]), .inr (4, [114, 0]), .inr (1, [115, 0]), .inl (0, 25, none), .inr (1, [117, 0]), .inl (0, 8, none), .inr (7, [119, 121, 123, 1, 0, 0, 0, 0]), .inr (1, [120, 0]), .inl (0, 5, none), .inr (1, [122, 0]), .inl (0, 56, none), .inr (1, [124, 0]), .inl (0, 56, none)]
theorem sh_0 : SH[0]? = some (.inr (9, [0, 4, 5, 6, 7, 0, 0, 0, 8, 0, 9, 0, 0, 0, 0, 10, 11, 12, 13, 0, 14, 0, 15, 16, 17, 0, 0, 18, 19, 0, 20, 21, 0, 22, 0, 23, 1, 1])) := rfl
theorem sh_1 : SH[1]? = some (.inl (0, 8, none)) := rfl
theorem sh_2 : SH[2]? = some (.inl (0, 8, none)) := rfl
theorem sh_3 : SH[3]? = some (.inl (0, 24, none)) := rfl
theorem sh_4 : SH[4]? = some (.inl (0, 24, none)) := rfl
theorem sh_5 : SH[5]? = some (.inl (0, 56, none)) := rfl
theorem sh_6 : SH[6]? = some (.inl (0, 56, none)) := rfl
theorem sh_7 : SH[7]? = some (.inl (0, 8, none)) := rfl
theorem sh_8 : SH[8]? = some (.inl (0, 8, none)) := rfl
theorem sh_9 : SH[9]? = some (.inl (0, 24, none)) := rfl
theorem sh_10 : SH[10]? = some (.inl (0, 24, none)) := rfl
theorem sh_11 : SH[11]? = some (.inl (0, 12, none)) := rfl
theorem sh_12 : SH[12]? = some (.inl (0, 200, none)) := rfl
theorem sh_13 : SH[13]? = some (.inl (0, 201, none)) := rfl
theorem sh_14 : SH[14]? = some (.inl (0, 201, none)) := rfl
theorem sh_15 : SH[15]? = some (.inl (0, 200, none)) := rfl
theorem sh_16 : SH[16]? = some (.inl (1, 40, none)) := rfl
theorem sh_17 : SH[17]? = some (.inl (0, 40, none)) := rfl
theorem sh_18 : SH[18]? = some (.inl (0, 8000, none)) := rfl
theorem sh_19 : SH[19]? = some (.inl (0, 200, none)) := rfl
theorem sh_20 : SH[20]? = some (.inl (0, 200, none)) := rfl
theorem sh_21 : SH[21]? = some (.inr (8, [25, 32, 34, 36, 38, 43, 46, 112, 118, 0, 0, 0, 0, 0])) := rfl
theorem sh_22 : SH[22]? = some (.inr (5, [26, 28, 30, 0])) := rfl
theorem sh_23 : SH[23]? = some (.inr (1, [27, 0])) := rfl
theorem sh_24 : SH[24]? = some (.inl (0, 8, none)) := rfl
theorem sh_25 : SH[25]? = some (.inr (1, [29, 0])) := rfl
theorem sh_26 : SH[26]? = some (.inl (0, 8, none)) := rfl
theorem sh_27 : SH[27]? = some (.inr (1, [31, 0])) := rfl
theorem sh_28 : SH[28]? = some (.inl (0, 8, none)) := rfl
theorem sh_29 : SH[29]? = some (.inr (1, [33, 0])) := rfl
theorem sh_30 : SH[30]? = some (.inl (0, 56, none)) := rfl
theorem sh_31 : SH[31]? = some (.inr (1, [35, 0])) := rfl
theorem sh_32 : SH[32]? = some (.inl (0, 56, none)) := rfl
theorem sh_33 : SH[33]? = some (.inr (1, [37, 0])) := rfl
theorem sh_34 : SH[34]? = some (.inl (0, 56, none)) := rfl
theorem sh_35 : SH[35]? = some (.inr (3, [39, 41, 0, 0])) := rfl
theorem sh_36 : SH[36]? = some (.inr (1, [40, 0])) := rfl
theorem sh_37 : SH[37]? = some (.inl (0, 8, none)) := rfl
theorem sh_38 : SH[38]? = some (.inr (1, [42, 0])) := rfl
theorem sh_39 : SH[39]? = some (.inl (0, 8, none)) := rfl
theorem sh_40 : SH[40]? = some (.inr (6, [44, 45, 0])) := rfl
theorem sh_41 : SH[41]? = some (.inl (0, 57, none)) := rfl
theorem sh_42 : SH[42]? = some (.inl (0, 57, none)) := rfl
theorem sh_43 : SH[43]? = some (.inr (0, [47, 50, 52, 54, 56, 107, 109])) := rfl
theorem sh_44 : SH[44]? = some (.inr (4, [48, 0])) := rfl
theorem sh_45 : SH[45]? = some (.inr (1, [49, 0])) := rfl
theorem sh_46 : SH[46]? = some (.inl (0, 25, none)) := rfl
theorem sh_47 : SH[47]? = some (.inr (1, [51, 0])) := rfl
theorem sh_48 : SH[48]? = some (.inl (0, 56, none)) := rfl
theorem sh_49 : SH[49]? = some (.inr (1, [53, 0])) := rfl
theorem sh_50 : SH[50]? = some (.inl (0, 56, none)) := rfl
theorem sh_51 : SH[51]? = some (.inr (1, [55, 0])) := rfl
theorem sh_52 : SH[52]? = some (.inl (0, 56, none)) := rfl
theorem sh_53 : SH[53]? = some (.inl (2, 25, some (fun i => if i < 25 then some (54 + 2 * i) else none))) := rfl
theorem sh_54 : SH[54]? = some (.inr (1, [58, 0])) := rfl
theorem sh_55 : SH[55]? = some (.inl (0, 56, none)) := rfl
theorem sh_56 : SH[56]? = some (.inr (1, [60, 0])) := rfl
theorem sh_57 : SH[57]? = some (.inl (0, 56, none)) := rfl
theorem sh_58 : SH[58]? = some (.inr (1, [62, 0])) := rfl
theorem sh_59 : SH[59]? = some (.inl (0, 56, none)) := rfl
theorem sh_60 : SH[60]? = some (.inr (1, [64, 0])) := rfl
theorem sh_61 : SH[61]? = some (.inl (0, 56, none)) := rfl
theorem sh_62 : SH[62]? = some (.inr (1, [66, 0])) := rfl
theorem sh_63 : SH[63]? = some (.inl (0, 56, none)) := rfl
theorem sh_64 : SH[64]? = some (.inr (1, [68, 0])) := rfl
theorem sh_65 : SH[65]? = some (.inl (0, 56, none)) := rfl
theorem sh_66 : SH[66]? = some (.inr (1, [70, 0])) := rfl
theorem sh_67 : SH[67]? = some (.inl (0, 56, none)) := rfl
theorem sh_68 : SH[68]? = some (.inr (1, [72, 0])) := rfl
theorem sh_69 : SH[69]? = some (.inl (0, 56, none)) := rfl
theorem sh_70 : SH[70]? = some (.inr (1, [74, 0])) := rfl
theorem sh_71 : SH[71]? = some (.inl (0, 56, none)) := rfl
theorem sh_72 : SH[72]? = some (.inr (1, [76, 0])) := rfl
theorem sh_73 : SH[73]? = some (.inl (0, 56, none)) := rfl
theorem sh_74 : SH[74]? = some (.inr (1, [78, 0])) := rfl
theorem sh_75 : SH[75]? = some (.inl (0, 56, none)) := rfl
theorem sh_76 : SH[76]? = some (.inr (1, [80, 0])) := rfl
theorem sh_77 : SH[77]? = some (.inl (0, 56, none)) := rfl
theorem sh_78 : SH[78]? = some (.inr (1, [82, 0])) := rfl
theorem sh_79 : SH[79]? = some (.inl (0, 56, none)) := rfl
theorem sh_80 : SH[80]? = some (.inr (1, [84, 0])) := rfl
theorem sh_81 : SH[81]? = some (.inl (0, 56, none)) := rfl
theorem sh_82 : SH[82]? = some (.inr (1, [86, 0])) := rfl
theorem sh_83 : SH[83]? = some (.inl (0, 56, none)) := rfl
theorem sh_84 : SH[84]? = some (.inr (1, [88, 0])) := rfl
theorem sh_85 : SH[85]? = some (.inl (0, 56, none)) := rfl
theorem sh_86 : SH[86]? = some (.inr (1, [90, 0])) := rfl
theorem sh_87 : SH[87]? = some (.inl (0, 56, none)) := rfl
theorem sh_88 : SH[88]? = some (.inr (1, [92, 0])) := rfl
theorem sh_89 : SH[89]? = some (.inl (0, 56, none)) := rfl
theorem sh_90 : SH[90]? = some (.inr (1, [94, 0])) := rfl
theorem sh_91 : SH[91]? = some (.inl (0, 56, none)) := rfl
theorem sh_92 : SH[92]? = some (.inr (1, [96, 0])) := rfl
theorem sh_93 : SH[93]? = some (.inl (0, 56, none)) := rfl
theorem sh_94 : SH[94]? = some (.inr (1, [98, 0])) := rfl
theorem sh_95 : SH[95]? = some (.inl (0, 56, none)) := rfl
theorem sh_96 : SH[96]? = some (.inr (1, [100, 0])) := rfl
theorem sh_97 : SH[97]? = some (.inl (0, 56, none)) := rfl
theorem sh_98 : SH[98]? = some (.inr (1, [102, 0])) := rfl
theorem sh_99 : SH[99]? = some (.inl (0, 56, none)) := rfl
theorem sh_100 : SH[100]? = some (.inr (1, [104, 0])) := rfl
theorem sh_101 : SH[101]? = some (.inl (0, 56, none)) := rfl
theorem sh_102 : SH[102]? = some (.inr (1, [106, 0])) := rfl
theorem sh_103 : SH[103]? = some (.inl (0, 56, none)) := rfl
theorem sh_104 : SH[104]? = some (.inr (1, [108, 0])) := rfl
theorem sh_105 : SH[105]? = some (.inl (0, 56, none)) := rfl
theorem sh_106 : SH[106]? = some (.inr (6, [110, 111, 0])) := rfl
theorem sh_107 : SH[107]? = some (.inl (0, 57, none)) := rfl
theorem sh_108 : SH[108]? = some (.inl (0, 57, none)) := rfl
theorem sh_109 : SH[109]? = some (.inr (2, [113, 116, 0])) := rfl
theorem sh_110 : SH[110]? = some (.inr (4, [114, 0])) := rfl
theorem sh_111 : SH[111]? = some (.inr (1, [115, 0])) := rfl
theorem sh_112 : SH[112]? = some (.inl (0, 25, none)) := rfl
theorem sh_113 : SH[113]? = some (.inr (1, [117, 0])) := rfl
theorem sh_114 : SH[114]? = some (.inl (0, 8, none)) := rfl
theorem sh_115 : SH[115]? = some (.inr (7, [119, 121, 123, 1, 0, 0, 0, 0])) := rfl
theorem sh_116 : SH[116]? = some (.inr (1, [120, 0])) := rfl
theorem sh_117 : SH[117]? = some (.inl (0, 5, none)) := rfl
theorem sh_118 : SH[118]? = some (.inr (1, [122, 0])) := rfl
theorem sh_119 : SH[119]? = some (.inl (0, 56, none)) := rfl
theorem sh_120 : SH[120]? = some (.inr (1, [124, 0])) := rfl
theorem sh_121 : SH[121]? = some (.inl (0, 56, none)) := rfl
-- {'m': 0, 'x': 21, 'ru': 22, 'pg': 29, 'ik': 31, 'rw': 33, 'rd': 35, 'sp': 40, 'cl': 43, 'r': 44, 'le': 47, 'on': 49, 'ot': 51, 'tx': 53, 'ts0': 54, 'of': 104, 's2': 106, 'pa': 109, 'r2': 110, 'sg': 113, 'tr': 115, 't1': 116, 't2': 118, 't3': 120}
