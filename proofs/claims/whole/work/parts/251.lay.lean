/-- the cells: DyerBells -/
def LX : List CD := [.inl (9, [(0, 1), (1, 0), (0, 3), (0, 36), (0, 69), (0, 102), (1, 0), (1, 0), (0, 135), (0, 142), (1, 0), (0, 149), (0, 150), (0, 151), (1, 0), (1, 0), (0, 152)]), .inl (7, [(0, 2), (1, 0), (1, 0), (1, 0), (1, 0), (1, 0), (1, 0), (1, 0), (1, 0), (2, 0), (1, 0), (1, 0)]), .inr (2, 940), .inl (4, [(0, 4), (0, 22), (0, 26), (0, 30)]), .inl (3, [(0, 5), (1, 0), (0, 9), (0, 10), (1, 0), (1, 0), (0, 11), (0, 12), (0, 13), (1, 0), (0, 14), (0, 15), (0, 16), (0, 17), (0, 18), (1, 0), (1, 0), (0, 19), (0, 20), (0, 21)]), .inl (0, [(1, 0), (0, 6), (0, 7), (0, 8)]), .inr (1, 26), .inr (0, 26), .inr (0, 26), .inr (0, 10), .inr (0, 10), .inr (0, 6), .inr (0, 6), .inr (0, 24), .inr (0, 6), .inr (0, 6), .inr (0, 6), .inr (0, 24), .inr (0, 7), .inr (0, 12), .inr (0, 12), .inr (0, 12), .inl (1, [(1, 0), (0, 23), (0, 24), (0, 25)]), .inr (0, 40), .inr (0, 40), .inr (0, 40), .inl (6, [(1, 0), (0, 27), (0, 28), (0, 29)]), .inr (0, 20), .inr (0, 20), .inr (0, 20), .inl (5, [(1, 0), (1, 0), (0, 31), (0, 32), (0, 33), (0, 34), (0, 35)]), .inr (0, 40), .inr (0, 40), .inr (0, 40), .inr (0, 40), .inr (0, 40), .inl (4, [(0, 37), (0, 55), (0, 59), (0, 63)]), .inl (3, [(0, 38), (1, 0), (0, 42), (0, 43), (1, 0), (1, 0), (0, 44), (0, 45), (0, 46), (1, 0), (0, 47), (0, 48), (0, 49), (0, 50), (0, 51), (1, 0), (1, 0), (0, 52), (0, 53), (0, 54)]), .inl (0, [(1, 0), (0, 39), (0, 40), (0, 41)]), .inr (1, 26), .inr (0, 26), .inr (0, 26), .inr (0, 10), .inr (0, 10), .inr (0, 6), .inr (0, 6), .inr (0, 24), .inr (0, 6), .inr (0, 6), .inr (0, 6), .inr (0, 24), .inr (0, 7), .inr (0, 12), .inr (0, 12), .inr (0, 12), .inl (1, [(1, 0), (0, 56), (0, 57), (0, 58)]), .inr (0, 40), .inr (0, 40), .inr (0, 40), .inl (6, [(1, 0), (0, 60), (0, 61), (0, 62)]), .inr (0, 20), .inr (0, 20), .inr (0, 20), .inl (5, [(1, 0), (1, 0), (0, 64), (0, 65), (0, 66), (0, 67), (0, 68)]), .inr (0, 40), .inr (0, 40), .inr (0, 40), .inr (0, 40), .inr (0, 40), .inl (4, [(0, 70), (0, 88), (0, 92), (0, 96)]), .inl (3, [(0, 71), (1, 0), (0, 75), (0, 76), (1, 0), (1, 0), (0, 77), (0, 78), (0, 79), (1, 0), (0, 80), (0, 81), (0, 82), (0, 83), (0, 84), (1, 0), (1, 0), (0, 85), (0, 86), (0, 87)]), .inl (0, [(1, 0), (0, 72), (0, 73), (0, 74)]), .inr (1, 26), .inr (0, 26), .inr (0, 26), .inr (0, 10), .inr (0, 10), .inr (0, 6), .inr (0, 6), .inr (0, 24), .inr (0, 6), .inr (0, 6), .inr (0, 6), .inr (0, 24), .inr (0, 7), .inr (0, 12), .inr (0, 12), .inr (0, 12), .inl (1, [(1, 0), (0, 89), (0, 90), (0, 91)]), .inr (0, 40), .inr (0, 40), .inr (0, 40), .inl (6, [(1, 0), (0, 93), (0, 94), (0, 95)]), .inr (0, 20), .inr (0, 20), .inr (0, 20), .inl (5, [(1, 0), (1, 0), (0, 97), (0, 98), (0, 99), (0, 100), (0, 101)]), .inr (0, 40), .inr (0, 40), .inr (0, 40), .inr (0, 40), .inr (0, 40), .inl (4, [(0, 103), (0, 121), (0, 125), (0, 129)]), .inl (3, [(0, 104), (1, 0), (0, 108), (0, 109), (1, 0), (1, 0), (0, 110), (0, 111), (0, 112), (1, 0), (0, 113), (0, 114), (0, 115), (0, 116), (0, 117), (1, 0), (1, 0), (0, 118), (0, 119), (0, 120)]), .inl (0, [(1, 0), (0, 105), (0, 106), (0, 107)]), .inr (1, 26), .inr (0, 26), .inr (0, 26), .inr (0, 10), .inr (0, 10), .inr (0, 6), .inr (0, 6), .inr (0, 24), .inr (0, 6), .inr (0, 6), .inr (0, 6), .inr (0, 24), .inr (0, 7), .inr (0, 12), .inr (0, 12), .inr (0, 12), .inl (1, [(1, 0), (0, 122), (0, 123), (0, 124)]), .inr (0, 40), .inr (0, 40), .inr (0, 40), .inl (6, [(1, 0), (0, 126), (0, 127), (0, 128)]), .inr (0, 20), .inr (0, 20), .inr (0, 20), .inl (5, [(1, 0), (1, 0), (0, 130), (0, 131), (0, 132), (0, 133), (0, 134)]), .inr (0, 40), .inr (0, 40), .inr (0, 40), .inr (0, 40), .inr (0, 40), .inl (8, [(0, 136), (0, 137), (0, 138), (0, 139), (0, 140), (0, 141)]), .inr (0, 10), .inr (0, 7), .inr (0, 168), .inr (0, 40), .inr (0, 40), .inr (0, 4), .inl (2, [(0, 143), (0, 144), (0, 145), (0, 146), (0, 147), (0, 148)]), .inr (0, 6720), .inr (0, 6720), .inr (0, 672), .inr (0, 168), .inr (0, 168), .inr (0, 169), .inr (0, 4), .inr (0, 4), .inr (0, 4), .inr (0, 3)]
theorem lx_0 : LX[0]? = some (.inl (9, [(0, 1), (1, 0), (0, 3), (0, 36), (0, 69), (0, 102), (1, 0), (1, 0), (0, 135), (0, 142), (1, 0), (0, 149), (0, 150), (0, 151), (1, 0), (1, 0), (0, 152)])) := by decide +kernel
theorem lx_1 : LX[1]? = some (.inl (7, [(0, 2), (1, 0), (1, 0), (1, 0), (1, 0), (1, 0), (1, 0), (1, 0), (1, 0), (2, 0), (1, 0), (1, 0)])) := by decide +kernel
theorem lx_2 : LX[2]? = some (.inr (2, 940)) := by decide +kernel
theorem lx_3 : LX[3]? = some (.inl (4, [(0, 4), (0, 22), (0, 26), (0, 30)])) := by decide +kernel
theorem lx_4 : LX[4]? = some (.inl (3, [(0, 5), (1, 0), (0, 9), (0, 10), (1, 0), (1, 0), (0, 11), (0, 12), (0, 13), (1, 0), (0, 14), (0, 15), (0, 16), (0, 17), (0, 18), (1, 0), (1, 0), (0, 19), (0, 20), (0, 21)])) := by decide +kernel
theorem lx_5 : LX[5]? = some (.inl (0, [(1, 0), (0, 6), (0, 7), (0, 8)])) := by decide +kernel
theorem lx_6 : LX[6]? = some (.inr (1, 26)) := by decide +kernel
theorem lx_7 : LX[7]? = some (.inr (0, 26)) := by decide +kernel
theorem lx_8 : LX[8]? = some (.inr (0, 26)) := by decide +kernel
theorem lx_9 : LX[9]? = some (.inr (0, 10)) := by decide +kernel
theorem lx_10 : LX[10]? = some (.inr (0, 10)) := by decide +kernel
theorem lx_11 : LX[11]? = some (.inr (0, 6)) := by decide +kernel
theorem lx_12 : LX[12]? = some (.inr (0, 6)) := by decide +kernel
theorem lx_13 : LX[13]? = some (.inr (0, 24)) := by decide +kernel
theorem lx_14 : LX[14]? = some (.inr (0, 6)) := by decide +kernel
theorem lx_15 : LX[15]? = some (.inr (0, 6)) := by decide +kernel
theorem lx_16 : LX[16]? = some (.inr (0, 6)) := by decide +kernel
theorem lx_17 : LX[17]? = some (.inr (0, 24)) := by decide +kernel
theorem lx_18 : LX[18]? = some (.inr (0, 7)) := by decide +kernel
theorem lx_19 : LX[19]? = some (.inr (0, 12)) := by decide +kernel
theorem lx_20 : LX[20]? = some (.inr (0, 12)) := by decide +kernel
theorem lx_21 : LX[21]? = some (.inr (0, 12)) := by decide +kernel
theorem lx_22 : LX[22]? = some (.inl (1, [(1, 0), (0, 23), (0, 24), (0, 25)])) := by decide +kernel
theorem lx_23 : LX[23]? = some (.inr (0, 40)) := by decide +kernel
theorem lx_24 : LX[24]? = some (.inr (0, 40)) := by decide +kernel
theorem lx_25 : LX[25]? = some (.inr (0, 40)) := by decide +kernel
theorem lx_26 : LX[26]? = some (.inl (6, [(1, 0), (0, 27), (0, 28), (0, 29)])) := by decide +kernel
theorem lx_27 : LX[27]? = some (.inr (0, 20)) := by decide +kernel
theorem lx_28 : LX[28]? = some (.inr (0, 20)) := by decide +kernel
theorem lx_29 : LX[29]? = some (.inr (0, 20)) := by decide +kernel
theorem lx_30 : LX[30]? = some (.inl (5, [(1, 0), (1, 0), (0, 31), (0, 32), (0, 33), (0, 34), (0, 35)])) := by decide +kernel
theorem lx_31 : LX[31]? = some (.inr (0, 40)) := by decide +kernel
theorem lx_32 : LX[32]? = some (.inr (0, 40)) := by decide +kernel
theorem lx_33 : LX[33]? = some (.inr (0, 40)) := by decide +kernel
theorem lx_34 : LX[34]? = some (.inr (0, 40)) := by decide +kernel
theorem lx_35 : LX[35]? = some (.inr (0, 40)) := by decide +kernel
theorem lx_36 : LX[36]? = some (.inl (4, [(0, 37), (0, 55), (0, 59), (0, 63)])) := by decide +kernel
theorem lx_37 : LX[37]? = some (.inl (3, [(0, 38), (1, 0), (0, 42), (0, 43), (1, 0), (1, 0), (0, 44), (0, 45), (0, 46), (1, 0), (0, 47), (0, 48), (0, 49), (0, 50), (0, 51), (1, 0), (1, 0), (0, 52), (0, 53), (0, 54)])) := by decide +kernel
theorem lx_38 : LX[38]? = some (.inl (0, [(1, 0), (0, 39), (0, 40), (0, 41)])) := by decide +kernel
theorem lx_39 : LX[39]? = some (.inr (1, 26)) := by decide +kernel
theorem lx_40 : LX[40]? = some (.inr (0, 26)) := by decide +kernel
theorem lx_41 : LX[41]? = some (.inr (0, 26)) := by decide +kernel
theorem lx_42 : LX[42]? = some (.inr (0, 10)) := by decide +kernel
theorem lx_43 : LX[43]? = some (.inr (0, 10)) := by decide +kernel
theorem lx_44 : LX[44]? = some (.inr (0, 6)) := by decide +kernel
theorem lx_45 : LX[45]? = some (.inr (0, 6)) := by decide +kernel
theorem lx_46 : LX[46]? = some (.inr (0, 24)) := by decide +kernel
theorem lx_47 : LX[47]? = some (.inr (0, 6)) := by decide +kernel
theorem lx_48 : LX[48]? = some (.inr (0, 6)) := by decide +kernel
theorem lx_49 : LX[49]? = some (.inr (0, 6)) := by decide +kernel
theorem lx_50 : LX[50]? = some (.inr (0, 24)) := by decide +kernel
theorem lx_51 : LX[51]? = some (.inr (0, 7)) := by decide +kernel
theorem lx_52 : LX[52]? = some (.inr (0, 12)) := by decide +kernel
theorem lx_53 : LX[53]? = some (.inr (0, 12)) := by decide +kernel
theorem lx_54 : LX[54]? = some (.inr (0, 12)) := by decide +kernel
theorem lx_55 : LX[55]? = some (.inl (1, [(1, 0), (0, 56), (0, 57), (0, 58)])) := by decide +kernel
theorem lx_56 : LX[56]? = some (.inr (0, 40)) := by decide +kernel
theorem lx_57 : LX[57]? = some (.inr (0, 40)) := by decide +kernel
theorem lx_58 : LX[58]? = some (.inr (0, 40)) := by decide +kernel
theorem lx_59 : LX[59]? = some (.inl (6, [(1, 0), (0, 60), (0, 61), (0, 62)])) := by decide +kernel
theorem lx_60 : LX[60]? = some (.inr (0, 20)) := by decide +kernel
theorem lx_61 : LX[61]? = some (.inr (0, 20)) := by decide +kernel
theorem lx_62 : LX[62]? = some (.inr (0, 20)) := by decide +kernel
theorem lx_63 : LX[63]? = some (.inl (5, [(1, 0), (1, 0), (0, 64), (0, 65), (0, 66), (0, 67), (0, 68)])) := by decide +kernel
theorem lx_64 : LX[64]? = some (.inr (0, 40)) := by decide +kernel
theorem lx_65 : LX[65]? = some (.inr (0, 40)) := by decide +kernel
theorem lx_66 : LX[66]? = some (.inr (0, 40)) := by decide +kernel
theorem lx_67 : LX[67]? = some (.inr (0, 40)) := by decide +kernel
theorem lx_68 : LX[68]? = some (.inr (0, 40)) := by decide +kernel
theorem lx_69 : LX[69]? = some (.inl (4, [(0, 70), (0, 88), (0, 92), (0, 96)])) := by decide +kernel
theorem lx_70 : LX[70]? = some (.inl (3, [(0, 71), (1, 0), (0, 75), (0, 76), (1, 0), (1, 0), (0, 77), (0, 78), (0, 79), (1, 0), (0, 80), (0, 81), (0, 82), (0, 83), (0, 84), (1, 0), (1, 0), (0, 85), (0, 86), (0, 87)])) := by decide +kernel
theorem lx_71 : LX[71]? = some (.inl (0, [(1, 0), (0, 72), (0, 73), (0, 74)])) := by decide +kernel
theorem lx_72 : LX[72]? = some (.inr (1, 26)) := by decide +kernel
theorem lx_73 : LX[73]? = some (.inr (0, 26)) := by decide +kernel
theorem lx_74 : LX[74]? = some (.inr (0, 26)) := by decide +kernel
theorem lx_75 : LX[75]? = some (.inr (0, 10)) := by decide +kernel
theorem lx_76 : LX[76]? = some (.inr (0, 10)) := by decide +kernel
theorem lx_77 : LX[77]? = some (.inr (0, 6)) := by decide +kernel
theorem lx_78 : LX[78]? = some (.inr (0, 6)) := by decide +kernel
theorem lx_79 : LX[79]? = some (.inr (0, 24)) := by decide +kernel
theorem lx_80 : LX[80]? = some (.inr (0, 6)) := by decide +kernel
theorem lx_81 : LX[81]? = some (.inr (0, 6)) := by decide +kernel
theorem lx_82 : LX[82]? = some (.inr (0, 6)) := by decide +kernel
theorem lx_83 : LX[83]? = some (.inr (0, 24)) := by decide +kernel
theorem lx_84 : LX[84]? = some (.inr (0, 7)) := by decide +kernel
theorem lx_85 : LX[85]? = some (.inr (0, 12)) := by decide +kernel
theorem lx_86 : LX[86]? = some (.inr (0, 12)) := by decide +kernel
theorem lx_87 : LX[87]? = some (.inr (0, 12)) := by decide +kernel
theorem lx_88 : LX[88]? = some (.inl (1, [(1, 0), (0, 89), (0, 90), (0, 91)])) := by decide +kernel
theorem lx_89 : LX[89]? = some (.inr (0, 40)) := by decide +kernel
theorem lx_90 : LX[90]? = some (.inr (0, 40)) := by decide +kernel
theorem lx_91 : LX[91]? = some (.inr (0, 40)) := by decide +kernel
theorem lx_92 : LX[92]? = some (.inl (6, [(1, 0), (0, 93), (0, 94), (0, 95)])) := by decide +kernel
theorem lx_93 : LX[93]? = some (.inr (0, 20)) := by decide +kernel
theorem lx_94 : LX[94]? = some (.inr (0, 20)) := by decide +kernel
theorem lx_95 : LX[95]? = some (.inr (0, 20)) := by decide +kernel
theorem lx_96 : LX[96]? = some (.inl (5, [(1, 0), (1, 0), (0, 97), (0, 98), (0, 99), (0, 100), (0, 101)])) := by decide +kernel
theorem lx_97 : LX[97]? = some (.inr (0, 40)) := by decide +kernel
theorem lx_98 : LX[98]? = some (.inr (0, 40)) := by decide +kernel
theorem lx_99 : LX[99]? = some (.inr (0, 40)) := by decide +kernel
theorem lx_100 : LX[100]? = some (.inr (0, 40)) := by decide +kernel
theorem lx_101 : LX[101]? = some (.inr (0, 40)) := by decide +kernel
theorem lx_102 : LX[102]? = some (.inl (4, [(0, 103), (0, 121), (0, 125), (0, 129)])) := by decide +kernel
theorem lx_103 : LX[103]? = some (.inl (3, [(0, 104), (1, 0), (0, 108), (0, 109), (1, 0), (1, 0), (0, 110), (0, 111), (0, 112), (1, 0), (0, 113), (0, 114), (0, 115), (0, 116), (0, 117), (1, 0), (1, 0), (0, 118), (0, 119), (0, 120)])) := by decide +kernel
theorem lx_104 : LX[104]? = some (.inl (0, [(1, 0), (0, 105), (0, 106), (0, 107)])) := by decide +kernel
theorem lx_105 : LX[105]? = some (.inr (1, 26)) := by decide +kernel
theorem lx_106 : LX[106]? = some (.inr (0, 26)) := by decide +kernel
theorem lx_107 : LX[107]? = some (.inr (0, 26)) := by decide +kernel
theorem lx_108 : LX[108]? = some (.inr (0, 10)) := by decide +kernel
theorem lx_109 : LX[109]? = some (.inr (0, 10)) := by decide +kernel
theorem lx_110 : LX[110]? = some (.inr (0, 6)) := by decide +kernel
theorem lx_111 : LX[111]? = some (.inr (0, 6)) := by decide +kernel
theorem lx_112 : LX[112]? = some (.inr (0, 24)) := by decide +kernel
theorem lx_113 : LX[113]? = some (.inr (0, 6)) := by decide +kernel
theorem lx_114 : LX[114]? = some (.inr (0, 6)) := by decide +kernel
theorem lx_115 : LX[115]? = some (.inr (0, 6)) := by decide +kernel
theorem lx_116 : LX[116]? = some (.inr (0, 24)) := by decide +kernel
theorem lx_117 : LX[117]? = some (.inr (0, 7)) := by decide +kernel
theorem lx_118 : LX[118]? = some (.inr (0, 12)) := by decide +kernel
theorem lx_119 : LX[119]? = some (.inr (0, 12)) := by decide +kernel
theorem lx_120 : LX[120]? = some (.inr (0, 12)) := by decide +kernel
theorem lx_121 : LX[121]? = some (.inl (1, [(1, 0), (0, 122), (0, 123), (0, 124)])) := by decide +kernel
theorem lx_122 : LX[122]? = some (.inr (0, 40)) := by decide +kernel
theorem lx_123 : LX[123]? = some (.inr (0, 40)) := by decide +kernel
theorem lx_124 : LX[124]? = some (.inr (0, 40)) := by decide +kernel
theorem lx_125 : LX[125]? = some (.inl (6, [(1, 0), (0, 126), (0, 127), (0, 128)])) := by decide +kernel
theorem lx_126 : LX[126]? = some (.inr (0, 20)) := by decide +kernel
theorem lx_127 : LX[127]? = some (.inr (0, 20)) := by decide +kernel
theorem lx_128 : LX[128]? = some (.inr (0, 20)) := by decide +kernel
theorem lx_129 : LX[129]? = some (.inl (5, [(1, 0), (1, 0), (0, 130), (0, 131), (0, 132), (0, 133), (0, 134)])) := by decide +kernel
theorem lx_130 : LX[130]? = some (.inr (0, 40)) := by decide +kernel
theorem lx_131 : LX[131]? = some (.inr (0, 40)) := by decide +kernel
theorem lx_132 : LX[132]? = some (.inr (0, 40)) := by decide +kernel
theorem lx_133 : LX[133]? = some (.inr (0, 40)) := by decide +kernel
theorem lx_134 : LX[134]? = some (.inr (0, 40)) := by decide +kernel
theorem lx_135 : LX[135]? = some (.inl (8, [(0, 136), (0, 137), (0, 138), (0, 139), (0, 140), (0, 141)])) := by decide +kernel
theorem lx_136 : LX[136]? = some (.inr (0, 10)) := by decide +kernel
theorem lx_137 : LX[137]? = some (.inr (0, 7)) := by decide +kernel
theorem lx_138 : LX[138]? = some (.inr (0, 168)) := by decide +kernel
theorem lx_139 : LX[139]? = some (.inr (0, 40)) := by decide +kernel
theorem lx_140 : LX[140]? = some (.inr (0, 40)) := by decide +kernel
theorem lx_141 : LX[141]? = some (.inr (0, 4)) := by decide +kernel
theorem lx_142 : LX[142]? = some (.inl (2, [(0, 143), (0, 144), (0, 145), (0, 146), (0, 147), (0, 148)])) := by decide +kernel
theorem lx_143 : LX[143]? = some (.inr (0, 6720)) := by decide +kernel
theorem lx_144 : LX[144]? = some (.inr (0, 6720)) := by decide +kernel
theorem lx_145 : LX[145]? = some (.inr (0, 672)) := by decide +kernel
theorem lx_146 : LX[146]? = some (.inr (0, 168)) := by decide +kernel
theorem lx_147 : LX[147]? = some (.inr (0, 168)) := by decide +kernel
theorem lx_148 : LX[148]? = some (.inr (0, 169)) := by decide +kernel
theorem lx_149 : LX[149]? = some (.inr (0, 4)) := by decide +kernel
theorem lx_150 : LX[150]? = some (.inr (0, 4)) := by decide +kernel
theorem lx_151 : LX[151]? = some (.inr (0, 4)) := by decide +kernel
theorem lx_152 : LX[152]? = some (.inr (0, 3)) := by decide +kernel
theorem LX_ok : fw_ok LX := by
  have h : (LX.all fun q => match q with | .inl o => decide (o.2.length ≤ 64) | .inr _ => true) = true := by decide +kernel
  intro k o ho
  have h1 := List.all_eq_true.mp h _ (List.mem_of_getElem? ho)
  simpa using h1
/-- the cells: DyerBellsModel -/
def LM : List CD := [.inl (10, [(1, 0), (0, 1), (1, 0), (1, 0), (1, 0), (1, 0), (1, 0), (1, 0), (1, 0), (1, 0), (1, 0), (1, 0), (2, 0), (1, 0), (0, 2), (0, 3), (0, 4), (0, 5), (0, 6), (0, 7), (0, 8), (0, 9), (1, 0), (1, 0), (1, 0), (1, 0), (0, 10), (0, 11), (0, 12), (0, 13), (0, 14), (0, 15), (0, 16), (0, 17), (1, 0), (1, 0), (1, 0), (0, 18), (0, 19), (0, 20), (0, 21), (0, 22), (1, 0), (1, 0), (1, 0), (1, 0), (0, 23), (0, 24), (1, 0), (0, 25), (1, 0), (1, 0), (1, 0), (1, 0)]), .inr (0, 940), .inr (0, 592), .inr (0, 160), .inr (0, 1184), .inr (0, 120), .inr (1, 26), .inr (1, 26), .inr (1, 52), .inr (3, 2), .inr (0, 168), .inr (0, 40), .inr (0, 40), .inr (0, 672), .inr (0, 4), .inr (0, 7), .inr (0, 6720), .inr (0, 6720), .inr (3, 168), .inr (0, 4), .inr (0, 4), .inr (0, 4), .inr (0, 4), .inr (0, 3), .inr (0, 168), .inr (0, 240)]
theorem lm_0 : LM[0]? = some (.inl (10, [(1, 0), (0, 1), (1, 0), (1, 0), (1, 0), (1, 0), (1, 0), (1, 0), (1, 0), (1, 0), (1, 0), (1, 0), (2, 0), (1, 0), (0, 2), (0, 3), (0, 4), (0, 5), (0, 6), (0, 7), (0, 8), (0, 9), (1, 0), (1, 0), (1, 0), (1, 0), (0, 10), (0, 11), (0, 12), (0, 13), (0, 14), (0, 15), (0, 16), (0, 17), (1, 0), (1, 0), (1, 0), (0, 18), (0, 19), (0, 20), (0, 21), (0, 22), (1, 0), (1, 0), (1, 0), (1, 0), (0, 23), (0, 24), (1, 0), (0, 25), (1, 0), (1, 0), (1, 0), (1, 0)])) := by decide +kernel
theorem lm_1 : LM[1]? = some (.inr (0, 940)) := by decide +kernel
theorem lm_2 : LM[2]? = some (.inr (0, 592)) := by decide +kernel
theorem lm_3 : LM[3]? = some (.inr (0, 160)) := by decide +kernel
theorem lm_4 : LM[4]? = some (.inr (0, 1184)) := by decide +kernel
theorem lm_5 : LM[5]? = some (.inr (0, 120)) := by decide +kernel
theorem lm_6 : LM[6]? = some (.inr (1, 26)) := by decide +kernel
theorem lm_7 : LM[7]? = some (.inr (1, 26)) := by decide +kernel
theorem lm_8 : LM[8]? = some (.inr (1, 52)) := by decide +kernel
theorem lm_9 : LM[9]? = some (.inr (3, 2)) := by decide +kernel
theorem lm_10 : LM[10]? = some (.inr (0, 168)) := by decide +kernel
theorem lm_11 : LM[11]? = some (.inr (0, 40)) := by decide +kernel
theorem lm_12 : LM[12]? = some (.inr (0, 40)) := by decide +kernel
theorem lm_13 : LM[13]? = some (.inr (0, 672)) := by decide +kernel
theorem lm_14 : LM[14]? = some (.inr (0, 4)) := by decide +kernel
theorem lm_15 : LM[15]? = some (.inr (0, 7)) := by decide +kernel
theorem lm_16 : LM[16]? = some (.inr (0, 6720)) := by decide +kernel
theorem lm_17 : LM[17]? = some (.inr (0, 6720)) := by decide +kernel
theorem lm_18 : LM[18]? = some (.inr (3, 168)) := by decide +kernel
theorem lm_19 : LM[19]? = some (.inr (0, 4)) := by decide +kernel
theorem lm_20 : LM[20]? = some (.inr (0, 4)) := by decide +kernel
theorem lm_21 : LM[21]? = some (.inr (0, 4)) := by decide +kernel
theorem lm_22 : LM[22]? = some (.inr (0, 4)) := by decide +kernel
theorem lm_23 : LM[23]? = some (.inr (0, 3)) := by decide +kernel
theorem lm_24 : LM[24]? = some (.inr (0, 168)) := by decide +kernel
theorem lm_25 : LM[25]? = some (.inr (0, 240)) := by decide +kernel
theorem LM_ok : fw_ok LM := by
  have h : (LM.all fun q => match q with | .inl o => decide (o.2.length ≤ 64) | .inr _ => true) = true := by decide +kernel
  intro k o ho
  have h1 := List.all_eq_true.mp h _ (List.mem_of_getElem? ho)
  simpa using h1
