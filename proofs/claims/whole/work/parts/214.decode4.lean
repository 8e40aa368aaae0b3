theorem dX12_duty_55 : decode cX12_duty 55 = .ok (.invokestatic 220, 3) := by decide +kernel
theorem dX12_duty_58 : decode cX12_duty 58 = .ok (.ifCond .eq 6, 3) := by decide +kernel
theorem dX12_duty_61 : decode cX12_duty 61 = .ok (.iinc 2 (-1), 3) := by decide +kernel
theorem dX12_duty_64 : decode cX12_duty 64 = .ok (.iinc 3 1, 3) := by decide +kernel
theorem dX12_duty_67 : decode cX12_duty 67 = .ok (.goto (-26), 3) := by decide +kernel
theorem dX12_duty_70 : decode cX12_duty 70 = .ok (.iload_n 2, 1) := by decide +kernel
theorem dX12_duty_71 : decode cX12_duty 71 = .ok (.ifCond .le 7, 3) := by decide +kernel
theorem dX12_duty_74 : decode cX12_duty 74 = .ok (.iload_n 2, 1) := by decide +kernel
theorem dX12_duty_75 : decode cX12_duty 75 = .ok (.goto 4, 3) := by decide +kernel
theorem dX12_duty_78 : decode cX12_duty 78 = .ok (.iconst 0, 1) := by decide +kernel
theorem dX12_duty_79 : decode cX12_duty 79 = .ok (.ireturn, 1) := by decide +kernel
theorem dX12_pulse_0 : decode cX12_pulse 0 = .ok (.aload_n 0, 1) := by decide +kernel
theorem dX12_pulse_1 : decode cX12_pulse 1 = .ok (.iconst 0, 1) := by decide +kernel
theorem dX12_pulse_2 : decode cX12_pulse 2 = .ok (.putfield 91, 3) := by decide +kernel
theorem dX12_pulse_5 : decode cX12_pulse 5 = .ok (.aload_n 0, 1) := by decide +kernel
theorem dX12_pulse_6 : decode cX12_pulse 6 = .ok (.invokevirtual 175, 3) := by decide +kernel
theorem dX12_pulse_9 : decode cX12_pulse 9 = .ok (.aload_n 0, 1) := by decide +kernel
theorem dX12_pulse_10 : decode cX12_pulse 10 = .ok (.iload_n 1, 1) := by decide +kernel
theorem dX12_pulse_11 : decode cX12_pulse 11 = .ok (.invokevirtual 268, 3) := by decide +kernel
theorem dX12_pulse_14 : decode cX12_pulse 14 = .ok (.ifCond .eq 32, 3) := by decide +kernel
theorem dX12_pulse_17 : decode cX12_pulse 17 = .ok (.aload_n 0, 1) := by decide +kernel
theorem dX12_pulse_18 : decode cX12_pulse 18 = .ok (.iload_n 2, 1) := by decide +kernel
theorem dX12_pulse_19 : decode cX12_pulse 19 = .ok (.invokevirtual 331, 3) := by decide +kernel
theorem dX12_pulse_22 : decode cX12_pulse 22 = .ok (.ifCond .eq 24, 3) := by decide +kernel
theorem dX12_pulse_25 : decode cX12_pulse 25 = .ok (.iload_n 3, 1) := by decide +kernel
theorem dX12_pulse_26 : decode cX12_pulse 26 = .ok (.iconst 1, 1) := by decide +kernel
theorem dX12_pulse_27 : decode cX12_pulse 27 = .ok (.sipush 9999, 3) := by decide +kernel
theorem dX12_pulse_30 : decode cX12_pulse 30 = .ok (.invokestatic 162, 3) := by decide +kernel
theorem dX12_pulse_33 : decode cX12_pulse 33 = .ok (.ifCond .eq 13, 3) := by decide +kernel
theorem dX12_pulse_36 : decode cX12_pulse 36 = .ok (.iload 4, 2) := by decide +kernel
theorem dX12_pulse_38 : decode cX12_pulse 38 = .ok (.iconst 0, 1) := by decide +kernel
theorem dX12_pulse_39 : decode cX12_pulse 39 = .ok (.iconst 2, 1) := by decide +kernel
theorem dX12_pulse_40 : decode cX12_pulse 40 = .ok (.invokestatic 162, 3) := by decide +kernel
theorem dX12_pulse_43 : decode cX12_pulse 43 = .ok (.ifCond .ne 6, 3) := by decide +kernel
theorem dX12_pulse_46 : decode cX12_pulse 46 = .ok (.bipush (-2), 2) := by decide +kernel
theorem dX12_pulse_48 : decode cX12_pulse 48 = .ok (.ireturn, 1) := by decide +kernel
theorem dX12_pulse_49 : decode cX12_pulse 49 = .ok (.iconst 0, 1) := by decide +kernel
theorem dX12_pulse_50 : decode cX12_pulse 50 = .ok (.istore 5, 2) := by decide +kernel
theorem dX12_pulse_52 : decode cX12_pulse 52 = .ok (.iload 5, 2) := by decide +kernel
theorem dX12_pulse_54 : decode cX12_pulse 54 = .ok (.sipush 168, 3) := by decide +kernel
theorem dX12_pulse_57 : decode cX12_pulse 57 = .ok (.if_icmp .ge 17, 3) := by decide +kernel
theorem dX12_pulse_60 : decode cX12_pulse 60 = .ok (.aload_n 0, 1) := by decide +kernel
theorem dX12_pulse_61 : decode cX12_pulse 61 = .ok (.getfield 39, 3) := by decide +kernel
theorem dX12_pulse_64 : decode cX12_pulse 64 = .ok (.iload 5, 2) := by decide +kernel
theorem dX12_pulse_66 : decode cX12_pulse 66 = .ok (.iconst 0, 1) := by decide +kernel
theorem dX12_pulse_67 : decode cX12_pulse 67 = .ok (.iastore, 1) := by decide +kernel
theorem dX12_pulse_68 : decode cX12_pulse 68 = .ok (.iinc 5 1, 3) := by decide +kernel
theorem dX12_pulse_71 : decode cX12_pulse 71 = .ok (.goto (-19), 3) := by decide +kernel
theorem dX12_pulse_74 : decode cX12_pulse 74 = .ok (.aload_n 0, 1) := by decide +kernel
theorem dX12_pulse_75 : decode cX12_pulse 75 = .ok (.invokevirtual 307, 3) := by decide +kernel
theorem dX12_pulse_78 : decode cX12_pulse 78 = .ok (.aload_n 0, 1) := by decide +kernel
theorem dX12_pulse_79 : decode cX12_pulse 79 = .ok (.iload_n 1, 1) := by decide +kernel
theorem dX12_pulse_80 : decode cX12_pulse 80 = .ok (.putfield 63, 3) := by decide +kernel
theorem dX12_pulse_83 : decode cX12_pulse 83 = .ok (.aload_n 0, 1) := by decide +kernel
theorem dX12_pulse_84 : decode cX12_pulse 84 = .ok (.iload_n 2, 1) := by decide +kernel
theorem dX12_pulse_85 : decode cX12_pulse 85 = .ok (.putfield 293, 3) := by decide +kernel
theorem dX12_pulse_88 : decode cX12_pulse 88 = .ok (.aload_n 0, 1) := by decide +kernel
theorem dX12_pulse_89 : decode cX12_pulse 89 = .ok (.iload_n 3, 1) := by decide +kernel
theorem dX12_pulse_90 : decode cX12_pulse 90 = .ok (.putfield 296, 3) := by decide +kernel
theorem dX12_pulse_93 : decode cX12_pulse 93 = .ok (.aload_n 0, 1) := by decide +kernel
theorem dX12_pulse_94 : decode cX12_pulse 94 = .ok (.invokevirtual 310, 3) := by decide +kernel
theorem dX12_pulse_97 : decode cX12_pulse 97 = .ok (.aload_n 0, 1) := by decide +kernel
theorem dX12_pulse_98 : decode cX12_pulse 98 = .ok (.iconst (-1), 1) := by decide +kernel
theorem dX12_pulse_99 : decode cX12_pulse 99 = .ok (.putfield 63, 3) := by decide +kernel
theorem dX12_pulse_102 : decode cX12_pulse 102 = .ok (.iconst (-1), 1) := by decide +kernel
theorem dX12_pulse_103 : decode cX12_pulse 103 = .ok (.istore 5, 2) := by decide +kernel
theorem dX12_pulse_105 : decode cX12_pulse 105 = .ok (.iconst (-1), 1) := by decide +kernel
theorem dX12_pulse_106 : decode cX12_pulse 106 = .ok (.istore 6, 2) := by decide +kernel
theorem dX12_pulse_108 : decode cX12_pulse 108 = .ok (.iconst 0, 1) := by decide +kernel
theorem dX12_pulse_109 : decode cX12_pulse 109 = .ok (.istore 7, 2) := by decide +kernel
theorem dX12_pulse_111 : decode cX12_pulse 111 = .ok (.iconst 0, 1) := by decide +kernel
theorem dX12_pulse_112 : decode cX12_pulse 112 = .ok (.istore 8, 2) := by decide +kernel
theorem dX12_pulse_114 : decode cX12_pulse 114 = .ok (.iload 8, 2) := by decide +kernel
theorem dX12_pulse_116 : decode cX12_pulse 116 = .ok (.sipush 168, 3) := by decide +kernel
theorem dX12_pulse_119 : decode cX12_pulse 119 = .ok (.if_icmp .ge 73, 3) := by decide +kernel
theorem dX12_pulse_122 : decode cX12_pulse 122 = .ok (.aload_n 0, 1) := by decide +kernel
theorem dX12_pulse_123 : decode cX12_pulse 123 = .ok (.getfield 48, 3) := by decide +kernel
theorem dX12_pulse_126 : decode cX12_pulse 126 = .ok (.iconst 4, 1) := by decide +kernel
theorem dX12_pulse_127 : decode cX12_pulse 127 = .ok (.iload 8, 2) := by decide +kernel
theorem dX12_pulse_129 : decode cX12_pulse 129 = .ok (.imul, 1) := by decide +kernel
theorem dX12_pulse_130 : decode cX12_pulse 130 = .ok (.iload_n 2, 1) := by decide +kernel
theorem dX12_pulse_131 : decode cX12_pulse 131 = .ok (.iadd, 1) := by decide +kernel
theorem dX12_pulse_132 : decode cX12_pulse 132 = .ok (.iaload, 1) := by decide +kernel
theorem dX12_pulse_133 : decode cX12_pulse 133 = .ok (.istore 9, 2) := by decide +kernel
theorem dX12_pulse_135 : decode cX12_pulse 135 = .ok (.iload 7, 2) := by decide +kernel
theorem dX12_pulse_137 : decode cX12_pulse 137 = .ok (.iload 9, 2) := by decide +kernel
theorem dX12_pulse_139 : decode cX12_pulse 139 = .ok (.iadd, 1) := by decide +kernel
theorem dX12_pulse_140 : decode cX12_pulse 140 = .ok (.istore 7, 2) := by decide +kernel
theorem dX12_pulse_142 : decode cX12_pulse 142 = .ok (.iload 9, 2) := by decide +kernel
theorem dX12_pulse_144 : decode cX12_pulse 144 = .ok (.ifCond .ne 6, 3) := by decide +kernel
theorem dX12_pulse_147 : decode cX12_pulse 147 = .ok (.goto 39, 3) := by decide +kernel
theorem dX12_pulse_150 : decode cX12_pulse 150 = .ok (.iload 5, 2) := by decide +kernel
theorem dX12_pulse_152 : decode cX12_pulse 152 = .ok (.iconst (-1), 1) := by decide +kernel
theorem dX12_pulse_153 : decode cX12_pulse 153 = .ok (.if_icmp .ne 7, 3) := by decide +kernel
theorem dX12_pulse_156 : decode cX12_pulse 156 = .ok (.iload 8, 2) := by decide +kernel
theorem dX12_pulse_158 : decode cX12_pulse 158 = .ok (.istore 5, 2) := by decide +kernel
theorem dX12_pulse_160 : decode cX12_pulse 160 = .ok (.iload 6, 2) := by decide +kernel
theorem dX12_pulse_162 : decode cX12_pulse 162 = .ok (.iconst (-1), 1) := by decide +kernel
theorem dX12_pulse_163 : decode cX12_pulse 163 = .ok (.if_icmp .eq 19, 3) := by decide +kernel
theorem dX12_pulse_166 : decode cX12_pulse 166 = .ok (.iload 9, 2) := by decide +kernel
theorem dX12_pulse_168 : decode cX12_pulse 168 = .ok (.aload_n 0, 1) := by decide +kernel
theorem dX12_pulse_169 : decode cX12_pulse 169 = .ok (.getfield 48, 3) := by decide +kernel
theorem dX12_pulse_172 : decode cX12_pulse 172 = .ok (.iconst 4, 1) := by decide +kernel
theorem dX12_pulse_173 : decode cX12_pulse 173 = .ok (.iload 6, 2) := by decide +kernel
theorem dX12_pulse_175 : decode cX12_pulse 175 = .ok (.imul, 1) := by decide +kernel
theorem dX12_pulse_176 : decode cX12_pulse 176 = .ok (.iload_n 2, 1) := by decide +kernel
theorem dX12_pulse_177 : decode cX12_pulse 177 = .ok (.iadd, 1) := by decide +kernel
theorem dX12_pulse_178 : decode cX12_pulse 178 = .ok (.iaload, 1) := by decide +kernel
theorem dX12_pulse_179 : decode cX12_pulse 179 = .ok (.if_icmp .le 7, 3) := by decide +kernel
theorem dX12_pulse_182 : decode cX12_pulse 182 = .ok (.iload 8, 2) := by decide +kernel
theorem dX12_pulse_184 : decode cX12_pulse 184 = .ok (.istore 6, 2) := by decide +kernel
theorem dX12_pulse_186 : decode cX12_pulse 186 = .ok (.iinc 8 1, 3) := by decide +kernel
theorem dX12_pulse_189 : decode cX12_pulse 189 = .ok (.goto (-75), 3) := by decide +kernel
theorem dX12_pulse_192 : decode cX12_pulse 192 = .ok (.iload 4, 2) := by decide +kernel
theorem dX12_pulse_194 : decode cX12_pulse 194 = .ok (.ifCond .ne 8, 3) := by decide +kernel
theorem dX12_pulse_197 : decode cX12_pulse 197 = .ok (.iload 5, 2) := by decide +kernel
theorem dX12_pulse_199 : decode cX12_pulse 199 = .ok (.goto 16, 3) := by decide +kernel
theorem dX12_pulse_202 : decode cX12_pulse 202 = .ok (.iload 4, 2) := by decide +kernel
theorem dX12_pulse_204 : decode cX12_pulse 204 = .ok (.iconst 1, 1) := by decide +kernel
theorem dX12_pulse_205 : decode cX12_pulse 205 = .ok (.if_icmp .ne 8, 3) := by decide +kernel
theorem dX12_pulse_208 : decode cX12_pulse 208 = .ok (.iload 6, 2) := by decide +kernel
theorem dX12_pulse_210 : decode cX12_pulse 210 = .ok (.goto 5, 3) := by decide +kernel
theorem dX12_pulse_213 : decode cX12_pulse 213 = .ok (.iload 7, 2) := by decide +kernel
theorem dX12_pulse_215 : decode cX12_pulse 215 = .ok (.ireturn, 1) := by decide +kernel
theorem dX12_tryDays_0 : decode cX12_tryDays 0 = .ok (.iload_n 1, 1) := by decide +kernel
theorem dX12_tryDays_1 : decode cX12_tryDays 1 = .ok (.aload_n 0, 1) := by decide +kernel
theorem dX12_tryDays_2 : decode cX12_tryDays 2 = .ok (.getfield 337, 3) := by decide +kernel
theorem dX12_tryDays_5 : decode cX12_tryDays 5 = .ok (.if_icmp .ne 60, 3) := by decide +kernel
theorem dX12_tryDays_8 : decode cX12_tryDays 8 = .ok (.aload_n 0, 1) := by decide +kernel
theorem dX12_tryDays_9 : decode cX12_tryDays 9 = .ok (.invokevirtual 334, 3) := by decide +kernel
theorem dX12_tryDays_12 : decode cX12_tryDays 12 = .ok (.istore_n 3, 1) := by decide +kernel
theorem dX12_tryDays_13 : decode cX12_tryDays 13 = .ok (.aload_n 0, 1) := by decide +kernel
theorem dX12_tryDays_14 : decode cX12_tryDays 14 = .ok (.getfield 340, 3) := by decide +kernel
theorem dX12_tryDays_17 : decode cX12_tryDays 17 = .ok (.iconst (-1), 1) := by decide +kernel
theorem dX12_tryDays_18 : decode cX12_tryDays 18 = .ok (.if_icmp .eq 12, 3) := by decide +kernel
theorem dX12_tryDays_21 : decode cX12_tryDays 21 = .ok (.iload_n 3, 1) := by decide +kernel
theorem dX12_tryDays_22 : decode cX12_tryDays 22 = .ok (.aload_n 0, 1) := by decide +kernel
theorem dX12_tryDays_23 : decode cX12_tryDays 23 = .ok (.getfield 340, 3) := by decide +kernel
theorem dX12_tryDays_26 : decode cX12_tryDays 26 = .ok (.if_icmp .lt 4, 3) := by decide +kernel
theorem dX12_tryDays_29 : decode cX12_tryDays 29 = .ok (.return_, 1) := by decide +kernel
theorem dX12_tryDays_30 : decode cX12_tryDays 30 = .ok (.aload_n 0, 1) := by decide +kernel
theorem dX12_tryDays_31 : decode cX12_tryDays 31 = .ok (.iload_n 3, 1) := by decide +kernel
theorem dX12_tryDays_32 : decode cX12_tryDays 32 = .ok (.putfield 340, 3) := by decide +kernel
theorem dX12_tryDays_35 : decode cX12_tryDays 35 = .ok (.iconst 0, 1) := by decide +kernel
theorem dX12_tryDays_36 : decode cX12_tryDays 36 = .ok (.istore 4, 2) := by decide +kernel
theorem dX12_tryDays_38 : decode cX12_tryDays 38 = .ok (.iload 4, 2) := by decide +kernel
theorem dX12_tryDays_40 : decode cX12_tryDays 40 = .ok (.iload_n 1, 1) := by decide +kernel
theorem dX12_tryDays_41 : decode cX12_tryDays 41 = .ok (.if_icmp .ge 23, 3) := by decide +kernel
theorem dX12_tryDays_44 : decode cX12_tryDays 44 = .ok (.aload_n 0, 1) := by decide +kernel
theorem dX12_tryDays_45 : decode cX12_tryDays 45 = .ok (.getfield 76, 3) := by decide +kernel
theorem dX12_tryDays_48 : decode cX12_tryDays 48 = .ok (.iload 4, 2) := by decide +kernel
theorem dX12_tryDays_50 : decode cX12_tryDays 50 = .ok (.aload_n 0, 1) := by decide +kernel
theorem dX12_tryDays_51 : decode cX12_tryDays 51 = .ok (.getfield 73, 3) := by decide +kernel
theorem dX12_tryDays_54 : decode cX12_tryDays 54 = .ok (.iload 4, 2) := by decide +kernel
theorem dX12_tryDays_56 : decode cX12_tryDays 56 = .ok (.iaload, 1) := by decide +kernel
theorem dX12_tryDays_57 : decode cX12_tryDays 57 = .ok (.iastore, 1) := by decide +kernel
theorem dX12_tryDays_58 : decode cX12_tryDays 58 = .ok (.iinc 4 1, 3) := by decide +kernel
theorem dX12_tryDays_61 : decode cX12_tryDays 61 = .ok (.goto (-23), 3) := by decide +kernel
theorem dX12_tryDays_64 : decode cX12_tryDays 64 = .ok (.return_, 1) := by decide +kernel
theorem dX12_tryDays_65 : decode cX12_tryDays 65 = .ok (.aload_n 0, 1) := by decide +kernel
theorem dX12_tryDays_66 : decode cX12_tryDays 66 = .ok (.getfield 13, 3) := by decide +kernel
theorem dX12_tryDays_69 : decode cX12_tryDays 69 = .ok (.bipush 30, 2) := by decide +kernel
theorem dX12_tryDays_71 : decode cX12_tryDays 71 = .ok (.bipush 6, 2) := by decide +kernel
theorem dX12_tryDays_73 : decode cX12_tryDays 73 = .ok (.aload_n 0, 1) := by decide +kernel
theorem dX12_tryDays_74 : decode cX12_tryDays 74 = .ok (.getfield 70, 3) := by decide +kernel
theorem dX12_tryDays_77 : decode cX12_tryDays 77 = .ok (.iload_n 1, 1) := by decide +kernel
theorem dX12_tryDays_78 : decode cX12_tryDays 78 = .ok (.iaload, 1) := by decide +kernel
theorem dX12_tryDays_79 : decode cX12_tryDays 79 = .ok (.imul, 1) := by decide +kernel
theorem dX12_tryDays_80 : decode cX12_tryDays 80 = .ok (.iadd, 1) := by decide +kernel
theorem dX12_tryDays_81 : decode cX12_tryDays 81 = .ok (.iconst 1, 1) := by decide +kernel
theorem dX12_tryDays_82 : decode cX12_tryDays 82 = .ok (.iadd, 1) := by decide +kernel
theorem dX12_tryDays_83 : decode cX12_tryDays 83 = .ok (.iaload, 1) := by decide +kernel
theorem dX12_tryDays_84 : decode cX12_tryDays 84 = .ok (.istore_n 3, 1) := by decide +kernel
theorem dX12_tryDays_85 : decode cX12_tryDays 85 = .ok (.iconst 0, 1) := by decide +kernel
theorem dX12_tryDays_86 : decode cX12_tryDays 86 = .ok (.istore 4, 2) := by decide +kernel
theorem dX12_tryDays_88 : decode cX12_tryDays 88 = .ok (.iload 4, 2) := by decide +kernel
theorem dX12_tryDays_90 : decode cX12_tryDays 90 = .ok (.bipush 7, 2) := by decide +kernel
theorem dX12_tryDays_92 : decode cX12_tryDays 92 = .ok (.if_icmp .ge 70, 3) := by decide +kernel
theorem dX12_tryDays_95 : decode cX12_tryDays 95 = .ok (.bipush 24, 2) := by decide +kernel
theorem dX12_tryDays_97 : decode cX12_tryDays 97 = .ok (.iload 4, 2) := by decide +kernel
theorem dX12_tryDays_99 : decode cX12_tryDays 99 = .ok (.imul, 1) := by decide +kernel
theorem dX12_tryDays_100 : decode cX12_tryDays 100 = .ok (.iload_n 2, 1) := by decide +kernel
theorem dX12_tryDays_101 : decode cX12_tryDays 101 = .ok (.iadd, 1) := by decide +kernel
theorem dX12_tryDays_102 : decode cX12_tryDays 102 = .ok (.iload_n 3, 1) := by decide +kernel
theorem dX12_tryDays_103 : decode cX12_tryDays 103 = .ok (.iadd, 1) := by decide +kernel
theorem dX12_tryDays_104 : decode cX12_tryDays 104 = .ok (.sipush 168, 3) := by decide +kernel
theorem dX12_tryDays_107 : decode cX12_tryDays 107 = .ok (.if_icmp .gt 55, 3) := by decide +kernel
theorem dX12_tryDays_110 : decode cX12_tryDays 110 = .ok (.aload_n 0, 1) := by decide +kernel
theorem dX12_tryDays_111 : decode cX12_tryDays 111 = .ok (.getfield 73, 3) := by decide +kernel
theorem dX12_tryDays_114 : decode cX12_tryDays 114 = .ok (.iload_n 1, 1) := by decide +kernel
theorem dX12_tryDays_115 : decode cX12_tryDays 115 = .ok (.iload 4, 2) := by decide +kernel
theorem dX12_tryDays_117 : decode cX12_tryDays 117 = .ok (.iastore, 1) := by decide +kernel
theorem dX12_tryDays_118 : decode cX12_tryDays 118 = .ok (.aload_n 0, 1) := by decide +kernel
theorem dX12_tryDays_119 : decode cX12_tryDays 119 = .ok (.bipush 24, 2) := by decide +kernel
theorem dX12_tryDays_121 : decode cX12_tryDays 121 = .ok (.iload 4, 2) := by decide +kernel
theorem dX12_tryDays_123 : decode cX12_tryDays 123 = .ok (.imul, 1) := by decide +kernel
theorem dX12_tryDays_124 : decode cX12_tryDays 124 = .ok (.iload_n 2, 1) := by decide +kernel
theorem dX12_tryDays_125 : decode cX12_tryDays 125 = .ok (.iadd, 1) := by decide +kernel
theorem dX12_tryDays_126 : decode cX12_tryDays 126 = .ok (.aload_n 0, 1) := by decide +kernel
theorem dX12_tryDays_127 : decode cX12_tryDays 127 = .ok (.getfield 70, 3) := by decide +kernel
theorem dX12_tryDays_130 : decode cX12_tryDays 130 = .ok (.iload_n 1, 1) := by decide +kernel
theorem dX12_tryDays_131 : decode cX12_tryDays 131 = .ok (.iaload, 1) := by decide +kernel
theorem dX12_tryDays_132 : decode cX12_tryDays 132 = .ok (.iload_n 3, 1) := by decide +kernel
theorem dX12_tryDays_133 : decode cX12_tryDays 133 = .ok (.invokevirtual 289, 3) := by decide +kernel
theorem dX12_tryDays_136 : decode cX12_tryDays 136 = .ok (.aload_n 0, 1) := by decide +kernel
theorem dX12_tryDays_137 : decode cX12_tryDays 137 = .ok (.iload_n 1, 1) := by decide +kernel
theorem dX12_tryDays_138 : decode cX12_tryDays 138 = .ok (.iconst 1, 1) := by decide +kernel
theorem dX12_tryDays_139 : decode cX12_tryDays 139 = .ok (.iadd, 1) := by decide +kernel
theorem dX12_tryDays_140 : decode cX12_tryDays 140 = .ok (.iload_n 2, 1) := by decide +kernel
theorem dX12_tryDays_141 : decode cX12_tryDays 141 = .ok (.invokevirtual 343, 3) := by decide +kernel
theorem dX12_tryDays_144 : decode cX12_tryDays 144 = .ok (.aload_n 0, 1) := by decide +kernel
theorem dX12_tryDays_145 : decode cX12_tryDays 145 = .ok (.getfield 13, 3) := by decide +kernel
theorem dX12_tryDays_148 : decode cX12_tryDays 148 = .ok (.sipush 160, 3) := by decide +kernel
theorem dX12_tryDays_151 : decode cX12_tryDays 151 = .ok (.dup2, 1) := by decide +kernel
theorem dX12_tryDays_152 : decode cX12_tryDays 152 = .ok (.iaload, 1) := by decide +kernel
theorem dX12_tryDays_153 : decode cX12_tryDays 153 = .ok (.iconst 1, 1) := by decide +kernel
theorem dX12_tryDays_154 : decode cX12_tryDays 154 = .ok (.isub, 1) := by decide +kernel
theorem dX12_tryDays_155 : decode cX12_tryDays 155 = .ok (.iastore, 1) := by decide +kernel
theorem dX12_tryDays_156 : decode cX12_tryDays 156 = .ok (.iinc 4 1, 3) := by decide +kernel
theorem dX12_tryDays_159 : decode cX12_tryDays 159 = .ok (.goto (-71), 3) := by decide +kernel
theorem dX12_tryDays_162 : decode cX12_tryDays 162 = .ok (.return_, 1) := by decide +kernel
theorem dX12_days_0 : decode cX12_days 0 = .ok (.aload_n 0, 1) := by decide +kernel
theorem dX12_days_1 : decode cX12_days 1 = .ok (.iconst 0, 1) := by decide +kernel
theorem dX12_days_2 : decode cX12_days 2 = .ok (.putfield 91, 3) := by decide +kernel
theorem dX12_days_5 : decode cX12_days 5 = .ok (.aload_n 0, 1) := by decide +kernel
theorem dX12_days_6 : decode cX12_days 6 = .ok (.invokevirtual 175, 3) := by decide +kernel
theorem dX12_days_9 : decode cX12_days 9 = .ok (.aload_n 0, 1) := by decide +kernel
theorem dX12_days_10 : decode cX12_days 10 = .ok (.invokevirtual 178, 3) := by decide +kernel
theorem dX12_days_13 : decode cX12_days 13 = .ok (.istore_n 2, 1) := by decide +kernel
theorem dX12_days_14 : decode cX12_days 14 = .ok (.iload_n 2, 1) := by decide +kernel
theorem dX12_days_15 : decode cX12_days 15 = .ok (.iconst 1, 1) := by decide +kernel
theorem dX12_days_16 : decode cX12_days 16 = .ok (.iconst 4, 1) := by decide +kernel
theorem dX12_days_17 : decode cX12_days 17 = .ok (.invokestatic 162, 3) := by decide +kernel
theorem dX12_days_20 : decode cX12_days 20 = .ok (.ifCond .eq 24, 3) := by decide +kernel
theorem dX12_days_23 : decode cX12_days 23 = .ok (.iload_n 1, 1) := by decide +kernel
theorem dX12_days_24 : decode cX12_days 24 = .ok (.iconst 0, 1) := by decide +kernel
theorem dX12_days_25 : decode cX12_days 25 = .ok (.bipush 23, 2) := by decide +kernel
theorem dX12_days_27 : decode cX12_days 27 = .ok (.invokestatic 162, 3) := by decide +kernel
theorem dX12_days_30 : decode cX12_days 30 = .ok (.ifCond .eq 14, 3) := by decide +kernel
theorem dX12_days_33 : decode cX12_days 33 = .ok (.aload_n 0, 1) := by decide +kernel
theorem dX12_days_34 : decode cX12_days 34 = .ok (.invokevirtual 286, 3) := by decide +kernel
theorem dX12_days_37 : decode cX12_days 37 = .ok (.iload_n 2, 1) := by decide +kernel
theorem dX12_days_38 : decode cX12_days 38 = .ok (.iadd, 1) := by decide +kernel
theorem dX12_days_39 : decode cX12_days 39 = .ok (.bipush 40, 2) := by decide +kernel
theorem dX12_days_41 : decode cX12_days 41 = .ok (.if_icmp .le 6, 3) := by decide +kernel
theorem dX12_days_44 : decode cX12_days 44 = .ok (.bipush (-2), 2) := by decide +kernel
theorem dX12_days_46 : decode cX12_days 46 = .ok (.ireturn, 1) := by decide +kernel
theorem dX12_days_47 : decode cX12_days 47 = .ok (.iconst 0, 1) := by decide +kernel
theorem dX12_days_48 : decode cX12_days 48 = .ok (.istore_n 3, 1) := by decide +kernel
theorem dX12_days_49 : decode cX12_days 49 = .ok (.iconst 0, 1) := by decide +kernel
theorem dX12_days_50 : decode cX12_days 50 = .ok (.istore 4, 2) := by decide +kernel
theorem dX12_days_52 : decode cX12_days 52 = .ok (.iload 4, 2) := by decide +kernel
theorem dX12_days_54 : decode cX12_days 54 = .ok (.iload_n 2, 1) := by decide +kernel
theorem dX12_days_55 : decode cX12_days 55 = .ok (.if_icmp .ge 66, 3) := by decide +kernel
theorem dX12_days_58 : decode cX12_days 58 = .ok (.aload_n 0, 1) := by decide +kernel
theorem dX12_days_59 : decode cX12_days 59 = .ok (.getfield 7, 3) := by decide +kernel
theorem dX12_days_62 : decode cX12_days 62 = .ok (.iload 4, 2) := by decide +kernel
theorem dX12_days_64 : decode cX12_days 64 = .ok (.iaload, 1) := by decide +kernel
theorem dX12_days_65 : decode cX12_days 65 = .ok (.aload_n 0, 1) := by decide +kernel
theorem dX12_days_66 : decode cX12_days 66 = .ok (.invokevirtual 196, 3) := by decide +kernel
theorem dX12_days_69 : decode cX12_days 69 = .ok (.if_icmp .ge 17, 3) := by decide +kernel
theorem dX12_days_72 : decode cX12_days 72 = .ok (.iload_n 3, 1) := by decide +kernel
theorem dX12_days_73 : decode cX12_days 73 = .ok (.aload_n 0, 1) := by decide +kernel
theorem dX12_days_74 : decode cX12_days 74 = .ok (.getfield 7, 3) := by decide +kernel
theorem dX12_days_77 : decode cX12_days 77 = .ok (.iload 4, 2) := by decide +kernel
theorem dX12_days_79 : decode cX12_days 79 = .ok (.iaload, 1) := by decide +kernel
theorem dX12_days_80 : decode cX12_days 80 = .ok (.invokestatic 220, 3) := by decide +kernel
theorem dX12_days_83 : decode cX12_days 83 = .ok (.ifCond .eq 6, 3) := by decide +kernel
theorem dX12_days_86 : decode cX12_days 86 = .ok (.bipush (-2), 2) := by decide +kernel
theorem dX12_days_88 : decode cX12_days 88 = .ok (.ireturn, 1) := by decide +kernel
theorem dX12_days_89 : decode cX12_days 89 = .ok (.iload_n 3, 1) := by decide +kernel
theorem dX12_days_90 : decode cX12_days 90 = .ok (.iconst 1, 1) := by decide +kernel
theorem dX12_days_91 : decode cX12_days 91 = .ok (.aload_n 0, 1) := by decide +kernel
theorem dX12_days_92 : decode cX12_days 92 = .ok (.getfield 7, 3) := by decide +kernel
theorem dX12_days_95 : decode cX12_days 95 = .ok (.iload 4, 2) := by decide +kernel
theorem dX12_days_97 : decode cX12_days 97 = .ok (.iaload, 1) := by decide +kernel
theorem dX12_days_98 : decode cX12_days 98 = .ok (.ishl, 1) := by decide +kernel
theorem dX12_days_99 : decode cX12_days 99 = .ok (.ior, 1) := by decide +kernel
theorem dX12_days_100 : decode cX12_days 100 = .ok (.istore_n 3, 1) := by decide +kernel
theorem dX12_days_101 : decode cX12_days 101 = .ok (.aload_n 0, 1) := by decide +kernel
theorem dX12_days_102 : decode cX12_days 102 = .ok (.getfield 70, 3) := by decide +kernel
theorem dX12_days_105 : decode cX12_days 105 = .ok (.iload 4, 2) := by decide +kernel
theorem dX12_days_107 : decode cX12_days 107 = .ok (.aload_n 0, 1) := by decide +kernel
theorem dX12_days_108 : decode cX12_days 108 = .ok (.getfield 7, 3) := by decide +kernel
theorem dX12_days_111 : decode cX12_days 111 = .ok (.iload 4, 2) := by decide +kernel
theorem dX12_days_113 : decode cX12_days 113 = .ok (.iaload, 1) := by decide +kernel
theorem dX12_days_114 : decode cX12_days 114 = .ok (.iastore, 1) := by decide +kernel
theorem dX12_days_115 : decode cX12_days 115 = .ok (.iinc 4 1, 3) := by decide +kernel
theorem dX12_days_118 : decode cX12_days 118 = .ok (.goto (-66), 3) := by decide +kernel
theorem dX12_days_121 : decode cX12_days 121 = .ok (.aload_n 0, 1) := by decide +kernel
theorem dX12_days_122 : decode cX12_days 122 = .ok (.iload_n 2, 1) := by decide +kernel
theorem dX12_days_123 : decode cX12_days 123 = .ok (.putfield 337, 3) := by decide +kernel
theorem dX12_days_126 : decode cX12_days 126 = .ok (.aload_n 0, 1) := by decide +kernel
theorem dX12_days_127 : decode cX12_days 127 = .ok (.iconst (-1), 1) := by decide +kernel
theorem dX12_days_128 : decode cX12_days 128 = .ok (.putfield 340, 3) := by decide +kernel
theorem dX12_days_131 : decode cX12_days 131 = .ok (.aload_n 0, 1) := by decide +kernel
theorem dX12_days_132 : decode cX12_days 132 = .ok (.iconst 0, 1) := by decide +kernel
theorem dX12_days_133 : decode cX12_days 133 = .ok (.iload_n 1, 1) := by decide +kernel
theorem dX12_days_134 : decode cX12_days 134 = .ok (.invokevirtual 343, 3) := by decide +kernel
theorem dX12_days_137 : decode cX12_days 137 = .ok (.aload_n 0, 1) := by decide +kernel
theorem dX12_days_138 : decode cX12_days 138 = .ok (.getfield 340, 3) := by decide +kernel
theorem dX12_days_141 : decode cX12_days 141 = .ok (.iconst (-1), 1) := by decide +kernel
theorem dX12_days_142 : decode cX12_days 142 = .ok (.if_icmp .ne 5, 3) := by decide +kernel
theorem dX12_days_145 : decode cX12_days 145 = .ok (.iconst (-1), 1) := by decide +kernel
theorem dX12_days_146 : decode cX12_days 146 = .ok (.ireturn, 1) := by decide +kernel
theorem dX12_days_147 : decode cX12_days 147 = .ok (.aload_n 0, 1) := by decide +kernel
theorem dX12_days_148 : decode cX12_days 148 = .ok (.iload_n 2, 1) := by decide +kernel
theorem dX12_days_149 : decode cX12_days 149 = .ok (.putfield 347, 3) := by decide +kernel
theorem dX12_days_152 : decode cX12_days 152 = .ok (.iconst 0, 1) := by decide +kernel
theorem dX12_days_153 : decode cX12_days 153 = .ok (.istore 4, 2) := by decide +kernel
theorem dX12_days_155 : decode cX12_days 155 = .ok (.iload 4, 2) := by decide +kernel
theorem dX12_days_157 : decode cX12_days 157 = .ok (.iload_n 2, 1) := by decide +kernel
theorem dX12_days_158 : decode cX12_days 158 = .ok (.if_icmp .ge 23, 3) := by decide +kernel
theorem dX12_days_161 : decode cX12_days 161 = .ok (.aload_n 0, 1) := by decide +kernel
theorem dX12_days_162 : decode cX12_days 162 = .ok (.getfield 79, 3) := by decide +kernel
theorem dX12_days_165 : decode cX12_days 165 = .ok (.iload 4, 2) := by decide +kernel
theorem dX12_days_167 : decode cX12_days 167 = .ok (.aload_n 0, 1) := by decide +kernel
theorem dX12_days_168 : decode cX12_days 168 = .ok (.getfield 76, 3) := by decide +kernel
theorem dX12_days_171 : decode cX12_days 171 = .ok (.iload 4, 2) := by decide +kernel
theorem dX12_days_173 : decode cX12_days 173 = .ok (.iaload, 1) := by decide +kernel
theorem dX12_days_174 : decode cX12_days 174 = .ok (.iastore, 1) := by decide +kernel
theorem dX12_days_175 : decode cX12_days 175 = .ok (.iinc 4 1, 3) := by decide +kernel
theorem dX12_days_178 : decode cX12_days 178 = .ok (.goto (-23), 3) := by decide +kernel
theorem dX12_days_181 : decode cX12_days 181 = .ok (.aload_n 0, 1) := by decide +kernel
theorem dX12_days_182 : decode cX12_days 182 = .ok (.getfield 340, 3) := by decide +kernel
theorem dX12_days_185 : decode cX12_days 185 = .ok (.ireturn, 1) := by decide +kernel
theorem dX12_dayOf_0 : decode cX12_dayOf 0 = .ok (.aload_n 0, 1) := by decide +kernel
theorem dX12_dayOf_1 : decode cX12_dayOf 1 = .ok (.iconst 0, 1) := by decide +kernel
theorem dX12_dayOf_2 : decode cX12_dayOf 2 = .ok (.putfield 91, 3) := by decide +kernel
theorem dX12_dayOf_5 : decode cX12_dayOf 5 = .ok (.iload_n 1, 1) := by decide +kernel
theorem dX12_dayOf_6 : decode cX12_dayOf 6 = .ok (.ifCond .lt 20, 3) := by decide +kernel
theorem dX12_dayOf_9 : decode cX12_dayOf 9 = .ok (.iload_n 1, 1) := by decide +kernel
theorem dX12_dayOf_10 : decode cX12_dayOf 10 = .ok (.aload_n 0, 1) := by decide +kernel
theorem dX12_dayOf_11 : decode cX12_dayOf 11 = .ok (.getfield 347, 3) := by decide +kernel
theorem dX12_dayOf_14 : decode cX12_dayOf 14 = .ok (.if_icmp .ge 12, 3) := by decide +kernel
theorem dX12_dayOf_17 : decode cX12_dayOf 17 = .ok (.aload_n 0, 1) := by decide +kernel
theorem dX12_dayOf_18 : decode cX12_dayOf 18 = .ok (.getfield 79, 3) := by decide +kernel
theorem dX12_dayOf_21 : decode cX12_dayOf 21 = .ok (.iload_n 1, 1) := by decide +kernel
theorem dX12_dayOf_22 : decode cX12_dayOf 22 = .ok (.iaload, 1) := by decide +kernel
theorem dX12_dayOf_23 : decode cX12_dayOf 23 = .ok (.goto 4, 3) := by decide +kernel
theorem dX12_dayOf_26 : decode cX12_dayOf 26 = .ok (.iconst (-1), 1) := by decide +kernel
theorem dX12_dayOf_27 : decode cX12_dayOf 27 = .ok (.ireturn, 1) := by decide +kernel
theorem dX12_swap_0 : decode cX12_swap 0 = .ok (.aload_n 0, 1) := by decide +kernel
theorem dX12_swap_1 : decode cX12_swap 1 = .ok (.getfield 13, 3) := by decide +kernel
theorem dX12_swap_4 : decode cX12_swap 4 = .ok (.sipush 161, 3) := by decide +kernel
theorem dX12_swap_7 : decode cX12_swap 7 = .ok (.iconst 3, 1) := by decide +kernel
theorem dX12_swap_8 : decode cX12_swap 8 = .ok (.iload_n 1, 1) := by decide +kernel
theorem dX12_swap_9 : decode cX12_swap 9 = .ok (.imul, 1) := by decide +kernel
theorem dX12_swap_10 : decode cX12_swap 10 = .ok (.iadd, 1) := by decide +kernel
theorem dX12_swap_11 : decode cX12_swap 11 = .ok (.iconst 1, 1) := by decide +kernel
theorem dX12_swap_12 : decode cX12_swap 12 = .ok (.iadd, 1) := by decide +kernel
theorem dX12_swap_13 : decode cX12_swap 13 = .ok (.iaload, 1) := by decide +kernel
theorem dX12_swap_14 : decode cX12_swap 14 = .ok (.istore_n 3, 1) := by decide +kernel
theorem dX12_swap_15 : decode cX12_swap 15 = .ok (.aload_n 0, 1) := by decide +kernel
theorem dX12_swap_16 : decode cX12_swap 16 = .ok (.getfield 13, 3) := by decide +kernel
theorem dX12_swap_19 : decode cX12_swap 19 = .ok (.sipush 161, 3) := by decide +kernel
theorem dX12_swap_22 : decode cX12_swap 22 = .ok (.iconst 3, 1) := by decide +kernel
theorem dX12_swap_23 : decode cX12_swap 23 = .ok (.iload_n 1, 1) := by decide +kernel
theorem dX12_swap_24 : decode cX12_swap 24 = .ok (.imul, 1) := by decide +kernel
theorem dX12_swap_25 : decode cX12_swap 25 = .ok (.iadd, 1) := by decide +kernel
theorem dX12_swap_26 : decode cX12_swap 26 = .ok (.iconst 1, 1) := by decide +kernel
theorem dX12_swap_27 : decode cX12_swap 27 = .ok (.iadd, 1) := by decide +kernel
theorem dX12_swap_28 : decode cX12_swap 28 = .ok (.aload_n 0, 1) := by decide +kernel
theorem dX12_swap_29 : decode cX12_swap 29 = .ok (.getfield 13, 3) := by decide +kernel
theorem dX12_swap_32 : decode cX12_swap 32 = .ok (.sipush 161, 3) := by decide +kernel
theorem dX12_swap_35 : decode cX12_swap 35 = .ok (.iconst 3, 1) := by decide +kernel
theorem dX12_swap_36 : decode cX12_swap 36 = .ok (.iload_n 2, 1) := by decide +kernel
theorem dX12_swap_37 : decode cX12_swap 37 = .ok (.imul, 1) := by decide +kernel
theorem dX12_swap_38 : decode cX12_swap 38 = .ok (.iadd, 1) := by decide +kernel
theorem dX12_swap_39 : decode cX12_swap 39 = .ok (.iconst 1, 1) := by decide +kernel
theorem dX12_swap_40 : decode cX12_swap 40 = .ok (.iadd, 1) := by decide +kernel
theorem dX12_swap_41 : decode cX12_swap 41 = .ok (.iaload, 1) := by decide +kernel
theorem dX12_swap_42 : decode cX12_swap 42 = .ok (.iastore, 1) := by decide +kernel
theorem dX12_swap_43 : decode cX12_swap 43 = .ok (.aload_n 0, 1) := by decide +kernel
theorem dX12_swap_44 : decode cX12_swap 44 = .ok (.getfield 13, 3) := by decide +kernel
theorem dX12_swap_47 : decode cX12_swap 47 = .ok (.sipush 161, 3) := by decide +kernel
theorem dX12_swap_50 : decode cX12_swap 50 = .ok (.iconst 3, 1) := by decide +kernel
theorem dX12_swap_51 : decode cX12_swap 51 = .ok (.iload_n 2, 1) := by decide +kernel
theorem dX12_swap_52 : decode cX12_swap 52 = .ok (.imul, 1) := by decide +kernel
theorem dX12_swap_53 : decode cX12_swap 53 = .ok (.iadd, 1) := by decide +kernel
theorem dX12_swap_54 : decode cX12_swap 54 = .ok (.iconst 1, 1) := by decide +kernel
theorem dX12_swap_55 : decode cX12_swap 55 = .ok (.iadd, 1) := by decide +kernel
theorem dX12_swap_56 : decode cX12_swap 56 = .ok (.iload_n 3, 1) := by decide +kernel
theorem dX12_swap_57 : decode cX12_swap 57 = .ok (.iastore, 1) := by decide +kernel
theorem dX12_swap_58 : decode cX12_swap 58 = .ok (.return_, 1) := by decide +kernel
theorem dX12_exchangeOnce_0 : decode cX12_exchangeOnce 0 = .ok (.iconst 0, 1) := by decide +kernel
theorem dX12_exchangeOnce_1 : decode cX12_exchangeOnce 1 = .ok (.istore_n 2, 1) := by decide +kernel
theorem dX12_exchangeOnce_2 : decode cX12_exchangeOnce 2 = .ok (.iload_n 2, 1) := by decide +kernel
theorem dX12_exchangeOnce_3 : decode cX12_exchangeOnce 3 = .ok (.aload_n 0, 1) := by decide +kernel
theorem dX12_exchangeOnce_4 : decode cX12_exchangeOnce 4 = .ok (.invokevirtual 286, 3) := by decide +kernel
theorem dX12_exchangeOnce_7 : decode cX12_exchangeOnce 7 = .ok (.if_icmp .ge 88, 3) := by decide +kernel
theorem dX12_exchangeOnce_10 : decode cX12_exchangeOnce 10 = .ok (.iload_n 2, 1) := by decide +kernel
theorem dX12_exchangeOnce_11 : decode cX12_exchangeOnce 11 = .ok (.iconst 1, 1) := by decide +kernel
theorem dX12_exchangeOnce_12 : decode cX12_exchangeOnce 12 = .ok (.iadd, 1) := by decide +kernel
theorem dX12_exchangeOnce_13 : decode cX12_exchangeOnce 13 = .ok (.istore_n 3, 1) := by decide +kernel
theorem dX12_exchangeOnce_14 : decode cX12_exchangeOnce 14 = .ok (.iload_n 3, 1) := by decide +kernel
theorem dX12_exchangeOnce_15 : decode cX12_exchangeOnce 15 = .ok (.aload_n 0, 1) := by decide +kernel
theorem dX12_exchangeOnce_16 : decode cX12_exchangeOnce 16 = .ok (.invokevirtual 286, 3) := by decide +kernel
theorem dX12_exchangeOnce_19 : decode cX12_exchangeOnce 19 = .ok (.if_icmp .ge 70, 3) := by decide +kernel
theorem dX12_exchangeOnce_22 : decode cX12_exchangeOnce 22 = .ok (.aload_n 0, 1) := by decide +kernel
theorem dX12_exchangeOnce_23 : decode cX12_exchangeOnce 23 = .ok (.getfield 13, 3) := by decide +kernel
theorem dX12_exchangeOnce_26 : decode cX12_exchangeOnce 26 = .ok (.sipush 161, 3) := by decide +kernel
theorem dX12_exchangeOnce_29 : decode cX12_exchangeOnce 29 = .ok (.iconst 3, 1) := by decide +kernel
theorem dX12_exchangeOnce_30 : decode cX12_exchangeOnce 30 = .ok (.iload_n 2, 1) := by decide +kernel
theorem dX12_exchangeOnce_31 : decode cX12_exchangeOnce 31 = .ok (.imul, 1) := by decide +kernel
theorem dX12_exchangeOnce_32 : decode cX12_exchangeOnce 32 = .ok (.iadd, 1) := by decide +kernel
theorem dX12_exchangeOnce_33 : decode cX12_exchangeOnce 33 = .ok (.iconst 1, 1) := by decide +kernel
theorem dX12_exchangeOnce_34 : decode cX12_exchangeOnce 34 = .ok (.iadd, 1) := by decide +kernel
theorem dX12_exchangeOnce_35 : decode cX12_exchangeOnce 35 = .ok (.iaload, 1) := by decide +kernel
theorem dX12_exchangeOnce_36 : decode cX12_exchangeOnce 36 = .ok (.aload_n 0, 1) := by decide +kernel
theorem dX12_exchangeOnce_37 : decode cX12_exchangeOnce 37 = .ok (.getfield 13, 3) := by decide +kernel
theorem dX12_exchangeOnce_40 : decode cX12_exchangeOnce 40 = .ok (.sipush 161, 3) := by decide +kernel
theorem dX12_exchangeOnce_43 : decode cX12_exchangeOnce 43 = .ok (.iconst 3, 1) := by decide +kernel
theorem dX12_exchangeOnce_44 : decode cX12_exchangeOnce 44 = .ok (.iload_n 3, 1) := by decide +kernel
theorem dX12_exchangeOnce_45 : decode cX12_exchangeOnce 45 = .ok (.imul, 1) := by decide +kernel
theorem dX12_exchangeOnce_46 : decode cX12_exchangeOnce 46 = .ok (.iadd, 1) := by decide +kernel
theorem dX12_exchangeOnce_47 : decode cX12_exchangeOnce 47 = .ok (.iconst 1, 1) := by decide +kernel
theorem dX12_exchangeOnce_48 : decode cX12_exchangeOnce 48 = .ok (.iadd, 1) := by decide +kernel
theorem dX12_exchangeOnce_49 : decode cX12_exchangeOnce 49 = .ok (.iaload, 1) := by decide +kernel
theorem dX12_exchangeOnce_50 : decode cX12_exchangeOnce 50 = .ok (.if_icmp .ne 6, 3) := by decide +kernel
theorem dX12_exchangeOnce_53 : decode cX12_exchangeOnce 53 = .ok (.goto 30, 3) := by decide +kernel
theorem dX12_exchangeOnce_56 : decode cX12_exchangeOnce 56 = .ok (.aload_n 0, 1) := by decide +kernel
theorem dX12_exchangeOnce_57 : decode cX12_exchangeOnce 57 = .ok (.iload_n 2, 1) := by decide +kernel
theorem dX12_exchangeOnce_58 : decode cX12_exchangeOnce 58 = .ok (.iload_n 3, 1) := by decide +kernel
theorem dX12_exchangeOnce_59 : decode cX12_exchangeOnce 59 = .ok (.invokevirtual 350, 3) := by decide +kernel
theorem dX12_exchangeOnce_62 : decode cX12_exchangeOnce 62 = .ok (.aload_n 0, 1) := by decide +kernel
theorem dX12_exchangeOnce_63 : decode cX12_exchangeOnce 63 = .ok (.invokevirtual 334, 3) := by decide +kernel
theorem dX12_exchangeOnce_66 : decode cX12_exchangeOnce 66 = .ok (.istore 4, 2) := by decide +kernel
theorem dX12_exchangeOnce_68 : decode cX12_exchangeOnce 68 = .ok (.iload 4, 2) := by decide +kernel
theorem dX12_exchangeOnce_70 : decode cX12_exchangeOnce 70 = .ok (.iload_n 1, 1) := by decide +kernel
theorem dX12_exchangeOnce_71 : decode cX12_exchangeOnce 71 = .ok (.if_icmp .ge 6, 3) := by decide +kernel
theorem dX12_exchangeOnce_74 : decode cX12_exchangeOnce 74 = .ok (.iload 4, 2) := by decide +kernel
theorem dX12_exchangeOnce_76 : decode cX12_exchangeOnce 76 = .ok (.ireturn, 1) := by decide +kernel
theorem dX12_exchangeOnce_77 : decode cX12_exchangeOnce 77 = .ok (.aload_n 0, 1) := by decide +kernel
theorem dX12_exchangeOnce_78 : decode cX12_exchangeOnce 78 = .ok (.iload_n 2, 1) := by decide +kernel
theorem dX12_exchangeOnce_79 : decode cX12_exchangeOnce 79 = .ok (.iload_n 3, 1) := by decide +kernel
theorem dX12_exchangeOnce_80 : decode cX12_exchangeOnce 80 = .ok (.invokevirtual 350, 3) := by decide +kernel
theorem dX12_exchangeOnce_83 : decode cX12_exchangeOnce 83 = .ok (.iinc 3 1, 3) := by decide +kernel
theorem dX12_exchangeOnce_86 : decode cX12_exchangeOnce 86 = .ok (.goto (-72), 3) := by decide +kernel
theorem dX12_exchangeOnce_89 : decode cX12_exchangeOnce 89 = .ok (.iinc 2 1, 3) := by decide +kernel
theorem dX12_exchangeOnce_92 : decode cX12_exchangeOnce 92 = .ok (.goto (-90), 3) := by decide +kernel
theorem dX12_exchangeOnce_95 : decode cX12_exchangeOnce 95 = .ok (.iload_n 1, 1) := by decide +kernel
theorem dX12_exchangeOnce_96 : decode cX12_exchangeOnce 96 = .ok (.ireturn, 1) := by decide +kernel
theorem dX12_exchange_0 : decode cX12_exchange 0 = .ok (.aload_n 0, 1) := by decide +kernel
theorem dX12_exchange_1 : decode cX12_exchange 1 = .ok (.iconst 0, 1) := by decide +kernel
theorem dX12_exchange_2 : decode cX12_exchange 2 = .ok (.putfield 91, 3) := by decide +kernel
theorem dX12_exchange_5 : decode cX12_exchange 5 = .ok (.aload_n 0, 1) := by decide +kernel
theorem dX12_exchange_6 : decode cX12_exchange 6 = .ok (.invokevirtual 334, 3) := by decide +kernel
theorem dX12_exchange_9 : decode cX12_exchange 9 = .ok (.istore_n 1, 1) := by decide +kernel
theorem dX12_exchange_10 : decode cX12_exchange 10 = .ok (.aload_n 0, 1) := by decide +kernel
theorem dX12_exchange_11 : decode cX12_exchange 11 = .ok (.iconst 0, 1) := by decide +kernel
theorem dX12_exchange_12 : decode cX12_exchange 12 = .ok (.putfield 353, 3) := by decide +kernel
theorem dX12_exchange_15 : decode cX12_exchange 15 = .ok (.iconst 0, 1) := by decide +kernel
theorem dX12_exchange_16 : decode cX12_exchange 16 = .ok (.istore_n 2, 1) := by decide +kernel
theorem dX12_exchange_17 : decode cX12_exchange 17 = .ok (.iload_n 2, 1) := by decide +kernel
theorem dX12_exchange_18 : decode cX12_exchange 18 = .ok (.bipush 50, 2) := by decide +kernel
theorem dX12_exchange_20 : decode cX12_exchange 20 = .ok (.if_icmp .ge 34, 3) := by decide +kernel
theorem dX12_exchange_23 : decode cX12_exchange 23 = .ok (.aload_n 0, 1) := by decide +kernel
theorem dX12_exchange_24 : decode cX12_exchange 24 = .ok (.iload_n 1, 1) := by decide +kernel
theorem dX12_exchange_25 : decode cX12_exchange 25 = .ok (.invokevirtual 356, 3) := by decide +kernel
theorem dX12_exchange_28 : decode cX12_exchange 28 = .ok (.istore_n 3, 1) := by decide +kernel
theorem dX12_exchange_29 : decode cX12_exchange 29 = .ok (.iload_n 3, 1) := by decide +kernel
theorem dX12_exchange_30 : decode cX12_exchange 30 = .ok (.iload_n 1, 1) := by decide +kernel
theorem dX12_exchange_31 : decode cX12_exchange 31 = .ok (.if_icmp .ne 5, 3) := by decide +kernel
theorem dX12_exchange_34 : decode cX12_exchange 34 = .ok (.iload_n 1, 1) := by decide +kernel
theorem dX12_exchange_35 : decode cX12_exchange 35 = .ok (.ireturn, 1) := by decide +kernel
theorem dX12_exchange_36 : decode cX12_exchange 36 = .ok (.iload_n 3, 1) := by decide +kernel
theorem dX12_exchange_37 : decode cX12_exchange 37 = .ok (.istore_n 1, 1) := by decide +kernel
theorem dX12_exchange_38 : decode cX12_exchange 38 = .ok (.aload_n 0, 1) := by decide +kernel
theorem dX12_exchange_39 : decode cX12_exchange 39 = .ok (.dup, 1) := by decide +kernel
theorem dX12_exchange_40 : decode cX12_exchange 40 = .ok (.getfield 353, 3) := by decide +kernel
theorem dX12_exchange_43 : decode cX12_exchange 43 = .ok (.iconst 1, 1) := by decide +kernel
theorem dX12_exchange_44 : decode cX12_exchange 44 = .ok (.iadd, 1) := by decide +kernel
theorem dX12_exchange_45 : decode cX12_exchange 45 = .ok (.putfield 353, 3) := by decide +kernel
theorem dX12_exchange_48 : decode cX12_exchange 48 = .ok (.iinc 2 1, 3) := by decide +kernel
theorem dX12_exchange_51 : decode cX12_exchange 51 = .ok (.goto (-34), 3) := by decide +kernel
theorem dX12_exchange_54 : decode cX12_exchange 54 = .ok (.iload_n 1, 1) := by decide +kernel
theorem dX12_exchange_55 : decode cX12_exchange 55 = .ok (.ireturn, 1) := by decide +kernel
theorem dX12_exchanges_0 : decode cX12_exchanges 0 = .ok (.aload_n 0, 1) := by decide +kernel
theorem dX12_exchanges_1 : decode cX12_exchanges 1 = .ok (.iconst 0, 1) := by decide +kernel
theorem dX12_exchanges_2 : decode cX12_exchanges 2 = .ok (.putfield 91, 3) := by decide +kernel
theorem dX12_exchanges_5 : decode cX12_exchanges 5 = .ok (.aload_n 0, 1) := by decide +kernel
theorem dX12_exchanges_6 : decode cX12_exchanges 6 = .ok (.getfield 353, 3) := by decide +kernel
theorem dX12_exchanges_9 : decode cX12_exchanges 9 = .ok (.ireturn, 1) := by decide +kernel
theorem dX12_late_0 : decode cX12_late 0 = .ok (.aload_n 0, 1) := by decide +kernel
theorem dX12_late_1 : decode cX12_late 1 = .ok (.iconst 0, 1) := by decide +kernel
theorem dX12_late_2 : decode cX12_late 2 = .ok (.putfield 91, 3) := by decide +kernel
theorem dX12_late_5 : decode cX12_late 5 = .ok (.aload_n 0, 1) := by decide +kernel
theorem dX12_late_6 : decode cX12_late 6 = .ok (.invokevirtual 175, 3) := by decide +kernel
theorem dX12_late_9 : decode cX12_late 9 = .ok (.iload_n 1, 1) := by decide +kernel
theorem dX12_late_10 : decode cX12_late 10 = .ok (.ifCond .lt 11, 3) := by decide +kernel
theorem dX12_late_13 : decode cX12_late 13 = .ok (.iload_n 1, 1) := by decide +kernel
theorem dX12_late_14 : decode cX12_late 14 = .ok (.aload_n 0, 1) := by decide +kernel
theorem dX12_late_15 : decode cX12_late 15 = .ok (.invokevirtual 286, 3) := by decide +kernel
theorem dX12_late_18 : decode cX12_late 18 = .ok (.if_icmp .lt 5, 3) := by decide +kernel
theorem dX12_late_21 : decode cX12_late 21 = .ok (.iconst (-1), 1) := by decide +kernel
theorem dX12_late_22 : decode cX12_late 22 = .ok (.ireturn, 1) := by decide +kernel
theorem dX12_late_23 : decode cX12_late 23 = .ok (.aload_n 0, 1) := by decide +kernel
theorem dX12_late_24 : decode cX12_late 24 = .ok (.invokevirtual 334, 3) := by decide +kernel
theorem dX12_late_27 : decode cX12_late 27 = .ok (.istore_n 2, 1) := by decide +kernel
theorem dX12_late_28 : decode cX12_late 28 = .ok (.sipush 161, 3) := by decide +kernel
theorem dX12_late_31 : decode cX12_late 31 = .ok (.iconst 3, 1) := by decide +kernel
theorem dX12_late_32 : decode cX12_late 32 = .ok (.iload_n 1, 1) := by decide +kernel
theorem dX12_late_33 : decode cX12_late 33 = .ok (.imul, 1) := by decide +kernel
theorem dX12_late_34 : decode cX12_late 34 = .ok (.iadd, 1) := by decide +kernel
theorem dX12_late_35 : decode cX12_late 35 = .ok (.istore_n 3, 1) := by decide +kernel
theorem dX12_late_36 : decode cX12_late 36 = .ok (.aload_n 0, 1) := by decide +kernel
theorem dX12_late_37 : decode cX12_late 37 = .ok (.getfield 13, 3) := by decide +kernel
theorem dX12_late_40 : decode cX12_late 40 = .ok (.iload_n 3, 1) := by decide +kernel
theorem dX12_late_41 : decode cX12_late 41 = .ok (.iaload, 1) := by decide +kernel
theorem dX12_late_42 : decode cX12_late 42 = .ok (.istore 4, 2) := by decide +kernel
theorem dX12_late_44 : decode cX12_late 44 = .ok (.iconst 0, 1) := by decide +kernel
theorem dX12_late_45 : decode cX12_late 45 = .ok (.istore 5, 2) := by decide +kernel
theorem dX12_late_47 : decode cX12_late 47 = .ok (.iload 5, 2) := by decide +kernel
theorem dX12_late_49 : decode cX12_late 49 = .ok (.bipush 24, 2) := by decide +kernel
theorem dX12_late_51 : decode cX12_late 51 = .ok (.if_icmp .ge 55, 3) := by decide +kernel
theorem dX12_late_54 : decode cX12_late 54 = .ok (.iload 4, 2) := by decide +kernel
theorem dX12_late_56 : decode cX12_late 56 = .ok (.iload 5, 2) := by decide +kernel
theorem dX12_late_58 : decode cX12_late 58 = .ok (.iadd, 1) := by decide +kernel
theorem dX12_late_59 : decode cX12_late 59 = .ok (.iconst 1, 1) := by decide +kernel
theorem dX12_late_60 : decode cX12_late 60 = .ok (.iadd, 1) := by decide +kernel
theorem dX12_late_61 : decode cX12_late 61 = .ok (.aload_n 0, 1) := by decide +kernel
theorem dX12_late_62 : decode cX12_late 62 = .ok (.getfield 13, 3) := by decide +kernel
theorem dX12_late_65 : decode cX12_late 65 = .ok (.iload_n 3, 1) := by decide +kernel
theorem dX12_late_66 : decode cX12_late 66 = .ok (.iconst 2, 1) := by decide +kernel
theorem dX12_late_67 : decode cX12_late 67 = .ok (.iadd, 1) := by decide +kernel
theorem dX12_late_68 : decode cX12_late 68 = .ok (.iaload, 1) := by decide +kernel
theorem dX12_late_69 : decode cX12_late 69 = .ok (.iadd, 1) := by decide +kernel
theorem dX12_late_70 : decode cX12_late 70 = .ok (.sipush 168, 3) := by decide +kernel
theorem dX12_late_73 : decode cX12_late 73 = .ok (.if_icmp .gt 33, 3) := by decide +kernel
theorem dX12_late_76 : decode cX12_late 76 = .ok (.aload_n 0, 1) := by decide +kernel
theorem dX12_late_77 : decode cX12_late 77 = .ok (.getfield 13, 3) := by decide +kernel
theorem dX12_late_80 : decode cX12_late 80 = .ok (.iload_n 3, 1) := by decide +kernel
theorem dX12_late_81 : decode cX12_late 81 = .ok (.iload 4, 2) := by decide +kernel
theorem dX12_late_83 : decode cX12_late 83 = .ok (.iload 5, 2) := by decide +kernel
theorem dX12_late_85 : decode cX12_late 85 = .ok (.iadd, 1) := by decide +kernel
theorem dX12_late_86 : decode cX12_late 86 = .ok (.iconst 1, 1) := by decide +kernel
theorem dX12_late_87 : decode cX12_late 87 = .ok (.iadd, 1) := by decide +kernel
theorem dX12_late_88 : decode cX12_late 88 = .ok (.iastore, 1) := by decide +kernel
theorem dX12_late_89 : decode cX12_late 89 = .ok (.aload_n 0, 1) := by decide +kernel
theorem dX12_late_90 : decode cX12_late 90 = .ok (.invokevirtual 334, 3) := by decide +kernel
theorem dX12_late_93 : decode cX12_late 93 = .ok (.iload_n 2, 1) := by decide +kernel
theorem dX12_late_94 : decode cX12_late 94 = .ok (.if_icmp .le 6, 3) := by decide +kernel
theorem dX12_late_97 : decode cX12_late 97 = .ok (.goto 9, 3) := by decide +kernel
theorem dX12_late_100 : decode cX12_late 100 = .ok (.iinc 5 1, 3) := by decide +kernel
theorem dX12_late_103 : decode cX12_late 103 = .ok (.goto (-56), 3) := by decide +kernel
theorem dX12_late_106 : decode cX12_late 106 = .ok (.aload_n 0, 1) := by decide +kernel
theorem dX12_late_107 : decode cX12_late 107 = .ok (.getfield 13, 3) := by decide +kernel
theorem dX12_late_110 : decode cX12_late 110 = .ok (.iload_n 3, 1) := by decide +kernel
theorem dX12_late_111 : decode cX12_late 111 = .ok (.iload 4, 2) := by decide +kernel
theorem dX12_late_113 : decode cX12_late 113 = .ok (.iastore, 1) := by decide +kernel
theorem dX12_late_114 : decode cX12_late 114 = .ok (.iload 5, 2) := by decide +kernel
theorem dX12_late_116 : decode cX12_late 116 = .ok (.ireturn, 1) := by decide +kernel
theorem dX12_see_0 : decode cX12_see 0 = .ok (.aload_n 0, 1) := by decide +kernel
theorem dX12_see_1 : decode cX12_see 1 = .ok (.iconst 0, 1) := by decide +kernel
theorem dX12_see_2 : decode cX12_see 2 = .ok (.putfield 91, 3) := by decide +kernel
theorem dX12_see_5 : decode cX12_see 5 = .ok (.aload_n 0, 1) := by decide +kernel
theorem dX12_see_6 : decode cX12_see 6 = .ok (.invokevirtual 175, 3) := by decide +kernel
theorem dX12_see_9 : decode cX12_see 9 = .ok (.iload_n 1, 1) := by decide +kernel
theorem dX12_see_10 : decode cX12_see 10 = .ok (.invokestatic 328, 3) := by decide +kernel
theorem dX12_see_13 : decode cX12_see 13 = .ok (.ifCond .eq 28, 3) := by decide +kernel
theorem dX12_see_16 : decode cX12_see 16 = .ok (.aload_n 0, 1) := by decide +kernel
theorem dX12_see_17 : decode cX12_see 17 = .ok (.iload_n 2, 1) := by decide +kernel
theorem dX12_see_18 : decode cX12_see 18 = .ok (.invokevirtual 331, 3) := by decide +kernel
theorem dX12_see_21 : decode cX12_see 21 = .ok (.ifCond .eq 20, 3) := by decide +kernel
theorem dX12_see_24 : decode cX12_see 24 = .ok (.iload_n 3, 1) := by decide +kernel
theorem dX12_see_25 : decode cX12_see 25 = .ok (.ifCond .lt 16, 3) := by decide +kernel
theorem dX12_see_28 : decode cX12_see 28 = .ok (.aload_n 0, 1) := by decide +kernel
theorem dX12_see_29 : decode cX12_see 29 = .ok (.getfield 13, 3) := by decide +kernel
theorem dX12_see_32 : decode cX12_see 32 = .ok (.sipush 285, 3) := by decide +kernel
theorem dX12_see_35 : decode cX12_see 35 = .ok (.iaload, 1) := by decide +kernel
theorem dX12_see_36 : decode cX12_see 36 = .ok (.bipush 20, 2) := by decide +kernel
theorem dX12_see_38 : decode cX12_see 38 = .ok (.if_icmp .ne 5, 3) := by decide +kernel
theorem dX12_see_41 : decode cX12_see 41 = .ok (.iconst (-1), 1) := by decide +kernel
theorem dX12_see_42 : decode cX12_see 42 = .ok (.ireturn, 1) := by decide +kernel
theorem dX12_see_43 : decode cX12_see 43 = .ok (.sipush 286, 3) := by decide +kernel
theorem dX12_see_46 : decode cX12_see 46 = .ok (.iconst 3, 1) := by decide +kernel
theorem dX12_see_47 : decode cX12_see 47 = .ok (.aload_n 0, 1) := by decide +kernel
theorem dX12_see_48 : decode cX12_see 48 = .ok (.getfield 13, 3) := by decide +kernel
theorem dX12_see_51 : decode cX12_see 51 = .ok (.sipush 285, 3) := by decide +kernel
theorem dX12_see_54 : decode cX12_see 54 = .ok (.iaload, 1) := by decide +kernel
theorem dX12_see_55 : decode cX12_see 55 = .ok (.imul, 1) := by decide +kernel
theorem dX12_see_56 : decode cX12_see 56 = .ok (.iadd, 1) := by decide +kernel
theorem dX12_see_57 : decode cX12_see 57 = .ok (.istore 4, 2) := by decide +kernel
theorem dX12_see_59 : decode cX12_see 59 = .ok (.aload_n 0, 1) := by decide +kernel
theorem dX12_see_60 : decode cX12_see 60 = .ok (.getfield 13, 3) := by decide +kernel
theorem dX12_see_63 : decode cX12_see 63 = .ok (.iload 4, 2) := by decide +kernel
theorem dX12_see_65 : decode cX12_see 65 = .ok (.iload_n 1, 1) := by decide +kernel
theorem dX12_see_66 : decode cX12_see 66 = .ok (.iastore, 1) := by decide +kernel
theorem dX12_see_67 : decode cX12_see 67 = .ok (.aload_n 0, 1) := by decide +kernel
theorem dX12_see_68 : decode cX12_see 68 = .ok (.getfield 13, 3) := by decide +kernel
theorem dX12_see_71 : decode cX12_see 71 = .ok (.iload 4, 2) := by decide +kernel
theorem dX12_see_73 : decode cX12_see 73 = .ok (.iconst 1, 1) := by decide +kernel
theorem dX12_see_74 : decode cX12_see 74 = .ok (.iadd, 1) := by decide +kernel
theorem dX12_see_75 : decode cX12_see 75 = .ok (.iload_n 2, 1) := by decide +kernel
theorem dX12_see_76 : decode cX12_see 76 = .ok (.iastore, 1) := by decide +kernel
theorem dX12_see_77 : decode cX12_see 77 = .ok (.aload_n 0, 1) := by decide +kernel
theorem dX12_see_78 : decode cX12_see 78 = .ok (.getfield 13, 3) := by decide +kernel
theorem dX12_see_81 : decode cX12_see 81 = .ok (.iload 4, 2) := by decide +kernel
theorem dX12_see_83 : decode cX12_see 83 = .ok (.iconst 2, 1) := by decide +kernel
theorem dX12_see_84 : decode cX12_see 84 = .ok (.iadd, 1) := by decide +kernel
theorem dX12_see_85 : decode cX12_see 85 = .ok (.iload_n 3, 1) := by decide +kernel
theorem dX12_see_86 : decode cX12_see 86 = .ok (.iastore, 1) := by decide +kernel
theorem dX12_see_87 : decode cX12_see 87 = .ok (.aload_n 0, 1) := by decide +kernel
theorem dX12_see_88 : decode cX12_see 88 = .ok (.getfield 13, 3) := by decide +kernel
theorem dX12_see_91 : decode cX12_see 91 = .ok (.sipush 285, 3) := by decide +kernel
theorem dX12_see_94 : decode cX12_see 94 = .ok (.dup2, 1) := by decide +kernel
theorem dX12_see_95 : decode cX12_see 95 = .ok (.iaload, 1) := by decide +kernel
theorem dX12_see_96 : decode cX12_see 96 = .ok (.iconst 1, 1) := by decide +kernel
theorem dX12_see_97 : decode cX12_see 97 = .ok (.iadd, 1) := by decide +kernel
theorem dX12_see_98 : decode cX12_see 98 = .ok (.iastore, 1) := by decide +kernel
theorem dX12_see_99 : decode cX12_see 99 = .ok (.aload_n 0, 1) := by decide +kernel
theorem dX12_see_100 : decode cX12_see 100 = .ok (.getfield 13, 3) := by decide +kernel
theorem dX12_see_103 : decode cX12_see 103 = .ok (.sipush 285, 3) := by decide +kernel
theorem dX12_see_106 : decode cX12_see 106 = .ok (.iaload, 1) := by decide +kernel
theorem dX12_see_107 : decode cX12_see 107 = .ok (.iconst 1, 1) := by decide +kernel
theorem dX12_see_108 : decode cX12_see 108 = .ok (.isub, 1) := by decide +kernel
theorem dX12_see_109 : decode cX12_see 109 = .ok (.ireturn, 1) := by decide +kernel
theorem dX12_isSeen_0 : decode cX12_isSeen 0 = .ok (.aload_n 0, 1) := by decide +kernel
theorem dX12_isSeen_1 : decode cX12_isSeen 1 = .ok (.invokevirtual 310, 3) := by decide +kernel
theorem dX12_isSeen_4 : decode cX12_isSeen 4 = .ok (.iconst 0, 1) := by decide +kernel
theorem dX12_isSeen_5 : decode cX12_isSeen 5 = .ok (.istore_n 1, 1) := by decide +kernel
theorem dX12_isSeen_6 : decode cX12_isSeen 6 = .ok (.iload_n 1, 1) := by decide +kernel
theorem dX12_isSeen_7 : decode cX12_isSeen 7 = .ok (.aload_n 0, 1) := by decide +kernel
theorem dX12_isSeen_8 : decode cX12_isSeen 8 = .ok (.getfield 13, 3) := by decide +kernel
theorem dX12_isSeen_11 : decode cX12_isSeen 11 = .ok (.sipush 285, 3) := by decide +kernel
theorem dX12_isSeen_14 : decode cX12_isSeen 14 = .ok (.iaload, 1) := by decide +kernel
theorem dX12_isSeen_15 : decode cX12_isSeen 15 = .ok (.if_icmp .ge 62, 3) := by decide +kernel
theorem dX12_isSeen_18 : decode cX12_isSeen 18 = .ok (.aload_n 0, 1) := by decide +kernel
theorem dX12_isSeen_19 : decode cX12_isSeen 19 = .ok (.getfield 48, 3) := by decide +kernel
theorem dX12_isSeen_22 : decode cX12_isSeen 22 = .ok (.iconst 4, 1) := by decide +kernel
theorem dX12_isSeen_23 : decode cX12_isSeen 23 = .ok (.aload_n 0, 1) := by decide +kernel
theorem dX12_isSeen_24 : decode cX12_isSeen 24 = .ok (.getfield 13, 3) := by decide +kernel
theorem dX12_isSeen_27 : decode cX12_isSeen 27 = .ok (.sipush 286, 3) := by decide +kernel
theorem dX12_isSeen_30 : decode cX12_isSeen 30 = .ok (.iconst 3, 1) := by decide +kernel
theorem dX12_isSeen_31 : decode cX12_isSeen 31 = .ok (.iload_n 1, 1) := by decide +kernel
theorem dX12_isSeen_32 : decode cX12_isSeen 32 = .ok (.imul, 1) := by decide +kernel
theorem dX12_isSeen_33 : decode cX12_isSeen 33 = .ok (.iadd, 1) := by decide +kernel
theorem dX12_isSeen_34 : decode cX12_isSeen 34 = .ok (.iaload, 1) := by decide +kernel
theorem dX12_isSeen_35 : decode cX12_isSeen 35 = .ok (.imul, 1) := by decide +kernel
theorem dX12_isSeen_36 : decode cX12_isSeen 36 = .ok (.aload_n 0, 1) := by decide +kernel
theorem dX12_isSeen_37 : decode cX12_isSeen 37 = .ok (.getfield 13, 3) := by decide +kernel
theorem dX12_isSeen_40 : decode cX12_isSeen 40 = .ok (.sipush 286, 3) := by decide +kernel
theorem dX12_isSeen_43 : decode cX12_isSeen 43 = .ok (.iconst 3, 1) := by decide +kernel
theorem dX12_isSeen_44 : decode cX12_isSeen 44 = .ok (.iload_n 1, 1) := by decide +kernel
theorem dX12_isSeen_45 : decode cX12_isSeen 45 = .ok (.imul, 1) := by decide +kernel
theorem dX12_isSeen_46 : decode cX12_isSeen 46 = .ok (.iadd, 1) := by decide +kernel
theorem dX12_isSeen_47 : decode cX12_isSeen 47 = .ok (.iconst 1, 1) := by decide +kernel
theorem dX12_isSeen_48 : decode cX12_isSeen 48 = .ok (.iadd, 1) := by decide +kernel
theorem dX12_isSeen_49 : decode cX12_isSeen 49 = .ok (.iaload, 1) := by decide +kernel
theorem dX12_isSeen_50 : decode cX12_isSeen 50 = .ok (.iadd, 1) := by decide +kernel
theorem dX12_isSeen_51 : decode cX12_isSeen 51 = .ok (.iaload, 1) := by decide +kernel
theorem dX12_isSeen_52 : decode cX12_isSeen 52 = .ok (.aload_n 0, 1) := by decide +kernel
theorem dX12_isSeen_53 : decode cX12_isSeen 53 = .ok (.getfield 13, 3) := by decide +kernel
theorem dX12_isSeen_56 : decode cX12_isSeen 56 = .ok (.sipush 286, 3) := by decide +kernel
theorem dX12_isSeen_59 : decode cX12_isSeen 59 = .ok (.iconst 3, 1) := by decide +kernel
theorem dX12_isSeen_60 : decode cX12_isSeen 60 = .ok (.iload_n 1, 1) := by decide +kernel
theorem dX12_isSeen_61 : decode cX12_isSeen 61 = .ok (.imul, 1) := by decide +kernel
theorem dX12_isSeen_62 : decode cX12_isSeen 62 = .ok (.iadd, 1) := by decide +kernel
theorem dX12_isSeen_63 : decode cX12_isSeen 63 = .ok (.iconst 2, 1) := by decide +kernel
theorem dX12_isSeen_64 : decode cX12_isSeen 64 = .ok (.iadd, 1) := by decide +kernel
theorem dX12_isSeen_65 : decode cX12_isSeen 65 = .ok (.iaload, 1) := by decide +kernel
theorem dX12_isSeen_66 : decode cX12_isSeen 66 = .ok (.if_icmp .eq 5, 3) := by decide +kernel
theorem dX12_isSeen_69 : decode cX12_isSeen 69 = .ok (.iconst 0, 1) := by decide +kernel
theorem dX12_isSeen_70 : decode cX12_isSeen 70 = .ok (.ireturn, 1) := by decide +kernel
theorem dX12_isSeen_71 : decode cX12_isSeen 71 = .ok (.iinc 1 1, 3) := by decide +kernel
theorem dX12_isSeen_74 : decode cX12_isSeen 74 = .ok (.goto (-68), 3) := by decide +kernel
theorem dX12_isSeen_77 : decode cX12_isSeen 77 = .ok (.iconst 1, 1) := by decide +kernel
theorem dX12_isSeen_78 : decode cX12_isSeen 78 = .ok (.ireturn, 1) := by decide +kernel
theorem dX12_night_0 : decode cX12_night 0 = .ok (.aload_n 0, 1) := by decide +kernel
theorem dX12_night_1 : decode cX12_night 1 = .ok (.iconst 0, 1) := by decide +kernel
theorem dX12_night_2 : decode cX12_night 2 = .ok (.putfield 91, 3) := by decide +kernel
theorem dX12_night_5 : decode cX12_night 5 = .ok (.aload_n 0, 1) := by decide +kernel
theorem dX12_night_6 : decode cX12_night 6 = .ok (.invokevirtual 175, 3) := by decide +kernel
theorem dX12_night_9 : decode cX12_night 9 = .ok (.aload_n 0, 1) := by decide +kernel
theorem dX12_night_10 : decode cX12_night 10 = .ok (.iconst (-1), 1) := by decide +kernel
theorem dX12_night_11 : decode cX12_night 11 = .ok (.invokevirtual 304, 3) := by decide +kernel
theorem dX12_night_14 : decode cX12_night 14 = .ok (.aload_n 0, 1) := by decide +kernel
theorem dX12_night_15 : decode cX12_night 15 = .ok (.invokevirtual 307, 3) := by decide +kernel
theorem dX12_night_18 : decode cX12_night 18 = .ok (.iconst 0, 1) := by decide +kernel
theorem dX12_night_19 : decode cX12_night 19 = .ok (.istore_n 1, 1) := by decide +kernel
theorem dX12_night_20 : decode cX12_night 20 = .ok (.iload_n 1, 1) := by decide +kernel
theorem dX12_night_21 : decode cX12_night 21 = .ok (.sipush 168, 3) := by decide +kernel
theorem dX12_night_24 : decode cX12_night 24 = .ok (.if_icmp .ge 21, 3) := by decide +kernel
theorem dX12_night_27 : decode cX12_night 27 = .ok (.aload_n 0, 1) := by decide +kernel
theorem dX12_night_28 : decode cX12_night 28 = .ok (.getfield 85, 3) := by decide +kernel
theorem dX12_night_31 : decode cX12_night 31 = .ok (.iload_n 1, 1) := by decide +kernel
theorem dX12_night_32 : decode cX12_night 32 = .ok (.aload_n 0, 1) := by decide +kernel
theorem dX12_night_33 : decode cX12_night 33 = .ok (.getfield 39, 3) := by decide +kernel
theorem dX12_night_36 : decode cX12_night 36 = .ok (.iload_n 1, 1) := by decide +kernel
theorem dX12_night_37 : decode cX12_night 37 = .ok (.iaload, 1) := by decide +kernel
theorem dX12_night_38 : decode cX12_night 38 = .ok (.iastore, 1) := by decide +kernel
theorem dX12_night_39 : decode cX12_night 39 = .ok (.iinc 1 1, 3) := by decide +kernel
theorem dX12_night_42 : decode cX12_night 42 = .ok (.goto (-22), 3) := by decide +kernel
theorem dX12_night_45 : decode cX12_night 45 = .ok (.iconst 0, 1) := by decide +kernel
theorem dX12_night_46 : decode cX12_night 46 = .ok (.istore_n 1, 1) := by decide +kernel
theorem dX12_night_47 : decode cX12_night 47 = .ok (.iconst 0, 1) := by decide +kernel
theorem dX12_night_48 : decode cX12_night 48 = .ok (.istore_n 2, 1) := by decide +kernel
theorem dX12_night_49 : decode cX12_night 49 = .ok (.iload_n 2, 1) := by decide +kernel
theorem dX12_night_50 : decode cX12_night 50 = .ok (.iconst 3, 1) := by decide +kernel
theorem dX12_night_51 : decode cX12_night 51 = .ok (.if_icmp .ge 16, 3) := by decide +kernel
theorem dX12_night_54 : decode cX12_night 54 = .ok (.aload_n 0, 1) := by decide +kernel
theorem dX12_night_55 : decode cX12_night 55 = .ok (.getfield 82, 3) := by decide +kernel
theorem dX12_night_58 : decode cX12_night 58 = .ok (.iload_n 2, 1) := by decide +kernel
theorem dX12_night_59 : decode cX12_night 59 = .ok (.iconst (-1), 1) := by decide +kernel
theorem dX12_night_60 : decode cX12_night 60 = .ok (.iastore, 1) := by decide +kernel
theorem dX12_night_61 : decode cX12_night 61 = .ok (.iinc 2 1, 3) := by decide +kernel
theorem dX12_night_64 : decode cX12_night 64 = .ok (.goto (-15), 3) := by decide +kernel
theorem dX12_night_67 : decode cX12_night 67 = .ok (.iconst 0, 1) := by decide +kernel
theorem dX12_night_68 : decode cX12_night 68 = .ok (.istore_n 2, 1) := by decide +kernel
theorem dX12_night_69 : decode cX12_night 69 = .ok (.iload_n 2, 1) := by decide +kernel
theorem dX12_night_70 : decode cX12_night 70 = .ok (.aload_n 0, 1) := by decide +kernel
theorem dX12_night_71 : decode cX12_night 71 = .ok (.invokevirtual 196, 3) := by decide +kernel
theorem dX12_night_74 : decode cX12_night 74 = .ok (.if_icmp .ge 133, 3) := by decide +kernel
theorem dX12_night_77 : decode cX12_night 77 = .ok (.iconst 0, 1) := by decide +kernel
theorem dX12_night_78 : decode cX12_night 78 = .ok (.istore_n 3, 1) := by decide +kernel
theorem dX12_night_79 : decode cX12_night 79 = .ok (.iload_n 3, 1) := by decide +kernel
theorem dX12_night_80 : decode cX12_night 80 = .ok (.sipush 168, 3) := by decide +kernel
theorem dX12_night_83 : decode cX12_night 83 = .ok (.if_icmp .ge 118, 3) := by decide +kernel
theorem dX12_night_86 : decode cX12_night 86 = .ok (.iconst 1, 1) := by decide +kernel
theorem dX12_night_87 : decode cX12_night 87 = .ok (.istore 4, 2) := by decide +kernel
theorem dX12_night_89 : decode cX12_night 89 = .ok (.iload 4, 2) := by decide +kernel
theorem dX12_night_91 : decode cX12_night 91 = .ok (.bipush 6, 2) := by decide +kernel
theorem dX12_night_93 : decode cX12_night 93 = .ok (.if_icmp .gt 71, 3) := by decide +kernel
theorem dX12_night_96 : decode cX12_night 96 = .ok (.iload_n 3, 1) := by decide +kernel
theorem dX12_night_97 : decode cX12_night 97 = .ok (.iload 4, 2) := by decide +kernel
theorem dX12_night_99 : decode cX12_night 99 = .ok (.iadd, 1) := by decide +kernel
theorem dX12_night_100 : decode cX12_night 100 = .ok (.sipush 168, 3) := by decide +kernel
theorem dX12_night_103 : decode cX12_night 103 = .ok (.if_icmp .gt 61, 3) := by decide +kernel
theorem dX12_night_106 : decode cX12_night 106 = .ok (.aload_n 0, 1) := by decide +kernel
theorem dX12_night_107 : decode cX12_night 107 = .ok (.getfield 39, 3) := by decide +kernel
theorem dX12_night_110 : decode cX12_night 110 = .ok (.iload_n 3, 1) := by decide +kernel
theorem dX12_night_111 : decode cX12_night 111 = .ok (.iload 4, 2) := by decide +kernel
theorem dX12_night_113 : decode cX12_night 113 = .ok (.iadd, 1) := by decide +kernel
theorem dX12_night_114 : decode cX12_night 114 = .ok (.iconst 1, 1) := by decide +kernel
theorem dX12_night_115 : decode cX12_night 115 = .ok (.isub, 1) := by decide +kernel
theorem dX12_night_116 : decode cX12_night 116 = .ok (.dup2, 1) := by decide +kernel
theorem dX12_night_117 : decode cX12_night 117 = .ok (.iaload, 1) := by decide +kernel
theorem dX12_night_118 : decode cX12_night 118 = .ok (.iconst 1, 1) := by decide +kernel
theorem dX12_night_119 : decode cX12_night 119 = .ok (.iload_n 2, 1) := by decide +kernel
theorem dX12_night_120 : decode cX12_night 120 = .ok (.ishl, 1) := by decide +kernel
theorem dX12_night_121 : decode cX12_night 121 = .ok (.ior, 1) := by decide +kernel
theorem dX12_night_122 : decode cX12_night 122 = .ok (.iastore, 1) := by decide +kernel
theorem dX12_night_123 : decode cX12_night 123 = .ok (.aload_n 0, 1) := by decide +kernel
theorem dX12_night_124 : decode cX12_night 124 = .ok (.invokevirtual 359, 3) := by decide +kernel
theorem dX12_night_127 : decode cX12_night 127 = .ok (.ifCond .ne 6, 3) := by decide +kernel
theorem dX12_night_130 : decode cX12_night 130 = .ok (.goto 28, 3) := by decide +kernel
theorem dX12_night_133 : decode cX12_night 133 = .ok (.iinc 1 1, 3) := by decide +kernel
theorem dX12_night_136 : decode cX12_night 136 = .ok (.aload_n 0, 1) := by decide +kernel
theorem dX12_night_137 : decode cX12_night 137 = .ok (.getfield 82, 3) := by decide +kernel
theorem dX12_night_140 : decode cX12_night 140 = .ok (.iconst 0, 1) := by decide +kernel
theorem dX12_night_141 : decode cX12_night 141 = .ok (.iload_n 2, 1) := by decide +kernel
theorem dX12_night_142 : decode cX12_night 142 = .ok (.iastore, 1) := by decide +kernel
theorem dX12_night_143 : decode cX12_night 143 = .ok (.aload_n 0, 1) := by decide +kernel
theorem dX12_night_144 : decode cX12_night 144 = .ok (.getfield 82, 3) := by decide +kernel
theorem dX12_night_147 : decode cX12_night 147 = .ok (.iconst 1, 1) := by decide +kernel
theorem dX12_night_148 : decode cX12_night 148 = .ok (.iload_n 3, 1) := by decide +kernel
theorem dX12_night_149 : decode cX12_night 149 = .ok (.iastore, 1) := by decide +kernel
theorem dX12_night_150 : decode cX12_night 150 = .ok (.aload_n 0, 1) := by decide +kernel
theorem dX12_night_151 : decode cX12_night 151 = .ok (.getfield 82, 3) := by decide +kernel
theorem dX12_night_154 : decode cX12_night 154 = .ok (.iconst 2, 1) := by decide +kernel
theorem dX12_night_155 : decode cX12_night 155 = .ok (.iload 4, 2) := by decide +kernel
theorem dX12_night_157 : decode cX12_night 157 = .ok (.iastore, 1) := by decide +kernel
theorem dX12_night_158 : decode cX12_night 158 = .ok (.iinc 4 1, 3) := by decide +kernel
theorem dX12_night_161 : decode cX12_night 161 = .ok (.goto (-72), 3) := by decide +kernel
theorem dX12_night_164 : decode cX12_night 164 = .ok (.iconst 0, 1) := by decide +kernel
theorem dX12_night_165 : decode cX12_night 165 = .ok (.istore 4, 2) := by decide +kernel
theorem dX12_night_167 : decode cX12_night 167 = .ok (.iload 4, 2) := by decide +kernel
theorem dX12_night_169 : decode cX12_night 169 = .ok (.sipush 168, 3) := by decide +kernel
theorem dX12_night_172 : decode cX12_night 172 = .ok (.if_icmp .ge 23, 3) := by decide +kernel
theorem dX12_night_175 : decode cX12_night 175 = .ok (.aload_n 0, 1) := by decide +kernel
theorem dX12_night_176 : decode cX12_night 176 = .ok (.getfield 39, 3) := by decide +kernel
theorem dX12_night_179 : decode cX12_night 179 = .ok (.iload 4, 2) := by decide +kernel
theorem dX12_night_181 : decode cX12_night 181 = .ok (.aload_n 0, 1) := by decide +kernel
theorem dX12_night_182 : decode cX12_night 182 = .ok (.getfield 85, 3) := by decide +kernel
theorem dX12_night_185 : decode cX12_night 185 = .ok (.iload 4, 2) := by decide +kernel
theorem dX12_night_187 : decode cX12_night 187 = .ok (.iaload, 1) := by decide +kernel
theorem dX12_night_188 : decode cX12_night 188 = .ok (.iastore, 1) := by decide +kernel
theorem dX12_night_189 : decode cX12_night 189 = .ok (.iinc 4 1, 3) := by decide +kernel
theorem dX12_night_192 : decode cX12_night 192 = .ok (.goto (-25), 3) := by decide +kernel
theorem dX12_night_195 : decode cX12_night 195 = .ok (.iinc 3 1, 3) := by decide +kernel
theorem dX12_night_198 : decode cX12_night 198 = .ok (.goto (-119), 3) := by decide +kernel
theorem dX12_night_201 : decode cX12_night 201 = .ok (.iinc 2 1, 3) := by decide +kernel
theorem dX12_night_204 : decode cX12_night 204 = .ok (.goto (-135), 3) := by decide +kernel
theorem dX12_night_207 : decode cX12_night 207 = .ok (.iconst 0, 1) := by decide +kernel
theorem dX12_night_208 : decode cX12_night 208 = .ok (.istore_n 2, 1) := by decide +kernel
theorem dX12_night_209 : decode cX12_night 209 = .ok (.iload_n 2, 1) := by decide +kernel
theorem dX12_night_210 : decode cX12_night 210 = .ok (.iconst 3, 1) := by decide +kernel
theorem dX12_night_211 : decode cX12_night 211 = .ok (.if_icmp .ge 21, 3) := by decide +kernel
theorem dX12_night_214 : decode cX12_night 214 = .ok (.iload_n 1, 1) := by decide +kernel
theorem dX12_night_215 : decode cX12_night 215 = .ok (.iconst 1, 1) := by decide +kernel
theorem dX12_night_216 : decode cX12_night 216 = .ok (.if_icmp .eq 16, 3) := by decide +kernel
theorem dX12_night_219 : decode cX12_night 219 = .ok (.aload_n 0, 1) := by decide +kernel
theorem dX12_night_220 : decode cX12_night 220 = .ok (.getfield 82, 3) := by decide +kernel
theorem dX12_night_223 : decode cX12_night 223 = .ok (.iload_n 2, 1) := by decide +kernel
theorem dX12_night_224 : decode cX12_night 224 = .ok (.iconst (-1), 1) := by decide +kernel
theorem dX12_night_225 : decode cX12_night 225 = .ok (.iastore, 1) := by decide +kernel
theorem dX12_night_226 : decode cX12_night 226 = .ok (.iinc 2 1, 3) := by decide +kernel
theorem dX12_night_229 : decode cX12_night 229 = .ok (.goto (-20), 3) := by decide +kernel
theorem dX12_night_232 : decode cX12_night 232 = .ok (.iload_n 1, 1) := by decide +kernel
theorem dX12_night_233 : decode cX12_night 233 = .ok (.ireturn, 1) := by decide +kernel
theorem dX12_led_0 : decode cX12_led 0 = .ok (.aload_n 0, 1) := by decide +kernel
theorem dX12_led_1 : decode cX12_led 1 = .ok (.iconst 0, 1) := by decide +kernel
theorem dX12_led_2 : decode cX12_led 2 = .ok (.putfield 91, 3) := by decide +kernel
theorem dX12_led_5 : decode cX12_led 5 = .ok (.iload_n 1, 1) := by decide +kernel
theorem dX12_led_6 : decode cX12_led 6 = .ok (.iconst 0, 1) := by decide +kernel
theorem dX12_led_7 : decode cX12_led 7 = .ok (.iconst 2, 1) := by decide +kernel
theorem dX12_led_8 : decode cX12_led 8 = .ok (.invokestatic 162, 3) := by decide +kernel
theorem dX12_led_11 : decode cX12_led 11 = .ok (.ifCond .eq 12, 3) := by decide +kernel
theorem dX12_led_14 : decode cX12_led 14 = .ok (.aload_n 0, 1) := by decide +kernel
theorem dX12_led_15 : decode cX12_led 15 = .ok (.getfield 82, 3) := by decide +kernel
theorem dX12_led_18 : decode cX12_led 18 = .ok (.iload_n 1, 1) := by decide +kernel
theorem dX12_led_19 : decode cX12_led 19 = .ok (.iaload, 1) := by decide +kernel
theorem dX12_led_20 : decode cX12_led 20 = .ok (.goto 4, 3) := by decide +kernel
theorem dX12_led_23 : decode cX12_led 23 = .ok (.iconst (-1), 1) := by decide +kernel
theorem dX12_led_24 : decode cX12_led 24 = .ok (.ireturn, 1) := by decide +kernel
theorem dX12_dam_0 : decode cX12_dam 0 = .ok (.aload_n 0, 1) := by decide +kernel
theorem dX12_dam_1 : decode cX12_dam 1 = .ok (.iconst 0, 1) := by decide +kernel
theorem dX12_dam_2 : decode cX12_dam 2 = .ok (.putfield 91, 3) := by decide +kernel
theorem dX12_dam_5 : decode cX12_dam 5 = .ok (.aload_n 0, 1) := by decide +kernel
theorem dX12_dam_6 : decode cX12_dam 6 = .ok (.invokevirtual 175, 3) := by decide +kernel
theorem dX12_dam_9 : decode cX12_dam 9 = .ok (.aload_n 0, 1) := by decide +kernel
theorem dX12_dam_10 : decode cX12_dam 10 = .ok (.iload_n 1, 1) := by decide +kernel
theorem dX12_dam_11 : decode cX12_dam 11 = .ok (.invokevirtual 268, 3) := by decide +kernel
theorem dX12_dam_14 : decode cX12_dam 14 = .ok (.ifCond .eq 14, 3) := by decide +kernel
theorem dX12_dam_17 : decode cX12_dam 17 = .ok (.iload_n 2, 1) := by decide +kernel
theorem dX12_dam_18 : decode cX12_dam 18 = .ok (.iconst 1, 1) := by decide +kernel
theorem dX12_dam_19 : decode cX12_dam 19 = .ok (.sipush 9999, 3) := by decide +kernel
theorem dX12_dam_22 : decode cX12_dam 22 = .ok (.invokestatic 162, 3) := by decide +kernel
theorem dX12_dam_25 : decode cX12_dam 25 = .ok (.ifCond .ne 5, 3) := by decide +kernel
theorem dX12_dam_28 : decode cX12_dam 28 = .ok (.iconst (-1), 1) := by decide +kernel
theorem dX12_dam_29 : decode cX12_dam 29 = .ok (.ireturn, 1) := by decide +kernel
theorem dX12_dam_30 : decode cX12_dam 30 = .ok (.aload_n 0, 1) := by decide +kernel
theorem dX12_dam_31 : decode cX12_dam 31 = .ok (.getfield 13, 3) := by decide +kernel
theorem dX12_dam_34 : decode cX12_dam 34 = .ok (.bipush 10, 2) := by decide +kernel
theorem dX12_dam_36 : decode cX12_dam 36 = .ok (.iconst 2, 1) := by decide +kernel
theorem dX12_dam_37 : decode cX12_dam 37 = .ok (.iload_n 1, 1) := by decide +kernel
theorem dX12_dam_38 : decode cX12_dam 38 = .ok (.imul, 1) := by decide +kernel
theorem dX12_dam_39 : decode cX12_dam 39 = .ok (.iadd, 1) := by decide +kernel
theorem dX12_dam_40 : decode cX12_dam 40 = .ok (.iaload, 1) := by decide +kernel
theorem dX12_dam_41 : decode cX12_dam 41 = .ok (.istore_n 3, 1) := by decide +kernel
theorem dX12_dam_42 : decode cX12_dam 42 = .ok (.aload_n 0, 1) := by decide +kernel
theorem dX12_dam_43 : decode cX12_dam 43 = .ok (.getfield 13, 3) := by decide +kernel
theorem dX12_dam_46 : decode cX12_dam 46 = .ok (.bipush 10, 2) := by decide +kernel
theorem dX12_dam_48 : decode cX12_dam 48 = .ok (.iconst 2, 1) := by decide +kernel
theorem dX12_dam_49 : decode cX12_dam 49 = .ok (.iload_n 1, 1) := by decide +kernel
theorem dX12_dam_50 : decode cX12_dam 50 = .ok (.imul, 1) := by decide +kernel
theorem dX12_dam_51 : decode cX12_dam 51 = .ok (.iadd, 1) := by decide +kernel
theorem dX12_dam_52 : decode cX12_dam 52 = .ok (.iload_n 2, 1) := by decide +kernel
theorem dX12_dam_53 : decode cX12_dam 53 = .ok (.iastore, 1) := by decide +kernel
theorem dX12_dam_54 : decode cX12_dam 54 = .ok (.aload_n 0, 1) := by decide +kernel
theorem dX12_dam_55 : decode cX12_dam 55 = .ok (.invokevirtual 334, 3) := by decide +kernel
theorem dX12_dam_58 : decode cX12_dam 58 = .ok (.istore 4, 2) := by decide +kernel
theorem dX12_dam_60 : decode cX12_dam 60 = .ok (.aload_n 0, 1) := by decide +kernel
theorem dX12_dam_61 : decode cX12_dam 61 = .ok (.getfield 13, 3) := by decide +kernel
theorem dX12_dam_64 : decode cX12_dam 64 = .ok (.bipush 10, 2) := by decide +kernel
theorem dX12_dam_66 : decode cX12_dam 66 = .ok (.iconst 2, 1) := by decide +kernel
theorem dX12_dam_67 : decode cX12_dam 67 = .ok (.iload_n 1, 1) := by decide +kernel
theorem dX12_dam_68 : decode cX12_dam 68 = .ok (.imul, 1) := by decide +kernel
theorem dX12_dam_69 : decode cX12_dam 69 = .ok (.iadd, 1) := by decide +kernel
theorem dX12_dam_70 : decode cX12_dam 70 = .ok (.iload_n 3, 1) := by decide +kernel
theorem dX12_dam_71 : decode cX12_dam 71 = .ok (.iastore, 1) := by decide +kernel
theorem dX12_dam_72 : decode cX12_dam 72 = .ok (.iload 4, 2) := by decide +kernel
theorem dX12_dam_74 : decode cX12_dam 74 = .ok (.ireturn, 1) := by decide +kernel
theorem dX12_draw_0 : decode cX12_draw 0 = .ok (.aload_n 0, 1) := by decide +kernel
theorem dX12_draw_1 : decode cX12_draw 1 = .ok (.aload_n 0, 1) := by decide +kernel
theorem dX12_draw_2 : decode cX12_draw 2 = .ok (.getfield 362, 3) := by decide +kernel
theorem dX12_draw_5 : decode cX12_draw 5 = .ok (.ldc_w 365, 3) := by decide +kernel
theorem dX12_draw_8 : decode cX12_draw 8 = .ok (.imul, 1) := by decide +kernel
theorem dX12_draw_9 : decode cX12_draw 9 = .ok (.sipush 12345, 3) := by decide +kernel
theorem dX12_draw_12 : decode cX12_draw 12 = .ok (.iadd, 1) := by decide +kernel
theorem dX12_draw_13 : decode cX12_draw 13 = .ok (.putfield 362, 3) := by decide +kernel
theorem dX12_draw_16 : decode cX12_draw 16 = .ok (.aload_n 0, 1) := by decide +kernel
theorem dX12_draw_17 : decode cX12_draw 17 = .ok (.getfield 362, 3) := by decide +kernel
theorem dX12_draw_20 : decode cX12_draw 20 = .ok (.bipush 8, 2) := by decide +kernel
theorem dX12_draw_22 : decode cX12_draw 22 = .ok (.iushr, 1) := by decide +kernel
theorem dX12_draw_23 : decode cX12_draw 23 = .ok (.iload_n 1, 1) := by decide +kernel
theorem dX12_draw_24 : decode cX12_draw 24 = .ok (.irem, 1) := by decide +kernel
theorem dX12_draw_25 : decode cX12_draw 25 = .ok (.ireturn, 1) := by decide +kernel
theorem dX12_rain_0 : decode cX12_rain 0 = .ok (.aload_n 0, 1) := by decide +kernel
theorem dX12_rain_1 : decode cX12_rain 1 = .ok (.iconst 0, 1) := by decide +kernel
theorem dX12_rain_2 : decode cX12_rain 2 = .ok (.putfield 91, 3) := by decide +kernel
theorem dX12_rain_5 : decode cX12_rain 5 = .ok (.aload_n 0, 1) := by decide +kernel
theorem dX12_rain_6 : decode cX12_rain 6 = .ok (.invokevirtual 175, 3) := by decide +kernel
theorem dX12_rain_9 : decode cX12_rain 9 = .ok (.iload_n 1, 1) := by decide +kernel
theorem dX12_rain_10 : decode cX12_rain 10 = .ok (.iconst 1, 1) := by decide +kernel
theorem dX12_rain_11 : decode cX12_rain 11 = .ok (.bipush 20, 2) := by decide +kernel
theorem dX12_rain_13 : decode cX12_rain 13 = .ok (.invokestatic 162, 3) := by decide +kernel
theorem dX12_rain_16 : decode cX12_rain 16 = .ok (.ifCond .ne 5, 3) := by decide +kernel
theorem dX12_rain_19 : decode cX12_rain 19 = .ok (.iconst (-1), 1) := by decide +kernel
theorem dX12_rain_20 : decode cX12_rain 20 = .ok (.ireturn, 1) := by decide +kernel
theorem dX12_rain_21 : decode cX12_rain 21 = .ok (.aload_n 0, 1) := by decide +kernel
theorem dX12_rain_22 : decode cX12_rain 22 = .ok (.iload_n 2, 1) := by decide +kernel
theorem dX12_rain_23 : decode cX12_rain 23 = .ok (.putfield 362, 3) := by decide +kernel
theorem dX12_rain_26 : decode cX12_rain 26 = .ok (.aload_n 0, 1) := by decide +kernel
theorem dX12_rain_27 : decode cX12_rain 27 = .ok (.iconst (-1), 1) := by decide +kernel
theorem dX12_rain_28 : decode cX12_rain 28 = .ok (.invokevirtual 304, 3) := by decide +kernel
theorem dX12_rain_31 : decode cX12_rain 31 = .ok (.iconst 0, 1) := by decide +kernel
theorem dX12_rain_32 : decode cX12_rain 32 = .ok (.istore_n 3, 1) := by decide +kernel
theorem dX12_rain_33 : decode cX12_rain 33 = .ok (.iconst 0, 1) := by decide +kernel
theorem dX12_rain_34 : decode cX12_rain 34 = .ok (.istore 4, 2) := by decide +kernel
theorem dX12_rain_36 : decode cX12_rain 36 = .ok (.iload 4, 2) := by decide +kernel
theorem dX12_rain_38 : decode cX12_rain 38 = .ok (.iload_n 1, 1) := by decide +kernel
theorem dX12_rain_39 : decode cX12_rain 39 = .ok (.if_icmp .ge 106, 3) := by decide +kernel
theorem dX12_rain_42 : decode cX12_rain 42 = .ok (.iconst 0, 1) := by decide +kernel
theorem dX12_rain_43 : decode cX12_rain 43 = .ok (.istore 5, 2) := by decide +kernel
theorem dX12_rain_45 : decode cX12_rain 45 = .ok (.iload 5, 2) := by decide +kernel
theorem dX12_rain_47 : decode cX12_rain 47 = .ok (.bipush 7, 2) := by decide +kernel
theorem dX12_rain_49 : decode cX12_rain 49 = .ok (.if_icmp .ge 76, 3) := by decide +kernel
theorem dX12_rain_52 : decode cX12_rain 52 = .ok (.aload_n 0, 1) := by decide +kernel
theorem dX12_rain_53 : decode cX12_rain 53 = .ok (.getfield 13, 3) := by decide +kernel
theorem dX12_rain_56 : decode cX12_rain 56 = .ok (.bipush 110, 2) := by decide +kernel
theorem dX12_rain_58 : decode cX12_rain 58 = .ok (.iload 5, 2) := by decide +kernel
theorem dX12_rain_60 : decode cX12_rain 60 = .ok (.iadd, 1) := by decide +kernel
theorem dX12_rain_61 : decode cX12_rain 61 = .ok (.iaload, 1) := by decide +kernel
theorem dX12_rain_62 : decode cX12_rain 62 = .ok (.istore 6, 2) := by decide +kernel
theorem dX12_rain_64 : decode cX12_rain 64 = .ok (.aload_n 0, 1) := by decide +kernel
theorem dX12_rain_65 : decode cX12_rain 65 = .ok (.iconst 5, 1) := by decide +kernel
theorem dX12_rain_66 : decode cX12_rain 66 = .ok (.invokevirtual 366, 3) := by decide +kernel
theorem dX12_rain_69 : decode cX12_rain 69 = .ok (.istore 7, 2) := by decide +kernel
theorem dX12_rain_71 : decode cX12_rain 71 = .ok (.aload_n 0, 1) := by decide +kernel
theorem dX12_rain_72 : decode cX12_rain 72 = .ok (.getfield 54, 3) := by decide +kernel
theorem dX12_rain_75 : decode cX12_rain 75 = .ok (.iload 5, 2) := by decide +kernel
theorem dX12_rain_77 : decode cX12_rain 77 = .ok (.iload 7, 2) := by decide +kernel
theorem dX12_rain_79 : decode cX12_rain 79 = .ok (.ifCond .ne 10, 3) := by decide +kernel
theorem dX12_rain_82 : decode cX12_rain 82 = .ok (.iload 6, 2) := by decide +kernel
theorem dX12_rain_84 : decode cX12_rain 84 = .ok (.iconst 2, 1) := by decide +kernel
theorem dX12_rain_85 : decode cX12_rain 85 = .ok (.idiv, 1) := by decide +kernel
theorem dX12_rain_86 : decode cX12_rain 86 = .ok (.goto 32, 3) := by decide +kernel
theorem dX12_rain_89 : decode cX12_rain 89 = .ok (.iload 7, 2) := by decide +kernel
theorem dX12_rain_91 : decode cX12_rain 91 = .ok (.iconst 4, 1) := by decide +kernel
theorem dX12_rain_92 : decode cX12_rain 92 = .ok (.if_icmp .ge 8, 3) := by decide +kernel
theorem dX12_rain_95 : decode cX12_rain 95 = .ok (.iload 6, 2) := by decide +kernel
theorem dX12_rain_97 : decode cX12_rain 97 = .ok (.goto 21, 3) := by decide +kernel
theorem dX12_rain_100 : decode cX12_rain 100 = .ok (.iload 6, 2) := by decide +kernel
theorem dX12_rain_102 : decode cX12_rain 102 = .ok (.sipush 3333, 3) := by decide +kernel
theorem dX12_rain_105 : decode cX12_rain 105 = .ok (.if_icmp .le 9, 3) := by decide +kernel
theorem dX12_rain_108 : decode cX12_rain 108 = .ok (.sipush 9999, 3) := by decide +kernel
theorem dX12_rain_111 : decode cX12_rain 111 = .ok (.goto 7, 3) := by decide +kernel
theorem dX12_rain_114 : decode cX12_rain 114 = .ok (.iconst 3, 1) := by decide +kernel
theorem dX12_rain_115 : decode cX12_rain 115 = .ok (.iload 6, 2) := by decide +kernel
theorem dX12_rain_117 : decode cX12_rain 117 = .ok (.imul, 1) := by decide +kernel
theorem dX12_rain_118 : decode cX12_rain 118 = .ok (.iastore, 1) := by decide +kernel
theorem dX12_rain_119 : decode cX12_rain 119 = .ok (.iinc 5 1, 3) := by decide +kernel
theorem dX12_rain_122 : decode cX12_rain 122 = .ok (.goto (-77), 3) := by decide +kernel
theorem dX12_rain_125 : decode cX12_rain 125 = .ok (.aload_n 0, 1) := by decide +kernel
theorem dX12_rain_126 : decode cX12_rain 126 = .ok (.invokevirtual 310, 3) := by decide +kernel
theorem dX12_rain_129 : decode cX12_rain 129 = .ok (.aload_n 0, 1) := by decide +kernel
theorem dX12_rain_130 : decode cX12_rain 130 = .ok (.invokevirtual 325, 3) := by decide +kernel
theorem dX12_rain_133 : decode cX12_rain 133 = .ok (.ifCond .le 6, 3) := by decide +kernel
theorem dX12_rain_136 : decode cX12_rain 136 = .ok (.iinc 3 1, 3) := by decide +kernel
theorem dX12_rain_139 : decode cX12_rain 139 = .ok (.iinc 4 1, 3) := by decide +kernel
theorem dX12_rain_142 : decode cX12_rain 142 = .ok (.goto (-106), 3) := by decide +kernel
theorem dX12_rain_145 : decode cX12_rain 145 = .ok (.iload_n 3, 1) := by decide +kernel
theorem dX12_rain_146 : decode cX12_rain 146 = .ok (.ireturn, 1) := by decide +kernel
theorem dX12_lays_0 : decode cX12_lays 0 = .ok (.iconst 4, 1) := by decide +kernel
theorem dX12_lays_1 : decode cX12_lays 1 = .ok (.aload_n 0, 1) := by decide +kernel
theorem dX12_lays_2 : decode cX12_lays 2 = .ok (.getfield 369, 3) := by decide +kernel
theorem dX12_lays_5 : decode cX12_lays 5 = .ok (.imul, 1) := by decide +kernel
theorem dX12_lays_6 : decode cX12_lays 6 = .ok (.istore 5, 2) := by decide +kernel
theorem dX12_lays_8 : decode cX12_lays 8 = .ok (.aload_n 0, 1) := by decide +kernel
theorem dX12_lays_9 : decode cX12_lays 9 = .ok (.getfield 88, 3) := by decide +kernel
theorem dX12_lays_12 : decode cX12_lays 12 = .ok (.iload 5, 2) := by decide +kernel
theorem dX12_lays_14 : decode cX12_lays 14 = .ok (.iload_n 1, 1) := by decide +kernel
theorem dX12_lays_15 : decode cX12_lays 15 = .ok (.iastore, 1) := by decide +kernel
theorem dX12_lays_16 : decode cX12_lays 16 = .ok (.aload_n 0, 1) := by decide +kernel
theorem dX12_lays_17 : decode cX12_lays 17 = .ok (.getfield 88, 3) := by decide +kernel
theorem dX12_lays_20 : decode cX12_lays 20 = .ok (.iload 5, 2) := by decide +kernel
theorem dX12_lays_22 : decode cX12_lays 22 = .ok (.iconst 1, 1) := by decide +kernel
theorem dX12_lays_23 : decode cX12_lays 23 = .ok (.iadd, 1) := by decide +kernel
theorem dX12_lays_24 : decode cX12_lays 24 = .ok (.iload_n 2, 1) := by decide +kernel
theorem dX12_lays_25 : decode cX12_lays 25 = .ok (.iastore, 1) := by decide +kernel
theorem dX12_lays_26 : decode cX12_lays 26 = .ok (.aload_n 0, 1) := by decide +kernel
theorem dX12_lays_27 : decode cX12_lays 27 = .ok (.getfield 88, 3) := by decide +kernel
theorem dX12_lays_30 : decode cX12_lays 30 = .ok (.iload 5, 2) := by decide +kernel
theorem dX12_lays_32 : decode cX12_lays 32 = .ok (.iconst 2, 1) := by decide +kernel
theorem dX12_lays_33 : decode cX12_lays 33 = .ok (.iadd, 1) := by decide +kernel
theorem dX12_lays_34 : decode cX12_lays 34 = .ok (.iload_n 3, 1) := by decide +kernel
theorem dX12_lays_35 : decode cX12_lays 35 = .ok (.iastore, 1) := by decide +kernel
theorem dX12_lays_36 : decode cX12_lays 36 = .ok (.aload_n 0, 1) := by decide +kernel
theorem dX12_lays_37 : decode cX12_lays 37 = .ok (.getfield 88, 3) := by decide +kernel
theorem dX12_lays_40 : decode cX12_lays 40 = .ok (.iload 5, 2) := by decide +kernel
theorem dX12_lays_42 : decode cX12_lays 42 = .ok (.iconst 3, 1) := by decide +kernel
theorem dX12_lays_43 : decode cX12_lays 43 = .ok (.iadd, 1) := by decide +kernel
theorem dX12_lays_44 : decode cX12_lays 44 = .ok (.iload 4, 2) := by decide +kernel
theorem dX12_lays_46 : decode cX12_lays 46 = .ok (.iastore, 1) := by decide +kernel
theorem dX12_lays_47 : decode cX12_lays 47 = .ok (.aload_n 0, 1) := by decide +kernel
theorem dX12_lays_48 : decode cX12_lays 48 = .ok (.dup, 1) := by decide +kernel
theorem dX12_lays_49 : decode cX12_lays 49 = .ok (.getfield 369, 3) := by decide +kernel
theorem dX12_lays_52 : decode cX12_lays 52 = .ok (.iconst 1, 1) := by decide +kernel
theorem dX12_lays_53 : decode cX12_lays 53 = .ok (.iadd, 1) := by decide +kernel
theorem dX12_lays_54 : decode cX12_lays 54 = .ok (.putfield 369, 3) := by decide +kernel
theorem dX12_lays_57 : decode cX12_lays 57 = .ok (.aload_n 0, 1) := by decide +kernel
theorem dX12_lays_58 : decode cX12_lays 58 = .ok (.getfield 369, 3) := by decide +kernel
theorem dX12_lays_61 : decode cX12_lays 61 = .ok (.iconst 1, 1) := by decide +kernel
theorem dX12_lays_62 : decode cX12_lays 62 = .ok (.isub, 1) := by decide +kernel
theorem dX12_lays_63 : decode cX12_lays 63 = .ok (.ireturn, 1) := by decide +kernel
theorem dX12_readOr_0 : decode cX12_readOr 0 = .ok (.aload_n 0, 1) := by decide +kernel
theorem dX12_readOr_1 : decode cX12_readOr 1 = .ok (.invokevirtual 372, 3) := by decide +kernel
theorem dX12_readOr_4 : decode cX12_readOr 4 = .ok (.ifCond .ne 5, 3) := by decide +kernel
theorem dX12_readOr_7 : decode cX12_readOr 7 = .ok (.iconst 0, 1) := by decide +kernel
theorem dX12_readOr_8 : decode cX12_readOr 8 = .ok (.ireturn, 1) := by decide +kernel
theorem dX12_readOr_9 : decode cX12_readOr 9 = .ok (.aload_n 0, 1) := by decide +kernel
theorem dX12_readOr_10 : decode cX12_readOr 10 = .ok (.getfield 375, 3) := by decide +kernel
theorem dX12_readOr_13 : decode cX12_readOr 13 = .ok (.istore_n 1, 1) := by decide +kernel
theorem dX12_readOr_14 : decode cX12_readOr 14 = .ok (.aload_n 0, 1) := by decide +kernel
theorem dX12_readOr_15 : decode cX12_readOr 15 = .ok (.bipush 8, 2) := by decide +kernel
theorem dX12_readOr_17 : decode cX12_readOr 17 = .ok (.invokevirtual 235, 3) := by decide +kernel
theorem dX12_readOr_20 : decode cX12_readOr 20 = .ok (.ifCond .eq 31, 3) := by decide +kernel
theorem dX12_readOr_23 : decode cX12_readOr 23 = .ok (.aload_n 0, 1) := by decide +kernel
theorem dX12_readOr_24 : decode cX12_readOr 24 = .ok (.invokevirtual 169, 3) := by decide +kernel
theorem dX12_readOr_27 : decode cX12_readOr 27 = .ok (.aload_n 0, 1) := by decide +kernel
theorem dX12_readOr_28 : decode cX12_readOr 28 = .ok (.invokevirtual 372, 3) := by decide +kernel
theorem dX12_readOr_31 : decode cX12_readOr 31 = .ok (.ifCond .ne 5, 3) := by decide +kernel
theorem dX12_readOr_34 : decode cX12_readOr 34 = .ok (.iconst 0, 1) := by decide +kernel
theorem dX12_readOr_35 : decode cX12_readOr 35 = .ok (.ireturn, 1) := by decide +kernel
theorem dX12_readOr_36 : decode cX12_readOr 36 = .ok (.aload_n 0, 1) := by decide +kernel
theorem dX12_readOr_37 : decode cX12_readOr 37 = .ok (.iconst 3, 1) := by decide +kernel
theorem dX12_readOr_38 : decode cX12_readOr 38 = .ok (.iload_n 1, 1) := by decide +kernel
theorem dX12_readOr_39 : decode cX12_readOr 39 = .ok (.aload_n 0, 1) := by decide +kernel
theorem dX12_readOr_40 : decode cX12_readOr 40 = .ok (.getfield 375, 3) := by decide +kernel
theorem dX12_readOr_43 : decode cX12_readOr 43 = .ok (.iconst 0, 1) := by decide +kernel
theorem dX12_readOr_44 : decode cX12_readOr 44 = .ok (.invokevirtual 378, 3) := by decide +kernel
theorem dX12_readOr_47 : decode cX12_readOr 47 = .ok (.istore_n 1, 1) := by decide +kernel
theorem dX12_readOr_48 : decode cX12_readOr 48 = .ok (.goto (-34), 3) := by decide +kernel
theorem dX12_readOr_51 : decode cX12_readOr 51 = .ok (.aload_n 0, 1) := by decide +kernel
theorem dX12_readOr_52 : decode cX12_readOr 52 = .ok (.iload_n 1, 1) := by decide +kernel
theorem dX12_readOr_53 : decode cX12_readOr 53 = .ok (.putfield 375, 3) := by decide +kernel
theorem dX12_readOr_56 : decode cX12_readOr 56 = .ok (.iconst 1, 1) := by decide +kernel
theorem dX12_readOr_57 : decode cX12_readOr 57 = .ok (.ireturn, 1) := by decide +kernel
theorem dX12_readAnd_0 : decode cX12_readAnd 0 = .ok (.aload_n 0, 1) := by decide +kernel
theorem dX12_readAnd_1 : decode cX12_readAnd 1 = .ok (.invokevirtual 382, 3) := by decide +kernel
theorem dX12_readAnd_4 : decode cX12_readAnd 4 = .ok (.ifCond .ne 5, 3) := by decide +kernel
theorem dX12_readAnd_7 : decode cX12_readAnd 7 = .ok (.iconst 0, 1) := by decide +kernel
theorem dX12_readAnd_8 : decode cX12_readAnd 8 = .ok (.ireturn, 1) := by decide +kernel
theorem dX12_readAnd_9 : decode cX12_readAnd 9 = .ok (.aload_n 0, 1) := by decide +kernel
theorem dX12_readAnd_10 : decode cX12_readAnd 10 = .ok (.getfield 375, 3) := by decide +kernel
theorem dX12_readAnd_13 : decode cX12_readAnd 13 = .ok (.istore_n 1, 1) := by decide +kernel
theorem dX12_readAnd_14 : decode cX12_readAnd 14 = .ok (.aload_n 0, 1) := by decide +kernel
theorem dX12_readAnd_15 : decode cX12_readAnd 15 = .ok (.bipush 9, 2) := by decide +kernel
theorem dX12_readAnd_17 : decode cX12_readAnd 17 = .ok (.invokevirtual 235, 3) := by decide +kernel
theorem dX12_readAnd_20 : decode cX12_readAnd 20 = .ok (.ifCond .eq 31, 3) := by decide +kernel
theorem dX12_readAnd_23 : decode cX12_readAnd 23 = .ok (.aload_n 0, 1) := by decide +kernel
theorem dX12_readAnd_24 : decode cX12_readAnd 24 = .ok (.invokevirtual 169, 3) := by decide +kernel
theorem dX12_readAnd_27 : decode cX12_readAnd 27 = .ok (.aload_n 0, 1) := by decide +kernel
theorem dX12_readAnd_28 : decode cX12_readAnd 28 = .ok (.invokevirtual 382, 3) := by decide +kernel
theorem dX12_readAnd_31 : decode cX12_readAnd 31 = .ok (.ifCond .ne 5, 3) := by decide +kernel
theorem dX12_readAnd_34 : decode cX12_readAnd 34 = .ok (.iconst 0, 1) := by decide +kernel
theorem dX12_readAnd_35 : decode cX12_readAnd 35 = .ok (.ireturn, 1) := by decide +kernel
theorem dX12_readAnd_36 : decode cX12_readAnd 36 = .ok (.aload_n 0, 1) := by decide +kernel
theorem dX12_readAnd_37 : decode cX12_readAnd 37 = .ok (.iconst 2, 1) := by decide +kernel
theorem dX12_readAnd_38 : decode cX12_readAnd 38 = .ok (.iload_n 1, 1) := by decide +kernel
theorem dX12_readAnd_39 : decode cX12_readAnd 39 = .ok (.aload_n 0, 1) := by decide +kernel
theorem dX12_readAnd_40 : decode cX12_readAnd 40 = .ok (.getfield 375, 3) := by decide +kernel
theorem dX12_readAnd_43 : decode cX12_readAnd 43 = .ok (.iconst 0, 1) := by decide +kernel
theorem dX12_readAnd_44 : decode cX12_readAnd 44 = .ok (.invokevirtual 378, 3) := by decide +kernel
theorem dX12_readAnd_47 : decode cX12_readAnd 47 = .ok (.istore_n 1, 1) := by decide +kernel
theorem dX12_readAnd_48 : decode cX12_readAnd 48 = .ok (.goto (-34), 3) := by decide +kernel
theorem dX12_readAnd_51 : decode cX12_readAnd 51 = .ok (.aload_n 0, 1) := by decide +kernel
theorem dX12_readAnd_52 : decode cX12_readAnd 52 = .ok (.iload_n 1, 1) := by decide +kernel
theorem dX12_readAnd_53 : decode cX12_readAnd 53 = .ok (.putfield 375, 3) := by decide +kernel
theorem dX12_readAnd_56 : decode cX12_readAnd 56 = .ok (.iconst 1, 1) := by decide +kernel
theorem dX12_readAnd_57 : decode cX12_readAnd 57 = .ok (.ireturn, 1) := by decide +kernel
theorem dX12_readOne_0 : decode cX12_readOne 0 = .ok (.aload_n 0, 1) := by decide +kernel
theorem dX12_readOne_1 : decode cX12_readOne 1 = .ok (.bipush 40, 2) := by decide +kernel
theorem dX12_readOne_3 : decode cX12_readOne 3 = .ok (.invokevirtual 172, 3) := by decide +kernel
theorem dX12_readOne_6 : decode cX12_readOne 6 = .ok (.istore_n 1, 1) := by decide +kernel
theorem dX12_readOne_7 : decode cX12_readOne 7 = .ok (.bipush 10, 2) := by decide +kernel
theorem dX12_readOne_9 : decode cX12_readOne 9 = .ok (.istore_n 2, 1) := by decide +kernel
theorem dX12_readOne_10 : decode cX12_readOne 10 = .ok (.iload_n 2, 1) := by decide +kernel
theorem dX12_readOne_11 : decode cX12_readOne 11 = .ok (.bipush 16, 2) := by decide +kernel
theorem dX12_readOne_13 : decode cX12_readOne 13 = .ok (.if_icmp .gt 17, 3) := by decide +kernel
theorem dX12_readOne_16 : decode cX12_readOne 16 = .ok (.aload_n 0, 1) := by decide +kernel
theorem dX12_readOne_17 : decode cX12_readOne 17 = .ok (.iload_n 2, 1) := by decide +kernel
theorem dX12_readOne_18 : decode cX12_readOne 18 = .ok (.invokevirtual 235, 3) := by decide +kernel
theorem dX12_readOne_21 : decode cX12_readOne 21 = .ok (.ifCond .ne 9, 3) := by decide +kernel
theorem dX12_readOne_24 : decode cX12_readOne 24 = .ok (.iinc 2 1, 3) := by decide +kernel
theorem dX12_readOne_27 : decode cX12_readOne 27 = .ok (.goto (-17), 3) := by decide +kernel
theorem dX12_readOne_30 : decode cX12_readOne 30 = .ok (.iload_n 1, 1) := by decide +kernel
theorem dX12_readOne_31 : decode cX12_readOne 31 = .ok (.ifCond .ne 15, 3) := by decide +kernel
theorem dX12_readOne_34 : decode cX12_readOne 34 = .ok (.iload_n 2, 1) := by decide +kernel
theorem dX12_readOne_35 : decode cX12_readOne 35 = .ok (.bipush 16, 2) := by decide +kernel
theorem dX12_readOne_37 : decode cX12_readOne 37 = .ok (.if_icmp .le 9, 3) := by decide +kernel
theorem dX12_readOne_40 : decode cX12_readOne 40 = .ok (.aload_n 0, 1) := by decide +kernel
theorem dX12_readOne_41 : decode cX12_readOne 41 = .ok (.iconst 1, 1) := by decide +kernel
theorem dX12_readOne_42 : decode cX12_readOne 42 = .ok (.invokevirtual 159, 3) := by decide +kernel
theorem dX12_readOne_45 : decode cX12_readOne 45 = .ok (.ireturn, 1) := by decide +kernel
theorem dX12_readOne_46 : decode cX12_readOne 46 = .ok (.aload_n 0, 1) := by decide +kernel
theorem dX12_readOne_47 : decode cX12_readOne 47 = .ok (.getfield 385, 3) := by decide +kernel
theorem dX12_readOne_50 : decode cX12_readOne 50 = .ok (.bipush 20, 2) := by decide +kernel
theorem dX12_readOne_52 : decode cX12_readOne 52 = .ok (.if_icmp .eq 12, 3) := by decide +kernel
theorem dX12_readOne_55 : decode cX12_readOne 55 = .ok (.aload_n 0, 1) := by decide +kernel
theorem dX12_readOne_56 : decode cX12_readOne 56 = .ok (.getfield 388, 3) := by decide +kernel
theorem dX12_readOne_59 : decode cX12_readOne 59 = .ok (.bipush 8, 2) := by decide +kernel
theorem dX12_readOne_61 : decode cX12_readOne 61 = .ok (.if_icmp .ne 9, 3) := by decide +kernel
theorem dX12_readOne_64 : decode cX12_readOne 64 = .ok (.aload_n 0, 1) := by decide +kernel
theorem dX12_readOne_65 : decode cX12_readOne 65 = .ok (.iconst 4, 1) := by decide +kernel
theorem dX12_readOne_66 : decode cX12_readOne 66 = .ok (.invokevirtual 159, 3) := by decide +kernel
theorem dX12_readOne_69 : decode cX12_readOne 69 = .ok (.ireturn, 1) := by decide +kernel
theorem dX12_readOne_70 : decode cX12_readOne 70 = .ok (.aload_n 0, 1) := by decide +kernel
theorem dX12_readOne_71 : decode cX12_readOne 71 = .ok (.dup, 1) := by decide +kernel
theorem dX12_readOne_72 : decode cX12_readOne 72 = .ok (.getfield 385, 3) := by decide +kernel
theorem dX12_readOne_75 : decode cX12_readOne 75 = .ok (.iconst 1, 1) := by decide +kernel
theorem dX12_readOne_76 : decode cX12_readOne 76 = .ok (.iadd, 1) := by decide +kernel
theorem dX12_readOne_77 : decode cX12_readOne 77 = .ok (.putfield 385, 3) := by decide +kernel
theorem dX12_readOne_80 : decode cX12_readOne 80 = .ok (.aload_n 0, 1) := by decide +kernel
theorem dX12_readOne_81 : decode cX12_readOne 81 = .ok (.dup, 1) := by decide +kernel
theorem dX12_readOne_82 : decode cX12_readOne 82 = .ok (.getfield 388, 3) := by decide +kernel
theorem dX12_readOne_85 : decode cX12_readOne 85 = .ok (.iconst 1, 1) := by decide +kernel
theorem dX12_readOne_86 : decode cX12_readOne 86 = .ok (.iadd, 1) := by decide +kernel
theorem dX12_readOne_87 : decode cX12_readOne 87 = .ok (.putfield 388, 3) := by decide +kernel
theorem dX12_readOne_90 : decode cX12_readOne 90 = .ok (.aload_n 0, 1) := by decide +kernel
theorem dX12_readOne_91 : decode cX12_readOne 91 = .ok (.invokevirtual 169, 3) := by decide +kernel
theorem dX12_readOne_94 : decode cX12_readOne 94 = .ok (.iconst 1, 1) := by decide +kernel
theorem dX12_readOne_95 : decode cX12_readOne 95 = .ok (.istore_n 3, 1) := by decide +kernel
theorem dX12_readOne_96 : decode cX12_readOne 96 = .ok (.iload_n 1, 1) := by decide +kernel
theorem dX12_readOne_97 : decode cX12_readOne 97 = .ok (.ifCond .eq 11, 3) := by decide +kernel
theorem dX12_readOne_100 : decode cX12_readOne 100 = .ok (.aload_n 0, 1) := by decide +kernel
theorem dX12_readOne_101 : decode cX12_readOne 101 = .ok (.invokevirtual 391, 3) := by decide +kernel
theorem dX12_readOne_104 : decode cX12_readOne 104 = .ok (.istore_n 3, 1) := by decide +kernel
theorem dX12_readOne_105 : decode cX12_readOne 105 = .ok (.goto 38, 3) := by decide +kernel
theorem dX12_readOne_108 : decode cX12_readOne 108 = .ok (.iload_n 2, 1) := by decide +kernel
theorem dX12_readOne_109 : decode cX12_readOne 109 = .ok (.bipush 10, 2) := by decide +kernel
theorem dX12_readOne_111 : decode cX12_readOne 111 = .ok (.if_icmp .ne 11, 3) := by decide +kernel
theorem dX12_readOne_114 : decode cX12_readOne 114 = .ok (.aload_n 0, 1) := by decide +kernel
theorem dX12_readOne_115 : decode cX12_readOne 115 = .ok (.invokevirtual 394, 3) := by decide +kernel
theorem dX12_readOne_118 : decode cX12_readOne 118 = .ok (.istore_n 3, 1) := by decide +kernel
theorem dX12_readOne_119 : decode cX12_readOne 119 = .ok (.goto 24, 3) := by decide +kernel
theorem dX12_readOne_122 : decode cX12_readOne 122 = .ok (.iload_n 2, 1) := by decide +kernel
theorem dX12_readOne_123 : decode cX12_readOne 123 = .ok (.bipush 13, 2) := by decide +kernel
theorem dX12_readOne_125 : decode cX12_readOne 125 = .ok (.if_icmp .ge 12, 3) := by decide +kernel
theorem dX12_readOne_128 : decode cX12_readOne 128 = .ok (.aload_n 0, 1) := by decide +kernel
theorem dX12_readOne_129 : decode cX12_readOne 129 = .ok (.iload_n 2, 1) := by decide +kernel
theorem dX12_readOne_130 : decode cX12_readOne 130 = .ok (.invokevirtual 397, 3) := by decide +kernel
theorem dX12_readOne_133 : decode cX12_readOne 133 = .ok (.istore_n 3, 1) := by decide +kernel
theorem dX12_readOne_134 : decode cX12_readOne 134 = .ok (.goto 9, 3) := by decide +kernel
theorem dX12_readOne_137 : decode cX12_readOne 137 = .ok (.aload_n 0, 1) := by decide +kernel
theorem dX12_readOne_138 : decode cX12_readOne 138 = .ok (.iload_n 2, 1) := by decide +kernel
theorem dX12_readOne_139 : decode cX12_readOne 139 = .ok (.invokevirtual 400, 3) := by decide +kernel
theorem dX12_readOne_142 : decode cX12_readOne 142 = .ok (.istore_n 3, 1) := by decide +kernel
theorem dX12_readOne_143 : decode cX12_readOne 143 = .ok (.aload_n 0, 1) := by decide +kernel
theorem dX12_readOne_144 : decode cX12_readOne 144 = .ok (.dup, 1) := by decide +kernel
theorem dX12_readOne_145 : decode cX12_readOne 145 = .ok (.getfield 388, 3) := by decide +kernel
theorem dX12_readOne_148 : decode cX12_readOne 148 = .ok (.iconst 1, 1) := by decide +kernel
theorem dX12_readOne_149 : decode cX12_readOne 149 = .ok (.isub, 1) := by decide +kernel
theorem dX12_readOne_150 : decode cX12_readOne 150 = .ok (.putfield 388, 3) := by decide +kernel
theorem dX12_readOne_153 : decode cX12_readOne 153 = .ok (.iload_n 3, 1) := by decide +kernel
theorem dX12_readOne_154 : decode cX12_readOne 154 = .ok (.ireturn, 1) := by decide +kernel
theorem dX12_readNot_0 : decode cX12_readNot 0 = .ok (.aload_n 0, 1) := by decide +kernel
theorem dX12_readNot_1 : decode cX12_readNot 1 = .ok (.invokevirtual 382, 3) := by decide +kernel
theorem dX12_readNot_4 : decode cX12_readNot 4 = .ok (.ifCond .ne 5, 3) := by decide +kernel
theorem dX12_readNot_7 : decode cX12_readNot 7 = .ok (.iconst 0, 1) := by decide +kernel
theorem dX12_readNot_8 : decode cX12_readNot 8 = .ok (.ireturn, 1) := by decide +kernel
theorem dX12_readNot_9 : decode cX12_readNot 9 = .ok (.aload_n 0, 1) := by decide +kernel
theorem dX12_readNot_10 : decode cX12_readNot 10 = .ok (.aload_n 0, 1) := by decide +kernel
theorem dX12_readNot_11 : decode cX12_readNot 11 = .ok (.iconst 1, 1) := by decide +kernel
theorem dX12_readNot_12 : decode cX12_readNot 12 = .ok (.aload_n 0, 1) := by decide +kernel
theorem dX12_readNot_13 : decode cX12_readNot 13 = .ok (.getfield 375, 3) := by decide +kernel
theorem dX12_readNot_16 : decode cX12_readNot 16 = .ok (.iconst 0, 1) := by decide +kernel
theorem dX12_readNot_17 : decode cX12_readNot 17 = .ok (.iconst 0, 1) := by decide +kernel
theorem dX12_readNot_18 : decode cX12_readNot 18 = .ok (.invokevirtual 378, 3) := by decide +kernel
theorem dX12_readNot_21 : decode cX12_readNot 21 = .ok (.putfield 375, 3) := by decide +kernel
theorem dX12_readNot_24 : decode cX12_readNot 24 = .ok (.iconst 1, 1) := by decide +kernel
theorem dX12_readNot_25 : decode cX12_readNot 25 = .ok (.ireturn, 1) := by decide +kernel
theorem dX12_readBracket_0 : decode cX12_readBracket 0 = .ok (.aload_n 0, 1) := by decide +kernel
theorem dX12_readBracket_1 : decode cX12_readBracket 1 = .ok (.invokevirtual 403, 3) := by decide +kernel
theorem dX12_readBracket_4 : decode cX12_readBracket 4 = .ok (.ifCond .ne 5, 3) := by decide +kernel
theorem dX12_readBracket_7 : decode cX12_readBracket 7 = .ok (.iconst 0, 1) := by decide +kernel
theorem dX12_readBracket_8 : decode cX12_readBracket 8 = .ok (.ireturn, 1) := by decide +kernel
theorem dX12_readBracket_9 : decode cX12_readBracket 9 = .ok (.aload_n 0, 1) := by decide +kernel
theorem dX12_readBracket_10 : decode cX12_readBracket 10 = .ok (.bipush 41, 2) := by decide +kernel
theorem dX12_readBracket_12 : decode cX12_readBracket 12 = .ok (.invokevirtual 172, 3) := by decide +kernel
theorem dX12_readBracket_15 : decode cX12_readBracket 15 = .ok (.ifCond .ne 9, 3) := by decide +kernel
theorem dX12_readBracket_18 : decode cX12_readBracket 18 = .ok (.aload_n 0, 1) := by decide +kernel
theorem dX12_readBracket_19 : decode cX12_readBracket 19 = .ok (.iconst 1, 1) := by decide +kernel
theorem dX12_readBracket_20 : decode cX12_readBracket 20 = .ok (.invokevirtual 159, 3) := by decide +kernel
theorem dX12_readBracket_23 : decode cX12_readBracket 23 = .ok (.ireturn, 1) := by decide +kernel
theorem dX12_readBracket_24 : decode cX12_readBracket 24 = .ok (.aload_n 0, 1) := by decide +kernel
theorem dX12_readBracket_25 : decode cX12_readBracket 25 = .ok (.invokevirtual 169, 3) := by decide +kernel
theorem dX12_readBracket_28 : decode cX12_readBracket 28 = .ok (.iconst 1, 1) := by decide +kernel
theorem dX12_readBracket_29 : decode cX12_readBracket 29 = .ok (.ireturn, 1) := by decide +kernel
theorem dX12_readNamed_0 : decode cX12_readNamed 0 = .ok (.aload_n 0, 1) := by decide +kernel
theorem dX12_readNamed_1 : decode cX12_readNamed 1 = .ok (.invokevirtual 206, 3) := by decide +kernel
theorem dX12_readNamed_4 : decode cX12_readNamed 4 = .ok (.ifCond .ne 9, 3) := by decide +kernel
theorem dX12_readNamed_7 : decode cX12_readNamed 7 = .ok (.aload_n 0, 1) := by decide +kernel
theorem dX12_readNamed_8 : decode cX12_readNamed 8 = .ok (.iconst 1, 1) := by decide +kernel
theorem dX12_readNamed_9 : decode cX12_readNamed 9 = .ok (.invokevirtual 159, 3) := by decide +kernel
theorem dX12_readNamed_12 : decode cX12_readNamed 12 = .ok (.ireturn, 1) := by decide +kernel
theorem dX12_readNamed_13 : decode cX12_readNamed 13 = .ok (.aload_n 0, 1) := by decide +kernel
theorem dX12_readNamed_14 : decode cX12_readNamed 14 = .ok (.aload_n 0, 1) := by decide +kernel
theorem dX12_readNamed_15 : decode cX12_readNamed 15 = .ok (.getfield 25, 3) := by decide +kernel
theorem dX12_readNamed_18 : decode cX12_readNamed 18 = .ok (.iload_n 1, 1) := by decide +kernel
theorem dX12_readNamed_19 : decode cX12_readNamed 19 = .ok (.iload_n 2, 1) := by decide +kernel
theorem dX12_readNamed_20 : decode cX12_readNamed 20 = .ok (.invokevirtual 202, 3) := by decide +kernel
theorem dX12_readNamed_23 : decode cX12_readNamed 23 = .ok (.istore_n 3, 1) := by decide +kernel
theorem dX12_readNamed_24 : decode cX12_readNamed 24 = .ok (.iload_n 3, 1) := by decide +kernel
theorem dX12_readNamed_25 : decode cX12_readNamed 25 = .ok (.iconst (-1), 1) := by decide +kernel
theorem dX12_readNamed_26 : decode cX12_readNamed 26 = .ok (.if_icmp .ne 9, 3) := by decide +kernel
theorem dX12_readNamed_29 : decode cX12_readNamed 29 = .ok (.aload_n 0, 1) := by decide +kernel
theorem dX12_readNamed_30 : decode cX12_readNamed 30 = .ok (.iconst 3, 1) := by decide +kernel
theorem dX12_readNamed_31 : decode cX12_readNamed 31 = .ok (.invokevirtual 159, 3) := by decide +kernel
theorem dX12_readNamed_34 : decode cX12_readNamed 34 = .ok (.ireturn, 1) := by decide +kernel
theorem dX12_readNamed_35 : decode cX12_readNamed 35 = .ok (.aload_n 0, 1) := by decide +kernel
theorem dX12_readNamed_36 : decode cX12_readNamed 36 = .ok (.iload_n 3, 1) := by decide +kernel
theorem dX12_readNamed_37 : decode cX12_readNamed 37 = .ok (.putfield 166, 3) := by decide +kernel
theorem dX12_readNamed_40 : decode cX12_readNamed 40 = .ok (.aload_n 0, 1) := by decide +kernel
theorem dX12_readNamed_41 : decode cX12_readNamed 41 = .ok (.invokevirtual 169, 3) := by decide +kernel
theorem dX12_readNamed_44 : decode cX12_readNamed 44 = .ok (.iconst 1, 1) := by decide +kernel
theorem dX12_readNamed_45 : decode cX12_readNamed 45 = .ok (.ireturn, 1) := by decide +kernel
theorem dX12_readOf_0 : decode cX12_readOf 0 = .ok (.iload_n 1, 1) := by decide +kernel
theorem dX12_readOf_1 : decode cX12_readOf 1 = .ok (.bipush 11, 2) := by decide +kernel
theorem dX12_readOf_3 : decode cX12_readOf 3 = .ok (.if_icmp .ne 19, 3) := by decide +kernel
theorem dX12_readOf_6 : decode cX12_readOf 6 = .ok (.aload_n 0, 1) := by decide +kernel
theorem dX12_readOf_7 : decode cX12_readOf 7 = .ok (.bipush 14, 2) := by decide +kernel
theorem dX12_readOf_9 : decode cX12_readOf 9 = .ok (.aload_n 0, 1) := by decide +kernel
theorem dX12_readOf_10 : decode cX12_readOf 10 = .ok (.invokevirtual 196, 3) := by decide +kernel
theorem dX12_readOf_13 : decode cX12_readOf 13 = .ok (.invokevirtual 406, 3) := by decide +kernel
theorem dX12_readOf_16 : decode cX12_readOf 16 = .ok (.ifCond .eq 19, 3) := by decide +kernel
theorem dX12_readOf_19 : decode cX12_readOf 19 = .ok (.goto 18, 3) := by decide +kernel
theorem dX12_readOf_22 : decode cX12_readOf 22 = .ok (.aload_n 0, 1) := by decide +kernel
theorem dX12_readOf_23 : decode cX12_readOf 23 = .ok (.bipush 20, 2) := by decide +kernel
theorem dX12_readOf_25 : decode cX12_readOf 25 = .ok (.aload_n 0, 1) := by decide +kernel
theorem dX12_readOf_26 : decode cX12_readOf 26 = .ok (.invokevirtual 199, 3) := by decide +kernel
theorem dX12_readOf_29 : decode cX12_readOf 29 = .ok (.invokevirtual 406, 3) := by decide +kernel
theorem dX12_readOf_32 : decode cX12_readOf 32 = .ok (.ifCond .ne 5, 3) := by decide +kernel
theorem dX12_readOf_35 : decode cX12_readOf 35 = .ok (.iconst 0, 1) := by decide +kernel
theorem dX12_readOf_36 : decode cX12_readOf 36 = .ok (.ireturn, 1) := by decide +kernel
theorem dX12_readOf_37 : decode cX12_readOf 37 = .ok (.aload_n 0, 1) := by decide +kernel
theorem dX12_readOf_38 : decode cX12_readOf 38 = .ok (.aload_n 0, 1) := by decide +kernel
theorem dX12_readOf_39 : decode cX12_readOf 39 = .ok (.iload_n 1, 1) := by decide +kernel
theorem dX12_readOf_40 : decode cX12_readOf 40 = .ok (.bipush 11, 2) := by decide +kernel
theorem dX12_readOf_42 : decode cX12_readOf 42 = .ok (.if_icmp .ne 7, 3) := by decide +kernel
theorem dX12_readOf_45 : decode cX12_readOf 45 = .ok (.iconst 4, 1) := by decide +kernel
theorem dX12_readOf_46 : decode cX12_readOf 46 = .ok (.goto 4, 3) := by decide +kernel
theorem dX12_readOf_49 : decode cX12_readOf 49 = .ok (.iconst 5, 1) := by decide +kernel
theorem dX12_readOf_50 : decode cX12_readOf 50 = .ok (.aload_n 0, 1) := by decide +kernel
theorem dX12_readOf_51 : decode cX12_readOf 51 = .ok (.getfield 166, 3) := by decide +kernel
theorem dX12_readOf_54 : decode cX12_readOf 54 = .ok (.iconst 0, 1) := by decide +kernel
theorem dX12_readOf_55 : decode cX12_readOf 55 = .ok (.iconst 0, 1) := by decide +kernel
theorem dX12_readOf_56 : decode cX12_readOf 56 = .ok (.invokevirtual 378, 3) := by decide +kernel
theorem dX12_readOf_59 : decode cX12_readOf 59 = .ok (.putfield 375, 3) := by decide +kernel
theorem dX12_readOf_62 : decode cX12_readOf 62 = .ok (.iconst 1, 1) := by decide +kernel
theorem dX12_readOf_63 : decode cX12_readOf 63 = .ok (.ireturn, 1) := by decide +kernel
theorem dX12_readCompare_0 : decode cX12_readCompare 0 = .ok (.iconst 0, 1) := by decide +kernel
theorem dX12_readCompare_1 : decode cX12_readCompare 1 = .ok (.istore_n 2, 1) := by decide +kernel
theorem dX12_readCompare_2 : decode cX12_readCompare 2 = .ok (.iload_n 1, 1) := by decide +kernel
theorem dX12_readCompare_3 : decode cX12_readCompare 3 = .ok (.bipush 13, 2) := by decide +kernel
theorem dX12_readCompare_5 : decode cX12_readCompare 5 = .ok (.if_icmp .ne 46, 3) := by decide +kernel
theorem dX12_readCompare_8 : decode cX12_readCompare 8 = .ok (.aload_n 0, 1) := by decide +kernel
theorem dX12_readCompare_9 : decode cX12_readCompare 9 = .ok (.bipush 10, 2) := by decide +kernel
theorem dX12_readCompare_11 : decode cX12_readCompare 11 = .ok (.aload_n 0, 1) := by decide +kernel
theorem dX12_readCompare_12 : decode cX12_readCompare 12 = .ok (.invokevirtual 193, 3) := by decide +kernel
theorem dX12_readCompare_15 : decode cX12_readCompare 15 = .ok (.invokevirtual 406, 3) := by decide +kernel
theorem dX12_readCompare_18 : decode cX12_readCompare 18 = .ok (.ifCond .ne 5, 3) := by decide +kernel
theorem dX12_readCompare_21 : decode cX12_readCompare 21 = .ok (.iconst 0, 1) := by decide +kernel
theorem dX12_readCompare_22 : decode cX12_readCompare 22 = .ok (.ireturn, 1) := by decide +kernel
theorem dX12_readCompare_23 : decode cX12_readCompare 23 = .ok (.aload_n 0, 1) := by decide +kernel
theorem dX12_readCompare_24 : decode cX12_readCompare 24 = .ok (.getfield 166, 3) := by decide +kernel
theorem dX12_readCompare_27 : decode cX12_readCompare 27 = .ok (.istore_n 2, 1) := by decide +kernel
theorem dX12_readCompare_28 : decode cX12_readCompare 28 = .ok (.aload_n 0, 1) := by decide +kernel
theorem dX12_readCompare_29 : decode cX12_readCompare 29 = .ok (.iconst 0, 1) := by decide +kernel
theorem dX12_readCompare_30 : decode cX12_readCompare 30 = .ok (.aload_n 0, 1) := by decide +kernel
theorem dX12_readCompare_31 : decode cX12_readCompare 31 = .ok (.invokevirtual 190, 3) := by decide +kernel
theorem dX12_readCompare_34 : decode cX12_readCompare 34 = .ok (.invokevirtual 406, 3) := by decide +kernel
theorem dX12_readCompare_37 : decode cX12_readCompare 37 = .ok (.ifCond .ne 5, 3) := by decide +kernel
theorem dX12_readCompare_40 : decode cX12_readCompare 40 = .ok (.iconst 0, 1) := by decide +kernel
theorem dX12_readCompare_41 : decode cX12_readCompare 41 = .ok (.ireturn, 1) := by decide +kernel
theorem dX12_readCompare_42 : decode cX12_readCompare 42 = .ok (.iload_n 2, 1) := by decide +kernel
theorem dX12_readCompare_43 : decode cX12_readCompare 43 = .ok (.iconst 4, 1) := by decide +kernel
theorem dX12_readCompare_44 : decode cX12_readCompare 44 = .ok (.aload_n 0, 1) := by decide +kernel
theorem dX12_readCompare_45 : decode cX12_readCompare 45 = .ok (.getfield 166, 3) := by decide +kernel
theorem dX12_readCompare_48 : decode cX12_readCompare 48 = .ok (.imul, 1) := by decide +kernel
theorem dX12_readCompare_49 : decode cX12_readCompare 49 = .ok (.iadd, 1) := by decide +kernel
theorem dX12_readCompare_50 : decode cX12_readCompare 50 = .ok (.istore_n 2, 1) := by decide +kernel
theorem dX12_readCompare_51 : decode cX12_readCompare 51 = .ok (.aload_n 0, 1) := by decide +kernel
theorem dX12_readCompare_52 : decode cX12_readCompare 52 = .ok (.bipush 60, 2) := by decide +kernel
theorem dX12_readCompare_54 : decode cX12_readCompare 54 = .ok (.invokevirtual 172, 3) := by decide +kernel
theorem dX12_readCompare_57 : decode cX12_readCompare 57 = .ok (.ifCond .ne 27, 3) := by decide +kernel
theorem dX12_readCompare_60 : decode cX12_readCompare 60 = .ok (.aload_n 0, 1) := by decide +kernel
theorem dX12_readCompare_61 : decode cX12_readCompare 61 = .ok (.bipush 61, 2) := by decide +kernel
theorem dX12_readCompare_63 : decode cX12_readCompare 63 = .ok (.invokevirtual 172, 3) := by decide +kernel
theorem dX12_readCompare_66 : decode cX12_readCompare 66 = .ok (.ifCond .ne 18, 3) := by decide +kernel
theorem dX12_readCompare_69 : decode cX12_readCompare 69 = .ok (.aload_n 0, 1) := by decide +kernel
theorem dX12_readCompare_70 : decode cX12_readCompare 70 = .ok (.bipush 62, 2) := by decide +kernel
theorem dX12_readCompare_72 : decode cX12_readCompare 72 = .ok (.invokevirtual 172, 3) := by decide +kernel
theorem dX12_readCompare_75 : decode cX12_readCompare 75 = .ok (.ifCond .ne 9, 3) := by decide +kernel
theorem dX12_readCompare_78 : decode cX12_readCompare 78 = .ok (.aload_n 0, 1) := by decide +kernel
theorem dX12_readCompare_79 : decode cX12_readCompare 79 = .ok (.iconst 1, 1) := by decide +kernel
theorem dX12_readCompare_80 : decode cX12_readCompare 80 = .ok (.invokevirtual 159, 3) := by decide +kernel
theorem dX12_readCompare_83 : decode cX12_readCompare 83 = .ok (.ireturn, 1) := by decide +kernel
theorem dX12_readCompare_84 : decode cX12_readCompare 84 = .ok (.aload_n 0, 1) := by decide +kernel
theorem dX12_readCompare_85 : decode cX12_readCompare 85 = .ok (.getfield 123, 3) := by decide +kernel
theorem dX12_readCompare_88 : decode cX12_readCompare 88 = .ok (.istore_n 3, 1) := by decide +kernel
theorem dX12_readCompare_89 : decode cX12_readCompare 89 = .ok (.aload_n 0, 1) := by decide +kernel
theorem dX12_readCompare_90 : decode cX12_readCompare 90 = .ok (.invokevirtual 169, 3) := by decide +kernel
theorem dX12_readCompare_93 : decode cX12_readCompare 93 = .ok (.aload_n 0, 1) := by decide +kernel
theorem dX12_readCompare_94 : decode cX12_readCompare 94 = .ok (.iconst 0, 1) := by decide +kernel
theorem dX12_readCompare_95 : decode cX12_readCompare 95 = .ok (.sipush 9999, 3) := by decide +kernel
theorem dX12_readCompare_98 : decode cX12_readCompare 98 = .ok (.invokevirtual 216, 3) := by decide +kernel
theorem dX12_readCompare_101 : decode cX12_readCompare 101 = .ok (.ifCond .ne 5, 3) := by decide +kernel
theorem dX12_readCompare_104 : decode cX12_readCompare 104 = .ok (.iconst 0, 1) := by decide +kernel
theorem dX12_readCompare_105 : decode cX12_readCompare 105 = .ok (.ireturn, 1) := by decide +kernel
theorem dX12_readCompare_106 : decode cX12_readCompare 106 = .ok (.aload_n 0, 1) := by decide +kernel
theorem dX12_readCompare_107 : decode cX12_readCompare 107 = .ok (.aload_n 0, 1) := by decide +kernel
theorem dX12_readCompare_108 : decode cX12_readCompare 108 = .ok (.iload_n 1, 1) := by decide +kernel
theorem dX12_readCompare_109 : decode cX12_readCompare 109 = .ok (.bipush 13, 2) := by decide +kernel
theorem dX12_readCompare_111 : decode cX12_readCompare 111 = .ok (.if_icmp .ne 8, 3) := by decide +kernel
theorem dX12_readCompare_114 : decode cX12_readCompare 114 = .ok (.bipush 6, 2) := by decide +kernel
theorem dX12_readCompare_116 : decode cX12_readCompare 116 = .ok (.goto 7, 3) := by decide +kernel
theorem dX12_readCompare_119 : decode cX12_readCompare 119 = .ok (.bipush 50, 2) := by decide +kernel
theorem dX12_readCompare_121 : decode cX12_readCompare 121 = .ok (.iload_n 1, 1) := by decide +kernel
theorem dX12_readCompare_122 : decode cX12_readCompare 122 = .ok (.iadd, 1) := by decide +kernel
theorem dX12_readCompare_123 : decode cX12_readCompare 123 = .ok (.iload_n 2, 1) := by decide +kernel
theorem dX12_readCompare_124 : decode cX12_readCompare 124 = .ok (.aload_n 0, 1) := by decide +kernel
theorem dX12_readCompare_125 : decode cX12_readCompare 125 = .ok (.getfield 166, 3) := by decide +kernel
theorem dX12_readCompare_128 : decode cX12_readCompare 128 = .ok (.iload_n 3, 1) := by decide +kernel
theorem dX12_readCompare_129 : decode cX12_readCompare 129 = .ok (.invokevirtual 378, 3) := by decide +kernel
theorem dX12_readCompare_132 : decode cX12_readCompare 132 = .ok (.putfield 375, 3) := by decide +kernel
theorem dX12_readCompare_135 : decode cX12_readCompare 135 = .ok (.iconst 1, 1) := by decide +kernel
theorem dX12_readCompare_136 : decode cX12_readCompare 136 = .ok (.ireturn, 1) := by decide +kernel
theorem dX12_sentence_0 : decode cX12_sentence 0 = .ok (.aload_n 0, 1) := by decide +kernel
theorem dX12_sentence_1 : decode cX12_sentence 1 = .ok (.sipush 200, 3) := by decide +kernel
theorem dX12_sentence_4 : decode cX12_sentence 4 = .ok (.invokevirtual 262, 3) := by decide +kernel
theorem dX12_sentence_7 : decode cX12_sentence 7 = .ok (.aload_n 0, 1) := by decide +kernel
theorem dX12_sentence_8 : decode cX12_sentence 8 = .ok (.iconst 0, 1) := by decide +kernel
theorem dX12_sentence_9 : decode cX12_sentence 9 = .ok (.putfield 369, 3) := by decide +kernel
theorem dX12_sentence_12 : decode cX12_sentence 12 = .ok (.aload_n 0, 1) := by decide +kernel
theorem dX12_sentence_13 : decode cX12_sentence 13 = .ok (.iconst 0, 1) := by decide +kernel
theorem dX12_sentence_14 : decode cX12_sentence 14 = .ok (.putfield 385, 3) := by decide +kernel
theorem dX12_sentence_17 : decode cX12_sentence 17 = .ok (.aload_n 0, 1) := by decide +kernel
theorem dX12_sentence_18 : decode cX12_sentence 18 = .ok (.iconst 0, 1) := by decide +kernel
theorem dX12_sentence_19 : decode cX12_sentence 19 = .ok (.putfield 388, 3) := by decide +kernel
theorem dX12_sentence_22 : decode cX12_sentence 22 = .ok (.aload_n 0, 1) := by decide +kernel
theorem dX12_sentence_23 : decode cX12_sentence 23 = .ok (.invokevirtual 403, 3) := by decide +kernel
theorem dX12_sentence_26 : decode cX12_sentence 26 = .ok (.ifCond .ne 10, 3) := by decide +kernel
theorem dX12_sentence_29 : decode cX12_sentence 29 = .ok (.iconst (-1), 1) := by decide +kernel
theorem dX12_sentence_30 : decode cX12_sentence 30 = .ok (.aload_n 0, 1) := by decide +kernel
theorem dX12_sentence_31 : decode cX12_sentence 31 = .ok (.getfield 156, 3) := by decide +kernel
theorem dX12_sentence_34 : decode cX12_sentence 34 = .ok (.isub, 1) := by decide +kernel
theorem dX12_sentence_35 : decode cX12_sentence 35 = .ok (.ireturn, 1) := by decide +kernel
theorem dX12_sentence_36 : decode cX12_sentence 36 = .ok (.aload_n 0, 1) := by decide +kernel
theorem dX12_sentence_37 : decode cX12_sentence 37 = .ok (.getfield 113, 3) := by decide +kernel
theorem dX12_sentence_40 : decode cX12_sentence 40 = .ok (.ifCond .eq 16, 3) := by decide +kernel
theorem dX12_sentence_43 : decode cX12_sentence 43 = .ok (.aload_n 0, 1) := by decide +kernel
theorem dX12_sentence_44 : decode cX12_sentence 44 = .ok (.iconst 1, 1) := by decide +kernel
theorem dX12_sentence_45 : decode cX12_sentence 45 = .ok (.invokevirtual 159, 3) := by decide +kernel
theorem dX12_sentence_48 : decode cX12_sentence 48 = .ok (.pop, 1) := by decide +kernel
theorem dX12_sentence_49 : decode cX12_sentence 49 = .ok (.iconst (-1), 1) := by decide +kernel
theorem dX12_sentence_50 : decode cX12_sentence 50 = .ok (.aload_n 0, 1) := by decide +kernel
theorem dX12_sentence_51 : decode cX12_sentence 51 = .ok (.getfield 156, 3) := by decide +kernel
theorem dX12_sentence_54 : decode cX12_sentence 54 = .ok (.isub, 1) := by decide +kernel
theorem dX12_sentence_55 : decode cX12_sentence 55 = .ok (.ireturn, 1) := by decide +kernel
theorem dX12_sentence_56 : decode cX12_sentence 56 = .ok (.aload_n 0, 1) := by decide +kernel
theorem dX12_sentence_57 : decode cX12_sentence 57 = .ok (.getfield 13, 3) := by decide +kernel
theorem dX12_sentence_60 : decode cX12_sentence 60 = .ok (.sipush 350, 3) := by decide +kernel
theorem dX12_sentence_63 : decode cX12_sentence 63 = .ok (.iconst 1, 1) := by decide +kernel
theorem dX12_sentence_64 : decode cX12_sentence 64 = .ok (.iastore, 1) := by decide +kernel
theorem dX12_sentence_65 : decode cX12_sentence 65 = .ok (.aload_n 0, 1) := by decide +kernel
theorem dX12_sentence_66 : decode cX12_sentence 66 = .ok (.getfield 13, 3) := by decide +kernel
theorem dX12_sentence_69 : decode cX12_sentence 69 = .ok (.sipush 351, 3) := by decide +kernel
theorem dX12_sentence_72 : decode cX12_sentence 72 = .ok (.aload_n 0, 1) := by decide +kernel
theorem dX12_sentence_73 : decode cX12_sentence 73 = .ok (.getfield 375, 3) := by decide +kernel
theorem dX12_sentence_76 : decode cX12_sentence 76 = .ok (.iastore, 1) := by decide +kernel
theorem dX12_sentence_77 : decode cX12_sentence 77 = .ok (.iconst 0, 1) := by decide +kernel
theorem dX12_sentence_78 : decode cX12_sentence 78 = .ok (.istore_n 1, 1) := by decide +kernel
theorem dX12_sentence_79 : decode cX12_sentence 79 = .ok (.iload_n 1, 1) := by decide +kernel
theorem dX12_sentence_80 : decode cX12_sentence 80 = .ok (.sipush 240, 3) := by decide +kernel
theorem dX12_sentence_83 : decode cX12_sentence 83 = .ok (.if_icmp .ge 25, 3) := by decide +kernel
theorem dX12_sentence_86 : decode cX12_sentence 86 = .ok (.aload_n 0, 1) := by decide +kernel
theorem dX12_sentence_87 : decode cX12_sentence 87 = .ok (.getfield 13, 3) := by decide +kernel
theorem dX12_sentence_90 : decode cX12_sentence 90 = .ok (.sipush 352, 3) := by decide +kernel
theorem dX12_sentence_93 : decode cX12_sentence 93 = .ok (.iload_n 1, 1) := by decide +kernel
theorem dX12_sentence_94 : decode cX12_sentence 94 = .ok (.iadd, 1) := by decide +kernel
theorem dX12_sentence_95 : decode cX12_sentence 95 = .ok (.aload_n 0, 1) := by decide +kernel
theorem dX12_sentence_96 : decode cX12_sentence 96 = .ok (.getfield 88, 3) := by decide +kernel
theorem dX12_sentence_99 : decode cX12_sentence 99 = .ok (.iload_n 1, 1) := by decide +kernel
theorem dX12_sentence_100 : decode cX12_sentence 100 = .ok (.iaload, 1) := by decide +kernel
theorem dX12_sentence_101 : decode cX12_sentence 101 = .ok (.iastore, 1) := by decide +kernel
theorem dX12_sentence_102 : decode cX12_sentence 102 = .ok (.iinc 1 1, 3) := by decide +kernel
theorem dX12_sentence_105 : decode cX12_sentence 105 = .ok (.goto (-26), 3) := by decide +kernel
theorem dX12_sentence_108 : decode cX12_sentence 108 = .ok (.aload_n 0, 1) := by decide +kernel
theorem dX12_sentence_109 : decode cX12_sentence 109 = .ok (.getfield 385, 3) := by decide +kernel
theorem dX12_sentence_112 : decode cX12_sentence 112 = .ok (.ireturn, 1) := by decide +kernel
theorem dX12_valueOf_0 : decode cX12_valueOf 0 = .ok (.iload_n 1, 1) := by decide +kernel
theorem dX12_valueOf_1 : decode cX12_valueOf 1 = .ok (.bipush 6, 2) := by decide +kernel
theorem dX12_valueOf_3 : decode cX12_valueOf 3 = .ok (.if_icmp .ne 15, 3) := by decide +kernel
theorem dX12_valueOf_6 : decode cX12_valueOf 6 = .ok (.aload_n 0, 1) := by decide +kernel
theorem dX12_valueOf_7 : decode cX12_valueOf 7 = .ok (.iload_n 3, 1) := by decide +kernel
theorem dX12_valueOf_8 : decode cX12_valueOf 8 = .ok (.iload_n 2, 1) := by decide +kernel
theorem dX12_valueOf_9 : decode cX12_valueOf 9 = .ok (.iconst 4, 1) := by decide +kernel
theorem dX12_valueOf_10 : decode cX12_valueOf 10 = .ok (.idiv, 1) := by decide +kernel
theorem dX12_valueOf_11 : decode cX12_valueOf 11 = .ok (.iload_n 2, 1) := by decide +kernel
theorem dX12_valueOf_12 : decode cX12_valueOf 12 = .ok (.iconst 4, 1) := by decide +kernel
theorem dX12_valueOf_13 : decode cX12_valueOf 13 = .ok (.irem, 1) := by decide +kernel
theorem dX12_valueOf_14 : decode cX12_valueOf 14 = .ok (.invokevirtual 315, 3) := by decide +kernel
theorem dX12_valueOf_17 : decode cX12_valueOf 17 = .ok (.ireturn, 1) := by decide +kernel
theorem dX12_valueOf_18 : decode cX12_valueOf 18 = .ok (.iload_n 1, 1) := by decide +kernel
theorem dX12_valueOf_19 : decode cX12_valueOf 19 = .ok (.bipush 64, 2) := by decide +kernel
theorem dX12_valueOf_21 : decode cX12_valueOf 21 = .ok (.if_icmp .ne 5, 3) := by decide +kernel
theorem dX12_valueOf_24 : decode cX12_valueOf 24 = .ok (.iload_n 3, 1) := by decide +kernel
theorem dX12_valueOf_25 : decode cX12_valueOf 25 = .ok (.ireturn, 1) := by decide +kernel
theorem dX12_valueOf_26 : decode cX12_valueOf 26 = .ok (.iload_n 1, 1) := by decide +kernel
theorem dX12_valueOf_27 : decode cX12_valueOf 27 = .ok (.bipush 65, 2) := by decide +kernel
theorem dX12_valueOf_29 : decode cX12_valueOf 29 = .ok (.if_icmp .ne 8, 3) := by decide +kernel
theorem dX12_valueOf_32 : decode cX12_valueOf 32 = .ok (.iload_n 3, 1) := by decide +kernel
theorem dX12_valueOf_33 : decode cX12_valueOf 33 = .ok (.bipush 24, 2) := by decide +kernel
theorem dX12_valueOf_35 : decode cX12_valueOf 35 = .ok (.idiv, 1) := by decide +kernel
theorem dX12_valueOf_36 : decode cX12_valueOf 36 = .ok (.ireturn, 1) := by decide +kernel
theorem dX12_valueOf_37 : decode cX12_valueOf 37 = .ok (.iconst 0, 1) := by decide +kernel
theorem dX12_valueOf_38 : decode cX12_valueOf 38 = .ok (.istore 4, 2) := by decide +kernel
theorem dX12_valueOf_40 : decode cX12_valueOf 40 = .ok (.iconst 0, 1) := by decide +kernel
theorem dX12_valueOf_41 : decode cX12_valueOf 41 = .ok (.istore 5, 2) := by decide +kernel
theorem dX12_valueOf_43 : decode cX12_valueOf 43 = .ok (.iload 5, 2) := by decide +kernel
theorem dX12_valueOf_45 : decode cX12_valueOf 45 = .ok (.aload_n 0, 1) := by decide +kernel
theorem dX12_valueOf_46 : decode cX12_valueOf 46 = .ok (.invokevirtual 193, 3) := by decide +kernel
theorem dX12_valueOf_49 : decode cX12_valueOf 49 = .ok (.if_icmp .ge 25, 3) := by decide +kernel
theorem dX12_valueOf_52 : decode cX12_valueOf 52 = .ok (.iload 4, 2) := by decide +kernel
theorem dX12_valueOf_54 : decode cX12_valueOf 54 = .ok (.aload_n 0, 1) := by decide +kernel
theorem dX12_valueOf_55 : decode cX12_valueOf 55 = .ok (.getfield 48, 3) := by decide +kernel
theorem dX12_valueOf_58 : decode cX12_valueOf 58 = .ok (.iconst 4, 1) := by decide +kernel
theorem dX12_valueOf_59 : decode cX12_valueOf 59 = .ok (.iload_n 3, 1) := by decide +kernel
theorem dX12_valueOf_60 : decode cX12_valueOf 60 = .ok (.imul, 1) := by decide +kernel
theorem dX12_valueOf_61 : decode cX12_valueOf 61 = .ok (.iload 5, 2) := by decide +kernel
theorem dX12_valueOf_63 : decode cX12_valueOf 63 = .ok (.iadd, 1) := by decide +kernel
theorem dX12_valueOf_64 : decode cX12_valueOf 64 = .ok (.iaload, 1) := by decide +kernel
theorem dX12_valueOf_65 : decode cX12_valueOf 65 = .ok (.iadd, 1) := by decide +kernel
theorem dX12_valueOf_66 : decode cX12_valueOf 66 = .ok (.istore 4, 2) := by decide +kernel
theorem dX12_valueOf_68 : decode cX12_valueOf 68 = .ok (.iinc 5 1, 3) := by decide +kernel
theorem dX12_valueOf_71 : decode cX12_valueOf 71 = .ok (.goto (-28), 3) := by decide +kernel
theorem dX12_valueOf_74 : decode cX12_valueOf 74 = .ok (.iload 4, 2) := by decide +kernel
theorem dX12_valueOf_76 : decode cX12_valueOf 76 = .ok (.ireturn, 1) := by decide +kernel
theorem dX12_isSo_0 : decode cX12_isSo 0 = .ok (.sipush 352, 3) := by decide +kernel
theorem dX12_isSo_3 : decode cX12_isSo 3 = .ok (.iconst 4, 1) := by decide +kernel
theorem dX12_isSo_4 : decode cX12_isSo 4 = .ok (.iload_n 1, 1) := by decide +kernel
theorem dX12_isSo_5 : decode cX12_isSo 5 = .ok (.imul, 1) := by decide +kernel
theorem dX12_isSo_6 : decode cX12_isSo 6 = .ok (.iadd, 1) := by decide +kernel
theorem dX12_isSo_7 : decode cX12_isSo 7 = .ok (.istore_n 3, 1) := by decide +kernel
theorem dX12_isSo_8 : decode cX12_isSo 8 = .ok (.aload_n 0, 1) := by decide +kernel
theorem dX12_isSo_9 : decode cX12_isSo 9 = .ok (.getfield 13, 3) := by decide +kernel
theorem dX12_isSo_12 : decode cX12_isSo 12 = .ok (.iload_n 3, 1) := by decide +kernel
theorem dX12_isSo_13 : decode cX12_isSo 13 = .ok (.iconst 1, 1) := by decide +kernel
theorem dX12_isSo_14 : decode cX12_isSo 14 = .ok (.iadd, 1) := by decide +kernel
theorem dX12_isSo_15 : decode cX12_isSo 15 = .ok (.iaload, 1) := by decide +kernel
theorem dX12_isSo_16 : decode cX12_isSo 16 = .ok (.istore 4, 2) := by decide +kernel
theorem dX12_isSo_18 : decode cX12_isSo 18 = .ok (.aload_n 0, 1) := by decide +kernel
theorem dX12_isSo_19 : decode cX12_isSo 19 = .ok (.getfield 13, 3) := by decide +kernel
theorem dX12_isSo_22 : decode cX12_isSo 22 = .ok (.iload_n 3, 1) := by decide +kernel
theorem dX12_isSo_23 : decode cX12_isSo 23 = .ok (.iconst 2, 1) := by decide +kernel
theorem dX12_isSo_24 : decode cX12_isSo 24 = .ok (.iadd, 1) := by decide +kernel
theorem dX12_isSo_25 : decode cX12_isSo 25 = .ok (.iaload, 1) := by decide +kernel
theorem dX12_isSo_26 : decode cX12_isSo 26 = .ok (.istore 5, 2) := by decide +kernel
theorem dX12_isSo_28 : decode cX12_isSo 28 = .ok (.aload_n 0, 1) := by decide +kernel
theorem dX12_isSo_29 : decode cX12_isSo 29 = .ok (.getfield 13, 3) := by decide +kernel
theorem dX12_isSo_32 : decode cX12_isSo 32 = .ok (.iload_n 3, 1) := by decide +kernel
theorem dX12_isSo_33 : decode cX12_isSo 33 = .ok (.iaload, 1) := by decide +kernel
theorem dX12_isSo_34 : decode cX12_isSo 34 = .ok (.tableswitch 122 1 5 #[34, 50, 76, 102, 114], 34) := by decide +kernel
theorem dX12_isSo_68 : decode cX12_isSo 68 = .ok (.aload_n 0, 1) := by decide +kernel
theorem dX12_isSo_69 : decode cX12_isSo 69 = .ok (.iload 4, 2) := by decide +kernel
theorem dX12_isSo_71 : decode cX12_isSo 71 = .ok (.iload_n 2, 1) := by decide +kernel
theorem dX12_isSo_72 : decode cX12_isSo 72 = .ok (.invokevirtual 409, 3) := by decide +kernel
theorem dX12_isSo_75 : decode cX12_isSo 75 = .ok (.ifCond .ne 7, 3) := by decide +kernel
theorem dX12_isSo_78 : decode cX12_isSo 78 = .ok (.iconst 1, 1) := by decide +kernel
theorem dX12_isSo_79 : decode cX12_isSo 79 = .ok (.goto 4, 3) := by decide +kernel
theorem dX12_isSo_82 : decode cX12_isSo 82 = .ok (.iconst 0, 1) := by decide +kernel
theorem dX12_isSo_83 : decode cX12_isSo 83 = .ok (.ireturn, 1) := by decide +kernel
theorem dX12_isSo_84 : decode cX12_isSo 84 = .ok (.aload_n 0, 1) := by decide +kernel
theorem dX12_isSo_85 : decode cX12_isSo 85 = .ok (.iload 4, 2) := by decide +kernel
theorem dX12_isSo_87 : decode cX12_isSo 87 = .ok (.iload_n 2, 1) := by decide +kernel
theorem dX12_isSo_88 : decode cX12_isSo 88 = .ok (.invokevirtual 409, 3) := by decide +kernel
theorem dX12_isSo_91 : decode cX12_isSo 91 = .ok (.ifCond .eq 17, 3) := by decide +kernel
theorem dX12_isSo_94 : decode cX12_isSo 94 = .ok (.aload_n 0, 1) := by decide +kernel
theorem dX12_isSo_95 : decode cX12_isSo 95 = .ok (.iload 5, 2) := by decide +kernel
theorem dX12_isSo_97 : decode cX12_isSo 97 = .ok (.iload_n 2, 1) := by decide +kernel
theorem dX12_isSo_98 : decode cX12_isSo 98 = .ok (.invokevirtual 409, 3) := by decide +kernel
theorem dX12_isSo_101 : decode cX12_isSo 101 = .ok (.ifCond .eq 7, 3) := by decide +kernel
theorem dX12_isSo_104 : decode cX12_isSo 104 = .ok (.iconst 1, 1) := by decide +kernel
theorem dX12_isSo_105 : decode cX12_isSo 105 = .ok (.goto 4, 3) := by decide +kernel
theorem dX12_isSo_108 : decode cX12_isSo 108 = .ok (.iconst 0, 1) := by decide +kernel
theorem dX12_isSo_109 : decode cX12_isSo 109 = .ok (.ireturn, 1) := by decide +kernel
theorem dX12_isSo_110 : decode cX12_isSo 110 = .ok (.aload_n 0, 1) := by decide +kernel
theorem dX12_isSo_111 : decode cX12_isSo 111 = .ok (.iload 4, 2) := by decide +kernel
theorem dX12_isSo_113 : decode cX12_isSo 113 = .ok (.iload_n 2, 1) := by decide +kernel
theorem dX12_isSo_114 : decode cX12_isSo 114 = .ok (.invokevirtual 409, 3) := by decide +kernel
theorem dX12_isSo_117 : decode cX12_isSo 117 = .ok (.ifCond .ne 13, 3) := by decide +kernel
theorem dX12_isSo_120 : decode cX12_isSo 120 = .ok (.aload_n 0, 1) := by decide +kernel
theorem dX12_isSo_121 : decode cX12_isSo 121 = .ok (.iload 5, 2) := by decide +kernel
theorem dX12_isSo_123 : decode cX12_isSo 123 = .ok (.iload_n 2, 1) := by decide +kernel
theorem dX12_isSo_124 : decode cX12_isSo 124 = .ok (.invokevirtual 409, 3) := by decide +kernel
theorem dX12_isSo_127 : decode cX12_isSo 127 = .ok (.ifCond .eq 7, 3) := by decide +kernel
theorem dX12_isSo_130 : decode cX12_isSo 130 = .ok (.iconst 1, 1) := by decide +kernel
theorem dX12_isSo_131 : decode cX12_isSo 131 = .ok (.goto 4, 3) := by decide +kernel
theorem dX12_isSo_134 : decode cX12_isSo 134 = .ok (.iconst 0, 1) := by decide +kernel
theorem dX12_isSo_135 : decode cX12_isSo 135 = .ok (.ireturn, 1) := by decide +kernel
theorem dX12_isSo_136 : decode cX12_isSo 136 = .ok (.aload_n 0, 1) := by decide +kernel
theorem dX12_isSo_137 : decode cX12_isSo 137 = .ok (.getfield 39, 3) := by decide +kernel
theorem dX12_isSo_140 : decode cX12_isSo 140 = .ok (.iload_n 2, 1) := by decide +kernel
theorem dX12_isSo_141 : decode cX12_isSo 141 = .ok (.iaload, 1) := by decide +kernel
theorem dX12_isSo_142 : decode cX12_isSo 142 = .ok (.iload 4, 2) := by decide +kernel
theorem dX12_isSo_144 : decode cX12_isSo 144 = .ok (.invokestatic 220, 3) := by decide +kernel
theorem dX12_isSo_147 : decode cX12_isSo 147 = .ok (.ireturn, 1) := by decide +kernel
theorem dX12_isSo_148 : decode cX12_isSo 148 = .ok (.aload_n 0, 1) := by decide +kernel
theorem dX12_isSo_149 : decode cX12_isSo 149 = .ok (.iload 4, 2) := by decide +kernel
theorem dX12_isSo_151 : decode cX12_isSo 151 = .ok (.iload_n 2, 1) := by decide +kernel
theorem dX12_isSo_152 : decode cX12_isSo 152 = .ok (.invokevirtual 319, 3) := by decide +kernel
theorem dX12_isSo_155 : decode cX12_isSo 155 = .ok (.ireturn, 1) := by decide +kernel
theorem dX12_isSo_156 : decode cX12_isSo 156 = .ok (.aload_n 0, 1) := by decide +kernel
theorem dX12_isSo_157 : decode cX12_isSo 157 = .ok (.aload_n 0, 1) := by decide +kernel
theorem dX12_isSo_158 : decode cX12_isSo 158 = .ok (.getfield 13, 3) := by decide +kernel
theorem dX12_isSo_161 : decode cX12_isSo 161 = .ok (.iload_n 3, 1) := by decide +kernel
theorem dX12_isSo_162 : decode cX12_isSo 162 = .ok (.iaload, 1) := by decide +kernel
theorem dX12_isSo_163 : decode cX12_isSo 163 = .ok (.iload 4, 2) := by decide +kernel
theorem dX12_isSo_165 : decode cX12_isSo 165 = .ok (.iload_n 2, 1) := by decide +kernel
theorem dX12_isSo_166 : decode cX12_isSo 166 = .ok (.invokevirtual 412, 3) := by decide +kernel
theorem dX12_isSo_169 : decode cX12_isSo 169 = .ok (.istore 6, 2) := by decide +kernel
theorem dX12_isSo_171 : decode cX12_isSo 171 = .ok (.aload_n 0, 1) := by decide +kernel
theorem dX12_isSo_172 : decode cX12_isSo 172 = .ok (.getfield 13, 3) := by decide +kernel
theorem dX12_isSo_175 : decode cX12_isSo 175 = .ok (.iload_n 3, 1) := by decide +kernel
theorem dX12_isSo_176 : decode cX12_isSo 176 = .ok (.iconst 3, 1) := by decide +kernel
theorem dX12_isSo_177 : decode cX12_isSo 177 = .ok (.iadd, 1) := by decide +kernel
theorem dX12_isSo_178 : decode cX12_isSo 178 = .ok (.iaload, 1) := by decide +kernel
theorem dX12_isSo_179 : decode cX12_isSo 179 = .ok (.bipush 60, 2) := by decide +kernel
theorem dX12_isSo_181 : decode cX12_isSo 181 = .ok (.if_icmp .ne 18, 3) := by decide +kernel
theorem dX12_isSo_184 : decode cX12_isSo 184 = .ok (.iload 6, 2) := by decide +kernel
theorem dX12_isSo_186 : decode cX12_isSo 186 = .ok (.iload 5, 2) := by decide +kernel
theorem dX12_isSo_188 : decode cX12_isSo 188 = .ok (.if_icmp .ge 7, 3) := by decide +kernel
theorem dX12_isSo_191 : decode cX12_isSo 191 = .ok (.iconst 1, 1) := by decide +kernel
theorem dX12_isSo_192 : decode cX12_isSo 192 = .ok (.goto 47, 3) := by decide +kernel
theorem dX12_isSo_195 : decode cX12_isSo 195 = .ok (.iconst 0, 1) := by decide +kernel
theorem dX12_isSo_196 : decode cX12_isSo 196 = .ok (.goto 43, 3) := by decide +kernel
theorem dX12_isSo_199 : decode cX12_isSo 199 = .ok (.aload_n 0, 1) := by decide +kernel
theorem dX12_isSo_200 : decode cX12_isSo 200 = .ok (.getfield 13, 3) := by decide +kernel
theorem dX12_isSo_203 : decode cX12_isSo 203 = .ok (.iload_n 3, 1) := by decide +kernel
theorem dX12_isSo_204 : decode cX12_isSo 204 = .ok (.iconst 3, 1) := by decide +kernel
theorem dX12_isSo_205 : decode cX12_isSo 205 = .ok (.iadd, 1) := by decide +kernel
theorem dX12_isSo_206 : decode cX12_isSo 206 = .ok (.iaload, 1) := by decide +kernel
theorem dX12_isSo_207 : decode cX12_isSo 207 = .ok (.bipush 61, 2) := by decide +kernel
theorem dX12_isSo_209 : decode cX12_isSo 209 = .ok (.if_icmp .ne 18, 3) := by decide +kernel
theorem dX12_isSo_212 : decode cX12_isSo 212 = .ok (.iload 6, 2) := by decide +kernel
theorem dX12_isSo_214 : decode cX12_isSo 214 = .ok (.iload 5, 2) := by decide +kernel
theorem dX12_isSo_216 : decode cX12_isSo 216 = .ok (.if_icmp .ne 7, 3) := by decide +kernel
theorem dX12_isSo_219 : decode cX12_isSo 219 = .ok (.iconst 1, 1) := by decide +kernel
theorem dX12_isSo_220 : decode cX12_isSo 220 = .ok (.goto 19, 3) := by decide +kernel
theorem dX12_isSo_223 : decode cX12_isSo 223 = .ok (.iconst 0, 1) := by decide +kernel
theorem dX12_isSo_224 : decode cX12_isSo 224 = .ok (.goto 15, 3) := by decide +kernel
theorem dX12_isSo_227 : decode cX12_isSo 227 = .ok (.iload 6, 2) := by decide +kernel
theorem dX12_isSo_229 : decode cX12_isSo 229 = .ok (.iload 5, 2) := by decide +kernel
theorem dX12_isSo_231 : decode cX12_isSo 231 = .ok (.if_icmp .le 7, 3) := by decide +kernel
theorem dX12_isSo_234 : decode cX12_isSo 234 = .ok (.iconst 1, 1) := by decide +kernel
theorem dX12_isSo_235 : decode cX12_isSo 235 = .ok (.goto 4, 3) := by decide +kernel
theorem dX12_isSo_238 : decode cX12_isSo 238 = .ok (.iconst 0, 1) := by decide +kernel
theorem dX12_isSo_239 : decode cX12_isSo 239 = .ok (.ireturn, 1) := by decide +kernel
theorem dX12_said_0 : decode cX12_said 0 = .ok (.aload_n 0, 1) := by decide +kernel
theorem dX12_said_1 : decode cX12_said 1 = .ok (.iconst 0, 1) := by decide +kernel
theorem dX12_said_2 : decode cX12_said 2 = .ok (.putfield 91, 3) := by decide +kernel
theorem dX12_said_5 : decode cX12_said 5 = .ok (.aload_n 0, 1) := by decide +kernel
theorem dX12_said_6 : decode cX12_said 6 = .ok (.invokevirtual 175, 3) := by decide +kernel
theorem dX12_said_9 : decode cX12_said 9 = .ok (.aload_n 0, 1) := by decide +kernel
theorem dX12_said_10 : decode cX12_said 10 = .ok (.getfield 13, 3) := by decide +kernel
theorem dX12_said_13 : decode cX12_said 13 = .ok (.sipush 350, 3) := by decide +kernel
theorem dX12_said_16 : decode cX12_said 16 = .ok (.iaload, 1) := by decide +kernel
theorem dX12_said_17 : decode cX12_said 17 = .ok (.ifCond .eq 8, 3) := by decide +kernel
theorem dX12_said_20 : decode cX12_said 20 = .ok (.iload_n 1, 1) := by decide +kernel
theorem dX12_said_21 : decode cX12_said 21 = .ok (.iconst (-1), 1) := by decide +kernel
theorem dX12_said_22 : decode cX12_said 22 = .ok (.if_icmp .ge 5, 3) := by decide +kernel
theorem dX12_said_25 : decode cX12_said 25 = .ok (.iconst (-1), 1) := by decide +kernel
theorem dX12_said_26 : decode cX12_said 26 = .ok (.ireturn, 1) := by decide +kernel
theorem dX12_said_27 : decode cX12_said 27 = .ok (.aload_n 0, 1) := by decide +kernel
theorem dX12_said_28 : decode cX12_said 28 = .ok (.invokevirtual 322, 3) := by decide +kernel
theorem dX12_said_31 : decode cX12_said 31 = .ok (.iconst 0, 1) := by decide +kernel
theorem dX12_said_32 : decode cX12_said 32 = .ok (.istore_n 2, 1) := by decide +kernel
theorem dX12_said_33 : decode cX12_said 33 = .ok (.iconst 0, 1) := by decide +kernel
theorem dX12_said_34 : decode cX12_said 34 = .ok (.istore_n 3, 1) := by decide +kernel
theorem dX12_said_35 : decode cX12_said 35 = .ok (.iload_n 3, 1) := by decide +kernel
theorem dX12_said_36 : decode cX12_said 36 = .ok (.sipush 168, 3) := by decide +kernel
theorem dX12_said_39 : decode cX12_said 39 = .ok (.if_icmp .ge 38, 3) := by decide +kernel
theorem dX12_said_42 : decode cX12_said 42 = .ok (.aload_n 0, 1) := by decide +kernel
theorem dX12_said_43 : decode cX12_said 43 = .ok (.aload_n 0, 1) := by decide +kernel
theorem dX12_said_44 : decode cX12_said 44 = .ok (.getfield 13, 3) := by decide +kernel
theorem dX12_said_47 : decode cX12_said 47 = .ok (.sipush 351, 3) := by decide +kernel
theorem dX12_said_50 : decode cX12_said 50 = .ok (.iaload, 1) := by decide +kernel
theorem dX12_said_51 : decode cX12_said 51 = .ok (.iload_n 3, 1) := by decide +kernel
theorem dX12_said_52 : decode cX12_said 52 = .ok (.invokevirtual 409, 3) := by decide +kernel
theorem dX12_said_55 : decode cX12_said 55 = .ok (.ifCond .ne 6, 3) := by decide +kernel
theorem dX12_said_58 : decode cX12_said 58 = .ok (.goto 13, 3) := by decide +kernel
theorem dX12_said_61 : decode cX12_said 61 = .ok (.iload_n 2, 1) := by decide +kernel
theorem dX12_said_62 : decode cX12_said 62 = .ok (.iload_n 1, 1) := by decide +kernel
theorem dX12_said_63 : decode cX12_said 63 = .ok (.if_icmp .ne 5, 3) := by decide +kernel
theorem dX12_said_66 : decode cX12_said 66 = .ok (.iload_n 3, 1) := by decide +kernel
theorem dX12_said_67 : decode cX12_said 67 = .ok (.ireturn, 1) := by decide +kernel
theorem dX12_said_68 : decode cX12_said 68 = .ok (.iinc 2 1, 3) := by decide +kernel
theorem dX12_said_71 : decode cX12_said 71 = .ok (.iinc 3 1, 3) := by decide +kernel
theorem dX12_said_74 : decode cX12_said 74 = .ok (.goto (-39), 3) := by decide +kernel
theorem dX12_said_77 : decode cX12_said 77 = .ok (.iload_n 1, 1) := by decide +kernel
theorem dX12_said_78 : decode cX12_said 78 = .ok (.iconst (-1), 1) := by decide +kernel
theorem dX12_said_79 : decode cX12_said 79 = .ok (.if_icmp .ne 7, 3) := by decide +kernel
theorem dX12_said_82 : decode cX12_said 82 = .ok (.iload_n 2, 1) := by decide +kernel
theorem dX12_said_83 : decode cX12_said 83 = .ok (.goto 4, 3) := by decide +kernel
theorem dX12_said_86 : decode cX12_said 86 = .ok (.iconst (-1), 1) := by decide +kernel
theorem dX12_said_87 : decode cX12_said 87 = .ok (.ireturn, 1) := by decide +kernel
theorem dX12_image_0 : decode cX12_image 0 = .ok (.aload_n 0, 1) := by decide +kernel
theorem dX12_image_1 : decode cX12_image 1 = .ok (.iconst 0, 1) := by decide +kernel
theorem dX12_image_2 : decode cX12_image 2 = .ok (.putfield 91, 3) := by decide +kernel
theorem dX12_image_5 : decode cX12_image 5 = .ok (.aload_n 0, 1) := by decide +kernel
theorem dX12_image_6 : decode cX12_image 6 = .ok (.invokevirtual 175, 3) := by decide +kernel
theorem dX12_image_9 : decode cX12_image 9 = .ok (.iload_n 1, 1) := by decide +kernel
theorem dX12_image_10 : decode cX12_image 10 = .ok (.iconst 0, 1) := by decide +kernel
theorem dX12_image_11 : decode cX12_image 11 = .ok (.iconst 1, 1) := by decide +kernel
theorem dX12_image_12 : decode cX12_image 12 = .ok (.invokestatic 162, 3) := by decide +kernel
theorem dX12_image_15 : decode cX12_image 15 = .ok (.ifCond .ne 5, 3) := by decide +kernel
theorem dX12_image_18 : decode cX12_image 18 = .ok (.iconst 0, 1) := by decide +kernel
theorem dX12_image_19 : decode cX12_image 19 = .ok (.ireturn, 1) := by decide +kernel
theorem dX12_image_20 : decode cX12_image 20 = .ok (.iconst 0, 1) := by decide +kernel
theorem dX12_image_21 : decode cX12_image 21 = .ok (.istore_n 2, 1) := by decide +kernel
theorem dX12_image_22 : decode cX12_image 22 = .ok (.iload_n 2, 1) := by decide +kernel
theorem dX12_image_23 : decode cX12_image 23 = .ok (.sipush 592, 3) := by decide +kernel
theorem dX12_image_26 : decode cX12_image 26 = .ok (.if_icmp .ge 27, 3) := by decide +kernel
theorem dX12_image_29 : decode cX12_image 29 = .ok (.aload_n 0, 1) := by decide +kernel
theorem dX12_image_30 : decode cX12_image 30 = .ok (.getfield 19, 3) := by decide +kernel
theorem dX12_image_33 : decode cX12_image 33 = .ok (.sipush 592, 3) := by decide +kernel
theorem dX12_image_36 : decode cX12_image 36 = .ok (.iload_n 1, 1) := by decide +kernel
theorem dX12_image_37 : decode cX12_image 37 = .ok (.imul, 1) := by decide +kernel
theorem dX12_image_38 : decode cX12_image 38 = .ok (.iload_n 2, 1) := by decide +kernel
theorem dX12_image_39 : decode cX12_image 39 = .ok (.iadd, 1) := by decide +kernel
theorem dX12_image_40 : decode cX12_image 40 = .ok (.aload_n 0, 1) := by decide +kernel
theorem dX12_image_41 : decode cX12_image 41 = .ok (.getfield 13, 3) := by decide +kernel
theorem dX12_image_44 : decode cX12_image 44 = .ok (.iload_n 2, 1) := by decide +kernel
theorem dX12_image_45 : decode cX12_image 45 = .ok (.iaload, 1) := by decide +kernel
theorem dX12_image_46 : decode cX12_image 46 = .ok (.iastore, 1) := by decide +kernel
theorem dX12_image_47 : decode cX12_image 47 = .ok (.iinc 2 1, 3) := by decide +kernel
theorem dX12_image_50 : decode cX12_image 50 = .ok (.goto (-28), 3) := by decide +kernel
theorem dX12_image_53 : decode cX12_image 53 = .ok (.iconst 0, 1) := by decide +kernel
theorem dX12_image_54 : decode cX12_image 54 = .ok (.istore_n 2, 1) := by decide +kernel
theorem dX12_image_55 : decode cX12_image 55 = .ok (.iload_n 2, 1) := by decide +kernel
theorem dX12_image_56 : decode cX12_image 56 = .ok (.bipush 26, 2) := by decide +kernel
theorem dX12_image_58 : decode cX12_image 58 = .ok (.if_icmp .ge 26, 3) := by decide +kernel
theorem dX12_image_61 : decode cX12_image 61 = .ok (.aload_n 0, 1) := by decide +kernel
theorem dX12_image_62 : decode cX12_image 62 = .ok (.getfield 32, 3) := by decide +kernel
theorem dX12_image_65 : decode cX12_image 65 = .ok (.bipush 26, 2) := by decide +kernel
theorem dX12_image_67 : decode cX12_image 67 = .ok (.iload_n 1, 1) := by decide +kernel
theorem dX12_image_68 : decode cX12_image 68 = .ok (.imul, 1) := by decide +kernel
theorem dX12_image_69 : decode cX12_image 69 = .ok (.iload_n 2, 1) := by decide +kernel
theorem dX12_image_70 : decode cX12_image 70 = .ok (.iadd, 1) := by decide +kernel
theorem dX12_image_71 : decode cX12_image 71 = .ok (.aload_n 0, 1) := by decide +kernel
theorem dX12_image_72 : decode cX12_image 72 = .ok (.getfield 25, 3) := by decide +kernel
theorem dX12_image_75 : decode cX12_image 75 = .ok (.iload_n 2, 1) := by decide +kernel
theorem dX12_image_76 : decode cX12_image 76 = .ok (.laload, 1) := by decide +kernel
theorem dX12_image_77 : decode cX12_image 77 = .ok (.lastore, 1) := by decide +kernel
theorem dX12_image_78 : decode cX12_image 78 = .ok (.iinc 2 1, 3) := by decide +kernel
theorem dX12_image_81 : decode cX12_image 81 = .ok (.goto (-26), 3) := by decide +kernel
theorem dX12_image_84 : decode cX12_image 84 = .ok (.aload_n 0, 1) := by decide +kernel
theorem dX12_image_85 : decode cX12_image 85 = .ok (.getfield 35, 3) := by decide +kernel
theorem dX12_image_88 : decode cX12_image 88 = .ok (.iload_n 1, 1) := by decide +kernel
theorem dX12_image_89 : decode cX12_image 89 = .ok (.iconst 1, 1) := by decide +kernel
theorem dX12_image_90 : decode cX12_image 90 = .ok (.bastore, 1) := by decide +kernel
theorem dX12_image_91 : decode cX12_image 91 = .ok (.iconst 1, 1) := by decide +kernel
theorem dX12_image_92 : decode cX12_image 92 = .ok (.ireturn, 1) := by decide +kernel
theorem dX12_restore_0 : decode cX12_restore 0 = .ok (.aload_n 0, 1) := by decide +kernel
theorem dX12_restore_1 : decode cX12_restore 1 = .ok (.iconst 0, 1) := by decide +kernel
theorem dX12_restore_2 : decode cX12_restore 2 = .ok (.putfield 91, 3) := by decide +kernel
theorem dX12_restore_5 : decode cX12_restore 5 = .ok (.aload_n 0, 1) := by decide +kernel
theorem dX12_restore_6 : decode cX12_restore 6 = .ok (.invokevirtual 175, 3) := by decide +kernel
theorem dX12_restore_9 : decode cX12_restore 9 = .ok (.iload_n 1, 1) := by decide +kernel
theorem dX12_restore_10 : decode cX12_restore 10 = .ok (.iconst 0, 1) := by decide +kernel
theorem dX12_restore_11 : decode cX12_restore 11 = .ok (.iconst 1, 1) := by decide +kernel
theorem dX12_restore_12 : decode cX12_restore 12 = .ok (.invokestatic 162, 3) := by decide +kernel
theorem dX12_restore_15 : decode cX12_restore 15 = .ok (.ifCond .eq 12, 3) := by decide +kernel
theorem dX12_restore_18 : decode cX12_restore 18 = .ok (.aload_n 0, 1) := by decide +kernel
theorem dX12_restore_19 : decode cX12_restore 19 = .ok (.getfield 35, 3) := by decide +kernel
theorem dX12_restore_22 : decode cX12_restore 22 = .ok (.iload_n 1, 1) := by decide +kernel
theorem dX12_restore_23 : decode cX12_restore 23 = .ok (.baload, 1) := by decide +kernel
theorem dX12_restore_24 : decode cX12_restore 24 = .ok (.ifCond .ne 5, 3) := by decide +kernel
theorem dX12_restore_27 : decode cX12_restore 27 = .ok (.iconst 0, 1) := by decide +kernel
theorem dX12_restore_28 : decode cX12_restore 28 = .ok (.ireturn, 1) := by decide +kernel
theorem dX12_restore_29 : decode cX12_restore 29 = .ok (.iconst 0, 1) := by decide +kernel
theorem dX12_restore_30 : decode cX12_restore 30 = .ok (.istore_n 2, 1) := by decide +kernel
theorem dX12_restore_31 : decode cX12_restore 31 = .ok (.iload_n 2, 1) := by decide +kernel
theorem dX12_restore_32 : decode cX12_restore 32 = .ok (.sipush 592, 3) := by decide +kernel
theorem dX12_restore_35 : decode cX12_restore 35 = .ok (.if_icmp .ge 27, 3) := by decide +kernel
theorem dX12_restore_38 : decode cX12_restore 38 = .ok (.aload_n 0, 1) := by decide +kernel
theorem dX12_restore_39 : decode cX12_restore 39 = .ok (.getfield 13, 3) := by decide +kernel
theorem dX12_restore_42 : decode cX12_restore 42 = .ok (.iload_n 2, 1) := by decide +kernel
theorem dX12_restore_43 : decode cX12_restore 43 = .ok (.aload_n 0, 1) := by decide +kernel
theorem dX12_restore_44 : decode cX12_restore 44 = .ok (.getfield 19, 3) := by decide +kernel
theorem dX12_restore_47 : decode cX12_restore 47 = .ok (.sipush 592, 3) := by decide +kernel
theorem dX12_restore_50 : decode cX12_restore 50 = .ok (.iload_n 1, 1) := by decide +kernel
theorem dX12_restore_51 : decode cX12_restore 51 = .ok (.imul, 1) := by decide +kernel
theorem dX12_restore_52 : decode cX12_restore 52 = .ok (.iload_n 2, 1) := by decide +kernel
theorem dX12_restore_53 : decode cX12_restore 53 = .ok (.iadd, 1) := by decide +kernel
theorem dX12_restore_54 : decode cX12_restore 54 = .ok (.iaload, 1) := by decide +kernel
theorem dX12_restore_55 : decode cX12_restore 55 = .ok (.iastore, 1) := by decide +kernel
theorem dX12_restore_56 : decode cX12_restore 56 = .ok (.iinc 2 1, 3) := by decide +kernel
theorem dX12_restore_59 : decode cX12_restore 59 = .ok (.goto (-28), 3) := by decide +kernel
theorem dX12_restore_62 : decode cX12_restore 62 = .ok (.iconst 0, 1) := by decide +kernel
theorem dX12_restore_63 : decode cX12_restore 63 = .ok (.istore_n 2, 1) := by decide +kernel
theorem dX12_restore_64 : decode cX12_restore 64 = .ok (.iload_n 2, 1) := by decide +kernel
theorem dX12_restore_65 : decode cX12_restore 65 = .ok (.bipush 26, 2) := by decide +kernel
theorem dX12_restore_67 : decode cX12_restore 67 = .ok (.if_icmp .ge 26, 3) := by decide +kernel
theorem dX12_restore_70 : decode cX12_restore 70 = .ok (.aload_n 0, 1) := by decide +kernel
theorem dX12_restore_71 : decode cX12_restore 71 = .ok (.getfield 25, 3) := by decide +kernel
theorem dX12_restore_74 : decode cX12_restore 74 = .ok (.iload_n 2, 1) := by decide +kernel
theorem dX12_restore_75 : decode cX12_restore 75 = .ok (.aload_n 0, 1) := by decide +kernel
theorem dX12_restore_76 : decode cX12_restore 76 = .ok (.getfield 32, 3) := by decide +kernel
theorem dX12_restore_79 : decode cX12_restore 79 = .ok (.bipush 26, 2) := by decide +kernel
theorem dX12_restore_81 : decode cX12_restore 81 = .ok (.iload_n 1, 1) := by decide +kernel
theorem dX12_restore_82 : decode cX12_restore 82 = .ok (.imul, 1) := by decide +kernel
theorem dX12_restore_83 : decode cX12_restore 83 = .ok (.iload_n 2, 1) := by decide +kernel
theorem dX12_restore_84 : decode cX12_restore 84 = .ok (.iadd, 1) := by decide +kernel
theorem dX12_restore_85 : decode cX12_restore 85 = .ok (.laload, 1) := by decide +kernel
theorem dX12_restore_86 : decode cX12_restore 86 = .ok (.lastore, 1) := by decide +kernel
theorem dX12_restore_87 : decode cX12_restore 87 = .ok (.iinc 2 1, 3) := by decide +kernel
theorem dX12_restore_90 : decode cX12_restore 90 = .ok (.goto (-26), 3) := by decide +kernel
theorem dX12_restore_93 : decode cX12_restore 93 = .ok (.iconst 1, 1) := by decide +kernel
theorem dX12_restore_94 : decode cX12_restore 94 = .ok (.ireturn, 1) := by decide +kernel
theorem dX12_count_0 : decode cX12_count 0 = .ok (.aload_n 0, 1) := by decide +kernel
theorem dX12_count_1 : decode cX12_count 1 = .ok (.iconst 0, 1) := by decide +kernel
theorem dX12_count_2 : decode cX12_count 2 = .ok (.putfield 91, 3) := by decide +kernel
theorem dX12_count_5 : decode cX12_count 5 = .ok (.aload_n 0, 1) := by decide +kernel
theorem dX12_count_6 : decode cX12_count 6 = .ok (.invokevirtual 175, 3) := by decide +kernel
theorem dX12_count_9 : decode cX12_count 9 = .ok (.iload_n 1, 1) := by decide +kernel
theorem dX12_count_10 : decode cX12_count 10 = .ok (.tableswitch 92 0 7 #[46, 51, 56, 61, 66, 73, 78, 87], 46) := by decide +kernel
theorem dX12_count_56 : decode cX12_count 56 = .ok (.aload_n 0, 1) := by decide +kernel
theorem dX12_count_57 : decode cX12_count 57 = .ok (.invokevirtual 190, 3) := by decide +kernel
theorem dX12_count_60 : decode cX12_count 60 = .ok (.ireturn, 1) := by decide +kernel
theorem dX12_count_61 : decode cX12_count 61 = .ok (.aload_n 0, 1) := by decide +kernel
theorem dX12_count_62 : decode cX12_count 62 = .ok (.invokevirtual 193, 3) := by decide +kernel
theorem dX12_count_65 : decode cX12_count 65 = .ok (.ireturn, 1) := by decide +kernel
theorem dX12_count_66 : decode cX12_count 66 = .ok (.aload_n 0, 1) := by decide +kernel
theorem dX12_count_67 : decode cX12_count 67 = .ok (.invokevirtual 196, 3) := by decide +kernel
theorem dX12_count_70 : decode cX12_count 70 = .ok (.ireturn, 1) := by decide +kernel
theorem dX12_count_71 : decode cX12_count 71 = .ok (.aload_n 0, 1) := by decide +kernel
theorem dX12_count_72 : decode cX12_count 72 = .ok (.invokevirtual 199, 3) := by decide +kernel
theorem dX12_count_75 : decode cX12_count 75 = .ok (.ireturn, 1) := by decide +kernel
theorem dX12_count_76 : decode cX12_count 76 = .ok (.aload_n 0, 1) := by decide +kernel
theorem dX12_count_77 : decode cX12_count 77 = .ok (.getfield 13, 3) := by decide +kernel
theorem dX12_count_80 : decode cX12_count 80 = .ok (.iconst 4, 1) := by decide +kernel
theorem dX12_count_81 : decode cX12_count 81 = .ok (.iaload, 1) := by decide +kernel
theorem dX12_count_82 : decode cX12_count 82 = .ok (.ireturn, 1) := by decide +kernel
theorem dX12_count_83 : decode cX12_count 83 = .ok (.aload_n 0, 1) := by decide +kernel
theorem dX12_count_84 : decode cX12_count 84 = .ok (.invokevirtual 286, 3) := by decide +kernel
theorem dX12_count_87 : decode cX12_count 87 = .ok (.ireturn, 1) := by decide +kernel
theorem dX12_count_88 : decode cX12_count 88 = .ok (.aload_n 0, 1) := by decide +kernel
theorem dX12_count_89 : decode cX12_count 89 = .ok (.getfield 13, 3) := by decide +kernel
theorem dX12_count_92 : decode cX12_count 92 = .ok (.sipush 285, 3) := by decide +kernel
theorem dX12_count_95 : decode cX12_count 95 = .ok (.iaload, 1) := by decide +kernel
theorem dX12_count_96 : decode cX12_count 96 = .ok (.ireturn, 1) := by decide +kernel
theorem dX12_count_97 : decode cX12_count 97 = .ok (.aload_n 0, 1) := by decide +kernel
theorem dX12_count_98 : decode cX12_count 98 = .ok (.getfield 94, 3) := by decide +kernel
theorem dX12_count_101 : decode cX12_count 101 = .ok (.ireturn, 1) := by decide +kernel
theorem dX12_count_102 : decode cX12_count 102 = .ok (.iconst (-1), 1) := by decide +kernel
theorem dX12_count_103 : decode cX12_count 103 = .ok (.ireturn, 1) := by decide +kernel
theorem dJ6_bitCount_0f7a4_0 : decode cJ6_bitCount_0f7a4 0 = .ok (.iload_n 0, 1) := by decide +kernel
theorem dJ6_bitCount_0f7a4_1 : decode cJ6_bitCount_0f7a4 1 = .ok (.iload_n 0, 1) := by decide +kernel
theorem dJ6_bitCount_0f7a4_2 : decode cJ6_bitCount_0f7a4 2 = .ok (.iconst 1, 1) := by decide +kernel
theorem dJ6_bitCount_0f7a4_3 : decode cJ6_bitCount_0f7a4 3 = .ok (.iushr, 1) := by decide +kernel
theorem dJ6_bitCount_0f7a4_4 : decode cJ6_bitCount_0f7a4 4 = .ok (.ldc_w 265, 3) := by decide +kernel
theorem dJ6_bitCount_0f7a4_7 : decode cJ6_bitCount_0f7a4 7 = .ok (.iand, 1) := by decide +kernel
theorem dJ6_bitCount_0f7a4_8 : decode cJ6_bitCount_0f7a4 8 = .ok (.isub, 1) := by decide +kernel
theorem dJ6_bitCount_0f7a4_9 : decode cJ6_bitCount_0f7a4 9 = .ok (.istore_n 0, 1) := by decide +kernel
theorem dJ6_bitCount_0f7a4_10 : decode cJ6_bitCount_0f7a4 10 = .ok (.iload_n 0, 1) := by decide +kernel
theorem dJ6_bitCount_0f7a4_11 : decode cJ6_bitCount_0f7a4 11 = .ok (.ldc_w 266, 3) := by decide +kernel
theorem dJ6_bitCount_0f7a4_14 : decode cJ6_bitCount_0f7a4 14 = .ok (.iand, 1) := by decide +kernel
theorem dJ6_bitCount_0f7a4_15 : decode cJ6_bitCount_0f7a4 15 = .ok (.iload_n 0, 1) := by decide +kernel
theorem dJ6_bitCount_0f7a4_16 : decode cJ6_bitCount_0f7a4 16 = .ok (.iconst 2, 1) := by decide +kernel
theorem dJ6_bitCount_0f7a4_17 : decode cJ6_bitCount_0f7a4 17 = .ok (.iushr, 1) := by decide +kernel
theorem dJ6_bitCount_0f7a4_18 : decode cJ6_bitCount_0f7a4 18 = .ok (.ldc_w 266, 3) := by decide +kernel
theorem dJ6_bitCount_0f7a4_21 : decode cJ6_bitCount_0f7a4 21 = .ok (.iand, 1) := by decide +kernel
theorem dJ6_bitCount_0f7a4_22 : decode cJ6_bitCount_0f7a4 22 = .ok (.iadd, 1) := by decide +kernel
theorem dJ6_bitCount_0f7a4_23 : decode cJ6_bitCount_0f7a4 23 = .ok (.istore_n 0, 1) := by decide +kernel
theorem dJ6_bitCount_0f7a4_24 : decode cJ6_bitCount_0f7a4 24 = .ok (.iload_n 0, 1) := by decide +kernel
theorem dJ6_bitCount_0f7a4_25 : decode cJ6_bitCount_0f7a4 25 = .ok (.iload_n 0, 1) := by decide +kernel
theorem dJ6_bitCount_0f7a4_26 : decode cJ6_bitCount_0f7a4 26 = .ok (.iconst 4, 1) := by decide +kernel
theorem dJ6_bitCount_0f7a4_27 : decode cJ6_bitCount_0f7a4 27 = .ok (.iushr, 1) := by decide +kernel
theorem dJ6_bitCount_0f7a4_28 : decode cJ6_bitCount_0f7a4 28 = .ok (.iadd, 1) := by decide +kernel
theorem dJ6_bitCount_0f7a4_29 : decode cJ6_bitCount_0f7a4 29 = .ok (.ldc_w 267, 3) := by decide +kernel
theorem dJ6_bitCount_0f7a4_32 : decode cJ6_bitCount_0f7a4 32 = .ok (.iand, 1) := by decide +kernel
theorem dJ6_bitCount_0f7a4_33 : decode cJ6_bitCount_0f7a4 33 = .ok (.istore_n 0, 1) := by decide +kernel
theorem dJ6_bitCount_0f7a4_34 : decode cJ6_bitCount_0f7a4 34 = .ok (.iload_n 0, 1) := by decide +kernel
theorem dJ6_bitCount_0f7a4_35 : decode cJ6_bitCount_0f7a4 35 = .ok (.iload_n 0, 1) := by decide +kernel
theorem dJ6_bitCount_0f7a4_36 : decode cJ6_bitCount_0f7a4 36 = .ok (.bipush 8, 2) := by decide +kernel
theorem dJ6_bitCount_0f7a4_38 : decode cJ6_bitCount_0f7a4 38 = .ok (.iushr, 1) := by decide +kernel
theorem dJ6_bitCount_0f7a4_39 : decode cJ6_bitCount_0f7a4 39 = .ok (.iadd, 1) := by decide +kernel
theorem dJ6_bitCount_0f7a4_40 : decode cJ6_bitCount_0f7a4 40 = .ok (.istore_n 0, 1) := by decide +kernel
theorem dJ6_bitCount_0f7a4_41 : decode cJ6_bitCount_0f7a4 41 = .ok (.iload_n 0, 1) := by decide +kernel
theorem dJ6_bitCount_0f7a4_42 : decode cJ6_bitCount_0f7a4 42 = .ok (.iload_n 0, 1) := by decide +kernel
theorem dJ6_bitCount_0f7a4_43 : decode cJ6_bitCount_0f7a4 43 = .ok (.bipush 16, 2) := by decide +kernel
theorem dJ6_bitCount_0f7a4_45 : decode cJ6_bitCount_0f7a4 45 = .ok (.iushr, 1) := by decide +kernel
theorem dJ6_bitCount_0f7a4_46 : decode cJ6_bitCount_0f7a4 46 = .ok (.iadd, 1) := by decide +kernel
theorem dJ6_bitCount_0f7a4_47 : decode cJ6_bitCount_0f7a4 47 = .ok (.istore_n 0, 1) := by decide +kernel
theorem dJ6_bitCount_0f7a4_48 : decode cJ6_bitCount_0f7a4 48 = .ok (.iload_n 0, 1) := by decide +kernel
theorem dJ6_bitCount_0f7a4_49 : decode cJ6_bitCount_0f7a4 49 = .ok (.bipush 63, 2) := by decide +kernel
theorem dJ6_bitCount_0f7a4_51 : decode cJ6_bitCount_0f7a4 51 = .ok (.iand, 1) := by decide +kernel
theorem dJ6_bitCount_0f7a4_52 : decode cJ6_bitCount_0f7a4 52 = .ok (.ireturn, 1) := by decide +kernel
theorem dJ9_max_7cf53_0 : decode cJ9_max_7cf53 0 = .ok (.iload_n 0, 1) := by decide +kernel
theorem dJ9_max_7cf53_1 : decode cJ9_max_7cf53 1 = .ok (.iload_n 1, 1) := by decide +kernel
theorem dJ9_max_7cf53_2 : decode cJ9_max_7cf53 2 = .ok (.if_icmp .lt 7, 3) := by decide +kernel
theorem dJ9_max_7cf53_5 : decode cJ9_max_7cf53 5 = .ok (.iload_n 0, 1) := by decide +kernel
theorem dJ9_max_7cf53_6 : decode cJ9_max_7cf53 6 = .ok (.goto 4, 3) := by decide +kernel
theorem dJ9_max_7cf53_9 : decode cJ9_max_7cf53 9 = .ok (.iload_n 1, 1) := by decide +kernel
theorem dJ9_max_7cf53_10 : decode cJ9_max_7cf53 10 = .ok (.ireturn, 1) := by decide +kernel
theorem dJ9_min_7cf53_0 : decode cJ9_min_7cf53 0 = .ok (.iload_n 0, 1) := by decide +kernel
theorem dJ9_min_7cf53_1 : decode cJ9_min_7cf53 1 = .ok (.iload_n 1, 1) := by decide +kernel
theorem dJ9_min_7cf53_2 : decode cJ9_min_7cf53 2 = .ok (.if_icmp .gt 7, 3) := by decide +kernel
theorem dJ9_min_7cf53_5 : decode cJ9_min_7cf53 5 = .ok (.iload_n 0, 1) := by decide +kernel
theorem dJ9_min_7cf53_6 : decode cJ9_min_7cf53 6 = .ok (.goto 4, 3) := by decide +kernel
theorem dJ9_min_7cf53_9 : decode cJ9_min_7cf53 9 = .ok (.iload_n 1, 1) := by decide +kernel
theorem dJ9_min_7cf53_10 : decode cJ9_min_7cf53 10 = .ok (.ireturn, 1) := by decide +kernel
theorem dL_reach_0 : decode cL_reach 0 = .ok (.aload_n 3, 1) := by decide +kernel
theorem dL_reach_1 : decode cL_reach 1 = .ok (.iconst 0, 1) := by decide +kernel
theorem dL_reach_2 : decode cL_reach 2 = .ok (.aload_n 0, 1) := by decide +kernel
theorem dL_reach_3 : decode cL_reach 3 = .ok (.iload_n 1, 1) := by decide +kernel
theorem dL_reach_4 : decode cL_reach 4 = .ok (.iload_n 2, 1) := by decide +kernel
theorem dL_reach_5 : decode cL_reach 5 = .ok (.invokevirtual 7, 3) := by decide +kernel
theorem dL_reach_8 : decode cL_reach 8 = .ok (.i2l, 1) := by decide +kernel
theorem dL_reach_9 : decode cL_reach 9 = .ok (.lastore, 1) := by decide +kernel
theorem dL_reach_10 : decode cL_reach 10 = .ok (.goto 7, 3) := by decide +kernel
theorem dL_reach_13 : decode cL_reach 13 = .ok (.astore 4, 2) := by decide +kernel
theorem dL_reach_15 : decode cL_reach 15 = .ok (.iconst 1, 1) := by decide +kernel
theorem dL_reach_16 : decode cL_reach 16 = .ok (.ireturn, 1) := by decide +kernel
theorem dL_reach_17 : decode cL_reach 17 = .ok (.iconst 0, 1) := by decide +kernel
theorem dL_reach_18 : decode cL_reach 18 = .ok (.ireturn, 1) := by decide +kernel
theorem dL_guild_0 : decode cL_guild 0 = .ok (.aload_n 3, 1) := by decide +kernel
theorem dL_guild_1 : decode cL_guild 1 = .ok (.iconst 0, 1) := by decide +kernel
theorem dL_guild_2 : decode cL_guild 2 = .ok (.aload_n 0, 1) := by decide +kernel
theorem dL_guild_3 : decode cL_guild 3 = .ok (.iload_n 1, 1) := by decide +kernel
theorem dL_guild_4 : decode cL_guild 4 = .ok (.iload_n 2, 1) := by decide +kernel
theorem dL_guild_5 : decode cL_guild 5 = .ok (.invokevirtual 15, 3) := by decide +kernel
theorem dL_guild_8 : decode cL_guild 8 = .ok (.i2l, 1) := by decide +kernel
theorem dL_guild_9 : decode cL_guild 9 = .ok (.lastore, 1) := by decide +kernel
theorem dL_guild_10 : decode cL_guild 10 = .ok (.goto 7, 3) := by decide +kernel
theorem dL_guild_13 : decode cL_guild 13 = .ok (.astore 4, 2) := by decide +kernel
theorem dL_guild_15 : decode cL_guild 15 = .ok (.iconst 1, 1) := by decide +kernel
theorem dL_guild_16 : decode cL_guild 16 = .ok (.ireturn, 1) := by decide +kernel
theorem dL_guild_17 : decode cL_guild 17 = .ok (.iconst 0, 1) := by decide +kernel
theorem dL_guild_18 : decode cL_guild 18 = .ok (.ireturn, 1) := by decide +kernel
theorem dL_user_0 : decode cL_user 0 = .ok (.aload_n 3, 1) := by decide +kernel
theorem dL_user_1 : decode cL_user 1 = .ok (.iconst 0, 1) := by decide +kernel
theorem dL_user_2 : decode cL_user 2 = .ok (.aload_n 0, 1) := by decide +kernel
theorem dL_user_3 : decode cL_user 3 = .ok (.iload_n 1, 1) := by decide +kernel
theorem dL_user_4 : decode cL_user 4 = .ok (.iload_n 2, 1) := by decide +kernel
theorem dL_user_5 : decode cL_user 5 = .ok (.invokevirtual 18, 3) := by decide +kernel
theorem dL_user_8 : decode cL_user 8 = .ok (.i2l, 1) := by decide +kernel
theorem dL_user_9 : decode cL_user 9 = .ok (.lastore, 1) := by decide +kernel
theorem dL_user_10 : decode cL_user 10 = .ok (.goto 7, 3) := by decide +kernel
theorem dL_user_13 : decode cL_user 13 = .ok (.astore 4, 2) := by decide +kernel
theorem dL_user_15 : decode cL_user 15 = .ok (.iconst 1, 1) := by decide +kernel
theorem dL_user_16 : decode cL_user 16 = .ok (.ireturn, 1) := by decide +kernel
theorem dL_user_17 : decode cL_user 17 = .ok (.iconst 0, 1) := by decide +kernel
theorem dL_user_18 : decode cL_user 18 = .ok (.ireturn, 1) := by decide +kernel
theorem dL_flow_0 : decode cL_flow 0 = .ok (.aload_n 2, 1) := by decide +kernel
theorem dL_flow_1 : decode cL_flow 1 = .ok (.iconst 0, 1) := by decide +kernel
theorem dL_flow_2 : decode cL_flow 2 = .ok (.aload_n 0, 1) := by decide +kernel
theorem dL_flow_3 : decode cL_flow 3 = .ok (.iload_n 1, 1) := by decide +kernel
theorem dL_flow_4 : decode cL_flow 4 = .ok (.invokevirtual 21, 3) := by decide +kernel
theorem dL_flow_7 : decode cL_flow 7 = .ok (.i2l, 1) := by decide +kernel
theorem dL_flow_8 : decode cL_flow 8 = .ok (.lastore, 1) := by decide +kernel
theorem dL_flow_9 : decode cL_flow 9 = .ok (.goto 6, 3) := by decide +kernel
theorem dL_flow_12 : decode cL_flow 12 = .ok (.astore_n 3, 1) := by decide +kernel
theorem dL_flow_13 : decode cL_flow 13 = .ok (.iconst 1, 1) := by decide +kernel
theorem dL_flow_14 : decode cL_flow 14 = .ok (.ireturn, 1) := by decide +kernel
theorem dL_flow_15 : decode cL_flow 15 = .ok (.iconst 0, 1) := by decide +kernel
theorem dL_flow_16 : decode cL_flow 16 = .ok (.ireturn, 1) := by decide +kernel
theorem dL_bell_0 : decode cL_bell 0 = .ok (.aload_n 3, 1) := by decide +kernel
theorem dL_bell_1 : decode cL_bell 1 = .ok (.iconst 0, 1) := by decide +kernel
theorem dL_bell_2 : decode cL_bell 2 = .ok (.aload_n 0, 1) := by decide +kernel
theorem dL_bell_3 : decode cL_bell 3 = .ok (.iload_n 1, 1) := by decide +kernel
theorem dL_bell_4 : decode cL_bell 4 = .ok (.iload_n 2, 1) := by decide +kernel
theorem dL_bell_5 : decode cL_bell 5 = .ok (.invokevirtual 25, 3) := by decide +kernel
theorem dL_bell_8 : decode cL_bell 8 = .ok (.i2l, 1) := by decide +kernel
theorem dL_bell_9 : decode cL_bell 9 = .ok (.lastore, 1) := by decide +kernel
theorem dL_bell_10 : decode cL_bell 10 = .ok (.goto 7, 3) := by decide +kernel
theorem dL_bell_13 : decode cL_bell 13 = .ok (.astore 4, 2) := by decide +kernel
theorem dL_bell_15 : decode cL_bell 15 = .ok (.iconst 1, 1) := by decide +kernel
theorem dL_bell_16 : decode cL_bell 16 = .ok (.ireturn, 1) := by decide +kernel
theorem dL_bell_17 : decode cL_bell 17 = .ok (.iconst 0, 1) := by decide +kernel
theorem dL_bell_18 : decode cL_bell 18 = .ok (.ireturn, 1) := by decide +kernel
theorem dL_law_0 : decode cL_law 0 = .ok (.new 8, 3) := by decide +kernel
theorem dL_law_3 : decode cL_law 3 = .ok (.dup, 1) := by decide +kernel
theorem dL_law_4 : decode cL_law 4 = .ok (.invokespecial 28, 3) := by decide +kernel
theorem dL_law_7 : decode cL_law 7 = .ok (.astore_n 1, 1) := by decide +kernel
theorem dL_law_8 : decode cL_law 8 = .ok (.new 29, 3) := by decide +kernel
theorem dL_law_11 : decode cL_law 11 = .ok (.dup, 1) := by decide +kernel
theorem dL_law_12 : decode cL_law 12 = .ok (.invokespecial 31, 3) := by decide +kernel
theorem dL_law_15 : decode cL_law 15 = .ok (.astore_n 2, 1) := by decide +kernel
theorem dL_law_16 : decode cL_law 16 = .ok (.iconst 1, 1) := by decide +kernel
theorem dL_law_17 : decode cL_law 17 = .ok (.newarray .long, 2) := by decide +kernel
theorem dL_law_19 : decode cL_law 19 = .ok (.astore_n 3, 1) := by decide +kernel
theorem dL_law_20 : decode cL_law 20 = .ok (.iconst 0, 1) := by decide +kernel
theorem dL_law_21 : decode cL_law 21 = .ok (.istore 4, 2) := by decide +kernel
theorem dL_law_23 : decode cL_law 23 = .ok (.iload 4, 2) := by decide +kernel
theorem dL_law_25 : decode cL_law 25 = .ok (.aload_n 0, 1) := by decide +kernel
theorem dL_law_26 : decode cL_law 26 = .ok (.arraylength, 1) := by decide +kernel
theorem dL_law_27 : decode cL_law 27 = .ok (.bipush 6, 2) := by decide +kernel
theorem dL_law_29 : decode cL_law 29 = .ok (.isub, 1) := by decide +kernel
theorem dL_law_30 : decode cL_law 30 = .ok (.if_icmp .gt 1423, 3) := by decide +kernel
theorem dL_law_33 : decode cL_law 33 = .ok (.aload_n 0, 1) := by decide +kernel
theorem dL_law_34 : decode cL_law 34 = .ok (.iload 4, 2) := by decide +kernel
theorem dL_law_36 : decode cL_law 36 = .ok (.iaload, 1) := by decide +kernel
theorem dL_law_37 : decode cL_law 37 = .ok (.bipush 63, 2) := by decide +kernel
theorem dL_law_39 : decode cL_law 39 = .ok (.iand, 1) := by decide +kernel
theorem dL_law_40 : decode cL_law 40 = .ok (.tableswitch 1407 0 35 #[160, 233, 258, 271, 284, 352, 420, 488, 544, 557, 606, 619, 687, 748, 785, 822, 859, 896, 909, 946, 971, 1032, 1057, 1082, 1095, 1108, 1133, 1182, 1195, 1220, 1257, 1294, 1307, 1332, 1357, 1382], 160) := by decide +kernel
theorem dL_law_200 : decode cL_law 200 = .ok (.aload_n 1, 1) := by decide +kernel
theorem dL_law_201 : decode cL_law 201 = .ok (.aload_n 0, 1) := by decide +kernel
theorem dL_law_202 : decode cL_law 202 = .ok (.iload 4, 2) := by decide +kernel
theorem dL_law_204 : decode cL_law 204 = .ok (.iconst 1, 1) := by decide +kernel
theorem dL_law_205 : decode cL_law 205 = .ok (.iadd, 1) := by decide +kernel
theorem dL_law_206 : decode cL_law 206 = .ok (.iaload, 1) := by decide +kernel
theorem dL_law_207 : decode cL_law 207 = .ok (.aload_n 0, 1) := by decide +kernel
theorem dL_law_208 : decode cL_law 208 = .ok (.iload 4, 2) := by decide +kernel
theorem dL_law_210 : decode cL_law 210 = .ok (.iconst 2, 1) := by decide +kernel
theorem dL_law_211 : decode cL_law 211 = .ok (.iadd, 1) := by decide +kernel
theorem dL_law_212 : decode cL_law 212 = .ok (.iaload, 1) := by decide +kernel
theorem dL_law_213 : decode cL_law 213 = .ok (.aload_n 0, 1) := by decide +kernel
theorem dL_law_214 : decode cL_law 214 = .ok (.iload 4, 2) := by decide +kernel
theorem dL_law_216 : decode cL_law 216 = .ok (.iconst 3, 1) := by decide +kernel
theorem dL_law_217 : decode cL_law 217 = .ok (.iadd, 1) := by decide +kernel
theorem dL_law_218 : decode cL_law 218 = .ok (.iaload, 1) := by decide +kernel
theorem dL_law_219 : decode cL_law 219 = .ok (.aload_n 0, 1) := by decide +kernel
theorem dL_law_220 : decode cL_law 220 = .ok (.iload 4, 2) := by decide +kernel
theorem dL_law_222 : decode cL_law 222 = .ok (.iconst 4, 1) := by decide +kernel
theorem dL_law_223 : decode cL_law 223 = .ok (.iadd, 1) := by decide +kernel
theorem dL_law_224 : decode cL_law 224 = .ok (.iaload, 1) := by decide +kernel
theorem dL_law_225 : decode cL_law 225 = .ok (.aload_n 0, 1) := by decide +kernel
theorem dL_law_226 : decode cL_law 226 = .ok (.iload 4, 2) := by decide +kernel
theorem dL_law_228 : decode cL_law 228 = .ok (.iconst 5, 1) := by decide +kernel
theorem dL_law_229 : decode cL_law 229 = .ok (.iadd, 1) := by decide +kernel
theorem dL_law_230 : decode cL_law 230 = .ok (.iaload, 1) := by decide +kernel
theorem dL_law_231 : decode cL_law 231 = .ok (.invokevirtual 32, 3) := by decide +kernel
theorem dL_law_234 : decode cL_law 234 = .ok (.aload_n 2, 1) := by decide +kernel
theorem dL_law_235 : decode cL_law 235 = .ok (.aload_n 0, 1) := by decide +kernel
theorem dL_law_236 : decode cL_law 236 = .ok (.iload 4, 2) := by decide +kernel
theorem dL_law_238 : decode cL_law 238 = .ok (.iconst 1, 1) := by decide +kernel
theorem dL_law_239 : decode cL_law 239 = .ok (.iadd, 1) := by decide +kernel
theorem dL_law_240 : decode cL_law 240 = .ok (.iaload, 1) := by decide +kernel
theorem dL_law_241 : decode cL_law 241 = .ok (.aload_n 0, 1) := by decide +kernel
theorem dL_law_242 : decode cL_law 242 = .ok (.iload 4, 2) := by decide +kernel
theorem dL_law_244 : decode cL_law 244 = .ok (.iconst 2, 1) := by decide +kernel
theorem dL_law_245 : decode cL_law 245 = .ok (.iadd, 1) := by decide +kernel
theorem dL_law_246 : decode cL_law 246 = .ok (.iaload, 1) := by decide +kernel
theorem dL_law_247 : decode cL_law 247 = .ok (.aload_n 0, 1) := by decide +kernel
theorem dL_law_248 : decode cL_law 248 = .ok (.iload 4, 2) := by decide +kernel
theorem dL_law_250 : decode cL_law 250 = .ok (.iconst 3, 1) := by decide +kernel
theorem dL_law_251 : decode cL_law 251 = .ok (.iadd, 1) := by decide +kernel
theorem dL_law_252 : decode cL_law 252 = .ok (.iaload, 1) := by decide +kernel
theorem dL_law_253 : decode cL_law 253 = .ok (.aload_n 0, 1) := by decide +kernel
theorem dL_law_254 : decode cL_law 254 = .ok (.iload 4, 2) := by decide +kernel
theorem dL_law_256 : decode cL_law 256 = .ok (.iconst 4, 1) := by decide +kernel
theorem dL_law_257 : decode cL_law 257 = .ok (.iadd, 1) := by decide +kernel
theorem dL_law_258 : decode cL_law 258 = .ok (.iaload, 1) := by decide +kernel
theorem dL_law_259 : decode cL_law 259 = .ok (.aload_n 0, 1) := by decide +kernel
theorem dL_law_260 : decode cL_law 260 = .ok (.iload 4, 2) := by decide +kernel
theorem dL_law_262 : decode cL_law 262 = .ok (.iconst 5, 1) := by decide +kernel
theorem dL_law_263 : decode cL_law 263 = .ok (.iadd, 1) := by decide +kernel
theorem dL_law_264 : decode cL_law 264 = .ok (.iaload, 1) := by decide +kernel
theorem dL_law_265 : decode cL_law 265 = .ok (.invokevirtual 36, 3) := by decide +kernel
theorem dL_law_268 : decode cL_law 268 = .ok (.if_icmp .eq 1179, 3) := by decide +kernel
theorem dL_law_271 : decode cL_law 271 = .ok (.iconst 0, 1) := by decide +kernel
theorem dL_law_272 : decode cL_law 272 = .ok (.ireturn, 1) := by decide +kernel
theorem dL_law_273 : decode cL_law 273 = .ok (.aload_n 1, 1) := by decide +kernel
theorem dL_law_274 : decode cL_law 274 = .ok (.aload_n 0, 1) := by decide +kernel
theorem dL_law_275 : decode cL_law 275 = .ok (.iload 4, 2) := by decide +kernel
theorem dL_law_277 : decode cL_law 277 = .ok (.iconst 1, 1) := by decide +kernel
theorem dL_law_278 : decode cL_law 278 = .ok (.iadd, 1) := by decide +kernel
theorem dL_law_279 : decode cL_law 279 = .ok (.iaload, 1) := by decide +kernel
theorem dL_law_280 : decode cL_law 280 = .ok (.invokevirtual 37, 3) := by decide +kernel
theorem dL_law_283 : decode cL_law 283 = .ok (.aload_n 2, 1) := by decide +kernel
theorem dL_law_284 : decode cL_law 284 = .ok (.aload_n 0, 1) := by decide +kernel
theorem dL_law_285 : decode cL_law 285 = .ok (.iload 4, 2) := by decide +kernel
theorem dL_law_287 : decode cL_law 287 = .ok (.iconst 1, 1) := by decide +kernel
theorem dL_law_288 : decode cL_law 288 = .ok (.iadd, 1) := by decide +kernel
theorem dL_law_289 : decode cL_law 289 = .ok (.iaload, 1) := by decide +kernel
theorem dL_law_290 : decode cL_law 290 = .ok (.invokevirtual 41, 3) := by decide +kernel
theorem dL_law_293 : decode cL_law 293 = .ok (.if_icmp .eq 1154, 3) := by decide +kernel
theorem dL_law_296 : decode cL_law 296 = .ok (.iconst 0, 1) := by decide +kernel
theorem dL_law_297 : decode cL_law 297 = .ok (.ireturn, 1) := by decide +kernel
theorem dL_law_298 : decode cL_law 298 = .ok (.aload_n 1, 1) := by decide +kernel
theorem dL_law_299 : decode cL_law 299 = .ok (.invokevirtual 42, 3) := by decide +kernel
theorem dL_law_302 : decode cL_law 302 = .ok (.aload_n 2, 1) := by decide +kernel
theorem dL_law_303 : decode cL_law 303 = .ok (.invokevirtual 46, 3) := by decide +kernel
theorem dL_law_306 : decode cL_law 306 = .ok (.if_icmp .eq 1141, 3) := by decide +kernel
theorem dL_law_309 : decode cL_law 309 = .ok (.iconst 0, 1) := by decide +kernel
theorem dL_law_310 : decode cL_law 310 = .ok (.ireturn, 1) := by decide +kernel
theorem dL_law_311 : decode cL_law 311 = .ok (.aload_n 1, 1) := by decide +kernel
theorem dL_law_312 : decode cL_law 312 = .ok (.invokevirtual 47, 3) := by decide +kernel
theorem dL_law_315 : decode cL_law 315 = .ok (.aload_n 2, 1) := by decide +kernel
theorem dL_law_316 : decode cL_law 316 = .ok (.invokevirtual 50, 3) := by decide +kernel
theorem dL_law_319 : decode cL_law 319 = .ok (.if_icmp .eq 1128, 3) := by decide +kernel
theorem dL_law_322 : decode cL_law 322 = .ok (.iconst 0, 1) := by decide +kernel
theorem dL_law_323 : decode cL_law 323 = .ok (.ireturn, 1) := by decide +kernel
theorem dL_law_324 : decode cL_law 324 = .ok (.aload_n 1, 1) := by decide +kernel
theorem dL_law_325 : decode cL_law 325 = .ok (.aload_n 0, 1) := by decide +kernel
theorem dL_law_326 : decode cL_law 326 = .ok (.iload 4, 2) := by decide +kernel
theorem dL_law_328 : decode cL_law 328 = .ok (.iconst 1, 1) := by decide +kernel
theorem dL_law_329 : decode cL_law 329 = .ok (.iadd, 1) := by decide +kernel
theorem dL_law_330 : decode cL_law 330 = .ok (.iaload, 1) := by decide +kernel
theorem dL_law_331 : decode cL_law 331 = .ok (.aload_n 0, 1) := by decide +kernel
theorem dL_law_332 : decode cL_law 332 = .ok (.iload 4, 2) := by decide +kernel
theorem dL_law_334 : decode cL_law 334 = .ok (.iconst 2, 1) := by decide +kernel
theorem dL_law_335 : decode cL_law 335 = .ok (.iadd, 1) := by decide +kernel
theorem dL_law_336 : decode cL_law 336 = .ok (.iaload, 1) := by decide +kernel
theorem dL_law_337 : decode cL_law 337 = .ok (.aload_n 3, 1) := by decide +kernel
theorem dL_law_338 : decode cL_law 338 = .ok (.invokestatic 51, 3) := by decide +kernel
theorem dL_law_341 : decode cL_law 341 = .ok (.istore 5, 2) := by decide +kernel
theorem dL_law_343 : decode cL_law 343 = .ok (.aload_n 2, 1) := by decide +kernel
theorem dL_law_344 : decode cL_law 344 = .ok (.aload_n 0, 1) := by decide +kernel
theorem dL_law_345 : decode cL_law 345 = .ok (.iload 4, 2) := by decide +kernel
theorem dL_law_347 : decode cL_law 347 = .ok (.iconst 1, 1) := by decide +kernel
theorem dL_law_348 : decode cL_law 348 = .ok (.iadd, 1) := by decide +kernel
theorem dL_law_349 : decode cL_law 349 = .ok (.iaload, 1) := by decide +kernel
theorem dL_law_350 : decode cL_law 350 = .ok (.aload_n 0, 1) := by decide +kernel
theorem dL_law_351 : decode cL_law 351 = .ok (.iload 4, 2) := by decide +kernel
theorem dL_law_353 : decode cL_law 353 = .ok (.iconst 2, 1) := by decide +kernel
theorem dL_law_354 : decode cL_law 354 = .ok (.iadd, 1) := by decide +kernel
theorem dL_law_355 : decode cL_law 355 = .ok (.iaload, 1) := by decide +kernel
theorem dL_law_356 : decode cL_law 356 = .ok (.invokevirtual 56, 3) := by decide +kernel
theorem dL_law_359 : decode cL_law 359 = .ok (.istore 6, 2) := by decide +kernel
theorem dL_law_361 : decode cL_law 361 = .ok (.aload_n 2, 1) := by decide +kernel
theorem dL_law_362 : decode cL_law 362 = .ok (.invokevirtual 57, 3) := by decide +kernel
theorem dL_law_365 : decode cL_law 365 = .ok (.iload 5, 2) := by decide +kernel
theorem dL_law_367 : decode cL_law 367 = .ok (.if_icmp .eq 5, 3) := by decide +kernel
theorem dL_law_370 : decode cL_law 370 = .ok (.iconst 0, 1) := by decide +kernel
theorem dL_law_371 : decode cL_law 371 = .ok (.ireturn, 1) := by decide +kernel
theorem dL_law_372 : decode cL_law 372 = .ok (.iload 5, 2) := by decide +kernel
theorem dL_law_374 : decode cL_law 374 = .ok (.ifCond .ne 15, 3) := by decide +kernel
theorem dL_law_377 : decode cL_law 377 = .ok (.aload_n 3, 1) := by decide +kernel
theorem dL_law_378 : decode cL_law 378 = .ok (.iconst 0, 1) := by decide +kernel
theorem dL_law_379 : decode cL_law 379 = .ok (.laload, 1) := by decide +kernel
theorem dL_law_380 : decode cL_law 380 = .ok (.iload 6, 2) := by decide +kernel
theorem dL_law_382 : decode cL_law 382 = .ok (.i2l, 1) := by decide +kernel
theorem dL_law_383 : decode cL_law 383 = .ok (.lcmp, 1) := by decide +kernel
theorem dL_law_384 : decode cL_law 384 = .ok (.ifCond .eq 5, 3) := by decide +kernel
theorem dL_law_387 : decode cL_law 387 = .ok (.iconst 0, 1) := by decide +kernel
theorem dL_law_388 : decode cL_law 388 = .ok (.ireturn, 1) := by decide +kernel
theorem dL_law_389 : decode cL_law 389 = .ok (.goto 1058, 3) := by decide +kernel
theorem dL_law_392 : decode cL_law 392 = .ok (.aload_n 1, 1) := by decide +kernel
theorem dL_law_393 : decode cL_law 393 = .ok (.aload_n 0, 1) := by decide +kernel
theorem dL_law_394 : decode cL_law 394 = .ok (.iload 4, 2) := by decide +kernel
theorem dL_law_396 : decode cL_law 396 = .ok (.iconst 1, 1) := by decide +kernel
theorem dL_law_397 : decode cL_law 397 = .ok (.iadd, 1) := by decide +kernel
theorem dL_law_398 : decode cL_law 398 = .ok (.iaload, 1) := by decide +kernel
theorem dL_law_399 : decode cL_law 399 = .ok (.aload_n 0, 1) := by decide +kernel
theorem dL_law_400 : decode cL_law 400 = .ok (.iload 4, 2) := by decide +kernel
theorem dL_law_402 : decode cL_law 402 = .ok (.iconst 2, 1) := by decide +kernel
theorem dL_law_403 : decode cL_law 403 = .ok (.iadd, 1) := by decide +kernel
theorem dL_law_404 : decode cL_law 404 = .ok (.iaload, 1) := by decide +kernel
theorem dL_law_405 : decode cL_law 405 = .ok (.aload_n 3, 1) := by decide +kernel
theorem dL_law_406 : decode cL_law 406 = .ok (.invokestatic 60, 3) := by decide +kernel
theorem dL_law_409 : decode cL_law 409 = .ok (.istore 5, 2) := by decide +kernel
theorem dL_law_411 : decode cL_law 411 = .ok (.aload_n 2, 1) := by decide +kernel
theorem dL_law_412 : decode cL_law 412 = .ok (.aload_n 0, 1) := by decide +kernel
theorem dL_law_413 : decode cL_law 413 = .ok (.iload 4, 2) := by decide +kernel
theorem dL_law_415 : decode cL_law 415 = .ok (.iconst 1, 1) := by decide +kernel
theorem dL_law_416 : decode cL_law 416 = .ok (.iadd, 1) := by decide +kernel
theorem dL_law_417 : decode cL_law 417 = .ok (.iaload, 1) := by decide +kernel
theorem dL_law_418 : decode cL_law 418 = .ok (.aload_n 0, 1) := by decide +kernel
theorem dL_law_419 : decode cL_law 419 = .ok (.iload 4, 2) := by decide +kernel
theorem dL_law_421 : decode cL_law 421 = .ok (.iconst 2, 1) := by decide +kernel
theorem dL_law_422 : decode cL_law 422 = .ok (.iadd, 1) := by decide +kernel
theorem dL_law_423 : decode cL_law 423 = .ok (.iaload, 1) := by decide +kernel
theorem dL_law_424 : decode cL_law 424 = .ok (.invokevirtual 62, 3) := by decide +kernel
theorem dL_law_427 : decode cL_law 427 = .ok (.istore 6, 2) := by decide +kernel
theorem dL_law_429 : decode cL_law 429 = .ok (.aload_n 2, 1) := by decide +kernel
theorem dL_law_430 : decode cL_law 430 = .ok (.invokevirtual 57, 3) := by decide +kernel
theorem dL_law_433 : decode cL_law 433 = .ok (.iload 5, 2) := by decide +kernel
theorem dL_law_435 : decode cL_law 435 = .ok (.if_icmp .eq 5, 3) := by decide +kernel
theorem dL_law_438 : decode cL_law 438 = .ok (.iconst 0, 1) := by decide +kernel
theorem dL_law_439 : decode cL_law 439 = .ok (.ireturn, 1) := by decide +kernel
theorem dL_law_440 : decode cL_law 440 = .ok (.iload 5, 2) := by decide +kernel
theorem dL_law_442 : decode cL_law 442 = .ok (.ifCond .ne 15, 3) := by decide +kernel
theorem dL_law_445 : decode cL_law 445 = .ok (.aload_n 3, 1) := by decide +kernel
theorem dL_law_446 : decode cL_law 446 = .ok (.iconst 0, 1) := by decide +kernel
theorem dL_law_447 : decode cL_law 447 = .ok (.laload, 1) := by decide +kernel
theorem dL_law_448 : decode cL_law 448 = .ok (.iload 6, 2) := by decide +kernel
theorem dL_law_450 : decode cL_law 450 = .ok (.i2l, 1) := by decide +kernel
theorem dL_law_451 : decode cL_law 451 = .ok (.lcmp, 1) := by decide +kernel
theorem dL_law_452 : decode cL_law 452 = .ok (.ifCond .eq 5, 3) := by decide +kernel
theorem dL_law_455 : decode cL_law 455 = .ok (.iconst 0, 1) := by decide +kernel
theorem dL_law_456 : decode cL_law 456 = .ok (.ireturn, 1) := by decide +kernel
theorem dL_law_457 : decode cL_law 457 = .ok (.goto 990, 3) := by decide +kernel
theorem dL_law_460 : decode cL_law 460 = .ok (.aload_n 1, 1) := by decide +kernel
theorem dL_law_461 : decode cL_law 461 = .ok (.aload_n 0, 1) := by decide +kernel
theorem dL_law_462 : decode cL_law 462 = .ok (.iload 4, 2) := by decide +kernel
theorem dL_law_464 : decode cL_law 464 = .ok (.iconst 1, 1) := by decide +kernel
theorem dL_law_465 : decode cL_law 465 = .ok (.iadd, 1) := by decide +kernel
theorem dL_law_466 : decode cL_law 466 = .ok (.iaload, 1) := by decide +kernel
theorem dL_law_467 : decode cL_law 467 = .ok (.aload_n 0, 1) := by decide +kernel
theorem dL_law_468 : decode cL_law 468 = .ok (.iload 4, 2) := by decide +kernel
theorem dL_law_470 : decode cL_law 470 = .ok (.iconst 2, 1) := by decide +kernel
theorem dL_law_471 : decode cL_law 471 = .ok (.iadd, 1) := by decide +kernel
theorem dL_law_472 : decode cL_law 472 = .ok (.iaload, 1) := by decide +kernel
theorem dL_law_473 : decode cL_law 473 = .ok (.aload_n 3, 1) := by decide +kernel
theorem dL_law_474 : decode cL_law 474 = .ok (.invokestatic 63, 3) := by decide +kernel
theorem dL_law_477 : decode cL_law 477 = .ok (.istore 5, 2) := by decide +kernel
theorem dL_law_479 : decode cL_law 479 = .ok (.aload_n 2, 1) := by decide +kernel
theorem dL_law_480 : decode cL_law 480 = .ok (.aload_n 0, 1) := by decide +kernel
theorem dL_law_481 : decode cL_law 481 = .ok (.iload 4, 2) := by decide +kernel
theorem dL_law_483 : decode cL_law 483 = .ok (.iconst 1, 1) := by decide +kernel
theorem dL_law_484 : decode cL_law 484 = .ok (.iadd, 1) := by decide +kernel
theorem dL_law_485 : decode cL_law 485 = .ok (.iaload, 1) := by decide +kernel
theorem dL_law_486 : decode cL_law 486 = .ok (.aload_n 0, 1) := by decide +kernel
theorem dL_law_487 : decode cL_law 487 = .ok (.iload 4, 2) := by decide +kernel
theorem dL_law_489 : decode cL_law 489 = .ok (.iconst 2, 1) := by decide +kernel
theorem dL_law_490 : decode cL_law 490 = .ok (.iadd, 1) := by decide +kernel
theorem dL_law_491 : decode cL_law 491 = .ok (.iaload, 1) := by decide +kernel
theorem dL_law_492 : decode cL_law 492 = .ok (.invokevirtual 65, 3) := by decide +kernel
theorem dL_law_495 : decode cL_law 495 = .ok (.istore 6, 2) := by decide +kernel
theorem dL_law_497 : decode cL_law 497 = .ok (.aload_n 2, 1) := by decide +kernel
theorem dL_law_498 : decode cL_law 498 = .ok (.invokevirtual 57, 3) := by decide +kernel
theorem dL_law_501 : decode cL_law 501 = .ok (.iload 5, 2) := by decide +kernel
theorem dL_law_503 : decode cL_law 503 = .ok (.if_icmp .eq 5, 3) := by decide +kernel
theorem dL_law_506 : decode cL_law 506 = .ok (.iconst 0, 1) := by decide +kernel
theorem dL_law_507 : decode cL_law 507 = .ok (.ireturn, 1) := by decide +kernel
theorem dL_law_508 : decode cL_law 508 = .ok (.iload 5, 2) := by decide +kernel
theorem dL_law_510 : decode cL_law 510 = .ok (.ifCond .ne 15, 3) := by decide +kernel
theorem dL_law_513 : decode cL_law 513 = .ok (.aload_n 3, 1) := by decide +kernel
theorem dL_law_514 : decode cL_law 514 = .ok (.iconst 0, 1) := by decide +kernel
theorem dL_law_515 : decode cL_law 515 = .ok (.laload, 1) := by decide +kernel
theorem dL_law_516 : decode cL_law 516 = .ok (.iload 6, 2) := by decide +kernel
theorem dL_law_518 : decode cL_law 518 = .ok (.i2l, 1) := by decide +kernel
theorem dL_law_519 : decode cL_law 519 = .ok (.lcmp, 1) := by decide +kernel
theorem dL_law_520 : decode cL_law 520 = .ok (.ifCond .eq 5, 3) := by decide +kernel
theorem dL_law_523 : decode cL_law 523 = .ok (.iconst 0, 1) := by decide +kernel
theorem dL_law_524 : decode cL_law 524 = .ok (.ireturn, 1) := by decide +kernel
theorem dL_law_525 : decode cL_law 525 = .ok (.goto 922, 3) := by decide +kernel
theorem dL_law_528 : decode cL_law 528 = .ok (.aload_n 1, 1) := by decide +kernel
theorem dL_law_529 : decode cL_law 529 = .ok (.aload_n 0, 1) := by decide +kernel
theorem dL_law_530 : decode cL_law 530 = .ok (.iload 4, 2) := by decide +kernel
theorem dL_law_532 : decode cL_law 532 = .ok (.iconst 1, 1) := by decide +kernel
theorem dL_law_533 : decode cL_law 533 = .ok (.iadd, 1) := by decide +kernel
theorem dL_law_534 : decode cL_law 534 = .ok (.iaload, 1) := by decide +kernel
theorem dL_law_535 : decode cL_law 535 = .ok (.aload_n 3, 1) := by decide +kernel
theorem dL_law_536 : decode cL_law 536 = .ok (.invokestatic 66, 3) := by decide +kernel
theorem dL_law_539 : decode cL_law 539 = .ok (.istore 5, 2) := by decide +kernel
theorem dL_law_541 : decode cL_law 541 = .ok (.aload_n 2, 1) := by decide +kernel
theorem dL_law_542 : decode cL_law 542 = .ok (.aload_n 0, 1) := by decide +kernel
theorem dL_law_543 : decode cL_law 543 = .ok (.iload 4, 2) := by decide +kernel
theorem dL_law_545 : decode cL_law 545 = .ok (.iconst 1, 1) := by decide +kernel
theorem dL_law_546 : decode cL_law 546 = .ok (.iadd, 1) := by decide +kernel
theorem dL_law_547 : decode cL_law 547 = .ok (.iaload, 1) := by decide +kernel
theorem dL_law_548 : decode cL_law 548 = .ok (.invokevirtual 69, 3) := by decide +kernel
theorem dL_law_551 : decode cL_law 551 = .ok (.istore 6, 2) := by decide +kernel
theorem dL_law_553 : decode cL_law 553 = .ok (.aload_n 2, 1) := by decide +kernel
theorem dL_law_554 : decode cL_law 554 = .ok (.invokevirtual 57, 3) := by decide +kernel
theorem dL_law_557 : decode cL_law 557 = .ok (.iload 5, 2) := by decide +kernel
theorem dL_law_559 : decode cL_law 559 = .ok (.if_icmp .eq 5, 3) := by decide +kernel
theorem dL_law_562 : decode cL_law 562 = .ok (.iconst 0, 1) := by decide +kernel
theorem dL_law_563 : decode cL_law 563 = .ok (.ireturn, 1) := by decide +kernel
theorem dL_law_564 : decode cL_law 564 = .ok (.iload 5, 2) := by decide +kernel
theorem dL_law_566 : decode cL_law 566 = .ok (.ifCond .ne 15, 3) := by decide +kernel
theorem dL_law_569 : decode cL_law 569 = .ok (.aload_n 3, 1) := by decide +kernel
theorem dL_law_570 : decode cL_law 570 = .ok (.iconst 0, 1) := by decide +kernel
theorem dL_law_571 : decode cL_law 571 = .ok (.laload, 1) := by decide +kernel
theorem dL_law_572 : decode cL_law 572 = .ok (.iload 6, 2) := by decide +kernel
theorem dL_law_574 : decode cL_law 574 = .ok (.i2l, 1) := by decide +kernel
theorem dL_law_575 : decode cL_law 575 = .ok (.lcmp, 1) := by decide +kernel
theorem dL_law_576 : decode cL_law 576 = .ok (.ifCond .eq 5, 3) := by decide +kernel
theorem dL_law_579 : decode cL_law 579 = .ok (.iconst 0, 1) := by decide +kernel
theorem dL_law_580 : decode cL_law 580 = .ok (.ireturn, 1) := by decide +kernel
theorem dL_law_581 : decode cL_law 581 = .ok (.goto 866, 3) := by decide +kernel
theorem dL_law_584 : decode cL_law 584 = .ok (.aload_n 1, 1) := by decide +kernel
theorem dL_law_585 : decode cL_law 585 = .ok (.invokevirtual 70, 3) := by decide +kernel
theorem dL_law_588 : decode cL_law 588 = .ok (.aload_n 2, 1) := by decide +kernel
theorem dL_law_589 : decode cL_law 589 = .ok (.invokevirtual 73, 3) := by decide +kernel
theorem dL_law_592 : decode cL_law 592 = .ok (.if_icmp .eq 855, 3) := by decide +kernel
theorem dL_law_595 : decode cL_law 595 = .ok (.iconst 0, 1) := by decide +kernel
theorem dL_law_596 : decode cL_law 596 = .ok (.ireturn, 1) := by decide +kernel
theorem dL_law_597 : decode cL_law 597 = .ok (.aload_n 1, 1) := by decide +kernel
theorem dL_law_598 : decode cL_law 598 = .ok (.aload_n 0, 1) := by decide +kernel
theorem dL_law_599 : decode cL_law 599 = .ok (.iload 4, 2) := by decide +kernel
theorem dL_law_601 : decode cL_law 601 = .ok (.iconst 1, 1) := by decide +kernel
theorem dL_law_602 : decode cL_law 602 = .ok (.iadd, 1) := by decide +kernel
theorem dL_law_603 : decode cL_law 603 = .ok (.iaload, 1) := by decide +kernel
theorem dL_law_604 : decode cL_law 604 = .ok (.aload_n 0, 1) := by decide +kernel
theorem dL_law_605 : decode cL_law 605 = .ok (.iload 4, 2) := by decide +kernel
theorem dL_law_607 : decode cL_law 607 = .ok (.iconst 2, 1) := by decide +kernel
theorem dL_law_608 : decode cL_law 608 = .ok (.iadd, 1) := by decide +kernel
theorem dL_law_609 : decode cL_law 609 = .ok (.iaload, 1) := by decide +kernel
theorem dL_law_610 : decode cL_law 610 = .ok (.aload_n 0, 1) := by decide +kernel
theorem dL_law_611 : decode cL_law 611 = .ok (.iload 4, 2) := by decide +kernel
theorem dL_law_613 : decode cL_law 613 = .ok (.iconst 3, 1) := by decide +kernel
theorem dL_law_614 : decode cL_law 614 = .ok (.iadd, 1) := by decide +kernel
theorem dL_law_615 : decode cL_law 615 = .ok (.iaload, 1) := by decide +kernel
theorem dL_law_616 : decode cL_law 616 = .ok (.invokevirtual 74, 3) := by decide +kernel
theorem dL_law_619 : decode cL_law 619 = .ok (.aload_n 2, 1) := by decide +kernel
theorem dL_law_620 : decode cL_law 620 = .ok (.aload_n 0, 1) := by decide +kernel
theorem dL_law_621 : decode cL_law 621 = .ok (.iload 4, 2) := by decide +kernel
theorem dL_law_623 : decode cL_law 623 = .ok (.iconst 1, 1) := by decide +kernel
theorem dL_law_624 : decode cL_law 624 = .ok (.iadd, 1) := by decide +kernel
theorem dL_law_625 : decode cL_law 625 = .ok (.iaload, 1) := by decide +kernel
theorem dL_law_626 : decode cL_law 626 = .ok (.aload_n 0, 1) := by decide +kernel
theorem dL_law_627 : decode cL_law 627 = .ok (.iload 4, 2) := by decide +kernel
theorem dL_law_629 : decode cL_law 629 = .ok (.iconst 2, 1) := by decide +kernel
theorem dL_law_630 : decode cL_law 630 = .ok (.iadd, 1) := by decide +kernel
theorem dL_law_631 : decode cL_law 631 = .ok (.iaload, 1) := by decide +kernel
theorem dL_law_632 : decode cL_law 632 = .ok (.aload_n 0, 1) := by decide +kernel
theorem dL_law_633 : decode cL_law 633 = .ok (.iload 4, 2) := by decide +kernel
theorem dL_law_635 : decode cL_law 635 = .ok (.iconst 3, 1) := by decide +kernel
theorem dL_law_636 : decode cL_law 636 = .ok (.iadd, 1) := by decide +kernel
theorem dL_law_637 : decode cL_law 637 = .ok (.iaload, 1) := by decide +kernel
theorem dL_law_638 : decode cL_law 638 = .ok (.invokevirtual 78, 3) := by decide +kernel
theorem dL_law_641 : decode cL_law 641 = .ok (.if_icmp .eq 806, 3) := by decide +kernel
theorem dL_law_644 : decode cL_law 644 = .ok (.iconst 0, 1) := by decide +kernel
theorem dL_law_645 : decode cL_law 645 = .ok (.ireturn, 1) := by decide +kernel
theorem dL_law_646 : decode cL_law 646 = .ok (.aload_n 1, 1) := by decide +kernel
theorem dL_law_647 : decode cL_law 647 = .ok (.invokevirtual 79, 3) := by decide +kernel
theorem dL_law_650 : decode cL_law 650 = .ok (.aload_n 2, 1) := by decide +kernel
theorem dL_law_651 : decode cL_law 651 = .ok (.invokevirtual 82, 3) := by decide +kernel
theorem dL_law_654 : decode cL_law 654 = .ok (.if_icmp .eq 793, 3) := by decide +kernel
theorem dL_law_657 : decode cL_law 657 = .ok (.iconst 0, 1) := by decide +kernel
theorem dL_law_658 : decode cL_law 658 = .ok (.ireturn, 1) := by decide +kernel
theorem dL_law_659 : decode cL_law 659 = .ok (.aload_n 1, 1) := by decide +kernel
theorem dL_law_660 : decode cL_law 660 = .ok (.aload_n 0, 1) := by decide +kernel
theorem dL_law_661 : decode cL_law 661 = .ok (.iload 4, 2) := by decide +kernel
theorem dL_law_663 : decode cL_law 663 = .ok (.iconst 1, 1) := by decide +kernel
theorem dL_law_664 : decode cL_law 664 = .ok (.iadd, 1) := by decide +kernel
theorem dL_law_665 : decode cL_law 665 = .ok (.iaload, 1) := by decide +kernel
theorem dL_law_666 : decode cL_law 666 = .ok (.aload_n 0, 1) := by decide +kernel
theorem dL_law_667 : decode cL_law 667 = .ok (.iload 4, 2) := by decide +kernel
theorem dL_law_669 : decode cL_law 669 = .ok (.iconst 2, 1) := by decide +kernel
theorem dL_law_670 : decode cL_law 670 = .ok (.iadd, 1) := by decide +kernel
theorem dL_law_671 : decode cL_law 671 = .ok (.iaload, 1) := by decide +kernel
theorem dL_law_672 : decode cL_law 672 = .ok (.aload_n 3, 1) := by decide +kernel
theorem dL_law_673 : decode cL_law 673 = .ok (.invokestatic 83, 3) := by decide +kernel
theorem dL_law_676 : decode cL_law 676 = .ok (.istore 5, 2) := by decide +kernel
theorem dL_law_678 : decode cL_law 678 = .ok (.aload_n 2, 1) := by decide +kernel
theorem dL_law_679 : decode cL_law 679 = .ok (.aload_n 0, 1) := by decide +kernel
theorem dL_law_680 : decode cL_law 680 = .ok (.iload 4, 2) := by decide +kernel
theorem dL_law_682 : decode cL_law 682 = .ok (.iconst 1, 1) := by decide +kernel
theorem dL_law_683 : decode cL_law 683 = .ok (.iadd, 1) := by decide +kernel
theorem dL_law_684 : decode cL_law 684 = .ok (.iaload, 1) := by decide +kernel
theorem dL_law_685 : decode cL_law 685 = .ok (.aload_n 0, 1) := by decide +kernel
theorem dL_law_686 : decode cL_law 686 = .ok (.iload 4, 2) := by decide +kernel
theorem dL_law_688 : decode cL_law 688 = .ok (.iconst 2, 1) := by decide +kernel
theorem dL_law_689 : decode cL_law 689 = .ok (.iadd, 1) := by decide +kernel
theorem dL_law_690 : decode cL_law 690 = .ok (.iaload, 1) := by decide +kernel
theorem dL_law_691 : decode cL_law 691 = .ok (.invokevirtual 85, 3) := by decide +kernel
theorem dL_law_694 : decode cL_law 694 = .ok (.istore 6, 2) := by decide +kernel
theorem dL_law_696 : decode cL_law 696 = .ok (.aload_n 2, 1) := by decide +kernel
theorem dL_law_697 : decode cL_law 697 = .ok (.invokevirtual 57, 3) := by decide +kernel
theorem dL_law_700 : decode cL_law 700 = .ok (.iload 5, 2) := by decide +kernel
theorem dL_law_702 : decode cL_law 702 = .ok (.if_icmp .eq 5, 3) := by decide +kernel
theorem dL_law_705 : decode cL_law 705 = .ok (.iconst 0, 1) := by decide +kernel
theorem dL_law_706 : decode cL_law 706 = .ok (.ireturn, 1) := by decide +kernel
theorem dL_law_707 : decode cL_law 707 = .ok (.iload 5, 2) := by decide +kernel
theorem dL_law_709 : decode cL_law 709 = .ok (.ifCond .ne 15, 3) := by decide +kernel
theorem dL_law_712 : decode cL_law 712 = .ok (.aload_n 3, 1) := by decide +kernel
theorem dL_law_713 : decode cL_law 713 = .ok (.iconst 0, 1) := by decide +kernel
theorem dL_law_714 : decode cL_law 714 = .ok (.laload, 1) := by decide +kernel
theorem dL_law_715 : decode cL_law 715 = .ok (.iload 6, 2) := by decide +kernel
theorem dL_law_717 : decode cL_law 717 = .ok (.i2l, 1) := by decide +kernel
theorem dL_law_718 : decode cL_law 718 = .ok (.lcmp, 1) := by decide +kernel
theorem dL_law_719 : decode cL_law 719 = .ok (.ifCond .eq 5, 3) := by decide +kernel
theorem dL_law_722 : decode cL_law 722 = .ok (.iconst 0, 1) := by decide +kernel
theorem dL_law_723 : decode cL_law 723 = .ok (.ireturn, 1) := by decide +kernel
theorem dL_law_724 : decode cL_law 724 = .ok (.goto 723, 3) := by decide +kernel
theorem dL_law_727 : decode cL_law 727 = .ok (.aload_n 1, 1) := by decide +kernel
theorem dL_law_728 : decode cL_law 728 = .ok (.aload_n 0, 1) := by decide +kernel
theorem dL_law_729 : decode cL_law 729 = .ok (.iload 4, 2) := by decide +kernel
theorem dL_law_731 : decode cL_law 731 = .ok (.iconst 1, 1) := by decide +kernel
theorem dL_law_732 : decode cL_law 732 = .ok (.iadd, 1) := by decide +kernel
theorem dL_law_733 : decode cL_law 733 = .ok (.iaload, 1) := by decide +kernel
theorem dL_law_734 : decode cL_law 734 = .ok (.aload_n 0, 1) := by decide +kernel
theorem dL_law_735 : decode cL_law 735 = .ok (.iload 4, 2) := by decide +kernel
theorem dL_law_737 : decode cL_law 737 = .ok (.iconst 2, 1) := by decide +kernel
theorem dL_law_738 : decode cL_law 738 = .ok (.iadd, 1) := by decide +kernel
theorem dL_law_739 : decode cL_law 739 = .ok (.iaload, 1) := by decide +kernel
theorem dL_law_740 : decode cL_law 740 = .ok (.aload_n 0, 1) := by decide +kernel
theorem dL_law_741 : decode cL_law 741 = .ok (.iload 4, 2) := by decide +kernel
theorem dL_law_743 : decode cL_law 743 = .ok (.iconst 3, 1) := by decide +kernel
theorem dL_law_744 : decode cL_law 744 = .ok (.iadd, 1) := by decide +kernel
theorem dL_law_745 : decode cL_law 745 = .ok (.iaload, 1) := by decide +kernel
theorem dL_law_746 : decode cL_law 746 = .ok (.aload_n 0, 1) := by decide +kernel
theorem dL_law_747 : decode cL_law 747 = .ok (.iload 4, 2) := by decide +kernel
theorem dL_law_749 : decode cL_law 749 = .ok (.iconst 4, 1) := by decide +kernel
theorem dL_law_750 : decode cL_law 750 = .ok (.iadd, 1) := by decide +kernel
theorem dL_law_751 : decode cL_law 751 = .ok (.iaload, 1) := by decide +kernel
theorem dL_law_752 : decode cL_law 752 = .ok (.invokevirtual 86, 3) := by decide +kernel
theorem dL_law_755 : decode cL_law 755 = .ok (.aload_n 2, 1) := by decide +kernel
theorem dL_law_756 : decode cL_law 756 = .ok (.aload_n 0, 1) := by decide +kernel
theorem dL_law_757 : decode cL_law 757 = .ok (.iload 4, 2) := by decide +kernel
theorem dL_law_759 : decode cL_law 759 = .ok (.iconst 1, 1) := by decide +kernel
theorem dL_law_760 : decode cL_law 760 = .ok (.iadd, 1) := by decide +kernel
theorem dL_law_761 : decode cL_law 761 = .ok (.iaload, 1) := by decide +kernel
theorem dL_law_762 : decode cL_law 762 = .ok (.aload_n 0, 1) := by decide +kernel
theorem dL_law_763 : decode cL_law 763 = .ok (.iload 4, 2) := by decide +kernel
theorem dL_law_765 : decode cL_law 765 = .ok (.iconst 2, 1) := by decide +kernel
theorem dL_law_766 : decode cL_law 766 = .ok (.iadd, 1) := by decide +kernel
theorem dL_law_767 : decode cL_law 767 = .ok (.iaload, 1) := by decide +kernel
theorem dL_law_768 : decode cL_law 768 = .ok (.aload_n 0, 1) := by decide +kernel
theorem dL_law_769 : decode cL_law 769 = .ok (.iload 4, 2) := by decide +kernel
theorem dL_law_771 : decode cL_law 771 = .ok (.iconst 3, 1) := by decide +kernel
theorem dL_law_772 : decode cL_law 772 = .ok (.iadd, 1) := by decide +kernel
theorem dL_law_773 : decode cL_law 773 = .ok (.iaload, 1) := by decide +kernel
theorem dL_law_774 : decode cL_law 774 = .ok (.aload_n 0, 1) := by decide +kernel
theorem dL_law_775 : decode cL_law 775 = .ok (.iload 4, 2) := by decide +kernel
theorem dL_law_777 : decode cL_law 777 = .ok (.iconst 4, 1) := by decide +kernel
theorem dL_law_778 : decode cL_law 778 = .ok (.iadd, 1) := by decide +kernel
theorem dL_law_779 : decode cL_law 779 = .ok (.iaload, 1) := by decide +kernel
theorem dL_law_780 : decode cL_law 780 = .ok (.invokevirtual 90, 3) := by decide +kernel
theorem dL_law_783 : decode cL_law 783 = .ok (.if_icmp .eq 664, 3) := by decide +kernel
theorem dL_law_786 : decode cL_law 786 = .ok (.iconst 0, 1) := by decide +kernel
theorem dL_law_787 : decode cL_law 787 = .ok (.ireturn, 1) := by decide +kernel
theorem dL_law_788 : decode cL_law 788 = .ok (.aload_n 1, 1) := by decide +kernel
theorem dL_law_789 : decode cL_law 789 = .ok (.aload_n 0, 1) := by decide +kernel
theorem dL_law_790 : decode cL_law 790 = .ok (.iload 4, 2) := by decide +kernel
theorem dL_law_792 : decode cL_law 792 = .ok (.iconst 1, 1) := by decide +kernel
theorem dL_law_793 : decode cL_law 793 = .ok (.iadd, 1) := by decide +kernel
theorem dL_law_794 : decode cL_law 794 = .ok (.iaload, 1) := by decide +kernel
theorem dL_law_795 : decode cL_law 795 = .ok (.aload_n 0, 1) := by decide +kernel
theorem dL_law_796 : decode cL_law 796 = .ok (.iload 4, 2) := by decide +kernel
theorem dL_law_798 : decode cL_law 798 = .ok (.iconst 2, 1) := by decide +kernel
theorem dL_law_799 : decode cL_law 799 = .ok (.iadd, 1) := by decide +kernel
theorem dL_law_800 : decode cL_law 800 = .ok (.iaload, 1) := by decide +kernel
theorem dL_law_801 : decode cL_law 801 = .ok (.invokevirtual 91, 3) := by decide +kernel
theorem dL_law_804 : decode cL_law 804 = .ok (.aload_n 2, 1) := by decide +kernel
theorem dL_law_805 : decode cL_law 805 = .ok (.aload_n 0, 1) := by decide +kernel
theorem dL_law_806 : decode cL_law 806 = .ok (.iload 4, 2) := by decide +kernel
theorem dL_law_808 : decode cL_law 808 = .ok (.iconst 1, 1) := by decide +kernel
theorem dL_law_809 : decode cL_law 809 = .ok (.iadd, 1) := by decide +kernel
theorem dL_law_810 : decode cL_law 810 = .ok (.iaload, 1) := by decide +kernel
theorem dL_law_811 : decode cL_law 811 = .ok (.aload_n 0, 1) := by decide +kernel
theorem dL_law_812 : decode cL_law 812 = .ok (.iload 4, 2) := by decide +kernel
theorem dL_law_814 : decode cL_law 814 = .ok (.iconst 2, 1) := by decide +kernel
theorem dL_law_815 : decode cL_law 815 = .ok (.iadd, 1) := by decide +kernel
theorem dL_law_816 : decode cL_law 816 = .ok (.iaload, 1) := by decide +kernel
theorem dL_law_817 : decode cL_law 817 = .ok (.invokevirtual 94, 3) := by decide +kernel
theorem dL_law_820 : decode cL_law 820 = .ok (.if_icmp .eq 627, 3) := by decide +kernel
theorem dL_law_823 : decode cL_law 823 = .ok (.iconst 0, 1) := by decide +kernel
theorem dL_law_824 : decode cL_law 824 = .ok (.ireturn, 1) := by decide +kernel
theorem dL_law_825 : decode cL_law 825 = .ok (.aload_n 1, 1) := by decide +kernel
theorem dL_law_826 : decode cL_law 826 = .ok (.aload_n 0, 1) := by decide +kernel
theorem dL_law_827 : decode cL_law 827 = .ok (.iload 4, 2) := by decide +kernel
theorem dL_law_829 : decode cL_law 829 = .ok (.iconst 1, 1) := by decide +kernel
theorem dL_law_830 : decode cL_law 830 = .ok (.iadd, 1) := by decide +kernel
theorem dL_law_831 : decode cL_law 831 = .ok (.iaload, 1) := by decide +kernel
theorem dL_law_832 : decode cL_law 832 = .ok (.aload_n 0, 1) := by decide +kernel
theorem dL_law_833 : decode cL_law 833 = .ok (.iload 4, 2) := by decide +kernel
theorem dL_law_835 : decode cL_law 835 = .ok (.iconst 2, 1) := by decide +kernel
theorem dL_law_836 : decode cL_law 836 = .ok (.iadd, 1) := by decide +kernel
theorem dL_law_837 : decode cL_law 837 = .ok (.iaload, 1) := by decide +kernel
theorem dL_law_838 : decode cL_law 838 = .ok (.invokevirtual 95, 3) := by decide +kernel
theorem dL_law_841 : decode cL_law 841 = .ok (.aload_n 2, 1) := by decide +kernel
theorem dL_law_842 : decode cL_law 842 = .ok (.aload_n 0, 1) := by decide +kernel
theorem dL_law_843 : decode cL_law 843 = .ok (.iload 4, 2) := by decide +kernel
theorem dL_law_845 : decode cL_law 845 = .ok (.iconst 1, 1) := by decide +kernel
theorem dL_law_846 : decode cL_law 846 = .ok (.iadd, 1) := by decide +kernel
theorem dL_law_847 : decode cL_law 847 = .ok (.iaload, 1) := by decide +kernel
theorem dL_law_848 : decode cL_law 848 = .ok (.aload_n 0, 1) := by decide +kernel
theorem dL_law_849 : decode cL_law 849 = .ok (.iload 4, 2) := by decide +kernel
theorem dL_law_851 : decode cL_law 851 = .ok (.iconst 2, 1) := by decide +kernel
theorem dL_law_852 : decode cL_law 852 = .ok (.iadd, 1) := by decide +kernel
theorem dL_law_853 : decode cL_law 853 = .ok (.iaload, 1) := by decide +kernel
theorem dL_law_854 : decode cL_law 854 = .ok (.invokevirtual 98, 3) := by decide +kernel
theorem dL_law_857 : decode cL_law 857 = .ok (.if_icmp .eq 590, 3) := by decide +kernel
theorem dL_law_860 : decode cL_law 860 = .ok (.iconst 0, 1) := by decide +kernel
theorem dL_law_861 : decode cL_law 861 = .ok (.ireturn, 1) := by decide +kernel
theorem dL_law_862 : decode cL_law 862 = .ok (.aload_n 1, 1) := by decide +kernel
theorem dL_law_863 : decode cL_law 863 = .ok (.aload_n 0, 1) := by decide +kernel
theorem dL_law_864 : decode cL_law 864 = .ok (.iload 4, 2) := by decide +kernel
theorem dL_law_866 : decode cL_law 866 = .ok (.iconst 1, 1) := by decide +kernel
theorem dL_law_867 : decode cL_law 867 = .ok (.iadd, 1) := by decide +kernel
theorem dL_law_868 : decode cL_law 868 = .ok (.iaload, 1) := by decide +kernel
theorem dL_law_869 : decode cL_law 869 = .ok (.aload_n 0, 1) := by decide +kernel
theorem dL_law_870 : decode cL_law 870 = .ok (.iload 4, 2) := by decide +kernel
theorem dL_law_872 : decode cL_law 872 = .ok (.iconst 2, 1) := by decide +kernel
theorem dL_law_873 : decode cL_law 873 = .ok (.iadd, 1) := by decide +kernel
theorem dL_law_874 : decode cL_law 874 = .ok (.iaload, 1) := by decide +kernel
theorem dL_law_875 : decode cL_law 875 = .ok (.invokevirtual 99, 3) := by decide +kernel
theorem dL_law_878 : decode cL_law 878 = .ok (.aload_n 2, 1) := by decide +kernel
theorem dL_law_879 : decode cL_law 879 = .ok (.aload_n 0, 1) := by decide +kernel
theorem dL_law_880 : decode cL_law 880 = .ok (.iload 4, 2) := by decide +kernel
theorem dL_law_882 : decode cL_law 882 = .ok (.iconst 1, 1) := by decide +kernel
theorem dL_law_883 : decode cL_law 883 = .ok (.iadd, 1) := by decide +kernel
theorem dL_law_884 : decode cL_law 884 = .ok (.iaload, 1) := by decide +kernel
theorem dL_law_885 : decode cL_law 885 = .ok (.aload_n 0, 1) := by decide +kernel
theorem dL_law_886 : decode cL_law 886 = .ok (.iload 4, 2) := by decide +kernel
theorem dL_law_888 : decode cL_law 888 = .ok (.iconst 2, 1) := by decide +kernel
theorem dL_law_889 : decode cL_law 889 = .ok (.iadd, 1) := by decide +kernel
theorem dL_law_890 : decode cL_law 890 = .ok (.iaload, 1) := by decide +kernel
theorem dL_law_891 : decode cL_law 891 = .ok (.invokevirtual 102, 3) := by decide +kernel
theorem dL_law_894 : decode cL_law 894 = .ok (.if_icmp .eq 553, 3) := by decide +kernel
theorem dL_law_897 : decode cL_law 897 = .ok (.iconst 0, 1) := by decide +kernel
theorem dL_law_898 : decode cL_law 898 = .ok (.ireturn, 1) := by decide +kernel
theorem dL_law_899 : decode cL_law 899 = .ok (.aload_n 1, 1) := by decide +kernel
theorem dL_law_900 : decode cL_law 900 = .ok (.aload_n 0, 1) := by decide +kernel
theorem dL_law_901 : decode cL_law 901 = .ok (.iload 4, 2) := by decide +kernel
theorem dL_law_903 : decode cL_law 903 = .ok (.iconst 1, 1) := by decide +kernel
theorem dL_law_904 : decode cL_law 904 = .ok (.iadd, 1) := by decide +kernel
theorem dL_law_905 : decode cL_law 905 = .ok (.iaload, 1) := by decide +kernel
theorem dL_law_906 : decode cL_law 906 = .ok (.aload_n 0, 1) := by decide +kernel
theorem dL_law_907 : decode cL_law 907 = .ok (.iload 4, 2) := by decide +kernel
theorem dL_law_909 : decode cL_law 909 = .ok (.iconst 2, 1) := by decide +kernel
theorem dL_law_910 : decode cL_law 910 = .ok (.iadd, 1) := by decide +kernel
theorem dL_law_911 : decode cL_law 911 = .ok (.iaload, 1) := by decide +kernel
theorem dL_law_912 : decode cL_law 912 = .ok (.invokevirtual 103, 3) := by decide +kernel
theorem dL_law_915 : decode cL_law 915 = .ok (.aload_n 2, 1) := by decide +kernel
theorem dL_law_916 : decode cL_law 916 = .ok (.aload_n 0, 1) := by decide +kernel
theorem dL_law_917 : decode cL_law 917 = .ok (.iload 4, 2) := by decide +kernel
theorem dL_law_919 : decode cL_law 919 = .ok (.iconst 1, 1) := by decide +kernel
theorem dL_law_920 : decode cL_law 920 = .ok (.iadd, 1) := by decide +kernel
theorem dL_law_921 : decode cL_law 921 = .ok (.iaload, 1) := by decide +kernel
theorem dL_law_922 : decode cL_law 922 = .ok (.aload_n 0, 1) := by decide +kernel
theorem dL_law_923 : decode cL_law 923 = .ok (.iload 4, 2) := by decide +kernel
theorem dL_law_925 : decode cL_law 925 = .ok (.iconst 2, 1) := by decide +kernel
theorem dL_law_926 : decode cL_law 926 = .ok (.iadd, 1) := by decide +kernel
theorem dL_law_927 : decode cL_law 927 = .ok (.iaload, 1) := by decide +kernel
theorem dL_law_928 : decode cL_law 928 = .ok (.invokevirtual 106, 3) := by decide +kernel
theorem dL_law_931 : decode cL_law 931 = .ok (.if_icmp .eq 516, 3) := by decide +kernel
theorem dL_law_934 : decode cL_law 934 = .ok (.iconst 0, 1) := by decide +kernel
theorem dL_law_935 : decode cL_law 935 = .ok (.ireturn, 1) := by decide +kernel
theorem dL_law_936 : decode cL_law 936 = .ok (.aload_n 1, 1) := by decide +kernel
theorem dL_law_937 : decode cL_law 937 = .ok (.invokevirtual 107, 3) := by decide +kernel
theorem dL_law_940 : decode cL_law 940 = .ok (.aload_n 2, 1) := by decide +kernel
theorem dL_law_941 : decode cL_law 941 = .ok (.invokevirtual 110, 3) := by decide +kernel
theorem dL_law_944 : decode cL_law 944 = .ok (.if_icmp .eq 503, 3) := by decide +kernel
theorem dL_law_947 : decode cL_law 947 = .ok (.iconst 0, 1) := by decide +kernel
theorem dL_law_948 : decode cL_law 948 = .ok (.ireturn, 1) := by decide +kernel
theorem dL_law_949 : decode cL_law 949 = .ok (.aload_n 1, 1) := by decide +kernel
theorem dL_law_950 : decode cL_law 950 = .ok (.aload_n 0, 1) := by decide +kernel
theorem dL_law_951 : decode cL_law 951 = .ok (.iload 4, 2) := by decide +kernel
theorem dL_law_953 : decode cL_law 953 = .ok (.iconst 1, 1) := by decide +kernel
theorem dL_law_954 : decode cL_law 954 = .ok (.iadd, 1) := by decide +kernel
theorem dL_law_955 : decode cL_law 955 = .ok (.iaload, 1) := by decide +kernel
theorem dL_law_956 : decode cL_law 956 = .ok (.aload_n 0, 1) := by decide +kernel
theorem dL_law_957 : decode cL_law 957 = .ok (.iload 4, 2) := by decide +kernel
theorem dL_law_959 : decode cL_law 959 = .ok (.iconst 2, 1) := by decide +kernel
theorem dL_law_960 : decode cL_law 960 = .ok (.iadd, 1) := by decide +kernel
theorem dL_law_961 : decode cL_law 961 = .ok (.iaload, 1) := by decide +kernel
theorem dL_law_962 : decode cL_law 962 = .ok (.invokevirtual 111, 3) := by decide +kernel
theorem dL_law_965 : decode cL_law 965 = .ok (.aload_n 2, 1) := by decide +kernel
theorem dL_law_966 : decode cL_law 966 = .ok (.aload_n 0, 1) := by decide +kernel
theorem dL_law_967 : decode cL_law 967 = .ok (.iload 4, 2) := by decide +kernel
theorem dL_law_969 : decode cL_law 969 = .ok (.iconst 1, 1) := by decide +kernel
theorem dL_law_970 : decode cL_law 970 = .ok (.iadd, 1) := by decide +kernel
theorem dL_law_971 : decode cL_law 971 = .ok (.iaload, 1) := by decide +kernel
theorem dL_law_972 : decode cL_law 972 = .ok (.aload_n 0, 1) := by decide +kernel
theorem dL_law_973 : decode cL_law 973 = .ok (.iload 4, 2) := by decide +kernel
theorem dL_law_975 : decode cL_law 975 = .ok (.iconst 2, 1) := by decide +kernel
theorem dL_law_976 : decode cL_law 976 = .ok (.iadd, 1) := by decide +kernel
theorem dL_law_977 : decode cL_law 977 = .ok (.iaload, 1) := by decide +kernel
theorem dL_law_978 : decode cL_law 978 = .ok (.invokevirtual 114, 3) := by decide +kernel
theorem dL_law_981 : decode cL_law 981 = .ok (.if_icmp .eq 466, 3) := by decide +kernel
theorem dL_law_984 : decode cL_law 984 = .ok (.iconst 0, 1) := by decide +kernel
theorem dL_law_985 : decode cL_law 985 = .ok (.ireturn, 1) := by decide +kernel
theorem dL_law_986 : decode cL_law 986 = .ok (.aload_n 1, 1) := by decide +kernel
theorem dL_law_987 : decode cL_law 987 = .ok (.aload_n 0, 1) := by decide +kernel
theorem dL_law_988 : decode cL_law 988 = .ok (.iload 4, 2) := by decide +kernel
theorem dL_law_990 : decode cL_law 990 = .ok (.iconst 1, 1) := by decide +kernel
theorem dL_law_991 : decode cL_law 991 = .ok (.iadd, 1) := by decide +kernel
theorem dL_law_992 : decode cL_law 992 = .ok (.iaload, 1) := by decide +kernel
theorem dL_law_993 : decode cL_law 993 = .ok (.invokevirtual 115, 3) := by decide +kernel
theorem dL_law_996 : decode cL_law 996 = .ok (.aload_n 2, 1) := by decide +kernel
theorem dL_law_997 : decode cL_law 997 = .ok (.aload_n 0, 1) := by decide +kernel
theorem dL_law_998 : decode cL_law 998 = .ok (.iload 4, 2) := by decide +kernel
theorem dL_law_1000 : decode cL_law 1000 = .ok (.iconst 1, 1) := by decide +kernel
theorem dL_law_1001 : decode cL_law 1001 = .ok (.iadd, 1) := by decide +kernel
theorem dL_law_1002 : decode cL_law 1002 = .ok (.iaload, 1) := by decide +kernel
theorem dL_law_1003 : decode cL_law 1003 = .ok (.invokevirtual 118, 3) := by decide +kernel
theorem dL_law_1006 : decode cL_law 1006 = .ok (.if_icmp .eq 441, 3) := by decide +kernel
theorem dL_law_1009 : decode cL_law 1009 = .ok (.iconst 0, 1) := by decide +kernel
theorem dL_law_1010 : decode cL_law 1010 = .ok (.ireturn, 1) := by decide +kernel
theorem dL_law_1011 : decode cL_law 1011 = .ok (.aload_n 1, 1) := by decide +kernel
theorem dL_law_1012 : decode cL_law 1012 = .ok (.aload_n 0, 1) := by decide +kernel
theorem dL_law_1013 : decode cL_law 1013 = .ok (.iload 4, 2) := by decide +kernel
theorem dL_law_1015 : decode cL_law 1015 = .ok (.iconst 1, 1) := by decide +kernel
theorem dL_law_1016 : decode cL_law 1016 = .ok (.iadd, 1) := by decide +kernel
theorem dL_law_1017 : decode cL_law 1017 = .ok (.iaload, 1) := by decide +kernel
theorem dL_law_1018 : decode cL_law 1018 = .ok (.aload_n 0, 1) := by decide +kernel
theorem dL_law_1019 : decode cL_law 1019 = .ok (.iload 4, 2) := by decide +kernel
theorem dL_law_1021 : decode cL_law 1021 = .ok (.iconst 2, 1) := by decide +kernel
theorem dL_law_1022 : decode cL_law 1022 = .ok (.iadd, 1) := by decide +kernel
theorem dL_law_1023 : decode cL_law 1023 = .ok (.iaload, 1) := by decide +kernel
theorem dL_law_1024 : decode cL_law 1024 = .ok (.aload_n 0, 1) := by decide +kernel
theorem dL_law_1025 : decode cL_law 1025 = .ok (.iload 4, 2) := by decide +kernel
theorem dL_law_1027 : decode cL_law 1027 = .ok (.iconst 3, 1) := by decide +kernel
theorem dL_law_1028 : decode cL_law 1028 = .ok (.iadd, 1) := by decide +kernel
theorem dL_law_1029 : decode cL_law 1029 = .ok (.iaload, 1) := by decide +kernel
theorem dL_law_1030 : decode cL_law 1030 = .ok (.aload_n 0, 1) := by decide +kernel
theorem dL_law_1031 : decode cL_law 1031 = .ok (.iload 4, 2) := by decide +kernel
theorem dL_law_1033 : decode cL_law 1033 = .ok (.iconst 4, 1) := by decide +kernel
theorem dL_law_1034 : decode cL_law 1034 = .ok (.iadd, 1) := by decide +kernel
theorem dL_law_1035 : decode cL_law 1035 = .ok (.iaload, 1) := by decide +kernel
theorem dL_law_1036 : decode cL_law 1036 = .ok (.invokevirtual 119, 3) := by decide +kernel
theorem dL_law_1039 : decode cL_law 1039 = .ok (.aload_n 2, 1) := by decide +kernel
theorem dL_law_1040 : decode cL_law 1040 = .ok (.aload_n 0, 1) := by decide +kernel
theorem dL_law_1041 : decode cL_law 1041 = .ok (.iload 4, 2) := by decide +kernel
theorem dL_law_1043 : decode cL_law 1043 = .ok (.iconst 1, 1) := by decide +kernel
theorem dL_law_1044 : decode cL_law 1044 = .ok (.iadd, 1) := by decide +kernel
theorem dL_law_1045 : decode cL_law 1045 = .ok (.iaload, 1) := by decide +kernel
theorem dL_law_1046 : decode cL_law 1046 = .ok (.aload_n 0, 1) := by decide +kernel
theorem dL_law_1047 : decode cL_law 1047 = .ok (.iload 4, 2) := by decide +kernel
theorem dL_law_1049 : decode cL_law 1049 = .ok (.iconst 2, 1) := by decide +kernel
theorem dL_law_1050 : decode cL_law 1050 = .ok (.iadd, 1) := by decide +kernel
theorem dL_law_1051 : decode cL_law 1051 = .ok (.iaload, 1) := by decide +kernel
theorem dL_law_1052 : decode cL_law 1052 = .ok (.aload_n 0, 1) := by decide +kernel
theorem dL_law_1053 : decode cL_law 1053 = .ok (.iload 4, 2) := by decide +kernel
theorem dL_law_1055 : decode cL_law 1055 = .ok (.iconst 3, 1) := by decide +kernel
theorem dL_law_1056 : decode cL_law 1056 = .ok (.iadd, 1) := by decide +kernel
theorem dL_law_1057 : decode cL_law 1057 = .ok (.iaload, 1) := by decide +kernel
theorem dL_law_1058 : decode cL_law 1058 = .ok (.aload_n 0, 1) := by decide +kernel
theorem dL_law_1059 : decode cL_law 1059 = .ok (.iload 4, 2) := by decide +kernel
theorem dL_law_1061 : decode cL_law 1061 = .ok (.iconst 4, 1) := by decide +kernel
theorem dL_law_1062 : decode cL_law 1062 = .ok (.iadd, 1) := by decide +kernel
theorem dL_law_1063 : decode cL_law 1063 = .ok (.iaload, 1) := by decide +kernel
theorem dL_law_1064 : decode cL_law 1064 = .ok (.invokevirtual 122, 3) := by decide +kernel
theorem dL_law_1067 : decode cL_law 1067 = .ok (.if_icmp .eq 380, 3) := by decide +kernel
theorem dL_law_1070 : decode cL_law 1070 = .ok (.iconst 0, 1) := by decide +kernel
theorem dL_law_1071 : decode cL_law 1071 = .ok (.ireturn, 1) := by decide +kernel
theorem dL_law_1072 : decode cL_law 1072 = .ok (.aload_n 1, 1) := by decide +kernel
theorem dL_law_1073 : decode cL_law 1073 = .ok (.aload_n 0, 1) := by decide +kernel
theorem dL_law_1074 : decode cL_law 1074 = .ok (.iload 4, 2) := by decide +kernel
theorem dL_law_1076 : decode cL_law 1076 = .ok (.iconst 1, 1) := by decide +kernel
theorem dL_law_1077 : decode cL_law 1077 = .ok (.iadd, 1) := by decide +kernel
theorem dL_law_1078 : decode cL_law 1078 = .ok (.iaload, 1) := by decide +kernel
theorem dL_law_1079 : decode cL_law 1079 = .ok (.invokevirtual 123, 3) := by decide +kernel
theorem dL_law_1082 : decode cL_law 1082 = .ok (.aload_n 2, 1) := by decide +kernel
theorem dL_law_1083 : decode cL_law 1083 = .ok (.aload_n 0, 1) := by decide +kernel
theorem dL_law_1084 : decode cL_law 1084 = .ok (.iload 4, 2) := by decide +kernel
theorem dL_law_1086 : decode cL_law 1086 = .ok (.iconst 1, 1) := by decide +kernel
theorem dL_law_1087 : decode cL_law 1087 = .ok (.iadd, 1) := by decide +kernel
theorem dL_law_1088 : decode cL_law 1088 = .ok (.iaload, 1) := by decide +kernel
theorem dL_law_1089 : decode cL_law 1089 = .ok (.invokevirtual 126, 3) := by decide +kernel
theorem dL_law_1092 : decode cL_law 1092 = .ok (.if_icmp .eq 355, 3) := by decide +kernel
theorem dL_law_1095 : decode cL_law 1095 = .ok (.iconst 0, 1) := by decide +kernel
theorem dL_law_1096 : decode cL_law 1096 = .ok (.ireturn, 1) := by decide +kernel
theorem dL_law_1097 : decode cL_law 1097 = .ok (.aload_n 1, 1) := by decide +kernel
theorem dL_law_1098 : decode cL_law 1098 = .ok (.aload_n 0, 1) := by decide +kernel
theorem dL_law_1099 : decode cL_law 1099 = .ok (.iload 4, 2) := by decide +kernel
theorem dL_law_1101 : decode cL_law 1101 = .ok (.iconst 1, 1) := by decide +kernel
theorem dL_law_1102 : decode cL_law 1102 = .ok (.iadd, 1) := by decide +kernel
theorem dL_law_1103 : decode cL_law 1103 = .ok (.iaload, 1) := by decide +kernel
theorem dL_law_1104 : decode cL_law 1104 = .ok (.invokevirtual 127, 3) := by decide +kernel
theorem dL_law_1107 : decode cL_law 1107 = .ok (.aload_n 2, 1) := by decide +kernel
theorem dL_law_1108 : decode cL_law 1108 = .ok (.aload_n 0, 1) := by decide +kernel
theorem dL_law_1109 : decode cL_law 1109 = .ok (.iload 4, 2) := by decide +kernel
theorem dL_law_1111 : decode cL_law 1111 = .ok (.iconst 1, 1) := by decide +kernel
theorem dL_law_1112 : decode cL_law 1112 = .ok (.iadd, 1) := by decide +kernel
theorem dL_law_1113 : decode cL_law 1113 = .ok (.iaload, 1) := by decide +kernel
theorem dL_law_1114 : decode cL_law 1114 = .ok (.invokevirtual 130, 3) := by decide +kernel
theorem dL_law_1117 : decode cL_law 1117 = .ok (.if_icmp .eq 330, 3) := by decide +kernel
theorem dL_law_1120 : decode cL_law 1120 = .ok (.iconst 0, 1) := by decide +kernel
theorem dL_law_1121 : decode cL_law 1121 = .ok (.ireturn, 1) := by decide +kernel
theorem dL_law_1122 : decode cL_law 1122 = .ok (.aload_n 1, 1) := by decide +kernel
theorem dL_law_1123 : decode cL_law 1123 = .ok (.invokevirtual 131, 3) := by decide +kernel
theorem dL_law_1126 : decode cL_law 1126 = .ok (.aload_n 2, 1) := by decide +kernel
theorem dL_law_1127 : decode cL_law 1127 = .ok (.invokevirtual 134, 3) := by decide +kernel
theorem dL_law_1130 : decode cL_law 1130 = .ok (.if_icmp .eq 317, 3) := by decide +kernel
theorem dL_law_1133 : decode cL_law 1133 = .ok (.iconst 0, 1) := by decide +kernel
theorem dL_law_1134 : decode cL_law 1134 = .ok (.ireturn, 1) := by decide +kernel
theorem dL_law_1135 : decode cL_law 1135 = .ok (.aload_n 1, 1) := by decide +kernel
theorem dL_law_1136 : decode cL_law 1136 = .ok (.invokevirtual 135, 3) := by decide +kernel
theorem dL_law_1139 : decode cL_law 1139 = .ok (.aload_n 2, 1) := by decide +kernel
theorem dL_law_1140 : decode cL_law 1140 = .ok (.invokevirtual 138, 3) := by decide +kernel
theorem dL_law_1143 : decode cL_law 1143 = .ok (.if_icmp .eq 304, 3) := by decide +kernel
theorem dL_law_1146 : decode cL_law 1146 = .ok (.iconst 0, 1) := by decide +kernel
theorem dL_law_1147 : decode cL_law 1147 = .ok (.ireturn, 1) := by decide +kernel
theorem dL_law_1148 : decode cL_law 1148 = .ok (.aload_n 1, 1) := by decide +kernel
theorem dL_law_1149 : decode cL_law 1149 = .ok (.aload_n 0, 1) := by decide +kernel
theorem dL_law_1150 : decode cL_law 1150 = .ok (.iload 4, 2) := by decide +kernel
theorem dL_law_1152 : decode cL_law 1152 = .ok (.iconst 1, 1) := by decide +kernel
theorem dL_law_1153 : decode cL_law 1153 = .ok (.iadd, 1) := by decide +kernel
theorem dL_law_1154 : decode cL_law 1154 = .ok (.iaload, 1) := by decide +kernel
theorem dL_law_1155 : decode cL_law 1155 = .ok (.invokevirtual 139, 3) := by decide +kernel
theorem dL_law_1158 : decode cL_law 1158 = .ok (.aload_n 2, 1) := by decide +kernel
theorem dL_law_1159 : decode cL_law 1159 = .ok (.aload_n 0, 1) := by decide +kernel
theorem dL_law_1160 : decode cL_law 1160 = .ok (.iload 4, 2) := by decide +kernel
theorem dL_law_1162 : decode cL_law 1162 = .ok (.iconst 1, 1) := by decide +kernel
theorem dL_law_1163 : decode cL_law 1163 = .ok (.iadd, 1) := by decide +kernel
theorem dL_law_1164 : decode cL_law 1164 = .ok (.iaload, 1) := by decide +kernel
theorem dL_law_1165 : decode cL_law 1165 = .ok (.invokevirtual 142, 3) := by decide +kernel
theorem dL_law_1168 : decode cL_law 1168 = .ok (.if_icmp .eq 279, 3) := by decide +kernel
theorem dL_law_1171 : decode cL_law 1171 = .ok (.iconst 0, 1) := by decide +kernel
theorem dL_law_1172 : decode cL_law 1172 = .ok (.ireturn, 1) := by decide +kernel
theorem dL_law_1173 : decode cL_law 1173 = .ok (.aload_n 1, 1) := by decide +kernel
theorem dL_law_1174 : decode cL_law 1174 = .ok (.aload_n 0, 1) := by decide +kernel
theorem dL_law_1175 : decode cL_law 1175 = .ok (.iload 4, 2) := by decide +kernel
theorem dL_law_1177 : decode cL_law 1177 = .ok (.iconst 1, 1) := by decide +kernel
theorem dL_law_1178 : decode cL_law 1178 = .ok (.iadd, 1) := by decide +kernel
theorem dL_law_1179 : decode cL_law 1179 = .ok (.iaload, 1) := by decide +kernel
theorem dL_law_1180 : decode cL_law 1180 = .ok (.aload_n 0, 1) := by decide +kernel
theorem dL_law_1181 : decode cL_law 1181 = .ok (.iload 4, 2) := by decide +kernel
theorem dL_law_1183 : decode cL_law 1183 = .ok (.iconst 2, 1) := by decide +kernel
theorem dL_law_1184 : decode cL_law 1184 = .ok (.iadd, 1) := by decide +kernel
theorem dL_law_1185 : decode cL_law 1185 = .ok (.iaload, 1) := by decide +kernel
theorem dL_law_1186 : decode cL_law 1186 = .ok (.aload_n 0, 1) := by decide +kernel
theorem dL_law_1187 : decode cL_law 1187 = .ok (.iload 4, 2) := by decide +kernel
theorem dL_law_1189 : decode cL_law 1189 = .ok (.iconst 3, 1) := by decide +kernel
theorem dL_law_1190 : decode cL_law 1190 = .ok (.iadd, 1) := by decide +kernel
theorem dL_law_1191 : decode cL_law 1191 = .ok (.iaload, 1) := by decide +kernel
theorem dL_law_1192 : decode cL_law 1192 = .ok (.invokevirtual 143, 3) := by decide +kernel
theorem dL_law_1195 : decode cL_law 1195 = .ok (.aload_n 2, 1) := by decide +kernel
theorem dL_law_1196 : decode cL_law 1196 = .ok (.aload_n 0, 1) := by decide +kernel
theorem dL_law_1197 : decode cL_law 1197 = .ok (.iload 4, 2) := by decide +kernel
theorem dL_law_1199 : decode cL_law 1199 = .ok (.iconst 1, 1) := by decide +kernel
theorem dL_law_1200 : decode cL_law 1200 = .ok (.iadd, 1) := by decide +kernel
theorem dL_law_1201 : decode cL_law 1201 = .ok (.iaload, 1) := by decide +kernel
theorem dL_law_1202 : decode cL_law 1202 = .ok (.aload_n 0, 1) := by decide +kernel
theorem dL_law_1203 : decode cL_law 1203 = .ok (.iload 4, 2) := by decide +kernel
theorem dL_law_1205 : decode cL_law 1205 = .ok (.iconst 2, 1) := by decide +kernel
theorem dL_law_1206 : decode cL_law 1206 = .ok (.iadd, 1) := by decide +kernel
theorem dL_law_1207 : decode cL_law 1207 = .ok (.iaload, 1) := by decide +kernel
theorem dL_law_1208 : decode cL_law 1208 = .ok (.aload_n 0, 1) := by decide +kernel
theorem dL_law_1209 : decode cL_law 1209 = .ok (.iload 4, 2) := by decide +kernel
theorem dL_law_1211 : decode cL_law 1211 = .ok (.iconst 3, 1) := by decide +kernel
theorem dL_law_1212 : decode cL_law 1212 = .ok (.iadd, 1) := by decide +kernel
theorem dL_law_1213 : decode cL_law 1213 = .ok (.iaload, 1) := by decide +kernel
theorem dL_law_1214 : decode cL_law 1214 = .ok (.invokevirtual 146, 3) := by decide +kernel
theorem dL_law_1217 : decode cL_law 1217 = .ok (.if_icmp .eq 230, 3) := by decide +kernel
theorem dL_law_1220 : decode cL_law 1220 = .ok (.iconst 0, 1) := by decide +kernel
theorem dL_law_1221 : decode cL_law 1221 = .ok (.ireturn, 1) := by decide +kernel
theorem dL_law_1222 : decode cL_law 1222 = .ok (.aload_n 1, 1) := by decide +kernel
theorem dL_law_1223 : decode cL_law 1223 = .ok (.invokevirtual 147, 3) := by decide +kernel
theorem dL_law_1226 : decode cL_law 1226 = .ok (.aload_n 2, 1) := by decide +kernel
theorem dL_law_1227 : decode cL_law 1227 = .ok (.invokevirtual 150, 3) := by decide +kernel
theorem dL_law_1230 : decode cL_law 1230 = .ok (.if_icmp .eq 217, 3) := by decide +kernel
theorem dL_law_1233 : decode cL_law 1233 = .ok (.iconst 0, 1) := by decide +kernel
theorem dL_law_1234 : decode cL_law 1234 = .ok (.ireturn, 1) := by decide +kernel
theorem dL_law_1235 : decode cL_law 1235 = .ok (.aload_n 1, 1) := by decide +kernel
theorem dL_law_1236 : decode cL_law 1236 = .ok (.aload_n 0, 1) := by decide +kernel
theorem dL_law_1237 : decode cL_law 1237 = .ok (.iload 4, 2) := by decide +kernel
theorem dL_law_1239 : decode cL_law 1239 = .ok (.iconst 1, 1) := by decide +kernel
theorem dL_law_1240 : decode cL_law 1240 = .ok (.iadd, 1) := by decide +kernel
theorem dL_law_1241 : decode cL_law 1241 = .ok (.iaload, 1) := by decide +kernel
theorem dL_law_1242 : decode cL_law 1242 = .ok (.invokevirtual 151, 3) := by decide +kernel
theorem dL_law_1245 : decode cL_law 1245 = .ok (.aload_n 2, 1) := by decide +kernel
theorem dL_law_1246 : decode cL_law 1246 = .ok (.aload_n 0, 1) := by decide +kernel
theorem dL_law_1247 : decode cL_law 1247 = .ok (.iload 4, 2) := by decide +kernel
theorem dL_law_1249 : decode cL_law 1249 = .ok (.iconst 1, 1) := by decide +kernel
theorem dL_law_1250 : decode cL_law 1250 = .ok (.iadd, 1) := by decide +kernel
theorem dL_law_1251 : decode cL_law 1251 = .ok (.iaload, 1) := by decide +kernel
theorem dL_law_1252 : decode cL_law 1252 = .ok (.invokevirtual 154, 3) := by decide +kernel
theorem dL_law_1255 : decode cL_law 1255 = .ok (.if_icmp .eq 192, 3) := by decide +kernel
theorem dL_law_1258 : decode cL_law 1258 = .ok (.iconst 0, 1) := by decide +kernel
theorem dL_law_1259 : decode cL_law 1259 = .ok (.ireturn, 1) := by decide +kernel
theorem dL_law_1260 : decode cL_law 1260 = .ok (.aload_n 1, 1) := by decide +kernel
theorem dL_law_1261 : decode cL_law 1261 = .ok (.aload_n 0, 1) := by decide +kernel
theorem dL_law_1262 : decode cL_law 1262 = .ok (.iload 4, 2) := by decide +kernel
theorem dL_law_1264 : decode cL_law 1264 = .ok (.iconst 1, 1) := by decide +kernel
theorem dL_law_1265 : decode cL_law 1265 = .ok (.iadd, 1) := by decide +kernel
theorem dL_law_1266 : decode cL_law 1266 = .ok (.iaload, 1) := by decide +kernel
theorem dL_law_1267 : decode cL_law 1267 = .ok (.aload_n 0, 1) := by decide +kernel
theorem dL_law_1268 : decode cL_law 1268 = .ok (.iload 4, 2) := by decide +kernel
theorem dL_law_1270 : decode cL_law 1270 = .ok (.iconst 2, 1) := by decide +kernel
theorem dL_law_1271 : decode cL_law 1271 = .ok (.iadd, 1) := by decide +kernel
theorem dL_law_1272 : decode cL_law 1272 = .ok (.iaload, 1) := by decide +kernel
theorem dL_law_1273 : decode cL_law 1273 = .ok (.invokevirtual 155, 3) := by decide +kernel
theorem dL_law_1276 : decode cL_law 1276 = .ok (.aload_n 2, 1) := by decide +kernel
theorem dL_law_1277 : decode cL_law 1277 = .ok (.aload_n 0, 1) := by decide +kernel
theorem dL_law_1278 : decode cL_law 1278 = .ok (.iload 4, 2) := by decide +kernel
theorem dL_law_1280 : decode cL_law 1280 = .ok (.iconst 1, 1) := by decide +kernel
theorem dL_law_1281 : decode cL_law 1281 = .ok (.iadd, 1) := by decide +kernel
theorem dL_law_1282 : decode cL_law 1282 = .ok (.iaload, 1) := by decide +kernel
theorem dL_law_1283 : decode cL_law 1283 = .ok (.aload_n 0, 1) := by decide +kernel
theorem dL_law_1284 : decode cL_law 1284 = .ok (.iload 4, 2) := by decide +kernel
theorem dL_law_1286 : decode cL_law 1286 = .ok (.iconst 2, 1) := by decide +kernel
theorem dL_law_1287 : decode cL_law 1287 = .ok (.iadd, 1) := by decide +kernel
theorem dL_law_1288 : decode cL_law 1288 = .ok (.iaload, 1) := by decide +kernel
theorem dL_law_1289 : decode cL_law 1289 = .ok (.invokevirtual 158, 3) := by decide +kernel
theorem dL_law_1292 : decode cL_law 1292 = .ok (.if_icmp .eq 155, 3) := by decide +kernel
theorem dL_law_1295 : decode cL_law 1295 = .ok (.iconst 0, 1) := by decide +kernel
theorem dL_law_1296 : decode cL_law 1296 = .ok (.ireturn, 1) := by decide +kernel
theorem dL_law_1297 : decode cL_law 1297 = .ok (.aload_n 1, 1) := by decide +kernel
theorem dL_law_1298 : decode cL_law 1298 = .ok (.aload_n 0, 1) := by decide +kernel
theorem dL_law_1299 : decode cL_law 1299 = .ok (.iload 4, 2) := by decide +kernel
theorem dL_law_1301 : decode cL_law 1301 = .ok (.iconst 1, 1) := by decide +kernel
theorem dL_law_1302 : decode cL_law 1302 = .ok (.iadd, 1) := by decide +kernel
theorem dL_law_1303 : decode cL_law 1303 = .ok (.iaload, 1) := by decide +kernel
theorem dL_law_1304 : decode cL_law 1304 = .ok (.aload_n 0, 1) := by decide +kernel
theorem dL_law_1305 : decode cL_law 1305 = .ok (.iload 4, 2) := by decide +kernel
theorem dL_law_1307 : decode cL_law 1307 = .ok (.iconst 2, 1) := by decide +kernel
theorem dL_law_1308 : decode cL_law 1308 = .ok (.iadd, 1) := by decide +kernel
theorem dL_law_1309 : decode cL_law 1309 = .ok (.iaload, 1) := by decide +kernel
theorem dL_law_1310 : decode cL_law 1310 = .ok (.invokevirtual 159, 3) := by decide +kernel
theorem dL_law_1313 : decode cL_law 1313 = .ok (.aload_n 2, 1) := by decide +kernel
theorem dL_law_1314 : decode cL_law 1314 = .ok (.aload_n 0, 1) := by decide +kernel
theorem dL_law_1315 : decode cL_law 1315 = .ok (.iload 4, 2) := by decide +kernel
theorem dL_law_1317 : decode cL_law 1317 = .ok (.iconst 1, 1) := by decide +kernel
theorem dL_law_1318 : decode cL_law 1318 = .ok (.iadd, 1) := by decide +kernel
theorem dL_law_1319 : decode cL_law 1319 = .ok (.iaload, 1) := by decide +kernel
theorem dL_law_1320 : decode cL_law 1320 = .ok (.aload_n 0, 1) := by decide +kernel
theorem dL_law_1321 : decode cL_law 1321 = .ok (.iload 4, 2) := by decide +kernel
theorem dL_law_1323 : decode cL_law 1323 = .ok (.iconst 2, 1) := by decide +kernel
theorem dL_law_1324 : decode cL_law 1324 = .ok (.iadd, 1) := by decide +kernel
theorem dL_law_1325 : decode cL_law 1325 = .ok (.iaload, 1) := by decide +kernel
theorem dL_law_1326 : decode cL_law 1326 = .ok (.invokevirtual 162, 3) := by decide +kernel
theorem dL_law_1329 : decode cL_law 1329 = .ok (.if_icmp .eq 118, 3) := by decide +kernel
theorem dL_law_1332 : decode cL_law 1332 = .ok (.iconst 0, 1) := by decide +kernel
theorem dL_law_1333 : decode cL_law 1333 = .ok (.ireturn, 1) := by decide +kernel
theorem dL_law_1334 : decode cL_law 1334 = .ok (.aload_n 1, 1) := by decide +kernel
theorem dL_law_1335 : decode cL_law 1335 = .ok (.invokevirtual 163, 3) := by decide +kernel
theorem dL_law_1338 : decode cL_law 1338 = .ok (.aload_n 2, 1) := by decide +kernel
theorem dL_law_1339 : decode cL_law 1339 = .ok (.invokevirtual 166, 3) := by decide +kernel
theorem dL_law_1342 : decode cL_law 1342 = .ok (.if_icmp .eq 105, 3) := by decide +kernel
theorem dL_law_1345 : decode cL_law 1345 = .ok (.iconst 0, 1) := by decide +kernel
theorem dL_law_1346 : decode cL_law 1346 = .ok (.ireturn, 1) := by decide +kernel
theorem dL_law_1347 : decode cL_law 1347 = .ok (.aload_n 1, 1) := by decide +kernel
theorem dL_law_1348 : decode cL_law 1348 = .ok (.aload_n 0, 1) := by decide +kernel
theorem dL_law_1349 : decode cL_law 1349 = .ok (.iload 4, 2) := by decide +kernel
theorem dL_law_1351 : decode cL_law 1351 = .ok (.iconst 1, 1) := by decide +kernel
theorem dL_law_1352 : decode cL_law 1352 = .ok (.iadd, 1) := by decide +kernel
theorem dL_law_1353 : decode cL_law 1353 = .ok (.iaload, 1) := by decide +kernel
theorem dL_law_1354 : decode cL_law 1354 = .ok (.invokevirtual 167, 3) := by decide +kernel
theorem dL_law_1357 : decode cL_law 1357 = .ok (.aload_n 2, 1) := by decide +kernel
theorem dL_law_1358 : decode cL_law 1358 = .ok (.aload_n 0, 1) := by decide +kernel
theorem dL_law_1359 : decode cL_law 1359 = .ok (.iload 4, 2) := by decide +kernel
theorem dL_law_1361 : decode cL_law 1361 = .ok (.iconst 1, 1) := by decide +kernel
theorem dL_law_1362 : decode cL_law 1362 = .ok (.iadd, 1) := by decide +kernel
theorem dL_law_1363 : decode cL_law 1363 = .ok (.iaload, 1) := by decide +kernel
theorem dL_law_1364 : decode cL_law 1364 = .ok (.invokevirtual 170, 3) := by decide +kernel
theorem dL_law_1367 : decode cL_law 1367 = .ok (.if_icmp .eq 80, 3) := by decide +kernel
theorem dL_law_1370 : decode cL_law 1370 = .ok (.iconst 0, 1) := by decide +kernel
theorem dL_law_1371 : decode cL_law 1371 = .ok (.ireturn, 1) := by decide +kernel
theorem dL_law_1372 : decode cL_law 1372 = .ok (.aload_n 1, 1) := by decide +kernel
theorem dL_law_1373 : decode cL_law 1373 = .ok (.aload_n 0, 1) := by decide +kernel
theorem dL_law_1374 : decode cL_law 1374 = .ok (.iload 4, 2) := by decide +kernel
theorem dL_law_1376 : decode cL_law 1376 = .ok (.iconst 1, 1) := by decide +kernel
theorem dL_law_1377 : decode cL_law 1377 = .ok (.iadd, 1) := by decide +kernel
theorem dL_law_1378 : decode cL_law 1378 = .ok (.iaload, 1) := by decide +kernel
theorem dL_law_1379 : decode cL_law 1379 = .ok (.invokevirtual 171, 3) := by decide +kernel
theorem dL_law_1382 : decode cL_law 1382 = .ok (.aload_n 2, 1) := by decide +kernel
theorem dL_law_1383 : decode cL_law 1383 = .ok (.aload_n 0, 1) := by decide +kernel
theorem dL_law_1384 : decode cL_law 1384 = .ok (.iload 4, 2) := by decide +kernel
theorem dL_law_1386 : decode cL_law 1386 = .ok (.iconst 1, 1) := by decide +kernel
theorem dL_law_1387 : decode cL_law 1387 = .ok (.iadd, 1) := by decide +kernel
theorem dL_law_1388 : decode cL_law 1388 = .ok (.iaload, 1) := by decide +kernel
theorem dL_law_1389 : decode cL_law 1389 = .ok (.invokevirtual 174, 3) := by decide +kernel
theorem dL_law_1392 : decode cL_law 1392 = .ok (.if_icmp .eq 55, 3) := by decide +kernel
theorem dL_law_1395 : decode cL_law 1395 = .ok (.iconst 0, 1) := by decide +kernel
theorem dL_law_1396 : decode cL_law 1396 = .ok (.ireturn, 1) := by decide +kernel
theorem dL_law_1397 : decode cL_law 1397 = .ok (.aload_n 1, 1) := by decide +kernel
theorem dL_law_1398 : decode cL_law 1398 = .ok (.aload_n 0, 1) := by decide +kernel
theorem dL_law_1399 : decode cL_law 1399 = .ok (.iload 4, 2) := by decide +kernel
theorem dL_law_1401 : decode cL_law 1401 = .ok (.iconst 1, 1) := by decide +kernel
theorem dL_law_1402 : decode cL_law 1402 = .ok (.iadd, 1) := by decide +kernel
theorem dL_law_1403 : decode cL_law 1403 = .ok (.iaload, 1) := by decide +kernel
theorem dL_law_1404 : decode cL_law 1404 = .ok (.invokevirtual 175, 3) := by decide +kernel
theorem dL_law_1407 : decode cL_law 1407 = .ok (.aload_n 2, 1) := by decide +kernel
theorem dL_law_1408 : decode cL_law 1408 = .ok (.aload_n 0, 1) := by decide +kernel
theorem dL_law_1409 : decode cL_law 1409 = .ok (.iload 4, 2) := by decide +kernel
theorem dL_law_1411 : decode cL_law 1411 = .ok (.iconst 1, 1) := by decide +kernel
theorem dL_law_1412 : decode cL_law 1412 = .ok (.iadd, 1) := by decide +kernel
theorem dL_law_1413 : decode cL_law 1413 = .ok (.iaload, 1) := by decide +kernel
theorem dL_law_1414 : decode cL_law 1414 = .ok (.invokevirtual 178, 3) := by decide +kernel
theorem dL_law_1417 : decode cL_law 1417 = .ok (.if_icmp .eq 30, 3) := by decide +kernel
theorem dL_law_1420 : decode cL_law 1420 = .ok (.iconst 0, 1) := by decide +kernel
theorem dL_law_1421 : decode cL_law 1421 = .ok (.ireturn, 1) := by decide +kernel
theorem dL_law_1422 : decode cL_law 1422 = .ok (.aload_n 1, 1) := by decide +kernel
theorem dL_law_1423 : decode cL_law 1423 = .ok (.aload_n 0, 1) := by decide +kernel
theorem dL_law_1424 : decode cL_law 1424 = .ok (.iload 4, 2) := by decide +kernel
theorem dL_law_1426 : decode cL_law 1426 = .ok (.iconst 1, 1) := by decide +kernel
theorem dL_law_1427 : decode cL_law 1427 = .ok (.iadd, 1) := by decide +kernel
theorem dL_law_1428 : decode cL_law 1428 = .ok (.iaload, 1) := by decide +kernel
theorem dL_law_1429 : decode cL_law 1429 = .ok (.invokevirtual 179, 3) := by decide +kernel
theorem dL_law_1432 : decode cL_law 1432 = .ok (.aload_n 2, 1) := by decide +kernel
theorem dL_law_1433 : decode cL_law 1433 = .ok (.aload_n 0, 1) := by decide +kernel
theorem dL_law_1434 : decode cL_law 1434 = .ok (.iload 4, 2) := by decide +kernel
theorem dL_law_1436 : decode cL_law 1436 = .ok (.iconst 1, 1) := by decide +kernel
theorem dL_law_1437 : decode cL_law 1437 = .ok (.iadd, 1) := by decide +kernel
theorem dL_law_1438 : decode cL_law 1438 = .ok (.iaload, 1) := by decide +kernel
theorem dL_law_1439 : decode cL_law 1439 = .ok (.invokevirtual 182, 3) := by decide +kernel
theorem dL_law_1442 : decode cL_law 1442 = .ok (.if_icmp .eq 5, 3) := by decide +kernel
theorem dL_law_1445 : decode cL_law 1445 = .ok (.iconst 0, 1) := by decide +kernel
theorem dL_law_1446 : decode cL_law 1446 = .ok (.ireturn, 1) := by decide +kernel
theorem dL_law_1447 : decode cL_law 1447 = .ok (.iinc 4 6, 3) := by decide +kernel
theorem dL_law_1450 : decode cL_law 1450 = .ok (.goto (-1427), 3) := by decide +kernel
theorem dL_law_1453 : decode cL_law 1453 = .ok (.iconst 1, 1) := by decide +kernel
theorem dL_law_1454 : decode cL_law 1454 = .ok (.ireturn, 1) := by decide +kernel
