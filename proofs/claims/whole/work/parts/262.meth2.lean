/-! DyerBells$River.copyFrom (this 4 now.river) -/
abbrev s_River_copyFrom : SI := (LX, RX3, cX3_copyFrom, 2, 2, none)
set_option maxRecDepth 20000 in
theorem t_River_copyFrom_0 {B C : Nat × FT} : fw_S s_River_copyFrom [(0, 6), (1, 39)] 0 (exS (clE m_Names_copyFrom [(thE (cE 0) (cE 0)), (thE (cE 0) (cE 0))])) (11, [(0, 6), (1, 39)]) B C := fs_callV (t := 0) (fa_cons (fe_getR (fe_aloadn 0 rfl dX3_copyFrom_0) fl_RX3_12 lx_4 rfl dX3_copyFrom_1) (fa_cons (fe_getR (fe_aloadn 1 rfl dX3_copyFrom_4) fl_RX3_12 lx_37 rfl dX3_copyFrom_5) fa_nil)) C_Names_copyFrom lv_RX3_79 lx_5 rfl rfl (by decide) (by decide) dX3_copyFrom_8 rfl
set_option maxRecDepth 20000 in
theorem t_River_copyFrom_1 {B C : Nat × FT} : fw_S s_River_copyFrom [(0, 6), (1, 39)] 11 (pfS 257 (cE 0) (thE (cE 0) (gE 2369))) (19, [(0, 6), (1, 39)]) B C := fs_put (fe_aloadn 0 rfl dX3_copyFrom_11) (fe_getI (fe_aloadn 1 rfl dX3_copyFrom_12) fl_RX3_64 lx_37 rfl dX3_copyFrom_13) fp_RX3_64 lx_4 rfl dX3_copyFrom_16 rfl
set_option maxRecDepth 20000 in
theorem t_River_copyFrom_2 {B C : Nat × FT} : fw_S s_River_copyFrom [(0, 6), (1, 39)] 19 (cpS 2688 10 576 10 [(thE (cE 0) (cE 0)), (cE 0), (thE (cE 0) (cE 0)), (cE 0), (cE 10)]) (34, [(0, 6), (1, 39)]) B C := fs_cpy (fa_cons (fe_getR (fe_aloadn 1 rfl dX3_copyFrom_19) fl_RX3_18 lx_37 rfl dX3_copyFrom_20) (fa_cons (fe_iconst dX3_copyFrom_23) (fa_cons (fe_getR (fe_aloadn 0 rfl dX3_copyFrom_24) fl_RX3_18 lx_4 rfl dX3_copyFrom_25) (fa_cons (fe_iconst dX3_copyFrom_28) (fa_cons (fe_bipush dX3_copyFrom_29) fa_nil))))) lx_42 lx_9 ac_RX3_83 (by decide) dX3_copyFrom_31 rfl
set_option maxRecDepth 20000 in
theorem t_River_copyFrom_3 {B C : Nat × FT} : fw_S s_River_copyFrom [(0, 6), (1, 39)] 34 (cpS 2752 10 640 10 [(thE (cE 0) (cE 0)), (cE 0), (thE (cE 0) (cE 0)), (cE 0), (cE 10)]) (49, [(0, 6), (1, 39)]) B C := fs_cpy (fa_cons (fe_getR (fe_aloadn 1 rfl dX3_copyFrom_34) fl_RX3_22 lx_37 rfl dX3_copyFrom_35) (fa_cons (fe_iconst dX3_copyFrom_38) (fa_cons (fe_getR (fe_aloadn 0 rfl dX3_copyFrom_39) fl_RX3_22 lx_4 rfl dX3_copyFrom_40) (fa_cons (fe_iconst dX3_copyFrom_43) (fa_cons (fe_bipush dX3_copyFrom_44) fa_nil))))) lx_43 lx_10 ac_RX3_83 (by decide) dX3_copyFrom_46 rfl
set_option maxRecDepth 20000 in
theorem t_River_copyFrom_4 {B C : Nat × FT} : fw_S s_River_copyFrom [(0, 6), (1, 39)] 49 (pfS 260 (cE 0) (thE (cE 0) (gE 2372))) (57, [(0, 6), (1, 39)]) B C := fs_put (fe_aloadn 0 rfl dX3_copyFrom_49) (fe_getI (fe_aloadn 1 rfl dX3_copyFrom_50) fl_RX3_67 lx_37 rfl dX3_copyFrom_51) fp_RX3_67 lx_4 rfl dX3_copyFrom_54 rfl
set_option maxRecDepth 20000 in
theorem t_River_copyFrom_5 {B C : Nat × FT} : fw_S s_River_copyFrom [(0, 6), (1, 39)] 57 (pfS 261 (cE 0) (thE (cE 0) (gE 2373))) (65, [(0, 6), (1, 39)]) B C := fs_put (fe_aloadn 0 rfl dX3_copyFrom_57) (fe_getI (fe_aloadn 1 rfl dX3_copyFrom_58) fl_RX3_70 lx_37 rfl dX3_copyFrom_59) fp_RX3_70 lx_4 rfl dX3_copyFrom_62 rfl
set_option maxRecDepth 20000 in
theorem t_River_copyFrom_6 {B C : Nat × FT} : fw_S s_River_copyFrom [(0, 6), (1, 39)] 65 (cpS 2816 6 704 6 [(thE (cE 0) (cE 0)), (cE 0), (thE (cE 0) (cE 0)), (cE 0), (cE 6)]) (80, [(0, 6), (1, 39)]) B C := fs_cpy (fa_cons (fe_getR (fe_aloadn 1 rfl dX3_copyFrom_65) fl_RX3_25 lx_37 rfl dX3_copyFrom_66) (fa_cons (fe_iconst dX3_copyFrom_69) (fa_cons (fe_getR (fe_aloadn 0 rfl dX3_copyFrom_70) fl_RX3_25 lx_4 rfl dX3_copyFrom_71) (fa_cons (fe_iconst dX3_copyFrom_74) (fa_cons (fe_bipush dX3_copyFrom_75) fa_nil))))) lx_44 lx_11 ac_RX3_83 (by decide) dX3_copyFrom_77 rfl
set_option maxRecDepth 20000 in
theorem t_River_copyFrom_7 {B C : Nat × FT} : fw_S s_River_copyFrom [(0, 6), (1, 39)] 80 (cpS 2880 6 768 6 [(thE (cE 0) (cE 0)), (cE 0), (thE (cE 0) (cE 0)), (cE 0), (cE 6)]) (95, [(0, 6), (1, 39)]) B C := fs_cpy (fa_cons (fe_getR (fe_aloadn 1 rfl dX3_copyFrom_80) fl_RX3_28 lx_37 rfl dX3_copyFrom_81) (fa_cons (fe_iconst dX3_copyFrom_84) (fa_cons (fe_getR (fe_aloadn 0 rfl dX3_copyFrom_85) fl_RX3_28 lx_4 rfl dX3_copyFrom_86) (fa_cons (fe_iconst dX3_copyFrom_89) (fa_cons (fe_bipush dX3_copyFrom_90) fa_nil))))) lx_45 lx_12 ac_RX3_83 (by decide) dX3_copyFrom_92 rfl
set_option maxRecDepth 20000 in
theorem t_River_copyFrom_8 {B C : Nat × FT} : fw_S s_River_copyFrom [(0, 6), (1, 39)] 95 (cpS 2944 24 832 24 [(thE (cE 0) (cE 0)), (cE 0), (thE (cE 0) (cE 0)), (cE 0), (cE 24)]) (110, [(0, 6), (1, 39)]) B C := fs_cpy (fa_cons (fe_getR (fe_aloadn 1 rfl dX3_copyFrom_95) fl_RX3_31 lx_37 rfl dX3_copyFrom_96) (fa_cons (fe_iconst dX3_copyFrom_99) (fa_cons (fe_getR (fe_aloadn 0 rfl dX3_copyFrom_100) fl_RX3_31 lx_4 rfl dX3_copyFrom_101) (fa_cons (fe_iconst dX3_copyFrom_104) (fa_cons (fe_bipush dX3_copyFrom_105) fa_nil))))) lx_46 lx_13 ac_RX3_83 (by decide) dX3_copyFrom_107 rfl
set_option maxRecDepth 20000 in
theorem t_River_copyFrom_9 {B C : Nat × FT} : fw_S s_River_copyFrom [(0, 6), (1, 39)] 110 (pfS 265 (cE 0) (thE (cE 0) (gE 2377))) (118, [(0, 6), (1, 39)]) B C := fs_put (fe_aloadn 0 rfl dX3_copyFrom_110) (fe_getI (fe_aloadn 1 rfl dX3_copyFrom_111) fl_RX3_73 lx_37 rfl dX3_copyFrom_112) fp_RX3_73 lx_4 rfl dX3_copyFrom_115 rfl
set_option maxRecDepth 20000 in
theorem t_River_copyFrom_10 {B C : Nat × FT} : fw_S s_River_copyFrom [(0, 6), (1, 39)] 118 (cpS 3008 6 896 6 [(thE (cE 0) (cE 0)), (cE 0), (thE (cE 0) (cE 0)), (cE 0), (cE 6)]) (133, [(0, 6), (1, 39)]) B C := fs_cpy (fa_cons (fe_getR (fe_aloadn 1 rfl dX3_copyFrom_118) fl_RX3_34 lx_37 rfl dX3_copyFrom_119) (fa_cons (fe_iconst dX3_copyFrom_122) (fa_cons (fe_getR (fe_aloadn 0 rfl dX3_copyFrom_123) fl_RX3_34 lx_4 rfl dX3_copyFrom_124) (fa_cons (fe_iconst dX3_copyFrom_127) (fa_cons (fe_bipush dX3_copyFrom_128) fa_nil))))) lx_47 lx_14 ac_RX3_83 (by decide) dX3_copyFrom_130 rfl
set_option maxRecDepth 20000 in
theorem t_River_copyFrom_11 {B C : Nat × FT} : fw_S s_River_copyFrom [(0, 6), (1, 39)] 133 (cpS 3072 6 960 6 [(thE (cE 0) (cE 0)), (cE 0), (thE (cE 0) (cE 0)), (cE 0), (cE 6)]) (148, [(0, 6), (1, 39)]) B C := fs_cpy (fa_cons (fe_getR (fe_aloadn 1 rfl dX3_copyFrom_133) fl_RX3_37 lx_37 rfl dX3_copyFrom_134) (fa_cons (fe_iconst dX3_copyFrom_137) (fa_cons (fe_getR (fe_aloadn 0 rfl dX3_copyFrom_138) fl_RX3_37 lx_4 rfl dX3_copyFrom_139) (fa_cons (fe_iconst dX3_copyFrom_142) (fa_cons (fe_bipush dX3_copyFrom_143) fa_nil))))) lx_48 lx_15 ac_RX3_83 (by decide) dX3_copyFrom_145 rfl
set_option maxRecDepth 20000 in
theorem t_River_copyFrom_12 {B C : Nat × FT} : fw_S s_River_copyFrom [(0, 6), (1, 39)] 148 (cpS 3136 6 1024 6 [(thE (cE 0) (cE 0)), (cE 0), (thE (cE 0) (cE 0)), (cE 0), (cE 6)]) (163, [(0, 6), (1, 39)]) B C := fs_cpy (fa_cons (fe_getR (fe_aloadn 1 rfl dX3_copyFrom_148) fl_RX3_40 lx_37 rfl dX3_copyFrom_149) (fa_cons (fe_iconst dX3_copyFrom_152) (fa_cons (fe_getR (fe_aloadn 0 rfl dX3_copyFrom_153) fl_RX3_40 lx_4 rfl dX3_copyFrom_154) (fa_cons (fe_iconst dX3_copyFrom_157) (fa_cons (fe_bipush dX3_copyFrom_158) fa_nil))))) lx_49 lx_16 ac_RX3_83 (by decide) dX3_copyFrom_160 rfl
set_option maxRecDepth 20000 in
theorem t_River_copyFrom_13 {B C : Nat × FT} : fw_S s_River_copyFrom [(0, 6), (1, 39)] 163 (cpS 3200 24 1088 24 [(thE (cE 0) (cE 0)), (cE 0), (thE (cE 0) (cE 0)), (cE 0), (cE 24)]) (178, [(0, 6), (1, 39)]) B C := fs_cpy (fa_cons (fe_getR (fe_aloadn 1 rfl dX3_copyFrom_163) fl_RX3_43 lx_37 rfl dX3_copyFrom_164) (fa_cons (fe_iconst dX3_copyFrom_167) (fa_cons (fe_getR (fe_aloadn 0 rfl dX3_copyFrom_168) fl_RX3_43 lx_4 rfl dX3_copyFrom_169) (fa_cons (fe_iconst dX3_copyFrom_172) (fa_cons (fe_bipush dX3_copyFrom_173) fa_nil))))) lx_50 lx_17 ac_RX3_83 (by decide) dX3_copyFrom_175 rfl
set_option maxRecDepth 20000 in
theorem t_River_copyFrom_14 {B C : Nat × FT} : fw_S s_River_copyFrom [(0, 6), (1, 39)] 178 (cpS 3264 7 1152 7 [(thE (cE 0) (cE 0)), (cE 0), (thE (cE 0) (cE 0)), (cE 0), (cE 7)]) (193, [(0, 6), (1, 39)]) B C := fs_cpy (fa_cons (fe_getR (fe_aloadn 1 rfl dX3_copyFrom_178) fl_RX3_46 lx_37 rfl dX3_copyFrom_179) (fa_cons (fe_iconst dX3_copyFrom_182) (fa_cons (fe_getR (fe_aloadn 0 rfl dX3_copyFrom_183) fl_RX3_46 lx_4 rfl dX3_copyFrom_184) (fa_cons (fe_iconst dX3_copyFrom_187) (fa_cons (fe_bipush dX3_copyFrom_188) fa_nil))))) lx_51 lx_18 ac_RX3_83 (by decide) dX3_copyFrom_190 rfl
set_option maxRecDepth 20000 in
theorem t_River_copyFrom_15 {B C : Nat × FT} : fw_S s_River_copyFrom [(0, 6), (1, 39)] 193 (pfS 271 (cE 0) (thE (cE 0) (gE 2383))) (201, [(0, 6), (1, 39)]) B C := fs_put (fe_aloadn 0 rfl dX3_copyFrom_193) (fe_getI (fe_aloadn 1 rfl dX3_copyFrom_194) fl_RX3_49 lx_37 rfl dX3_copyFrom_195) fp_RX3_49 lx_4 rfl dX3_copyFrom_198 rfl
set_option maxRecDepth 20000 in
theorem t_River_copyFrom_16 {B C : Nat × FT} : fw_S s_River_copyFrom [(0, 6), (1, 39)] 201 (pfS 272 (cE 0) (thE (cE 0) (gE 2384))) (209, [(0, 6), (1, 39)]) B C := fs_put (fe_aloadn 0 rfl dX3_copyFrom_201) (fe_getI (fe_aloadn 1 rfl dX3_copyFrom_202) fl_RX3_76 lx_37 rfl dX3_copyFrom_203) fp_RX3_76 lx_4 rfl dX3_copyFrom_206 rfl
set_option maxRecDepth 20000 in
theorem t_River_copyFrom_17 {B C : Nat × FT} : fw_S s_River_copyFrom [(0, 6), (1, 39)] 209 (cpS 3328 12 1216 12 [(thE (cE 0) (cE 0)), (cE 0), (thE (cE 0) (cE 0)), (cE 0), (cE 12)]) (224, [(0, 6), (1, 39)]) B C := fs_cpy (fa_cons (fe_getR (fe_aloadn 1 rfl dX3_copyFrom_209) fl_RX3_53 lx_37 rfl dX3_copyFrom_210) (fa_cons (fe_iconst dX3_copyFrom_213) (fa_cons (fe_getR (fe_aloadn 0 rfl dX3_copyFrom_214) fl_RX3_53 lx_4 rfl dX3_copyFrom_215) (fa_cons (fe_iconst dX3_copyFrom_218) (fa_cons (fe_bipush dX3_copyFrom_219) fa_nil))))) lx_52 lx_19 ac_RX3_83 (by decide) dX3_copyFrom_221 rfl
set_option maxRecDepth 20000 in
theorem t_River_copyFrom_18 {B C : Nat × FT} : fw_S s_River_copyFrom [(0, 6), (1, 39)] 224 (cpS 3392 12 1280 12 [(thE (cE 0) (cE 0)), (cE 0), (thE (cE 0) (cE 0)), (cE 0), (cE 12)]) (239, [(0, 6), (1, 39)]) B C := fs_cpy (fa_cons (fe_getR (fe_aloadn 1 rfl dX3_copyFrom_224) fl_RX3_56 lx_37 rfl dX3_copyFrom_225) (fa_cons (fe_iconst dX3_copyFrom_228) (fa_cons (fe_getR (fe_aloadn 0 rfl dX3_copyFrom_229) fl_RX3_56 lx_4 rfl dX3_copyFrom_230) (fa_cons (fe_iconst dX3_copyFrom_233) (fa_cons (fe_bipush dX3_copyFrom_234) fa_nil))))) lx_53 lx_20 ac_RX3_83 (by decide) dX3_copyFrom_236 rfl
set_option maxRecDepth 20000 in
theorem t_River_copyFrom_19 {B C : Nat × FT} : fw_S s_River_copyFrom [(0, 6), (1, 39)] 239 (cpS 3456 12 1344 12 [(thE (cE 0) (cE 0)), (cE 0), (thE (cE 0) (cE 0)), (cE 0), (cE 12)]) (254, [(0, 6), (1, 39)]) B C := fs_cpy (fa_cons (fe_getR (fe_aloadn 1 rfl dX3_copyFrom_239) fl_RX3_59 lx_37 rfl dX3_copyFrom_240) (fa_cons (fe_iconst dX3_copyFrom_243) (fa_cons (fe_getR (fe_aloadn 0 rfl dX3_copyFrom_244) fl_RX3_59 lx_4 rfl dX3_copyFrom_245) (fa_cons (fe_iconst dX3_copyFrom_248) (fa_cons (fe_bipush dX3_copyFrom_249) fa_nil))))) lx_54 lx_21 ac_RX3_83 (by decide) dX3_copyFrom_251 rfl
set_option maxRecDepth 20000 in
theorem t_River_copyFrom_20 {N B C : Nat × FT} : fw_S s_River_copyFrom [(0, 6), (1, 39)] 254 rvS N B C := fs_rv dX3_copyFrom_254
set_option maxRecDepth 20000 in
theorem C_River_copyFrom : fw_C LX yX3_copyFrom cX3_copyFrom 2 none 2 [6, 39] (none) m_River_copyFrom := fm_v (d := 2) (N := (0, [])) (B := (0, [])) (C := (0, [])) LX_ok (by decide +kernel) (show fw_S s_River_copyFrom _ 0 b_River_copyFrom _ _ _ from (fs_seq t_River_copyFrom_0 (fs_seq t_River_copyFrom_1 (fs_seq t_River_copyFrom_2 (fs_seq t_River_copyFrom_3 (fs_seq t_River_copyFrom_4 (fs_seq t_River_copyFrom_5 (fs_seq t_River_copyFrom_6 (fs_seq t_River_copyFrom_7 (fs_seq t_River_copyFrom_8 (fs_seq t_River_copyFrom_9 (fs_seq t_River_copyFrom_10 (fs_seq t_River_copyFrom_11 (fs_seq t_River_copyFrom_12 (fs_seq t_River_copyFrom_13 (fs_seq t_River_copyFrom_14 (fs_seq t_River_copyFrom_15 (fs_seq t_River_copyFrom_16 (fs_seq t_River_copyFrom_17 (fs_seq t_River_copyFrom_18 (fs_seq t_River_copyFrom_19 t_River_copyFrom_20))))))))))))))))))))) (by decide)
/-! DyerBells$Order.copyFrom (this 22 now.order) -/
abbrev s_Order_copyFrom : SI := (LX, RX1, cX1_copyFrom, 2, 1, none)
set_option maxRecDepth 20000 in
theorem t_Order_copyFrom_0 {B C : Nat × FT} : fw_S s_Order_copyFrom [(0, 24), (1, 57)] 0 (pfS 1408 (cE 0) (thE (cE 0) (gE 3520))) (8, [(0, 24), (1, 57)]) B C := fs_put (fe_aloadn 0 rfl dX1_copyFrom_0) (fe_getI (fe_aloadn 1 rfl dX1_copyFrom_1) fl_RX1_21 lx_55 rfl dX1_copyFrom_2) fp_RX1_21 lx_22 rfl dX1_copyFrom_5 rfl
set_option maxRecDepth 20000 in
theorem t_Order_copyFrom_1 {B C : Nat × FT} : fw_S s_Order_copyFrom [(0, 24), (1, 57)] 8 (cpS 3584 40 1472 40 [(thE (cE 0) (cE 0)), (cE 0), (thE (cE 0) (cE 0)), (cE 0), (cE 40)]) (23, [(0, 24), (1, 57)]) B C := fs_cpy (fa_cons (fe_getR (fe_aloadn 1 rfl dX1_copyFrom_8) fl_RX1_9 lx_55 rfl dX1_copyFrom_9) (fa_cons (fe_iconst dX1_copyFrom_12) (fa_cons (fe_getR (fe_aloadn 0 rfl dX1_copyFrom_13) fl_RX1_9 lx_22 rfl dX1_copyFrom_14) (fa_cons (fe_iconst dX1_copyFrom_17) (fa_cons (fe_bipush dX1_copyFrom_18) fa_nil))))) lx_56 lx_23 ac_RX1_25 (by decide) dX1_copyFrom_20 rfl
set_option maxRecDepth 20000 in
theorem t_Order_copyFrom_2 {B C : Nat × FT} : fw_S s_Order_copyFrom [(0, 24), (1, 57)] 23 (cpS 3648 40 1536 40 [(thE (cE 0) (cE 0)), (cE 0), (thE (cE 0) (cE 0)), (cE 0), (cE 40)]) (38, [(0, 24), (1, 57)]) B C := fs_cpy (fa_cons (fe_getR (fe_aloadn 1 rfl dX1_copyFrom_23) fl_RX1_15 lx_55 rfl dX1_copyFrom_24) (fa_cons (fe_iconst dX1_copyFrom_27) (fa_cons (fe_getR (fe_aloadn 0 rfl dX1_copyFrom_28) fl_RX1_15 lx_22 rfl dX1_copyFrom_29) (fa_cons (fe_iconst dX1_copyFrom_32) (fa_cons (fe_bipush dX1_copyFrom_33) fa_nil))))) lx_57 lx_24 ac_RX1_25 (by decide) dX1_copyFrom_35 rfl
set_option maxRecDepth 20000 in
theorem t_Order_copyFrom_3 {B C : Nat × FT} : fw_S s_Order_copyFrom [(0, 24), (1, 57)] 38 (cpS 3712 40 1600 40 [(thE (cE 0) (cE 0)), (cE 0), (thE (cE 0) (cE 0)), (cE 0), (cE 40)]) (53, [(0, 24), (1, 57)]) B C := fs_cpy (fa_cons (fe_getR (fe_aloadn 1 rfl dX1_copyFrom_38) fl_RX1_18 lx_55 rfl dX1_copyFrom_39) (fa_cons (fe_iconst dX1_copyFrom_42) (fa_cons (fe_getR (fe_aloadn 0 rfl dX1_copyFrom_43) fl_RX1_18 lx_22 rfl dX1_copyFrom_44) (fa_cons (fe_iconst dX1_copyFrom_47) (fa_cons (fe_bipush dX1_copyFrom_48) fa_nil))))) lx_58 lx_25 ac_RX1_25 (by decide) dX1_copyFrom_50 rfl
set_option maxRecDepth 20000 in
theorem t_Order_copyFrom_4 {N B C : Nat × FT} : fw_S s_Order_copyFrom [(0, 24), (1, 57)] 53 rvS N B C := fs_rv dX1_copyFrom_53
set_option maxRecDepth 20000 in
theorem C_Order_copyFrom : fw_C LX yX1_copyFrom cX1_copyFrom 2 none 1 [24, 57] (none) m_Order_copyFrom := fm_v (d := 1) (N := (0, [])) (B := (0, [])) (C := (0, [])) LX_ok (by decide +kernel) (show fw_S s_Order_copyFrom _ 0 b_Order_copyFrom _ _ _ from (fs_seq t_Order_copyFrom_0 (fs_seq t_Order_copyFrom_1 (fs_seq t_Order_copyFrom_2 (fs_seq t_Order_copyFrom_3 t_Order_copyFrom_4))))) (by decide)
/-! DyerBells$Sights.copyFrom (this 26 now.sights) -/
abbrev s_Sights_copyFrom : SI := (LX, RX8, cX8_copyFrom, 2, 1, none)
set_option maxRecDepth 20000 in
theorem t_Sights_copyFrom_0 {B C : Nat × FT} : fw_S s_Sights_copyFrom [(0, 28), (1, 61)] 0 (pfS 1664 (cE 0) (thE (cE 0) (gE 3776))) (8, [(0, 28), (1, 61)]) B C := fs_put (fe_aloadn 0 rfl dX8_copyFrom_0) (fe_getI (fe_aloadn 1 rfl dX8_copyFrom_1) fl_RX8_21 lx_59 rfl dX8_copyFrom_2) fp_RX8_21 lx_26 rfl dX8_copyFrom_5 rfl
set_option maxRecDepth 20000 in
theorem t_Sights_copyFrom_1 {B C : Nat × FT} : fw_S s_Sights_copyFrom [(0, 28), (1, 61)] 8 (cpS 3840 20 1728 20 [(thE (cE 0) (cE 0)), (cE 0), (thE (cE 0) (cE 0)), (cE 0), (cE 20)]) (23, [(0, 28), (1, 61)]) B C := fs_cpy (fa_cons (fe_getR (fe_aloadn 1 rfl dX8_copyFrom_8) fl_RX8_9 lx_59 rfl dX8_copyFrom_9) (fa_cons (fe_iconst dX8_copyFrom_12) (fa_cons (fe_getR (fe_aloadn 0 rfl dX8_copyFrom_13) fl_RX8_9 lx_26 rfl dX8_copyFrom_14) (fa_cons (fe_iconst dX8_copyFrom_17) (fa_cons (fe_bipush dX8_copyFrom_18) fa_nil))))) lx_60 lx_27 ac_RX8_25 (by decide) dX8_copyFrom_20 rfl
set_option maxRecDepth 20000 in
theorem t_Sights_copyFrom_2 {B C : Nat × FT} : fw_S s_Sights_copyFrom [(0, 28), (1, 61)] 23 (cpS 3904 20 1792 20 [(thE (cE 0) (cE 0)), (cE 0), (thE (cE 0) (cE 0)), (cE 0), (cE 20)]) (38, [(0, 28), (1, 61)]) B C := fs_cpy (fa_cons (fe_getR (fe_aloadn 1 rfl dX8_copyFrom_23) fl_RX8_15 lx_59 rfl dX8_copyFrom_24) (fa_cons (fe_iconst dX8_copyFrom_27) (fa_cons (fe_getR (fe_aloadn 0 rfl dX8_copyFrom_28) fl_RX8_15 lx_26 rfl dX8_copyFrom_29) (fa_cons (fe_iconst dX8_copyFrom_32) (fa_cons (fe_bipush dX8_copyFrom_33) fa_nil))))) lx_61 lx_28 ac_RX8_25 (by decide) dX8_copyFrom_35 rfl
set_option maxRecDepth 20000 in
theorem t_Sights_copyFrom_3 {B C : Nat × FT} : fw_S s_Sights_copyFrom [(0, 28), (1, 61)] 38 (cpS 3968 20 1856 20 [(thE (cE 0) (cE 0)), (cE 0), (thE (cE 0) (cE 0)), (cE 0), (cE 20)]) (53, [(0, 28), (1, 61)]) B C := fs_cpy (fa_cons (fe_getR (fe_aloadn 1 rfl dX8_copyFrom_38) fl_RX8_18 lx_59 rfl dX8_copyFrom_39) (fa_cons (fe_iconst dX8_copyFrom_42) (fa_cons (fe_getR (fe_aloadn 0 rfl dX8_copyFrom_43) fl_RX8_18 lx_26 rfl dX8_copyFrom_44) (fa_cons (fe_iconst dX8_copyFrom_47) (fa_cons (fe_bipush dX8_copyFrom_48) fa_nil))))) lx_62 lx_29 ac_RX8_25 (by decide) dX8_copyFrom_50 rfl
set_option maxRecDepth 20000 in
theorem t_Sights_copyFrom_4 {N B C : Nat × FT} : fw_S s_Sights_copyFrom [(0, 28), (1, 61)] 53 rvS N B C := fs_rv dX8_copyFrom_53
set_option maxRecDepth 20000 in
theorem C_Sights_copyFrom : fw_C LX yX8_copyFrom cX8_copyFrom 2 none 1 [28, 61] (none) m_Sights_copyFrom := fm_v (d := 1) (N := (0, [])) (B := (0, [])) (C := (0, [])) LX_ok (by decide +kernel) (show fw_S s_Sights_copyFrom _ 0 b_Sights_copyFrom _ _ _ from (fs_seq t_Sights_copyFrom_0 (fs_seq t_Sights_copyFrom_1 (fs_seq t_Sights_copyFrom_2 (fs_seq t_Sights_copyFrom_3 t_Sights_copyFrom_4))))) (by decide)
/-! DyerBells$Sentence.copyFrom (this 30 now.sentence) -/
abbrev s_Sentence_copyFrom : SI := (LX, RX6, cX6_copyFrom, 2, 1, none)
set_option maxRecDepth 20000 in
theorem t_Sentence_copyFrom_0 {B C : Nat × FT} : fw_S s_Sentence_copyFrom [(0, 32), (1, 65)] 0 (pfS 1920 (cE 0) (thE (cE 0) (gE 4032))) (8, [(0, 32), (1, 65)]) B C := fs_put (fe_aloadn 0 rfl dX6_copyFrom_0) (fe_getI (fe_aloadn 1 rfl dX6_copyFrom_1) fl_RX6_27 lx_63 rfl dX6_copyFrom_2) fp_RX6_27 lx_30 rfl dX6_copyFrom_5 rfl
set_option maxRecDepth 20000 in
theorem t_Sentence_copyFrom_1 {B C : Nat × FT} : fw_S s_Sentence_copyFrom [(0, 32), (1, 65)] 8 (pfS 1921 (cE 0) (thE (cE 0) (gE 4033))) (16, [(0, 32), (1, 65)]) B C := fs_put (fe_aloadn 0 rfl dX6_copyFrom_8) (fe_getI (fe_aloadn 1 rfl dX6_copyFrom_9) fl_RX6_31 lx_63 rfl dX6_copyFrom_10) fp_RX6_31 lx_30 rfl dX6_copyFrom_13 rfl
set_option maxRecDepth 20000 in
theorem t_Sentence_copyFrom_2 {B C : Nat × FT} : fw_S s_Sentence_copyFrom [(0, 32), (1, 65)] 16 (cpS 4096 40 1984 40 [(thE (cE 0) (cE 0)), (cE 0), (thE (cE 0) (cE 0)), (cE 0), (cE 40)]) (31, [(0, 32), (1, 65)]) B C := fs_cpy (fa_cons (fe_getR (fe_aloadn 1 rfl dX6_copyFrom_16) fl_RX6_11 lx_63 rfl dX6_copyFrom_17) (fa_cons (fe_iconst dX6_copyFrom_20) (fa_cons (fe_getR (fe_aloadn 0 rfl dX6_copyFrom_21) fl_RX6_11 lx_30 rfl dX6_copyFrom_22) (fa_cons (fe_iconst dX6_copyFrom_25) (fa_cons (fe_bipush dX6_copyFrom_26) fa_nil))))) lx_64 lx_31 ac_RX6_34 (by decide) dX6_copyFrom_28 rfl
set_option maxRecDepth 20000 in
theorem t_Sentence_copyFrom_3 {B C : Nat × FT} : fw_S s_Sentence_copyFrom [(0, 32), (1, 65)] 31 (cpS 4160 40 2048 40 [(thE (cE 0) (cE 0)), (cE 0), (thE (cE 0) (cE 0)), (cE 0), (cE 40)]) (46, [(0, 32), (1, 65)]) B C := fs_cpy (fa_cons (fe_getR (fe_aloadn 1 rfl dX6_copyFrom_31) fl_RX6_15 lx_63 rfl dX6_copyFrom_32) (fa_cons (fe_iconst dX6_copyFrom_35) (fa_cons (fe_getR (fe_aloadn 0 rfl dX6_copyFrom_36) fl_RX6_15 lx_30 rfl dX6_copyFrom_37) (fa_cons (fe_iconst dX6_copyFrom_40) (fa_cons (fe_bipush dX6_copyFrom_41) fa_nil))))) lx_65 lx_32 ac_RX6_34 (by decide) dX6_copyFrom_43 rfl
set_option maxRecDepth 20000 in
theorem t_Sentence_copyFrom_4 {B C : Nat × FT} : fw_S s_Sentence_copyFrom [(0, 32), (1, 65)] 46 (cpS 4224 40 2112 40 [(thE (cE 0) (cE 0)), (cE 0), (thE (cE 0) (cE 0)), (cE 0), (cE 40)]) (61, [(0, 32), (1, 65)]) B C := fs_cpy (fa_cons (fe_getR (fe_aloadn 1 rfl dX6_copyFrom_46) fl_RX6_18 lx_63 rfl dX6_copyFrom_47) (fa_cons (fe_iconst dX6_copyFrom_50) (fa_cons (fe_getR (fe_aloadn 0 rfl dX6_copyFrom_51) fl_RX6_18 lx_30 rfl dX6_copyFrom_52) (fa_cons (fe_iconst dX6_copyFrom_55) (fa_cons (fe_bipush dX6_copyFrom_56) fa_nil))))) lx_66 lx_33 ac_RX6_34 (by decide) dX6_copyFrom_58 rfl
set_option maxRecDepth 20000 in
theorem t_Sentence_copyFrom_5 {B C : Nat × FT} : fw_S s_Sentence_copyFrom [(0, 32), (1, 65)] 61 (cpS 4288 40 2176 40 [(thE (cE 0) (cE 0)), (cE 0), (thE (cE 0) (cE 0)), (cE 0), (cE 40)]) (76, [(0, 32), (1, 65)]) B C := fs_cpy (fa_cons (fe_getR (fe_aloadn 1 rfl dX6_copyFrom_61) fl_RX6_21 lx_63 rfl dX6_copyFrom_62) (fa_cons (fe_iconst dX6_copyFrom_65) (fa_cons (fe_getR (fe_aloadn 0 rfl dX6_copyFrom_66) fl_RX6_21 lx_30 rfl dX6_copyFrom_67) (fa_cons (fe_iconst dX6_copyFrom_70) (fa_cons (fe_bipush dX6_copyFrom_71) fa_nil))))) lx_67 lx_34 ac_RX6_34 (by decide) dX6_copyFrom_73 rfl
set_option maxRecDepth 20000 in
theorem t_Sentence_copyFrom_6 {B C : Nat × FT} : fw_S s_Sentence_copyFrom [(0, 32), (1, 65)] 76 (cpS 4352 40 2240 40 [(thE (cE 0) (cE 0)), (cE 0), (thE (cE 0) (cE 0)), (cE 0), (cE 40)]) (91, [(0, 32), (1, 65)]) B C := fs_cpy (fa_cons (fe_getR (fe_aloadn 1 rfl dX6_copyFrom_76) fl_RX6_24 lx_63 rfl dX6_copyFrom_77) (fa_cons (fe_iconst dX6_copyFrom_80) (fa_cons (fe_getR (fe_aloadn 0 rfl dX6_copyFrom_81) fl_RX6_24 lx_30 rfl dX6_copyFrom_82) (fa_cons (fe_iconst dX6_copyFrom_85) (fa_cons (fe_bipush dX6_copyFrom_86) fa_nil))))) lx_68 lx_35 ac_RX6_34 (by decide) dX6_copyFrom_88 rfl
set_option maxRecDepth 20000 in
theorem t_Sentence_copyFrom_7 {N B C : Nat × FT} : fw_S s_Sentence_copyFrom [(0, 32), (1, 65)] 91 rvS N B C := fs_rv dX6_copyFrom_91
set_option maxRecDepth 20000 in
theorem C_Sentence_copyFrom : fw_C LX yX6_copyFrom cX6_copyFrom 2 none 1 [32, 65] (none) m_Sentence_copyFrom := fm_v (d := 1) (N := (0, [])) (B := (0, [])) (C := (0, [])) LX_ok (by decide +kernel) (show fw_S s_Sentence_copyFrom _ 0 b_Sentence_copyFrom _ _ _ from (fs_seq t_Sentence_copyFrom_0 (fs_seq t_Sentence_copyFrom_1 (fs_seq t_Sentence_copyFrom_2 (fs_seq t_Sentence_copyFrom_3 (fs_seq t_Sentence_copyFrom_4 (fs_seq t_Sentence_copyFrom_5 (fs_seq t_Sentence_copyFrom_6 t_Sentence_copyFrom_7)))))))) (by decide)
/-! DyerBells$Scene.copyFrom (this 3 now) -/
abbrev s_Scene_copyFrom : SI := (LX, RX5, cX5_copyFrom, 2, 3, none)
set_option maxRecDepth 20000 in
theorem t_Scene_copyFrom_0 {B C : Nat × FT} : fw_S s_Scene_copyFrom [(0, 5), (1, 38)] 0 (exS (clE m_River_copyFrom [(thE (cE 0) (cE 0)), (thE (cE 0) (cE 0))])) (11, [(0, 5), (1, 38)]) B C := fs_callV (t := 0) (fa_cons (fe_getR (fe_aloadn 0 rfl dX5_copyFrom_0) fl_RX5_10 lx_3 rfl dX5_copyFrom_1) (fa_cons (fe_getR (fe_aloadn 1 rfl dX5_copyFrom_4) fl_RX5_10 lx_36 rfl dX5_copyFrom_5) fa_nil)) C_River_copyFrom lv_RX5_45 lx_4 rfl rfl (by decide) (by decide) dX5_copyFrom_8 rfl
set_option maxRecDepth 20000 in
theorem t_Scene_copyFrom_1 {B C : Nat × FT} : fw_S s_Scene_copyFrom [(0, 5), (1, 38)] 11 (exS (clE m_Order_copyFrom [(thE (cE 0) (cE 0)), (thE (cE 0) (cE 0))])) (22, [(0, 5), (1, 38)]) B C := fs_callV (t := 0) (fa_cons (fe_getR (fe_aloadn 0 rfl dX5_copyFrom_11) fl_RX5_19 lx_3 rfl dX5_copyFrom_12) (fa_cons (fe_getR (fe_aloadn 1 rfl dX5_copyFrom_15) fl_RX5_19 lx_36 rfl dX5_copyFrom_16) fa_nil)) C_Order_copyFrom lv_RX5_49 lx_22 rfl rfl (by decide) (by decide) dX5_copyFrom_19 rfl
set_option maxRecDepth 20000 in
theorem t_Scene_copyFrom_2 {B C : Nat × FT} : fw_S s_Scene_copyFrom [(0, 5), (1, 38)] 22 (exS (clE m_Sights_copyFrom [(thE (cE 0) (cE 0)), (thE (cE 0) (cE 0))])) (33, [(0, 5), (1, 38)]) B C := fs_callV (t := 0) (fa_cons (fe_getR (fe_aloadn 0 rfl dX5_copyFrom_22) fl_RX5_26 lx_3 rfl dX5_copyFrom_23) (fa_cons (fe_getR (fe_aloadn 1 rfl dX5_copyFrom_26) fl_RX5_26 lx_36 rfl dX5_copyFrom_27) fa_nil)) C_Sights_copyFrom lv_RX5_52 lx_26 rfl rfl (by decide) (by decide) dX5_copyFrom_30 rfl
set_option maxRecDepth 20000 in
theorem t_Scene_copyFrom_3 {B C : Nat × FT} : fw_S s_Scene_copyFrom [(0, 5), (1, 38)] 33 (exS (clE m_Sentence_copyFrom [(thE (cE 0) (cE 0)), (thE (cE 0) (cE 0))])) (44, [(0, 5), (1, 38)]) B C := fs_callV (t := 0) (fa_cons (fe_getR (fe_aloadn 0 rfl dX5_copyFrom_33) fl_RX5_33 lx_3 rfl dX5_copyFrom_34) (fa_cons (fe_getR (fe_aloadn 1 rfl dX5_copyFrom_37) fl_RX5_33 lx_36 rfl dX5_copyFrom_38) fa_nil)) C_Sentence_copyFrom lv_RX5_55 lx_30 rfl rfl (by decide) (by decide) dX5_copyFrom_41 rfl
set_option maxRecDepth 20000 in
theorem t_Scene_copyFrom_4 {N B C : Nat × FT} : fw_S s_Scene_copyFrom [(0, 5), (1, 38)] 44 rvS N B C := fs_rv dX5_copyFrom_44
set_option maxRecDepth 20000 in
theorem C_Scene_copyFrom : fw_C LX yX5_copyFrom cX5_copyFrom 2 none 3 [5, 38] (none) m_Scene_copyFrom := fm_v (d := 3) (N := (0, [])) (B := (0, [])) (C := (0, [])) LX_ok (by decide +kernel) (show fw_S s_Scene_copyFrom _ 0 b_Scene_copyFrom _ _ _ from (fs_seq t_Scene_copyFrom_0 (fs_seq t_Scene_copyFrom_1 (fs_seq t_Scene_copyFrom_2 (fs_seq t_Scene_copyFrom_3 t_Scene_copyFrom_4))))) (by decide)
/-! DyerBells.river (this 0 ) -/
abbrev s_D_river : SI := (LX, RX11, cX11_river, 2, 7, some 0)
set_option maxRecDepth 20000 in
theorem t_D_river_0 {B C : Nat × FT} : fw_S s_D_river [(0, 2)] 0 (exS (clE m_Scene_forget [(thE (cE 0) (cE 0))])) (7, [(0, 2)]) B C := fs_callV (t := 0) (fa_cons (fe_getR (fe_aloadn 0 rfl dX11_river_0) fl_RX11_23 lx_0 rfl dX11_river_1) fa_nil) C_Scene_forget lv_RX11_71 lx_36 rfl rfl (by decide) (by decide) dX11_river_4 rfl
set_option maxRecDepth 20000 in
theorem t_D_river_1 {B C : Nat × FT} : fw_S s_D_river [(0, 2)] 7 (exS (clE m_Tape_open [(thE (cE 0) (cE 0)), (cE 900)])) (17, [(0, 2)]) B C := fs_callV (t := 0) (fa_cons (fe_getR (fe_aloadn 0 rfl dX11_river_7) fl_RX11_12 lx_0 rfl dX11_river_8) (fa_cons (fe_sipush dX11_river_11) fa_nil)) C_Tape_open lv_RX11_74 lx_1 rfl rfl (by decide) (by decide) dX11_river_14 rfl
set_option maxRecDepth 20000 in
theorem t_D_river_2 {B C : Nat × FT} : fw_S s_D_river [(0, 2)] 17 (stS 1 (clE m_RiverText_readLines [(thE (cE 0) (cE 0)), (thE (thE (cE 0) (cE 0)) (cE 0))])) (32, [(0, 2), (1, 0)]) B C := fs_istn (fe_callS (fa_cons (fe_getR (fe_aloadn 0 rfl dX11_river_17) fl_RX11_12 lx_0 rfl dX11_river_18) (fa_cons (fe_getR (fe_getR (fe_aloadn 0 rfl dX11_river_21) fl_RX11_23 lx_0 rfl dX11_river_22) fl_RX11_77 lx_36 rfl dX11_river_25) fa_nil)) C_RiverText_readLines ls_RX11_81 rfl (by decide) (by decide) (by decide) dX11_river_28) dX11_river_31 (by decide) rfl
set_option maxRecDepth 20000 in
theorem t_D_river_3 : fw_B s_D_river [(0, 2), (1, 0)] 0 32 39 49 (nB (zB 0 (clE m_D_isRefused [(cE 0)]))) := (fb_not (fb_if_eq (fe_callV (fa_cons (fe_aloadn 0 rfl dX11_river_32) fa_nil) C_D_isRefused lv_RX11_87 lx_0 rfl rfl (by decide) (by decide) (by decide) dX11_river_33) dX11_river_36 rfl))
set_option maxRecDepth 20000 in
theorem t_D_river_4 {N B C : Nat × FT} : fw_S s_D_river [(0, 2), (1, 0)] 39 (rtS (o2 subI (cE (-1)) (thE (thE (cE 0) (cE 0)) (gE 75)))) N B C := fs_ret (fe_isub (fe_iconst dX11_river_39) (fe_getI (fe_getR (fe_aloadn 0 rfl dX11_river_40) fl_RX11_12 lx_0 rfl dX11_river_41) fl_RX11_91 lx_1 rfl dX11_river_44) dX11_river_47) dX11_river_48
set_option maxRecDepth 20000 in
theorem t_D_river_5 {B C : Nat × FT} : fw_S s_D_river [(0, 2), (1, 0)] 49 (exS (clE m_Scene_copyFrom [(thE (cE 0) (cE 0)), (thE (cE 0) (cE 0))])) (60, [(0, 2), (1, 0)]) B C := fs_callV (t := 0) (fa_cons (fe_getR (fe_aloadn 0 rfl dX11_river_49) fl_RX11_19 lx_0 rfl dX11_river_50) (fa_cons (fe_getR (fe_aloadn 0 rfl dX11_river_53) fl_RX11_23 lx_0 rfl dX11_river_54) fa_nil)) C_Scene_copyFrom lv_RX11_94 lx_3 rfl rfl (by decide) (by decide) dX11_river_57 rfl
set_option maxRecDepth 20000 in
theorem t_D_river_6 {B C : Nat × FT} : fw_S s_D_river [(0, 2), (1, 0)] 60 (pzS 10 (cE 0) (cE 1)) (65, [(0, 2), (1, 0)]) B C := fs_putZ (fe_aloadn 0 rfl dX11_river_60) (fe_iconst dX11_river_61) fp_RX11_46 lx_0 rfl dX11_river_62 rfl
set_option maxRecDepth 20000 in
theorem t_D_river_7 {N B C : Nat × FT} : fw_S s_D_river [(0, 2), (1, 0)] 65 (rtS (vE 1)) N B C := fs_ret (fe_iloadn 1 rfl dX11_river_65) dX11_river_66
set_option maxRecDepth 20000 in
theorem C_D_river : fw_C LX yX11_river cX11_river 2 (some .int) 7 [2] (some 0) m_D_river := fm_i (d := 7) (N := (0, [])) (B := (0, [])) (C := (0, [])) LX_ok (by decide +kernel) (show fw_S s_D_river _ 0 b_D_river _ _ _ from (fs_seq t_D_river_0 (fs_seq t_D_river_1 (fs_seq t_D_river_2 (fs_seq (fs_if t_D_river_3 t_D_river_4 (fs_skip rfl)) (fs_seq t_D_river_5 (fs_seq t_D_river_6 t_D_river_7))))))) (by decide)
/-! DyerBells.fault (this 0 ) -/
abbrev s_D_fault : SI := (LX, RX11, cX11_fault, 1, 1, some 0)
set_option maxRecDepth 20000 in
theorem t_D_fault_0 {N B C : Nat × FT} : fw_S s_D_fault [(0, 2)] 0 (rtS (thE (cE 0) (gE 1))) N B C := fs_ret (fe_getI (fe_aloadn 0 rfl dX11_fault_0) fl_RX11_98 lx_0 rfl dX11_fault_1) dX11_fault_4
set_option maxRecDepth 20000 in
theorem C_D_fault : fw_C LX yX11_fault cX11_fault 1 (some .int) 1 [2] (some 0) m_D_fault := fm_i (d := 1) (N := (0, [])) (B := (0, [])) (C := (0, [])) LX_ok (by decide +kernel) (show fw_S s_D_fault _ 0 b_D_fault _ _ _ from t_D_fault_0) (by decide)
/-! DyerBells.isReach (this 0 ) -/
abbrev s_D_isReach : SI := (LX, RX11, cX11_isReach, 2, 1, some 0)
set_option maxRecDepth 20000 in
theorem t_D_isReach_0 {N B C : Nat × FT} : fw_S s_D_isReach [(0, 2), (1, 0)] 0 (rtS (kE (andB (nB (zB 2 (vE 1))) (nB (cB 3 (vE 1) (thE (thE (thE (cE 0) (cE 0)) (cE 0)) (gE 257))))) (cE 1) (cE 0))) N B C := fs_ret (fe_ternG (fb_and (fb_not (fb_if_lt (fe_iloadn 1 rfl dX11_isReach_0) dX11_isReach_1 rfl)) (fb_not (fb_icmp_ge (fe_iloadn 1 rfl dX11_isReach_4) (fe_getI (fe_getR (fe_getR (fe_aloadn 0 rfl dX11_isReach_5) fl_RX11_19 lx_0 rfl dX11_isReach_6) fl_RX11_77 lx_3 rfl dX11_isReach_9) fl_RX11_352 lx_4 rfl dX11_isReach_12) dX11_isReach_15 rfl))) (fe_gt (fe_iconst dX11_isReach_18) dX11_isReach_19 rfl) (fe_iconst dX11_isReach_22)) dX11_isReach_23
set_option maxRecDepth 20000 in
theorem C_D_isReach : fw_C LX yX11_isReach cX11_isReach 2 (some .boolean) 1 [2, 0] (some 0) m_D_isReach := fm_z (d := 1) (N := (0, [])) (B := (0, [])) (C := (0, [])) LX_ok (by decide +kernel) (show fw_S s_D_isReach _ 0 b_D_isReach _ _ _ from t_D_isReach_0) (by decide)
/-! DyerBells.reach (this 0 ) -/
abbrev s_D_reach : SI := (LX, RX11, cX11_reach, 3, 2, some 0)
set_option maxRecDepth 20000 in
theorem t_D_reach_0 : fw_B s_D_reach [(0, 2), (1, 0), (2, 0)] 0 0 17 25 (orB (orB (zB 0 (clE m_D_isReach [(cE 0), (vE 1)])) (zB 2 (vE 2))) (nB (cB 5 (vE 2) (cE 1)))) := (fb_or (fb_or (fb_if_eq (fe_callV (fa_cons (fe_aloadn 0 rfl dX11_reach_0) (fa_cons (fe_iloadn 1 rfl dX11_reach_1) fa_nil)) C_D_isReach lv_RX11_101 lx_0 rfl rfl (by decide) (by decide) (by decide) dX11_reach_2) dX11_reach_5 rfl) (fb_if_lt (fe_iloadn 2 rfl dX11_reach_8) dX11_reach_9 rfl)) (fb_not (fb_icmp_le (fe_iloadn 2 rfl dX11_reach_12) (fe_iconst dX11_reach_13) dX11_reach_14 rfl)))
set_option maxRecDepth 20000 in
theorem t_D_reach_1 {N B C : Nat × FT} : fw_S s_D_reach [(0, 2), (1, 0), (2, 0)] 17 thS N B C := fs_thr ⟨dX11_reach_17, dX11_reach_20, dX11_reach_21, dX11_reach_24⟩
set_option maxRecDepth 20000 in
theorem t_D_reach_2 {N B C : Nat × FT} : fw_S s_D_reach [(0, 2), (1, 0), (2, 0)] 25 (rtS (kE (nB (zB 1 (vE 2))) (ldE 576 10 (thE (thE (thE (cE 0) (cE 0)) (cE 0)) (cE 0)) (vE 1)) (ldE 640 10 (thE (thE (thE (cE 0) (cE 0)) (cE 0)) (cE 0)) (vE 1)))) N B C := fs_ret (fe_ternG (fb_not (fb_if_ne (fe_iloadn 2 rfl dX11_reach_25) dX11_reach_26 rfl)) (fe_gt (fe_iald (fe_getR (fe_getR (fe_getR (fe_aloadn 0 rfl dX11_reach_29) fl_RX11_19 lx_0 rfl dX11_reach_30) fl_RX11_77 lx_3 rfl dX11_reach_33) fl_RX11_108 lx_4 rfl dX11_reach_36) (fe_iloadn 1 rfl dX11_reach_39) lx_9 dX11_reach_40) dX11_reach_41 rfl) (fe_iald (fe_getR (fe_getR (fe_getR (fe_aloadn 0 rfl dX11_reach_44) fl_RX11_19 lx_0 rfl dX11_reach_45) fl_RX11_77 lx_3 rfl dX11_reach_48) fl_RX11_113 lx_4 rfl dX11_reach_51) (fe_iloadn 1 rfl dX11_reach_54) lx_10 dX11_reach_55)) dX11_reach_56
set_option maxRecDepth 20000 in
theorem C_D_reach : fw_C LX yX11_reach cX11_reach 3 (some .int) 2 [2, 0, 0] (some 0) m_D_reach := fm_i (d := 2) (N := (0, [])) (B := (0, [])) (C := (0, [])) LX_ok (by decide +kernel) (show fw_S s_D_reach _ 0 b_D_reach _ _ _ from (fs_seq (fs_if t_D_reach_0 t_D_reach_1 (fs_skip rfl)) t_D_reach_2)) (by decide)
/-! DyerBells.isGuild (this 0 ) -/
abbrev s_D_isGuild : SI := (LX, RX11, cX11_isGuild, 2, 1, some 0)
set_option maxRecDepth 20000 in
theorem t_D_isGuild_0 {N B C : Nat × FT} : fw_S s_D_isGuild [(0, 2), (1, 0)] 0 (rtS (kE (andB (nB (zB 2 (vE 1))) (nB (cB 3 (vE 1) (thE (thE (thE (cE 0) (cE 0)) (cE 0)) (gE 261))))) (cE 1) (cE 0))) N B C := fs_ret (fe_ternG (fb_and (fb_not (fb_if_lt (fe_iloadn 1 rfl dX11_isGuild_0) dX11_isGuild_1 rfl)) (fb_not (fb_icmp_ge (fe_iloadn 1 rfl dX11_isGuild_4) (fe_getI (fe_getR (fe_getR (fe_aloadn 0 rfl dX11_isGuild_5) fl_RX11_19 lx_0 rfl dX11_isGuild_6) fl_RX11_77 lx_3 rfl dX11_isGuild_9) fl_RX11_302 lx_4 rfl dX11_isGuild_12) dX11_isGuild_15 rfl))) (fe_gt (fe_iconst dX11_isGuild_18) dX11_isGuild_19 rfl) (fe_iconst dX11_isGuild_22)) dX11_isGuild_23
set_option maxRecDepth 20000 in
theorem C_D_isGuild : fw_C LX yX11_isGuild cX11_isGuild 2 (some .boolean) 1 [2, 0] (some 0) m_D_isGuild := fm_z (d := 1) (N := (0, [])) (B := (0, [])) (C := (0, [])) LX_ok (by decide +kernel) (show fw_S s_D_isGuild _ 0 b_D_isGuild _ _ _ from t_D_isGuild_0) (by decide)
/-! DyerBells.guild (this 0 ) -/
abbrev s_D_guild : SI := (LX, RX11, cX11_guild, 3, 2, some 0)
set_option maxRecDepth 20000 in
theorem t_D_guild_0 : fw_B s_D_guild [(0, 2), (1, 0), (2, 0)] 0 0 28 36 (orB (orB (zB 0 (clE m_D_isGuild [(cE 0), (vE 1)])) (zB 2 (vE 2))) (nB (cB 2 (vE 2) (o2 addI (cE 2) (thE (thE (thE (cE 0) (cE 0)) (cE 0)) (gE 260)))))) := (fb_or (fb_or (fb_if_eq (fe_callV (fa_cons (fe_aloadn 0 rfl dX11_guild_0) (fa_cons (fe_iloadn 1 rfl dX11_guild_1) fa_nil)) C_D_isGuild lv_RX11_116 lx_0 rfl rfl (by decide) (by decide) (by decide) dX11_guild_2) dX11_guild_5 rfl) (fb_if_lt (fe_iloadn 2 rfl dX11_guild_8) dX11_guild_9 rfl)) (fb_not (fb_icmp_lt (fe_iloadn 2 rfl dX11_guild_12) (fe_iadd (fe_iconst dX11_guild_13) (fe_getI (fe_getR (fe_getR (fe_aloadn 0 rfl dX11_guild_14) fl_RX11_19 lx_0 rfl dX11_guild_15) fl_RX11_77 lx_3 rfl dX11_guild_18) fl_RX11_119 lx_4 rfl dX11_guild_21) dX11_guild_24) dX11_guild_25 rfl)))
set_option maxRecDepth 20000 in
theorem t_D_guild_1 {N B C : Nat × FT} : fw_S s_D_guild [(0, 2), (1, 0), (2, 0)] 28 thS N B C := fs_thr ⟨dX11_guild_28, dX11_guild_31, dX11_guild_32, dX11_guild_35⟩
set_option maxRecDepth 20000 in
theorem t_D_guild_2 : fw_B s_D_guild [(0, 2), (1, 0), (2, 0)] 0 36 40 53 (nB (zB 1 (vE 2))) := (fb_not (fb_if_ne (fe_iloadn 2 rfl dX11_guild_36) dX11_guild_37 rfl))
set_option maxRecDepth 20000 in
theorem t_D_guild_3 {N B C : Nat × FT} : fw_S s_D_guild [(0, 2), (1, 0), (2, 0)] 40 (rtS (ldE 704 6 (thE (thE (thE (cE 0) (cE 0)) (cE 0)) (cE 0)) (vE 1))) N B C := fs_ret (fe_iald (fe_getR (fe_getR (fe_getR (fe_aloadn 0 rfl dX11_guild_40) fl_RX11_19 lx_0 rfl dX11_guild_41) fl_RX11_77 lx_3 rfl dX11_guild_44) fl_RX11_122 lx_4 rfl dX11_guild_47) (fe_iloadn 1 rfl dX11_guild_50) lx_11 dX11_guild_51) dX11_guild_52
set_option maxRecDepth 20000 in
theorem t_D_guild_4 {N B C : Nat × FT} : fw_S s_D_guild [(0, 2), (1, 0), (2, 0)] 53 (rtS (kE (nB (cB 1 (vE 2) (cE 1))) (ldE 768 6 (thE (thE (thE (cE 0) (cE 0)) (cE 0)) (cE 0)) (vE 1)) (ldE 832 24 (thE (thE (thE (cE 0) (cE 0)) (cE 0)) (cE 0)) (o2 subI (o2 addI (o2 mulI (vE 1) (cE 4)) (vE 2)) (cE 2))))) N B C := fs_ret (fe_ternG (fb_not (fb_icmp_ne (fe_iloadn 2 rfl dX11_guild_53) (fe_iconst dX11_guild_54) dX11_guild_55 rfl)) (fe_gt (fe_iald (fe_getR (fe_getR (fe_getR (fe_aloadn 0 rfl dX11_guild_58) fl_RX11_19 lx_0 rfl dX11_guild_59) fl_RX11_77 lx_3 rfl dX11_guild_62) fl_RX11_125 lx_4 rfl dX11_guild_65) (fe_iloadn 1 rfl dX11_guild_68) lx_12 dX11_guild_69) dX11_guild_70 rfl) (fe_iald (fe_getR (fe_getR (fe_getR (fe_aloadn 0 rfl dX11_guild_73) fl_RX11_19 lx_0 rfl dX11_guild_74) fl_RX11_77 lx_3 rfl dX11_guild_77) fl_RX11_128 lx_4 rfl dX11_guild_80) (fe_isub (fe_iadd (fe_imul (fe_iloadn 1 rfl dX11_guild_83) (fe_iconst dX11_guild_84) dX11_guild_85) (fe_iloadn 2 rfl dX11_guild_86) dX11_guild_87) (fe_iconst dX11_guild_88) dX11_guild_89) lx_13 dX11_guild_90)) dX11_guild_91
set_option maxRecDepth 20000 in
theorem C_D_guild : fw_C LX yX11_guild cX11_guild 3 (some .int) 2 [2, 0, 0] (some 0) m_D_guild := fm_i (d := 2) (N := (0, [])) (B := (0, [])) (C := (0, [])) LX_ok (by decide +kernel) (show fw_S s_D_guild _ 0 b_D_guild _ _ _ from (fs_seq (fs_if t_D_guild_0 t_D_guild_1 (fs_skip rfl)) (fs_seq (fs_if t_D_guild_2 t_D_guild_3 (fs_skip rfl)) t_D_guild_4))) (by decide)
/-! DyerBells.isUser (this 0 ) -/
abbrev s_D_isUser : SI := (LX, RX11, cX11_isUser, 2, 1, some 0)
set_option maxRecDepth 20000 in
theorem t_D_isUser_0 {N B C : Nat × FT} : fw_S s_D_isUser [(0, 2), (1, 0)] 0 (rtS (kE (andB (nB (zB 2 (vE 1))) (nB (cB 3 (vE 1) (thE (thE (thE (cE 0) (cE 0)) (cE 0)) (gE 265))))) (cE 1) (cE 0))) N B C := fs_ret (fe_ternG (fb_and (fb_not (fb_if_lt (fe_iloadn 1 rfl dX11_isUser_0) dX11_isUser_1 rfl)) (fb_not (fb_icmp_ge (fe_iloadn 1 rfl dX11_isUser_4) (fe_getI (fe_getR (fe_getR (fe_aloadn 0 rfl dX11_isUser_5) fl_RX11_19 lx_0 rfl dX11_isUser_6) fl_RX11_77 lx_3 rfl dX11_isUser_9) fl_RX11_355 lx_4 rfl dX11_isUser_12) dX11_isUser_15 rfl))) (fe_gt (fe_iconst dX11_isUser_18) dX11_isUser_19 rfl) (fe_iconst dX11_isUser_22)) dX11_isUser_23
set_option maxRecDepth 20000 in
theorem C_D_isUser : fw_C LX yX11_isUser cX11_isUser 2 (some .boolean) 1 [2, 0] (some 0) m_D_isUser := fm_z (d := 1) (N := (0, [])) (B := (0, [])) (C := (0, [])) LX_ok (by decide +kernel) (show fw_S s_D_isUser _ 0 b_D_isUser _ _ _ from t_D_isUser_0) (by decide)
/-! DyerBells.user (this 0 ) -/
abbrev s_D_user : SI := (LX, RX11, cX11_user, 3, 2, some 0)
set_option maxRecDepth 20000 in
theorem t_D_user_0 : fw_B s_D_user [(0, 2), (1, 0), (2, 0)] 0 0 28 36 (orB (orB (zB 0 (clE m_D_isUser [(cE 0), (vE 1)])) (zB 2 (vE 2))) (nB (cB 2 (vE 2) (o2 addI (cE 3) (thE (thE (thE (cE 0) (cE 0)) (cE 0)) (gE 260)))))) := (fb_or (fb_or (fb_if_eq (fe_callV (fa_cons (fe_aloadn 0 rfl dX11_user_0) (fa_cons (fe_iloadn 1 rfl dX11_user_1) fa_nil)) C_D_isUser lv_RX11_131 lx_0 rfl rfl (by decide) (by decide) (by decide) dX11_user_2) dX11_user_5 rfl) (fb_if_lt (fe_iloadn 2 rfl dX11_user_8) dX11_user_9 rfl)) (fb_not (fb_icmp_lt (fe_iloadn 2 rfl dX11_user_12) (fe_iadd (fe_iconst dX11_user_13) (fe_getI (fe_getR (fe_getR (fe_aloadn 0 rfl dX11_user_14) fl_RX11_19 lx_0 rfl dX11_user_15) fl_RX11_77 lx_3 rfl dX11_user_18) fl_RX11_119 lx_4 rfl dX11_user_21) dX11_user_24) dX11_user_25 rfl)))
set_option maxRecDepth 20000 in
theorem t_D_user_1 {N B C : Nat × FT} : fw_S s_D_user [(0, 2), (1, 0), (2, 0)] 28 thS N B C := fs_thr ⟨dX11_user_28, dX11_user_31, dX11_user_32, dX11_user_35⟩
set_option maxRecDepth 20000 in
theorem t_D_user_2 : fw_B s_D_user [(0, 2), (1, 0), (2, 0)] 0 36 40 53 (nB (zB 1 (vE 2))) := (fb_not (fb_if_ne (fe_iloadn 2 rfl dX11_user_36) dX11_user_37 rfl))
set_option maxRecDepth 20000 in
theorem t_D_user_3 {N B C : Nat × FT} : fw_S s_D_user [(0, 2), (1, 0), (2, 0)] 40 (rtS (ldE 896 6 (thE (thE (thE (cE 0) (cE 0)) (cE 0)) (cE 0)) (vE 1))) N B C := fs_ret (fe_iald (fe_getR (fe_getR (fe_getR (fe_aloadn 0 rfl dX11_user_40) fl_RX11_19 lx_0 rfl dX11_user_41) fl_RX11_77 lx_3 rfl dX11_user_44) fl_RX11_134 lx_4 rfl dX11_user_47) (fe_iloadn 1 rfl dX11_user_50) lx_14 dX11_user_51) dX11_user_52
set_option maxRecDepth 20000 in
theorem t_D_user_4 : fw_B s_D_user [(0, 2), (1, 0), (2, 0)] 0 53 58 71 (nB (cB 1 (vE 2) (cE 1))) := (fb_not (fb_icmp_ne (fe_iloadn 2 rfl dX11_user_53) (fe_iconst dX11_user_54) dX11_user_55 rfl))
set_option maxRecDepth 20000 in
theorem t_D_user_5 {N B C : Nat × FT} : fw_S s_D_user [(0, 2), (1, 0), (2, 0)] 58 (rtS (ldE 960 6 (thE (thE (thE (cE 0) (cE 0)) (cE 0)) (cE 0)) (vE 1))) N B C := fs_ret (fe_iald (fe_getR (fe_getR (fe_getR (fe_aloadn 0 rfl dX11_user_58) fl_RX11_19 lx_0 rfl dX11_user_59) fl_RX11_77 lx_3 rfl dX11_user_62) fl_RX11_137 lx_4 rfl dX11_user_65) (fe_iloadn 1 rfl dX11_user_68) lx_15 dX11_user_69) dX11_user_70
set_option maxRecDepth 20000 in
theorem t_D_user_6 {N B C : Nat × FT} : fw_S s_D_user [(0, 2), (1, 0), (2, 0)] 71 (rtS (kE (nB (cB 1 (vE 2) (cE 2))) (ldE 1024 6 (thE (thE (thE (cE 0) (cE 0)) (cE 0)) (cE 0)) (vE 1)) (ldE 1088 24 (thE (thE (thE (cE 0) (cE 0)) (cE 0)) (cE 0)) (o2 subI (o2 addI (o2 mulI (vE 1) (cE 4)) (vE 2)) (cE 3))))) N B C := fs_ret (fe_ternG (fb_not (fb_icmp_ne (fe_iloadn 2 rfl dX11_user_71) (fe_iconst dX11_user_72) dX11_user_73 rfl)) (fe_gt (fe_iald (fe_getR (fe_getR (fe_getR (fe_aloadn 0 rfl dX11_user_76) fl_RX11_19 lx_0 rfl dX11_user_77) fl_RX11_77 lx_3 rfl dX11_user_80) fl_RX11_140 lx_4 rfl dX11_user_83) (fe_iloadn 1 rfl dX11_user_86) lx_16 dX11_user_87) dX11_user_88 rfl) (fe_iald (fe_getR (fe_getR (fe_getR (fe_aloadn 0 rfl dX11_user_91) fl_RX11_19 lx_0 rfl dX11_user_92) fl_RX11_77 lx_3 rfl dX11_user_95) fl_RX11_143 lx_4 rfl dX11_user_98) (fe_isub (fe_iadd (fe_imul (fe_iloadn 1 rfl dX11_user_101) (fe_iconst dX11_user_102) dX11_user_103) (fe_iloadn 2 rfl dX11_user_104) dX11_user_105) (fe_iconst dX11_user_106) dX11_user_107) lx_17 dX11_user_108)) dX11_user_109
set_option maxRecDepth 20000 in
theorem C_D_user : fw_C LX yX11_user cX11_user 3 (some .int) 2 [2, 0, 0] (some 0) m_D_user := fm_i (d := 2) (N := (0, [])) (B := (0, [])) (C := (0, [])) LX_ok (by decide +kernel) (show fw_S s_D_user _ 0 b_D_user _ _ _ from (fs_seq (fs_if t_D_user_0 t_D_user_1 (fs_skip rfl)) (fs_seq (fs_if t_D_user_2 t_D_user_3 (fs_skip rfl)) (fs_seq (fs_if t_D_user_4 t_D_user_5 (fs_skip rfl)) t_D_user_6)))) (by decide)
/-! DyerBells$River.flowOn (this 4 now.river) -/
abbrev s_River_flowOn : SI := (LX, RX3, cX3_flowOn, 2, 1, some 0)
set_option maxRecDepth 20000 in
theorem t_River_flowOn_0 {N B C : Nat × FT} : fw_S s_River_flowOn [(0, 6), (1, 0)] 0 (rtS (kE (nB (cB 1 (ldE 1152 7 (thE (cE 0) (cE 0)) (vE 1)) (cE (-1)))) (cE 100) (ldE 1152 7 (thE (cE 0) (cE 0)) (vE 1)))) N B C := fs_ret (fe_ternG (fb_not (fb_icmp_ne (fe_iald (fe_getR (fe_aloadn 0 rfl dX3_flowOn_0) fl_RX3_46 lx_4 rfl dX3_flowOn_1) (fe_iloadn 1 rfl dX3_flowOn_4) lx_18 dX3_flowOn_5) (fe_iconst dX3_flowOn_6) dX3_flowOn_7 rfl)) (fe_gt (fe_bipush dX3_flowOn_10) dX3_flowOn_12 rfl) (fe_iald (fe_getR (fe_aloadn 0 rfl dX3_flowOn_15) fl_RX3_46 lx_4 rfl dX3_flowOn_16) (fe_iloadn 1 rfl dX3_flowOn_19) lx_18 dX3_flowOn_20)) dX3_flowOn_21
set_option maxRecDepth 20000 in
theorem C_River_flowOn : fw_C LX yX3_flowOn cX3_flowOn 2 (some .int) 1 [6, 0] (some 0) m_River_flowOn := fm_i (d := 1) (N := (0, [])) (B := (0, [])) (C := (0, [])) LX_ok (by decide +kernel) (show fw_S s_River_flowOn _ 0 b_River_flowOn _ _ _ from t_River_flowOn_0) (by decide)
/-! DyerBells.flow (this 0 ) -/
abbrev s_D_flow : SI := (LX, RX11, cX11_flow, 2, 2, some 0)
set_option maxRecDepth 20000 in
theorem t_D_flow_0 : fw_B s_D_flow [(0, 2), (1, 0)] 0 0 10 18 (orB (zB 2 (vE 1)) (nB (cB 2 (vE 1) (cE 7)))) := (fb_or (fb_if_lt (fe_iloadn 1 rfl dX11_flow_0) dX11_flow_1 rfl) (fb_not (fb_icmp_lt (fe_iloadn 1 rfl dX11_flow_4) (fe_bipush dX11_flow_5) dX11_flow_7 rfl)))
set_option maxRecDepth 20000 in
theorem t_D_flow_1 {N B C : Nat × FT} : fw_S s_D_flow [(0, 2), (1, 0)] 10 thS N B C := fs_thr ⟨dX11_flow_10, dX11_flow_13, dX11_flow_14, dX11_flow_17⟩
set_option maxRecDepth 20000 in
theorem t_D_flow_2 {N B C : Nat × FT} : fw_S s_D_flow [(0, 2), (1, 0)] 18 (rtS (clE m_River_flowOn [(thE (thE (cE 0) (cE 0)) (cE 0)), (vE 1)])) N B C := fs_ret (fe_callV (fa_cons (fe_getR (fe_getR (fe_aloadn 0 rfl dX11_flow_18) fl_RX11_19 lx_0 rfl dX11_flow_19) fl_RX11_77 lx_3 rfl dX11_flow_22) (fa_cons (fe_iloadn 1 rfl dX11_flow_25) fa_nil)) C_River_flowOn lv_RX11_146 lx_4 rfl rfl (by decide) (by decide) (by decide) dX11_flow_26) dX11_flow_29
set_option maxRecDepth 20000 in
theorem C_D_flow : fw_C LX yX11_flow cX11_flow 2 (some .int) 2 [2, 0] (some 0) m_D_flow := fm_i (d := 2) (N := (0, [])) (B := (0, [])) (C := (0, [])) LX_ok (by decide +kernel) (show fw_S s_D_flow _ 0 b_D_flow _ _ _ from (fs_seq (fs_if t_D_flow_0 t_D_flow_1 (fs_skip rfl)) t_D_flow_2)) (by decide)
/-! DyerBells$Names.find (this 5 now.river.names) -/
abbrev s_Names_find_2 : SI := (LX, RX0, cX0_find, 4, 1, some 0)
set_option maxRecDepth 20000 in
theorem t_Names_find_2_0 {B C : Nat × FT} : fw_S s_Names_find_2 [(0, 7), (1, 1)] 0 (stS 3 (cE 0)) (2, [(0, 7), (1, 1), (3, 0)]) B C := fs_istn (fe_iconst dX0_find_0) dX0_find_1 (by decide) rfl
set_option maxRecDepth 20000 in
theorem t_Names_find_2_1 : fw_B s_Names_find_2 [(0, 7), (1, 1), (3, 0)] 0 2 10 29 (nB (cB 3 (vE 3) (thE (cE 0) (gE 320)))) := (fb_not (fb_icmp_ge (fe_iloadn 2 rfl dX0_find_2) (fe_getI (fe_aloadn 0 rfl dX0_find_3) fl_RX0_22 lx_5 rfl dX0_find_4) dX0_find_7 rfl))
set_option maxRecDepth 20000 in
theorem t_Names_find_2_2 : fw_B s_Names_find_2 [(0, 7), (1, 1), (3, 0)] 0 10 21 23 (nB (zB 1 (o2 cmpL (ldE 384 26 (thE (cE 0) (cE 0)) (vE 3)) (vE 1)))) := (fb_not (fb_if_ne (fe_lcmp (fe_lald (fe_getR (fe_aloadn 0 rfl dX0_find_10) fl_RX0_11 lx_5 rfl dX0_find_11) (fe_iloadn 2 rfl dX0_find_14) lx_6 dX0_find_15) (fe_lloadn 1 rfl dX0_find_16) dX0_find_17) dX0_find_18 rfl))
set_option maxRecDepth 20000 in
theorem t_Names_find_2_3 {N B C : Nat × FT} : fw_S s_Names_find_2 [(0, 7), (1, 1), (3, 0)] 21 (rtS (vE 3)) N B C := fs_ret (fe_iloadn 2 rfl dX0_find_21) dX0_find_22
set_option maxRecDepth 20000 in
theorem t_Names_find_2_4 {B C : Nat × FT} : fw_S s_Names_find_2 [(0, 7), (1, 1), (3, 0)] 23 (inS 3 1) (26, [(0, 7), (1, 1), (3, 0)]) B C := fs_inc (j := 2) rfl dX0_find_23 (by decide) rfl
set_option maxRecDepth 20000 in
theorem t_Names_find_2_5 {B C : Nat × FT} : fw_S s_Names_find_2 [(0, 7), (1, 1), (3, 0)] 2 (whS (nB (cB 3 (vE 3) (thE (cE 0) (gE 320)))) (ifS (nB (zB 1 (o2 cmpL (ldE 384 26 (thE (cE 0) (cE 0)) (vE 3)) (vE 1)))) (rtS (vE 3)) skS) (inS 3 1) FU) (29, [(0, 7), (1, 1), (3, 0)]) B C := fs_while t_Names_find_2_1 (fs_if t_Names_find_2_2 t_Names_find_2_3 (fs_skip rfl)) (fs_goto t_Names_find_2_4 dX0_find_26 rfl)
set_option maxRecDepth 20000 in
theorem t_Names_find_2_6 {N B C : Nat × FT} : fw_S s_Names_find_2 [(0, 7), (1, 1)] 29 (rtS (cE (-1))) N B C := fs_ret (fe_iconst dX0_find_29) dX0_find_30
set_option maxRecDepth 20000 in
theorem C_Names_find_2 : fw_C LX yX0_find cX0_find 4 (some .int) 1 [7, 1] (some 0) m_Names_find_2 := fm_i (d := 1) (N := (0, [])) (B := (0, [])) (C := (0, [])) LX_ok (by decide +kernel) (show fw_S s_Names_find_2 _ 0 b_Names_find_2 _ _ _ from (fs_seq (fs_seq t_Names_find_2_0 (fs_weak t_Names_find_2_5 rfl)) t_Names_find_2_6)) (by decide)
/-! DyerBells$Names.takeTold (this 5 now.river.names) -/
abbrev s_Names_takeTold_2 : SI := (LX, RX0, cX0_takeTold, 4, 3, some 0)
set_option maxRecDepth 20000 in
theorem t_Names_takeTold_2_0 : fw_B s_Names_takeTold_2 [(0, 7), (1, 3), (2, 0)] 0 0 7 14 (nB (zB 1 (clE m_Tape_isName [(cE 0)]))) := (fb_not (fb_if_ne (fe_callV (fa_cons (fe_aloadn 1 rfl dX0_takeTold_0) fa_nil) C_Tape_isName lv_RX0_32 lx_1 rfl rfl (by decide) (by decide) (by decide) dX0_takeTold_1) dX0_takeTold_4 rfl))
set_option maxRecDepth 20000 in
theorem t_Names_takeTold_2_1 {B C : Nat × FT} : fw_S s_Names_takeTold_2 [(0, 7), (1, 3), (2, 0)] 7 (exS (clE m_Tape_refuse [(cE 0), (cE 1)])) (12, [(0, 7), (1, 3), (2, 0)]) B C := fs_callV (t := 0) (fa_cons (fe_aloadn 1 rfl dX0_takeTold_7) (fa_cons (fe_iconst dX0_takeTold_8) fa_nil)) C_Tape_refuse lv_RX0_38 lx_1 rfl rfl (by decide) (by decide) dX0_takeTold_9 rfl
set_option maxRecDepth 20000 in
theorem t_Names_takeTold_2_2 {N B C : Nat × FT} : fw_S s_Names_takeTold_2 [(0, 7), (1, 3), (2, 0)] 12 (rtS (cE (-1))) N B C := fs_ret (fe_iconst dX0_takeTold_12) dX0_takeTold_13
set_option maxRecDepth 20000 in
theorem t_Names_takeTold_2_3 {B C : Nat × FT} : fw_S s_Names_takeTold_2 [(0, 7), (1, 3), (2, 0)] 14 (stS 3 (clE m_Names_find_2 [(cE 0), (thE (cE 0) (gE 73))])) (23, [(0, 7), (1, 3), (2, 0), (3, 0)]) B C := fs_istn (fe_callV (fa_cons (fe_aloadn 0 rfl dX0_takeTold_14) (fa_cons (fe_getL (fe_aloadn 1 rfl dX0_takeTold_15) fl_RX0_42 lx_1 rfl dX0_takeTold_16) fa_nil)) C_Names_find_2 lv_RX0_45 lx_5 rfl rfl (by decide) (by decide) (by decide) dX0_takeTold_19) dX0_takeTold_22 (by decide) rfl
set_option maxRecDepth 20000 in
theorem t_Names_takeTold_2_4 : fw_B s_Names_takeTold_2 [(0, 7), (1, 3), (2, 0), (3, 0)] 0 23 38 45 (orB (cB 0 (vE 3) (cE (-1))) (nB (cB 0 (ldE 448 26 (thE (cE 0) (cE 0)) (vE 3)) (vE 2)))) := (fb_or (fb_icmp_eq (fe_iloadn 3 rfl dX0_takeTold_23) (fe_iconst dX0_takeTold_24) dX0_takeTold_25 rfl) (fb_not (fb_icmp_eq (fe_iald (fe_getR (fe_aloadn 0 rfl dX0_takeTold_28) fl_RX0_15 lx_5 rfl dX0_takeTold_29) (fe_iloadn 3 rfl dX0_takeTold_32) lx_7 dX0_takeTold_33) (fe_iloadn 2 rfl dX0_takeTold_34) dX0_takeTold_35 rfl)))
set_option maxRecDepth 20000 in
theorem t_Names_takeTold_2_5 {B C : Nat × FT} : fw_S s_Names_takeTold_2 [(0, 7), (1, 3), (2, 0), (3, 0)] 38 (exS (clE m_Tape_refuse [(cE 0), (cE 3)])) (43, [(0, 7), (1, 3), (2, 0), (3, 0)]) B C := fs_callV (t := 0) (fa_cons (fe_aloadn 1 rfl dX0_takeTold_38) (fa_cons (fe_iconst dX0_takeTold_39) fa_nil)) C_Tape_refuse lv_RX0_38 lx_1 rfl rfl (by decide) (by decide) dX0_takeTold_40 rfl
set_option maxRecDepth 20000 in
theorem t_Names_takeTold_2_6 {N B C : Nat × FT} : fw_S s_Names_takeTold_2 [(0, 7), (1, 3), (2, 0), (3, 0)] 43 (rtS (cE (-1))) N B C := fs_ret (fe_iconst dX0_takeTold_43) dX0_takeTold_44
set_option maxRecDepth 20000 in
theorem t_Names_takeTold_2_7 {B C : Nat × FT} : fw_S s_Names_takeTold_2 [(0, 7), (1, 3), (2, 0), (3, 0)] 45 (exS (clE m_Tape_advance [(cE 0)])) (49, [(0, 7), (1, 3), (2, 0), (3, 0)]) B C := fs_callV (t := 0) (fa_cons (fe_aloadn 1 rfl dX0_takeTold_45) fa_nil) C_Tape_advance lv_RX0_49 lx_1 rfl rfl (by decide) (by decide) dX0_takeTold_46 rfl
set_option maxRecDepth 20000 in
theorem t_Names_takeTold_2_8 {N B C : Nat × FT} : fw_S s_Names_takeTold_2 [(0, 7), (1, 3), (2, 0), (3, 0)] 49 (rtS (kE (nB (zB 1 (thE (cE 0) (gE 74)))) (ldE 512 26 (thE (cE 0) (cE 0)) (vE 3)) (cE (-1)))) N B C := fs_ret (fe_ternG (fb_not (fb_if_ne (fe_getI (fe_aloadn 1 rfl dX0_takeTold_49) fl_RX0_52 lx_1 rfl dX0_takeTold_50) dX0_takeTold_53 rfl)) (fe_gt (fe_iald (fe_getR (fe_aloadn 0 rfl dX0_takeTold_56) fl_RX0_19 lx_5 rfl dX0_takeTold_57) (fe_iloadn 3 rfl dX0_takeTold_60) lx_8 dX0_takeTold_61) dX0_takeTold_62 rfl) (fe_iconst dX0_takeTold_65)) dX0_takeTold_66
set_option maxRecDepth 20000 in
theorem C_Names_takeTold_2 : fw_C LX yX0_takeTold cX0_takeTold 4 (some .int) 3 [7, 3, 0] (some 0) m_Names_takeTold_2 := fm_i (d := 3) (N := (0, [])) (B := (0, [])) (C := (0, [])) LX_ok (by decide +kernel) (show fw_S s_Names_takeTold_2 _ 0 b_Names_takeTold_2 _ _ _ from (fs_seq (fs_if t_Names_takeTold_2_0 (fs_seq t_Names_takeTold_2_1 t_Names_takeTold_2_2) (fs_skip rfl)) (fs_seq t_Names_takeTold_2_3 (fs_seq (fs_if t_Names_takeTold_2_4 (fs_seq t_Names_takeTold_2_5 t_Names_takeTold_2_6) (fs_skip rfl)) (fs_seq t_Names_takeTold_2_7 t_Names_takeTold_2_8))))) (by decide)
/-! DyerBells$Order.add (this 55 draft.order) -/
abbrev s_Order_add : SI := (LX, RX1, cX1_add, 4, 1, none)
set_option maxRecDepth 20000 in
theorem t_Order_add_0 : fw_B s_Order_add [(0, 57), (1, 0), (2, 0), (3, 0)] 0 0 9 49 (nB (cB 3 (thE (cE 0) (gE 3520)) (cE 40))) := (fb_not (fb_icmp_ge (fe_getI (fe_aloadn 0 rfl dX1_add_0) fl_RX1_21 lx_55 rfl dX1_add_1) (fe_bipush dX1_add_4) dX1_add_6 rfl))
set_option maxRecDepth 20000 in
theorem t_Order_add_1 {B C : Nat × FT} : fw_S s_Order_add [(0, 57), (1, 0), (2, 0), (3, 0)] 9 (asS 3584 40 idI (thE (cE 0) (cE 0)) (thE (cE 0) (gE 3520)) (vE 1)) (19, [(0, 57), (1, 0), (2, 0), (3, 0)]) B C := fs_iast (fe_getR (fe_aloadn 0 rfl dX1_add_9) fl_RX1_9 lx_55 rfl dX1_add_10) (fe_getI (fe_aloadn 0 rfl dX1_add_13) fl_RX1_21 lx_55 rfl dX1_add_14) (fe_iloadn 1 rfl dX1_add_17) lx_56 dX1_add_18 rfl
set_option maxRecDepth 20000 in
theorem t_Order_add_2 {B C : Nat × FT} : fw_S s_Order_add [(0, 57), (1, 0), (2, 0), (3, 0)] 19 (asS 3648 40 idI (thE (cE 0) (cE 0)) (thE (cE 0) (gE 3520)) (vE 2)) (29, [(0, 57), (1, 0), (2, 0), (3, 0)]) B C := fs_iast (fe_getR (fe_aloadn 0 rfl dX1_add_19) fl_RX1_15 lx_55 rfl dX1_add_20) (fe_getI (fe_aloadn 0 rfl dX1_add_23) fl_RX1_21 lx_55 rfl dX1_add_24) (fe_iloadn 2 rfl dX1_add_27) lx_57 dX1_add_28 rfl
set_option maxRecDepth 20000 in
theorem t_Order_add_3 {B C : Nat × FT} : fw_S s_Order_add [(0, 57), (1, 0), (2, 0), (3, 0)] 29 (asS 3712 40 idI (thE (cE 0) (cE 0)) (thE (cE 0) (gE 3520)) (vE 3)) (39, [(0, 57), (1, 0), (2, 0), (3, 0)]) B C := fs_iast (fe_getR (fe_aloadn 0 rfl dX1_add_29) fl_RX1_18 lx_55 rfl dX1_add_30) (fe_getI (fe_aloadn 0 rfl dX1_add_33) fl_RX1_21 lx_55 rfl dX1_add_34) (fe_iloadn 3 rfl dX1_add_37) lx_58 dX1_add_38 rfl
set_option maxRecDepth 20000 in
theorem t_Order_add_4 {B C : Nat × FT} : fw_S s_Order_add [(0, 57), (1, 0), (2, 0), (3, 0)] 39 (poS 3520 addI (cE 0) (cE 1)) (49, [(0, 57), (1, 0), (2, 0), (3, 0)]) B C := fs_po_add (fe_aloadn 0 rfl dX1_add_39) dX1_add_40 dX1_add_41 (fe_iconst dX1_add_44) dX1_add_45 fp_RX1_21 lx_55 rfl dX1_add_46 rfl
set_option maxRecDepth 20000 in
theorem t_Order_add_5 {N B C : Nat × FT} : fw_S s_Order_add [(0, 57), (1, 0), (2, 0), (3, 0)] 49 rvS N B C := fs_rv dX1_add_49
set_option maxRecDepth 20000 in
theorem C_Order_add : fw_C LX yX1_add cX1_add 4 none 1 [57, 0, 0, 0] (none) m_Order_add := fm_v (d := 1) (N := (0, [])) (B := (0, [])) (C := (0, [])) LX_ok (by decide +kernel) (show fw_S s_Order_add _ 0 b_Order_add _ _ _ from (fs_seq (fs_if t_Order_add_0 (fs_seq t_Order_add_1 (fs_seq t_Order_add_2 (fs_seq t_Order_add_3 t_Order_add_4))) (fs_skip rfl)) t_Order_add_5)) (by decide)
/-! DyerBells$Order.readBell (this 55 draft.order) -/
abbrev s_Order_readBell : SI := (LX, RX1, cX1_readBell, 7, 4, none)
set_option maxRecDepth 20000 in
theorem t_Order_readBell_0 : fw_B s_Order_readBell [(0, 57), (1, 3), (2, 7)] 0 0 10 16 (nB (zB 1 (clE m_Tape_isWord [(cE 0), (cE 1650814060)]))) := (fb_not (fb_if_ne (fe_callV (fa_cons (fe_aloadn 1 rfl dX1_readBell_0) (fa_cons (fe_ldc2 dX1_readBell_1 wk_RX1_44) fa_nil)) C_Tape_isWord lv_RX1_46 lx_1 rfl rfl (by decide) (by decide) (by decide) dX1_readBell_4) dX1_readBell_7 rfl))
set_option maxRecDepth 20000 in
theorem t_Order_readBell_1 {B C : Nat × FT} : fw_S s_Order_readBell [(0, 57), (1, 3), (2, 7)] 10 (exS (clE m_Tape_refuse [(cE 0), (cE 1)])) (15, [(0, 57), (1, 3), (2, 7)]) B C := fs_callV (t := 0) (fa_cons (fe_aloadn 1 rfl dX1_readBell_10) (fa_cons (fe_iconst dX1_readBell_11) fa_nil)) C_Tape_refuse lv_RX1_50 lx_1 rfl rfl (by decide) (by decide) dX1_readBell_12 rfl
set_option maxRecDepth 20000 in
theorem t_Order_readBell_2 {N B C : Nat × FT} : fw_S s_Order_readBell [(0, 57), (1, 3), (2, 7)] 15 rvS N B C := fs_rv dX1_readBell_15
set_option maxRecDepth 20000 in
theorem t_Order_readBell_3 : fw_B s_Order_readBell [(0, 57), (1, 3), (2, 7)] 0 16 25 31 (nB (cB 2 (thE (cE 0) (gE 3520)) (cE 40))) := (fb_not (fb_icmp_lt (fe_getI (fe_aloadn 0 rfl dX1_readBell_16) fl_RX1_21 lx_55 rfl dX1_readBell_17) (fe_bipush dX1_readBell_20) dX1_readBell_22 rfl))
set_option maxRecDepth 20000 in
theorem t_Order_readBell_4 {B C : Nat × FT} : fw_S s_Order_readBell [(0, 57), (1, 3), (2, 7)] 25 (exS (clE m_Tape_refuse [(cE 0), (cE 4)])) (30, [(0, 57), (1, 3), (2, 7)]) B C := fs_callV (t := 0) (fa_cons (fe_aloadn 1 rfl dX1_readBell_25) (fa_cons (fe_iconst dX1_readBell_26) fa_nil)) C_Tape_refuse lv_RX1_50 lx_1 rfl rfl (by decide) (by decide) dX1_readBell_27 rfl
set_option maxRecDepth 20000 in
theorem t_Order_readBell_5 {N B C : Nat × FT} : fw_S s_Order_readBell [(0, 57), (1, 3), (2, 7)] 30 rvS N B C := fs_rv dX1_readBell_30
set_option maxRecDepth 20000 in
theorem t_Order_readBell_6 {B C : Nat × FT} : fw_S s_Order_readBell [(0, 57), (1, 3), (2, 7)] 31 (exS (clE m_Tape_advance [(cE 0)])) (35, [(0, 57), (1, 3), (2, 7)]) B C := fs_callV (t := 0) (fa_cons (fe_aloadn 1 rfl dX1_readBell_31) fa_nil) C_Tape_advance lv_RX1_54 lx_1 rfl rfl (by decide) (by decide) dX1_readBell_32 rfl
set_option maxRecDepth 20000 in
theorem t_Order_readBell_7 {B C : Nat × FT} : fw_S s_Order_readBell [(0, 57), (1, 3), (2, 7)] 35 (stS 3 (clE m_Tape_takeNumber [(cE 0), (cE 0), (cE 6)])) (43, [(0, 57), (1, 3), (2, 7), (3, 0)]) B C := fs_istn (fe_callV (fa_cons (fe_aloadn 1 rfl dX1_readBell_35) (fa_cons (fe_iconst dX1_readBell_36) (fa_cons (fe_bipush dX1_readBell_37) fa_nil))) C_Tape_takeNumber lv_RX1_57 lx_1 rfl rfl (by decide) (by decide) (by decide) dX1_readBell_39) dX1_readBell_42 (by decide) rfl
set_option maxRecDepth 20000 in
theorem t_Order_readBell_8 {B C : Nat × FT} : fw_S s_Order_readBell [(0, 57), (1, 3), (2, 7), (3, 0)] 43 (stS 4 (o2 addI (o2 mulI (vE 3) (cE 24)) (clE m_Tape_takeNumber [(cE 0), (cE 0), (cE 23)]))) (57, [(0, 57), (1, 3), (2, 7), (3, 0), (4, 0)]) B C := fs_ist (fe_iadd (fe_imul (fe_iloadn 3 rfl dX1_readBell_43) (fe_bipush dX1_readBell_44) dX1_readBell_46) (fe_callV (fa_cons (fe_aloadn 1 rfl dX1_readBell_47) (fa_cons (fe_iconst dX1_readBell_48) (fa_cons (fe_bipush dX1_readBell_49) fa_nil))) C_Tape_takeNumber lv_RX1_57 lx_1 rfl rfl (by decide) (by decide) (by decide) dX1_readBell_51) dX1_readBell_54) dX1_readBell_55 (by decide) rfl
set_option maxRecDepth 20000 in
theorem t_Order_readBell_9 {B C : Nat × FT} : fw_S s_Order_readBell [(0, 57), (1, 3), (2, 7), (3, 0), (4, 0)] 57 (stS 5 (clE m_Names_takeTold_2 [(cE 0), (cE 0), (cE 2)])) (65, [(0, 57), (1, 3), (2, 7), (3, 0), (4, 0), (5, 0)]) B C := fs_ist (fe_callV (fa_cons (fe_aloadn 2 rfl dX1_readBell_57) (fa_cons (fe_aloadn 1 rfl dX1_readBell_58) (fa_cons (fe_iconst dX1_readBell_59) fa_nil))) C_Names_takeTold_2 lv_RX1_63 lx_5 rfl rfl (by decide) (by decide) (by decide) dX1_readBell_60) dX1_readBell_63 (by decide) rfl
set_option maxRecDepth 20000 in
theorem t_Order_readBell_10 {B C : Nat × FT} : fw_S s_Order_readBell [(0, 57), (1, 3), (2, 7), (3, 0), (4, 0), (5, 0)] 65 (stS 6 (clE m_Tape_takeNumber [(cE 0), (cE 1), (o2 minI (cE 24) (o2 subI (cE 168) (vE 4)))])) (83, [(0, 57), (1, 3), (2, 7), (3, 0), (4, 0), (5, 0), (6, 0)]) B C := fs_ist (fe_callV (fa_cons (fe_aloadn 1 rfl dX1_readBell_65) (fa_cons (fe_iconst dX1_readBell_66) (fa_cons (fe_min (fe_bipush dX1_readBell_67) (fe_isub (fe_sipush dX1_readBell_69) (fe_iload 4 rfl dX1_readBell_72) dX1_readBell_74) mm_RX1_67 (by decide) (by decide) dX1_readBell_75) fa_nil))) C_Tape_takeNumber lv_RX1_57 lx_1 rfl rfl (by decide) (by decide) (by decide) dX1_readBell_78) dX1_readBell_81 (by decide) rfl
set_option maxRecDepth 20000 in
theorem t_Order_readBell_11 {B C : Nat × FT} : fw_S s_Order_readBell [(0, 57), (1, 3), (2, 7), (3, 0), (4, 0), (5, 0), (6, 0)] 83 (exS (clE m_Tape_takeSign [(cE 0), (cE 59)])) (89, [(0, 57), (1, 3), (2, 7), (3, 0), (4, 0), (5, 0), (6, 0)]) B C := fs_callV (t := 0) (fa_cons (fe_aloadn 1 rfl dX1_readBell_83) (fa_cons (fe_bipush dX1_readBell_84) fa_nil)) C_Tape_takeSign lv_RX1_72 lx_1 rfl rfl (by decide) (by decide) dX1_readBell_86 rfl
set_option maxRecDepth 20000 in
theorem t_Order_readBell_12 : fw_B s_Order_readBell [(0, 57), (1, 3), (2, 7), (3, 0), (4, 0), (5, 0), (6, 0)] 0 89 96 106 (nB (zB 1 (thE (cE 0) (gE 74)))) := (fb_not (fb_if_ne (fe_getI (fe_aloadn 1 rfl dX1_readBell_89) fl_RX1_75 lx_1 rfl dX1_readBell_90) dX1_readBell_93 rfl))
set_option maxRecDepth 20000 in
theorem t_Order_readBell_13 {B C : Nat × FT} : fw_S s_Order_readBell [(0, 57), (1, 3), (2, 7), (3, 0), (4, 0), (5, 0), (6, 0)] 96 (exS (clE m_Order_add [(cE 0), (vE 4), (vE 5), (vE 6)])) (106, [(0, 57), (1, 3), (2, 7), (3, 0), (4, 0), (5, 0), (6, 0)]) B C := fs_callV (t := 0) (fa_cons (fe_aloadn 0 rfl dX1_readBell_96) (fa_cons (fe_iload 4 rfl dX1_readBell_97) (fa_cons (fe_iload 5 rfl dX1_readBell_99) (fa_cons (fe_iload 6 rfl dX1_readBell_101) fa_nil)))) C_Order_add lv_RX1_78 lx_55 rfl rfl (by decide) (by decide) dX1_readBell_103 rfl
set_option maxRecDepth 20000 in
theorem t_Order_readBell_14 {N B C : Nat × FT} : fw_S s_Order_readBell [(0, 57), (1, 3), (2, 7), (3, 0), (4, 0), (5, 0), (6, 0)] 106 rvS N B C := fs_rv dX1_readBell_106
set_option maxRecDepth 20000 in
theorem C_Order_readBell : fw_C LX yX1_readBell cX1_readBell 7 none 4 [57, 3, 7] (none) m_Order_readBell := fm_v (d := 4) (N := (0, [])) (B := (0, [])) (C := (0, [])) LX_ok (by decide +kernel) (show fw_S s_Order_readBell _ 0 b_Order_readBell _ _ _ from (fs_seq (fs_if t_Order_readBell_0 (fs_seq t_Order_readBell_1 t_Order_readBell_2) (fs_skip rfl)) (fs_seq (fs_if t_Order_readBell_3 (fs_seq t_Order_readBell_4 t_Order_readBell_5) (fs_skip rfl)) (fs_seq t_Order_readBell_6 (fs_seq t_Order_readBell_7 (fs_seq t_Order_readBell_8 (fs_seq t_Order_readBell_9 (fs_seq t_Order_readBell_10 (fs_seq t_Order_readBell_11 (fs_seq (fs_if t_Order_readBell_12 t_Order_readBell_13 (fs_skip rfl)) t_Order_readBell_14)))))))))) (by decide)
/-! DyerBells$Order.readBells (this 55 draft.order) -/
abbrev s_Order_readBells : SI := (LX, RX1, cX1_readBells, 4, 5, none)
set_option maxRecDepth 20000 in
theorem t_Order_readBells_0 {B C : Nat × FT} : fw_S s_Order_readBells [(0, 57), (1, 3), (2, 7)] 0 (stS 3 (cE 0)) (2, [(0, 57), (1, 3), (2, 7), (3, 0)]) B C := fs_istn (fe_iconst dX1_readBells_0) dX1_readBells_1 (by decide) rfl
set_option maxRecDepth 20000 in
theorem t_Order_readBells_1 : fw_B s_Order_readBells [(0, 57), (1, 3), (2, 7), (3, 0)] 0 2 15 27 (andB (nB (cB 4 (vE 3) (cE 40))) (nB (zB 0 (clE m_Tape_goesOn [(cE 0)])))) := (fb_and (fb_not (fb_icmp_gt (fe_iloadn 3 rfl dX1_readBells_2) (fe_bipush dX1_readBells_3) dX1_readBells_5 rfl)) (fb_not (fb_if_eq (fe_callV (fa_cons (fe_aloadn 1 rfl dX1_readBells_8) fa_nil) C_Tape_goesOn lv_RX1_31 lx_1 rfl rfl (by decide) (by decide) (by decide) dX1_readBells_9) dX1_readBells_12 rfl)))
set_option maxRecDepth 20000 in
theorem t_Order_readBells_2 {B C : Nat × FT} : fw_S s_Order_readBells [(0, 57), (1, 3), (2, 7), (3, 0)] 15 (exS (clE m_Order_readBell [(cE 0), (cE 0), (cE 0)])) (21, [(0, 57), (1, 3), (2, 7), (3, 0)]) B C := fs_callV (t := 0) (fa_cons (fe_aloadn 0 rfl dX1_readBells_15) (fa_cons (fe_aloadn 1 rfl dX1_readBells_16) (fa_cons (fe_aloadn 2 rfl dX1_readBells_17) fa_nil))) C_Order_readBell lv_RX1_37 lx_55 rfl rfl (by decide) (by decide) dX1_readBells_18 rfl
set_option maxRecDepth 20000 in
theorem t_Order_readBells_3 {B C : Nat × FT} : fw_S s_Order_readBells [(0, 57), (1, 3), (2, 7), (3, 0)] 21 (inS 3 1) (24, [(0, 57), (1, 3), (2, 7), (3, 0)]) B C := fs_inc (j := 3) rfl dX1_readBells_21 (by decide) rfl
set_option maxRecDepth 20000 in
theorem t_Order_readBells_4 {B C : Nat × FT} : fw_S s_Order_readBells [(0, 57), (1, 3), (2, 7), (3, 0)] 2 (whS (andB (nB (cB 4 (vE 3) (cE 40))) (nB (zB 0 (clE m_Tape_goesOn [(cE 0)])))) (exS (clE m_Order_readBell [(cE 0), (cE 0), (cE 0)])) (inS 3 1) FU) (27, [(0, 57), (1, 3), (2, 7), (3, 0)]) B C := fs_while t_Order_readBells_1 t_Order_readBells_2 (fs_goto t_Order_readBells_3 dX1_readBells_24 rfl)
set_option maxRecDepth 20000 in
theorem t_Order_readBells_5 {B C : Nat × FT} : fw_S s_Order_readBells [(0, 57), (1, 3), (2, 7)] 27 (exS (clE m_Tape_close [(cE 0)])) (31, [(0, 57), (1, 3), (2, 7)]) B C := fs_callV (t := 0) (fa_cons (fe_aloadn 1 rfl dX1_readBells_27) fa_nil) C_Tape_close lv_RX1_41 lx_1 rfl rfl (by decide) (by decide) dX1_readBells_28 rfl
set_option maxRecDepth 20000 in
theorem t_Order_readBells_6 {N B C : Nat × FT} : fw_S s_Order_readBells [(0, 57), (1, 3), (2, 7)] 31 rvS N B C := fs_rv dX1_readBells_31
set_option maxRecDepth 20000 in
theorem C_Order_readBells : fw_C LX yX1_readBells cX1_readBells 4 none 5 [57, 3, 7] (none) m_Order_readBells := fm_v (d := 5) (N := (0, [])) (B := (0, [])) (C := (0, [])) LX_ok (by decide +kernel) (show fw_S s_Order_readBells _ 0 b_Order_readBells _ _ _ from (fs_seq (fs_seq t_Order_readBells_0 (fs_weak t_Order_readBells_4 rfl)) (fs_seq t_Order_readBells_5 t_Order_readBells_6))) (by decide)
/-! DyerBells.order (this 0 ) -/
abbrev s_D_order : SI := (LX, RX11, cX11_order, 1, 6, some 0)
set_option maxRecDepth 20000 in
theorem t_D_order_0 {B C : Nat × FT} : fw_S s_D_order [(0, 2)] 0 (exS (clE m_Order_forget [(thE (thE (cE 0) (cE 0)) (cE 0))])) (10, [(0, 2)]) B C := fs_callV (t := 0) (fa_cons (fe_getR (fe_getR (fe_aloadn 0 rfl dX11_order_0) fl_RX11_23 lx_0 rfl dX11_order_1) fl_RX11_150 lx_36 rfl dX11_order_4) fa_nil) C_Order_forget lv_RX11_154 lx_55 rfl rfl (by decide) (by decide) dX11_order_7 rfl
set_option maxRecDepth 20000 in
theorem t_D_order_1 {B C : Nat × FT} : fw_S s_D_order [(0, 2)] 10 (exS (clE m_Tape_open [(thE (cE 0) (cE 0)), (cE 600)])) (20, [(0, 2)]) B C := fs_callV (t := 0) (fa_cons (fe_getR (fe_aloadn 0 rfl dX11_order_10) fl_RX11_12 lx_0 rfl dX11_order_11) (fa_cons (fe_sipush dX11_order_14) fa_nil)) C_Tape_open lv_RX11_74 lx_1 rfl rfl (by decide) (by decide) dX11_order_17 rfl
set_option maxRecDepth 20000 in
theorem t_D_order_2 {B C : Nat × FT} : fw_S s_D_order [(0, 2)] 20 (exS (clE m_Order_readBells [(thE (thE (cE 0) (cE 0)) (cE 0)), (thE (cE 0) (cE 0)), (thE (thE (thE (cE 0) (cE 0)) (cE 0)) (cE 0))])) (44, [(0, 2)]) B C := fs_callV (t := 0) (fa_cons (fe_getR (fe_getR (fe_aloadn 0 rfl dX11_order_20) fl_RX11_23 lx_0 rfl dX11_order_21) fl_RX11_150 lx_36 rfl dX11_order_24) (fa_cons (fe_getR (fe_aloadn 0 rfl dX11_order_27) fl_RX11_12 lx_0 rfl dX11_order_28) (fa_cons (fe_getR (fe_getR (fe_getR (fe_aloadn 0 rfl dX11_order_31) fl_RX11_19 lx_0 rfl dX11_order_32) fl_RX11_77 lx_3 rfl dX11_order_35) fl_RX11_157 lx_4 rfl dX11_order_38) fa_nil))) C_Order_readBells lv_RX11_161 lx_55 rfl rfl (by decide) (by decide) dX11_order_41 rfl
set_option maxRecDepth 20000 in
theorem t_D_order_3 : fw_B s_D_order [(0, 2)] 0 44 51 61 (nB (zB 0 (clE m_D_isRefused [(cE 0)]))) := (fb_not (fb_if_eq (fe_callV (fa_cons (fe_aloadn 0 rfl dX11_order_44) fa_nil) C_D_isRefused lv_RX11_87 lx_0 rfl rfl (by decide) (by decide) (by decide) dX11_order_45) dX11_order_48 rfl))
set_option maxRecDepth 20000 in
theorem t_D_order_4 {N B C : Nat × FT} : fw_S s_D_order [(0, 2)] 51 (rtS (o2 subI (cE (-1)) (thE (thE (cE 0) (cE 0)) (gE 75)))) N B C := fs_ret (fe_isub (fe_iconst dX11_order_51) (fe_getI (fe_getR (fe_aloadn 0 rfl dX11_order_52) fl_RX11_12 lx_0 rfl dX11_order_53) fl_RX11_91 lx_1 rfl dX11_order_56) dX11_order_59) dX11_order_60
set_option maxRecDepth 20000 in
theorem t_D_order_5 {B C : Nat × FT} : fw_S s_D_order [(0, 2)] 61 (exS (clE m_Order_copyFrom [(thE (thE (cE 0) (cE 0)) (cE 0)), (thE (thE (cE 0) (cE 0)) (cE 0))])) (78, [(0, 2)]) B C := fs_callV (t := 0) (fa_cons (fe_getR (fe_getR (fe_aloadn 0 rfl dX11_order_61) fl_RX11_19 lx_0 rfl dX11_order_62) fl_RX11_150 lx_3 rfl dX11_order_65) (fa_cons (fe_getR (fe_getR (fe_aloadn 0 rfl dX11_order_68) fl_RX11_23 lx_0 rfl dX11_order_69) fl_RX11_150 lx_36 rfl dX11_order_72) fa_nil)) C_Order_copyFrom lv_RX11_165 lx_22 rfl rfl (by decide) (by decide) dX11_order_75 rfl
set_option maxRecDepth 20000 in
theorem t_D_order_6 {B C : Nat × FT} : fw_S s_D_order [(0, 2)] 78 (pzS 10 (cE 0) (cE 1)) (83, [(0, 2)]) B C := fs_putZ (fe_aloadn 0 rfl dX11_order_78) (fe_iconst dX11_order_79) fp_RX11_46 lx_0 rfl dX11_order_80 rfl
set_option maxRecDepth 20000 in
theorem t_D_order_7 {N B C : Nat × FT} : fw_S s_D_order [(0, 2)] 83 (rtS (thE (thE (thE (cE 0) (cE 0)) (cE 0)) (gE 1408))) N B C := fs_ret (fe_getI (fe_getR (fe_getR (fe_aloadn 0 rfl dX11_order_83) fl_RX11_19 lx_0 rfl dX11_order_84) fl_RX11_150 lx_3 rfl dX11_order_87) fl_RX11_168 lx_22 rfl dX11_order_90) dX11_order_93
set_option maxRecDepth 20000 in
theorem C_D_order : fw_C LX yX11_order cX11_order 1 (some .int) 6 [2] (some 0) m_D_order := fm_i (d := 6) (N := (0, [])) (B := (0, [])) (C := (0, [])) LX_ok (by decide +kernel) (show fw_S s_D_order _ 0 b_D_order _ _ _ from (fs_seq t_D_order_0 (fs_seq t_D_order_1 (fs_seq t_D_order_2 (fs_seq (fs_if t_D_order_3 t_D_order_4 (fs_skip rfl)) (fs_seq t_D_order_5 (fs_seq t_D_order_6 t_D_order_7))))))) (by decide)
/-! DyerBells.isHour (this 0 ) -/
abbrev s_D_isHour : SI := (LX, RX11, cX11_isHour, 2, 1, some 0)
set_option maxRecDepth 20000 in
theorem t_D_isHour_0 {N B C : Nat × FT} : fw_S s_D_isHour [(0, 2), (1, 0)] 0 (rtS (kE (andB (nB (zB 2 (vE 1))) (nB (cB 3 (vE 1) (cE 168)))) (cE 1) (cE 0))) N B C := fs_ret (fe_ternG (fb_and (fb_not (fb_if_lt (fe_iloadn 1 rfl dX11_isHour_0) dX11_isHour_1 rfl)) (fb_not (fb_icmp_ge (fe_iloadn 1 rfl dX11_isHour_4) (fe_sipush dX11_isHour_5) dX11_isHour_8 rfl))) (fe_gt (fe_iconst dX11_isHour_11) dX11_isHour_12 rfl) (fe_iconst dX11_isHour_15)) dX11_isHour_16
set_option maxRecDepth 20000 in
theorem C_D_isHour : fw_C LX yX11_isHour cX11_isHour 2 (some .boolean) 1 [2, 0] (some 0) m_D_isHour := fm_z (d := 1) (N := (0, [])) (B := (0, [])) (C := (0, [])) LX_ok (by decide +kernel) (show fw_S s_D_isHour _ 0 b_D_isHour _ _ _ from t_D_isHour_0) (by decide)
/-! DyerBells$Order.add (this 22 now.order) -/
abbrev s_Order_add_2 : SI := (LX, RX1, cX1_add, 4, 1, none)
set_option maxRecDepth 20000 in
theorem t_Order_add_2_0 : fw_B s_Order_add_2 [(0, 24), (1, 0), (2, 0), (3, 0)] 0 0 9 49 (nB (cB 3 (thE (cE 0) (gE 1408)) (cE 40))) := (fb_not (fb_icmp_ge (fe_getI (fe_aloadn 0 rfl dX1_add_0) fl_RX1_21 lx_22 rfl dX1_add_1) (fe_bipush dX1_add_4) dX1_add_6 rfl))
set_option maxRecDepth 20000 in
theorem t_Order_add_2_1 {B C : Nat × FT} : fw_S s_Order_add_2 [(0, 24), (1, 0), (2, 0), (3, 0)] 9 (asS 1472 40 idI (thE (cE 0) (cE 0)) (thE (cE 0) (gE 1408)) (vE 1)) (19, [(0, 24), (1, 0), (2, 0), (3, 0)]) B C := fs_iast (fe_getR (fe_aloadn 0 rfl dX1_add_9) fl_RX1_9 lx_22 rfl dX1_add_10) (fe_getI (fe_aloadn 0 rfl dX1_add_13) fl_RX1_21 lx_22 rfl dX1_add_14) (fe_iloadn 1 rfl dX1_add_17) lx_23 dX1_add_18 rfl
set_option maxRecDepth 20000 in
theorem t_Order_add_2_2 {B C : Nat × FT} : fw_S s_Order_add_2 [(0, 24), (1, 0), (2, 0), (3, 0)] 19 (asS 1536 40 idI (thE (cE 0) (cE 0)) (thE (cE 0) (gE 1408)) (vE 2)) (29, [(0, 24), (1, 0), (2, 0), (3, 0)]) B C := fs_iast (fe_getR (fe_aloadn 0 rfl dX1_add_19) fl_RX1_15 lx_22 rfl dX1_add_20) (fe_getI (fe_aloadn 0 rfl dX1_add_23) fl_RX1_21 lx_22 rfl dX1_add_24) (fe_iloadn 2 rfl dX1_add_27) lx_24 dX1_add_28 rfl
set_option maxRecDepth 20000 in
theorem t_Order_add_2_3 {B C : Nat × FT} : fw_S s_Order_add_2 [(0, 24), (1, 0), (2, 0), (3, 0)] 29 (asS 1600 40 idI (thE (cE 0) (cE 0)) (thE (cE 0) (gE 1408)) (vE 3)) (39, [(0, 24), (1, 0), (2, 0), (3, 0)]) B C := fs_iast (fe_getR (fe_aloadn 0 rfl dX1_add_29) fl_RX1_18 lx_22 rfl dX1_add_30) (fe_getI (fe_aloadn 0 rfl dX1_add_33) fl_RX1_21 lx_22 rfl dX1_add_34) (fe_iloadn 3 rfl dX1_add_37) lx_25 dX1_add_38 rfl
set_option maxRecDepth 20000 in
theorem t_Order_add_2_4 {B C : Nat × FT} : fw_S s_Order_add_2 [(0, 24), (1, 0), (2, 0), (3, 0)] 39 (poS 1408 addI (cE 0) (cE 1)) (49, [(0, 24), (1, 0), (2, 0), (3, 0)]) B C := fs_po_add (fe_aloadn 0 rfl dX1_add_39) dX1_add_40 dX1_add_41 (fe_iconst dX1_add_44) dX1_add_45 fp_RX1_21 lx_22 rfl dX1_add_46 rfl
set_option maxRecDepth 20000 in
theorem t_Order_add_2_5 {N B C : Nat × FT} : fw_S s_Order_add_2 [(0, 24), (1, 0), (2, 0), (3, 0)] 49 rvS N B C := fs_rv dX1_add_49
set_option maxRecDepth 20000 in
theorem C_Order_add_2 : fw_C LX yX1_add cX1_add 4 none 1 [24, 0, 0, 0] (none) m_Order_add_2 := fm_v (d := 1) (N := (0, [])) (B := (0, [])) (C := (0, [])) LX_ok (by decide +kernel) (show fw_S s_Order_add_2 _ 0 b_Order_add_2 _ _ _ from (fs_seq (fs_if t_Order_add_2_0 (fs_seq t_Order_add_2_1 (fs_seq t_Order_add_2_2 (fs_seq t_Order_add_2_3 t_Order_add_2_4))) (fs_skip rfl)) t_Order_add_2_5)) (by decide)
/-! DyerBells.ring (this 0 ) -/
abbrev s_D_ring : SI := (LX, RX11, cX11_ring, 5, 2, some 0)
set_option maxRecDepth 20000 in
theorem t_D_ring_0 {B C : Nat × FT} : fw_S s_D_ring [(0, 2), (1, 0), (2, 0), (3, 0)] 0 (stS 4 (kE (andB (andB (andB (andB (nB (zB 0 (clE m_D_isHour [(cE 0), (vE 1)]))) (nB (zB 0 (clE m_D_isGuild [(cE 0), (vE 2)])))) (nB (cB 2 (vE 3) (cE 1)))) (nB (cB 4 (vE 3) (cE 24)))) (nB (cB 4 (o2 addI (vE 1) (vE 3)) (cE 168)))) (cE 1) (cE 0))) (43, [(0, 2), (1, 0), (2, 0), (3, 0), (4, 0)]) B C := fs_ist (fe_ternG (fb_and (fb_and (fb_and (fb_and (fb_not (fb_if_eq (fe_callV (fa_cons (fe_aloadn 0 rfl dX11_ring_0) (fa_cons (fe_iloadn 1 rfl dX11_ring_1) fa_nil)) C_D_isHour lv_RX11_171 lx_0 rfl rfl (by decide) (by decide) (by decide) dX11_ring_2) dX11_ring_5 rfl)) (fb_not (fb_if_eq (fe_callV (fa_cons (fe_aloadn 0 rfl dX11_ring_8) (fa_cons (fe_iloadn 2 rfl dX11_ring_9) fa_nil)) C_D_isGuild lv_RX11_116 lx_0 rfl rfl (by decide) (by decide) (by decide) dX11_ring_10) dX11_ring_13 rfl))) (fb_not (fb_icmp_lt (fe_iloadn 3 rfl dX11_ring_16) (fe_iconst dX11_ring_17) dX11_ring_18 rfl))) (fb_not (fb_icmp_gt (fe_iloadn 3 rfl dX11_ring_21) (fe_bipush dX11_ring_22) dX11_ring_24 rfl))) (fb_not (fb_icmp_gt (fe_iadd (fe_iloadn 1 rfl dX11_ring_27) (fe_iloadn 3 rfl dX11_ring_28) dX11_ring_29) (fe_sipush dX11_ring_30) dX11_ring_33 rfl))) (fe_gt (fe_iconst dX11_ring_36) dX11_ring_37 rfl) (fe_iconst dX11_ring_40)) dX11_ring_41 (by decide) rfl
set_option maxRecDepth 20000 in
theorem t_D_ring_1 : fw_B s_D_ring [(0, 2), (1, 0), (2, 0), (3, 0), (4, 0)] 0 43 63 65 (orB (zB 0 (vE 4)) (nB (cB 2 (thE (thE (thE (cE 0) (cE 0)) (cE 0)) (gE 1408)) (cE 40)))) := (fb_or (fb_if_eq (fe_iload 4 rfl dX11_ring_43) dX11_ring_45 rfl) (fb_not (fb_icmp_lt (fe_getI (fe_getR (fe_getR (fe_aloadn 0 rfl dX11_ring_48) fl_RX11_19 lx_0 rfl dX11_ring_49) fl_RX11_150 lx_3 rfl dX11_ring_52) fl_RX11_168 lx_22 rfl dX11_ring_55) (fe_bipush dX11_ring_58) dX11_ring_60 rfl)))
set_option maxRecDepth 20000 in
theorem t_D_ring_2 {N B C : Nat × FT} : fw_S s_D_ring [(0, 2), (1, 0), (2, 0), (3, 0), (4, 0)] 63 (rtS (cE (-1))) N B C := fs_ret (fe_iconst dX11_ring_63) dX11_ring_64
set_option maxRecDepth 20000 in
theorem t_D_ring_3 {B C : Nat × FT} : fw_S s_D_ring [(0, 2), (1, 0), (2, 0), (3, 0), (4, 0)] 65 (exS (clE m_Order_add_2 [(thE (thE (cE 0) (cE 0)) (cE 0)), (vE 1), (vE 2), (vE 3)])) (78, [(0, 2), (1, 0), (2, 0), (3, 0), (4, 0)]) B C := fs_callV (t := 0) (fa_cons (fe_getR (fe_getR (fe_aloadn 0 rfl dX11_ring_65) fl_RX11_19 lx_0 rfl dX11_ring_66) fl_RX11_150 lx_3 rfl dX11_ring_69) (fa_cons (fe_iloadn 1 rfl dX11_ring_72) (fa_cons (fe_iloadn 2 rfl dX11_ring_73) (fa_cons (fe_iloadn 3 rfl dX11_ring_74) fa_nil)))) C_Order_add_2 lv_RX11_174 lx_22 rfl rfl (by decide) (by decide) dX11_ring_75 rfl
set_option maxRecDepth 20000 in
theorem t_D_ring_4 {B C : Nat × FT} : fw_S s_D_ring [(0, 2), (1, 0), (2, 0), (3, 0), (4, 0)] 78 (pzS 10 (cE 0) (cE 1)) (83, [(0, 2), (1, 0), (2, 0), (3, 0), (4, 0)]) B C := fs_putZ (fe_aloadn 0 rfl dX11_ring_78) (fe_iconst dX11_ring_79) fp_RX11_46 lx_0 rfl dX11_ring_80 rfl
set_option maxRecDepth 20000 in
theorem t_D_ring_5 {N B C : Nat × FT} : fw_S s_D_ring [(0, 2), (1, 0), (2, 0), (3, 0), (4, 0)] 83 (rtS (o2 subI (thE (thE (thE (cE 0) (cE 0)) (cE 0)) (gE 1408)) (cE 1))) N B C := fs_ret (fe_isub (fe_getI (fe_getR (fe_getR (fe_aloadn 0 rfl dX11_ring_83) fl_RX11_19 lx_0 rfl dX11_ring_84) fl_RX11_150 lx_3 rfl dX11_ring_87) fl_RX11_168 lx_22 rfl dX11_ring_90) (fe_iconst dX11_ring_93) dX11_ring_94) dX11_ring_95
set_option maxRecDepth 20000 in
theorem C_D_ring : fw_C LX yX11_ring cX11_ring 5 (some .int) 2 [2, 0, 0, 0] (some 0) m_D_ring := fm_i (d := 2) (N := (0, [])) (B := (0, [])) (C := (0, [])) LX_ok (by decide +kernel) (show fw_S s_D_ring _ 0 b_D_ring _ _ _ from (fs_seq t_D_ring_0 (fs_seq (fs_if t_D_ring_1 t_D_ring_2 (fs_skip rfl)) (fs_seq t_D_ring_3 (fs_seq t_D_ring_4 t_D_ring_5))))) (by decide)
/-! DyerBells.undo (this 0 ) -/
abbrev s_D_undo : SI := (LX, RX11, cX11_undo, 1, 1, some 0)
set_option maxRecDepth 20000 in
theorem t_D_undo_0 : fw_B s_D_undo [(0, 2)] 0 0 13 15 (nB (zB 4 (thE (thE (thE (cE 0) (cE 0)) (cE 0)) (gE 1408)))) := (fb_not (fb_if_gt (fe_getI (fe_getR (fe_getR (fe_aloadn 0 rfl dX11_undo_0) fl_RX11_19 lx_0 rfl dX11_undo_1) fl_RX11_150 lx_3 rfl dX11_undo_4) fl_RX11_168 lx_22 rfl dX11_undo_7) dX11_undo_10 rfl))
set_option maxRecDepth 20000 in
theorem t_D_undo_1 {N B C : Nat × FT} : fw_S s_D_undo [(0, 2)] 13 (rtS (cE (-1))) N B C := fs_ret (fe_iconst dX11_undo_13) dX11_undo_14
set_option maxRecDepth 20000 in
theorem t_D_undo_2 {B C : Nat × FT} : fw_S s_D_undo [(0, 2)] 15 (poS 1408 subI (thE (thE (cE 0) (cE 0)) (cE 0)) (cE 1)) (31, [(0, 2)]) B C := fs_po_sub (fe_getR (fe_getR (fe_aloadn 0 rfl dX11_undo_15) fl_RX11_19 lx_0 rfl dX11_undo_16) fl_RX11_150 lx_3 rfl dX11_undo_19) dX11_undo_22 dX11_undo_23 (fe_iconst dX11_undo_26) dX11_undo_27 fp_RX11_168 lx_22 rfl dX11_undo_28 rfl
set_option maxRecDepth 20000 in
theorem t_D_undo_3 {B C : Nat × FT} : fw_S s_D_undo [(0, 2)] 31 (pzS 10 (cE 0) (cE 1)) (36, [(0, 2)]) B C := fs_putZ (fe_aloadn 0 rfl dX11_undo_31) (fe_iconst dX11_undo_32) fp_RX11_46 lx_0 rfl dX11_undo_33 rfl
set_option maxRecDepth 20000 in
theorem t_D_undo_4 {N B C : Nat × FT} : fw_S s_D_undo [(0, 2)] 36 (rtS (thE (thE (thE (cE 0) (cE 0)) (cE 0)) (gE 1408))) N B C := fs_ret (fe_getI (fe_getR (fe_getR (fe_aloadn 0 rfl dX11_undo_36) fl_RX11_19 lx_0 rfl dX11_undo_37) fl_RX11_150 lx_3 rfl dX11_undo_40) fl_RX11_168 lx_22 rfl dX11_undo_43) dX11_undo_46
set_option maxRecDepth 20000 in
theorem C_D_undo : fw_C LX yX11_undo cX11_undo 1 (some .int) 1 [2] (some 0) m_D_undo := fm_i (d := 1) (N := (0, [])) (B := (0, [])) (C := (0, [])) LX_ok (by decide +kernel) (show fw_S s_D_undo _ 0 b_D_undo _ _ _ from (fs_seq (fs_if t_D_undo_0 t_D_undo_1 (fs_skip rfl)) (fs_seq t_D_undo_2 (fs_seq t_D_undo_3 t_D_undo_4)))) (by decide)
/-! DyerBells.isBell (this 0 ) -/
abbrev s_D_isBell : SI := (LX, RX11, cX11_isBell, 2, 1, some 0)
set_option maxRecDepth 20000 in
theorem t_D_isBell_0 {N B C : Nat × FT} : fw_S s_D_isBell [(0, 2), (1, 0)] 0 (rtS (kE (andB (nB (zB 2 (vE 1))) (nB (cB 3 (vE 1) (thE (thE (thE (cE 0) (cE 0)) (cE 0)) (gE 1408))))) (cE 1) (cE 0))) N B C := fs_ret (fe_ternG (fb_and (fb_not (fb_if_lt (fe_iloadn 1 rfl dX11_isBell_0) dX11_isBell_1 rfl)) (fb_not (fb_icmp_ge (fe_iloadn 1 rfl dX11_isBell_4) (fe_getI (fe_getR (fe_getR (fe_aloadn 0 rfl dX11_isBell_5) fl_RX11_19 lx_0 rfl dX11_isBell_6) fl_RX11_150 lx_3 rfl dX11_isBell_9) fl_RX11_168 lx_22 rfl dX11_isBell_12) dX11_isBell_15 rfl))) (fe_gt (fe_iconst dX11_isBell_18) dX11_isBell_19 rfl) (fe_iconst dX11_isBell_22)) dX11_isBell_23
set_option maxRecDepth 20000 in
theorem C_D_isBell : fw_C LX yX11_isBell cX11_isBell 2 (some .boolean) 1 [2, 0] (some 0) m_D_isBell := fm_z (d := 1) (N := (0, [])) (B := (0, [])) (C := (0, [])) LX_ok (by decide +kernel) (show fw_S s_D_isBell _ 0 b_D_isBell _ _ _ from t_D_isBell_0) (by decide)
/-! DyerBells.bell (this 0 ) -/
abbrev s_D_bell : SI := (LX, RX11, cX11_bell, 3, 2, some 0)
set_option maxRecDepth 20000 in
theorem t_D_bell_0 : fw_B s_D_bell [(0, 2), (1, 0), (2, 0)] 0 0 17 25 (orB (orB (zB 0 (clE m_D_isBell [(cE 0), (vE 1)])) (zB 2 (vE 2))) (nB (cB 5 (vE 2) (cE 2)))) := (fb_or (fb_or (fb_if_eq (fe_callV (fa_cons (fe_aloadn 0 rfl dX11_bell_0) (fa_cons (fe_iloadn 1 rfl dX11_bell_1) fa_nil)) C_D_isBell lv_RX11_178 lx_0 rfl rfl (by decide) (by decide) (by decide) dX11_bell_2) dX11_bell_5 rfl) (fb_if_lt (fe_iloadn 2 rfl dX11_bell_8) dX11_bell_9 rfl)) (fb_not (fb_icmp_le (fe_iloadn 2 rfl dX11_bell_12) (fe_iconst dX11_bell_13) dX11_bell_14 rfl)))
set_option maxRecDepth 20000 in
theorem t_D_bell_1 {N B C : Nat × FT} : fw_S s_D_bell [(0, 2), (1, 0), (2, 0)] 17 thS N B C := fs_thr ⟨dX11_bell_17, dX11_bell_20, dX11_bell_21, dX11_bell_24⟩
set_option maxRecDepth 20000 in
theorem t_D_bell_2 : fw_B s_D_bell [(0, 2), (1, 0), (2, 0)] 0 25 29 42 (nB (zB 1 (vE 2))) := (fb_not (fb_if_ne (fe_iloadn 2 rfl dX11_bell_25) dX11_bell_26 rfl))
set_option maxRecDepth 20000 in
theorem t_D_bell_3 {N B C : Nat × FT} : fw_S s_D_bell [(0, 2), (1, 0), (2, 0)] 29 (rtS (ldE 1472 40 (thE (thE (thE (cE 0) (cE 0)) (cE 0)) (cE 0)) (vE 1))) N B C := fs_ret (fe_iald (fe_getR (fe_getR (fe_getR (fe_aloadn 0 rfl dX11_bell_29) fl_RX11_19 lx_0 rfl dX11_bell_30) fl_RX11_150 lx_3 rfl dX11_bell_33) fl_RX11_181 lx_22 rfl dX11_bell_36) (fe_iloadn 1 rfl dX11_bell_39) lx_23 dX11_bell_40) dX11_bell_41
set_option maxRecDepth 20000 in
theorem t_D_bell_4 {N B C : Nat × FT} : fw_S s_D_bell [(0, 2), (1, 0), (2, 0)] 42 (rtS (kE (nB (cB 1 (vE 2) (cE 1))) (ldE 1536 40 (thE (thE (thE (cE 0) (cE 0)) (cE 0)) (cE 0)) (vE 1)) (ldE 1600 40 (thE (thE (thE (cE 0) (cE 0)) (cE 0)) (cE 0)) (vE 1)))) N B C := fs_ret (fe_ternG (fb_not (fb_icmp_ne (fe_iloadn 2 rfl dX11_bell_42) (fe_iconst dX11_bell_43) dX11_bell_44 rfl)) (fe_gt (fe_iald (fe_getR (fe_getR (fe_getR (fe_aloadn 0 rfl dX11_bell_47) fl_RX11_19 lx_0 rfl dX11_bell_48) fl_RX11_150 lx_3 rfl dX11_bell_51) fl_RX11_184 lx_22 rfl dX11_bell_54) (fe_iloadn 1 rfl dX11_bell_57) lx_24 dX11_bell_58) dX11_bell_59 rfl) (fe_iald (fe_getR (fe_getR (fe_getR (fe_aloadn 0 rfl dX11_bell_62) fl_RX11_19 lx_0 rfl dX11_bell_63) fl_RX11_150 lx_3 rfl dX11_bell_66) fl_RX11_187 lx_22 rfl dX11_bell_69) (fe_iloadn 1 rfl dX11_bell_72) lx_25 dX11_bell_73)) dX11_bell_74
set_option maxRecDepth 20000 in
theorem C_D_bell : fw_C LX yX11_bell cX11_bell 3 (some .int) 2 [2, 0, 0] (some 0) m_D_bell := fm_i (d := 2) (N := (0, [])) (B := (0, [])) (C := (0, [])) LX_ok (by decide +kernel) (show fw_S s_D_bell _ 0 b_D_bell _ _ _ from (fs_seq (fs_if t_D_bell_0 t_D_bell_1 (fs_skip rfl)) (fs_seq (fs_if t_D_bell_2 t_D_bell_3 (fs_skip rfl)) t_D_bell_4))) (by decide)
/-! DyerBells.isColour (this 0 ) -/
abbrev s_D_isColour : SI := (LX, RX11, cX11_isColour, 2, 1, some 0)
set_option maxRecDepth 20000 in
theorem t_D_isColour_0 {N B C : Nat × FT} : fw_S s_D_isColour [(0, 2), (1, 0)] 0 (rtS (kE (andB (nB (zB 2 (vE 1))) (nB (cB 3 (vE 1) (thE (thE (thE (cE 0) (cE 0)) (cE 0)) (gE 260))))) (cE 1) (cE 0))) N B C := fs_ret (fe_ternG (fb_and (fb_not (fb_if_lt (fe_iloadn 1 rfl dX11_isColour_0) dX11_isColour_1 rfl)) (fb_not (fb_icmp_ge (fe_iloadn 1 rfl dX11_isColour_4) (fe_getI (fe_getR (fe_getR (fe_aloadn 0 rfl dX11_isColour_5) fl_RX11_19 lx_0 rfl dX11_isColour_6) fl_RX11_77 lx_3 rfl dX11_isColour_9) fl_RX11_119 lx_4 rfl dX11_isColour_12) dX11_isColour_15 rfl))) (fe_gt (fe_iconst dX11_isColour_18) dX11_isColour_19 rfl) (fe_iconst dX11_isColour_22)) dX11_isColour_23
set_option maxRecDepth 20000 in
theorem C_D_isColour : fw_C LX yX11_isColour cX11_isColour 2 (some .boolean) 1 [2, 0] (some 0) m_D_isColour := fm_z (d := 1) (N := (0, [])) (B := (0, [])) (C := (0, [])) LX_ok (by decide +kernel) (show fw_S s_D_isColour _ 0 b_D_isColour _ _ _ from t_D_isColour_0) (by decide)
/-! DyerBells$Week.takeFrom (this 135 week) -/
abbrev s_Week_takeFrom : SI := (LX, RX10, cX10_takeFrom, 3, 2, none)
set_option maxRecDepth 20000 in
theorem t_Week_takeFrom_0 {B C : Nat × FT} : fw_S s_Week_takeFrom [(0, 137), (1, 6)] 0 (cpS 576 10 8704 10 [(thE (cE 0) (cE 0)), (cE 0), (thE (cE 0) (cE 0)), (cE 0), (cE 10)]) (15, [(0, 137), (1, 6)]) B C := fs_cpy (fa_cons (fe_getR (fe_aloadn 1 rfl dX10_takeFrom_0) fl_RX10_56 lx_4 rfl dX10_takeFrom_1) (fa_cons (fe_iconst dX10_takeFrom_4) (fa_cons (fe_getR (fe_aloadn 0 rfl dX10_takeFrom_5) fl_RX10_9 lx_135 rfl dX10_takeFrom_6) (fa_cons (fe_iconst dX10_takeFrom_9) (fa_cons (fe_bipush dX10_takeFrom_10) fa_nil))))) lx_9 lx_136 ac_RX10_59 (by decide) dX10_takeFrom_12 rfl
set_option maxRecDepth 20000 in
theorem t_Week_takeFrom_1 {B C : Nat × FT} : fw_S s_Week_takeFrom [(0, 137), (1, 6)] 15 (stS 2 (cE 0)) (17, [(0, 137), (1, 6), (2, 0)]) B C := fs_istn (fe_iconst dX10_takeFrom_15) dX10_takeFrom_16 (by decide) rfl
set_option maxRecDepth 20000 in
theorem t_Week_takeFrom_2 : fw_B s_Week_takeFrom [(0, 137), (1, 6), (2, 0)] 0 17 23 40 (nB (cB 3 (vE 2) (cE 7))) := (fb_not (fb_icmp_ge (fe_iloadn 2 rfl dX10_takeFrom_17) (fe_bipush dX10_takeFrom_18) dX10_takeFrom_20 rfl))
set_option maxRecDepth 20000 in
theorem t_Week_takeFrom_3 {B C : Nat × FT} : fw_S s_Week_takeFrom [(0, 137), (1, 6), (2, 0)] 23 (asS 8768 7 idI (thE (cE 0) (cE 0)) (vE 2) (clE m_River_flowOn [(cE 0), (vE 2)])) (34, [(0, 137), (1, 6), (2, 0)]) B C := fs_iast (fe_getR (fe_aloadn 0 rfl dX10_takeFrom_23) fl_RX10_15 lx_135 rfl dX10_takeFrom_24) (fe_iloadn 2 rfl dX10_takeFrom_27) (fe_callV (fa_cons (fe_aloadn 1 rfl dX10_takeFrom_28) (fa_cons (fe_iloadn 2 rfl dX10_takeFrom_29) fa_nil)) C_River_flowOn lv_RX10_65 lx_4 rfl rfl (by decide) (by decide) (by decide) dX10_takeFrom_30) lx_137 dX10_takeFrom_33 rfl
set_option maxRecDepth 20000 in
theorem t_Week_takeFrom_4 {B C : Nat × FT} : fw_S s_Week_takeFrom [(0, 137), (1, 6), (2, 0)] 34 (inS 2 1) (37, [(0, 137), (1, 6), (2, 0)]) B C := fs_inc (j := 2) rfl dX10_takeFrom_34 (by decide) rfl
set_option maxRecDepth 20000 in
theorem t_Week_takeFrom_5 {B C : Nat × FT} : fw_S s_Week_takeFrom [(0, 137), (1, 6), (2, 0)] 17 (whS (nB (cB 3 (vE 2) (cE 7))) (asS 8768 7 idI (thE (cE 0) (cE 0)) (vE 2) (clE m_River_flowOn [(cE 0), (vE 2)])) (inS 2 1) FU) (40, [(0, 137), (1, 6), (2, 0)]) B C := fs_while t_Week_takeFrom_2 t_Week_takeFrom_3 (fs_goto t_Week_takeFrom_4 dX10_takeFrom_37 rfl)
set_option maxRecDepth 20000 in
theorem t_Week_takeFrom_6 {N B C : Nat × FT} : fw_S s_Week_takeFrom [(0, 137), (1, 6)] 40 rvS N B C := fs_rv dX10_takeFrom_40
set_option maxRecDepth 20000 in
theorem C_Week_takeFrom : fw_C LX yX10_takeFrom cX10_takeFrom 3 none 2 [137, 6] (none) m_Week_takeFrom := fm_v (d := 2) (N := (0, [])) (B := (0, [])) (C := (0, [])) LX_ok (by decide +kernel) (show fw_S s_Week_takeFrom _ 0 b_Week_takeFrom _ _ _ from (fs_seq t_Week_takeFrom_0 (fs_seq (fs_seq t_Week_takeFrom_1 (fs_weak t_Week_takeFrom_5 rfl)) t_Week_takeFrom_6))) (by decide)
/-! DyerBells$Week.rest (this 135 week) -/
abbrev s_Week_rest : SI := (LX, RX10, cX10_rest, 2, 1, none)
set_option maxRecDepth 20000 in
theorem t_Week_rest_0 {B C : Nat × FT} : fw_S s_Week_rest [(0, 137)] 0 (stS 1 (cE 0)) (2, [(0, 137), (1, 0)]) B C := fs_istn (fe_iconst dX10_rest_0) dX10_rest_1 (by decide) rfl
set_option maxRecDepth 20000 in
theorem t_Week_rest_1 : fw_B s_Week_rest [(0, 137), (1, 0)] 0 2 9 22 (nB (cB 3 (vE 1) (cE 168))) := (fb_not (fb_icmp_ge (fe_iloadn 1 rfl dX10_rest_2) (fe_sipush dX10_rest_3) dX10_rest_6 rfl))
set_option maxRecDepth 20000 in
theorem t_Week_rest_2 {B C : Nat × FT} : fw_S s_Week_rest [(0, 137), (1, 0)] 9 (asS 8832 168 idI (thE (cE 0) (cE 0)) (vE 1) (cE 0)) (16, [(0, 137), (1, 0)]) B C := fs_iast (fe_getR (fe_aloadn 0 rfl dX10_rest_9) fl_RX10_18 lx_135 rfl dX10_rest_10) (fe_iloadn 1 rfl dX10_rest_13) (fe_iconst dX10_rest_14) lx_138 dX10_rest_15 rfl
set_option maxRecDepth 20000 in
theorem t_Week_rest_3 {B C : Nat × FT} : fw_S s_Week_rest [(0, 137), (1, 0)] 16 (inS 1 1) (19, [(0, 137), (1, 0)]) B C := fs_inc (j := 1) rfl dX10_rest_16 (by decide) rfl
set_option maxRecDepth 20000 in
theorem t_Week_rest_4 {B C : Nat × FT} : fw_S s_Week_rest [(0, 137), (1, 0)] 2 (whS (nB (cB 3 (vE 1) (cE 168))) (asS 8832 168 idI (thE (cE 0) (cE 0)) (vE 1) (cE 0)) (inS 1 1) FU) (22, [(0, 137), (1, 0)]) B C := fs_while t_Week_rest_1 t_Week_rest_2 (fs_goto t_Week_rest_3 dX10_rest_19 rfl)
set_option maxRecDepth 20000 in
theorem t_Week_rest_5 {N B C : Nat × FT} : fw_S s_Week_rest [(0, 137)] 22 rvS N B C := fs_rv dX10_rest_22
set_option maxRecDepth 20000 in
theorem C_Week_rest : fw_C LX yX10_rest cX10_rest 2 none 1 [137] (none) m_Week_rest := fm_v (d := 1) (N := (0, [])) (B := (0, [])) (C := (0, [])) LX_ok (by decide +kernel) (show fw_S s_Week_rest _ 0 b_Week_rest _ _ _ from (fs_seq (fs_seq t_Week_rest_0 (fs_weak t_Week_rest_4 rfl)) t_Week_rest_5)) (by decide)
/-! DyerBells$Week.setWork (this 135 week) -/
abbrev s_Week_setWork : SI := (LX, RX10, cX10_setWork, 5, 1, none)
set_option maxRecDepth 20000 in
theorem t_Week_setWork_0 {B C : Nat × FT} : fw_S s_Week_setWork [(0, 137), (1, 0), (2, 0), (3, 0)] 0 (stS 4 (o2 maxI (vE 2) (cE 0))) (7, [(0, 137), (1, 0), (2, 0), (3, 0), (4, 0)]) B C := fs_ist (fe_max (fe_iloadn 2 rfl dX10_setWork_0) (fe_iconst dX10_setWork_1) mm_RX10_69 (by decide) (by decide) dX10_setWork_2) dX10_setWork_5 (by decide) rfl
set_option maxRecDepth 20000 in
theorem t_Week_setWork_1 : fw_B s_Week_setWork [(0, 137), (1, 0), (2, 0), (3, 0), (4, 0)] 0 7 23 42 (andB (nB (cB 3 (vE 4) (o2 addI (vE 2) (vE 3)))) (nB (cB 3 (vE 4) (cE 168)))) := (fb_and (fb_not (fb_icmp_ge (fe_iload 4 rfl dX10_setWork_7) (fe_iadd (fe_iloadn 2 rfl dX10_setWork_9) (fe_iloadn 3 rfl dX10_setWork_10) dX10_setWork_11) dX10_setWork_12 rfl)) (fb_not (fb_icmp_ge (fe_iload 4 rfl dX10_setWork_15) (fe_sipush dX10_setWork_17) dX10_setWork_20 rfl)))
set_option maxRecDepth 20000 in
theorem t_Week_setWork_2 {B C : Nat × FT} : fw_S s_Week_setWork [(0, 137), (1, 0), (2, 0), (3, 0), (4, 0)] 23 (aoS 8832 168 iorI (thE (cE 0) (cE 0)) (vE 4) (o2 shlI (cE 1) (vE 1))) (36, [(0, 137), (1, 0), (2, 0), (3, 0), (4, 0)]) B C := fs_ao_or (fe_getR (fe_aloadn 0 rfl dX10_setWork_23) fl_RX10_18 lx_135 rfl dX10_setWork_24) (fe_iload 4 rfl dX10_setWork_27) dX10_setWork_29 dX10_setWork_30 (fe_ishl (fe_iconst dX10_setWork_31) (fe_iloadn 1 rfl dX10_setWork_32) dX10_setWork_33) dX10_setWork_34 lx_138 dX10_setWork_35 rfl
set_option maxRecDepth 20000 in
theorem t_Week_setWork_3 {B C : Nat × FT} : fw_S s_Week_setWork [(0, 137), (1, 0), (2, 0), (3, 0), (4, 0)] 36 (inS 4 1) (39, [(0, 137), (1, 0), (2, 0), (3, 0), (4, 0)]) B C := fs_inc (j := 4) rfl dX10_setWork_36 (by decide) rfl
set_option maxRecDepth 20000 in
theorem t_Week_setWork_4 {B C : Nat × FT} : fw_S s_Week_setWork [(0, 137), (1, 0), (2, 0), (3, 0), (4, 0)] 7 (whS (andB (nB (cB 3 (vE 4) (o2 addI (vE 2) (vE 3)))) (nB (cB 3 (vE 4) (cE 168)))) (aoS 8832 168 iorI (thE (cE 0) (cE 0)) (vE 4) (o2 shlI (cE 1) (vE 1))) (inS 4 1) FU) (42, [(0, 137), (1, 0), (2, 0), (3, 0), (4, 0)]) B C := fs_while t_Week_setWork_1 t_Week_setWork_2 (fs_goto t_Week_setWork_3 dX10_setWork_39 rfl)
set_option maxRecDepth 20000 in
theorem t_Week_setWork_5 {N B C : Nat × FT} : fw_S s_Week_setWork [(0, 137), (1, 0), (2, 0), (3, 0)] 42 rvS N B C := fs_rv dX10_setWork_42
set_option maxRecDepth 20000 in
theorem C_Week_setWork : fw_C LX yX10_setWork cX10_setWork 5 none 1 [137, 0, 0, 0] (none) m_Week_setWork := fm_v (d := 1) (N := (0, [])) (B := (0, [])) (C := (0, [])) LX_ok (by decide +kernel) (show fw_S s_Week_setWork _ 0 b_Week_setWork _ _ _ from (fs_seq (fs_seq t_Week_setWork_0 (fs_weak t_Week_setWork_4 rfl)) t_Week_setWork_5)) (by decide)
/-! DyerBells$Week.prepare (this 135 week) -/
abbrev s_Week_prepare : SI := (LX, RX10, cX10_prepare, 4, 3, none)
set_option maxRecDepth 20000 in
theorem t_Week_prepare_0 {B C : Nat × FT} : fw_S s_Week_prepare [(0, 137), (1, 6), (2, 24)] 0 (exS (clE m_Week_takeFrom [(cE 0), (cE 0)])) (5, [(0, 137), (1, 6), (2, 24)]) B C := fs_callV (t := 0) (fa_cons (fe_aloadn 0 rfl dX10_prepare_0) (fa_cons (fe_aloadn 1 rfl dX10_prepare_1) fa_nil)) C_Week_takeFrom lv_RX10_30 lx_135 rfl rfl (by decide) (by decide) dX10_prepare_2 rfl
set_option maxRecDepth 20000 in
theorem t_Week_prepare_1 {B C : Nat × FT} : fw_S s_Week_prepare [(0, 137), (1, 6), (2, 24)] 5 (exS (clE m_Week_rest [(cE 0)])) (9, [(0, 137), (1, 6), (2, 24)]) B C := fs_callV (t := 0) (fa_cons (fe_aloadn 0 rfl dX10_prepare_5) fa_nil) C_Week_rest lv_RX10_34 lx_135 rfl rfl (by decide) (by decide) dX10_prepare_6 rfl
set_option maxRecDepth 20000 in
theorem t_Week_prepare_2 {B C : Nat × FT} : fw_S s_Week_prepare [(0, 137), (1, 6), (2, 24)] 9 (stS 3 (cE 0)) (11, [(0, 137), (1, 6), (2, 24), (3, 0)]) B C := fs_istn (fe_iconst dX10_prepare_9) dX10_prepare_10 (by decide) rfl
set_option maxRecDepth 20000 in
theorem t_Week_prepare_3 : fw_B s_Week_prepare [(0, 137), (1, 6), (2, 24), (3, 0)] 0 11 19 47 (nB (cB 3 (vE 3) (thE (cE 0) (gE 1408)))) := (fb_not (fb_icmp_ge (fe_iloadn 3 rfl dX10_prepare_11) (fe_getI (fe_aloadn 2 rfl dX10_prepare_12) fl_RX10_37 lx_22 rfl dX10_prepare_13) dX10_prepare_16 rfl))
set_option maxRecDepth 20000 in
theorem t_Week_prepare_4 {B C : Nat × FT} : fw_S s_Week_prepare [(0, 137), (1, 6), (2, 24), (3, 0)] 19 (exS (clE m_Week_setWork [(cE 0), (ldE 1536 40 (thE (cE 0) (cE 0)) (vE 3)), (ldE 1472 40 (thE (cE 0) (cE 0)) (vE 3)), (ldE 1600 40 (thE (cE 0) (cE 0)) (vE 3))])) (41, [(0, 137), (1, 6), (2, 24), (3, 0)]) B C := fs_callV (t := 0) (fa_cons (fe_aloadn 0 rfl dX10_prepare_19) (fa_cons (fe_iald (fe_getR (fe_aloadn 2 rfl dX10_prepare_20) fl_RX10_43 lx_22 rfl dX10_prepare_21) (fe_iloadn 3 rfl dX10_prepare_24) lx_24 dX10_prepare_25) (fa_cons (fe_iald (fe_getR (fe_aloadn 2 rfl dX10_prepare_26) fl_RX10_46 lx_22 rfl dX10_prepare_27) (fe_iloadn 3 rfl dX10_prepare_30) lx_23 dX10_prepare_31) (fa_cons (fe_iald (fe_getR (fe_aloadn 2 rfl dX10_prepare_32) fl_RX10_49 lx_22 rfl dX10_prepare_33) (fe_iloadn 3 rfl dX10_prepare_36) lx_25 dX10_prepare_37) fa_nil)))) C_Week_setWork lv_RX10_52 lx_135 rfl rfl (by decide) (by decide) dX10_prepare_38 rfl
set_option maxRecDepth 20000 in
theorem t_Week_prepare_5 {B C : Nat × FT} : fw_S s_Week_prepare [(0, 137), (1, 6), (2, 24), (3, 0)] 41 (inS 3 1) (44, [(0, 137), (1, 6), (2, 24), (3, 0)]) B C := fs_inc (j := 3) rfl dX10_prepare_41 (by decide) rfl
set_option maxRecDepth 20000 in
theorem t_Week_prepare_6 {B C : Nat × FT} : fw_S s_Week_prepare [(0, 137), (1, 6), (2, 24), (3, 0)] 11 (whS (nB (cB 3 (vE 3) (thE (cE 0) (gE 1408)))) (exS (clE m_Week_setWork [(cE 0), (ldE 1536 40 (thE (cE 0) (cE 0)) (vE 3)), (ldE 1472 40 (thE (cE 0) (cE 0)) (vE 3)), (ldE 1600 40 (thE (cE 0) (cE 0)) (vE 3))])) (inS 3 1) FU) (47, [(0, 137), (1, 6), (2, 24), (3, 0)]) B C := fs_while t_Week_prepare_3 t_Week_prepare_4 (fs_goto t_Week_prepare_5 dX10_prepare_44 rfl)
set_option maxRecDepth 20000 in
theorem t_Week_prepare_7 {N B C : Nat × FT} : fw_S s_Week_prepare [(0, 137), (1, 6), (2, 24)] 47 rvS N B C := fs_rv dX10_prepare_47
set_option maxRecDepth 20000 in
theorem C_Week_prepare : fw_C LX yX10_prepare cX10_prepare 4 none 3 [137, 6, 24] (none) m_Week_prepare := fm_v (d := 3) (N := (0, [])) (B := (0, [])) (C := (0, [])) LX_ok (by decide +kernel) (show fw_S s_Week_prepare _ 0 b_Week_prepare _ _ _ from (fs_seq t_Week_prepare_0 (fs_seq t_Week_prepare_1 (fs_seq (fs_seq t_Week_prepare_2 (fs_weak t_Week_prepare_6 rfl)) t_Week_prepare_7)))) (by decide)
/-! DyerBells$Week.empty (this 135 week) -/
abbrev s_Week_empty : SI := (LX, RX10, cX10_empty, 2, 1, none)
set_option maxRecDepth 20000 in
theorem t_Week_empty_0 {B C : Nat × FT} : fw_S s_Week_empty [(0, 137)] 0 (stS 1 (cE 0)) (2, [(0, 137), (1, 0)]) B C := fs_istn (fe_iconst dX10_empty_0) dX10_empty_1 (by decide) rfl
set_option maxRecDepth 20000 in
theorem t_Week_empty_1 : fw_B s_Week_empty [(0, 137), (1, 0)] 0 2 8 28 (nB (cB 3 (vE 1) (cE 40))) := (fb_not (fb_icmp_ge (fe_iloadn 1 rfl dX10_empty_2) (fe_bipush dX10_empty_3) dX10_empty_5 rfl))
set_option maxRecDepth 20000 in
theorem t_Week_empty_2 {B C : Nat × FT} : fw_S s_Week_empty [(0, 137), (1, 0)] 8 (asS 8896 40 idI (thE (cE 0) (cE 0)) (vE 1) (cE 0)) (15, [(0, 137), (1, 0)]) B C := fs_iast (fe_getR (fe_aloadn 0 rfl dX10_empty_8) fl_RX10_21 lx_135 rfl dX10_empty_9) (fe_iloadn 1 rfl dX10_empty_12) (fe_iconst dX10_empty_13) lx_139 dX10_empty_14 rfl
set_option maxRecDepth 20000 in
theorem t_Week_empty_3 {B C : Nat × FT} : fw_S s_Week_empty [(0, 137), (1, 0)] 15 (asS 8960 40 idI (thE (cE 0) (cE 0)) (vE 1) (cE 0)) (22, [(0, 137), (1, 0)]) B C := fs_iast (fe_getR (fe_aloadn 0 rfl dX10_empty_15) fl_RX10_24 lx_135 rfl dX10_empty_16) (fe_iloadn 1 rfl dX10_empty_19) (fe_iconst dX10_empty_20) lx_140 dX10_empty_21 rfl
set_option maxRecDepth 20000 in
theorem t_Week_empty_4 {B C : Nat × FT} : fw_S s_Week_empty [(0, 137), (1, 0)] 22 (inS 1 1) (25, [(0, 137), (1, 0)]) B C := fs_inc (j := 1) rfl dX10_empty_22 (by decide) rfl
set_option maxRecDepth 20000 in
theorem t_Week_empty_5 {B C : Nat × FT} : fw_S s_Week_empty [(0, 137), (1, 0)] 2 (whS (nB (cB 3 (vE 1) (cE 40))) (sq (asS 8896 40 idI (thE (cE 0) (cE 0)) (vE 1) (cE 0)) (asS 8960 40 idI (thE (cE 0) (cE 0)) (vE 1) (cE 0))) (inS 1 1) FU) (28, [(0, 137), (1, 0)]) B C := fs_while t_Week_empty_1 (fs_seq t_Week_empty_2 t_Week_empty_3) (fs_goto t_Week_empty_4 dX10_empty_25 rfl)
set_option maxRecDepth 20000 in
theorem t_Week_empty_6 {N B C : Nat × FT} : fw_S s_Week_empty [(0, 137)] 28 rvS N B C := fs_rv dX10_empty_28
set_option maxRecDepth 20000 in
theorem C_Week_empty : fw_C LX yX10_empty cX10_empty 2 none 1 [137] (none) m_Week_empty := fm_v (d := 1) (N := (0, [])) (B := (0, [])) (C := (0, [])) LX_ok (by decide +kernel) (show fw_S s_Week_empty _ 0 b_Week_empty _ _ _ from (fs_seq (fs_seq t_Week_empty_0 (fs_weak t_Week_empty_5 rfl)) t_Week_empty_6)) (by decide)
/-! DyerBells$Week.pour (this 135 week) -/
abbrev s_Week_pour : SI := (LX, RX10, cX10_pour, 5, 1, none)
set_option maxRecDepth 20000 in
theorem t_Week_pour_0 {B C : Nat × FT} : fw_S s_Week_pour [(0, 137), (1, 6), (2, 0)] 0 (stS 3 (cE 0)) (2, [(0, 137), (1, 6), (2, 0), (3, 0)]) B C := fs_istn (fe_iconst dX10_pour_0) dX10_pour_1 (by decide) rfl
set_option maxRecDepth 20000 in
theorem t_Week_pour_1 : fw_B s_Week_pour [(0, 137), (1, 6), (2, 0), (3, 0)] 0 2 10 72 (nB (cB 3 (vE 3) (thE (cE 0) (gE 261)))) := (fb_not (fb_icmp_ge (fe_iloadn 3 rfl dX10_pour_2) (fe_getI (fe_aloadn 1 rfl dX10_pour_3) fl_RX10_95 lx_4 rfl dX10_pour_4) dX10_pour_7 rfl))
set_option maxRecDepth 20000 in
theorem t_Week_pour_2 : fw_B s_Week_pour [(0, 137), (1, 6), (2, 0), (3, 0)] 0 10 18 66 (nB (zB 0 (o2 andI (o2 shrI (vE 2) (vE 3)) (cE 1)))) := (fb_not (fb_if_eq (fe_iand (fe_ishr (fe_iloadn 2 rfl dX10_pour_10) (fe_iloadn 3 rfl dX10_pour_11) dX10_pour_12) (fe_iconst dX10_pour_13) dX10_pour_14) dX10_pour_15 rfl))
set_option maxRecDepth 20000 in
theorem t_Week_pour_3 {B C : Nat × FT} : fw_S s_Week_pour [(0, 137), (1, 6), (2, 0), (3, 0)] 18 (stS 4 (cE 0)) (21, [(0, 137), (1, 6), (2, 0), (3, 0), (4, 0)]) B C := fs_ist (fe_iconst dX10_pour_18) dX10_pour_19 (by decide) rfl
set_option maxRecDepth 20000 in
theorem t_Week_pour_4 : fw_B s_Week_pour [(0, 137), (1, 6), (2, 0), (3, 0), (4, 0)] 0 21 30 66 (nB (cB 3 (vE 4) (thE (cE 0) (gE 260)))) := (fb_not (fb_icmp_ge (fe_iload 4 rfl dX10_pour_21) (fe_getI (fe_aloadn 1 rfl dX10_pour_23) fl_RX10_98 lx_4 rfl dX10_pour_24) dX10_pour_27 rfl))
set_option maxRecDepth 20000 in
theorem t_Week_pour_5 {B C : Nat × FT} : fw_S s_Week_pour [(0, 137), (1, 6), (2, 0), (3, 0), (4, 0)] 30 (aoS 8896 40 addI (thE (cE 0) (cE 0)) (o2 addI (o2 mulI (ldE 704 6 (thE (cE 0) (cE 0)) (vE 3)) (cE 4)) (vE 4)) (ldE 832 24 (thE (cE 0) (cE 0)) (o2 addI (o2 mulI (vE 3) (cE 4)) (vE 4)))) (60, [(0, 137), (1, 6), (2, 0), (3, 0), (4, 0)]) B C := fs_ao_add (fe_getR (fe_aloadn 0 rfl dX10_pour_30) fl_RX10_21 lx_135 rfl dX10_pour_31) (fe_iadd (fe_imul (fe_iald (fe_getR (fe_aloadn 1 rfl dX10_pour_34) fl_RX10_101 lx_4 rfl dX10_pour_35) (fe_iloadn 3 rfl dX10_pour_38) lx_11 dX10_pour_39) (fe_iconst dX10_pour_40) dX10_pour_41) (fe_iload 4 rfl dX10_pour_42) dX10_pour_44) dX10_pour_45 dX10_pour_46 (fe_iald (fe_getR (fe_aloadn 1 rfl dX10_pour_47) fl_RX10_104 lx_4 rfl dX10_pour_48) (fe_iadd (fe_imul (fe_iloadn 3 rfl dX10_pour_51) (fe_iconst dX10_pour_52) dX10_pour_53) (fe_iload 4 rfl dX10_pour_54) dX10_pour_56) lx_13 dX10_pour_57) dX10_pour_58 lx_139 dX10_pour_59 rfl
set_option maxRecDepth 20000 in
theorem t_Week_pour_6 {B C : Nat × FT} : fw_S s_Week_pour [(0, 137), (1, 6), (2, 0), (3, 0), (4, 0)] 60 (inS 4 1) (63, [(0, 137), (1, 6), (2, 0), (3, 0), (4, 0)]) B C := fs_inc (j := 4) rfl dX10_pour_60 (by decide) rfl
set_option maxRecDepth 20000 in
theorem t_Week_pour_7 {B C : Nat × FT} : fw_S s_Week_pour [(0, 137), (1, 6), (2, 0), (3, 0), (4, 0)] 21 (whS (nB (cB 3 (vE 4) (thE (cE 0) (gE 260)))) (aoS 8896 40 addI (thE (cE 0) (cE 0)) (o2 addI (o2 mulI (ldE 704 6 (thE (cE 0) (cE 0)) (vE 3)) (cE 4)) (vE 4)) (ldE 832 24 (thE (cE 0) (cE 0)) (o2 addI (o2 mulI (vE 3) (cE 4)) (vE 4)))) (inS 4 1) FU) (66, [(0, 137), (1, 6), (2, 0), (3, 0), (4, 0)]) B C := fs_while t_Week_pour_4 t_Week_pour_5 (fs_goto t_Week_pour_6 dX10_pour_63 rfl)
set_option maxRecDepth 20000 in
theorem t_Week_pour_8 {B C : Nat × FT} : fw_S s_Week_pour [(0, 137), (1, 6), (2, 0), (3, 0)] 66 (inS 3 1) (69, [(0, 137), (1, 6), (2, 0), (3, 0)]) B C := fs_inc (j := 3) rfl dX10_pour_66 (by decide) rfl
set_option maxRecDepth 20000 in
theorem t_Week_pour_9 {B C : Nat × FT} : fw_S s_Week_pour [(0, 137), (1, 6), (2, 0), (3, 0)] 2 (whS (nB (cB 3 (vE 3) (thE (cE 0) (gE 261)))) (ifS (nB (zB 0 (o2 andI (o2 shrI (vE 2) (vE 3)) (cE 1)))) (sq (stS 4 (cE 0)) (whS (nB (cB 3 (vE 4) (thE (cE 0) (gE 260)))) (aoS 8896 40 addI (thE (cE 0) (cE 0)) (o2 addI (o2 mulI (ldE 704 6 (thE (cE 0) (cE 0)) (vE 3)) (cE 4)) (vE 4)) (ldE 832 24 (thE (cE 0) (cE 0)) (o2 addI (o2 mulI (vE 3) (cE 4)) (vE 4)))) (inS 4 1) FU)) skS) (inS 3 1) FU) (72, [(0, 137), (1, 6), (2, 0), (3, 0)]) B C := fs_while t_Week_pour_1 (fs_if t_Week_pour_2 (fs_seq t_Week_pour_3 (fs_weak t_Week_pour_7 rfl)) (fs_skip rfl)) (fs_goto t_Week_pour_8 dX10_pour_69 rfl)
set_option maxRecDepth 20000 in
theorem t_Week_pour_10 {N B C : Nat × FT} : fw_S s_Week_pour [(0, 137), (1, 6), (2, 0)] 72 rvS N B C := fs_rv dX10_pour_72
set_option maxRecDepth 20000 in
theorem C_Week_pour : fw_C LX yX10_pour cX10_pour 5 none 1 [137, 6, 0] (none) m_Week_pour := fm_v (d := 1) (N := (0, [])) (B := (0, [])) (C := (0, [])) LX_ok (by decide +kernel) (show fw_S s_Week_pour _ 0 b_Week_pour _ _ _ from (fs_seq (fs_seq t_Week_pour_0 (fs_weak t_Week_pour_9 rfl)) t_Week_pour_10)) (by decide)
/-! DyerBells$River.floodFrom (this 4 now.river) -/
abbrev s_River_floodFrom : SI := (LX, RX3, cX3_floodFrom, 1, 1, some 0)
set_option maxRecDepth 20000 in
theorem t_River_floodFrom_0 {N B C : Nat × FT} : fw_S s_River_floodFrom [(0, 6)] 0 (rtS (kE (nB (cB 1 (thE (cE 0) (gE 271)) (cE (-1)))) (cE 9999) (thE (cE 0) (gE 271)))) N B C := fs_ret (fe_ternG (fb_not (fb_icmp_ne (fe_getI (fe_aloadn 0 rfl dX3_floodFrom_0) fl_RX3_49 lx_4 rfl dX3_floodFrom_1) (fe_iconst dX3_floodFrom_4) dX3_floodFrom_5 rfl)) (fe_gt (fe_sipush dX3_floodFrom_8) dX3_floodFrom_11 rfl) (fe_getI (fe_aloadn 0 rfl dX3_floodFrom_14) fl_RX3_49 lx_4 rfl dX3_floodFrom_15)) dX3_floodFrom_18
set_option maxRecDepth 20000 in
theorem C_River_floodFrom : fw_C LX yX3_floodFrom cX3_floodFrom 1 (some .int) 1 [6] (some 0) m_River_floodFrom := fm_i (d := 1) (N := (0, [])) (B := (0, [])) (C := (0, [])) LX_ok (by decide +kernel) (show fw_S s_River_floodFrom _ 0 b_River_floodFrom _ _ _ from t_River_floodFrom_0) (by decide)
/-! DyerBells$Week.washUp (this 135 week) -/
abbrev s_Week_washUp : SI := (LX, RX10, cX10_washUp, 4, 1, none)
set_option maxRecDepth 20000 in
theorem t_Week_washUp_0 {B C : Nat × FT} : fw_S s_Week_washUp [(0, 137), (1, 6)] 0 (stS 2 (cE 0)) (2, [(0, 137), (1, 6), (2, 0)]) B C := fs_istn (fe_iconst dX10_washUp_0) dX10_washUp_1 (by decide) rfl
set_option maxRecDepth 20000 in
theorem t_Week_washUp_1 : fw_B s_Week_washUp [(0, 137), (1, 6), (2, 0)] 0 2 12 47 (nB (cB 3 (vE 2) (o2 mulI (thE (cE 0) (gE 257)) (cE 4)))) := (fb_not (fb_icmp_ge (fe_iloadn 2 rfl dX10_washUp_2) (fe_imul (fe_getI (fe_aloadn 1 rfl dX10_washUp_3) fl_RX10_107 lx_4 rfl dX10_washUp_4) (fe_iconst dX10_washUp_7) dX10_washUp_8) dX10_washUp_9 rfl))
set_option maxRecDepth 20000 in
theorem t_Week_washUp_2 {B C : Nat × FT} : fw_S s_Week_washUp [(0, 137), (1, 6), (2, 0)] 12 (stS 3 (dvE (ldE 8960 40 (thE (cE 0) (cE 0)) (vE 2)) (cE 2))) (21, [(0, 137), (1, 6), (2, 0), (3, 0)]) B C := fs_istn (fe_idiv (fe_iald (fe_getR (fe_aloadn 0 rfl dX10_washUp_12) fl_RX10_24 lx_135 rfl dX10_washUp_13) (fe_iloadn 2 rfl dX10_washUp_16) lx_140 dX10_washUp_17) (fe_iconst dX10_washUp_18) dX10_washUp_19) dX10_washUp_20 (by decide) rfl
set_option maxRecDepth 20000 in
theorem t_Week_washUp_3 {B C : Nat × FT} : fw_S s_Week_washUp [(0, 137), (1, 6), (2, 0), (3, 0)] 21 (aoS 8960 40 subI (thE (cE 0) (cE 0)) (vE 2) (vE 3)) (31, [(0, 137), (1, 6), (2, 0), (3, 0)]) B C := fs_ao_sub (fe_getR (fe_aloadn 0 rfl dX10_washUp_21) fl_RX10_24 lx_135 rfl dX10_washUp_22) (fe_iloadn 2 rfl dX10_washUp_25) dX10_washUp_26 dX10_washUp_27 (fe_iloadn 3 rfl dX10_washUp_28) dX10_washUp_29 lx_140 dX10_washUp_30 rfl
set_option maxRecDepth 20000 in
theorem t_Week_washUp_4 {B C : Nat × FT} : fw_S s_Week_washUp [(0, 137), (1, 6), (2, 0), (3, 0)] 31 (aoS 8896 40 addI (thE (cE 0) (cE 0)) (vE 2) (vE 3)) (41, [(0, 137), (1, 6), (2, 0)]) B C := fs_ao_add (fe_getR (fe_aloadn 0 rfl dX10_washUp_31) fl_RX10_21 lx_135 rfl dX10_washUp_32) (fe_iloadn 2 rfl dX10_washUp_35) dX10_washUp_36 dX10_washUp_37 (fe_iloadn 3 rfl dX10_washUp_38) dX10_washUp_39 lx_139 dX10_washUp_40 rfl
set_option maxRecDepth 20000 in
theorem t_Week_washUp_5 {B C : Nat × FT} : fw_S s_Week_washUp [(0, 137), (1, 6), (2, 0)] 41 (inS 2 1) (44, [(0, 137), (1, 6), (2, 0)]) B C := fs_inc (j := 2) rfl dX10_washUp_41 (by decide) rfl
set_option maxRecDepth 20000 in
theorem t_Week_washUp_6 {B C : Nat × FT} : fw_S s_Week_washUp [(0, 137), (1, 6), (2, 0)] 2 (whS (nB (cB 3 (vE 2) (o2 mulI (thE (cE 0) (gE 257)) (cE 4)))) (sq (stS 3 (dvE (ldE 8960 40 (thE (cE 0) (cE 0)) (vE 2)) (cE 2))) (sq (aoS 8960 40 subI (thE (cE 0) (cE 0)) (vE 2) (vE 3)) (aoS 8896 40 addI (thE (cE 0) (cE 0)) (vE 2) (vE 3)))) (inS 2 1) FU) (47, [(0, 137), (1, 6), (2, 0)]) B C := fs_while t_Week_washUp_1 (fs_seq t_Week_washUp_2 (fs_seq t_Week_washUp_3 t_Week_washUp_4)) (fs_goto t_Week_washUp_5 dX10_washUp_44 rfl)
set_option maxRecDepth 20000 in
theorem t_Week_washUp_7 {N B C : Nat × FT} : fw_S s_Week_washUp [(0, 137), (1, 6)] 47 rvS N B C := fs_rv dX10_washUp_47
set_option maxRecDepth 20000 in
theorem C_Week_washUp : fw_C LX yX10_washUp cX10_washUp 4 none 1 [137, 6] (none) m_Week_washUp := fm_v (d := 1) (N := (0, [])) (B := (0, [])) (C := (0, [])) LX_ok (by decide +kernel) (show fw_S s_Week_washUp _ 0 b_Week_washUp _ _ _ from (fs_seq (fs_seq t_Week_washUp_0 (fs_weak t_Week_washUp_6 rfl)) t_Week_washUp_7)) (by decide)
/-! DyerBells$Week.partOf -/
abbrev s_Week_partOf : SI := (LX, RX10, cX10_partOf, 3, 1, some 0)
set_option maxRecDepth 20000 in
theorem t_Week_partOf_0 {N B C : Nat × FT} : fw_S s_Week_partOf [(0, 0), (1, 0), (2, 0)] 0 (rtS (kE (andB (nB (zB 5 (vE 0))) (nB (zB 5 (vE 2)))) (o1 l2iI (dlE (o2 mulI (o1 i2lI (vE 0)) (o1 i2lI (vE 1))) (o1 i2lI (vE 2)))) (cE 0))) N B C := fs_ret (fe_ternG (fb_and (fb_not (fb_if_le (fe_iloadn 0 rfl dX10_partOf_0) dX10_partOf_1 rfl)) (fb_not (fb_if_le (fe_iloadn 2 rfl dX10_partOf_4) dX10_partOf_5 rfl))) (fe_gt (fe_l2i (fe_ldiv (fe_lmul (fe_i2l (fe_iloadn 0 rfl dX10_partOf_8) dX10_partOf_9) (fe_i2l (fe_iloadn 1 rfl dX10_partOf_10) dX10_partOf_11) dX10_partOf_12) (fe_i2l (fe_iloadn 2 rfl dX10_partOf_13) dX10_partOf_14) dX10_partOf_15) dX10_partOf_16) dX10_partOf_17 rfl) (fe_iconst dX10_partOf_20)) dX10_partOf_21
set_option maxRecDepth 20000 in
theorem C_Week_partOf : fw_C LX yX10_partOf cX10_partOf 3 (some .int) 1 [0, 0, 0] (some 0) m_Week_partOf := fm_i (d := 1) (N := (0, [])) (B := (0, [])) (C := (0, [])) LX_ok (by decide +kernel) (show fw_S s_Week_partOf _ 0 b_Week_partOf _ _ _ from t_Week_partOf_0) (by decide)
/-! DyerBells$Week.carry (this 135 week) -/
abbrev s_Week_carry : SI := (LX, RX10, cX10_carry, 7, 2, none)
set_option maxRecDepth 20000 in
theorem t_Week_carry_0 {B C : Nat × FT} : fw_S s_Week_carry [(0, 137), (1, 6), (2, 0)] 0 (stS 3 (cE 0)) (2, [(0, 137), (1, 6), (2, 0), (3, 0)]) B C := fs_istn (fe_iconst dX10_carry_0) dX10_carry_1 (by decide) rfl
set_option maxRecDepth 20000 in
theorem t_Week_carry_1 : fw_B s_Week_carry [(0, 137), (1, 6), (2, 0), (3, 0)] 0 2 10 128 (nB (cB 3 (vE 3) (thE (cE 0) (gE 260)))) := (fb_not (fb_icmp_ge (fe_iloadn 3 rfl dX10_carry_2) (fe_getI (fe_aloadn 1 rfl dX10_carry_3) fl_RX10_98 lx_4 rfl dX10_carry_4) dX10_carry_7 rfl))
set_option maxRecDepth 20000 in
theorem t_Week_carry_2 {B C : Nat × FT} : fw_S s_Week_carry [(0, 137), (1, 6), (2, 0), (3, 0)] 10 (asS 9024 4 idI (thE (cE 0) (cE 0)) (vE 3) (cE 0)) (17, [(0, 137), (1, 6), (2, 0), (3, 0)]) B C := fs_iast (fe_getR (fe_aloadn 0 rfl dX10_carry_10) fl_RX10_27 lx_135 rfl dX10_carry_11) (fe_iloadn 3 rfl dX10_carry_14) (fe_iconst dX10_carry_15) lx_141 dX10_carry_16 rfl
set_option maxRecDepth 20000 in
theorem t_Week_carry_3 {B C : Nat × FT} : fw_S s_Week_carry [(0, 137), (1, 6), (2, 0), (3, 0)] 17 (stS 4 (o2 subI (thE (cE 0) (gE 257)) (cE 1))) (25, [(0, 137), (1, 6), (2, 0), (3, 0), (4, 0)]) B C := fs_ist (fe_isub (fe_getI (fe_aloadn 1 rfl dX10_carry_17) fl_RX10_107 lx_4 rfl dX10_carry_18) (fe_iconst dX10_carry_21) dX10_carry_22) dX10_carry_23 (by decide) rfl
set_option maxRecDepth 20000 in
theorem t_Week_carry_4 : fw_B s_Week_carry [(0, 137), (1, 6), (2, 0), (3, 0), (4, 0)] 0 25 30 122 (nB (zB 2 (vE 4))) := (fb_not (fb_if_lt (fe_iload 4 rfl dX10_carry_25) dX10_carry_27 rfl))
set_option maxRecDepth 20000 in
theorem t_Week_carry_5 {B C : Nat × FT} : fw_S s_Week_carry [(0, 137), (1, 6), (2, 0), (3, 0), (4, 0)] 30 (stS 5 (o2 addI (o2 mulI (vE 4) (cE 4)) (vE 3))) (38, [(0, 137), (1, 6), (2, 0), (3, 0), (4, 0), (5, 0)]) B C := fs_ist (fe_iadd (fe_imul (fe_iload 4 rfl dX10_carry_30) (fe_iconst dX10_carry_32) dX10_carry_33) (fe_iloadn 3 rfl dX10_carry_34) dX10_carry_35) dX10_carry_36 (by decide) rfl
set_option maxRecDepth 20000 in
theorem t_Week_carry_6 {B C : Nat × FT} : fw_S s_Week_carry [(0, 137), (1, 6), (2, 0), (3, 0), (4, 0), (5, 0)] 38 (stS 6 (clE m_Week_partOf [(ldE 8896 40 (thE (cE 0) (cE 0)) (vE 5)), (o2 minI (vE 2) (ldE 8704 10 (thE (cE 0) (cE 0)) (vE 4))), (ldE 8704 10 (thE (cE 0) (cE 0)) (vE 4))])) (68, [(0, 137), (1, 6), (2, 0), (3, 0), (4, 0), (5, 0), (6, 0)]) B C := fs_ist (fe_callS (fa_cons (fe_iald (fe_getR (fe_aloadn 0 rfl dX10_carry_38) fl_RX10_21 lx_135 rfl dX10_carry_39) (fe_iload 5 rfl dX10_carry_42) lx_139 dX10_carry_44) (fa_cons (fe_min (fe_iloadn 2 rfl dX10_carry_45) (fe_iald (fe_getR (fe_aloadn 0 rfl dX10_carry_46) fl_RX10_9 lx_135 rfl dX10_carry_47) (fe_iload 4 rfl dX10_carry_50) lx_136 dX10_carry_52) mm_RX10_110 (by decide) (by decide) dX10_carry_53) (fa_cons (fe_iald (fe_getR (fe_aloadn 0 rfl dX10_carry_56) fl_RX10_9 lx_135 rfl dX10_carry_57) (fe_iload 4 rfl dX10_carry_60) lx_136 dX10_carry_62) fa_nil))) C_Week_partOf ls_RX10_113 rfl (by decide) (by decide) (by decide) dX10_carry_63) dX10_carry_66 (by decide) rfl
set_option maxRecDepth 20000 in
theorem t_Week_carry_7 {B C : Nat × FT} : fw_S s_Week_carry [(0, 137), (1, 6), (2, 0), (3, 0), (4, 0), (5, 0), (6, 0)] 68 (aoS 8896 40 subI (thE (cE 0) (cE 0)) (vE 5) (vE 6)) (80, [(0, 137), (1, 6), (2, 0), (3, 0), (4, 0), (5, 0), (6, 0)]) B C := fs_ao_sub (fe_getR (fe_aloadn 0 rfl dX10_carry_68) fl_RX10_21 lx_135 rfl dX10_carry_69) (fe_iload 5 rfl dX10_carry_72) dX10_carry_74 dX10_carry_75 (fe_iload 6 rfl dX10_carry_76) dX10_carry_78 lx_139 dX10_carry_79 rfl
set_option maxRecDepth 20000 in
theorem t_Week_carry_8 : fw_B s_Week_carry [(0, 137), (1, 6), (2, 0), (3, 0), (4, 0), (5, 0), (6, 0)] 0 80 91 108 (nB (cB 3 (vE 4) (o2 subI (thE (cE 0) (gE 257)) (cE 1)))) := (fb_not (fb_icmp_ge (fe_iload 4 rfl dX10_carry_80) (fe_isub (fe_getI (fe_aloadn 1 rfl dX10_carry_82) fl_RX10_107 lx_4 rfl dX10_carry_83) (fe_iconst dX10_carry_86) dX10_carry_87) dX10_carry_88 rfl))
set_option maxRecDepth 20000 in
theorem t_Week_carry_9 {B C : Nat × FT} : fw_S s_Week_carry [(0, 137), (1, 6), (2, 0), (3, 0), (4, 0), (5, 0), (6, 0)] 91 (aoS 8896 40 addI (thE (cE 0) (cE 0)) (o2 addI (vE 5) (cE 4)) (vE 6)) (105, [(0, 137), (1, 6), (2, 0), (3, 0), (4, 0)]) B C := fs_ao_add (fe_getR (fe_aloadn 0 rfl dX10_carry_91) fl_RX10_21 lx_135 rfl dX10_carry_92) (fe_iadd (fe_iload 5 rfl dX10_carry_95) (fe_iconst dX10_carry_97) dX10_carry_98) dX10_carry_99 dX10_carry_100 (fe_iload 6 rfl dX10_carry_101) dX10_carry_103 lx_139 dX10_carry_104 rfl
set_option maxRecDepth 20000 in
theorem t_Week_carry_10 {B C : Nat × FT} : fw_S s_Week_carry [(0, 137), (1, 6), (2, 0), (3, 0), (4, 0), (5, 0), (6, 0)] 108 (asS 9024 4 idI (thE (cE 0) (cE 0)) (vE 3) (vE 6)) (116, [(0, 137), (1, 6), (2, 0), (3, 0), (4, 0)]) B C := fs_iast (fe_getR (fe_aloadn 0 rfl dX10_carry_108) fl_RX10_27 lx_135 rfl dX10_carry_109) (fe_iloadn 3 rfl dX10_carry_112) (fe_iload 6 rfl dX10_carry_113) lx_141 dX10_carry_115 rfl
set_option maxRecDepth 20000 in
theorem t_Week_carry_11 {B C : Nat × FT} : fw_S s_Week_carry [(0, 137), (1, 6), (2, 0), (3, 0), (4, 0)] 116 (inS 4 (-1)) (119, [(0, 137), (1, 6), (2, 0), (3, 0), (4, 0)]) B C := fs_inc (j := 4) rfl dX10_carry_116 (by decide) rfl
set_option maxRecDepth 20000 in
theorem t_Week_carry_12 {B C : Nat × FT} : fw_S s_Week_carry [(0, 137), (1, 6), (2, 0), (3, 0), (4, 0)] 25 (whS (nB (zB 2 (vE 4))) (sq (stS 5 (o2 addI (o2 mulI (vE 4) (cE 4)) (vE 3))) (sq (stS 6 (clE m_Week_partOf [(ldE 8896 40 (thE (cE 0) (cE 0)) (vE 5)), (o2 minI (vE 2) (ldE 8704 10 (thE (cE 0) (cE 0)) (vE 4))), (ldE 8704 10 (thE (cE 0) (cE 0)) (vE 4))])) (sq (aoS 8896 40 subI (thE (cE 0) (cE 0)) (vE 5) (vE 6)) (ifS (nB (cB 3 (vE 4) (o2 subI (thE (cE 0) (gE 257)) (cE 1)))) (aoS 8896 40 addI (thE (cE 0) (cE 0)) (o2 addI (vE 5) (cE 4)) (vE 6)) (asS 9024 4 idI (thE (cE 0) (cE 0)) (vE 3) (vE 6)))))) (inS 4 (-1)) FU) (122, [(0, 137), (1, 6), (2, 0), (3, 0), (4, 0)]) B C := fs_while t_Week_carry_4 (fs_seq t_Week_carry_5 (fs_seq t_Week_carry_6 (fs_seq t_Week_carry_7 (fs_if t_Week_carry_8 (fs_goto t_Week_carry_9 dX10_carry_105 rfl) t_Week_carry_10)))) (fs_goto t_Week_carry_11 dX10_carry_119 rfl)
set_option maxRecDepth 20000 in
theorem t_Week_carry_13 {B C : Nat × FT} : fw_S s_Week_carry [(0, 137), (1, 6), (2, 0), (3, 0)] 122 (inS 3 1) (125, [(0, 137), (1, 6), (2, 0), (3, 0)]) B C := fs_inc (j := 3) rfl dX10_carry_122 (by decide) rfl
set_option maxRecDepth 20000 in
theorem t_Week_carry_14 {B C : Nat × FT} : fw_S s_Week_carry [(0, 137), (1, 6), (2, 0), (3, 0)] 2 (whS (nB (cB 3 (vE 3) (thE (cE 0) (gE 260)))) (sq (asS 9024 4 idI (thE (cE 0) (cE 0)) (vE 3) (cE 0)) (sq (stS 4 (o2 subI (thE (cE 0) (gE 257)) (cE 1))) (whS (nB (zB 2 (vE 4))) (sq (stS 5 (o2 addI (o2 mulI (vE 4) (cE 4)) (vE 3))) (sq (stS 6 (clE m_Week_partOf [(ldE 8896 40 (thE (cE 0) (cE 0)) (vE 5)), (o2 minI (vE 2) (ldE 8704 10 (thE (cE 0) (cE 0)) (vE 4))), (ldE 8704 10 (thE (cE 0) (cE 0)) (vE 4))])) (sq (aoS 8896 40 subI (thE (cE 0) (cE 0)) (vE 5) (vE 6)) (ifS (nB (cB 3 (vE 4) (o2 subI (thE (cE 0) (gE 257)) (cE 1)))) (aoS 8896 40 addI (thE (cE 0) (cE 0)) (o2 addI (vE 5) (cE 4)) (vE 6)) (asS 9024 4 idI (thE (cE 0) (cE 0)) (vE 3) (vE 6)))))) (inS 4 (-1)) FU))) (inS 3 1) FU) (128, [(0, 137), (1, 6), (2, 0), (3, 0)]) B C := fs_while t_Week_carry_1 (fs_seq t_Week_carry_2 (fs_seq t_Week_carry_3 (fs_weak t_Week_carry_12 rfl))) (fs_goto t_Week_carry_13 dX10_carry_125 rfl)
set_option maxRecDepth 20000 in
theorem t_Week_carry_15 {N B C : Nat × FT} : fw_S s_Week_carry [(0, 137), (1, 6), (2, 0)] 128 rvS N B C := fs_rv dX10_carry_128
set_option maxRecDepth 20000 in
theorem C_Week_carry : fw_C LX yX10_carry cX10_carry 7 none 2 [137, 6, 0] (none) m_Week_carry := fm_v (d := 2) (N := (0, [])) (B := (0, [])) (C := (0, [])) LX_ok (by decide +kernel) (show fw_S s_Week_carry _ 0 b_Week_carry _ _ _ from (fs_seq (fs_seq t_Week_carry_0 (fs_weak t_Week_carry_14 rfl)) t_Week_carry_15)) (by decide)
/-! DyerBells$Week.sink (this 135 week) -/
abbrev s_Week_sink : SI := (LX, RX10, cX10_sink, 6, 2, none)
set_option maxRecDepth 20000 in
theorem t_Week_sink_0 {B C : Nat × FT} : fw_S s_Week_sink [(0, 137), (1, 6)] 0 (stS 2 (cE 0)) (2, [(0, 137), (1, 6), (2, 0)]) B C := fs_istn (fe_iconst dX10_sink_0) dX10_sink_1 (by decide) rfl
set_option maxRecDepth 20000 in
theorem t_Week_sink_1 : fw_B s_Week_sink [(0, 137), (1, 6), (2, 0)] 0 2 10 84 (nB (cB 3 (vE 2) (thE (cE 0) (gE 257)))) := (fb_not (fb_icmp_ge (fe_iloadn 2 rfl dX10_sink_2) (fe_getI (fe_aloadn 1 rfl dX10_sink_3) fl_RX10_107 lx_4 rfl dX10_sink_4) dX10_sink_7 rfl))
set_option maxRecDepth 20000 in
theorem t_Week_sink_2 {B C : Nat × FT} : fw_S s_Week_sink [(0, 137), (1, 6), (2, 0)] 10 (stS 3 (cE 0)) (12, [(0, 137), (1, 6), (2, 0), (3, 0)]) B C := fs_istn (fe_iconst dX10_sink_10) dX10_sink_11 (by decide) rfl
set_option maxRecDepth 20000 in
theorem t_Week_sink_3 : fw_B s_Week_sink [(0, 137), (1, 6), (2, 0), (3, 0)] 0 12 20 78 (nB (cB 3 (vE 3) (thE (cE 0) (gE 260)))) := (fb_not (fb_icmp_ge (fe_iloadn 3 rfl dX10_sink_12) (fe_getI (fe_aloadn 1 rfl dX10_sink_13) fl_RX10_98 lx_4 rfl dX10_sink_14) dX10_sink_17 rfl))
set_option maxRecDepth 20000 in
theorem t_Week_sink_4 {B C : Nat × FT} : fw_S s_Week_sink [(0, 137), (1, 6), (2, 0), (3, 0)] 20 (stS 4 (o2 addI (o2 mulI (vE 2) (cE 4)) (vE 3))) (27, [(0, 137), (1, 6), (2, 0), (3, 0), (4, 0)]) B C := fs_ist (fe_iadd (fe_imul (fe_iloadn 2 rfl dX10_sink_20) (fe_iconst dX10_sink_21) dX10_sink_22) (fe_iloadn 3 rfl dX10_sink_23) dX10_sink_24) dX10_sink_25 (by decide) rfl
set_option maxRecDepth 20000 in
theorem t_Week_sink_5 {B C : Nat × FT} : fw_S s_Week_sink [(0, 137), (1, 6), (2, 0), (3, 0), (4, 0)] 27 (stS 5 (clE m_Week_partOf [(ldE 8896 40 (thE (cE 0) (cE 0)) (vE 4)), (ldE 640 10 (thE (cE 0) (cE 0)) (vE 2)), (cE 1000)])) (48, [(0, 137), (1, 6), (2, 0), (3, 0), (4, 0), (5, 0)]) B C := fs_ist (fe_callS (fa_cons (fe_iald (fe_getR (fe_aloadn 0 rfl dX10_sink_27) fl_RX10_21 lx_135 rfl dX10_sink_28) (fe_iload 4 rfl dX10_sink_31) lx_139 dX10_sink_33) (fa_cons (fe_iald (fe_getR (fe_aloadn 1 rfl dX10_sink_34) fl_RX10_117 lx_4 rfl dX10_sink_35) (fe_iloadn 2 rfl dX10_sink_38) lx_10 dX10_sink_39) (fa_cons (fe_sipush dX10_sink_40) fa_nil))) C_Week_partOf ls_RX10_113 rfl (by decide) (by decide) (by decide) dX10_sink_43) dX10_sink_46 (by decide) rfl
set_option maxRecDepth 20000 in
theorem t_Week_sink_6 {B C : Nat × FT} : fw_S s_Week_sink [(0, 137), (1, 6), (2, 0), (3, 0), (4, 0), (5, 0)] 48 (aoS 8896 40 subI (thE (cE 0) (cE 0)) (vE 4) (vE 5)) (60, [(0, 137), (1, 6), (2, 0), (3, 0), (4, 0), (5, 0)]) B C := fs_ao_sub (fe_getR (fe_aloadn 0 rfl dX10_sink_48) fl_RX10_21 lx_135 rfl dX10_sink_49) (fe_iload 4 rfl dX10_sink_52) dX10_sink_54 dX10_sink_55 (fe_iload 5 rfl dX10_sink_56) dX10_sink_58 lx_139 dX10_sink_59 rfl
set_option maxRecDepth 20000 in
theorem t_Week_sink_7 {B C : Nat × FT} : fw_S s_Week_sink [(0, 137), (1, 6), (2, 0), (3, 0), (4, 0), (5, 0)] 60 (aoS 8960 40 addI (thE (cE 0) (cE 0)) (vE 4) (vE 5)) (72, [(0, 137), (1, 6), (2, 0), (3, 0)]) B C := fs_ao_add (fe_getR (fe_aloadn 0 rfl dX10_sink_60) fl_RX10_24 lx_135 rfl dX10_sink_61) (fe_iload 4 rfl dX10_sink_64) dX10_sink_66 dX10_sink_67 (fe_iload 5 rfl dX10_sink_68) dX10_sink_70 lx_140 dX10_sink_71 rfl
set_option maxRecDepth 20000 in
theorem t_Week_sink_8 {B C : Nat × FT} : fw_S s_Week_sink [(0, 137), (1, 6), (2, 0), (3, 0)] 72 (inS 3 1) (75, [(0, 137), (1, 6), (2, 0), (3, 0)]) B C := fs_inc (j := 3) rfl dX10_sink_72 (by decide) rfl
set_option maxRecDepth 20000 in
theorem t_Week_sink_9 {B C : Nat × FT} : fw_S s_Week_sink [(0, 137), (1, 6), (2, 0), (3, 0)] 12 (whS (nB (cB 3 (vE 3) (thE (cE 0) (gE 260)))) (sq (stS 4 (o2 addI (o2 mulI (vE 2) (cE 4)) (vE 3))) (sq (stS 5 (clE m_Week_partOf [(ldE 8896 40 (thE (cE 0) (cE 0)) (vE 4)), (ldE 640 10 (thE (cE 0) (cE 0)) (vE 2)), (cE 1000)])) (sq (aoS 8896 40 subI (thE (cE 0) (cE 0)) (vE 4) (vE 5)) (aoS 8960 40 addI (thE (cE 0) (cE 0)) (vE 4) (vE 5))))) (inS 3 1) FU) (78, [(0, 137), (1, 6), (2, 0), (3, 0)]) B C := fs_while t_Week_sink_3 (fs_seq t_Week_sink_4 (fs_seq t_Week_sink_5 (fs_seq t_Week_sink_6 t_Week_sink_7))) (fs_goto t_Week_sink_8 dX10_sink_75 rfl)
set_option maxRecDepth 20000 in
theorem t_Week_sink_10 {B C : Nat × FT} : fw_S s_Week_sink [(0, 137), (1, 6), (2, 0)] 78 (inS 2 1) (81, [(0, 137), (1, 6), (2, 0)]) B C := fs_inc (j := 2) rfl dX10_sink_78 (by decide) rfl
set_option maxRecDepth 20000 in
theorem t_Week_sink_11 {B C : Nat × FT} : fw_S s_Week_sink [(0, 137), (1, 6), (2, 0)] 2 (whS (nB (cB 3 (vE 2) (thE (cE 0) (gE 257)))) (sq (stS 3 (cE 0)) (whS (nB (cB 3 (vE 3) (thE (cE 0) (gE 260)))) (sq (stS 4 (o2 addI (o2 mulI (vE 2) (cE 4)) (vE 3))) (sq (stS 5 (clE m_Week_partOf [(ldE 8896 40 (thE (cE 0) (cE 0)) (vE 4)), (ldE 640 10 (thE (cE 0) (cE 0)) (vE 2)), (cE 1000)])) (sq (aoS 8896 40 subI (thE (cE 0) (cE 0)) (vE 4) (vE 5)) (aoS 8960 40 addI (thE (cE 0) (cE 0)) (vE 4) (vE 5))))) (inS 3 1) FU)) (inS 2 1) FU) (84, [(0, 137), (1, 6), (2, 0)]) B C := fs_while t_Week_sink_1 (fs_seq t_Week_sink_2 (fs_weak t_Week_sink_9 rfl)) (fs_goto t_Week_sink_10 dX10_sink_81 rfl)
set_option maxRecDepth 20000 in
theorem t_Week_sink_12 {N B C : Nat × FT} : fw_S s_Week_sink [(0, 137), (1, 6)] 84 rvS N B C := fs_rv dX10_sink_84
set_option maxRecDepth 20000 in
theorem C_Week_sink : fw_C LX yX10_sink cX10_sink 6 none 2 [137, 6] (none) m_Week_sink := fm_v (d := 2) (N := (0, [])) (B := (0, [])) (C := (0, [])) LX_ok (by decide +kernel) (show fw_S s_Week_sink _ 0 b_Week_sink _ _ _ from (fs_seq (fs_seq t_Week_sink_0 (fs_weak t_Week_sink_11 rfl)) t_Week_sink_12)) (by decide)
/-! DyerBells$Week.pass (this 135 week) -/
abbrev s_Week_pass : SI := (LX, RX10, cX10_pass, 4, 3, none)
set_option maxRecDepth 20000 in
theorem t_Week_pass_0 {B C : Nat × FT} : fw_S s_Week_pass [(0, 137), (1, 6), (2, 0)] 0 (stS 3 (ldE 8768 7 (thE (cE 0) (cE 0)) (dvE (vE 2) (cE 24)))) (10, [(0, 137), (1, 6), (2, 0), (3, 0)]) B C := fs_istn (fe_iald (fe_getR (fe_aloadn 0 rfl dX10_pass_0) fl_RX10_15 lx_135 rfl dX10_pass_1) (fe_idiv (fe_iloadn 2 rfl dX10_pass_4) (fe_bipush dX10_pass_5) dX10_pass_7) lx_137 dX10_pass_8) dX10_pass_9 (by decide) rfl
set_option maxRecDepth 20000 in
theorem t_Week_pass_1 {B C : Nat × FT} : fw_S s_Week_pass [(0, 137), (1, 6), (2, 0), (3, 0)] 10 (exS (clE m_Week_pour [(cE 0), (cE 0), (ldE 8832 168 (thE (cE 0) (cE 0)) (vE 2))])) (21, [(0, 137), (1, 6), (2, 0), (3, 0)]) B C := fs_callV (t := 0) (fa_cons (fe_aloadn 0 rfl dX10_pass_10) (fa_cons (fe_aloadn 1 rfl dX10_pass_11) (fa_cons (fe_iald (fe_getR (fe_aloadn 0 rfl dX10_pass_12) fl_RX10_18 lx_135 rfl dX10_pass_13) (fe_iloadn 2 rfl dX10_pass_16) lx_138 dX10_pass_17) fa_nil))) C_Week_pour lv_RX10_78 lx_135 rfl rfl (by decide) (by decide) dX10_pass_18 rfl
set_option maxRecDepth 20000 in
theorem t_Week_pass_2 : fw_B s_Week_pass [(0, 137), (1, 6), (2, 0), (3, 0)] 0 21 29 34 (nB (cB 2 (vE 3) (clE m_River_floodFrom [(cE 0)]))) := (fb_not (fb_icmp_lt (fe_iloadn 3 rfl dX10_pass_21) (fe_callV (fa_cons (fe_aloadn 1 rfl dX10_pass_22) fa_nil) C_River_floodFrom lv_RX10_82 lx_4 rfl rfl (by decide) (by decide) (by decide) dX10_pass_23) dX10_pass_26 rfl))
set_option maxRecDepth 20000 in
theorem t_Week_pass_3 {B C : Nat × FT} : fw_S s_Week_pass [(0, 137), (1, 6), (2, 0), (3, 0)] 29 (exS (clE m_Week_washUp [(cE 0), (cE 0)])) (34, [(0, 137), (1, 6), (2, 0), (3, 0)]) B C := fs_callV (t := 0) (fa_cons (fe_aloadn 0 rfl dX10_pass_29) (fa_cons (fe_aloadn 1 rfl dX10_pass_30) fa_nil)) C_Week_washUp lv_RX10_86 lx_135 rfl rfl (by decide) (by decide) dX10_pass_31 rfl
set_option maxRecDepth 20000 in
theorem t_Week_pass_4 {B C : Nat × FT} : fw_S s_Week_pass [(0, 137), (1, 6), (2, 0), (3, 0)] 34 (exS (clE m_Week_carry [(cE 0), (cE 0), (vE 3)])) (40, [(0, 137), (1, 6), (2, 0), (3, 0)]) B C := fs_callV (t := 0) (fa_cons (fe_aloadn 0 rfl dX10_pass_34) (fa_cons (fe_aloadn 1 rfl dX10_pass_35) (fa_cons (fe_iloadn 3 rfl dX10_pass_36) fa_nil))) C_Week_carry lv_RX10_89 lx_135 rfl rfl (by decide) (by decide) dX10_pass_37 rfl
set_option maxRecDepth 20000 in
theorem t_Week_pass_5 {B C : Nat × FT} : fw_S s_Week_pass [(0, 137), (1, 6), (2, 0), (3, 0)] 40 (exS (clE m_Week_sink [(cE 0), (cE 0)])) (45, [(0, 137), (1, 6), (2, 0), (3, 0)]) B C := fs_callV (t := 0) (fa_cons (fe_aloadn 0 rfl dX10_pass_40) (fa_cons (fe_aloadn 1 rfl dX10_pass_41) fa_nil)) C_Week_sink lv_RX10_92 lx_135 rfl rfl (by decide) (by decide) dX10_pass_42 rfl
set_option maxRecDepth 20000 in
theorem t_Week_pass_6 {N B C : Nat × FT} : fw_S s_Week_pass [(0, 137), (1, 6), (2, 0), (3, 0)] 45 rvS N B C := fs_rv dX10_pass_45
set_option maxRecDepth 20000 in
theorem C_Week_pass : fw_C LX yX10_pass cX10_pass 4 none 3 [137, 6, 0] (none) m_Week_pass := fm_v (d := 3) (N := (0, [])) (B := (0, [])) (C := (0, [])) LX_ok (by decide +kernel) (show fw_S s_Week_pass _ 0 b_Week_pass _ _ _ from (fs_seq t_Week_pass_0 (fs_seq t_Week_pass_1 (fs_seq (fs_if t_Week_pass_2 t_Week_pass_3 (fs_skip rfl)) (fs_seq t_Week_pass_4 (fs_seq t_Week_pass_5 t_Week_pass_6)))))) (by decide)
/-! DyerBells.shadeOf -/
abbrev s_D_shadeOf : SI := (LX, RX11, cX11_shadeOf, 2, 1, some 0)
set_option maxRecDepth 20000 in
theorem t_D_shadeOf_0 {N B C : Nat × FT} : fw_S s_D_shadeOf [(0, 0), (1, 0)] 0 (rtS (kE (nB (zB 5 (vE 1))) (dvE (o2 mulI (vE 0) (cE 100)) (vE 1)) (cE 0))) N B C := fs_ret (fe_ternG (fb_not (fb_if_le (fe_iloadn 1 rfl dX11_shadeOf_0) dX11_shadeOf_1 rfl)) (fe_gt (fe_idiv (fe_imul (fe_iloadn 0 rfl dX11_shadeOf_4) (fe_bipush dX11_shadeOf_5) dX11_shadeOf_7) (fe_iloadn 1 rfl dX11_shadeOf_8) dX11_shadeOf_9) dX11_shadeOf_10 rfl) (fe_iconst dX11_shadeOf_13)) dX11_shadeOf_14
set_option maxRecDepth 20000 in
theorem C_D_shadeOf : fw_C LX yX11_shadeOf cX11_shadeOf 2 (some .int) 1 [0, 0] (some 0) m_D_shadeOf := fm_i (d := 1) (N := (0, [])) (B := (0, [])) (C := (0, [])) LX_ok (by decide +kernel) (show fw_S s_D_shadeOf _ 0 b_D_shadeOf _ _ _ from t_D_shadeOf_0) (by decide)
/-! DyerBells$Week.suffers (this 135 week) -/
abbrev s_Week_suffers : SI := (LX, RX10, cX10_suffers, 6, 2, some 0)
set_option maxRecDepth 20000 in
theorem t_Week_suffers_0 {B C : Nat × FT} : fw_S s_Week_suffers [(0, 137), (1, 6), (2, 0)] 0 (stS 3 (ldE 896 6 (thE (cE 0) (cE 0)) (vE 2))) (7, [(0, 137), (1, 6), (2, 0), (3, 0)]) B C := fs_istn (fe_iald (fe_getR (fe_aloadn 1 rfl dX10_suffers_0) fl_RX10_133 lx_4 rfl dX10_suffers_1) (fe_iloadn 2 rfl dX10_suffers_4) lx_14 dX10_suffers_5) dX10_suffers_6 (by decide) rfl
set_option maxRecDepth 20000 in
theorem t_Week_suffers_1 {B C : Nat × FT} : fw_S s_Week_suffers [(0, 137), (1, 6), (2, 0), (3, 0)] 7 (stS 4 (cE 0)) (10, [(0, 137), (1, 6), (2, 0), (3, 0), (4, 0)]) B C := fs_ist (fe_iconst dX10_suffers_7) dX10_suffers_8 (by decide) rfl
set_option maxRecDepth 20000 in
theorem t_Week_suffers_2 : fw_B s_Week_suffers [(0, 137), (1, 6), (2, 0), (3, 0), (4, 0)] 0 10 19 71 (nB (cB 3 (vE 4) (thE (cE 0) (gE 260)))) := (fb_not (fb_icmp_ge (fe_iload 4 rfl dX10_suffers_10) (fe_getI (fe_aloadn 1 rfl dX10_suffers_12) fl_RX10_98 lx_4 rfl dX10_suffers_13) dX10_suffers_16 rfl))
set_option maxRecDepth 20000 in
theorem t_Week_suffers_3 {B C : Nat × FT} : fw_S s_Week_suffers [(0, 137), (1, 6), (2, 0), (3, 0), (4, 0)] 19 (stS 5 (ldE 1088 24 (thE (cE 0) (cE 0)) (o2 addI (o2 mulI (vE 2) (cE 4)) (vE 4)))) (32, [(0, 137), (1, 6), (2, 0), (3, 0), (4, 0), (5, 0)]) B C := fs_ist (fe_iald (fe_getR (fe_aloadn 1 rfl dX10_suffers_19) fl_RX10_136 lx_4 rfl dX10_suffers_20) (fe_iadd (fe_imul (fe_iloadn 2 rfl dX10_suffers_23) (fe_iconst dX10_suffers_24) dX10_suffers_25) (fe_iload 4 rfl dX10_suffers_26) dX10_suffers_28) lx_17 dX10_suffers_29) dX10_suffers_30 (by decide) rfl
set_option maxRecDepth 20000 in
theorem t_Week_suffers_4 : fw_B s_Week_suffers [(0, 137), (1, 6), (2, 0), (3, 0), (4, 0), (5, 0)] 0 32 63 65 (andB (nB (cB 0 (vE 5) (cE (-1)))) (nB (cB 5 (clE m_D_shadeOf [(ldE 8896 40 (thE (cE 0) (cE 0)) (o2 addI (o2 mulI (vE 3) (cE 4)) (vE 4))), (ldE 8704 10 (thE (cE 0) (cE 0)) (vE 3))]) (vE 5)))) := (fb_and (fb_not (fb_icmp_eq (fe_iload 5 rfl dX10_suffers_32) (fe_iconst dX10_suffers_34) dX10_suffers_35 rfl)) (fb_not (fb_icmp_le (fe_callSN (fa_cons (fe_iald (fe_getR (fe_aloadn 0 rfl dX10_suffers_38) fl_RX10_21 lx_135 rfl dX10_suffers_39) (fe_iadd (fe_imul (fe_iloadn 3 rfl dX10_suffers_42) (fe_iconst dX10_suffers_43) dX10_suffers_44) (fe_iload 4 rfl dX10_suffers_45) dX10_suffers_47) lx_139 dX10_suffers_48) (fa_cons (fe_iald (fe_getR (fe_aloadn 0 rfl dX10_suffers_49) fl_RX10_9 lx_135 rfl dX10_suffers_50) (fe_iloadn 3 rfl dX10_suffers_53) lx_136 dX10_suffers_54) fa_nil)) C_D_shadeOf ln_RX10_139 rfl (by decide) (by decide) (by decide) dX10_suffers_55) (fe_iload 5 rfl dX10_suffers_58) dX10_suffers_60 rfl)))
set_option maxRecDepth 20000 in
theorem t_Week_suffers_5 {N B C : Nat × FT} : fw_S s_Week_suffers [(0, 137), (1, 6), (2, 0), (3, 0), (4, 0), (5, 0)] 63 (rtS (cE 1)) N B C := fs_ret (fe_iconst dX10_suffers_63) dX10_suffers_64
set_option maxRecDepth 20000 in
theorem t_Week_suffers_6 {B C : Nat × FT} : fw_S s_Week_suffers [(0, 137), (1, 6), (2, 0), (3, 0), (4, 0)] 65 (inS 4 1) (68, [(0, 137), (1, 6), (2, 0), (3, 0), (4, 0)]) B C := fs_inc (j := 4) rfl dX10_suffers_65 (by decide) rfl
set_option maxRecDepth 20000 in
theorem t_Week_suffers_7 {B C : Nat × FT} : fw_S s_Week_suffers [(0, 137), (1, 6), (2, 0), (3, 0), (4, 0)] 10 (whS (nB (cB 3 (vE 4) (thE (cE 0) (gE 260)))) (sq (stS 5 (ldE 1088 24 (thE (cE 0) (cE 0)) (o2 addI (o2 mulI (vE 2) (cE 4)) (vE 4)))) (ifS (andB (nB (cB 0 (vE 5) (cE (-1)))) (nB (cB 5 (clE m_D_shadeOf [(ldE 8896 40 (thE (cE 0) (cE 0)) (o2 addI (o2 mulI (vE 3) (cE 4)) (vE 4))), (ldE 8704 10 (thE (cE 0) (cE 0)) (vE 3))]) (vE 5)))) (rtS (cE 1)) skS)) (inS 4 1) FU) (71, [(0, 137), (1, 6), (2, 0), (3, 0), (4, 0)]) B C := fs_while t_Week_suffers_2 (fs_seq t_Week_suffers_3 (fs_if t_Week_suffers_4 t_Week_suffers_5 (fs_skip rfl))) (fs_goto t_Week_suffers_6 dX10_suffers_68 rfl)
set_option maxRecDepth 20000 in
theorem t_Week_suffers_8 {N B C : Nat × FT} : fw_S s_Week_suffers [(0, 137), (1, 6), (2, 0), (3, 0)] 71 (rtS (cE 0)) N B C := fs_ret (fe_iconst dX10_suffers_71) dX10_suffers_72
set_option maxRecDepth 20000 in
theorem C_Week_suffers : fw_C LX yX10_suffers cX10_suffers 6 (some .boolean) 2 [137, 6, 0] (some 0) m_Week_suffers := fm_z (d := 2) (N := (0, [])) (B := (0, [])) (C := (0, [])) LX_ok (by decide +kernel) (show fw_S s_Week_suffers _ 0 b_Week_suffers _ _ _ from (fs_seq t_Week_suffers_0 (fs_seq (fs_seq t_Week_suffers_1 (fs_weak t_Week_suffers_7 rfl)) t_Week_suffers_8))) (by decide)
/-! DyerBells$Week.harmedBehind (this 135 week) -/
abbrev s_Week_harmedBehind : SI := (LX, RX10, cX10_harmedBehind, 6, 3, some 0)
set_option maxRecDepth 20000 in
theorem t_Week_harmedBehind_0 {B C : Nat × FT} : fw_S s_Week_harmedBehind [(0, 137), (1, 6), (2, 0)] 0 (stS 3 (rmE (vE 2) (cE 24))) (5, [(0, 137), (1, 6), (2, 0), (3, 0)]) B C := fs_istn (fe_irem (fe_iloadn 2 rfl dX10_harmedBehind_0) (fe_bipush dX10_harmedBehind_1) dX10_harmedBehind_3) dX10_harmedBehind_4 (by decide) rfl
set_option maxRecDepth 20000 in
theorem t_Week_harmedBehind_1 {B C : Nat × FT} : fw_S s_Week_harmedBehind [(0, 137), (1, 6), (2, 0), (3, 0)] 5 (stS 4 (cE 0)) (8, [(0, 137), (1, 6), (2, 0), (3, 0), (4, 0)]) B C := fs_ist (fe_iconst dX10_harmedBehind_5) dX10_harmedBehind_6 (by decide) rfl
set_option maxRecDepth 20000 in
theorem t_Week_harmedBehind_2 {B C : Nat × FT} : fw_S s_Week_harmedBehind [(0, 137), (1, 6), (2, 0), (3, 0), (4, 0)] 8 (stS 5 (cE 0)) (11, [(0, 137), (1, 6), (2, 0), (3, 0), (4, 0), (5, 0)]) B C := fs_ist (fe_iconst dX10_harmedBehind_8) dX10_harmedBehind_9 (by decide) rfl
set_option maxRecDepth 20000 in
theorem t_Week_harmedBehind_3 : fw_B s_Week_harmedBehind [(0, 137), (1, 6), (2, 0), (3, 0), (4, 0), (5, 0)] 0 11 20 67 (nB (cB 3 (vE 5) (thE (cE 0) (gE 265)))) := (fb_not (fb_icmp_ge (fe_iload 5 rfl dX10_harmedBehind_11) (fe_getI (fe_aloadn 1 rfl dX10_harmedBehind_13) fl_RX10_120 lx_4 rfl dX10_harmedBehind_14) dX10_harmedBehind_17 rfl))
set_option maxRecDepth 20000 in
theorem t_Week_harmedBehind_4 : fw_B s_Week_harmedBehind [(0, 137), (1, 6), (2, 0), (3, 0), (4, 0), (5, 0)] 0 20 52 61 (andB (andB (nB (cB 2 (vE 3) (ldE 960 6 (thE (cE 0) (cE 0)) (vE 5)))) (nB (cB 3 (vE 3) (ldE 1024 6 (thE (cE 0) (cE 0)) (vE 5))))) (nB (zB 0 (clE m_Week_suffers [(cE 0), (cE 0), (vE 5)])))) := (fb_and (fb_and (fb_not (fb_icmp_lt (fe_iloadn 3 rfl dX10_harmedBehind_20) (fe_iald (fe_getR (fe_aloadn 1 rfl dX10_harmedBehind_21) fl_RX10_123 lx_4 rfl dX10_harmedBehind_22) (fe_iload 5 rfl dX10_harmedBehind_25) lx_15 dX10_harmedBehind_27) dX10_harmedBehind_28 rfl)) (fb_not (fb_icmp_ge (fe_iloadn 3 rfl dX10_harmedBehind_31) (fe_iald (fe_getR (fe_aloadn 1 rfl dX10_harmedBehind_32) fl_RX10_126 lx_4 rfl dX10_harmedBehind_33) (fe_iload 5 rfl dX10_harmedBehind_36) lx_16 dX10_harmedBehind_38) dX10_harmedBehind_39 rfl))) (fb_not (fb_if_eq (fe_callV (fa_cons (fe_aloadn 0 rfl dX10_harmedBehind_42) (fa_cons (fe_aloadn 1 rfl dX10_harmedBehind_43) (fa_cons (fe_iload 5 rfl dX10_harmedBehind_44) fa_nil))) C_Week_suffers lv_RX10_129 lx_135 rfl rfl (by decide) (by decide) (by decide) dX10_harmedBehind_46) dX10_harmedBehind_49 rfl)))
set_option maxRecDepth 20000 in
theorem t_Week_harmedBehind_5 {B C : Nat × FT} : fw_S s_Week_harmedBehind [(0, 137), (1, 6), (2, 0), (3, 0), (4, 0), (5, 0)] 52 (stS 4 (o2 iorI (vE 4) (o2 shlI (cE 1) (vE 5)))) (61, [(0, 137), (1, 6), (2, 0), (3, 0), (4, 0), (5, 0)]) B C := fs_ist (fe_ior (fe_iload 4 rfl dX10_harmedBehind_52) (fe_ishl (fe_iconst dX10_harmedBehind_54) (fe_iload 5 rfl dX10_harmedBehind_55) dX10_harmedBehind_57) dX10_harmedBehind_58) dX10_harmedBehind_59 (by decide) rfl
set_option maxRecDepth 20000 in
theorem t_Week_harmedBehind_6 {B C : Nat × FT} : fw_S s_Week_harmedBehind [(0, 137), (1, 6), (2, 0), (3, 0), (4, 0), (5, 0)] 61 (inS 5 1) (64, [(0, 137), (1, 6), (2, 0), (3, 0), (4, 0), (5, 0)]) B C := fs_inc (j := 5) rfl dX10_harmedBehind_61 (by decide) rfl
set_option maxRecDepth 20000 in
theorem t_Week_harmedBehind_7 {B C : Nat × FT} : fw_S s_Week_harmedBehind [(0, 137), (1, 6), (2, 0), (3, 0), (4, 0), (5, 0)] 11 (whS (nB (cB 3 (vE 5) (thE (cE 0) (gE 265)))) (ifS (andB (andB (nB (cB 2 (vE 3) (ldE 960 6 (thE (cE 0) (cE 0)) (vE 5)))) (nB (cB 3 (vE 3) (ldE 1024 6 (thE (cE 0) (cE 0)) (vE 5))))) (nB (zB 0 (clE m_Week_suffers [(cE 0), (cE 0), (vE 5)])))) (stS 4 (o2 iorI (vE 4) (o2 shlI (cE 1) (vE 5)))) skS) (inS 5 1) FU) (67, [(0, 137), (1, 6), (2, 0), (3, 0), (4, 0), (5, 0)]) B C := fs_while t_Week_harmedBehind_3 (fs_if t_Week_harmedBehind_4 t_Week_harmedBehind_5 (fs_skip rfl)) (fs_goto t_Week_harmedBehind_6 dX10_harmedBehind_64 rfl)
set_option maxRecDepth 20000 in
theorem t_Week_harmedBehind_8 {N B C : Nat × FT} : fw_S s_Week_harmedBehind [(0, 137), (1, 6), (2, 0), (3, 0), (4, 0)] 67 (rtS (vE 4)) N B C := fs_ret (fe_iload 4 rfl dX10_harmedBehind_67) dX10_harmedBehind_69
set_option maxRecDepth 20000 in
theorem C_Week_harmedBehind : fw_C LX yX10_harmedBehind cX10_harmedBehind 6 (some .int) 3 [137, 6, 0] (some 0) m_Week_harmedBehind := fm_i (d := 3) (N := (0, [])) (B := (0, [])) (C := (0, [])) LX_ok (by decide +kernel) (show fw_S s_Week_harmedBehind _ 0 b_Week_harmedBehind _ _ _ from (fs_seq t_Week_harmedBehind_0 (fs_seq t_Week_harmedBehind_1 (fs_seq (fs_seq t_Week_harmedBehind_2 (fs_weak t_Week_harmedBehind_7 rfl)) t_Week_harmedBehind_8)))) (by decide)
/-! java/lang/Integer.bitCount -/
abbrev s_Integer_bitCount : SI := (LX, RJ6, cJ6_bitCount_0f7a4, 1, 1, some 0)
set_option maxRecDepth 20000 in
theorem t_Integer_bitCount_0 {B C : Nat × FT} : fw_S s_Integer_bitCount [(0, 0)] 0 (stS 0 (o2 subI (vE 0) (o2 andI (o2 usrI (vE 0) (cE 1)) (cE 1431655765)))) (10, [(0, 0)]) B C := fs_istn (fe_isub (fe_iloadn 0 rfl dJ6_bitCount_0f7a4_0) (fe_iand (fe_iushr (fe_iloadn 0 rfl dJ6_bitCount_0f7a4_1) (fe_iconst dJ6_bitCount_0f7a4_2) dJ6_bitCount_0f7a4_3) (fe_ldcw dJ6_bitCount_0f7a4_4 wk_RJ6_265) dJ6_bitCount_0f7a4_7) dJ6_bitCount_0f7a4_8) dJ6_bitCount_0f7a4_9 (by decide) rfl
set_option maxRecDepth 20000 in
theorem t_Integer_bitCount_1 {B C : Nat × FT} : fw_S s_Integer_bitCount [(0, 0)] 10 (stS 0 (o2 addI (o2 andI (vE 0) (cE 858993459)) (o2 andI (o2 usrI (vE 0) (cE 2)) (cE 858993459)))) (24, [(0, 0)]) B C := fs_istn (fe_iadd (fe_iand (fe_iloadn 0 rfl dJ6_bitCount_0f7a4_10) (fe_ldcw dJ6_bitCount_0f7a4_11 wk_RJ6_266) dJ6_bitCount_0f7a4_14) (fe_iand (fe_iushr (fe_iloadn 0 rfl dJ6_bitCount_0f7a4_15) (fe_iconst dJ6_bitCount_0f7a4_16) dJ6_bitCount_0f7a4_17) (fe_ldcw dJ6_bitCount_0f7a4_18 wk_RJ6_266) dJ6_bitCount_0f7a4_21) dJ6_bitCount_0f7a4_22) dJ6_bitCount_0f7a4_23 (by decide) rfl
set_option maxRecDepth 20000 in
theorem t_Integer_bitCount_2 {B C : Nat × FT} : fw_S s_Integer_bitCount [(0, 0)] 24 (stS 0 (o2 andI (o2 addI (vE 0) (o2 usrI (vE 0) (cE 4))) (cE 252645135))) (34, [(0, 0)]) B C := fs_istn (fe_iand (fe_iadd (fe_iloadn 0 rfl dJ6_bitCount_0f7a4_24) (fe_iushr (fe_iloadn 0 rfl dJ6_bitCount_0f7a4_25) (fe_iconst dJ6_bitCount_0f7a4_26) dJ6_bitCount_0f7a4_27) dJ6_bitCount_0f7a4_28) (fe_ldcw dJ6_bitCount_0f7a4_29 wk_RJ6_267) dJ6_bitCount_0f7a4_32) dJ6_bitCount_0f7a4_33 (by decide) rfl
set_option maxRecDepth 20000 in
theorem t_Integer_bitCount_3 {B C : Nat × FT} : fw_S s_Integer_bitCount [(0, 0)] 34 (stS 0 (o2 addI (vE 0) (o2 usrI (vE 0) (cE 8)))) (41, [(0, 0)]) B C := fs_istn (fe_iadd (fe_iloadn 0 rfl dJ6_bitCount_0f7a4_34) (fe_iushr (fe_iloadn 0 rfl dJ6_bitCount_0f7a4_35) (fe_bipush dJ6_bitCount_0f7a4_36) dJ6_bitCount_0f7a4_38) dJ6_bitCount_0f7a4_39) dJ6_bitCount_0f7a4_40 (by decide) rfl
set_option maxRecDepth 20000 in
theorem t_Integer_bitCount_4 {B C : Nat × FT} : fw_S s_Integer_bitCount [(0, 0)] 41 (stS 0 (o2 addI (vE 0) (o2 usrI (vE 0) (cE 16)))) (48, [(0, 0)]) B C := fs_istn (fe_iadd (fe_iloadn 0 rfl dJ6_bitCount_0f7a4_41) (fe_iushr (fe_iloadn 0 rfl dJ6_bitCount_0f7a4_42) (fe_bipush dJ6_bitCount_0f7a4_43) dJ6_bitCount_0f7a4_45) dJ6_bitCount_0f7a4_46) dJ6_bitCount_0f7a4_47 (by decide) rfl
set_option maxRecDepth 20000 in
theorem t_Integer_bitCount_5 {N B C : Nat × FT} : fw_S s_Integer_bitCount [(0, 0)] 48 (rtS (o2 andI (vE 0) (cE 63))) N B C := fs_ret (fe_iand (fe_iloadn 0 rfl dJ6_bitCount_0f7a4_48) (fe_bipush dJ6_bitCount_0f7a4_49) dJ6_bitCount_0f7a4_51) dJ6_bitCount_0f7a4_52
set_option maxRecDepth 20000 in
theorem C_Integer_bitCount : fw_C LX yJ6_bitCount_0f7a4 cJ6_bitCount_0f7a4 1 (some .int) 1 [0] (some 0) m_Integer_bitCount := fm_i (d := 1) (N := (0, [])) (B := (0, [])) (C := (0, [])) LX_ok (by decide +kernel) (show fw_S s_Integer_bitCount _ 0 b_Integer_bitCount _ _ _ from (fs_seq t_Integer_bitCount_0 (fs_seq t_Integer_bitCount_1 (fs_seq t_Integer_bitCount_2 (fs_seq t_Integer_bitCount_3 (fs_seq t_Integer_bitCount_4 t_Integer_bitCount_5)))))) (by decide)
/-! DyerBells$Past.keep (this 142 past) -/
abbrev s_Past_keep : SI := (LX, RX2, cX2_keep, 4, 4, none)
set_option maxRecDepth 20000 in
theorem t_Past_keep_0 {B C : Nat × FT} : fw_S s_Past_keep [(0, 144), (1, 6), (2, 137), (3, 0)] 0 (cpS 8896 40 9152 6720 [(thE (cE 0) (cE 0)), (cE 0), (thE (cE 0) (cE 0)), (o2 mulI (vE 3) (cE 40)), (cE 40)]) (18, [(0, 144), (1, 6), (2, 137), (3, 0)]) B C := fs_cpy (fa_cons (fe_getR (fe_aloadn 2 rfl dX2_keep_0) fl_RX2_30 lx_135 rfl dX2_keep_1) (fa_cons (fe_iconst dX2_keep_4) (fa_cons (fe_getR (fe_aloadn 0 rfl dX2_keep_5) fl_RX2_9 lx_142 rfl dX2_keep_6) (fa_cons (fe_imul (fe_iloadn 3 rfl dX2_keep_9) (fe_bipush dX2_keep_10) dX2_keep_12) (fa_cons (fe_bipush dX2_keep_13) fa_nil))))) lx_139 lx_143 ac_RX2_33 (by decide) dX2_keep_15 rfl
set_option maxRecDepth 20000 in
theorem t_Past_keep_1 {B C : Nat × FT} : fw_S s_Past_keep [(0, 144), (1, 6), (2, 137), (3, 0)] 18 (cpS 8960 40 9216 6720 [(thE (cE 0) (cE 0)), (cE 0), (thE (cE 0) (cE 0)), (o2 mulI (vE 3) (cE 40)), (cE 40)]) (36, [(0, 144), (1, 6), (2, 137), (3, 0)]) B C := fs_cpy (fa_cons (fe_getR (fe_aloadn 2 rfl dX2_keep_18) fl_RX2_39 lx_135 rfl dX2_keep_19) (fa_cons (fe_iconst dX2_keep_22) (fa_cons (fe_getR (fe_aloadn 0 rfl dX2_keep_23) fl_RX2_15 lx_142 rfl dX2_keep_24) (fa_cons (fe_imul (fe_iloadn 3 rfl dX2_keep_27) (fe_bipush dX2_keep_28) dX2_keep_30) (fa_cons (fe_bipush dX2_keep_31) fa_nil))))) lx_140 lx_144 ac_RX2_33 (by decide) dX2_keep_33 rfl
set_option maxRecDepth 20000 in
theorem t_Past_keep_2 {B C : Nat × FT} : fw_S s_Past_keep [(0, 144), (1, 6), (2, 137), (3, 0)] 36 (cpS 9024 4 9280 672 [(thE (cE 0) (cE 0)), (cE 0), (thE (cE 0) (cE 0)), (o2 mulI (vE 3) (cE 4)), (cE 4)]) (52, [(0, 144), (1, 6), (2, 137), (3, 0)]) B C := fs_cpy (fa_cons (fe_getR (fe_aloadn 2 rfl dX2_keep_36) fl_RX2_40 lx_135 rfl dX2_keep_37) (fa_cons (fe_iconst dX2_keep_40) (fa_cons (fe_getR (fe_aloadn 0 rfl dX2_keep_41) fl_RX2_18 lx_142 rfl dX2_keep_42) (fa_cons (fe_imul (fe_iloadn 3 rfl dX2_keep_45) (fe_iconst dX2_keep_46) dX2_keep_47) (fa_cons (fe_iconst dX2_keep_48) fa_nil))))) lx_141 lx_145 ac_RX2_33 (by decide) dX2_keep_49 rfl
set_option maxRecDepth 20000 in
theorem t_Past_keep_3 {B C : Nat × FT} : fw_S s_Past_keep [(0, 144), (1, 6), (2, 137), (3, 0)] 52 (asS 9344 168 idI (thE (cE 0) (cE 0)) (vE 3) (ldE 8832 168 (thE (cE 0) (cE 0)) (vE 3))) (64, [(0, 144), (1, 6), (2, 137), (3, 0)]) B C := fs_iast (fe_getR (fe_aloadn 0 rfl dX2_keep_52) fl_RX2_21 lx_142 rfl dX2_keep_53) (fe_iloadn 3 rfl dX2_keep_56) (fe_iald (fe_getR (fe_aloadn 2 rfl dX2_keep_57) fl_RX2_41 lx_135 rfl dX2_keep_58) (fe_iloadn 3 rfl dX2_keep_61) lx_138 dX2_keep_62) lx_146 dX2_keep_63 rfl
set_option maxRecDepth 20000 in
theorem t_Past_keep_4 {B C : Nat × FT} : fw_S s_Past_keep [(0, 144), (1, 6), (2, 137), (3, 0)] 64 (asS 9408 168 idI (thE (cE 0) (cE 0)) (vE 3) (clE m_Week_harmedBehind [(cE 0), (cE 0), (vE 3)])) (76, [(0, 144), (1, 6), (2, 137), (3, 0)]) B C := fs_iast (fe_getR (fe_aloadn 0 rfl dX2_keep_64) fl_RX2_24 lx_142 rfl dX2_keep_65) (fe_iloadn 3 rfl dX2_keep_68) (fe_callV (fa_cons (fe_aloadn 2 rfl dX2_keep_69) (fa_cons (fe_aloadn 1 rfl dX2_keep_70) (fa_cons (fe_iloadn 3 rfl dX2_keep_71) fa_nil))) C_Week_harmedBehind lv_RX2_42 lx_135 rfl rfl (by decide) (by decide) (by decide) dX2_keep_72) lx_147 dX2_keep_75 rfl
set_option maxRecDepth 20000 in
theorem t_Past_keep_5 {B C : Nat × FT} : fw_S s_Past_keep [(0, 144), (1, 6), (2, 137), (3, 0)] 76 (asS 9472 169 idI (thE (cE 0) (cE 0)) (o2 addI (vE 3) (cE 1)) (o2 addI (ldE 9472 169 (thE (cE 0) (cE 0)) (vE 3)) (clE m_Integer_bitCount [(ldE 9408 168 (thE (cE 0) (cE 0)) (vE 3))]))) (100, [(0, 144), (1, 6), (2, 137), (3, 0)]) B C := fs_iast (fe_getR (fe_aloadn 0 rfl dX2_keep_76) fl_RX2_27 lx_142 rfl dX2_keep_77) (fe_iadd (fe_iloadn 3 rfl dX2_keep_80) (fe_iconst dX2_keep_81) dX2_keep_82) (fe_iadd (fe_iald (fe_getR (fe_aloadn 0 rfl dX2_keep_83) fl_RX2_27 lx_142 rfl dX2_keep_84) (fe_iloadn 3 rfl dX2_keep_87) lx_148 dX2_keep_88) (fe_callS (fa_cons (fe_iald (fe_getR (fe_aloadn 0 rfl dX2_keep_89) fl_RX2_24 lx_142 rfl dX2_keep_90) (fe_iloadn 3 rfl dX2_keep_93) lx_147 dX2_keep_94) fa_nil) C_Integer_bitCount ls_RX2_46 rfl (by decide) (by decide) (by decide) dX2_keep_95) dX2_keep_98) lx_148 dX2_keep_99 rfl
set_option maxRecDepth 20000 in
theorem t_Past_keep_6 {N B C : Nat × FT} : fw_S s_Past_keep [(0, 144), (1, 6), (2, 137), (3, 0)] 100 rvS N B C := fs_rv dX2_keep_100
set_option maxRecDepth 20000 in
theorem C_Past_keep : fw_C LX yX2_keep cX2_keep 4 none 4 [144, 6, 137, 0] (none) m_Past_keep := fm_v (d := 4) (N := (0, [])) (B := (0, [])) (C := (0, [])) LX_ok (by decide +kernel) (show fw_S s_Past_keep _ 0 b_Past_keep _ _ _ from (fs_seq t_Past_keep_0 (fs_seq t_Past_keep_1 (fs_seq t_Past_keep_2 (fs_seq t_Past_keep_3 (fs_seq t_Past_keep_4 (fs_seq t_Past_keep_5 t_Past_keep_6))))))) (by decide)
/-! DyerBells.past (this 0 ) -/
abbrev s_D_past : SI := (LX, RX11, cX11_past, 2, 5, some 144)
set_option maxRecDepth 20000 in
theorem t_D_past_0 : fw_B s_D_past [(0, 2)] 0 0 7 89 (nB (zB 0 (thE (cE 0) (gE 10)))) := (fb_not (fb_if_eq (fe_getI (fe_aloadn 0 rfl dX11_past_0) fl_RX11_46 lx_0 rfl dX11_past_1) dX11_past_4 rfl))
set_option maxRecDepth 20000 in
theorem t_D_past_1 {B C : Nat × FT} : fw_S s_D_past [(0, 2)] 7 (exS (clE m_Week_prepare [(thE (cE 0) (cE 0)), (thE (thE (cE 0) (cE 0)) (cE 0)), (thE (thE (cE 0) (cE 0)) (cE 0))])) (28, [(0, 2)]) B C := fs_callV (t := 0) (fa_cons (fe_getR (fe_aloadn 0 rfl dX11_past_7) fl_RX11_35 lx_0 rfl dX11_past_8) (fa_cons (fe_getR (fe_getR (fe_aloadn 0 rfl dX11_past_11) fl_RX11_19 lx_0 rfl dX11_past_12) fl_RX11_77 lx_3 rfl dX11_past_15) (fa_cons (fe_getR (fe_getR (fe_aloadn 0 rfl dX11_past_18) fl_RX11_19 lx_0 rfl dX11_past_19) fl_RX11_150 lx_3 rfl dX11_past_22) fa_nil))) C_Week_prepare lv_RX11_234 lx_135 rfl rfl (by decide) (by decide) dX11_past_25 rfl
set_option maxRecDepth 20000 in
theorem t_D_past_2 {B C : Nat × FT} : fw_S s_D_past [(0, 2)] 28 (exS (clE m_Week_empty [(thE (cE 0) (cE 0))])) (35, [(0, 2)]) B C := fs_callV (t := 0) (fa_cons (fe_getR (fe_aloadn 0 rfl dX11_past_28) fl_RX11_35 lx_0 rfl dX11_past_29) fa_nil) C_Week_empty lv_RX11_241 lx_135 rfl rfl (by decide) (by decide) dX11_past_32 rfl
set_option maxRecDepth 20000 in
theorem t_D_past_3 {B C : Nat × FT} : fw_S s_D_past [(0, 2)] 35 (stS 1 (cE 0)) (37, [(0, 2), (1, 0)]) B C := fs_istn (fe_iconst dX11_past_35) dX11_past_36 (by decide) rfl
set_option maxRecDepth 20000 in
theorem t_D_past_4 : fw_B s_D_past [(0, 2), (1, 0)] 0 37 44 84 (nB (cB 3 (vE 1) (cE 168))) := (fb_not (fb_icmp_ge (fe_iloadn 1 rfl dX11_past_37) (fe_sipush dX11_past_38) dX11_past_41 rfl))
set_option maxRecDepth 20000 in
theorem t_D_past_5 {B C : Nat × FT} : fw_S s_D_past [(0, 2), (1, 0)] 44 (exS (clE m_Week_pass [(thE (cE 0) (cE 0)), (thE (thE (cE 0) (cE 0)) (cE 0)), (vE 1)])) (59, [(0, 2), (1, 0)]) B C := fs_callV (t := 0) (fa_cons (fe_getR (fe_aloadn 0 rfl dX11_past_44) fl_RX11_35 lx_0 rfl dX11_past_45) (fa_cons (fe_getR (fe_getR (fe_aloadn 0 rfl dX11_past_48) fl_RX11_19 lx_0 rfl dX11_past_49) fl_RX11_77 lx_3 rfl dX11_past_52) (fa_cons (fe_iloadn 1 rfl dX11_past_55) fa_nil))) C_Week_pass lv_RX11_244 lx_135 rfl rfl (by decide) (by decide) dX11_past_56 rfl
set_option maxRecDepth 20000 in
theorem t_D_past_6 {B C : Nat × FT} : fw_S s_D_past [(0, 2), (1, 0)] 59 (exS (clE m_Past_keep [(thE (cE 0) (cE 0)), (thE (thE (cE 0) (cE 0)) (cE 0)), (thE (cE 0) (cE 0)), (vE 1)])) (78, [(0, 2), (1, 0)]) B C := fs_callV (t := 0) (fa_cons (fe_getR (fe_aloadn 0 rfl dX11_past_59) fl_RX11_42 lx_0 rfl dX11_past_60) (fa_cons (fe_getR (fe_getR (fe_aloadn 0 rfl dX11_past_63) fl_RX11_19 lx_0 rfl dX11_past_64) fl_RX11_77 lx_3 rfl dX11_past_67) (fa_cons (fe_getR (fe_aloadn 0 rfl dX11_past_70) fl_RX11_35 lx_0 rfl dX11_past_71) (fa_cons (fe_iloadn 1 rfl dX11_past_74) fa_nil)))) C_Past_keep lv_RX11_364 lx_142 rfl rfl (by decide) (by decide) dX11_past_75 rfl
set_option maxRecDepth 20000 in
theorem t_D_past_7 {B C : Nat × FT} : fw_S s_D_past [(0, 2), (1, 0)] 78 (inS 1 1) (81, [(0, 2), (1, 0)]) B C := fs_inc (j := 1) rfl dX11_past_78 (by decide) rfl
set_option maxRecDepth 20000 in
theorem t_D_past_8 {B C : Nat × FT} : fw_S s_D_past [(0, 2), (1, 0)] 37 (whS (nB (cB 3 (vE 1) (cE 168))) (sq (exS (clE m_Week_pass [(thE (cE 0) (cE 0)), (thE (thE (cE 0) (cE 0)) (cE 0)), (vE 1)])) (exS (clE m_Past_keep [(thE (cE 0) (cE 0)), (thE (thE (cE 0) (cE 0)) (cE 0)), (thE (cE 0) (cE 0)), (vE 1)]))) (inS 1 1) FU) (84, [(0, 2), (1, 0)]) B C := fs_while t_D_past_4 (fs_seq t_D_past_5 t_D_past_6) (fs_goto t_D_past_7 dX11_past_81 rfl)
set_option maxRecDepth 20000 in
theorem t_D_past_9 {B C : Nat × FT} : fw_S s_D_past [(0, 2)] 84 (pzS 10 (cE 0) (cE 0)) (89, [(0, 2)]) B C := fs_putZ (fe_aloadn 0 rfl dX11_past_84) (fe_iconst dX11_past_85) fp_RX11_46 lx_0 rfl dX11_past_86 rfl
set_option maxRecDepth 20000 in
theorem t_D_past_10 {N B C : Nat × FT} : fw_S s_D_past [(0, 2)] 89 (rtS (thE (cE 0) (cE 0))) N B C := fs_ret (fe_getR (fe_aloadn 0 rfl dX11_past_89) fl_RX11_42 lx_0 rfl dX11_past_90) dX11_past_93
set_option maxRecDepth 20000 in
theorem C_D_past : fw_C LX yX11_past cX11_past 2 (some (.object "DyerBells$Past")) 5 [2] (some 144) m_D_past := fm_r (d := 5) (N := (0, [])) (B := (0, [])) (C := (0, [])) LX_ok (by decide +kernel) (show fw_S s_D_past _ 0 b_D_past _ _ _ from (fs_seq (fs_if t_D_past_0 (fs_seq t_D_past_1 (fs_seq t_D_past_2 (fs_seq (fs_seq t_D_past_3 (fs_weak t_D_past_8 rfl)) t_D_past_9))) (fs_skip rfl)) t_D_past_10)) (by decide)
