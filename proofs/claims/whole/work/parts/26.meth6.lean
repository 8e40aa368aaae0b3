/-! DyerBells$Sentence.copyFrom (this 30 now.sentence) -/
abbrev s_Sentence_copyFrom_4 : SI := (LX, RX6, cX6_copyFrom, 2, 1, none)
def b_Sentence_copyFrom_4 : SM := (sq (pfS 1920 (cE 0) (thE (cE 0) (gE 6144))) (sq (pfS 1921 (cE 0) (thE (cE 0) (gE 6145))) (sq (cpS 6208 40 1984 40 [(thE (cE 0) (cE 0)), (cE 0), (thE (cE 0) (cE 0)), (cE 0), (cE 40)]) (sq (cpS 6272 40 2048 40 [(thE (cE 0) (cE 0)), (cE 0), (thE (cE 0) (cE 0)), (cE 0), (cE 40)]) (sq (cpS 6336 40 2112 40 [(thE (cE 0) (cE 0)), (cE 0), (thE (cE 0) (cE 0)), (cE 0), (cE 40)]) (sq (cpS 6400 40 2176 40 [(thE (cE 0) (cE 0)), (cE 0), (thE (cE 0) (cE 0)), (cE 0), (cE 40)]) (sq (cpS 6464 40 2240 40 [(thE (cE 0) (cE 0)), (cE 0), (thE (cE 0) (cE 0)), (cE 0), (cE 40)]) rvS)))))))
def m_Sentence_copyFrom_4 : FM := mthF [0, 1] b_Sentence_copyFrom_4
set_option maxRecDepth 20000 in
theorem t_Sentence_copyFrom_4_0 {B C : Nat × FT} : fw_S s_Sentence_copyFrom_4 [(0, 32), (1, 98)] 0 (pfS 1920 (cE 0) (thE (cE 0) (gE 6144))) (8, [(0, 32), (1, 98)]) B C := fs_put (fe_aloadn 0 rfl dX6_copyFrom_0) (fe_getI (fe_aloadn 1 rfl dX6_copyFrom_1) fl_RX6_27 lx_96 rfl dX6_copyFrom_2) fp_RX6_27 lx_30 rfl dX6_copyFrom_5 rfl
set_option maxRecDepth 20000 in
theorem t_Sentence_copyFrom_4_1 {B C : Nat × FT} : fw_S s_Sentence_copyFrom_4 [(0, 32), (1, 98)] 8 (pfS 1921 (cE 0) (thE (cE 0) (gE 6145))) (16, [(0, 32), (1, 98)]) B C := fs_put (fe_aloadn 0 rfl dX6_copyFrom_8) (fe_getI (fe_aloadn 1 rfl dX6_copyFrom_9) fl_RX6_31 lx_96 rfl dX6_copyFrom_10) fp_RX6_31 lx_30 rfl dX6_copyFrom_13 rfl
set_option maxRecDepth 20000 in
theorem t_Sentence_copyFrom_4_2 {B C : Nat × FT} : fw_S s_Sentence_copyFrom_4 [(0, 32), (1, 98)] 16 (cpS 6208 40 1984 40 [(thE (cE 0) (cE 0)), (cE 0), (thE (cE 0) (cE 0)), (cE 0), (cE 40)]) (31, [(0, 32), (1, 98)]) B C := fs_cpy (fa_cons (fe_getR (fe_aloadn 1 rfl dX6_copyFrom_16) fl_RX6_11 lx_96 rfl dX6_copyFrom_17) (fa_cons (fe_iconst dX6_copyFrom_20) (fa_cons (fe_getR (fe_aloadn 0 rfl dX6_copyFrom_21) fl_RX6_11 lx_30 rfl dX6_copyFrom_22) (fa_cons (fe_iconst dX6_copyFrom_25) (fa_cons (fe_bipush dX6_copyFrom_26) fa_nil))))) lx_97 lx_31 ac_RX6_34 (by decide) dX6_copyFrom_28 rfl
set_option maxRecDepth 20000 in
theorem t_Sentence_copyFrom_4_3 {B C : Nat × FT} : fw_S s_Sentence_copyFrom_4 [(0, 32), (1, 98)] 31 (cpS 6272 40 2048 40 [(thE (cE 0) (cE 0)), (cE 0), (thE (cE 0) (cE 0)), (cE 0), (cE 40)]) (46, [(0, 32), (1, 98)]) B C := fs_cpy (fa_cons (fe_getR (fe_aloadn 1 rfl dX6_copyFrom_31) fl_RX6_15 lx_96 rfl dX6_copyFrom_32) (fa_cons (fe_iconst dX6_copyFrom_35) (fa_cons (fe_getR (fe_aloadn 0 rfl dX6_copyFrom_36) fl_RX6_15 lx_30 rfl dX6_copyFrom_37) (fa_cons (fe_iconst dX6_copyFrom_40) (fa_cons (fe_bipush dX6_copyFrom_41) fa_nil))))) lx_98 lx_32 ac_RX6_34 (by decide) dX6_copyFrom_43 rfl
set_option maxRecDepth 20000 in
theorem t_Sentence_copyFrom_4_4 {B C : Nat × FT} : fw_S s_Sentence_copyFrom_4 [(0, 32), (1, 98)] 46 (cpS 6336 40 2112 40 [(thE (cE 0) (cE 0)), (cE 0), (thE (cE 0) (cE 0)), (cE 0), (cE 40)]) (61, [(0, 32), (1, 98)]) B C := fs_cpy (fa_cons (fe_getR (fe_aloadn 1 rfl dX6_copyFrom_46) fl_RX6_18 lx_96 rfl dX6_copyFrom_47) (fa_cons (fe_iconst dX6_copyFrom_50) (fa_cons (fe_getR (fe_aloadn 0 rfl dX6_copyFrom_51) fl_RX6_18 lx_30 rfl dX6_copyFrom_52) (fa_cons (fe_iconst dX6_copyFrom_55) (fa_cons (fe_bipush dX6_copyFrom_56) fa_nil))))) lx_99 lx_33 ac_RX6_34 (by decide) dX6_copyFrom_58 rfl
set_option maxRecDepth 20000 in
theorem t_Sentence_copyFrom_4_5 {B C : Nat × FT} : fw_S s_Sentence_copyFrom_4 [(0, 32), (1, 98)] 61 (cpS 6400 40 2176 40 [(thE (cE 0) (cE 0)), (cE 0), (thE (cE 0) (cE 0)), (cE 0), (cE 40)]) (76, [(0, 32), (1, 98)]) B C := fs_cpy (fa_cons (fe_getR (fe_aloadn 1 rfl dX6_copyFrom_61) fl_RX6_21 lx_96 rfl dX6_copyFrom_62) (fa_cons (fe_iconst dX6_copyFrom_65) (fa_cons (fe_getR (fe_aloadn 0 rfl dX6_copyFrom_66) fl_RX6_21 lx_30 rfl dX6_copyFrom_67) (fa_cons (fe_iconst dX6_copyFrom_70) (fa_cons (fe_bipush dX6_copyFrom_71) fa_nil))))) lx_100 lx_34 ac_RX6_34 (by decide) dX6_copyFrom_73 rfl
set_option maxRecDepth 20000 in
theorem t_Sentence_copyFrom_4_6 {B C : Nat × FT} : fw_S s_Sentence_copyFrom_4 [(0, 32), (1, 98)] 76 (cpS 6464 40 2240 40 [(thE (cE 0) (cE 0)), (cE 0), (thE (cE 0) (cE 0)), (cE 0), (cE 40)]) (91, [(0, 32), (1, 98)]) B C := fs_cpy (fa_cons (fe_getR (fe_aloadn 1 rfl dX6_copyFrom_76) fl_RX6_24 lx_96 rfl dX6_copyFrom_77) (fa_cons (fe_iconst dX6_copyFrom_80) (fa_cons (fe_getR (fe_aloadn 0 rfl dX6_copyFrom_81) fl_RX6_24 lx_30 rfl dX6_copyFrom_82) (fa_cons (fe_iconst dX6_copyFrom_85) (fa_cons (fe_bipush dX6_copyFrom_86) fa_nil))))) lx_101 lx_35 ac_RX6_34 (by decide) dX6_copyFrom_88 rfl
set_option maxRecDepth 20000 in
theorem t_Sentence_copyFrom_4_7 {N B C : Nat × FT} : fw_S s_Sentence_copyFrom_4 [(0, 32), (1, 98)] 91 rvS N B C := fs_rv dX6_copyFrom_91
set_option maxRecDepth 20000 in
theorem C_Sentence_copyFrom_4 : fw_C LX yX6_copyFrom cX6_copyFrom 2 none 1 [32, 98] (none) m_Sentence_copyFrom_4 := fm_v (d := 1) (N := (0, [])) (B := (0, [])) (C := (0, [])) LX_ok (by decide +kernel) (show fw_S s_Sentence_copyFrom_4 _ 0 b_Sentence_copyFrom_4 _ _ _ from (fs_seq t_Sentence_copyFrom_4_0 (fs_seq t_Sentence_copyFrom_4_1 (fs_seq t_Sentence_copyFrom_4_2 (fs_seq t_Sentence_copyFrom_4_3 (fs_seq t_Sentence_copyFrom_4_4 (fs_seq t_Sentence_copyFrom_4_5 (fs_seq t_Sentence_copyFrom_4_6 t_Sentence_copyFrom_4_7)))))))) (by decide)
/-! DyerBells$Scene.copyFrom (this 3 now) -/
abbrev s_Scene_copyFrom_4 : SI := (LX, RX5, cX5_copyFrom, 2, 3, none)
def b_Scene_copyFrom_4 : SM := (sq (exS (clE m_River_copyFrom_4 [(thE (cE 0) (cE 0)), (thE (cE 0) (cE 0))])) (sq (exS (clE m_Order_copyFrom_4 [(thE (cE 0) (cE 0)), (thE (cE 0) (cE 0))])) (sq (exS (clE m_Sights_copyFrom_4 [(thE (cE 0) (cE 0)), (thE (cE 0) (cE 0))])) (sq (exS (clE m_Sentence_copyFrom_4 [(thE (cE 0) (cE 0)), (thE (cE 0) (cE 0))])) rvS))))
def m_Scene_copyFrom_4 : FM := mthF [0, 1] b_Scene_copyFrom_4
set_option maxRecDepth 20000 in
theorem t_Scene_copyFrom_4_0 {B C : Nat × FT} : fw_S s_Scene_copyFrom_4 [(0, 5), (1, 71)] 0 (exS (clE m_River_copyFrom_4 [(thE (cE 0) (cE 0)), (thE (cE 0) (cE 0))])) (11, [(0, 5), (1, 71)]) B C := fs_callV (t := 0) (fa_cons (fe_getR (fe_aloadn 0 rfl dX5_copyFrom_0) fl_RX5_10 lx_3 rfl dX5_copyFrom_1) (fa_cons (fe_getR (fe_aloadn 1 rfl dX5_copyFrom_4) fl_RX5_10 lx_69 rfl dX5_copyFrom_5) fa_nil)) C_River_copyFrom_4 lv_RX5_45 lx_4 rfl rfl (by decide) (by decide) dX5_copyFrom_8 rfl
set_option maxRecDepth 20000 in
theorem t_Scene_copyFrom_4_1 {B C : Nat × FT} : fw_S s_Scene_copyFrom_4 [(0, 5), (1, 71)] 11 (exS (clE m_Order_copyFrom_4 [(thE (cE 0) (cE 0)), (thE (cE 0) (cE 0))])) (22, [(0, 5), (1, 71)]) B C := fs_callV (t := 0) (fa_cons (fe_getR (fe_aloadn 0 rfl dX5_copyFrom_11) fl_RX5_19 lx_3 rfl dX5_copyFrom_12) (fa_cons (fe_getR (fe_aloadn 1 rfl dX5_copyFrom_15) fl_RX5_19 lx_69 rfl dX5_copyFrom_16) fa_nil)) C_Order_copyFrom_4 lv_RX5_49 lx_22 rfl rfl (by decide) (by decide) dX5_copyFrom_19 rfl
set_option maxRecDepth 20000 in
theorem t_Scene_copyFrom_4_2 {B C : Nat × FT} : fw_S s_Scene_copyFrom_4 [(0, 5), (1, 71)] 22 (exS (clE m_Sights_copyFrom_4 [(thE (cE 0) (cE 0)), (thE (cE 0) (cE 0))])) (33, [(0, 5), (1, 71)]) B C := fs_callV (t := 0) (fa_cons (fe_getR (fe_aloadn 0 rfl dX5_copyFrom_22) fl_RX5_26 lx_3 rfl dX5_copyFrom_23) (fa_cons (fe_getR (fe_aloadn 1 rfl dX5_copyFrom_26) fl_RX5_26 lx_69 rfl dX5_copyFrom_27) fa_nil)) C_Sights_copyFrom_4 lv_RX5_52 lx_26 rfl rfl (by decide) (by decide) dX5_copyFrom_30 rfl
set_option maxRecDepth 20000 in
theorem t_Scene_copyFrom_4_3 {B C : Nat × FT} : fw_S s_Scene_copyFrom_4 [(0, 5), (1, 71)] 33 (exS (clE m_Sentence_copyFrom_4 [(thE (cE 0) (cE 0)), (thE (cE 0) (cE 0))])) (44, [(0, 5), (1, 71)]) B C := fs_callV (t := 0) (fa_cons (fe_getR (fe_aloadn 0 rfl dX5_copyFrom_33) fl_RX5_33 lx_3 rfl dX5_copyFrom_34) (fa_cons (fe_getR (fe_aloadn 1 rfl dX5_copyFrom_37) fl_RX5_33 lx_69 rfl dX5_copyFrom_38) fa_nil)) C_Sentence_copyFrom_4 lv_RX5_55 lx_30 rfl rfl (by decide) (by decide) dX5_copyFrom_41 rfl
set_option maxRecDepth 20000 in
theorem t_Scene_copyFrom_4_4 {N B C : Nat × FT} : fw_S s_Scene_copyFrom_4 [(0, 5), (1, 71)] 44 rvS N B C := fs_rv dX5_copyFrom_44
set_option maxRecDepth 20000 in
theorem C_Scene_copyFrom_4 : fw_C LX yX5_copyFrom cX5_copyFrom 2 none 3 [5, 71] (none) m_Scene_copyFrom_4 := fm_v (d := 3) (N := (0, [])) (B := (0, [])) (C := (0, [])) LX_ok (by decide +kernel) (show fw_S s_Scene_copyFrom_4 _ 0 b_Scene_copyFrom_4 _ _ _ from (fs_seq t_Scene_copyFrom_4_0 (fs_seq t_Scene_copyFrom_4_1 (fs_seq t_Scene_copyFrom_4_2 (fs_seq t_Scene_copyFrom_4_3 t_Scene_copyFrom_4_4))))) (by decide)
/-! DyerBells$Names.copyFrom (this 5 now.river.names) -/
abbrev s_Names_copyFrom_5 : SI := (LX, RX0, cX0_copyFrom, 2, 1, none)
def b_Names_copyFrom_5 : SM := (sq (pfS 320 (cE 0) (thE (cE 0) (gE 6656))) (sq (cpS 6720 26 384 26 [(thE (cE 0) (cE 0)), (cE 0), (thE (cE 0) (cE 0)), (cE 0), (cE 26)]) (sq (cpS 6784 26 448 26 [(thE (cE 0) (cE 0)), (cE 0), (thE (cE 0) (cE 0)), (cE 0), (cE 26)]) (sq (cpS 6848 26 512 26 [(thE (cE 0) (cE 0)), (cE 0), (thE (cE 0) (cE 0)), (cE 0), (cE 26)]) rvS))))
def m_Names_copyFrom_5 : FM := mthF [0, 1] b_Names_copyFrom_5
set_option maxRecDepth 20000 in
theorem t_Names_copyFrom_5_0 {B C : Nat × FT} : fw_S s_Names_copyFrom_5 [(0, 7), (1, 106)] 0 (pfS 320 (cE 0) (thE (cE 0) (gE 6656))) (8, [(0, 7), (1, 106)]) B C := fs_put (fe_aloadn 0 rfl dX0_copyFrom_0) (fe_getI (fe_aloadn 1 rfl dX0_copyFrom_1) fl_RX0_22 lx_104 rfl dX0_copyFrom_2) fp_RX0_22 lx_5 rfl dX0_copyFrom_5 rfl
set_option maxRecDepth 20000 in
theorem t_Names_copyFrom_5_1 {B C : Nat × FT} : fw_S s_Names_copyFrom_5 [(0, 7), (1, 106)] 8 (cpS 6720 26 384 26 [(thE (cE 0) (cE 0)), (cE 0), (thE (cE 0) (cE 0)), (cE 0), (cE 26)]) (23, [(0, 7), (1, 106)]) B C := fs_cpyL (fa_cons (fe_getR (fe_aloadn 1 rfl dX0_copyFrom_8) fl_RX0_11 lx_104 rfl dX0_copyFrom_9) (fa_cons (fe_iconst dX0_copyFrom_12) (fa_cons (fe_getR (fe_aloadn 0 rfl dX0_copyFrom_13) fl_RX0_11 lx_5 rfl dX0_copyFrom_14) (fa_cons (fe_iconst dX0_copyFrom_17) (fa_cons (fe_bipush dX0_copyFrom_18) fa_nil))))) lx_105 lx_6 ac_RX0_26 (by decide) dX0_copyFrom_20 rfl
set_option maxRecDepth 20000 in
theorem t_Names_copyFrom_5_2 {B C : Nat × FT} : fw_S s_Names_copyFrom_5 [(0, 7), (1, 106)] 23 (cpS 6784 26 448 26 [(thE (cE 0) (cE 0)), (cE 0), (thE (cE 0) (cE 0)), (cE 0), (cE 26)]) (38, [(0, 7), (1, 106)]) B C := fs_cpy (fa_cons (fe_getR (fe_aloadn 1 rfl dX0_copyFrom_23) fl_RX0_15 lx_104 rfl dX0_copyFrom_24) (fa_cons (fe_iconst dX0_copyFrom_27) (fa_cons (fe_getR (fe_aloadn 0 rfl dX0_copyFrom_28) fl_RX0_15 lx_5 rfl dX0_copyFrom_29) (fa_cons (fe_iconst dX0_copyFrom_32) (fa_cons (fe_bipush dX0_copyFrom_33) fa_nil))))) lx_106 lx_7 ac_RX0_26 (by decide) dX0_copyFrom_35 rfl
set_option maxRecDepth 20000 in
theorem t_Names_copyFrom_5_3 {B C : Nat × FT} : fw_S s_Names_copyFrom_5 [(0, 7), (1, 106)] 38 (cpS 6848 26 512 26 [(thE (cE 0) (cE 0)), (cE 0), (thE (cE 0) (cE 0)), (cE 0), (cE 26)]) (53, [(0, 7), (1, 106)]) B C := fs_cpy (fa_cons (fe_getR (fe_aloadn 1 rfl dX0_copyFrom_38) fl_RX0_19 lx_104 rfl dX0_copyFrom_39) (fa_cons (fe_iconst dX0_copyFrom_42) (fa_cons (fe_getR (fe_aloadn 0 rfl dX0_copyFrom_43) fl_RX0_19 lx_5 rfl dX0_copyFrom_44) (fa_cons (fe_iconst dX0_copyFrom_47) (fa_cons (fe_bipush dX0_copyFrom_48) fa_nil))))) lx_107 lx_8 ac_RX0_26 (by decide) dX0_copyFrom_50 rfl
set_option maxRecDepth 20000 in
theorem t_Names_copyFrom_5_4 {N B C : Nat × FT} : fw_S s_Names_copyFrom_5 [(0, 7), (1, 106)] 53 rvS N B C := fs_rv dX0_copyFrom_53
set_option maxRecDepth 20000 in
theorem C_Names_copyFrom_5 : fw_C LX yX0_copyFrom cX0_copyFrom 2 none 1 [7, 106] (none) m_Names_copyFrom_5 := fm_v (d := 1) (N := (0, [])) (B := (0, [])) (C := (0, [])) LX_ok (by decide +kernel) (show fw_S s_Names_copyFrom_5 _ 0 b_Names_copyFrom_5 _ _ _ from (fs_seq t_Names_copyFrom_5_0 (fs_seq t_Names_copyFrom_5_1 (fs_seq t_Names_copyFrom_5_2 (fs_seq t_Names_copyFrom_5_3 t_Names_copyFrom_5_4))))) (by decide)
/-! DyerBells$River.copyFrom (this 4 now.river) -/
abbrev s_River_copyFrom_5 : SI := (LX, RX3, cX3_copyFrom, 2, 2, none)
def b_River_copyFrom_5 : SM := (sq (exS (clE m_Names_copyFrom_5 [(thE (cE 0) (cE 0)), (thE (cE 0) (cE 0))])) (sq (pfS 257 (cE 0) (thE (cE 0) (gE 6593))) (sq (cpS 6912 10 576 10 [(thE (cE 0) (cE 0)), (cE 0), (thE (cE 0) (cE 0)), (cE 0), (cE 10)]) (sq (cpS 6976 10 640 10 [(thE (cE 0) (cE 0)), (cE 0), (thE (cE 0) (cE 0)), (cE 0), (cE 10)]) (sq (pfS 260 (cE 0) (thE (cE 0) (gE 6596))) (sq (pfS 261 (cE 0) (thE (cE 0) (gE 6597))) (sq (cpS 7040 6 704 6 [(thE (cE 0) (cE 0)), (cE 0), (thE (cE 0) (cE 0)), (cE 0), (cE 6)]) (sq (cpS 7104 6 768 6 [(thE (cE 0) (cE 0)), (cE 0), (thE (cE 0) (cE 0)), (cE 0), (cE 6)]) (sq (cpS 7168 24 832 24 [(thE (cE 0) (cE 0)), (cE 0), (thE (cE 0) (cE 0)), (cE 0), (cE 24)]) (sq (pfS 265 (cE 0) (thE (cE 0) (gE 6601))) (sq (cpS 7232 6 896 6 [(thE (cE 0) (cE 0)), (cE 0), (thE (cE 0) (cE 0)), (cE 0), (cE 6)]) (sq (cpS 7296 6 960 6 [(thE (cE 0) (cE 0)), (cE 0), (thE (cE 0) (cE 0)), (cE 0), (cE 6)]) (sq (cpS 7360 6 1024 6 [(thE (cE 0) (cE 0)), (cE 0), (thE (cE 0) (cE 0)), (cE 0), (cE 6)]) (sq (cpS 7424 24 1088 24 [(thE (cE 0) (cE 0)), (cE 0), (thE (cE 0) (cE 0)), (cE 0), (cE 24)]) (sq (cpS 7488 7 1152 7 [(thE (cE 0) (cE 0)), (cE 0), (thE (cE 0) (cE 0)), (cE 0), (cE 7)]) (sq (pfS 271 (cE 0) (thE (cE 0) (gE 6607))) (sq (pfS 272 (cE 0) (thE (cE 0) (gE 6608))) (sq (cpS 7552 12 1216 12 [(thE (cE 0) (cE 0)), (cE 0), (thE (cE 0) (cE 0)), (cE 0), (cE 12)]) (sq (cpS 7616 12 1280 12 [(thE (cE 0) (cE 0)), (cE 0), (thE (cE 0) (cE 0)), (cE 0), (cE 12)]) (sq (cpS 7680 12 1344 12 [(thE (cE 0) (cE 0)), (cE 0), (thE (cE 0) (cE 0)), (cE 0), (cE 12)]) rvS))))))))))))))))))))
def m_River_copyFrom_5 : FM := mthF [0, 1] b_River_copyFrom_5
set_option maxRecDepth 20000 in
theorem t_River_copyFrom_5_0 {B C : Nat × FT} : fw_S s_River_copyFrom_5 [(0, 6), (1, 105)] 0 (exS (clE m_Names_copyFrom_5 [(thE (cE 0) (cE 0)), (thE (cE 0) (cE 0))])) (11, [(0, 6), (1, 105)]) B C := fs_callV (t := 0) (fa_cons (fe_getR (fe_aloadn 0 rfl dX3_copyFrom_0) fl_RX3_12 lx_4 rfl dX3_copyFrom_1) (fa_cons (fe_getR (fe_aloadn 1 rfl dX3_copyFrom_4) fl_RX3_12 lx_103 rfl dX3_copyFrom_5) fa_nil)) C_Names_copyFrom_5 lv_RX3_79 lx_5 rfl rfl (by decide) (by decide) dX3_copyFrom_8 rfl
set_option maxRecDepth 20000 in
theorem t_River_copyFrom_5_1 {B C : Nat × FT} : fw_S s_River_copyFrom_5 [(0, 6), (1, 105)] 11 (pfS 257 (cE 0) (thE (cE 0) (gE 6593))) (19, [(0, 6), (1, 105)]) B C := fs_put (fe_aloadn 0 rfl dX3_copyFrom_11) (fe_getI (fe_aloadn 1 rfl dX3_copyFrom_12) fl_RX3_64 lx_103 rfl dX3_copyFrom_13) fp_RX3_64 lx_4 rfl dX3_copyFrom_16 rfl
set_option maxRecDepth 20000 in
theorem t_River_copyFrom_5_2 {B C : Nat × FT} : fw_S s_River_copyFrom_5 [(0, 6), (1, 105)] 19 (cpS 6912 10 576 10 [(thE (cE 0) (cE 0)), (cE 0), (thE (cE 0) (cE 0)), (cE 0), (cE 10)]) (34, [(0, 6), (1, 105)]) B C := fs_cpy (fa_cons (fe_getR (fe_aloadn 1 rfl dX3_copyFrom_19) fl_RX3_18 lx_103 rfl dX3_copyFrom_20) (fa_cons (fe_iconst dX3_copyFrom_23) (fa_cons (fe_getR (fe_aloadn 0 rfl dX3_copyFrom_24) fl_RX3_18 lx_4 rfl dX3_copyFrom_25) (fa_cons (fe_iconst dX3_copyFrom_28) (fa_cons (fe_bipush dX3_copyFrom_29) fa_nil))))) lx_108 lx_9 ac_RX3_83 (by decide) dX3_copyFrom_31 rfl
set_option maxRecDepth 20000 in
theorem t_River_copyFrom_5_3 {B C : Nat × FT} : fw_S s_River_copyFrom_5 [(0, 6), (1, 105)] 34 (cpS 6976 10 640 10 [(thE (cE 0) (cE 0)), (cE 0), (thE (cE 0) (cE 0)), (cE 0), (cE 10)]) (49, [(0, 6), (1, 105)]) B C := fs_cpy (fa_cons (fe_getR (fe_aloadn 1 rfl dX3_copyFrom_34) fl_RX3_22 lx_103 rfl dX3_copyFrom_35) (fa_cons (fe_iconst dX3_copyFrom_38) (fa_cons (fe_getR (fe_aloadn 0 rfl dX3_copyFrom_39) fl_RX3_22 lx_4 rfl dX3_copyFrom_40) (fa_cons (fe_iconst dX3_copyFrom_43) (fa_cons (fe_bipush dX3_copyFrom_44) fa_nil))))) lx_109 lx_10 ac_RX3_83 (by decide) dX3_copyFrom_46 rfl
set_option maxRecDepth 20000 in
theorem t_River_copyFrom_5_4 {B C : Nat × FT} : fw_S s_River_copyFrom_5 [(0, 6), (1, 105)] 49 (pfS 260 (cE 0) (thE (cE 0) (gE 6596))) (57, [(0, 6), (1, 105)]) B C := fs_put (fe_aloadn 0 rfl dX3_copyFrom_49) (fe_getI (fe_aloadn 1 rfl dX3_copyFrom_50) fl_RX3_67 lx_103 rfl dX3_copyFrom_51) fp_RX3_67 lx_4 rfl dX3_copyFrom_54 rfl
set_option maxRecDepth 20000 in
theorem t_River_copyFrom_5_5 {B C : Nat × FT} : fw_S s_River_copyFrom_5 [(0, 6), (1, 105)] 57 (pfS 261 (cE 0) (thE (cE 0) (gE 6597))) (65, [(0, 6), (1, 105)]) B C := fs_put (fe_aloadn 0 rfl dX3_copyFrom_57) (fe_getI (fe_aloadn 1 rfl dX3_copyFrom_58) fl_RX3_70 lx_103 rfl dX3_copyFrom_59) fp_RX3_70 lx_4 rfl dX3_copyFrom_62 rfl
set_option maxRecDepth 20000 in
theorem t_River_copyFrom_5_6 {B C : Nat × FT} : fw_S s_River_copyFrom_5 [(0, 6), (1, 105)] 65 (cpS 7040 6 704 6 [(thE (cE 0) (cE 0)), (cE 0), (thE (cE 0) (cE 0)), (cE 0), (cE 6)]) (80, [(0, 6), (1, 105)]) B C := fs_cpy (fa_cons (fe_getR (fe_aloadn 1 rfl dX3_copyFrom_65) fl_RX3_25 lx_103 rfl dX3_copyFrom_66) (fa_cons (fe_iconst dX3_copyFrom_69) (fa_cons (fe_getR (fe_aloadn 0 rfl dX3_copyFrom_70) fl_RX3_25 lx_4 rfl dX3_copyFrom_71) (fa_cons (fe_iconst dX3_copyFrom_74) (fa_cons (fe_bipush dX3_copyFrom_75) fa_nil))))) lx_110 lx_11 ac_RX3_83 (by decide) dX3_copyFrom_77 rfl
set_option maxRecDepth 20000 in
theorem t_River_copyFrom_5_7 {B C : Nat × FT} : fw_S s_River_copyFrom_5 [(0, 6), (1, 105)] 80 (cpS 7104 6 768 6 [(thE (cE 0) (cE 0)), (cE 0), (thE (cE 0) (cE 0)), (cE 0), (cE 6)]) (95, [(0, 6), (1, 105)]) B C := fs_cpy (fa_cons (fe_getR (fe_aloadn 1 rfl dX3_copyFrom_80) fl_RX3_28 lx_103 rfl dX3_copyFrom_81) (fa_cons (fe_iconst dX3_copyFrom_84) (fa_cons (fe_getR (fe_aloadn 0 rfl dX3_copyFrom_85) fl_RX3_28 lx_4 rfl dX3_copyFrom_86) (fa_cons (fe_iconst dX3_copyFrom_89) (fa_cons (fe_bipush dX3_copyFrom_90) fa_nil))))) lx_111 lx_12 ac_RX3_83 (by decide) dX3_copyFrom_92 rfl
set_option maxRecDepth 20000 in
theorem t_River_copyFrom_5_8 {B C : Nat × FT} : fw_S s_River_copyFrom_5 [(0, 6), (1, 105)] 95 (cpS 7168 24 832 24 [(thE (cE 0) (cE 0)), (cE 0), (thE (cE 0) (cE 0)), (cE 0), (cE 24)]) (110, [(0, 6), (1, 105)]) B C := fs_cpy (fa_cons (fe_getR (fe_aloadn 1 rfl dX3_copyFrom_95) fl_RX3_31 lx_103 rfl dX3_copyFrom_96) (fa_cons (fe_iconst dX3_copyFrom_99) (fa_cons (fe_getR (fe_aloadn 0 rfl dX3_copyFrom_100) fl_RX3_31 lx_4 rfl dX3_copyFrom_101) (fa_cons (fe_iconst dX3_copyFrom_104) (fa_cons (fe_bipush dX3_copyFrom_105) fa_nil))))) lx_112 lx_13 ac_RX3_83 (by decide) dX3_copyFrom_107 rfl
set_option maxRecDepth 20000 in
theorem t_River_copyFrom_5_9 {B C : Nat × FT} : fw_S s_River_copyFrom_5 [(0, 6), (1, 105)] 110 (pfS 265 (cE 0) (thE (cE 0) (gE 6601))) (118, [(0, 6), (1, 105)]) B C := fs_put (fe_aloadn 0 rfl dX3_copyFrom_110) (fe_getI (fe_aloadn 1 rfl dX3_copyFrom_111) fl_RX3_73 lx_103 rfl dX3_copyFrom_112) fp_RX3_73 lx_4 rfl dX3_copyFrom_115 rfl
set_option maxRecDepth 20000 in
theorem t_River_copyFrom_5_10 {B C : Nat × FT} : fw_S s_River_copyFrom_5 [(0, 6), (1, 105)] 118 (cpS 7232 6 896 6 [(thE (cE 0) (cE 0)), (cE 0), (thE (cE 0) (cE 0)), (cE 0), (cE 6)]) (133, [(0, 6), (1, 105)]) B C := fs_cpy (fa_cons (fe_getR (fe_aloadn 1 rfl dX3_copyFrom_118) fl_RX3_34 lx_103 rfl dX3_copyFrom_119) (fa_cons (fe_iconst dX3_copyFrom_122) (fa_cons (fe_getR (fe_aloadn 0 rfl dX3_copyFrom_123) fl_RX3_34 lx_4 rfl dX3_copyFrom_124) (fa_cons (fe_iconst dX3_copyFrom_127) (fa_cons (fe_bipush dX3_copyFrom_128) fa_nil))))) lx_113 lx_14 ac_RX3_83 (by decide) dX3_copyFrom_130 rfl
set_option maxRecDepth 20000 in
theorem t_River_copyFrom_5_11 {B C : Nat × FT} : fw_S s_River_copyFrom_5 [(0, 6), (1, 105)] 133 (cpS 7296 6 960 6 [(thE (cE 0) (cE 0)), (cE 0), (thE (cE 0) (cE 0)), (cE 0), (cE 6)]) (148, [(0, 6), (1, 105)]) B C := fs_cpy (fa_cons (fe_getR (fe_aloadn 1 rfl dX3_copyFrom_133) fl_RX3_37 lx_103 rfl dX3_copyFrom_134) (fa_cons (fe_iconst dX3_copyFrom_137) (fa_cons (fe_getR (fe_aloadn 0 rfl dX3_copyFrom_138) fl_RX3_37 lx_4 rfl dX3_copyFrom_139) (fa_cons (fe_iconst dX3_copyFrom_142) (fa_cons (fe_bipush dX3_copyFrom_143) fa_nil))))) lx_114 lx_15 ac_RX3_83 (by decide) dX3_copyFrom_145 rfl
set_option maxRecDepth 20000 in
theorem t_River_copyFrom_5_12 {B C : Nat × FT} : fw_S s_River_copyFrom_5 [(0, 6), (1, 105)] 148 (cpS 7360 6 1024 6 [(thE (cE 0) (cE 0)), (cE 0), (thE (cE 0) (cE 0)), (cE 0), (cE 6)]) (163, [(0, 6), (1, 105)]) B C := fs_cpy (fa_cons (fe_getR (fe_aloadn 1 rfl dX3_copyFrom_148) fl_RX3_40 lx_103 rfl dX3_copyFrom_149) (fa_cons (fe_iconst dX3_copyFrom_152) (fa_cons (fe_getR (fe_aloadn 0 rfl dX3_copyFrom_153) fl_RX3_40 lx_4 rfl dX3_copyFrom_154) (fa_cons (fe_iconst dX3_copyFrom_157) (fa_cons (fe_bipush dX3_copyFrom_158) fa_nil))))) lx_115 lx_16 ac_RX3_83 (by decide) dX3_copyFrom_160 rfl
set_option maxRecDepth 20000 in
theorem t_River_copyFrom_5_13 {B C : Nat × FT} : fw_S s_River_copyFrom_5 [(0, 6), (1, 105)] 163 (cpS 7424 24 1088 24 [(thE (cE 0) (cE 0)), (cE 0), (thE (cE 0) (cE 0)), (cE 0), (cE 24)]) (178, [(0, 6), (1, 105)]) B C := fs_cpy (fa_cons (fe_getR (fe_aloadn 1 rfl dX3_copyFrom_163) fl_RX3_43 lx_103 rfl dX3_copyFrom_164) (fa_cons (fe_iconst dX3_copyFrom_167) (fa_cons (fe_getR (fe_aloadn 0 rfl dX3_copyFrom_168) fl_RX3_43 lx_4 rfl dX3_copyFrom_169) (fa_cons (fe_iconst dX3_copyFrom_172) (fa_cons (fe_bipush dX3_copyFrom_173) fa_nil))))) lx_116 lx_17 ac_RX3_83 (by decide) dX3_copyFrom_175 rfl
set_option maxRecDepth 20000 in
theorem t_River_copyFrom_5_14 {B C : Nat × FT} : fw_S s_River_copyFrom_5 [(0, 6), (1, 105)] 178 (cpS 7488 7 1152 7 [(thE (cE 0) (cE 0)), (cE 0), (thE (cE 0) (cE 0)), (cE 0), (cE 7)]) (193, [(0, 6), (1, 105)]) B C := fs_cpy (fa_cons (fe_getR (fe_aloadn 1 rfl dX3_copyFrom_178) fl_RX3_46 lx_103 rfl dX3_copyFrom_179) (fa_cons (fe_iconst dX3_copyFrom_182) (fa_cons (fe_getR (fe_aloadn 0 rfl dX3_copyFrom_183) fl_RX3_46 lx_4 rfl dX3_copyFrom_184) (fa_cons (fe_iconst dX3_copyFrom_187) (fa_cons (fe_bipush dX3_copyFrom_188) fa_nil))))) lx_117 lx_18 ac_RX3_83 (by decide) dX3_copyFrom_190 rfl
set_option maxRecDepth 20000 in
theorem t_River_copyFrom_5_15 {B C : Nat × FT} : fw_S s_River_copyFrom_5 [(0, 6), (1, 105)] 193 (pfS 271 (cE 0) (thE (cE 0) (gE 6607))) (201, [(0, 6), (1, 105)]) B C := fs_put (fe_aloadn 0 rfl dX3_copyFrom_193) (fe_getI (fe_aloadn 1 rfl dX3_copyFrom_194) fl_RX3_49 lx_103 rfl dX3_copyFrom_195) fp_RX3_49 lx_4 rfl dX3_copyFrom_198 rfl
set_option maxRecDepth 20000 in
theorem t_River_copyFrom_5_16 {B C : Nat × FT} : fw_S s_River_copyFrom_5 [(0, 6), (1, 105)] 201 (pfS 272 (cE 0) (thE (cE 0) (gE 6608))) (209, [(0, 6), (1, 105)]) B C := fs_put (fe_aloadn 0 rfl dX3_copyFrom_201) (fe_getI (fe_aloadn 1 rfl dX3_copyFrom_202) fl_RX3_76 lx_103 rfl dX3_copyFrom_203) fp_RX3_76 lx_4 rfl dX3_copyFrom_206 rfl
set_option maxRecDepth 20000 in
theorem t_River_copyFrom_5_17 {B C : Nat × FT} : fw_S s_River_copyFrom_5 [(0, 6), (1, 105)] 209 (cpS 7552 12 1216 12 [(thE (cE 0) (cE 0)), (cE 0), (thE (cE 0) (cE 0)), (cE 0), (cE 12)]) (224, [(0, 6), (1, 105)]) B C := fs_cpy (fa_cons (fe_getR (fe_aloadn 1 rfl dX3_copyFrom_209) fl_RX3_53 lx_103 rfl dX3_copyFrom_210) (fa_cons (fe_iconst dX3_copyFrom_213) (fa_cons (fe_getR (fe_aloadn 0 rfl dX3_copyFrom_214) fl_RX3_53 lx_4 rfl dX3_copyFrom_215) (fa_cons (fe_iconst dX3_copyFrom_218) (fa_cons (fe_bipush dX3_copyFrom_219) fa_nil))))) lx_118 lx_19 ac_RX3_83 (by decide) dX3_copyFrom_221 rfl
set_option maxRecDepth 20000 in
theorem t_River_copyFrom_5_18 {B C : Nat × FT} : fw_S s_River_copyFrom_5 [(0, 6), (1, 105)] 224 (cpS 7616 12 1280 12 [(thE (cE 0) (cE 0)), (cE 0), (thE (cE 0) (cE 0)), (cE 0), (cE 12)]) (239, [(0, 6), (1, 105)]) B C := fs_cpy (fa_cons (fe_getR (fe_aloadn 1 rfl dX3_copyFrom_224) fl_RX3_56 lx_103 rfl dX3_copyFrom_225) (fa_cons (fe_iconst dX3_copyFrom_228) (fa_cons (fe_getR (fe_aloadn 0 rfl dX3_copyFrom_229) fl_RX3_56 lx_4 rfl dX3_copyFrom_230) (fa_cons (fe_iconst dX3_copyFrom_233) (fa_cons (fe_bipush dX3_copyFrom_234) fa_nil))))) lx_119 lx_20 ac_RX3_83 (by decide) dX3_copyFrom_236 rfl
set_option maxRecDepth 20000 in
theorem t_River_copyFrom_5_19 {B C : Nat × FT} : fw_S s_River_copyFrom_5 [(0, 6), (1, 105)] 239 (cpS 7680 12 1344 12 [(thE (cE 0) (cE 0)), (cE 0), (thE (cE 0) (cE 0)), (cE 0), (cE 12)]) (254, [(0, 6), (1, 105)]) B C := fs_cpy (fa_cons (fe_getR (fe_aloadn 1 rfl dX3_copyFrom_239) fl_RX3_59 lx_103 rfl dX3_copyFrom_240) (fa_cons (fe_iconst dX3_copyFrom_243) (fa_cons (fe_getR (fe_aloadn 0 rfl dX3_copyFrom_244) fl_RX3_59 lx_4 rfl dX3_copyFrom_245) (fa_cons (fe_iconst dX3_copyFrom_248) (fa_cons (fe_bipush dX3_copyFrom_249) fa_nil))))) lx_120 lx_21 ac_RX3_83 (by decide) dX3_copyFrom_251 rfl
set_option maxRecDepth 20000 in
theorem t_River_copyFrom_5_20 {N B C : Nat × FT} : fw_S s_River_copyFrom_5 [(0, 6), (1, 105)] 254 rvS N B C := fs_rv dX3_copyFrom_254
set_option maxRecDepth 20000 in
theorem C_River_copyFrom_5 : fw_C LX yX3_copyFrom cX3_copyFrom 2 none 2 [6, 105] (none) m_River_copyFrom_5 := fm_v (d := 2) (N := (0, [])) (B := (0, [])) (C := (0, [])) LX_ok (by decide +kernel) (show fw_S s_River_copyFrom_5 _ 0 b_River_copyFrom_5 _ _ _ from (fs_seq t_River_copyFrom_5_0 (fs_seq t_River_copyFrom_5_1 (fs_seq t_River_copyFrom_5_2 (fs_seq t_River_copyFrom_5_3 (fs_seq t_River_copyFrom_5_4 (fs_seq t_River_copyFrom_5_5 (fs_seq t_River_copyFrom_5_6 (fs_seq t_River_copyFrom_5_7 (fs_seq t_River_copyFrom_5_8 (fs_seq t_River_copyFrom_5_9 (fs_seq t_River_copyFrom_5_10 (fs_seq t_River_copyFrom_5_11 (fs_seq t_River_copyFrom_5_12 (fs_seq t_River_copyFrom_5_13 (fs_seq t_River_copyFrom_5_14 (fs_seq t_River_copyFrom_5_15 (fs_seq t_River_copyFrom_5_16 (fs_seq t_River_copyFrom_5_17 (fs_seq t_River_copyFrom_5_18 (fs_seq t_River_copyFrom_5_19 t_River_copyFrom_5_20))))))))))))))))))))) (by decide)
/-! DyerBells$Order.copyFrom (this 22 now.order) -/
abbrev s_Order_copyFrom_5 : SI := (LX, RX1, cX1_copyFrom, 2, 1, none)
def b_Order_copyFrom_5 : SM := (sq (pfS 1408 (cE 0) (thE (cE 0) (gE 7744))) (sq (cpS 7808 40 1472 40 [(thE (cE 0) (cE 0)), (cE 0), (thE (cE 0) (cE 0)), (cE 0), (cE 40)]) (sq (cpS 7872 40 1536 40 [(thE (cE 0) (cE 0)), (cE 0), (thE (cE 0) (cE 0)), (cE 0), (cE 40)]) (sq (cpS 7936 40 1600 40 [(thE (cE 0) (cE 0)), (cE 0), (thE (cE 0) (cE 0)), (cE 0), (cE 40)]) rvS))))
def m_Order_copyFrom_5 : FM := mthF [0, 1] b_Order_copyFrom_5
set_option maxRecDepth 20000 in
theorem t_Order_copyFrom_5_0 {B C : Nat × FT} : fw_S s_Order_copyFrom_5 [(0, 24), (1, 123)] 0 (pfS 1408 (cE 0) (thE (cE 0) (gE 7744))) (8, [(0, 24), (1, 123)]) B C := fs_put (fe_aloadn 0 rfl dX1_copyFrom_0) (fe_getI (fe_aloadn 1 rfl dX1_copyFrom_1) fl_RX1_21 lx_121 rfl dX1_copyFrom_2) fp_RX1_21 lx_22 rfl dX1_copyFrom_5 rfl
set_option maxRecDepth 20000 in
theorem t_Order_copyFrom_5_1 {B C : Nat × FT} : fw_S s_Order_copyFrom_5 [(0, 24), (1, 123)] 8 (cpS 7808 40 1472 40 [(thE (cE 0) (cE 0)), (cE 0), (thE (cE 0) (cE 0)), (cE 0), (cE 40)]) (23, [(0, 24), (1, 123)]) B C := fs_cpy (fa_cons (fe_getR (fe_aloadn 1 rfl dX1_copyFrom_8) fl_RX1_9 lx_121 rfl dX1_copyFrom_9) (fa_cons (fe_iconst dX1_copyFrom_12) (fa_cons (fe_getR (fe_aloadn 0 rfl dX1_copyFrom_13) fl_RX1_9 lx_22 rfl dX1_copyFrom_14) (fa_cons (fe_iconst dX1_copyFrom_17) (fa_cons (fe_bipush dX1_copyFrom_18) fa_nil))))) lx_122 lx_23 ac_RX1_25 (by decide) dX1_copyFrom_20 rfl
set_option maxRecDepth 20000 in
theorem t_Order_copyFrom_5_2 {B C : Nat × FT} : fw_S s_Order_copyFrom_5 [(0, 24), (1, 123)] 23 (cpS 7872 40 1536 40 [(thE (cE 0) (cE 0)), (cE 0), (thE (cE 0) (cE 0)), (cE 0), (cE 40)]) (38, [(0, 24), (1, 123)]) B C := fs_cpy (fa_cons (fe_getR (fe_aloadn 1 rfl dX1_copyFrom_23) fl_RX1_15 lx_121 rfl dX1_copyFrom_24) (fa_cons (fe_iconst dX1_copyFrom_27) (fa_cons (fe_getR (fe_aloadn 0 rfl dX1_copyFrom_28) fl_RX1_15 lx_22 rfl dX1_copyFrom_29) (fa_cons (fe_iconst dX1_copyFrom_32) (fa_cons (fe_bipush dX1_copyFrom_33) fa_nil))))) lx_123 lx_24 ac_RX1_25 (by decide) dX1_copyFrom_35 rfl
set_option maxRecDepth 20000 in
theorem t_Order_copyFrom_5_3 {B C : Nat × FT} : fw_S s_Order_copyFrom_5 [(0, 24), (1, 123)] 38 (cpS 7936 40 1600 40 [(thE (cE 0) (cE 0)), (cE 0), (thE (cE 0) (cE 0)), (cE 0), (cE 40)]) (53, [(0, 24), (1, 123)]) B C := fs_cpy (fa_cons (fe_getR (fe_aloadn 1 rfl dX1_copyFrom_38) fl_RX1_18 lx_121 rfl dX1_copyFrom_39) (fa_cons (fe_iconst dX1_copyFrom_42) (fa_cons (fe_getR (fe_aloadn 0 rfl dX1_copyFrom_43) fl_RX1_18 lx_22 rfl dX1_copyFrom_44) (fa_cons (fe_iconst dX1_copyFrom_47) (fa_cons (fe_bipush dX1_copyFrom_48) fa_nil))))) lx_124 lx_25 ac_RX1_25 (by decide) dX1_copyFrom_50 rfl
set_option maxRecDepth 20000 in
theorem t_Order_copyFrom_5_4 {N B C : Nat × FT} : fw_S s_Order_copyFrom_5 [(0, 24), (1, 123)] 53 rvS N B C := fs_rv dX1_copyFrom_53
set_option maxRecDepth 20000 in
theorem C_Order_copyFrom_5 : fw_C LX yX1_copyFrom cX1_copyFrom 2 none 1 [24, 123] (none) m_Order_copyFrom_5 := fm_v (d := 1) (N := (0, [])) (B := (0, [])) (C := (0, [])) LX_ok (by decide +kernel) (show fw_S s_Order_copyFrom_5 _ 0 b_Order_copyFrom_5 _ _ _ from (fs_seq t_Order_copyFrom_5_0 (fs_seq t_Order_copyFrom_5_1 (fs_seq t_Order_copyFrom_5_2 (fs_seq t_Order_copyFrom_5_3 t_Order_copyFrom_5_4))))) (by decide)
/-! DyerBells$Sights.copyFrom (this 26 now.sights) -/
abbrev s_Sights_copyFrom_5 : SI := (LX, RX8, cX8_copyFrom, 2, 1, none)
def b_Sights_copyFrom_5 : SM := (sq (pfS 1664 (cE 0) (thE (cE 0) (gE 8000))) (sq (cpS 8064 20 1728 20 [(thE (cE 0) (cE 0)), (cE 0), (thE (cE 0) (cE 0)), (cE 0), (cE 20)]) (sq (cpS 8128 20 1792 20 [(thE (cE 0) (cE 0)), (cE 0), (thE (cE 0) (cE 0)), (cE 0), (cE 20)]) (sq (cpS 8192 20 1856 20 [(thE (cE 0) (cE 0)), (cE 0), (thE (cE 0) (cE 0)), (cE 0), (cE 20)]) rvS))))
def m_Sights_copyFrom_5 : FM := mthF [0, 1] b_Sights_copyFrom_5
set_option maxRecDepth 20000 in
theorem t_Sights_copyFrom_5_0 {B C : Nat × FT} : fw_S s_Sights_copyFrom_5 [(0, 28), (1, 127)] 0 (pfS 1664 (cE 0) (thE (cE 0) (gE 8000))) (8, [(0, 28), (1, 127)]) B C := fs_put (fe_aloadn 0 rfl dX8_copyFrom_0) (fe_getI (fe_aloadn 1 rfl dX8_copyFrom_1) fl_RX8_21 lx_125 rfl dX8_copyFrom_2) fp_RX8_21 lx_26 rfl dX8_copyFrom_5 rfl
set_option maxRecDepth 20000 in
theorem t_Sights_copyFrom_5_1 {B C : Nat × FT} : fw_S s_Sights_copyFrom_5 [(0, 28), (1, 127)] 8 (cpS 8064 20 1728 20 [(thE (cE 0) (cE 0)), (cE 0), (thE (cE 0) (cE 0)), (cE 0), (cE 20)]) (23, [(0, 28), (1, 127)]) B C := fs_cpy (fa_cons (fe_getR (fe_aloadn 1 rfl dX8_copyFrom_8) fl_RX8_9 lx_125 rfl dX8_copyFrom_9) (fa_cons (fe_iconst dX8_copyFrom_12) (fa_cons (fe_getR (fe_aloadn 0 rfl dX8_copyFrom_13) fl_RX8_9 lx_26 rfl dX8_copyFrom_14) (fa_cons (fe_iconst dX8_copyFrom_17) (fa_cons (fe_bipush dX8_copyFrom_18) fa_nil))))) lx_126 lx_27 ac_RX8_25 (by decide) dX8_copyFrom_20 rfl
set_option maxRecDepth 20000 in
theorem t_Sights_copyFrom_5_2 {B C : Nat × FT} : fw_S s_Sights_copyFrom_5 [(0, 28), (1, 127)] 23 (cpS 8128 20 1792 20 [(thE (cE 0) (cE 0)), (cE 0), (thE (cE 0) (cE 0)), (cE 0), (cE 20)]) (38, [(0, 28), (1, 127)]) B C := fs_cpy (fa_cons (fe_getR (fe_aloadn 1 rfl dX8_copyFrom_23) fl_RX8_15 lx_125 rfl dX8_copyFrom_24) (fa_cons (fe_iconst dX8_copyFrom_27) (fa_cons (fe_getR (fe_aloadn 0 rfl dX8_copyFrom_28) fl_RX8_15 lx_26 rfl dX8_copyFrom_29) (fa_cons (fe_iconst dX8_copyFrom_32) (fa_cons (fe_bipush dX8_copyFrom_33) fa_nil))))) lx_127 lx_28 ac_RX8_25 (by decide) dX8_copyFrom_35 rfl
set_option maxRecDepth 20000 in
theorem t_Sights_copyFrom_5_3 {B C : Nat × FT} : fw_S s_Sights_copyFrom_5 [(0, 28), (1, 127)] 38 (cpS 8192 20 1856 20 [(thE (cE 0) (cE 0)), (cE 0), (thE (cE 0) (cE 0)), (cE 0), (cE 20)]) (53, [(0, 28), (1, 127)]) B C := fs_cpy (fa_cons (fe_getR (fe_aloadn 1 rfl dX8_copyFrom_38) fl_RX8_18 lx_125 rfl dX8_copyFrom_39) (fa_cons (fe_iconst dX8_copyFrom_42) (fa_cons (fe_getR (fe_aloadn 0 rfl dX8_copyFrom_43) fl_RX8_18 lx_26 rfl dX8_copyFrom_44) (fa_cons (fe_iconst dX8_copyFrom_47) (fa_cons (fe_bipush dX8_copyFrom_48) fa_nil))))) lx_128 lx_29 ac_RX8_25 (by decide) dX8_copyFrom_50 rfl
set_option maxRecDepth 20000 in
theorem t_Sights_copyFrom_5_4 {N B C : Nat × FT} : fw_S s_Sights_copyFrom_5 [(0, 28), (1, 127)] 53 rvS N B C := fs_rv dX8_copyFrom_53
set_option maxRecDepth 20000 in
theorem C_Sights_copyFrom_5 : fw_C LX yX8_copyFrom cX8_copyFrom 2 none 1 [28, 127] (none) m_Sights_copyFrom_5 := fm_v (d := 1) (N := (0, [])) (B := (0, [])) (C := (0, [])) LX_ok (by decide +kernel) (show fw_S s_Sights_copyFrom_5 _ 0 b_Sights_copyFrom_5 _ _ _ from (fs_seq t_Sights_copyFrom_5_0 (fs_seq t_Sights_copyFrom_5_1 (fs_seq t_Sights_copyFrom_5_2 (fs_seq t_Sights_copyFrom_5_3 t_Sights_copyFrom_5_4))))) (by decide)
/-! DyerBells$Sentence.copyFrom (this 30 now.sentence) -/
abbrev s_Sentence_copyFrom_5 : SI := (LX, RX6, cX6_copyFrom, 2, 1, none)
def b_Sentence_copyFrom_5 : SM := (sq (pfS 1920 (cE 0) (thE (cE 0) (gE 8256))) (sq (pfS 1921 (cE 0) (thE (cE 0) (gE 8257))) (sq (cpS 8320 40 1984 40 [(thE (cE 0) (cE 0)), (cE 0), (thE (cE 0) (cE 0)), (cE 0), (cE 40)]) (sq (cpS 8384 40 2048 40 [(thE (cE 0) (cE 0)), (cE 0), (thE (cE 0) (cE 0)), (cE 0), (cE 40)]) (sq (cpS 8448 40 2112 40 [(thE (cE 0) (cE 0)), (cE 0), (thE (cE 0) (cE 0)), (cE 0), (cE 40)]) (sq (cpS 8512 40 2176 40 [(thE (cE 0) (cE 0)), (cE 0), (thE (cE 0) (cE 0)), (cE 0), (cE 40)]) (sq (cpS 8576 40 2240 40 [(thE (cE 0) (cE 0)), (cE 0), (thE (cE 0) (cE 0)), (cE 0), (cE 40)]) rvS)))))))
def m_Sentence_copyFrom_5 : FM := mthF [0, 1] b_Sentence_copyFrom_5
set_option maxRecDepth 20000 in
theorem t_Sentence_copyFrom_5_0 {B C : Nat × FT} : fw_S s_Sentence_copyFrom_5 [(0, 32), (1, 131)] 0 (pfS 1920 (cE 0) (thE (cE 0) (gE 8256))) (8, [(0, 32), (1, 131)]) B C := fs_put (fe_aloadn 0 rfl dX6_copyFrom_0) (fe_getI (fe_aloadn 1 rfl dX6_copyFrom_1) fl_RX6_27 lx_129 rfl dX6_copyFrom_2) fp_RX6_27 lx_30 rfl dX6_copyFrom_5 rfl
set_option maxRecDepth 20000 in
theorem t_Sentence_copyFrom_5_1 {B C : Nat × FT} : fw_S s_Sentence_copyFrom_5 [(0, 32), (1, 131)] 8 (pfS 1921 (cE 0) (thE (cE 0) (gE 8257))) (16, [(0, 32), (1, 131)]) B C := fs_put (fe_aloadn 0 rfl dX6_copyFrom_8) (fe_getI (fe_aloadn 1 rfl dX6_copyFrom_9) fl_RX6_31 lx_129 rfl dX6_copyFrom_10) fp_RX6_31 lx_30 rfl dX6_copyFrom_13 rfl
set_option maxRecDepth 20000 in
theorem t_Sentence_copyFrom_5_2 {B C : Nat × FT} : fw_S s_Sentence_copyFrom_5 [(0, 32), (1, 131)] 16 (cpS 8320 40 1984 40 [(thE (cE 0) (cE 0)), (cE 0), (thE (cE 0) (cE 0)), (cE 0), (cE 40)]) (31, [(0, 32), (1, 131)]) B C := fs_cpy (fa_cons (fe_getR (fe_aloadn 1 rfl dX6_copyFrom_16) fl_RX6_11 lx_129 rfl dX6_copyFrom_17) (fa_cons (fe_iconst dX6_copyFrom_20) (fa_cons (fe_getR (fe_aloadn 0 rfl dX6_copyFrom_21) fl_RX6_11 lx_30 rfl dX6_copyFrom_22) (fa_cons (fe_iconst dX6_copyFrom_25) (fa_cons (fe_bipush dX6_copyFrom_26) fa_nil))))) lx_130 lx_31 ac_RX6_34 (by decide) dX6_copyFrom_28 rfl
set_option maxRecDepth 20000 in
theorem t_Sentence_copyFrom_5_3 {B C : Nat × FT} : fw_S s_Sentence_copyFrom_5 [(0, 32), (1, 131)] 31 (cpS 8384 40 2048 40 [(thE (cE 0) (cE 0)), (cE 0), (thE (cE 0) (cE 0)), (cE 0), (cE 40)]) (46, [(0, 32), (1, 131)]) B C := fs_cpy (fa_cons (fe_getR (fe_aloadn 1 rfl dX6_copyFrom_31) fl_RX6_15 lx_129 rfl dX6_copyFrom_32) (fa_cons (fe_iconst dX6_copyFrom_35) (fa_cons (fe_getR (fe_aloadn 0 rfl dX6_copyFrom_36) fl_RX6_15 lx_30 rfl dX6_copyFrom_37) (fa_cons (fe_iconst dX6_copyFrom_40) (fa_cons (fe_bipush dX6_copyFrom_41) fa_nil))))) lx_131 lx_32 ac_RX6_34 (by decide) dX6_copyFrom_43 rfl
set_option maxRecDepth 20000 in
theorem t_Sentence_copyFrom_5_4 {B C : Nat × FT} : fw_S s_Sentence_copyFrom_5 [(0, 32), (1, 131)] 46 (cpS 8448 40 2112 40 [(thE (cE 0) (cE 0)), (cE 0), (thE (cE 0) (cE 0)), (cE 0), (cE 40)]) (61, [(0, 32), (1, 131)]) B C := fs_cpy (fa_cons (fe_getR (fe_aloadn 1 rfl dX6_copyFrom_46) fl_RX6_18 lx_129 rfl dX6_copyFrom_47) (fa_cons (fe_iconst dX6_copyFrom_50) (fa_cons (fe_getR (fe_aloadn 0 rfl dX6_copyFrom_51) fl_RX6_18 lx_30 rfl dX6_copyFrom_52) (fa_cons (fe_iconst dX6_copyFrom_55) (fa_cons (fe_bipush dX6_copyFrom_56) fa_nil))))) lx_132 lx_33 ac_RX6_34 (by decide) dX6_copyFrom_58 rfl
set_option maxRecDepth 20000 in
theorem t_Sentence_copyFrom_5_5 {B C : Nat × FT} : fw_S s_Sentence_copyFrom_5 [(0, 32), (1, 131)] 61 (cpS 8512 40 2176 40 [(thE (cE 0) (cE 0)), (cE 0), (thE (cE 0) (cE 0)), (cE 0), (cE 40)]) (76, [(0, 32), (1, 131)]) B C := fs_cpy (fa_cons (fe_getR (fe_aloadn 1 rfl dX6_copyFrom_61) fl_RX6_21 lx_129 rfl dX6_copyFrom_62) (fa_cons (fe_iconst dX6_copyFrom_65) (fa_cons (fe_getR (fe_aloadn 0 rfl dX6_copyFrom_66) fl_RX6_21 lx_30 rfl dX6_copyFrom_67) (fa_cons (fe_iconst dX6_copyFrom_70) (fa_cons (fe_bipush dX6_copyFrom_71) fa_nil))))) lx_133 lx_34 ac_RX6_34 (by decide) dX6_copyFrom_73 rfl
set_option maxRecDepth 20000 in
theorem t_Sentence_copyFrom_5_6 {B C : Nat × FT} : fw_S s_Sentence_copyFrom_5 [(0, 32), (1, 131)] 76 (cpS 8576 40 2240 40 [(thE (cE 0) (cE 0)), (cE 0), (thE (cE 0) (cE 0)), (cE 0), (cE 40)]) (91, [(0, 32), (1, 131)]) B C := fs_cpy (fa_cons (fe_getR (fe_aloadn 1 rfl dX6_copyFrom_76) fl_RX6_24 lx_129 rfl dX6_copyFrom_77) (fa_cons (fe_iconst dX6_copyFrom_80) (fa_cons (fe_getR (fe_aloadn 0 rfl dX6_copyFrom_81) fl_RX6_24 lx_30 rfl dX6_copyFrom_82) (fa_cons (fe_iconst dX6_copyFrom_85) (fa_cons (fe_bipush dX6_copyFrom_86) fa_nil))))) lx_134 lx_35 ac_RX6_34 (by decide) dX6_copyFrom_88 rfl
set_option maxRecDepth 20000 in
theorem t_Sentence_copyFrom_5_7 {N B C : Nat × FT} : fw_S s_Sentence_copyFrom_5 [(0, 32), (1, 131)] 91 rvS N B C := fs_rv dX6_copyFrom_91
set_option maxRecDepth 20000 in
theorem C_Sentence_copyFrom_5 : fw_C LX yX6_copyFrom cX6_copyFrom 2 none 1 [32, 131] (none) m_Sentence_copyFrom_5 := fm_v (d := 1) (N := (0, [])) (B := (0, [])) (C := (0, [])) LX_ok (by decide +kernel) (show fw_S s_Sentence_copyFrom_5 _ 0 b_Sentence_copyFrom_5 _ _ _ from (fs_seq t_Sentence_copyFrom_5_0 (fs_seq t_Sentence_copyFrom_5_1 (fs_seq t_Sentence_copyFrom_5_2 (fs_seq t_Sentence_copyFrom_5_3 (fs_seq t_Sentence_copyFrom_5_4 (fs_seq t_Sentence_copyFrom_5_5 (fs_seq t_Sentence_copyFrom_5_6 t_Sentence_copyFrom_5_7)))))))) (by decide)
/-! DyerBells$Scene.copyFrom (this 3 now) -/
abbrev s_Scene_copyFrom_5 : SI := (LX, RX5, cX5_copyFrom, 2, 3, none)
def b_Scene_copyFrom_5 : SM := (sq (exS (clE m_River_copyFrom_5 [(thE (cE 0) (cE 0)), (thE (cE 0) (cE 0))])) (sq (exS (clE m_Order_copyFrom_5 [(thE (cE 0) (cE 0)), (thE (cE 0) (cE 0))])) (sq (exS (clE m_Sights_copyFrom_5 [(thE (cE 0) (cE 0)), (thE (cE 0) (cE 0))])) (sq (exS (clE m_Sentence_copyFrom_5 [(thE (cE 0) (cE 0)), (thE (cE 0) (cE 0))])) rvS))))
def m_Scene_copyFrom_5 : FM := mthF [0, 1] b_Scene_copyFrom_5
set_option maxRecDepth 20000 in
theorem t_Scene_copyFrom_5_0 {B C : Nat × FT} : fw_S s_Scene_copyFrom_5 [(0, 5), (1, 104)] 0 (exS (clE m_River_copyFrom_5 [(thE (cE 0) (cE 0)), (thE (cE 0) (cE 0))])) (11, [(0, 5), (1, 104)]) B C := fs_callV (t := 0) (fa_cons (fe_getR (fe_aloadn 0 rfl dX5_copyFrom_0) fl_RX5_10 lx_3 rfl dX5_copyFrom_1) (fa_cons (fe_getR (fe_aloadn 1 rfl dX5_copyFrom_4) fl_RX5_10 lx_102 rfl dX5_copyFrom_5) fa_nil)) C_River_copyFrom_5 lv_RX5_45 lx_4 rfl rfl (by decide) (by decide) dX5_copyFrom_8 rfl
set_option maxRecDepth 20000 in
theorem t_Scene_copyFrom_5_1 {B C : Nat × FT} : fw_S s_Scene_copyFrom_5 [(0, 5), (1, 104)] 11 (exS (clE m_Order_copyFrom_5 [(thE (cE 0) (cE 0)), (thE (cE 0) (cE 0))])) (22, [(0, 5), (1, 104)]) B C := fs_callV (t := 0) (fa_cons (fe_getR (fe_aloadn 0 rfl dX5_copyFrom_11) fl_RX5_19 lx_3 rfl dX5_copyFrom_12) (fa_cons (fe_getR (fe_aloadn 1 rfl dX5_copyFrom_15) fl_RX5_19 lx_102 rfl dX5_copyFrom_16) fa_nil)) C_Order_copyFrom_5 lv_RX5_49 lx_22 rfl rfl (by decide) (by decide) dX5_copyFrom_19 rfl
set_option maxRecDepth 20000 in
theorem t_Scene_copyFrom_5_2 {B C : Nat × FT} : fw_S s_Scene_copyFrom_5 [(0, 5), (1, 104)] 22 (exS (clE m_Sights_copyFrom_5 [(thE (cE 0) (cE 0)), (thE (cE 0) (cE 0))])) (33, [(0, 5), (1, 104)]) B C := fs_callV (t := 0) (fa_cons (fe_getR (fe_aloadn 0 rfl dX5_copyFrom_22) fl_RX5_26 lx_3 rfl dX5_copyFrom_23) (fa_cons (fe_getR (fe_aloadn 1 rfl dX5_copyFrom_26) fl_RX5_26 lx_102 rfl dX5_copyFrom_27) fa_nil)) C_Sights_copyFrom_5 lv_RX5_52 lx_26 rfl rfl (by decide) (by decide) dX5_copyFrom_30 rfl
set_option maxRecDepth 20000 in
theorem t_Scene_copyFrom_5_3 {B C : Nat × FT} : fw_S s_Scene_copyFrom_5 [(0, 5), (1, 104)] 33 (exS (clE m_Sentence_copyFrom_5 [(thE (cE 0) (cE 0)), (thE (cE 0) (cE 0))])) (44, [(0, 5), (1, 104)]) B C := fs_callV (t := 0) (fa_cons (fe_getR (fe_aloadn 0 rfl dX5_copyFrom_33) fl_RX5_33 lx_3 rfl dX5_copyFrom_34) (fa_cons (fe_getR (fe_aloadn 1 rfl dX5_copyFrom_37) fl_RX5_33 lx_102 rfl dX5_copyFrom_38) fa_nil)) C_Sentence_copyFrom_5 lv_RX5_55 lx_30 rfl rfl (by decide) (by decide) dX5_copyFrom_41 rfl
set_option maxRecDepth 20000 in
theorem t_Scene_copyFrom_5_4 {N B C : Nat × FT} : fw_S s_Scene_copyFrom_5 [(0, 5), (1, 104)] 44 rvS N B C := fs_rv dX5_copyFrom_44
set_option maxRecDepth 20000 in
theorem C_Scene_copyFrom_5 : fw_C LX yX5_copyFrom cX5_copyFrom 2 none 3 [5, 104] (none) m_Scene_copyFrom_5 := fm_v (d := 3) (N := (0, [])) (B := (0, [])) (C := (0, [])) LX_ok (by decide +kernel) (show fw_S s_Scene_copyFrom_5 _ 0 b_Scene_copyFrom_5 _ _ _ from (fs_seq t_Scene_copyFrom_5_0 (fs_seq t_Scene_copyFrom_5_1 (fs_seq t_Scene_copyFrom_5_2 (fs_seq t_Scene_copyFrom_5_3 t_Scene_copyFrom_5_4))))) (by decide)
/-! DyerBells.restore (this 0 ) -/
abbrev s_D_restore : SI := (LX, RX11, cX11_restore, 3, 4, some 0)
def b_D_restore : SM := (sq (stS 2 (kE (orB (andB (nB (zB 1 (vE 1))) (zB 1 (thE (cE 0) (gE 6)))) (andB (nB (cB 1 (vE 1) (cE 1))) (nB (zB 0 (thE (cE 0) (gE 7)))))) (cE 1) (cE 0))) (sq (ifS (nB (zB 1 (vE 2))) (rtS (cE 0)) skS) (sq (ifS (nB (zB 1 (vE 1))) (exS (clE m_Scene_copyFrom_4 [(thE (cE 0) (cE 0)), (thE (cE 0) (cE 0))])) (exS (clE m_Scene_copyFrom_5 [(thE (cE 0) (cE 0)), (thE (cE 0) (cE 0))]))) (sq (pzS 10 (cE 0) (cE 1)) (rtS (cE 1))))))
def m_D_restore : FM := mthZ [0, 1] b_D_restore
set_option maxRecDepth 20000 in
theorem t_D_restore_0 {B C : Nat × FT} : fw_S s_D_restore [(0, 2), (1, 0)] 0 (stS 2 (kE (orB (andB (nB (zB 1 (vE 1))) (zB 1 (thE (cE 0) (gE 6)))) (andB (nB (cB 1 (vE 1) (cE 1))) (nB (zB 0 (thE (cE 0) (gE 7)))))) (cE 1) (cE 0))) (29, [(0, 2), (1, 0), (2, 0)]) B C := fs_istn (fe_ternG (fb_or (fb_and (fb_not (fb_if_ne (fe_iloadn 1 rfl dX11_restore_0) dX11_restore_1 rfl)) (fb_if_ne (fe_getI (fe_aloadn 0 rfl dX11_restore_4) fl_RX11_346 lx_0 rfl dX11_restore_5) dX11_restore_8 rfl)) (fb_and (fb_not (fb_icmp_ne (fe_iloadn 1 rfl dX11_restore_11) (fe_iconst dX11_restore_12) dX11_restore_13 rfl)) (fb_not (fb_if_eq (fe_getI (fe_aloadn 0 rfl dX11_restore_16) fl_RX11_349 lx_0 rfl dX11_restore_17) dX11_restore_20 rfl)))) (fe_gt (fe_iconst dX11_restore_23) dX11_restore_24 rfl) (fe_iconst dX11_restore_27)) dX11_restore_28 (by decide) rfl
set_option maxRecDepth 20000 in
theorem t_D_restore_1 : fw_B s_D_restore [(0, 2), (1, 0), (2, 0)] 0 29 33 35 (nB (zB 1 (vE 2))) := (fb_not (fb_if_ne (fe_iloadn 2 rfl dX11_restore_29) dX11_restore_30 rfl))
set_option maxRecDepth 20000 in
theorem t_D_restore_2 {N B C : Nat × FT} : fw_S s_D_restore [(0, 2), (1, 0), (2, 0)] 33 (rtS (cE 0)) N B C := fs_ret (fe_iconst dX11_restore_33) dX11_restore_34
set_option maxRecDepth 20000 in
theorem t_D_restore_3 {B C : Nat × FT} : fw_S s_D_restore [(0, 2), (1, 0), (2, 0)] 35 (ifS (nB (zB 1 (vE 1))) (exS (clE m_Scene_copyFrom_4 [(thE (cE 0) (cE 0)), (thE (cE 0) (cE 0))])) (exS (clE m_Scene_copyFrom_5 [(thE (cE 0) (cE 0)), (thE (cE 0) (cE 0))]))) (57, [(0, 2), (1, 0), (2, 0)]) B C := fs_callT (fe_getR (fe_aloadn 0 rfl dX11_restore_35) fl_RX11_19 lx_0 rfl dX11_restore_36) (fb_not (fb_if_ne (fe_iloadn 1 rfl dX11_restore_39) dX11_restore_40 rfl)) (fe_gt (fe_getR (fe_aloadn 0 rfl dX11_restore_43) fl_RX11_26 lx_0 rfl dX11_restore_44) dX11_restore_47 rfl) (fe_getR (fe_aloadn 0 rfl dX11_restore_50) fl_RX11_29 lx_0 rfl dX11_restore_51) C_Scene_copyFrom_4 C_Scene_copyFrom_5 lv_RX11_94 lx_3 rfl (by decide) (by decide) (by decide) dX11_restore_54 rfl (fun _ _ => rfl)
set_option maxRecDepth 20000 in
theorem t_D_restore_4 {B C : Nat × FT} : fw_S s_D_restore [(0, 2), (1, 0), (2, 0)] 57 (pzS 10 (cE 0) (cE 1)) (62, [(0, 2), (1, 0), (2, 0)]) B C := fs_putZ (fe_aloadn 0 rfl dX11_restore_57) (fe_iconst dX11_restore_58) fp_RX11_46 lx_0 rfl dX11_restore_59 rfl
set_option maxRecDepth 20000 in
theorem t_D_restore_5 {N B C : Nat × FT} : fw_S s_D_restore [(0, 2), (1, 0), (2, 0)] 62 (rtS (cE 1)) N B C := fs_ret (fe_iconst dX11_restore_62) dX11_restore_63
set_option maxRecDepth 20000 in
theorem C_D_restore : fw_C LX yX11_restore cX11_restore 3 (some .boolean) 4 [2, 0] (some 0) m_D_restore := fm_z (d := 4) (N := (0, [])) (B := (0, [])) (C := (0, [])) LX_ok (by decide +kernel) (show fw_S s_D_restore _ 0 b_D_restore _ _ _ from (fs_seq t_D_restore_0 (fs_seq (fs_if t_D_restore_1 t_D_restore_2 (fs_skip rfl)) (fs_seq t_D_restore_3 (fs_seq t_D_restore_4 t_D_restore_5))))) (by decide)
/-! DyerBells.count (this 0 ) -/
abbrev s_D_count : SI := (LX, RX11, cX11_count, 2, 1, some 0)
def b_D_count : SM := (tsS (vE 1) 0 [(rtS (thE (thE (thE (cE 0) (cE 0)) (cE 0)) (gE 257))), (rtS (thE (thE (thE (cE 0) (cE 0)) (cE 0)) (gE 260))), (rtS (thE (thE (thE (cE 0) (cE 0)) (cE 0)) (gE 261))), (rtS (thE (thE (thE (cE 0) (cE 0)) (cE 0)) (gE 265))), (rtS (thE (thE (thE (cE 0) (cE 0)) (cE 0)) (gE 272))), (rtS (thE (thE (thE (cE 0) (cE 0)) (cE 0)) (gE 1408))), (rtS (thE (thE (thE (cE 0) (cE 0)) (cE 0)) (gE 1664))), (rtS (thE (thE (cE 0) (cE 0)) (gE 65)))] (rtS (cE (-1))))
def m_D_count : FM := mthF [0, 1] b_D_count
set_option maxRecDepth 20000 in
theorem t_D_count_0 {N B C : Nat × FT} : fw_S s_D_count [(0, 2), (1, 0)] 48 (rtS (thE (thE (thE (cE 0) (cE 0)) (cE 0)) (gE 257))) N B C := fs_ret (fe_getI (fe_getR (fe_getR (fe_aloadn 0 rfl dX11_count_48) fl_RX11_19 lx_0 rfl dX11_count_49) fl_RX11_77 lx_3 rfl dX11_count_52) fl_RX11_352 lx_4 rfl dX11_count_55) dX11_count_58
set_option maxRecDepth 20000 in
theorem t_D_count_1 {N B C : Nat × FT} : fw_S s_D_count [(0, 2), (1, 0)] 59 (rtS (thE (thE (thE (cE 0) (cE 0)) (cE 0)) (gE 260))) N B C := fs_ret (fe_getI (fe_getR (fe_getR (fe_aloadn 0 rfl dX11_count_59) fl_RX11_19 lx_0 rfl dX11_count_60) fl_RX11_77 lx_3 rfl dX11_count_63) fl_RX11_119 lx_4 rfl dX11_count_66) dX11_count_69
set_option maxRecDepth 20000 in
theorem t_D_count_2 {N B C : Nat × FT} : fw_S s_D_count [(0, 2), (1, 0)] 70 (rtS (thE (thE (thE (cE 0) (cE 0)) (cE 0)) (gE 261))) N B C := fs_ret (fe_getI (fe_getR (fe_getR (fe_aloadn 0 rfl dX11_count_70) fl_RX11_19 lx_0 rfl dX11_count_71) fl_RX11_77 lx_3 rfl dX11_count_74) fl_RX11_302 lx_4 rfl dX11_count_77) dX11_count_80
set_option maxRecDepth 20000 in
theorem t_D_count_3 {N B C : Nat × FT} : fw_S s_D_count [(0, 2), (1, 0)] 81 (rtS (thE (thE (thE (cE 0) (cE 0)) (cE 0)) (gE 265))) N B C := fs_ret (fe_getI (fe_getR (fe_getR (fe_aloadn 0 rfl dX11_count_81) fl_RX11_19 lx_0 rfl dX11_count_82) fl_RX11_77 lx_3 rfl dX11_count_85) fl_RX11_355 lx_4 rfl dX11_count_88) dX11_count_91
set_option maxRecDepth 20000 in
theorem t_D_count_4 {N B C : Nat × FT} : fw_S s_D_count [(0, 2), (1, 0)] 92 (rtS (thE (thE (thE (cE 0) (cE 0)) (cE 0)) (gE 272))) N B C := fs_ret (fe_getI (fe_getR (fe_getR (fe_aloadn 0 rfl dX11_count_92) fl_RX11_19 lx_0 rfl dX11_count_93) fl_RX11_77 lx_3 rfl dX11_count_96) fl_RX11_358 lx_4 rfl dX11_count_99) dX11_count_102
set_option maxRecDepth 20000 in
theorem t_D_count_5 {N B C : Nat × FT} : fw_S s_D_count [(0, 2), (1, 0)] 103 (rtS (thE (thE (thE (cE 0) (cE 0)) (cE 0)) (gE 1408))) N B C := fs_ret (fe_getI (fe_getR (fe_getR (fe_aloadn 0 rfl dX11_count_103) fl_RX11_19 lx_0 rfl dX11_count_104) fl_RX11_150 lx_3 rfl dX11_count_107) fl_RX11_168 lx_22 rfl dX11_count_110) dX11_count_113
set_option maxRecDepth 20000 in
theorem t_D_count_6 {N B C : Nat × FT} : fw_S s_D_count [(0, 2), (1, 0)] 114 (rtS (thE (thE (thE (cE 0) (cE 0)) (cE 0)) (gE 1664))) N B C := fs_ret (fe_getI (fe_getR (fe_getR (fe_aloadn 0 rfl dX11_count_114) fl_RX11_19 lx_0 rfl dX11_count_115) fl_RX11_289 lx_3 rfl dX11_count_118) fl_RX11_293 lx_26 rfl dX11_count_121) dX11_count_124
set_option maxRecDepth 20000 in
theorem t_D_count_7 {N B C : Nat × FT} : fw_S s_D_count [(0, 2), (1, 0)] 125 (rtS (thE (thE (cE 0) (cE 0)) (gE 65))) N B C := fs_ret (fe_getI (fe_getR (fe_aloadn 0 rfl dX11_count_125) fl_RX11_12 lx_0 rfl dX11_count_126) fl_RX11_63 lx_1 rfl dX11_count_129) dX11_count_132
set_option maxRecDepth 20000 in
theorem t_D_count_8 {N B C : Nat × FT} : fw_S s_D_count [(0, 2), (1, 0)] 133 (rtS (cE (-1))) N B C := fs_ret (fe_iconst dX11_count_133) dX11_count_134
set_option maxRecDepth 20000 in
theorem t_D_count_9 {N B C : Nat × FT} : fw_S s_D_count [(0, 2), (1, 0)] 0 (tsS (vE 1) 0 [(rtS (thE (thE (thE (cE 0) (cE 0)) (cE 0)) (gE 257))), (rtS (thE (thE (thE (cE 0) (cE 0)) (cE 0)) (gE 260))), (rtS (thE (thE (thE (cE 0) (cE 0)) (cE 0)) (gE 261))), (rtS (thE (thE (thE (cE 0) (cE 0)) (cE 0)) (gE 265))), (rtS (thE (thE (thE (cE 0) (cE 0)) (cE 0)) (gE 272))), (rtS (thE (thE (thE (cE 0) (cE 0)) (cE 0)) (gE 1408))), (rtS (thE (thE (thE (cE 0) (cE 0)) (cE 0)) (gE 1664))), (rtS (thE (thE (cE 0) (cE 0)) (gE 65)))] (rtS (cE (-1)))) N B C := fs_tsw (cs := [(48, (rtS (thE (thE (thE (cE 0) (cE 0)) (cE 0)) (gE 257)))), (59, (rtS (thE (thE (thE (cE 0) (cE 0)) (cE 0)) (gE 260)))), (70, (rtS (thE (thE (thE (cE 0) (cE 0)) (cE 0)) (gE 261)))), (81, (rtS (thE (thE (thE (cE 0) (cE 0)) (cE 0)) (gE 265)))), (92, (rtS (thE (thE (thE (cE 0) (cE 0)) (cE 0)) (gE 272)))), (103, (rtS (thE (thE (thE (cE 0) (cE 0)) (cE 0)) (gE 1408)))), (114, (rtS (thE (thE (thE (cE 0) (cE 0)) (cE 0)) (gE 1664)))), (125, (rtS (thE (thE (cE 0) (cE 0)) (gE 65))))]) (fe_iloadn 1 rfl dX11_count_0) dX11_count_1 ⟨⟨_, rfl, rfl⟩, t_D_count_0, ⟨⟨_, rfl, rfl⟩, t_D_count_1, ⟨⟨_, rfl, rfl⟩, t_D_count_2, ⟨⟨_, rfl, rfl⟩, t_D_count_3, ⟨⟨_, rfl, rfl⟩, t_D_count_4, ⟨⟨_, rfl, rfl⟩, t_D_count_5, ⟨⟨_, rfl, rfl⟩, t_D_count_6, ⟨⟨_, rfl, rfl⟩, t_D_count_7, trivial⟩⟩⟩⟩⟩⟩⟩⟩ rfl rfl t_D_count_8
set_option maxRecDepth 20000 in
theorem C_D_count : fw_C LX yX11_count cX11_count 2 (some .int) 1 [2, 0] (some 0) m_D_count := fm_i (d := 1) (N := (0, [])) (B := (0, [])) (C := (0, [])) LX_ok (by decide +kernel) (show fw_S s_D_count _ 0 b_D_count _ _ _ from t_D_count_9) (by decide)
/-! DyerBellsModel.thrown (this 0 ) -/
abbrev s_M_thrown : SI := (LM, RX12, cX12_thrown, 1, 1, some 0)
def b_M_thrown : SM := (rtS (thE (cE 0) (gE 0)))
def m_M_thrown : FM := mthF [0] b_M_thrown
set_option maxRecDepth 20000 in
theorem t_M_thrown_0 {N B C : Nat × FT} : fw_S s_M_thrown [(0, 2)] 0 (rtS (thE (cE 0) (gE 0))) N B C := fs_ret (fe_getI (fe_aloadn 0 rfl dX12_thrown_0) fl_RX12_91 lm_0 rfl dX12_thrown_1) dX12_thrown_4
set_option maxRecDepth 20000 in
theorem C_M_thrown : fw_C LM yX12_thrown cX12_thrown 1 (some .int) 1 [2] (some 0) m_M_thrown := fm_i (d := 1) (N := (0, [])) (B := (0, [])) (C := (0, [])) LM_ok (by decide +kernel) (show fw_S s_M_thrown _ 0 b_M_thrown _ _ _ from t_M_thrown_0) (by decide)
/-! DyerBellsModel.come (this 0 ) -/
abbrev s_M_come : SI := (LM, RX12, cX12_come, 3, 1, none)
def b_M_come : SM := (sq (sq (stS 2 (cE 24)) (whS (nB (zB 2 (vE 2))) (sq (asS 64 940 idI (thE (cE 0) (cE 0)) (thE (cE 0) (gE 2)) (o2 andI (o2 usrI (vE 1) (vE 2)) (cE 255))) (poS 2 addI (cE 0) (cE 1))) (inS 2 (-8)) FU)) rvS)
def m_M_come : FM := mthF [0, 1] b_M_come
set_option maxRecDepth 20000 in
theorem t_M_come_0 {B C : Nat × FT} : fw_S s_M_come [(0, 2), (1, 0)] 0 (stS 2 (cE 24)) (3, [(0, 2), (1, 0), (2, 0)]) B C := fs_istn (fe_bipush dX12_come_0) dX12_come_2 (by decide) rfl
set_option maxRecDepth 20000 in
theorem t_M_come_1 : fw_B s_M_come [(0, 2), (1, 0), (2, 0)] 0 3 7 39 (nB (zB 2 (vE 2))) := (fb_not (fb_if_lt (fe_iloadn 2 rfl dX12_come_3) dX12_come_4 rfl))
set_option maxRecDepth 20000 in
theorem t_M_come_2 {B C : Nat × FT} : fw_S s_M_come [(0, 2), (1, 0), (2, 0)] 7 (asS 64 940 idI (thE (cE 0) (cE 0)) (thE (cE 0) (gE 2)) (o2 andI (o2 usrI (vE 1) (vE 2)) (cE 255))) (23, [(0, 2), (1, 0), (2, 0)]) B C := fs_iast (fe_getR (fe_aloadn 0 rfl dX12_come_7) fl_RX12_7 lm_0 rfl dX12_come_8) (fe_getI (fe_aloadn 0 rfl dX12_come_11) fl_RX12_94 lm_0 rfl dX12_come_12) (fe_iand (fe_iushr (fe_iloadn 1 rfl dX12_come_15) (fe_iloadn 2 rfl dX12_come_16) dX12_come_17) (fe_sipush dX12_come_18) dX12_come_21) lm_1 dX12_come_22 rfl
set_option maxRecDepth 20000 in
theorem t_M_come_3 {B C : Nat × FT} : fw_S s_M_come [(0, 2), (1, 0), (2, 0)] 23 (poS 2 addI (cE 0) (cE 1)) (33, [(0, 2), (1, 0), (2, 0)]) B C := fs_po_add (fe_aloadn 0 rfl dX12_come_23) dX12_come_24 dX12_come_25 (fe_iconst dX12_come_28) dX12_come_29 fp_RX12_94 lm_0 rfl dX12_come_30 rfl
set_option maxRecDepth 20000 in
theorem t_M_come_4 {B C : Nat × FT} : fw_S s_M_come [(0, 2), (1, 0), (2, 0)] 33 (inS 2 (-8)) (36, [(0, 2), (1, 0), (2, 0)]) B C := fs_inc (j := 2) rfl dX12_come_33 (by decide) rfl
set_option maxRecDepth 20000 in
theorem t_M_come_5 {B C : Nat × FT} : fw_S s_M_come [(0, 2), (1, 0), (2, 0)] 3 (whS (nB (zB 2 (vE 2))) (sq (asS 64 940 idI (thE (cE 0) (cE 0)) (thE (cE 0) (gE 2)) (o2 andI (o2 usrI (vE 1) (vE 2)) (cE 255))) (poS 2 addI (cE 0) (cE 1))) (inS 2 (-8)) FU) (39, [(0, 2), (1, 0), (2, 0)]) B C := fs_while t_M_come_1 (fs_seq t_M_come_2 t_M_come_3) (fs_goto t_M_come_4 dX12_come_36 rfl)
set_option maxRecDepth 20000 in
theorem t_M_come_6 {N B C : Nat × FT} : fw_S s_M_come [(0, 2), (1, 0)] 39 rvS N B C := fs_rv dX12_come_39
set_option maxRecDepth 20000 in
theorem C_M_come : fw_C LM yX12_come cX12_come 3 none 1 [2, 0] (none) m_M_come := fm_v (d := 1) (N := (0, [])) (B := (0, [])) (C := (0, [])) LM_ok (by decide +kernel) (show fw_S s_M_come _ 0 b_M_come _ _ _ from (fs_seq (fs_seq t_M_come_0 (fs_weak t_M_come_5 rfl)) t_M_come_6)) (by decide)
/-! DyerBellsModel.feed (this 0 ) -/
abbrev s_M_feed : SI := (LM, RX12, cX12_feed, 6, 2, some 0)
def b_M_feed : SM := (sq (pfS 0 (cE 0) (cE 0)) (sq (ifS (nB (cB 5 (o2 addI (thE (cE 0) (gE 2)) (cE 20)) (cE 940))) (rtS (cE (-1))) skS) (sq (exS (clE m_M_come [(cE 0), (vE 1)])) (sq (exS (clE m_M_come [(cE 0), (vE 2)])) (sq (exS (clE m_M_come [(cE 0), (vE 3)])) (sq (exS (clE m_M_come [(cE 0), (vE 4)])) (sq (exS (clE m_M_come [(cE 0), (vE 5)])) (rtS (thE (cE 0) (gE 2))))))))))
def m_M_feed : FM := mthF [0, 1, 2, 3, 4, 5] b_M_feed
set_option maxRecDepth 20000 in
theorem t_M_feed_0 {B C : Nat × FT} : fw_S s_M_feed [(0, 2), (1, 0), (2, 0), (3, 0), (4, 0), (5, 0)] 0 (pfS 0 (cE 0) (cE 0)) (5, [(0, 2), (1, 0), (2, 0), (3, 0), (4, 0), (5, 0)]) B C := fs_put (fe_aloadn 0 rfl dX12_feed_0) (fe_iconst dX12_feed_1) fp_RX12_91 lm_0 rfl dX12_feed_2 rfl
set_option maxRecDepth 20000 in
theorem t_M_feed_1 : fw_B s_M_feed [(0, 2), (1, 0), (2, 0), (3, 0), (4, 0), (5, 0)] 0 5 18 20 (nB (cB 5 (o2 addI (thE (cE 0) (gE 2)) (cE 20)) (cE 940))) := (fb_not (fb_icmp_le (fe_iadd (fe_getI (fe_aloadn 0 rfl dX12_feed_5) fl_RX12_94 lm_0 rfl dX12_feed_6) (fe_bipush dX12_feed_9) dX12_feed_11) (fe_sipush dX12_feed_12) dX12_feed_15 rfl))
set_option maxRecDepth 20000 in
theorem t_M_feed_2 {N B C : Nat × FT} : fw_S s_M_feed [(0, 2), (1, 0), (2, 0), (3, 0), (4, 0), (5, 0)] 18 (rtS (cE (-1))) N B C := fs_ret (fe_iconst dX12_feed_18) dX12_feed_19
set_option maxRecDepth 20000 in
theorem t_M_feed_3 {B C : Nat × FT} : fw_S s_M_feed [(0, 2), (1, 0), (2, 0), (3, 0), (4, 0), (5, 0)] 20 (exS (clE m_M_come [(cE 0), (vE 1)])) (25, [(0, 2), (1, 0), (2, 0), (3, 0), (4, 0), (5, 0)]) B C := fs_callV (t := 0) (fa_cons (fe_aloadn 0 rfl dX12_feed_20) (fa_cons (fe_iloadn 1 rfl dX12_feed_21) fa_nil)) C_M_come lv_RX12_97 lm_0 rfl rfl (by decide) (by decide) dX12_feed_22 rfl
set_option maxRecDepth 20000 in
theorem t_M_feed_4 {B C : Nat × FT} : fw_S s_M_feed [(0, 2), (1, 0), (2, 0), (3, 0), (4, 0), (5, 0)] 25 (exS (clE m_M_come [(cE 0), (vE 2)])) (30, [(0, 2), (1, 0), (2, 0), (3, 0), (4, 0), (5, 0)]) B C := fs_callV (t := 0) (fa_cons (fe_aloadn 0 rfl dX12_feed_25) (fa_cons (fe_iloadn 2 rfl dX12_feed_26) fa_nil)) C_M_come lv_RX12_97 lm_0 rfl rfl (by decide) (by decide) dX12_feed_27 rfl
set_option maxRecDepth 20000 in
theorem t_M_feed_5 {B C : Nat × FT} : fw_S s_M_feed [(0, 2), (1, 0), (2, 0), (3, 0), (4, 0), (5, 0)] 30 (exS (clE m_M_come [(cE 0), (vE 3)])) (35, [(0, 2), (1, 0), (2, 0), (3, 0), (4, 0), (5, 0)]) B C := fs_callV (t := 0) (fa_cons (fe_aloadn 0 rfl dX12_feed_30) (fa_cons (fe_iloadn 3 rfl dX12_feed_31) fa_nil)) C_M_come lv_RX12_97 lm_0 rfl rfl (by decide) (by decide) dX12_feed_32 rfl
set_option maxRecDepth 20000 in
theorem t_M_feed_6 {B C : Nat × FT} : fw_S s_M_feed [(0, 2), (1, 0), (2, 0), (3, 0), (4, 0), (5, 0)] 35 (exS (clE m_M_come [(cE 0), (vE 4)])) (41, [(0, 2), (1, 0), (2, 0), (3, 0), (4, 0), (5, 0)]) B C := fs_callV (t := 0) (fa_cons (fe_aloadn 0 rfl dX12_feed_35) (fa_cons (fe_iload 4 rfl dX12_feed_36) fa_nil)) C_M_come lv_RX12_97 lm_0 rfl rfl (by decide) (by decide) dX12_feed_38 rfl
set_option maxRecDepth 20000 in
theorem t_M_feed_7 {B C : Nat × FT} : fw_S s_M_feed [(0, 2), (1, 0), (2, 0), (3, 0), (4, 0), (5, 0)] 41 (exS (clE m_M_come [(cE 0), (vE 5)])) (47, [(0, 2), (1, 0), (2, 0), (3, 0), (4, 0), (5, 0)]) B C := fs_callV (t := 0) (fa_cons (fe_aloadn 0 rfl dX12_feed_41) (fa_cons (fe_iload 5 rfl dX12_feed_42) fa_nil)) C_M_come lv_RX12_97 lm_0 rfl rfl (by decide) (by decide) dX12_feed_44 rfl
set_option maxRecDepth 20000 in
theorem t_M_feed_8 {N B C : Nat × FT} : fw_S s_M_feed [(0, 2), (1, 0), (2, 0), (3, 0), (4, 0), (5, 0)] 47 (rtS (thE (cE 0) (gE 2))) N B C := fs_ret (fe_getI (fe_aloadn 0 rfl dX12_feed_47) fl_RX12_94 lm_0 rfl dX12_feed_48) dX12_feed_51
set_option maxRecDepth 20000 in
theorem C_M_feed : fw_C LM yX12_feed cX12_feed 6 (some .int) 2 [2, 0, 0, 0, 0, 0] (some 0) m_M_feed := fm_i (d := 2) (N := (0, [])) (B := (0, [])) (C := (0, [])) LM_ok (by decide +kernel) (show fw_S s_M_feed _ 0 b_M_feed _ _ _ from (fs_seq t_M_feed_0 (fs_seq (fs_if t_M_feed_1 t_M_feed_2 (fs_skip rfl)) (fs_seq t_M_feed_3 (fs_seq t_M_feed_4 (fs_seq t_M_feed_5 (fs_seq t_M_feed_6 (fs_seq t_M_feed_7 t_M_feed_8)))))))) (by decide)
/-! DyerBellsModel.end (this 0 ) -/
abbrev s_M_end : SI := (LM, RX12, cX12_end, 2, 1, some 0)
def b_M_end : SM := (sq (pfS 0 (cE 0) (cE 0)) (sq (ifS (orB (zB 2 (vE 1)) (nB (cB 5 (vE 1) (thE (cE 0) (gE 2))))) (rtS (cE 0)) skS) (sq (pfS 2 (cE 0) (vE 1)) (rtS (cE 1)))))
def m_M_end : FM := mthZ [0, 1] b_M_end
set_option maxRecDepth 20000 in
theorem t_M_end_0 {B C : Nat × FT} : fw_S s_M_end [(0, 2), (1, 0)] 0 (pfS 0 (cE 0) (cE 0)) (5, [(0, 2), (1, 0)]) B C := fs_put (fe_aloadn 0 rfl dX12_end_0) (fe_iconst dX12_end_1) fp_RX12_91 lm_0 rfl dX12_end_2 rfl
set_option maxRecDepth 20000 in
theorem t_M_end_1 : fw_B s_M_end [(0, 2), (1, 0)] 0 5 17 19 (orB (zB 2 (vE 1)) (nB (cB 5 (vE 1) (thE (cE 0) (gE 2))))) := (fb_or (fb_if_lt (fe_iloadn 1 rfl dX12_end_5) dX12_end_6 rfl) (fb_not (fb_icmp_le (fe_iloadn 1 rfl dX12_end_9) (fe_getI (fe_aloadn 0 rfl dX12_end_10) fl_RX12_94 lm_0 rfl dX12_end_11) dX12_end_14 rfl)))
set_option maxRecDepth 20000 in
theorem t_M_end_2 {N B C : Nat × FT} : fw_S s_M_end [(0, 2), (1, 0)] 17 (rtS (cE 0)) N B C := fs_ret (fe_iconst dX12_end_17) dX12_end_18
set_option maxRecDepth 20000 in
theorem t_M_end_3 {B C : Nat × FT} : fw_S s_M_end [(0, 2), (1, 0)] 19 (pfS 2 (cE 0) (vE 1)) (24, [(0, 2), (1, 0)]) B C := fs_put (fe_aloadn 0 rfl dX12_end_19) (fe_iloadn 1 rfl dX12_end_20) fp_RX12_94 lm_0 rfl dX12_end_21 rfl
set_option maxRecDepth 20000 in
theorem t_M_end_4 {N B C : Nat × FT} : fw_S s_M_end [(0, 2), (1, 0)] 24 (rtS (cE 1)) N B C := fs_ret (fe_iconst dX12_end_24) dX12_end_25
set_option maxRecDepth 20000 in
theorem C_M_end : fw_C LM yX12_end cX12_end 2 (some .boolean) 1 [2, 0] (some 0) m_M_end := fm_z (d := 1) (N := (0, [])) (B := (0, [])) (C := (0, [])) LM_ok (by decide +kernel) (show fw_S s_M_end _ 0 b_M_end _ _ _ from (fs_seq t_M_end_0 (fs_seq (fs_if t_M_end_1 t_M_end_2 (fs_skip rfl)) (fs_seq t_M_end_3 t_M_end_4)))) (by decide)
/-! DyerBellsModel.standard -/
abbrev s_M_standard : SI := (LM, RX12, cX12_standard, 2, 1, none)
def b_M_standard : SM := (sq (sq (stS 1 (cE 0)) (whS (nB (cB 3 (vE 1) (cE 160))) (asS 128 592 idI (cE 0) (vE 1) (cE 0)) (inS 1 1) FU)) (sq (asS 128 592 idI (cE 0) (cE 5) (cE 9999)) (sq (sq (stS 1 (cE 0)) (whS (nB (cB 3 (vE 1) (cE 7))) (asS 128 592 idI (cE 0) (o2 addI (cE 110) (vE 1)) (cE 100)) (inS 1 1) FU)) rvS)))
def m_M_standard : FM := mthF [0] b_M_standard
set_option maxRecDepth 20000 in
theorem t_M_standard_0 {B C : Nat × FT} : fw_S s_M_standard [(0, 4)] 0 (stS 1 (cE 0)) (2, [(0, 4), (1, 0)]) B C := fs_istn (fe_iconst dX12_standard_0) dX12_standard_1 (by decide) rfl
set_option maxRecDepth 20000 in
theorem t_M_standard_1 : fw_B s_M_standard [(0, 4), (1, 0)] 0 2 9 19 (nB (cB 3 (vE 1) (cE 160))) := (fb_not (fb_icmp_ge (fe_iloadn 1 rfl dX12_standard_2) (fe_sipush dX12_standard_3) dX12_standard_6 rfl))
set_option maxRecDepth 20000 in
theorem t_M_standard_2 {B C : Nat × FT} : fw_S s_M_standard [(0, 4), (1, 0)] 9 (asS 128 592 idI (cE 0) (vE 1) (cE 0)) (13, [(0, 4), (1, 0)]) B C := fs_iast (fe_aloadn 0 rfl dX12_standard_9) (fe_iloadn 1 rfl dX12_standard_10) (fe_iconst dX12_standard_11) lm_2 dX12_standard_12 rfl
set_option maxRecDepth 20000 in
theorem t_M_standard_3 {B C : Nat × FT} : fw_S s_M_standard [(0, 4), (1, 0)] 13 (inS 1 1) (16, [(0, 4), (1, 0)]) B C := fs_inc (j := 1) rfl dX12_standard_13 (by decide) rfl
set_option maxRecDepth 20000 in
theorem t_M_standard_4 {B C : Nat × FT} : fw_S s_M_standard [(0, 4), (1, 0)] 2 (whS (nB (cB 3 (vE 1) (cE 160))) (asS 128 592 idI (cE 0) (vE 1) (cE 0)) (inS 1 1) FU) (19, [(0, 4), (1, 0)]) B C := fs_while t_M_standard_1 t_M_standard_2 (fs_goto t_M_standard_3 dX12_standard_16 rfl)
set_option maxRecDepth 20000 in
theorem t_M_standard_5 {B C : Nat × FT} : fw_S s_M_standard [(0, 4)] 19 (asS 128 592 idI (cE 0) (cE 5) (cE 9999)) (25, [(0, 4)]) B C := fs_iast (fe_aloadn 0 rfl dX12_standard_19) (fe_iconst dX12_standard_20) (fe_sipush dX12_standard_21) lm_2 dX12_standard_24 rfl
set_option maxRecDepth 20000 in
theorem t_M_standard_6 {B C : Nat × FT} : fw_S s_M_standard [(0, 4)] 25 (stS 1 (cE 0)) (27, [(0, 4), (1, 0)]) B C := fs_istn (fe_iconst dX12_standard_25) dX12_standard_26 (by decide) rfl
set_option maxRecDepth 20000 in
theorem t_M_standard_7 : fw_B s_M_standard [(0, 4), (1, 0)] 0 27 33 47 (nB (cB 3 (vE 1) (cE 7))) := (fb_not (fb_icmp_ge (fe_iloadn 1 rfl dX12_standard_27) (fe_bipush dX12_standard_28) dX12_standard_30 rfl))
set_option maxRecDepth 20000 in
theorem t_M_standard_8 {B C : Nat × FT} : fw_S s_M_standard [(0, 4), (1, 0)] 33 (asS 128 592 idI (cE 0) (o2 addI (cE 110) (vE 1)) (cE 100)) (41, [(0, 4), (1, 0)]) B C := fs_iast (fe_aloadn 0 rfl dX12_standard_33) (fe_iadd (fe_bipush dX12_standard_34) (fe_iloadn 1 rfl dX12_standard_36) dX12_standard_37) (fe_bipush dX12_standard_38) lm_2 dX12_standard_40 rfl
set_option maxRecDepth 20000 in
theorem t_M_standard_9 {B C : Nat × FT} : fw_S s_M_standard [(0, 4), (1, 0)] 41 (inS 1 1) (44, [(0, 4), (1, 0)]) B C := fs_inc (j := 1) rfl dX12_standard_41 (by decide) rfl
set_option maxRecDepth 20000 in
theorem t_M_standard_10 {B C : Nat × FT} : fw_S s_M_standard [(0, 4), (1, 0)] 27 (whS (nB (cB 3 (vE 1) (cE 7))) (asS 128 592 idI (cE 0) (o2 addI (cE 110) (vE 1)) (cE 100)) (inS 1 1) FU) (47, [(0, 4), (1, 0)]) B C := fs_while t_M_standard_7 t_M_standard_8 (fs_goto t_M_standard_9 dX12_standard_44 rfl)
set_option maxRecDepth 20000 in
theorem t_M_standard_11 {N B C : Nat × FT} : fw_S s_M_standard [(0, 4)] 47 rvS N B C := fs_rv dX12_standard_47
set_option maxRecDepth 20000 in
theorem C_M_standard : fw_C LM yX12_standard cX12_standard 2 none 1 [4] (none) m_M_standard := fm_v (d := 1) (N := (0, [])) (B := (0, [])) (C := (0, [])) LM_ok (by decide +kernel) (show fw_S s_M_standard _ 0 b_M_standard _ _ _ from (fs_seq (fs_seq t_M_standard_0 (fs_weak t_M_standard_4 rfl)) (fs_seq t_M_standard_5 (fs_seq (fs_seq t_M_standard_6 (fs_weak t_M_standard_10 rfl)) t_M_standard_11)))) (by decide)
/-! DyerBellsModel.lay (this 0 ) -/
abbrev s_M_lay : SI := (LM, RX12, cX12_lay, 1, 2, none)
def b_M_lay : SM := (sq (ifS (nB (zB 0 (thE (cE 0) (gE 22)))) rvS skS) (sq (pzS 22 (cE 0) (cE 1)) (sq (exS (clE m_M_standard [(thE (cE 0) (cE 0))])) rvS)))
def m_M_lay : FM := mthF [0] b_M_lay
set_option maxRecDepth 20000 in
theorem t_M_lay_0 : fw_B s_M_lay [(0, 2)] 0 0 7 8 (nB (zB 0 (thE (cE 0) (gE 22)))) := (fb_not (fb_if_eq (fe_getI (fe_aloadn 0 rfl dX12_lay_0) fl_RX12_182 lm_0 rfl dX12_lay_1) dX12_lay_4 rfl))
set_option maxRecDepth 20000 in
theorem t_M_lay_1 {N B C : Nat × FT} : fw_S s_M_lay [(0, 2)] 7 rvS N B C := fs_rv dX12_lay_7
set_option maxRecDepth 20000 in
theorem t_M_lay_2 {B C : Nat × FT} : fw_S s_M_lay [(0, 2)] 8 (pzS 22 (cE 0) (cE 1)) (13, [(0, 2)]) B C := fs_putZ (fe_aloadn 0 rfl dX12_lay_8) (fe_iconst dX12_lay_9) fp_RX12_182 lm_0 rfl dX12_lay_10 rfl
set_option maxRecDepth 20000 in
theorem t_M_lay_3 {B C : Nat × FT} : fw_S s_M_lay [(0, 2)] 13 (exS (clE m_M_standard [(thE (cE 0) (cE 0))])) (20, [(0, 2)]) B C := fs_callS (t := 0) (fa_cons (fe_getR (fe_aloadn 0 rfl dX12_lay_13) fl_RX12_13 lm_0 rfl dX12_lay_14) fa_nil) C_M_standard ls_RX12_186 rfl (by decide) (by decide) dX12_lay_17 rfl
set_option maxRecDepth 20000 in
theorem t_M_lay_4 {N B C : Nat × FT} : fw_S s_M_lay [(0, 2)] 20 rvS N B C := fs_rv dX12_lay_20
set_option maxRecDepth 20000 in
theorem C_M_lay : fw_C LM yX12_lay cX12_lay 1 none 2 [2] (none) m_M_lay := fm_v (d := 2) (N := (0, [])) (B := (0, [])) (C := (0, [])) LM_ok (by decide +kernel) (show fw_S s_M_lay _ 0 b_M_lay _ _ _ from (fs_seq (fs_if t_M_lay_0 t_M_lay_1 (fs_skip rfl)) (fs_seq t_M_lay_2 (fs_seq t_M_lay_3 t_M_lay_4)))) (by decide)
/-! DyerBellsModel.take (this 0 ) -/
abbrev s_M_take : SI := (LM, RX12, cX12_take, 2, 1, some 0)
def b_M_take : SM := (sq (stS 1 (thE (cE 0) (gE 2))) (sq (pfS 2 (cE 0) (cE 0)) (rtS (vE 1))))
def m_M_take : FM := mthF [0] b_M_take
set_option maxRecDepth 20000 in
theorem t_M_take_0 {B C : Nat × FT} : fw_S s_M_take [(0, 2)] 0 (stS 1 (thE (cE 0) (gE 2))) (5, [(0, 2), (1, 0)]) B C := fs_istn (fe_getI (fe_aloadn 0 rfl dX12_take_0) fl_RX12_94 lm_0 rfl dX12_take_1) dX12_take_4 (by decide) rfl
set_option maxRecDepth 20000 in
theorem t_M_take_1 {B C : Nat × FT} : fw_S s_M_take [(0, 2), (1, 0)] 5 (pfS 2 (cE 0) (cE 0)) (10, [(0, 2), (1, 0)]) B C := fs_put (fe_aloadn 0 rfl dX12_take_5) (fe_iconst dX12_take_6) fp_RX12_94 lm_0 rfl dX12_take_7 rfl
set_option maxRecDepth 20000 in
theorem t_M_take_2 {N B C : Nat × FT} : fw_S s_M_take [(0, 2), (1, 0)] 10 (rtS (vE 1)) N B C := fs_ret (fe_iloadn 1 rfl dX12_take_10) dX12_take_11
set_option maxRecDepth 20000 in
theorem C_M_take : fw_C LM yX12_take cX12_take 2 (some .int) 1 [2] (some 0) m_M_take := fm_i (d := 1) (N := (0, [])) (B := (0, [])) (C := (0, [])) LM_ok (by decide +kernel) (show fw_S s_M_take _ 0 b_M_take _ _ _ from (fs_seq t_M_take_0 (fs_seq t_M_take_1 t_M_take_2))) (by decide)
/-! DyerBellsModel.isLetter -/
abbrev s_M_isLetter : SI := (LM, RX12, cX12_isLetter, 1, 1, some 0)
def b_M_isLetter : SM := (rtS (kE (andB (nB (cB 2 (vE 0) (cE 97))) (nB (cB 4 (vE 0) (cE 122)))) (cE 1) (cE 0)))
def m_M_isLetter : FM := mthZ [0] b_M_isLetter
set_option maxRecDepth 20000 in
theorem t_M_isLetter_0 {N B C : Nat × FT} : fw_S s_M_isLetter [(0, 0)] 0 (rtS (kE (andB (nB (cB 2 (vE 0) (cE 97))) (nB (cB 4 (vE 0) (cE 122)))) (cE 1) (cE 0))) N B C := fs_ret (fe_ternG (fb_and (fb_not (fb_icmp_lt (fe_iloadn 0 rfl dX12_isLetter_0) (fe_bipush dX12_isLetter_1) dX12_isLetter_3 rfl)) (fb_not (fb_icmp_gt (fe_iloadn 0 rfl dX12_isLetter_6) (fe_bipush dX12_isLetter_7) dX12_isLetter_9 rfl))) (fe_gt (fe_iconst dX12_isLetter_12) dX12_isLetter_13 rfl) (fe_iconst dX12_isLetter_16)) dX12_isLetter_17
set_option maxRecDepth 20000 in
theorem C_M_isLetter : fw_C LM yX12_isLetter cX12_isLetter 1 (some .boolean) 1 [0] (some 0) m_M_isLetter := fm_z (d := 1) (N := (0, [])) (B := (0, [])) (C := (0, [])) LM_ok (by decide +kernel) (show fw_S s_M_isLetter _ 0 b_M_isLetter _ _ _ from t_M_isLetter_0) (by decide)
/-! DyerBellsModel.isDigit -/
abbrev s_M_isDigit : SI := (LM, RX12, cX12_isDigit, 1, 1, some 0)
def b_M_isDigit : SM := (rtS (kE (andB (nB (cB 2 (vE 0) (cE 48))) (nB (cB 4 (vE 0) (cE 57)))) (cE 1) (cE 0)))
def m_M_isDigit : FM := mthZ [0] b_M_isDigit
set_option maxRecDepth 20000 in
theorem t_M_isDigit_0 {N B C : Nat × FT} : fw_S s_M_isDigit [(0, 0)] 0 (rtS (kE (andB (nB (cB 2 (vE 0) (cE 48))) (nB (cB 4 (vE 0) (cE 57)))) (cE 1) (cE 0))) N B C := fs_ret (fe_ternG (fb_and (fb_not (fb_icmp_lt (fe_iloadn 0 rfl dX12_isDigit_0) (fe_bipush dX12_isDigit_1) dX12_isDigit_3 rfl)) (fb_not (fb_icmp_gt (fe_iloadn 0 rfl dX12_isDigit_6) (fe_bipush dX12_isDigit_7) dX12_isDigit_9 rfl))) (fe_gt (fe_iconst dX12_isDigit_12) dX12_isDigit_13 rfl) (fe_iconst dX12_isDigit_16)) dX12_isDigit_17
set_option maxRecDepth 20000 in
theorem C_M_isDigit : fw_C LM yX12_isDigit cX12_isDigit 1 (some .boolean) 1 [0] (some 0) m_M_isDigit := fm_z (d := 1) (N := (0, [])) (B := (0, [])) (C := (0, [])) LM_ok (by decide +kernel) (show fw_S s_M_isDigit _ 0 b_M_isDigit _ _ _ from t_M_isDigit_0) (by decide)
/-! DyerBellsModel.byteAt (this 0 ) -/
abbrev s_M_byteAt : SI := (LM, RX12, cX12_byteAt, 2, 1, some 0)
def b_M_byteAt : SM := (rtS (kE (nB (cB 3 (vE 1) (thE (cE 0) (gE 3)))) (ldE 64 940 (thE (cE 0) (cE 0)) (vE 1)) (cE 0)))
def m_M_byteAt : FM := mthF [0, 1] b_M_byteAt
set_option maxRecDepth 20000 in
theorem t_M_byteAt_0 {N B C : Nat × FT} : fw_S s_M_byteAt [(0, 2), (1, 0)] 0 (rtS (kE (nB (cB 3 (vE 1) (thE (cE 0) (gE 3)))) (ldE 64 940 (thE (cE 0) (cE 0)) (vE 1)) (cE 0))) N B C := fs_ret (fe_ternG (fb_not (fb_icmp_ge (fe_iloadn 1 rfl dX12_byteAt_0) (fe_getI (fe_aloadn 0 rfl dX12_byteAt_1) fl_RX12_101 lm_0 rfl dX12_byteAt_2) dX12_byteAt_5 rfl)) (fe_gt (fe_iald (fe_getR (fe_aloadn 0 rfl dX12_byteAt_8) fl_RX12_7 lm_0 rfl dX12_byteAt_9) (fe_iloadn 1 rfl dX12_byteAt_12) lm_1 dX12_byteAt_13) dX12_byteAt_14 rfl) (fe_iconst dX12_byteAt_17)) dX12_byteAt_18
set_option maxRecDepth 20000 in
theorem C_M_byteAt : fw_C LM yX12_byteAt cX12_byteAt 2 (some .int) 1 [2, 0] (some 0) m_M_byteAt := fm_i (d := 1) (N := (0, [])) (B := (0, [])) (C := (0, [])) LM_ok (by decide +kernel) (show fw_S s_M_byteAt _ 0 b_M_byteAt _ _ _ from t_M_byteAt_0) (by decide)
/-! DyerBellsModel.go (this 0 ) -/
abbrev s_M_go : SI := (LM, RX12, cX12_go, 5, 2, none)
def b_M_go : SM := (sq (whS (andB (nB (cB 3 (thE (cE 0) (gE 5)) (thE (cE 0) (gE 3)))) (orB (cB 0 (ldE 64 940 (thE (cE 0) (cE 0)) (thE (cE 0) (gE 5))) (cE 32)) (nB (cB 1 (ldE 64 940 (thE (cE 0) (cE 0)) (thE (cE 0) (gE 5))) (cE 10))))) (poS 5 addI (cE 0) (cE 1)) skS FU) (sq (pfS 6 (cE 0) (thE (cE 0) (gE 5))) (sq (ifS (andB (nB (cB 5 (thE (cE 0) (gE 3)) (thE (cE 0) (gE 4)))) (nB (cB 2 (thE (cE 0) (gE 6)) (thE (cE 0) (gE 4))))) (sq (pfS 6 (cE 0) (thE (cE 0) (gE 4))) (sq (pfS 7 (cE 0) (cE 1)) rvS)) skS) (sq (ifS (nB (cB 2 (thE (cE 0) (gE 5)) (thE (cE 0) (gE 3)))) (sq (pfS 7 (cE 0) (cE 0)) rvS) skS) (sq (stS 1 (ldE 64 940 (thE (cE 0) (cE 0)) (thE (cE 0) (gE 5)))) (sq (ifS (andB (nB (zB 1 (clE m_M_isLetter [(vE 1)]))) (nB (zB 1 (clE m_M_isDigit [(vE 1)])))) (sq (pfS 7 (cE 0) (kE (orB (orB (orB (orB (orB (cB 0 (vE 1) (cE 59)) (cB 0 (vE 1) (cE 60))) (cB 0 (vE 1) (cE 61))) (cB 0 (vE 1) (cE 62))) (cB 0 (vE 1) (cE 40))) (nB (cB 1 (vE 1) (cE 41)))) (cE 4) (cE 1))) (sq (pfS 9 (cE 0) (vE 1)) (sq (poS 5 addI (cE 0) (cE 1)) rvS))) skS) (sq (stS 2 (clE m_M_isLetter [(vE 1)])) (sq (stS 3 (cE 1)) (sq (pfS 12 (cE 0) (cE 0)) (sq (pfS 8 (cE 0) (cE 0)) (sq (whS (orB (zB 1 (clE m_M_isLetter [(clE m_M_byteAt [(cE 0), (thE (cE 0) (gE 5))])])) (nB (zB 0 (clE m_M_isDigit [(clE m_M_byteAt [(cE 0), (thE (cE 0) (gE 5))])])))) (sq (stS 4 (ldE 64 940 (thE (cE 0) (cE 0)) (thE (cE 0) (gE 5)))) (sq (stS 3 (kE (andB (nB (zB 0 (vE 3))) (nB (cB 1 (clE m_M_isLetter [(vE 4)]) (vE 2)))) (cE 1) (cE 0))) (sq (ifS (nB (cB 3 (o2 subI (thE (cE 0) (gE 5)) (thE (cE 0) (gE 6))) (cE 6))) (pfS 12 (cE 0) (o2 subI (o2 addI (o2 mulI (cE 27) (thE (cE 0) (gE 12))) (o1 i2lI (vE 4))) (cE 96))) skS) (sq (ifS (nB (cB 3 (o2 subI (thE (cE 0) (gE 5)) (thE (cE 0) (gE 6))) (cE 4))) (pfS 8 (cE 0) (o2 subI (o2 addI (o2 mulI (cE 10) (thE (cE 0) (gE 8))) (vE 4)) (cE 48))) skS) (poS 5 addI (cE 0) (cE 1)))))) skS FU) (sq (pfS 7 (cE 0) (kE (orB (zB 0 (vE 3)) (nB (cB 5 (o2 subI (thE (cE 0) (gE 5)) (thE (cE 0) (gE 6))) (kE (nB (zB 0 (vE 2))) (cE 6) (cE 4))))) (cE 1) (kE (nB (zB 0 (vE 2))) (cE 2) (cE 3)))) rvS))))))))))))
def m_M_go : FM := mthF [0] b_M_go
set_option maxRecDepth 20000 in
theorem t_M_go_0 : fw_B s_M_go [(0, 2)] 0 0 39 52 (andB (nB (cB 3 (thE (cE 0) (gE 5)) (thE (cE 0) (gE 3)))) (orB (cB 0 (ldE 64 940 (thE (cE 0) (cE 0)) (thE (cE 0) (gE 5))) (cE 32)) (nB (cB 1 (ldE 64 940 (thE (cE 0) (cE 0)) (thE (cE 0) (gE 5))) (cE 10))))) := (fb_and (fb_not (fb_icmp_ge (fe_getI (fe_aloadn 0 rfl dX12_go_0) fl_RX12_104 lm_0 rfl dX12_go_1) (fe_getI (fe_aloadn 0 rfl dX12_go_4) fl_RX12_101 lm_0 rfl dX12_go_5) dX12_go_8 rfl)) (fb_or (fb_icmp_eq (fe_iald (fe_getR (fe_aloadn 0 rfl dX12_go_11) fl_RX12_7 lm_0 rfl dX12_go_12) (fe_getI (fe_aloadn 0 rfl dX12_go_15) fl_RX12_104 lm_0 rfl dX12_go_16) lm_1 dX12_go_19) (fe_bipush dX12_go_20) dX12_go_22 rfl) (fb_not (fb_icmp_ne (fe_iald (fe_getR (fe_aloadn 0 rfl dX12_go_25) fl_RX12_7 lm_0 rfl dX12_go_26) (fe_getI (fe_aloadn 0 rfl dX12_go_29) fl_RX12_104 lm_0 rfl dX12_go_30) lm_1 dX12_go_33) (fe_bipush dX12_go_34) dX12_go_36 rfl))))
set_option maxRecDepth 20000 in
theorem t_M_go_1 {B C : Nat × FT} : fw_S s_M_go [(0, 2)] 39 (poS 5 addI (cE 0) (cE 1)) (49, [(0, 2)]) B C := fs_po_add (fe_aloadn 0 rfl dX12_go_39) dX12_go_40 dX12_go_41 (fe_iconst dX12_go_44) dX12_go_45 fp_RX12_104 lm_0 rfl dX12_go_46 rfl
set_option maxRecDepth 20000 in
theorem t_M_go_2 {B C : Nat × FT} : fw_S s_M_go [(0, 2)] 0 (whS (andB (nB (cB 3 (thE (cE 0) (gE 5)) (thE (cE 0) (gE 3)))) (orB (cB 0 (ldE 64 940 (thE (cE 0) (cE 0)) (thE (cE 0) (gE 5))) (cE 32)) (nB (cB 1 (ldE 64 940 (thE (cE 0) (cE 0)) (thE (cE 0) (gE 5))) (cE 10))))) (poS 5 addI (cE 0) (cE 1)) skS FU) (52, [(0, 2)]) B C := fs_while t_M_go_0 (fs_goto t_M_go_1 dX12_go_49 rfl) (fs_skip rfl)
set_option maxRecDepth 20000 in
theorem t_M_go_3 {B C : Nat × FT} : fw_S s_M_go [(0, 2)] 52 (pfS 6 (cE 0) (thE (cE 0) (gE 5))) (60, [(0, 2)]) B C := fs_put (fe_aloadn 0 rfl dX12_go_52) (fe_getI (fe_aloadn 0 rfl dX12_go_53) fl_RX12_104 lm_0 rfl dX12_go_54) fp_RX12_107 lm_0 rfl dX12_go_57 rfl
set_option maxRecDepth 20000 in
theorem t_M_go_4 : fw_B s_M_go [(0, 2)] 0 60 82 96 (andB (nB (cB 5 (thE (cE 0) (gE 3)) (thE (cE 0) (gE 4)))) (nB (cB 2 (thE (cE 0) (gE 6)) (thE (cE 0) (gE 4))))) := (fb_and (fb_not (fb_icmp_le (fe_getI (fe_aloadn 0 rfl dX12_go_60) fl_RX12_101 lm_0 rfl dX12_go_61) (fe_getI (fe_aloadn 0 rfl dX12_go_64) fl_RX12_110 lm_0 rfl dX12_go_65) dX12_go_68 rfl)) (fb_not (fb_icmp_lt (fe_getI (fe_aloadn 0 rfl dX12_go_71) fl_RX12_107 lm_0 rfl dX12_go_72) (fe_getI (fe_aloadn 0 rfl dX12_go_75) fl_RX12_110 lm_0 rfl dX12_go_76) dX12_go_79 rfl)))
set_option maxRecDepth 20000 in
theorem t_M_go_5 {B C : Nat × FT} : fw_S s_M_go [(0, 2)] 82 (pfS 6 (cE 0) (thE (cE 0) (gE 4))) (90, [(0, 2)]) B C := fs_put (fe_aloadn 0 rfl dX12_go_82) (fe_getI (fe_aloadn 0 rfl dX12_go_83) fl_RX12_110 lm_0 rfl dX12_go_84) fp_RX12_107 lm_0 rfl dX12_go_87 rfl
set_option maxRecDepth 20000 in
theorem t_M_go_6 {B C : Nat × FT} : fw_S s_M_go [(0, 2)] 90 (pfS 7 (cE 0) (cE 1)) (95, [(0, 2)]) B C := fs_put (fe_aloadn 0 rfl dX12_go_90) (fe_iconst dX12_go_91) fp_RX12_113 lm_0 rfl dX12_go_92 rfl
set_option maxRecDepth 20000 in
theorem t_M_go_7 {N B C : Nat × FT} : fw_S s_M_go [(0, 2)] 95 rvS N B C := fs_rv dX12_go_95
set_option maxRecDepth 20000 in
theorem t_M_go_8 : fw_B s_M_go [(0, 2)] 0 96 107 113 (nB (cB 2 (thE (cE 0) (gE 5)) (thE (cE 0) (gE 3)))) := (fb_not (fb_icmp_lt (fe_getI (fe_aloadn 0 rfl dX12_go_96) fl_RX12_104 lm_0 rfl dX12_go_97) (fe_getI (fe_aloadn 0 rfl dX12_go_100) fl_RX12_101 lm_0 rfl dX12_go_101) dX12_go_104 rfl))
set_option maxRecDepth 20000 in
theorem t_M_go_9 {B C : Nat × FT} : fw_S s_M_go [(0, 2)] 107 (pfS 7 (cE 0) (cE 0)) (112, [(0, 2)]) B C := fs_put (fe_aloadn 0 rfl dX12_go_107) (fe_iconst dX12_go_108) fp_RX12_113 lm_0 rfl dX12_go_109 rfl
set_option maxRecDepth 20000 in
theorem t_M_go_10 {N B C : Nat × FT} : fw_S s_M_go [(0, 2)] 112 rvS N B C := fs_rv dX12_go_112
set_option maxRecDepth 20000 in
theorem t_M_go_11 {B C : Nat × FT} : fw_S s_M_go [(0, 2)] 113 (stS 1 (ldE 64 940 (thE (cE 0) (cE 0)) (thE (cE 0) (gE 5)))) (123, [(0, 2), (1, 0)]) B C := fs_istn (fe_iald (fe_getR (fe_aloadn 0 rfl dX12_go_113) fl_RX12_7 lm_0 rfl dX12_go_114) (fe_getI (fe_aloadn 0 rfl dX12_go_117) fl_RX12_104 lm_0 rfl dX12_go_118) lm_1 dX12_go_121) dX12_go_122 (by decide) rfl
set_option maxRecDepth 20000 in
theorem t_M_go_12 : fw_B s_M_go [(0, 2), (1, 0)] 0 123 137 198 (andB (nB (zB 1 (clE m_M_isLetter [(vE 1)]))) (nB (zB 1 (clE m_M_isDigit [(vE 1)])))) := (fb_and (fb_not (fb_if_ne (fe_callS (fa_cons (fe_iloadn 1 rfl dX12_go_123) fa_nil) C_M_isLetter ls_RX12_116 rfl (by decide) (by decide) (by decide) dX12_go_124) dX12_go_127 rfl)) (fb_not (fb_if_ne (fe_callS (fa_cons (fe_iloadn 1 rfl dX12_go_130) fa_nil) C_M_isDigit ls_RX12_120 rfl (by decide) (by decide) (by decide) dX12_go_131) dX12_go_134 rfl)))
set_option maxRecDepth 20000 in
theorem t_M_go_13 {B C : Nat × FT} : fw_S s_M_go [(0, 2), (1, 0)] 137 (pfS 7 (cE 0) (kE (orB (orB (orB (orB (orB (cB 0 (vE 1) (cE 59)) (cB 0 (vE 1) (cE 60))) (cB 0 (vE 1) (cE 61))) (cB 0 (vE 1) (cE 62))) (cB 0 (vE 1) (cE 40))) (nB (cB 1 (vE 1) (cE 41)))) (cE 4) (cE 1))) (182, [(0, 2), (1, 0)]) B C := fs_put (fe_aloadn 0 rfl dX12_go_137) (fe_ternG (fb_or (fb_or (fb_or (fb_or (fb_or (fb_icmp_eq (fe_iloadn 1 rfl dX12_go_138) (fe_bipush dX12_go_139) dX12_go_141 rfl) (fb_icmp_eq (fe_iloadn 1 rfl dX12_go_144) (fe_bipush dX12_go_145) dX12_go_147 rfl)) (fb_icmp_eq (fe_iloadn 1 rfl dX12_go_150) (fe_bipush dX12_go_151) dX12_go_153 rfl)) (fb_icmp_eq (fe_iloadn 1 rfl dX12_go_156) (fe_bipush dX12_go_157) dX12_go_159 rfl)) (fb_icmp_eq (fe_iloadn 1 rfl dX12_go_162) (fe_bipush dX12_go_163) dX12_go_165 rfl)) (fb_not (fb_icmp_ne (fe_iloadn 1 rfl dX12_go_168) (fe_bipush dX12_go_169) dX12_go_171 rfl))) (fe_gt (fe_iconst dX12_go_174) dX12_go_175 rfl) (fe_iconst dX12_go_178)) fp_RX12_113 lm_0 rfl dX12_go_179 rfl
set_option maxRecDepth 20000 in
theorem t_M_go_14 {B C : Nat × FT} : fw_S s_M_go [(0, 2), (1, 0)] 182 (pfS 9 (cE 0) (vE 1)) (187, [(0, 2), (1, 0)]) B C := fs_put (fe_aloadn 0 rfl dX12_go_182) (fe_iloadn 1 rfl dX12_go_183) fp_RX12_123 lm_0 rfl dX12_go_184 rfl
set_option maxRecDepth 20000 in
theorem t_M_go_15 {B C : Nat × FT} : fw_S s_M_go [(0, 2), (1, 0)] 187 (poS 5 addI (cE 0) (cE 1)) (197, [(0, 2), (1, 0)]) B C := fs_po_add (fe_aloadn 0 rfl dX12_go_187) dX12_go_188 dX12_go_189 (fe_iconst dX12_go_192) dX12_go_193 fp_RX12_104 lm_0 rfl dX12_go_194 rfl
set_option maxRecDepth 20000 in
theorem t_M_go_16 {N B C : Nat × FT} : fw_S s_M_go [(0, 2), (1, 0)] 197 rvS N B C := fs_rv dX12_go_197
set_option maxRecDepth 20000 in
theorem t_M_go_17 {B C : Nat × FT} : fw_S s_M_go [(0, 2), (1, 0)] 198 (stS 2 (clE m_M_isLetter [(vE 1)])) (203, [(0, 2), (1, 0), (2, 0)]) B C := fs_istn (fe_callS (fa_cons (fe_iloadn 1 rfl dX12_go_198) fa_nil) C_M_isLetter ls_RX12_116 rfl (by decide) (by decide) (by decide) dX12_go_199) dX12_go_202 (by decide) rfl
set_option maxRecDepth 20000 in
theorem t_M_go_18 {B C : Nat × FT} : fw_S s_M_go [(0, 2), (1, 0), (2, 0)] 203 (stS 3 (cE 1)) (205, [(0, 2), (1, 0), (2, 0), (3, 0)]) B C := fs_istn (fe_iconst dX12_go_203) dX12_go_204 (by decide) rfl
set_option maxRecDepth 20000 in
theorem t_M_go_19 {B C : Nat × FT} : fw_S s_M_go [(0, 2), (1, 0), (2, 0), (3, 0)] 205 (pfS 12 (cE 0) (cE 0)) (210, [(0, 2), (1, 0), (2, 0), (3, 0)]) B C := fs_putL (fe_aloadn 0 rfl dX12_go_205) (fe_lconst dX12_go_206) fp_RX12_126 lm_0 rfl dX12_go_207 rfl
set_option maxRecDepth 20000 in
theorem t_M_go_20 {B C : Nat × FT} : fw_S s_M_go [(0, 2), (1, 0), (2, 0), (3, 0)] 210 (pfS 8 (cE 0) (cE 0)) (215, [(0, 2), (1, 0), (2, 0), (3, 0)]) B C := fs_put (fe_aloadn 0 rfl dX12_go_210) (fe_iconst dX12_go_211) fp_RX12_130 lm_0 rfl dX12_go_212 rfl
set_option maxRecDepth 20000 in
theorem t_M_go_21 : fw_B s_M_go [(0, 2), (1, 0), (2, 0), (3, 0)] 0 215 243 350 (orB (zB 1 (clE m_M_isLetter [(clE m_M_byteAt [(cE 0), (thE (cE 0) (gE 5))])])) (nB (zB 0 (clE m_M_isDigit [(clE m_M_byteAt [(cE 0), (thE (cE 0) (gE 5))])])))) := (fb_or (fb_if_ne (fe_callS (fa_cons (fe_callV (fa_cons (fe_aloadn 0 rfl dX12_go_215) (fa_cons (fe_getI (fe_aloadn 0 rfl dX12_go_216) fl_RX12_104 lm_0 rfl dX12_go_217) fa_nil)) C_M_byteAt lv_RX12_133 lm_0 rfl rfl (by decide) (by decide) (by decide) dX12_go_220) fa_nil) C_M_isLetter ls_RX12_116 rfl (by decide) (by decide) (by decide) dX12_go_223) dX12_go_226 rfl) (fb_not (fb_if_eq (fe_callS (fa_cons (fe_callV (fa_cons (fe_aloadn 0 rfl dX12_go_229) (fa_cons (fe_getI (fe_aloadn 0 rfl dX12_go_230) fl_RX12_104 lm_0 rfl dX12_go_231) fa_nil)) C_M_byteAt lv_RX12_133 lm_0 rfl rfl (by decide) (by decide) (by decide) dX12_go_234) fa_nil) C_M_isDigit ls_RX12_120 rfl (by decide) (by decide) (by decide) dX12_go_237) dX12_go_240 rfl)))
set_option maxRecDepth 20000 in
theorem t_M_go_22 {B C : Nat × FT} : fw_S s_M_go [(0, 2), (1, 0), (2, 0), (3, 0)] 243 (stS 4 (ldE 64 940 (thE (cE 0) (cE 0)) (thE (cE 0) (gE 5)))) (254, [(0, 2), (1, 0), (2, 0), (3, 0), (4, 0)]) B C := fs_ist (fe_iald (fe_getR (fe_aloadn 0 rfl dX12_go_243) fl_RX12_7 lm_0 rfl dX12_go_244) (fe_getI (fe_aloadn 0 rfl dX12_go_247) fl_RX12_104 lm_0 rfl dX12_go_248) lm_1 dX12_go_251) dX12_go_252 (by decide) rfl
set_option maxRecDepth 20000 in
theorem t_M_go_23 {B C : Nat × FT} : fw_S s_M_go [(0, 2), (1, 0), (2, 0), (3, 0), (4, 0)] 254 (stS 3 (kE (andB (nB (zB 0 (vE 3))) (nB (cB 1 (clE m_M_isLetter [(vE 4)]) (vE 2)))) (cE 1) (cE 0))) (273, [(0, 2), (1, 0), (2, 0), (3, 0), (4, 0)]) B C := fs_istn (fe_ternG (fb_and (fb_not (fb_if_eq (fe_iloadn 3 rfl dX12_go_254) dX12_go_255 rfl)) (fb_not (fb_icmp_ne (fe_callS (fa_cons (fe_iload 4 rfl dX12_go_258) fa_nil) C_M_isLetter ls_RX12_116 rfl (by decide) (by decide) (by decide) dX12_go_260) (fe_iloadn 2 rfl dX12_go_263) dX12_go_264 rfl))) (fe_gt (fe_iconst dX12_go_267) dX12_go_268 rfl) (fe_iconst dX12_go_271)) dX12_go_272 (by decide) rfl
set_option maxRecDepth 20000 in
theorem t_M_go_24 : fw_B s_M_go [(0, 2), (1, 0), (2, 0), (3, 0), (4, 0)] 0 273 287 307 (nB (cB 3 (o2 subI (thE (cE 0) (gE 5)) (thE (cE 0) (gE 6))) (cE 6))) := (fb_not (fb_icmp_ge (fe_isub (fe_getI (fe_aloadn 0 rfl dX12_go_273) fl_RX12_104 lm_0 rfl dX12_go_274) (fe_getI (fe_aloadn 0 rfl dX12_go_277) fl_RX12_107 lm_0 rfl dX12_go_278) dX12_go_281) (fe_bipush dX12_go_282) dX12_go_284 rfl))
set_option maxRecDepth 20000 in
theorem t_M_go_25 {B C : Nat × FT} : fw_S s_M_go [(0, 2), (1, 0), (2, 0), (3, 0), (4, 0)] 287 (pfS 12 (cE 0) (o2 subI (o2 addI (o2 mulI (cE 27) (thE (cE 0) (gE 12))) (o1 i2lI (vE 4))) (cE 96))) (307, [(0, 2), (1, 0), (2, 0), (3, 0), (4, 0)]) B C := fs_putL (fe_aloadn 0 rfl dX12_go_287) (fe_lsub (fe_ladd (fe_lmul (fe_ldc2 dX12_go_288 wk_RX12_137) (fe_getL (fe_aloadn 0 rfl dX12_go_291) fl_RX12_126 lm_0 rfl dX12_go_292) dX12_go_295) (fe_i2l (fe_iload 4 rfl dX12_go_296) dX12_go_298) dX12_go_299) (fe_ldc2 dX12_go_300 wk_RX12_139) dX12_go_303) fp_RX12_126 lm_0 rfl dX12_go_304 rfl
set_option maxRecDepth 20000 in
theorem t_M_go_26 : fw_B s_M_go [(0, 2), (1, 0), (2, 0), (3, 0), (4, 0)] 0 307 320 337 (nB (cB 3 (o2 subI (thE (cE 0) (gE 5)) (thE (cE 0) (gE 6))) (cE 4))) := (fb_not (fb_icmp_ge (fe_isub (fe_getI (fe_aloadn 0 rfl dX12_go_307) fl_RX12_104 lm_0 rfl dX12_go_308) (fe_getI (fe_aloadn 0 rfl dX12_go_311) fl_RX12_107 lm_0 rfl dX12_go_312) dX12_go_315) (fe_iconst dX12_go_316) dX12_go_317 rfl))
set_option maxRecDepth 20000 in
theorem t_M_go_27 {B C : Nat × FT} : fw_S s_M_go [(0, 2), (1, 0), (2, 0), (3, 0), (4, 0)] 320 (pfS 8 (cE 0) (o2 subI (o2 addI (o2 mulI (cE 10) (thE (cE 0) (gE 8))) (vE 4)) (cE 48))) (337, [(0, 2), (1, 0), (2, 0), (3, 0), (4, 0)]) B C := fs_put (fe_aloadn 0 rfl dX12_go_320) (fe_isub (fe_iadd (fe_imul (fe_bipush dX12_go_321) (fe_getI (fe_aloadn 0 rfl dX12_go_323) fl_RX12_130 lm_0 rfl dX12_go_324) dX12_go_327) (fe_iload 4 rfl dX12_go_328) dX12_go_330) (fe_bipush dX12_go_331) dX12_go_333) fp_RX12_130 lm_0 rfl dX12_go_334 rfl
set_option maxRecDepth 20000 in
theorem t_M_go_28 {B C : Nat × FT} : fw_S s_M_go [(0, 2), (1, 0), (2, 0), (3, 0), (4, 0)] 337 (poS 5 addI (cE 0) (cE 1)) (347, [(0, 2), (1, 0), (2, 0), (3, 0)]) B C := fs_po_add (fe_aloadn 0 rfl dX12_go_337) dX12_go_338 dX12_go_339 (fe_iconst dX12_go_342) dX12_go_343 fp_RX12_104 lm_0 rfl dX12_go_344 rfl
set_option maxRecDepth 20000 in
theorem t_M_go_29 {B C : Nat × FT} : fw_S s_M_go [(0, 2), (1, 0), (2, 0), (3, 0)] 215 (whS (orB (zB 1 (clE m_M_isLetter [(clE m_M_byteAt [(cE 0), (thE (cE 0) (gE 5))])])) (nB (zB 0 (clE m_M_isDigit [(clE m_M_byteAt [(cE 0), (thE (cE 0) (gE 5))])])))) (sq (stS 4 (ldE 64 940 (thE (cE 0) (cE 0)) (thE (cE 0) (gE 5)))) (sq (stS 3 (kE (andB (nB (zB 0 (vE 3))) (nB (cB 1 (clE m_M_isLetter [(vE 4)]) (vE 2)))) (cE 1) (cE 0))) (sq (ifS (nB (cB 3 (o2 subI (thE (cE 0) (gE 5)) (thE (cE 0) (gE 6))) (cE 6))) (pfS 12 (cE 0) (o2 subI (o2 addI (o2 mulI (cE 27) (thE (cE 0) (gE 12))) (o1 i2lI (vE 4))) (cE 96))) skS) (sq (ifS (nB (cB 3 (o2 subI (thE (cE 0) (gE 5)) (thE (cE 0) (gE 6))) (cE 4))) (pfS 8 (cE 0) (o2 subI (o2 addI (o2 mulI (cE 10) (thE (cE 0) (gE 8))) (vE 4)) (cE 48))) skS) (poS 5 addI (cE 0) (cE 1)))))) skS FU) (350, [(0, 2), (1, 0), (2, 0), (3, 0)]) B C := fs_while t_M_go_21 (fs_goto (fs_seq t_M_go_22 (fs_seq t_M_go_23 (fs_seq (fs_if t_M_go_24 t_M_go_25 (fs_skip rfl)) (fs_seq (fs_if t_M_go_26 t_M_go_27 (fs_skip rfl)) t_M_go_28)))) dX12_go_347 rfl) (fs_skip rfl)
set_option maxRecDepth 20000 in
theorem t_M_go_30 {B C : Nat × FT} : fw_S s_M_go [(0, 2), (1, 0), (2, 0), (3, 0)] 350 (pfS 7 (cE 0) (kE (orB (zB 0 (vE 3)) (nB (cB 5 (o2 subI (thE (cE 0) (gE 5)) (thE (cE 0) (gE 6))) (kE (nB (zB 0 (vE 2))) (cE 6) (cE 4))))) (cE 1) (kE (nB (zB 0 (vE 2))) (cE 2) (cE 3)))) (393, [(0, 2), (1, 0), (2, 0), (3, 0)]) B C := fs_put (fe_aloadn 0 rfl dX12_go_350) (fe_ternG (fb_or (fb_if_eq (fe_iloadn 3 rfl dX12_go_351) dX12_go_352 rfl) (fb_not (fb_icmp_le (fe_isub (fe_getI (fe_aloadn 0 rfl dX12_go_355) fl_RX12_104 lm_0 rfl dX12_go_356) (fe_getI (fe_aloadn 0 rfl dX12_go_359) fl_RX12_107 lm_0 rfl dX12_go_360) dX12_go_363) (fe_ternG (fb_not (fb_if_eq (fe_iloadn 2 rfl dX12_go_364) dX12_go_365 rfl)) (fe_gt (fe_bipush dX12_go_368) dX12_go_370 rfl) (fe_iconst dX12_go_373)) dX12_go_374 rfl))) (fe_gt (fe_iconst dX12_go_377) dX12_go_378 rfl) (fe_ternG (fb_not (fb_if_eq (fe_iloadn 2 rfl dX12_go_381) dX12_go_382 rfl)) (fe_gt (fe_iconst dX12_go_385) dX12_go_386 rfl) (fe_iconst dX12_go_389))) fp_RX12_113 lm_0 rfl dX12_go_390 rfl
set_option maxRecDepth 20000 in
theorem t_M_go_31 {N B C : Nat × FT} : fw_S s_M_go [(0, 2), (1, 0), (2, 0), (3, 0)] 393 rvS N B C := fs_rv dX12_go_393
set_option maxRecDepth 20000 in
theorem C_M_go : fw_C LM yX12_go cX12_go 5 none 2 [2] (none) m_M_go := fm_v (d := 2) (N := (0, [])) (B := (0, [])) (C := (0, [])) LM_ok (by decide +kernel) (show fw_S s_M_go _ 0 b_M_go _ _ _ from (fs_seq t_M_go_2 (fs_seq t_M_go_3 (fs_seq (fs_if t_M_go_4 (fs_seq t_M_go_5 (fs_seq t_M_go_6 t_M_go_7)) (fs_skip rfl)) (fs_seq (fs_if t_M_go_8 (fs_seq t_M_go_9 t_M_go_10) (fs_skip rfl)) (fs_seq t_M_go_11 (fs_seq (fs_if t_M_go_12 (fs_seq t_M_go_13 (fs_seq t_M_go_14 (fs_seq t_M_go_15 t_M_go_16))) (fs_skip rfl)) (fs_seq t_M_go_17 (fs_seq t_M_go_18 (fs_seq t_M_go_19 (fs_seq t_M_go_20 (fs_seq t_M_go_29 (fs_seq t_M_go_30 t_M_go_31))))))))))))) (by decide)
/-! DyerBellsModel.begin (this 0 ) -/
abbrev s_M_begin : SI := (LM, RX12, cX12_begin, 2, 3, none)
def b_M_begin : SM := (sq (pfS 0 (cE 0) (cE 0)) (sq (exS (clE m_M_lay [(cE 0)])) (sq (pfS 3 (cE 0) (clE m_M_take [(cE 0)])) (sq (pfS 4 (cE 0) (vE 1)) (sq (pfS 10 (cE 0) (cE 0)) (sq (pfS 5 (cE 0) (cE 0)) (sq (exS (clE m_M_go [(cE 0)])) rvS)))))))
def m_M_begin : FM := mthF [0, 1] b_M_begin
set_option maxRecDepth 20000 in
theorem t_M_begin_0 {B C : Nat × FT} : fw_S s_M_begin [(0, 2), (1, 0)] 0 (pfS 0 (cE 0) (cE 0)) (5, [(0, 2), (1, 0)]) B C := fs_put (fe_aloadn 0 rfl dX12_begin_0) (fe_iconst dX12_begin_1) fp_RX12_91 lm_0 rfl dX12_begin_2 rfl
set_option maxRecDepth 20000 in
theorem t_M_begin_1 {B C : Nat × FT} : fw_S s_M_begin [(0, 2), (1, 0)] 5 (exS (clE m_M_lay [(cE 0)])) (9, [(0, 2), (1, 0)]) B C := fs_callV (t := 0) (fa_cons (fe_aloadn 0 rfl dX12_begin_5) fa_nil) C_M_lay lv_RX12_175 lm_0 rfl rfl (by decide) (by decide) dX12_begin_6 rfl
set_option maxRecDepth 20000 in
theorem t_M_begin_2 {B C : Nat × FT} : fw_S s_M_begin [(0, 2), (1, 0)] 9 (pfS 3 (cE 0) (clE m_M_take [(cE 0)])) (17, [(0, 2), (1, 0)]) B C := fs_put (fe_aloadn 0 rfl dX12_begin_9) (fe_callV (fa_cons (fe_aloadn 0 rfl dX12_begin_10) fa_nil) C_M_take lv_RX12_178 lm_0 rfl rfl (by decide) (by decide) (by decide) dX12_begin_11) fp_RX12_101 lm_0 rfl dX12_begin_14 rfl
set_option maxRecDepth 20000 in
theorem t_M_begin_3 {B C : Nat × FT} : fw_S s_M_begin [(0, 2), (1, 0)] 17 (pfS 4 (cE 0) (vE 1)) (22, [(0, 2), (1, 0)]) B C := fs_put (fe_aloadn 0 rfl dX12_begin_17) (fe_iloadn 1 rfl dX12_begin_18) fp_RX12_110 lm_0 rfl dX12_begin_19 rfl
set_option maxRecDepth 20000 in
theorem t_M_begin_4 {B C : Nat × FT} : fw_S s_M_begin [(0, 2), (1, 0)] 22 (pfS 10 (cE 0) (cE 0)) (27, [(0, 2), (1, 0)]) B C := fs_put (fe_aloadn 0 rfl dX12_begin_22) (fe_iconst dX12_begin_23) fp_RX12_153 lm_0 rfl dX12_begin_24 rfl
set_option maxRecDepth 20000 in
theorem t_M_begin_5 {B C : Nat × FT} : fw_S s_M_begin [(0, 2), (1, 0)] 27 (pfS 5 (cE 0) (cE 0)) (32, [(0, 2), (1, 0)]) B C := fs_put (fe_aloadn 0 rfl dX12_begin_27) (fe_iconst dX12_begin_28) fp_RX12_104 lm_0 rfl dX12_begin_29 rfl
set_option maxRecDepth 20000 in
theorem t_M_begin_6 {B C : Nat × FT} : fw_S s_M_begin [(0, 2), (1, 0)] 32 (exS (clE m_M_go [(cE 0)])) (36, [(0, 2), (1, 0)]) B C := fs_callV (t := 0) (fa_cons (fe_aloadn 0 rfl dX12_begin_32) fa_nil) C_M_go lv_RX12_169 lm_0 rfl rfl (by decide) (by decide) dX12_begin_33 rfl
set_option maxRecDepth 20000 in
theorem t_M_begin_7 {N B C : Nat × FT} : fw_S s_M_begin [(0, 2), (1, 0)] 36 rvS N B C := fs_rv dX12_begin_36
set_option maxRecDepth 20000 in
theorem C_M_begin : fw_C LM yX12_begin cX12_begin 2 none 3 [2, 0] (none) m_M_begin := fm_v (d := 3) (N := (0, [])) (B := (0, [])) (C := (0, [])) LM_ok (by decide +kernel) (show fw_S s_M_begin _ 0 b_M_begin _ _ _ from (fs_seq t_M_begin_0 (fs_seq t_M_begin_1 (fs_seq t_M_begin_2 (fs_seq t_M_begin_3 (fs_seq t_M_begin_4 (fs_seq t_M_begin_5 (fs_seq t_M_begin_6 t_M_begin_7)))))))) (by decide)
/-! DyerBellsModel.standard -/
abbrev s_M_standard_2 : SI := (LM, RX12, cX12_standard, 2, 1, none)
def b_M_standard_2 : SM := (sq (sq (stS 1 (cE 0)) (whS (nB (cB 3 (vE 1) (cE 160))) (asS 192 160 idI (cE 0) (vE 1) (cE 0)) (inS 1 1) FU)) (sq (asS 192 160 idI (cE 0) (cE 5) (cE 9999)) (sq (sq (stS 1 (cE 0)) (whS (nB (cB 3 (vE 1) (cE 7))) (asS 192 160 idI (cE 0) (o2 addI (cE 110) (vE 1)) (cE 100)) (inS 1 1) FU)) rvS)))
def m_M_standard_2 : FM := mthF [0] b_M_standard_2
set_option maxRecDepth 20000 in
theorem t_M_standard_2_0 {B C : Nat × FT} : fw_S s_M_standard_2 [(0, 5)] 0 (stS 1 (cE 0)) (2, [(0, 5), (1, 0)]) B C := fs_istn (fe_iconst dX12_standard_0) dX12_standard_1 (by decide) rfl
set_option maxRecDepth 20000 in
theorem t_M_standard_2_1 : fw_B s_M_standard_2 [(0, 5), (1, 0)] 0 2 9 19 (nB (cB 3 (vE 1) (cE 160))) := (fb_not (fb_icmp_ge (fe_iloadn 1 rfl dX12_standard_2) (fe_sipush dX12_standard_3) dX12_standard_6 rfl))
set_option maxRecDepth 20000 in
theorem t_M_standard_2_2 {B C : Nat × FT} : fw_S s_M_standard_2 [(0, 5), (1, 0)] 9 (asS 192 160 idI (cE 0) (vE 1) (cE 0)) (13, [(0, 5), (1, 0)]) B C := fs_iast (fe_aloadn 0 rfl dX12_standard_9) (fe_iloadn 1 rfl dX12_standard_10) (fe_iconst dX12_standard_11) lm_3 dX12_standard_12 rfl
set_option maxRecDepth 20000 in
theorem t_M_standard_2_3 {B C : Nat × FT} : fw_S s_M_standard_2 [(0, 5), (1, 0)] 13 (inS 1 1) (16, [(0, 5), (1, 0)]) B C := fs_inc (j := 1) rfl dX12_standard_13 (by decide) rfl
set_option maxRecDepth 20000 in
theorem t_M_standard_2_4 {B C : Nat × FT} : fw_S s_M_standard_2 [(0, 5), (1, 0)] 2 (whS (nB (cB 3 (vE 1) (cE 160))) (asS 192 160 idI (cE 0) (vE 1) (cE 0)) (inS 1 1) FU) (19, [(0, 5), (1, 0)]) B C := fs_while t_M_standard_2_1 t_M_standard_2_2 (fs_goto t_M_standard_2_3 dX12_standard_16 rfl)
set_option maxRecDepth 20000 in
theorem t_M_standard_2_5 {B C : Nat × FT} : fw_S s_M_standard_2 [(0, 5)] 19 (asS 192 160 idI (cE 0) (cE 5) (cE 9999)) (25, [(0, 5)]) B C := fs_iast (fe_aloadn 0 rfl dX12_standard_19) (fe_iconst dX12_standard_20) (fe_sipush dX12_standard_21) lm_3 dX12_standard_24 rfl
set_option maxRecDepth 20000 in
theorem t_M_standard_2_6 {B C : Nat × FT} : fw_S s_M_standard_2 [(0, 5)] 25 (stS 1 (cE 0)) (27, [(0, 5), (1, 0)]) B C := fs_istn (fe_iconst dX12_standard_25) dX12_standard_26 (by decide) rfl
set_option maxRecDepth 20000 in
theorem t_M_standard_2_7 : fw_B s_M_standard_2 [(0, 5), (1, 0)] 0 27 33 47 (nB (cB 3 (vE 1) (cE 7))) := (fb_not (fb_icmp_ge (fe_iloadn 1 rfl dX12_standard_27) (fe_bipush dX12_standard_28) dX12_standard_30 rfl))
set_option maxRecDepth 20000 in
theorem t_M_standard_2_8 {B C : Nat × FT} : fw_S s_M_standard_2 [(0, 5), (1, 0)] 33 (asS 192 160 idI (cE 0) (o2 addI (cE 110) (vE 1)) (cE 100)) (41, [(0, 5), (1, 0)]) B C := fs_iast (fe_aloadn 0 rfl dX12_standard_33) (fe_iadd (fe_bipush dX12_standard_34) (fe_iloadn 1 rfl dX12_standard_36) dX12_standard_37) (fe_bipush dX12_standard_38) lm_3 dX12_standard_40 rfl
set_option maxRecDepth 20000 in
theorem t_M_standard_2_9 {B C : Nat × FT} : fw_S s_M_standard_2 [(0, 5), (1, 0)] 41 (inS 1 1) (44, [(0, 5), (1, 0)]) B C := fs_inc (j := 1) rfl dX12_standard_41 (by decide) rfl
set_option maxRecDepth 20000 in
theorem t_M_standard_2_10 {B C : Nat × FT} : fw_S s_M_standard_2 [(0, 5), (1, 0)] 27 (whS (nB (cB 3 (vE 1) (cE 7))) (asS 192 160 idI (cE 0) (o2 addI (cE 110) (vE 1)) (cE 100)) (inS 1 1) FU) (47, [(0, 5), (1, 0)]) B C := fs_while t_M_standard_2_7 t_M_standard_2_8 (fs_goto t_M_standard_2_9 dX12_standard_44 rfl)
set_option maxRecDepth 20000 in
theorem t_M_standard_2_11 {N B C : Nat × FT} : fw_S s_M_standard_2 [(0, 5)] 47 rvS N B C := fs_rv dX12_standard_47
set_option maxRecDepth 20000 in
theorem C_M_standard_2 : fw_C LM yX12_standard cX12_standard 2 none 1 [5] (none) m_M_standard_2 := fm_v (d := 1) (N := (0, [])) (B := (0, [])) (C := (0, [])) LM_ok (by decide +kernel) (show fw_S s_M_standard_2 _ 0 b_M_standard_2 _ _ _ from (fs_seq (fs_seq t_M_standard_2_0 (fs_weak t_M_standard_2_4 rfl)) (fs_seq t_M_standard_2_5 (fs_seq (fs_seq t_M_standard_2_6 (fs_weak t_M_standard_2_10 rfl)) t_M_standard_2_11)))) (by decide)
/-! DyerBellsModel.spelt -/
abbrev s_M_spelt : SI := (LM, RX12, cX12_spelt, 6, 1, some 1)
def b_M_spelt : SM := (sq (stS 4 (o2 subI (o2 addI (o2 mulI (cE 27) (o2 subI (o1 i2lI (vE 0)) (cE 96))) (o1 i2lI (vE 1))) (cE 96))) (sq (ifS (nB (zB 5 (vE 2))) (stS 4 (o2 subI (o2 addI (o2 mulI (cE 27) (vE 4)) (o1 i2lI (vE 2))) (cE 96))) skS) (rtS (kE (nB (zB 5 (vE 3))) (o2 subI (o2 addI (o2 mulI (cE 27) (vE 4)) (o1 i2lI (vE 3))) (cE 96)) (vE 4)))))
def m_M_spelt : FM := mthF [0, 1, 2, 3] b_M_spelt
set_option maxRecDepth 20000 in
theorem t_M_spelt_0 {B C : Nat × FT} : fw_S s_M_spelt [(0, 0), (1, 0), (2, 0), (3, 0)] 0 (stS 4 (o2 subI (o2 addI (o2 mulI (cE 27) (o2 subI (o1 i2lI (vE 0)) (cE 96))) (o1 i2lI (vE 1))) (cE 96))) (19, [(0, 0), (1, 0), (2, 0), (3, 0), (4, 1)]) B C := fs_lst (fe_lsub (fe_ladd (fe_lmul (fe_ldc2 dX12_spelt_0 wk_RX12_137) (fe_lsub (fe_i2l (fe_iloadn 0 rfl dX12_spelt_3) dX12_spelt_4) (fe_ldc2 dX12_spelt_5 wk_RX12_139) dX12_spelt_8) dX12_spelt_9) (fe_i2l (fe_iloadn 1 rfl dX12_spelt_10) dX12_spelt_11) dX12_spelt_12) (fe_ldc2 dX12_spelt_13 wk_RX12_139) dX12_spelt_16) dX12_spelt_17 (by decide) rfl
set_option maxRecDepth 20000 in
theorem t_M_spelt_1 : fw_B s_M_spelt [(0, 0), (1, 0), (2, 0), (3, 0), (4, 1)] 0 19 23 38 (nB (zB 5 (vE 2))) := (fb_not (fb_if_le (fe_iloadn 2 rfl dX12_spelt_19) dX12_spelt_20 rfl))
set_option maxRecDepth 20000 in
theorem t_M_spelt_2 {B C : Nat × FT} : fw_S s_M_spelt [(0, 0), (1, 0), (2, 0), (3, 0), (4, 1)] 23 (stS 4 (o2 subI (o2 addI (o2 mulI (cE 27) (vE 4)) (o1 i2lI (vE 2))) (cE 96))) (38, [(0, 0), (1, 0), (2, 0), (3, 0), (4, 1)]) B C := fs_lst (fe_lsub (fe_ladd (fe_lmul (fe_ldc2 dX12_spelt_23 wk_RX12_137) (fe_lload 4 rfl dX12_spelt_26) dX12_spelt_28) (fe_i2l (fe_iloadn 2 rfl dX12_spelt_29) dX12_spelt_30) dX12_spelt_31) (fe_ldc2 dX12_spelt_32 wk_RX12_139) dX12_spelt_35) dX12_spelt_36 (by decide) rfl
set_option maxRecDepth 20000 in
theorem t_M_spelt_3 {N B C : Nat × FT} : fw_S s_M_spelt [(0, 0), (1, 0), (2, 0), (3, 0), (4, 1)] 38 (rtS (kE (nB (zB 5 (vE 3))) (o2 subI (o2 addI (o2 mulI (cE 27) (vE 4)) (o1 i2lI (vE 3))) (cE 96)) (vE 4))) N B C := fs_ret (fe_ternG (fb_not (fb_if_le (fe_iloadn 3 rfl dX12_spelt_38) dX12_spelt_39 rfl)) (fe_gt (fe_lsub (fe_ladd (fe_lmul (fe_ldc2 dX12_spelt_42 wk_RX12_137) (fe_lload 4 rfl dX12_spelt_45) dX12_spelt_47) (fe_i2l (fe_iloadn 3 rfl dX12_spelt_48) dX12_spelt_49) dX12_spelt_50) (fe_ldc2 dX12_spelt_51 wk_RX12_139) dX12_spelt_54) dX12_spelt_55 rfl) (fe_lload 4 rfl dX12_spelt_58)) dX12_spelt_60
set_option maxRecDepth 20000 in
theorem C_M_spelt : fw_C LM yX12_spelt cX12_spelt 6 (some .long) 1 [0, 0, 0, 0] (some 1) m_M_spelt := fm_l (d := 1) (N := (0, [])) (B := (0, [])) (C := (0, [])) LM_ok (by decide +kernel) (show fw_S s_M_spelt _ 0 b_M_spelt _ _ _ from (fs_seq t_M_spelt_0 (fs_seq (fs_if t_M_spelt_1 t_M_spelt_2 (fs_skip rfl)) t_M_spelt_3))) (by decide)
/-! DyerBellsModel.on -/
abbrev s_M_on : SI := (LM, RX12, cX12_on, 6, 1, some 1)
def b_M_on : SM := (sq (stS 4 (o2 subI (o2 addI (o2 mulI (cE 27) (vE 0)) (o1 i2lI (vE 2))) (cE 96))) (rtS (kE (nB (zB 5 (vE 3))) (o2 subI (o2 addI (o2 mulI (cE 27) (vE 4)) (o1 i2lI (vE 3))) (cE 96)) (vE 4))))
def m_M_on : FM := mthF [0, 2, 3] b_M_on
set_option maxRecDepth 20000 in
theorem t_M_on_0 {B C : Nat × FT} : fw_S s_M_on [(0, 1), (2, 0), (3, 0)] 0 (stS 4 (o2 subI (o2 addI (o2 mulI (cE 27) (vE 0)) (o1 i2lI (vE 2))) (cE 96))) (14, [(0, 1), (2, 0), (3, 0), (4, 1)]) B C := fs_lst (fe_lsub (fe_ladd (fe_lmul (fe_ldc2 dX12_on_0 wk_RX12_137) (fe_lloadn 0 rfl dX12_on_3) dX12_on_4) (fe_i2l (fe_iloadn 1 rfl dX12_on_5) dX12_on_6) dX12_on_7) (fe_ldc2 dX12_on_8 wk_RX12_139) dX12_on_11) dX12_on_12 (by decide) rfl
set_option maxRecDepth 20000 in
theorem t_M_on_1 {N B C : Nat × FT} : fw_S s_M_on [(0, 1), (2, 0), (3, 0), (4, 1)] 14 (rtS (kE (nB (zB 5 (vE 3))) (o2 subI (o2 addI (o2 mulI (cE 27) (vE 4)) (o1 i2lI (vE 3))) (cE 96)) (vE 4))) N B C := fs_ret (fe_ternG (fb_not (fb_if_le (fe_iloadn 2 rfl dX12_on_14) dX12_on_15 rfl)) (fe_gt (fe_lsub (fe_ladd (fe_lmul (fe_ldc2 dX12_on_18 wk_RX12_137) (fe_lload 3 rfl dX12_on_21) dX12_on_23) (fe_i2l (fe_iloadn 2 rfl dX12_on_24) dX12_on_25) dX12_on_26) (fe_ldc2 dX12_on_27 wk_RX12_139) dX12_on_30) dX12_on_31 rfl) (fe_lload 3 rfl dX12_on_34)) dX12_on_36
set_option maxRecDepth 20000 in
theorem C_M_on : fw_C LM yX12_on cX12_on 6 (some .long) 1 [1, 0, 0] (some 1) m_M_on := fm_l (d := 1) (N := (0, [])) (B := (0, [])) (C := (0, [])) LM_ok (by decide +kernel) (show fw_S s_M_on _ 0 b_M_on _ _ _ from (fs_seq t_M_on_0 t_M_on_1)) (by decide)
/-! DyerBellsModel.wordOf -/
abbrev s_M_wordOf : SI := (LM, RX12, cX12_wordOf, 1, 2, some 1)
def b_M_wordOf : SM := (tsS (vE 0) 0 [(rtS (clE m_M_on [(clE m_M_spelt [(cE 114), (cE 101), (cE 97), (cE 99)]), (cE 104), (cE 0)])), (rtS (clE m_M_on [(clE m_M_spelt [(cE 99), (cE 111), (cE 108), (cE 111)]), (cE 117), (cE 114)])), (rtS (clE m_M_on [(clE m_M_spelt [(cE 103), (cE 117), (cE 105), (cE 108)]), (cE 100), (cE 0)])), (rtS (clE m_M_spelt [(cE 117), (cE 115), (cE 101), (cE 114)])), (rtS (clE m_M_spelt [(cE 102), (cE 108), (cE 111), (cE 119)])), (rtS (clE m_M_on [(clE m_M_spelt [(cE 102), (cE 108), (cE 111), (cE 111)]), (cE 100), (cE 0)])), (rtS (clE m_M_on [(clE m_M_spelt [(cE 112), (cE 101), (cE 98), (cE 98)]), (cE 108), (cE 101)])), (rtS (clE m_M_spelt [(cE 98), (cE 101), (cE 108), (cE 108)])), (rtS (clE m_M_spelt [(cE 111), (cE 114), (cE 0), (cE 0)])), (rtS (clE m_M_spelt [(cE 97), (cE 110), (cE 100), (cE 0)])), (rtS (clE m_M_spelt [(cE 110), (cE 111), (cE 116), (cE 0)])), (rtS (clE m_M_on [(clE m_M_spelt [(cE 119), (cE 111), (cE 114), (cE 107)]), (cE 115), (cE 0)])), (rtS (clE m_M_on [(clE m_M_spelt [(cE 104), (cE 97), (cE 114), (cE 109)]), (cE 101), (cE 100)])), (rtS (clE m_M_on [(clE m_M_spelt [(cE 115), (cE 104), (cE 97), (cE 100)]), (cE 101), (cE 0)])), (rtS (clE m_M_spelt [(cE 104), (cE 111), (cE 117), (cE 114)])), (rtS (clE m_M_spelt [(cE 100), (cE 97), (cE 121), (cE 0)]))] (rtS (clE m_M_on [(clE m_M_spelt [(cE 112), (cE 97), (cE 115), (cE 115)]), (cE 101), (cE 100)])))
def m_M_wordOf : FM := mthF [0] b_M_wordOf
set_option maxRecDepth 20000 in
theorem t_M_wordOf_0 {N B C : Nat × FT} : fw_S s_M_wordOf [(0, 0)] 80 (rtS (clE m_M_on [(clE m_M_spelt [(cE 114), (cE 101), (cE 97), (cE 99)]), (cE 104), (cE 0)])) N B C := fs_ret (fe_callS (fa_cons (fe_callS (fa_cons (fe_bipush dX12_wordOf_80) (fa_cons (fe_bipush dX12_wordOf_82) (fa_cons (fe_bipush dX12_wordOf_84) (fa_cons (fe_bipush dX12_wordOf_86) fa_nil)))) C_M_spelt ls_RX12_141 rfl (by decide) (by decide) (by decide) dX12_wordOf_88) (fa_cons (fe_bipush dX12_wordOf_91) (fa_cons (fe_iconst dX12_wordOf_93) fa_nil))) C_M_on ls_RX12_145 rfl (by decide) (by decide) (by decide) dX12_wordOf_94) dX12_wordOf_97
set_option maxRecDepth 20000 in
theorem t_M_wordOf_1 {N B C : Nat × FT} : fw_S s_M_wordOf [(0, 0)] 98 (rtS (clE m_M_on [(clE m_M_spelt [(cE 99), (cE 111), (cE 108), (cE 111)]), (cE 117), (cE 114)])) N B C := fs_ret (fe_callS (fa_cons (fe_callS (fa_cons (fe_bipush dX12_wordOf_98) (fa_cons (fe_bipush dX12_wordOf_100) (fa_cons (fe_bipush dX12_wordOf_102) (fa_cons (fe_bipush dX12_wordOf_104) fa_nil)))) C_M_spelt ls_RX12_141 rfl (by decide) (by decide) (by decide) dX12_wordOf_106) (fa_cons (fe_bipush dX12_wordOf_109) (fa_cons (fe_bipush dX12_wordOf_111) fa_nil))) C_M_on ls_RX12_145 rfl (by decide) (by decide) (by decide) dX12_wordOf_113) dX12_wordOf_116
set_option maxRecDepth 20000 in
theorem t_M_wordOf_2 {N B C : Nat × FT} : fw_S s_M_wordOf [(0, 0)] 117 (rtS (clE m_M_on [(clE m_M_spelt [(cE 103), (cE 117), (cE 105), (cE 108)]), (cE 100), (cE 0)])) N B C := fs_ret (fe_callS (fa_cons (fe_callS (fa_cons (fe_bipush dX12_wordOf_117) (fa_cons (fe_bipush dX12_wordOf_119) (fa_cons (fe_bipush dX12_wordOf_121) (fa_cons (fe_bipush dX12_wordOf_123) fa_nil)))) C_M_spelt ls_RX12_141 rfl (by decide) (by decide) (by decide) dX12_wordOf_125) (fa_cons (fe_bipush dX12_wordOf_128) (fa_cons (fe_iconst dX12_wordOf_130) fa_nil))) C_M_on ls_RX12_145 rfl (by decide) (by decide) (by decide) dX12_wordOf_131) dX12_wordOf_134
set_option maxRecDepth 20000 in
theorem t_M_wordOf_3 {N B C : Nat × FT} : fw_S s_M_wordOf [(0, 0)] 135 (rtS (clE m_M_spelt [(cE 117), (cE 115), (cE 101), (cE 114)])) N B C := fs_ret (fe_callS (fa_cons (fe_bipush dX12_wordOf_135) (fa_cons (fe_bipush dX12_wordOf_137) (fa_cons (fe_bipush dX12_wordOf_139) (fa_cons (fe_bipush dX12_wordOf_141) fa_nil)))) C_M_spelt ls_RX12_141 rfl (by decide) (by decide) (by decide) dX12_wordOf_143) dX12_wordOf_146
set_option maxRecDepth 20000 in
theorem t_M_wordOf_4 {N B C : Nat × FT} : fw_S s_M_wordOf [(0, 0)] 147 (rtS (clE m_M_spelt [(cE 102), (cE 108), (cE 111), (cE 119)])) N B C := fs_ret (fe_callS (fa_cons (fe_bipush dX12_wordOf_147) (fa_cons (fe_bipush dX12_wordOf_149) (fa_cons (fe_bipush dX12_wordOf_151) (fa_cons (fe_bipush dX12_wordOf_153) fa_nil)))) C_M_spelt ls_RX12_141 rfl (by decide) (by decide) (by decide) dX12_wordOf_155) dX12_wordOf_158
set_option maxRecDepth 20000 in
theorem t_M_wordOf_5 {N B C : Nat × FT} : fw_S s_M_wordOf [(0, 0)] 159 (rtS (clE m_M_on [(clE m_M_spelt [(cE 102), (cE 108), (cE 111), (cE 111)]), (cE 100), (cE 0)])) N B C := fs_ret (fe_callS (fa_cons (fe_callS (fa_cons (fe_bipush dX12_wordOf_159) (fa_cons (fe_bipush dX12_wordOf_161) (fa_cons (fe_bipush dX12_wordOf_163) (fa_cons (fe_bipush dX12_wordOf_165) fa_nil)))) C_M_spelt ls_RX12_141 rfl (by decide) (by decide) (by decide) dX12_wordOf_167) (fa_cons (fe_bipush dX12_wordOf_170) (fa_cons (fe_iconst dX12_wordOf_172) fa_nil))) C_M_on ls_RX12_145 rfl (by decide) (by decide) (by decide) dX12_wordOf_173) dX12_wordOf_176
set_option maxRecDepth 20000 in
theorem t_M_wordOf_6 {N B C : Nat × FT} : fw_S s_M_wordOf [(0, 0)] 177 (rtS (clE m_M_on [(clE m_M_spelt [(cE 112), (cE 101), (cE 98), (cE 98)]), (cE 108), (cE 101)])) N B C := fs_ret (fe_callS (fa_cons (fe_callS (fa_cons (fe_bipush dX12_wordOf_177) (fa_cons (fe_bipush dX12_wordOf_179) (fa_cons (fe_bipush dX12_wordOf_181) (fa_cons (fe_bipush dX12_wordOf_183) fa_nil)))) C_M_spelt ls_RX12_141 rfl (by decide) (by decide) (by decide) dX12_wordOf_185) (fa_cons (fe_bipush dX12_wordOf_188) (fa_cons (fe_bipush dX12_wordOf_190) fa_nil))) C_M_on ls_RX12_145 rfl (by decide) (by decide) (by decide) dX12_wordOf_192) dX12_wordOf_195
set_option maxRecDepth 20000 in
theorem t_M_wordOf_7 {N B C : Nat × FT} : fw_S s_M_wordOf [(0, 0)] 196 (rtS (clE m_M_spelt [(cE 98), (cE 101), (cE 108), (cE 108)])) N B C := fs_ret (fe_callS (fa_cons (fe_bipush dX12_wordOf_196) (fa_cons (fe_bipush dX12_wordOf_198) (fa_cons (fe_bipush dX12_wordOf_200) (fa_cons (fe_bipush dX12_wordOf_202) fa_nil)))) C_M_spelt ls_RX12_141 rfl (by decide) (by decide) (by decide) dX12_wordOf_204) dX12_wordOf_207
set_option maxRecDepth 20000 in
theorem t_M_wordOf_8 {N B C : Nat × FT} : fw_S s_M_wordOf [(0, 0)] 208 (rtS (clE m_M_spelt [(cE 111), (cE 114), (cE 0), (cE 0)])) N B C := fs_ret (fe_callS (fa_cons (fe_bipush dX12_wordOf_208) (fa_cons (fe_bipush dX12_wordOf_210) (fa_cons (fe_iconst dX12_wordOf_212) (fa_cons (fe_iconst dX12_wordOf_213) fa_nil)))) C_M_spelt ls_RX12_141 rfl (by decide) (by decide) (by decide) dX12_wordOf_214) dX12_wordOf_217
set_option maxRecDepth 20000 in
theorem t_M_wordOf_9 {N B C : Nat × FT} : fw_S s_M_wordOf [(0, 0)] 218 (rtS (clE m_M_spelt [(cE 97), (cE 110), (cE 100), (cE 0)])) N B C := fs_ret (fe_callS (fa_cons (fe_bipush dX12_wordOf_218) (fa_cons (fe_bipush dX12_wordOf_220) (fa_cons (fe_bipush dX12_wordOf_222) (fa_cons (fe_iconst dX12_wordOf_224) fa_nil)))) C_M_spelt ls_RX12_141 rfl (by decide) (by decide) (by decide) dX12_wordOf_225) dX12_wordOf_228
set_option maxRecDepth 20000 in
theorem t_M_wordOf_10 {N B C : Nat × FT} : fw_S s_M_wordOf [(0, 0)] 229 (rtS (clE m_M_spelt [(cE 110), (cE 111), (cE 116), (cE 0)])) N B C := fs_ret (fe_callS (fa_cons (fe_bipush dX12_wordOf_229) (fa_cons (fe_bipush dX12_wordOf_231) (fa_cons (fe_bipush dX12_wordOf_233) (fa_cons (fe_iconst dX12_wordOf_235) fa_nil)))) C_M_spelt ls_RX12_141 rfl (by decide) (by decide) (by decide) dX12_wordOf_236) dX12_wordOf_239
set_option maxRecDepth 20000 in
theorem t_M_wordOf_11 {N B C : Nat × FT} : fw_S s_M_wordOf [(0, 0)] 240 (rtS (clE m_M_on [(clE m_M_spelt [(cE 119), (cE 111), (cE 114), (cE 107)]), (cE 115), (cE 0)])) N B C := fs_ret (fe_callS (fa_cons (fe_callS (fa_cons (fe_bipush dX12_wordOf_240) (fa_cons (fe_bipush dX12_wordOf_242) (fa_cons (fe_bipush dX12_wordOf_244) (fa_cons (fe_bipush dX12_wordOf_246) fa_nil)))) C_M_spelt ls_RX12_141 rfl (by decide) (by decide) (by decide) dX12_wordOf_248) (fa_cons (fe_bipush dX12_wordOf_251) (fa_cons (fe_iconst dX12_wordOf_253) fa_nil))) C_M_on ls_RX12_145 rfl (by decide) (by decide) (by decide) dX12_wordOf_254) dX12_wordOf_257
set_option maxRecDepth 20000 in
theorem t_M_wordOf_12 {N B C : Nat × FT} : fw_S s_M_wordOf [(0, 0)] 258 (rtS (clE m_M_on [(clE m_M_spelt [(cE 104), (cE 97), (cE 114), (cE 109)]), (cE 101), (cE 100)])) N B C := fs_ret (fe_callS (fa_cons (fe_callS (fa_cons (fe_bipush dX12_wordOf_258) (fa_cons (fe_bipush dX12_wordOf_260) (fa_cons (fe_bipush dX12_wordOf_262) (fa_cons (fe_bipush dX12_wordOf_264) fa_nil)))) C_M_spelt ls_RX12_141 rfl (by decide) (by decide) (by decide) dX12_wordOf_266) (fa_cons (fe_bipush dX12_wordOf_269) (fa_cons (fe_bipush dX12_wordOf_271) fa_nil))) C_M_on ls_RX12_145 rfl (by decide) (by decide) (by decide) dX12_wordOf_273) dX12_wordOf_276
set_option maxRecDepth 20000 in
theorem t_M_wordOf_13 {N B C : Nat × FT} : fw_S s_M_wordOf [(0, 0)] 277 (rtS (clE m_M_on [(clE m_M_spelt [(cE 115), (cE 104), (cE 97), (cE 100)]), (cE 101), (cE 0)])) N B C := fs_ret (fe_callS (fa_cons (fe_callS (fa_cons (fe_bipush dX12_wordOf_277) (fa_cons (fe_bipush dX12_wordOf_279) (fa_cons (fe_bipush dX12_wordOf_281) (fa_cons (fe_bipush dX12_wordOf_283) fa_nil)))) C_M_spelt ls_RX12_141 rfl (by decide) (by decide) (by decide) dX12_wordOf_285) (fa_cons (fe_bipush dX12_wordOf_288) (fa_cons (fe_iconst dX12_wordOf_290) fa_nil))) C_M_on ls_RX12_145 rfl (by decide) (by decide) (by decide) dX12_wordOf_291) dX12_wordOf_294
set_option maxRecDepth 20000 in
theorem t_M_wordOf_14 {N B C : Nat × FT} : fw_S s_M_wordOf [(0, 0)] 295 (rtS (clE m_M_spelt [(cE 104), (cE 111), (cE 117), (cE 114)])) N B C := fs_ret (fe_callS (fa_cons (fe_bipush dX12_wordOf_295) (fa_cons (fe_bipush dX12_wordOf_297) (fa_cons (fe_bipush dX12_wordOf_299) (fa_cons (fe_bipush dX12_wordOf_301) fa_nil)))) C_M_spelt ls_RX12_141 rfl (by decide) (by decide) (by decide) dX12_wordOf_303) dX12_wordOf_306
set_option maxRecDepth 20000 in
theorem t_M_wordOf_15 {N B C : Nat × FT} : fw_S s_M_wordOf [(0, 0)] 307 (rtS (clE m_M_spelt [(cE 100), (cE 97), (cE 121), (cE 0)])) N B C := fs_ret (fe_callS (fa_cons (fe_bipush dX12_wordOf_307) (fa_cons (fe_bipush dX12_wordOf_309) (fa_cons (fe_bipush dX12_wordOf_311) (fa_cons (fe_iconst dX12_wordOf_313) fa_nil)))) C_M_spelt ls_RX12_141 rfl (by decide) (by decide) (by decide) dX12_wordOf_314) dX12_wordOf_317
set_option maxRecDepth 20000 in
theorem t_M_wordOf_16 {N B C : Nat × FT} : fw_S s_M_wordOf [(0, 0)] 318 (rtS (clE m_M_on [(clE m_M_spelt [(cE 112), (cE 97), (cE 115), (cE 115)]), (cE 101), (cE 100)])) N B C := fs_ret (fe_callS (fa_cons (fe_callS (fa_cons (fe_bipush dX12_wordOf_318) (fa_cons (fe_bipush dX12_wordOf_320) (fa_cons (fe_bipush dX12_wordOf_322) (fa_cons (fe_bipush dX12_wordOf_324) fa_nil)))) C_M_spelt ls_RX12_141 rfl (by decide) (by decide) (by decide) dX12_wordOf_326) (fa_cons (fe_bipush dX12_wordOf_329) (fa_cons (fe_bipush dX12_wordOf_331) fa_nil))) C_M_on ls_RX12_145 rfl (by decide) (by decide) (by decide) dX12_wordOf_333) dX12_wordOf_336
set_option maxRecDepth 20000 in
theorem t_M_wordOf_17 {N B C : Nat × FT} : fw_S s_M_wordOf [(0, 0)] 0 (tsS (vE 0) 0 [(rtS (clE m_M_on [(clE m_M_spelt [(cE 114), (cE 101), (cE 97), (cE 99)]), (cE 104), (cE 0)])), (rtS (clE m_M_on [(clE m_M_spelt [(cE 99), (cE 111), (cE 108), (cE 111)]), (cE 117), (cE 114)])), (rtS (clE m_M_on [(clE m_M_spelt [(cE 103), (cE 117), (cE 105), (cE 108)]), (cE 100), (cE 0)])), (rtS (clE m_M_spelt [(cE 117), (cE 115), (cE 101), (cE 114)])), (rtS (clE m_M_spelt [(cE 102), (cE 108), (cE 111), (cE 119)])), (rtS (clE m_M_on [(clE m_M_spelt [(cE 102), (cE 108), (cE 111), (cE 111)]), (cE 100), (cE 0)])), (rtS (clE m_M_on [(clE m_M_spelt [(cE 112), (cE 101), (cE 98), (cE 98)]), (cE 108), (cE 101)])), (rtS (clE m_M_spelt [(cE 98), (cE 101), (cE 108), (cE 108)])), (rtS (clE m_M_spelt [(cE 111), (cE 114), (cE 0), (cE 0)])), (rtS (clE m_M_spelt [(cE 97), (cE 110), (cE 100), (cE 0)])), (rtS (clE m_M_spelt [(cE 110), (cE 111), (cE 116), (cE 0)])), (rtS (clE m_M_on [(clE m_M_spelt [(cE 119), (cE 111), (cE 114), (cE 107)]), (cE 115), (cE 0)])), (rtS (clE m_M_on [(clE m_M_spelt [(cE 104), (cE 97), (cE 114), (cE 109)]), (cE 101), (cE 100)])), (rtS (clE m_M_on [(clE m_M_spelt [(cE 115), (cE 104), (cE 97), (cE 100)]), (cE 101), (cE 0)])), (rtS (clE m_M_spelt [(cE 104), (cE 111), (cE 117), (cE 114)])), (rtS (clE m_M_spelt [(cE 100), (cE 97), (cE 121), (cE 0)]))] (rtS (clE m_M_on [(clE m_M_spelt [(cE 112), (cE 97), (cE 115), (cE 115)]), (cE 101), (cE 100)]))) N B C := fs_tsw (cs := [(80, (rtS (clE m_M_on [(clE m_M_spelt [(cE 114), (cE 101), (cE 97), (cE 99)]), (cE 104), (cE 0)]))), (98, (rtS (clE m_M_on [(clE m_M_spelt [(cE 99), (cE 111), (cE 108), (cE 111)]), (cE 117), (cE 114)]))), (117, (rtS (clE m_M_on [(clE m_M_spelt [(cE 103), (cE 117), (cE 105), (cE 108)]), (cE 100), (cE 0)]))), (135, (rtS (clE m_M_spelt [(cE 117), (cE 115), (cE 101), (cE 114)]))), (147, (rtS (clE m_M_spelt [(cE 102), (cE 108), (cE 111), (cE 119)]))), (159, (rtS (clE m_M_on [(clE m_M_spelt [(cE 102), (cE 108), (cE 111), (cE 111)]), (cE 100), (cE 0)]))), (177, (rtS (clE m_M_on [(clE m_M_spelt [(cE 112), (cE 101), (cE 98), (cE 98)]), (cE 108), (cE 101)]))), (196, (rtS (clE m_M_spelt [(cE 98), (cE 101), (cE 108), (cE 108)]))), (208, (rtS (clE m_M_spelt [(cE 111), (cE 114), (cE 0), (cE 0)]))), (218, (rtS (clE m_M_spelt [(cE 97), (cE 110), (cE 100), (cE 0)]))), (229, (rtS (clE m_M_spelt [(cE 110), (cE 111), (cE 116), (cE 0)]))), (240, (rtS (clE m_M_on [(clE m_M_spelt [(cE 119), (cE 111), (cE 114), (cE 107)]), (cE 115), (cE 0)]))), (258, (rtS (clE m_M_on [(clE m_M_spelt [(cE 104), (cE 97), (cE 114), (cE 109)]), (cE 101), (cE 100)]))), (277, (rtS (clE m_M_on [(clE m_M_spelt [(cE 115), (cE 104), (cE 97), (cE 100)]), (cE 101), (cE 0)]))), (295, (rtS (clE m_M_spelt [(cE 104), (cE 111), (cE 117), (cE 114)]))), (307, (rtS (clE m_M_spelt [(cE 100), (cE 97), (cE 121), (cE 0)])))]) (fe_iloadn 0 rfl dX12_wordOf_0) dX12_wordOf_1 ⟨⟨_, rfl, rfl⟩, t_M_wordOf_0, ⟨⟨_, rfl, rfl⟩, t_M_wordOf_1, ⟨⟨_, rfl, rfl⟩, t_M_wordOf_2, ⟨⟨_, rfl, rfl⟩, t_M_wordOf_3, ⟨⟨_, rfl, rfl⟩, t_M_wordOf_4, ⟨⟨_, rfl, rfl⟩, t_M_wordOf_5, ⟨⟨_, rfl, rfl⟩, t_M_wordOf_6, ⟨⟨_, rfl, rfl⟩, t_M_wordOf_7, ⟨⟨_, rfl, rfl⟩, t_M_wordOf_8, ⟨⟨_, rfl, rfl⟩, t_M_wordOf_9, ⟨⟨_, rfl, rfl⟩, t_M_wordOf_10, ⟨⟨_, rfl, rfl⟩, t_M_wordOf_11, ⟨⟨_, rfl, rfl⟩, t_M_wordOf_12, ⟨⟨_, rfl, rfl⟩, t_M_wordOf_13, ⟨⟨_, rfl, rfl⟩, t_M_wordOf_14, ⟨⟨_, rfl, rfl⟩, t_M_wordOf_15, trivial⟩⟩⟩⟩⟩⟩⟩⟩⟩⟩⟩⟩⟩⟩⟩⟩ rfl rfl t_M_wordOf_16
set_option maxRecDepth 20000 in
theorem C_M_wordOf : fw_C LM yX12_wordOf cX12_wordOf 1 (some .long) 2 [0] (some 1) m_M_wordOf := fm_l (d := 2) (N := (0, [])) (B := (0, [])) (C := (0, [])) LM_ok (by decide +kernel) (show fw_S s_M_wordOf _ 0 b_M_wordOf _ _ _ from t_M_wordOf_17) (by decide)
/-! DyerBellsModel.isWord (this 0 ) -/
abbrev s_M_isWord : SI := (LM, RX12, cX12_isWord, 2, 3, some 0)
def b_M_isWord : SM := (rtS (kE (andB (nB (cB 1 (thE (cE 0) (gE 7)) (cE 2))) (nB (zB 1 (o2 cmpL (thE (cE 0) (gE 12)) (clE m_M_wordOf [(vE 1)]))))) (cE 1) (cE 0)))
def m_M_isWord : FM := mthZ [0, 1] b_M_isWord
set_option maxRecDepth 20000 in
theorem t_M_isWord_0 {N B C : Nat × FT} : fw_S s_M_isWord [(0, 2), (1, 0)] 0 (rtS (kE (andB (nB (cB 1 (thE (cE 0) (gE 7)) (cE 2))) (nB (zB 1 (o2 cmpL (thE (cE 0) (gE 12)) (clE m_M_wordOf [(vE 1)]))))) (cE 1) (cE 0))) N B C := fs_ret (fe_ternG (fb_and (fb_not (fb_icmp_ne (fe_getI (fe_aloadn 0 rfl dX12_isWord_0) fl_RX12_113 lm_0 rfl dX12_isWord_1) (fe_iconst dX12_isWord_4) dX12_isWord_5 rfl)) (fb_not (fb_if_ne (fe_lcmp (fe_getL (fe_aloadn 0 rfl dX12_isWord_8) fl_RX12_126 lm_0 rfl dX12_isWord_9) (fe_callS (fa_cons (fe_iloadn 1 rfl dX12_isWord_12) fa_nil) C_M_wordOf ls_RX12_149 rfl (by decide) (by decide) (by decide) dX12_isWord_13) dX12_isWord_16) dX12_isWord_17 rfl))) (fe_gt (fe_iconst dX12_isWord_20) dX12_isWord_21 rfl) (fe_iconst dX12_isWord_24)) dX12_isWord_25
set_option maxRecDepth 20000 in
theorem C_M_isWord : fw_C LM yX12_isWord cX12_isWord 2 (some .boolean) 3 [2, 0] (some 0) m_M_isWord := fm_z (d := 3) (N := (0, [])) (B := (0, [])) (C := (0, [])) LM_ok (by decide +kernel) (show fw_S s_M_isWord _ 0 b_M_isWord _ _ _ from t_M_isWord_0) (by decide)
/-! DyerBellsModel.bad (this 0 ) -/
abbrev s_M_bad : SI := (LM, RX12, cX12_bad, 2, 1, some 0)
def b_M_bad : SM := (sq (pfS 10 (cE 0) (kE (nB (cB 1 (thE (cE 0) (gE 7)) (cE 1))) (cE 1) (vE 1))) (sq (pfS 11 (cE 0) (thE (cE 0) (gE 6))) (rtS (cE 0))))
def m_M_bad : FM := mthZ [0, 1] b_M_bad
set_option maxRecDepth 20000 in
theorem t_M_bad_0 {B C : Nat × FT} : fw_S s_M_bad [(0, 2), (1, 0)] 0 (pfS 10 (cE 0) (kE (nB (cB 1 (thE (cE 0) (gE 7)) (cE 1))) (cE 1) (vE 1))) (17, [(0, 2), (1, 0)]) B C := fs_put (fe_aloadn 0 rfl dX12_bad_0) (fe_ternG (fb_not (fb_icmp_ne (fe_getI (fe_aloadn 0 rfl dX12_bad_1) fl_RX12_113 lm_0 rfl dX12_bad_2) (fe_iconst dX12_bad_5) dX12_bad_6 rfl)) (fe_gt (fe_iconst dX12_bad_9) dX12_bad_10 rfl) (fe_iloadn 1 rfl dX12_bad_13)) fp_RX12_153 lm_0 rfl dX12_bad_14 rfl
set_option maxRecDepth 20000 in
theorem t_M_bad_1 {B C : Nat × FT} : fw_S s_M_bad [(0, 2), (1, 0)] 17 (pfS 11 (cE 0) (thE (cE 0) (gE 6))) (25, [(0, 2), (1, 0)]) B C := fs_put (fe_aloadn 0 rfl dX12_bad_17) (fe_getI (fe_aloadn 0 rfl dX12_bad_18) fl_RX12_107 lm_0 rfl dX12_bad_19) fp_RX12_156 lm_0 rfl dX12_bad_22 rfl
set_option maxRecDepth 20000 in
theorem t_M_bad_2 {N B C : Nat × FT} : fw_S s_M_bad [(0, 2), (1, 0)] 25 (rtS (cE 0)) N B C := fs_ret (fe_iconst dX12_bad_25) dX12_bad_26
set_option maxRecDepth 20000 in
theorem C_M_bad : fw_C LM yX12_bad cX12_bad 2 (some .boolean) 1 [2, 0] (some 0) m_M_bad := fm_z (d := 1) (N := (0, [])) (B := (0, [])) (C := (0, [])) LM_ok (by decide +kernel) (show fw_S s_M_bad _ 0 b_M_bad _ _ _ from (fs_seq t_M_bad_0 (fs_seq t_M_bad_1 t_M_bad_2))) (by decide)
/-! DyerBellsModel.isName (this 0 ) -/
abbrev s_M_isName : SI := (LM, RX12, cX12_isName, 2, 3, some 0)
def b_M_isName : SM := (sq (ifS (nB (cB 0 (thE (cE 0) (gE 7)) (cE 2))) (rtS (cE 0)) skS) (sq (sq (stS 1 (cE 0)) (whS (nB (cB 4 (vE 1) (cE 16))) (ifS (nB (zB 1 (o2 cmpL (thE (cE 0) (gE 12)) (clE m_M_wordOf [(vE 1)])))) (rtS (cE 0)) skS) (inS 1 1) FU)) (rtS (cE 1))))
def m_M_isName : FM := mthZ [0] b_M_isName
set_option maxRecDepth 20000 in
theorem t_M_isName_0 : fw_B s_M_isName [(0, 2)] 0 0 8 10 (nB (cB 0 (thE (cE 0) (gE 7)) (cE 2))) := (fb_not (fb_icmp_eq (fe_getI (fe_aloadn 0 rfl dX12_isName_0) fl_RX12_113 lm_0 rfl dX12_isName_1) (fe_iconst dX12_isName_4) dX12_isName_5 rfl))
set_option maxRecDepth 20000 in
theorem t_M_isName_1 {N B C : Nat × FT} : fw_S s_M_isName [(0, 2)] 8 (rtS (cE 0)) N B C := fs_ret (fe_iconst dX12_isName_8) dX12_isName_9
set_option maxRecDepth 20000 in
theorem t_M_isName_2 {B C : Nat × FT} : fw_S s_M_isName [(0, 2)] 10 (stS 1 (cE 0)) (12, [(0, 2), (1, 0)]) B C := fs_istn (fe_iconst dX12_isName_10) dX12_isName_11 (by decide) rfl
set_option maxRecDepth 20000 in
theorem t_M_isName_3 : fw_B s_M_isName [(0, 2), (1, 0)] 0 12 18 38 (nB (cB 4 (vE 1) (cE 16))) := (fb_not (fb_icmp_gt (fe_iloadn 1 rfl dX12_isName_12) (fe_bipush dX12_isName_13) dX12_isName_15 rfl))
set_option maxRecDepth 20000 in
theorem t_M_isName_4 : fw_B s_M_isName [(0, 2), (1, 0)] 0 18 30 32 (nB (zB 1 (o2 cmpL (thE (cE 0) (gE 12)) (clE m_M_wordOf [(vE 1)])))) := (fb_not (fb_if_ne (fe_lcmp (fe_getL (fe_aloadn 0 rfl dX12_isName_18) fl_RX12_126 lm_0 rfl dX12_isName_19) (fe_callS (fa_cons (fe_iloadn 1 rfl dX12_isName_22) fa_nil) C_M_wordOf ls_RX12_149 rfl (by decide) (by decide) (by decide) dX12_isName_23) dX12_isName_26) dX12_isName_27 rfl))
set_option maxRecDepth 20000 in
theorem t_M_isName_5 {N B C : Nat × FT} : fw_S s_M_isName [(0, 2), (1, 0)] 30 (rtS (cE 0)) N B C := fs_ret (fe_iconst dX12_isName_30) dX12_isName_31
set_option maxRecDepth 20000 in
theorem t_M_isName_6 {B C : Nat × FT} : fw_S s_M_isName [(0, 2), (1, 0)] 32 (inS 1 1) (35, [(0, 2), (1, 0)]) B C := fs_inc (j := 1) rfl dX12_isName_32 (by decide) rfl
set_option maxRecDepth 20000 in
theorem t_M_isName_7 {B C : Nat × FT} : fw_S s_M_isName [(0, 2), (1, 0)] 12 (whS (nB (cB 4 (vE 1) (cE 16))) (ifS (nB (zB 1 (o2 cmpL (thE (cE 0) (gE 12)) (clE m_M_wordOf [(vE 1)])))) (rtS (cE 0)) skS) (inS 1 1) FU) (38, [(0, 2), (1, 0)]) B C := fs_while t_M_isName_3 (fs_if t_M_isName_4 t_M_isName_5 (fs_skip rfl)) (fs_goto t_M_isName_6 dX12_isName_35 rfl)
set_option maxRecDepth 20000 in
theorem t_M_isName_8 {N B C : Nat × FT} : fw_S s_M_isName [(0, 2)] 38 (rtS (cE 1)) N B C := fs_ret (fe_iconst dX12_isName_38) dX12_isName_39
set_option maxRecDepth 20000 in
theorem C_M_isName : fw_C LM yX12_isName cX12_isName 2 (some .boolean) 3 [2] (some 0) m_M_isName := fm_z (d := 3) (N := (0, [])) (B := (0, [])) (C := (0, [])) LM_ok (by decide +kernel) (show fw_S s_M_isName _ 0 b_M_isName _ _ _ from (fs_seq (fs_if t_M_isName_0 t_M_isName_1 (fs_skip rfl)) (fs_seq (fs_seq t_M_isName_2 (fs_weak t_M_isName_7 rfl)) t_M_isName_8))) (by decide)
/-! DyerBellsModel.findIn (this 0 ) -/
abbrev s_M_findIn : SI := (LM, RX12, cX12_findIn, 5, 1, some 0)
def b_M_findIn : SM := (sq (sq (stS 4 (cE 0)) (whS (nB (cB 3 (vE 4) (vE 3))) (ifS (nB (zB 1 (o2 cmpL (ldE 448 26 (cE 0) (o2 addI (vE 2) (vE 4))) (thE (cE 0) (gE 12))))) (rtS (vE 4)) skS) (inS 4 1) FU)) (rtS (cE (-1))))
def m_M_findIn : FM := mthF [0, 1, 2, 3] b_M_findIn
set_option maxRecDepth 20000 in
theorem t_M_findIn_0 {B C : Nat × FT} : fw_S s_M_findIn [(0, 2), (1, 9), (2, 0), (3, 0)] 0 (stS 4 (cE 0)) (3, [(0, 2), (1, 9), (2, 0), (3, 0), (4, 0)]) B C := fs_ist (fe_iconst dX12_findIn_0) dX12_findIn_1 (by decide) rfl
set_option maxRecDepth 20000 in
theorem t_M_findIn_1 : fw_B s_M_findIn [(0, 2), (1, 9), (2, 0), (3, 0), (4, 0)] 0 3 9 32 (nB (cB 3 (vE 4) (vE 3))) := (fb_not (fb_icmp_ge (fe_iload 4 rfl dX12_findIn_3) (fe_iloadn 3 rfl dX12_findIn_5) dX12_findIn_6 rfl))
set_option maxRecDepth 20000 in
theorem t_M_findIn_2 : fw_B s_M_findIn [(0, 2), (1, 9), (2, 0), (3, 0), (4, 0)] 0 9 23 26 (nB (zB 1 (o2 cmpL (ldE 448 26 (cE 0) (o2 addI (vE 2) (vE 4))) (thE (cE 0) (gE 12))))) := (fb_not (fb_if_ne (fe_lcmp (fe_lald (fe_aloadn 1 rfl dX12_findIn_9) (fe_iadd (fe_iloadn 2 rfl dX12_findIn_10) (fe_iload 4 rfl dX12_findIn_11) dX12_findIn_13) lm_7 dX12_findIn_14) (fe_getL (fe_aloadn 0 rfl dX12_findIn_15) fl_RX12_126 lm_0 rfl dX12_findIn_16) dX12_findIn_19) dX12_findIn_20 rfl))
set_option maxRecDepth 20000 in
theorem t_M_findIn_3 {N B C : Nat × FT} : fw_S s_M_findIn [(0, 2), (1, 9), (2, 0), (3, 0), (4, 0)] 23 (rtS (vE 4)) N B C := fs_ret (fe_iload 4 rfl dX12_findIn_23) dX12_findIn_25
set_option maxRecDepth 20000 in
theorem t_M_findIn_4 {B C : Nat × FT} : fw_S s_M_findIn [(0, 2), (1, 9), (2, 0), (3, 0), (4, 0)] 26 (inS 4 1) (29, [(0, 2), (1, 9), (2, 0), (3, 0), (4, 0)]) B C := fs_inc (j := 4) rfl dX12_findIn_26 (by decide) rfl
set_option maxRecDepth 20000 in
theorem t_M_findIn_5 {B C : Nat × FT} : fw_S s_M_findIn [(0, 2), (1, 9), (2, 0), (3, 0), (4, 0)] 3 (whS (nB (cB 3 (vE 4) (vE 3))) (ifS (nB (zB 1 (o2 cmpL (ldE 448 26 (cE 0) (o2 addI (vE 2) (vE 4))) (thE (cE 0) (gE 12))))) (rtS (vE 4)) skS) (inS 4 1) FU) (32, [(0, 2), (1, 9), (2, 0), (3, 0), (4, 0)]) B C := fs_while t_M_findIn_1 (fs_if t_M_findIn_2 t_M_findIn_3 (fs_skip rfl)) (fs_goto t_M_findIn_4 dX12_findIn_29 rfl)
set_option maxRecDepth 20000 in
theorem t_M_findIn_6 {N B C : Nat × FT} : fw_S s_M_findIn [(0, 2), (1, 9), (2, 0), (3, 0)] 32 (rtS (cE (-1))) N B C := fs_ret (fe_iconst dX12_findIn_32) dX12_findIn_33
set_option maxRecDepth 20000 in
theorem C_M_findIn : fw_C LM yX12_findIn cX12_findIn 5 (some .int) 1 [2, 9, 0, 0] (some 0) m_M_findIn := fm_i (d := 1) (N := (0, [])) (B := (0, [])) (C := (0, [])) LM_ok (by decide +kernel) (show fw_S s_M_findIn _ 0 b_M_findIn _ _ _ from (fs_seq (fs_seq t_M_findIn_0 (fs_weak t_M_findIn_5 rfl)) t_M_findIn_6)) (by decide)
/-! DyerBellsModel.isTold (this 0 ) -/
abbrev s_M_isTold : SI := (LM, RX12, cX12_isTold, 1, 2, some 0)
def b_M_isTold : SM := (rtS (kE (orB (orB (orB (cB 1 (clE m_M_findIn [(cE 0), (thE (cE 0) (cE 0)), (cE 0), (ldE 192 160 (thE (cE 0) (cE 0)) (cE 0))]) (cE (-1))) (cB 1 (clE m_M_findIn [(cE 0), (thE (cE 0) (cE 0)), (cE 10), (ldE 192 160 (thE (cE 0) (cE 0)) (cE 1))]) (cE (-1)))) (cB 1 (clE m_M_findIn [(cE 0), (thE (cE 0) (cE 0)), (cE 14), (ldE 192 160 (thE (cE 0) (cE 0)) (cE 2))]) (cE (-1)))) (nB (cB 0 (clE m_M_findIn [(cE 0), (thE (cE 0) (cE 0)), (cE 20), (ldE 192 160 (thE (cE 0) (cE 0)) (cE 3))]) (cE (-1))))) (cE 1) (cE 0)))
def m_M_isTold : FM := mthZ [0] b_M_isTold
set_option maxRecDepth 20000 in
theorem t_M_isTold_0 {N B C : Nat × FT} : fw_S s_M_isTold [(0, 2)] 0 (rtS (kE (orB (orB (orB (cB 1 (clE m_M_findIn [(cE 0), (thE (cE 0) (cE 0)), (cE 0), (ldE 192 160 (thE (cE 0) (cE 0)) (cE 0))]) (cE (-1))) (cB 1 (clE m_M_findIn [(cE 0), (thE (cE 0) (cE 0)), (cE 10), (ldE 192 160 (thE (cE 0) (cE 0)) (cE 1))]) (cE (-1)))) (cB 1 (clE m_M_findIn [(cE 0), (thE (cE 0) (cE 0)), (cE 14), (ldE 192 160 (thE (cE 0) (cE 0)) (cE 2))]) (cE (-1)))) (nB (cB 0 (clE m_M_findIn [(cE 0), (thE (cE 0) (cE 0)), (cE 20), (ldE 192 160 (thE (cE 0) (cE 0)) (cE 3))]) (cE (-1))))) (cE 1) (cE 0))) N B C := fs_ret (fe_ternG (fb_or (fb_or (fb_or (fb_icmp_ne (fe_callV (fa_cons (fe_aloadn 0 rfl dX12_isTold_0) (fa_cons (fe_getR (fe_aloadn 0 rfl dX12_isTold_1) fl_RX12_29 lm_0 rfl dX12_isTold_2) (fa_cons (fe_iconst dX12_isTold_5) (fa_cons (fe_iald (fe_getR (fe_aloadn 0 rfl dX12_isTold_6) fl_RX12_16 lm_0 rfl dX12_isTold_7) (fe_iconst dX12_isTold_10) lm_3 dX12_isTold_11) fa_nil)))) C_M_findIn lv_RX12_202 lm_0 rfl rfl (by decide) (by decide) (by decide) dX12_isTold_12) (fe_iconst dX12_isTold_15) dX12_isTold_16 rfl) (fb_icmp_ne (fe_callV (fa_cons (fe_aloadn 0 rfl dX12_isTold_19) (fa_cons (fe_getR (fe_aloadn 0 rfl dX12_isTold_20) fl_RX12_29 lm_0 rfl dX12_isTold_21) (fa_cons (fe_bipush dX12_isTold_24) (fa_cons (fe_iald (fe_getR (fe_aloadn 0 rfl dX12_isTold_26) fl_RX12_16 lm_0 rfl dX12_isTold_27) (fe_iconst dX12_isTold_30) lm_3 dX12_isTold_31) fa_nil)))) C_M_findIn lv_RX12_202 lm_0 rfl rfl (by decide) (by decide) (by decide) dX12_isTold_32) (fe_iconst dX12_isTold_35) dX12_isTold_36 rfl)) (fb_icmp_ne (fe_callV (fa_cons (fe_aloadn 0 rfl dX12_isTold_39) (fa_cons (fe_getR (fe_aloadn 0 rfl dX12_isTold_40) fl_RX12_29 lm_0 rfl dX12_isTold_41) (fa_cons (fe_bipush dX12_isTold_44) (fa_cons (fe_iald (fe_getR (fe_aloadn 0 rfl dX12_isTold_46) fl_RX12_16 lm_0 rfl dX12_isTold_47) (fe_iconst dX12_isTold_50) lm_3 dX12_isTold_51) fa_nil)))) C_M_findIn lv_RX12_202 lm_0 rfl rfl (by decide) (by decide) (by decide) dX12_isTold_52) (fe_iconst dX12_isTold_55) dX12_isTold_56 rfl)) (fb_not (fb_icmp_eq (fe_callV (fa_cons (fe_aloadn 0 rfl dX12_isTold_59) (fa_cons (fe_getR (fe_aloadn 0 rfl dX12_isTold_60) fl_RX12_29 lm_0 rfl dX12_isTold_61) (fa_cons (fe_bipush dX12_isTold_64) (fa_cons (fe_iald (fe_getR (fe_aloadn 0 rfl dX12_isTold_66) fl_RX12_16 lm_0 rfl dX12_isTold_67) (fe_iconst dX12_isTold_70) lm_3 dX12_isTold_71) fa_nil)))) C_M_findIn lv_RX12_202 lm_0 rfl rfl (by decide) (by decide) (by decide) dX12_isTold_72) (fe_iconst dX12_isTold_75) dX12_isTold_76 rfl))) (fe_gt (fe_iconst dX12_isTold_79) dX12_isTold_80 rfl) (fe_iconst dX12_isTold_83)) dX12_isTold_84
set_option maxRecDepth 20000 in
theorem C_M_isTold : fw_C LM yX12_isTold cX12_isTold 1 (some .boolean) 2 [2] (some 0) m_M_isTold := fm_z (d := 2) (N := (0, [])) (B := (0, [])) (C := (0, [])) LM_ok (by decide +kernel) (show fw_S s_M_isTold _ 0 b_M_isTold _ _ _ from t_M_isTold_0) (by decide)
/-! DyerBellsModel.readNew (this 0 ) -/
abbrev s_M_readNew : SI := (LM, RX12, cX12_readNew, 2, 4, some 0)
def b_M_readNew : SM := (sq (ifS (nB (zB 1 (clE m_M_isName [(cE 0)]))) (rtS (clE m_M_bad [(cE 0), (cE 1)])) skS) (sq (ifS (nB (zB 0 (clE m_M_isTold [(cE 0)]))) (rtS (clE m_M_bad [(cE 0), (cE 3)])) skS) (sq (asS 448 26 idI (thE (cE 0) (cE 0)) (vE 1) (thE (cE 0) (gE 12))) (sq (exS (clE m_M_go [(cE 0)])) (rtS (cE 1))))))
def m_M_readNew : FM := mthZ [0, 1] b_M_readNew
set_option maxRecDepth 20000 in
theorem t_M_readNew_0 : fw_B s_M_readNew [(0, 2), (1, 0)] 0 0 7 13 (nB (zB 1 (clE m_M_isName [(cE 0)]))) := (fb_not (fb_if_ne (fe_callV (fa_cons (fe_aloadn 0 rfl dX12_readNew_0) fa_nil) C_M_isName lv_RX12_206 lm_0 rfl rfl (by decide) (by decide) (by decide) dX12_readNew_1) dX12_readNew_4 rfl))
set_option maxRecDepth 20000 in
theorem t_M_readNew_1 {N B C : Nat × FT} : fw_S s_M_readNew [(0, 2), (1, 0)] 7 (rtS (clE m_M_bad [(cE 0), (cE 1)])) N B C := fs_ret (fe_callV (fa_cons (fe_aloadn 0 rfl dX12_readNew_7) (fa_cons (fe_iconst dX12_readNew_8) fa_nil)) C_M_bad lv_RX12_159 lm_0 rfl rfl (by decide) (by decide) (by decide) dX12_readNew_9) dX12_readNew_12
set_option maxRecDepth 20000 in
theorem t_M_readNew_2 : fw_B s_M_readNew [(0, 2), (1, 0)] 0 13 20 26 (nB (zB 0 (clE m_M_isTold [(cE 0)]))) := (fb_not (fb_if_eq (fe_callV (fa_cons (fe_aloadn 0 rfl dX12_readNew_13) fa_nil) C_M_isTold lv_RX12_210 lm_0 rfl rfl (by decide) (by decide) (by decide) dX12_readNew_14) dX12_readNew_17 rfl))
set_option maxRecDepth 20000 in
theorem t_M_readNew_3 {N B C : Nat × FT} : fw_S s_M_readNew [(0, 2), (1, 0)] 20 (rtS (clE m_M_bad [(cE 0), (cE 3)])) N B C := fs_ret (fe_callV (fa_cons (fe_aloadn 0 rfl dX12_readNew_20) (fa_cons (fe_iconst dX12_readNew_21) fa_nil)) C_M_bad lv_RX12_159 lm_0 rfl rfl (by decide) (by decide) (by decide) dX12_readNew_22) dX12_readNew_25
set_option maxRecDepth 20000 in
theorem t_M_readNew_4 {B C : Nat × FT} : fw_S s_M_readNew [(0, 2), (1, 0)] 26 (asS 448 26 idI (thE (cE 0) (cE 0)) (vE 1) (thE (cE 0) (gE 12))) (36, [(0, 2), (1, 0)]) B C := fs_last (fe_getR (fe_aloadn 0 rfl dX12_readNew_26) fl_RX12_29 lm_0 rfl dX12_readNew_27) (fe_iloadn 1 rfl dX12_readNew_30) (fe_getL (fe_aloadn 0 rfl dX12_readNew_31) fl_RX12_126 lm_0 rfl dX12_readNew_32) lm_7 dX12_readNew_35 rfl
set_option maxRecDepth 20000 in
theorem t_M_readNew_5 {B C : Nat × FT} : fw_S s_M_readNew [(0, 2), (1, 0)] 36 (exS (clE m_M_go [(cE 0)])) (40, [(0, 2), (1, 0)]) B C := fs_callV (t := 0) (fa_cons (fe_aloadn 0 rfl dX12_readNew_36) fa_nil) C_M_go lv_RX12_169 lm_0 rfl rfl (by decide) (by decide) dX12_readNew_37 rfl
set_option maxRecDepth 20000 in
theorem t_M_readNew_6 {N B C : Nat × FT} : fw_S s_M_readNew [(0, 2), (1, 0)] 40 (rtS (cE 1)) N B C := fs_ret (fe_iconst dX12_readNew_40) dX12_readNew_41
set_option maxRecDepth 20000 in
theorem C_M_readNew : fw_C LM yX12_readNew cX12_readNew 2 (some .boolean) 4 [2, 0] (some 0) m_M_readNew := fm_z (d := 4) (N := (0, [])) (B := (0, [])) (C := (0, [])) LM_ok (by decide +kernel) (show fw_S s_M_readNew _ 0 b_M_readNew _ _ _ from (fs_seq (fs_if t_M_readNew_0 t_M_readNew_1 (fs_skip rfl)) (fs_seq (fs_if t_M_readNew_2 t_M_readNew_3 (fs_skip rfl)) (fs_seq t_M_readNew_4 (fs_seq t_M_readNew_5 t_M_readNew_6))))) (by decide)
/-! DyerBellsModel.isIn -/
abbrev s_M_isIn : SI := (LM, RX12, cX12_isIn, 3, 1, some 0)
def b_M_isIn : SM := (rtS (kE (andB (nB (cB 2 (vE 0) (vE 1))) (nB (cB 4 (vE 0) (vE 2)))) (cE 1) (cE 0)))
def m_M_isIn : FM := mthZ [0, 1, 2] b_M_isIn
set_option maxRecDepth 20000 in
theorem t_M_isIn_0 {N B C : Nat × FT} : fw_S s_M_isIn [(0, 0), (1, 0), (2, 0)] 0 (rtS (kE (andB (nB (cB 2 (vE 0) (vE 1))) (nB (cB 4 (vE 0) (vE 2)))) (cE 1) (cE 0))) N B C := fs_ret (fe_ternG (fb_and (fb_not (fb_icmp_lt (fe_iloadn 0 rfl dX12_isIn_0) (fe_iloadn 1 rfl dX12_isIn_1) dX12_isIn_2 rfl)) (fb_not (fb_icmp_gt (fe_iloadn 0 rfl dX12_isIn_5) (fe_iloadn 2 rfl dX12_isIn_6) dX12_isIn_7 rfl))) (fe_gt (fe_iconst dX12_isIn_10) dX12_isIn_11 rfl) (fe_iconst dX12_isIn_14)) dX12_isIn_15
set_option maxRecDepth 20000 in
theorem C_M_isIn : fw_C LM yX12_isIn cX12_isIn 3 (some .boolean) 1 [0, 0, 0] (some 0) m_M_isIn := fm_z (d := 1) (N := (0, [])) (B := (0, [])) (C := (0, [])) LM_ok (by decide +kernel) (show fw_S s_M_isIn _ 0 b_M_isIn _ _ _ from t_M_isIn_0) (by decide)
/-! DyerBellsModel.readNumber (this 0 ) -/
abbrev s_M_readNumber : SI := (LM, RX12, cX12_readNumber, 3, 3, some 0)
def b_M_readNumber : SM := (sq (ifS (nB (cB 0 (thE (cE 0) (gE 7)) (cE 3))) (rtS (clE m_M_bad [(cE 0), (cE 1)])) skS) (sq (ifS (nB (zB 1 (clE m_M_isIn [(thE (cE 0) (gE 8)), (vE 1), (vE 2)]))) (rtS (clE m_M_bad [(cE 0), (cE 2)])) skS) (sq (pfS 13 (cE 0) (thE (cE 0) (gE 8))) (sq (exS (clE m_M_go [(cE 0)])) (rtS (cE 1))))))
def m_M_readNumber : FM := mthZ [0, 1, 2] b_M_readNumber
set_option maxRecDepth 20000 in
theorem t_M_readNumber_0 : fw_B s_M_readNumber [(0, 2), (1, 0), (2, 0)] 0 0 8 14 (nB (cB 0 (thE (cE 0) (gE 7)) (cE 3))) := (fb_not (fb_icmp_eq (fe_getI (fe_aloadn 0 rfl dX12_readNumber_0) fl_RX12_113 lm_0 rfl dX12_readNumber_1) (fe_iconst dX12_readNumber_4) dX12_readNumber_5 rfl))
set_option maxRecDepth 20000 in
theorem t_M_readNumber_1 {N B C : Nat × FT} : fw_S s_M_readNumber [(0, 2), (1, 0), (2, 0)] 8 (rtS (clE m_M_bad [(cE 0), (cE 1)])) N B C := fs_ret (fe_callV (fa_cons (fe_aloadn 0 rfl dX12_readNumber_8) (fa_cons (fe_iconst dX12_readNumber_9) fa_nil)) C_M_bad lv_RX12_159 lm_0 rfl rfl (by decide) (by decide) (by decide) dX12_readNumber_10) dX12_readNumber_13
set_option maxRecDepth 20000 in
theorem t_M_readNumber_2 : fw_B s_M_readNumber [(0, 2), (1, 0), (2, 0)] 0 14 26 32 (nB (zB 1 (clE m_M_isIn [(thE (cE 0) (gE 8)), (vE 1), (vE 2)]))) := (fb_not (fb_if_ne (fe_callS (fa_cons (fe_getI (fe_aloadn 0 rfl dX12_readNumber_14) fl_RX12_130 lm_0 rfl dX12_readNumber_15) (fa_cons (fe_iloadn 1 rfl dX12_readNumber_18) (fa_cons (fe_iloadn 2 rfl dX12_readNumber_19) fa_nil))) C_M_isIn ls_RX12_162 rfl (by decide) (by decide) (by decide) dX12_readNumber_20) dX12_readNumber_23 rfl))
set_option maxRecDepth 20000 in
theorem t_M_readNumber_3 {N B C : Nat × FT} : fw_S s_M_readNumber [(0, 2), (1, 0), (2, 0)] 26 (rtS (clE m_M_bad [(cE 0), (cE 2)])) N B C := fs_ret (fe_callV (fa_cons (fe_aloadn 0 rfl dX12_readNumber_26) (fa_cons (fe_iconst dX12_readNumber_27) fa_nil)) C_M_bad lv_RX12_159 lm_0 rfl rfl (by decide) (by decide) (by decide) dX12_readNumber_28) dX12_readNumber_31
set_option maxRecDepth 20000 in
theorem t_M_readNumber_4 {B C : Nat × FT} : fw_S s_M_readNumber [(0, 2), (1, 0), (2, 0)] 32 (pfS 13 (cE 0) (thE (cE 0) (gE 8))) (40, [(0, 2), (1, 0), (2, 0)]) B C := fs_put (fe_aloadn 0 rfl dX12_readNumber_32) (fe_getI (fe_aloadn 0 rfl dX12_readNumber_33) fl_RX12_130 lm_0 rfl dX12_readNumber_34) fp_RX12_166 lm_0 rfl dX12_readNumber_37 rfl
set_option maxRecDepth 20000 in
theorem t_M_readNumber_5 {B C : Nat × FT} : fw_S s_M_readNumber [(0, 2), (1, 0), (2, 0)] 40 (exS (clE m_M_go [(cE 0)])) (44, [(0, 2), (1, 0), (2, 0)]) B C := fs_callV (t := 0) (fa_cons (fe_aloadn 0 rfl dX12_readNumber_40) fa_nil) C_M_go lv_RX12_169 lm_0 rfl rfl (by decide) (by decide) dX12_readNumber_41 rfl
set_option maxRecDepth 20000 in
theorem t_M_readNumber_6 {N B C : Nat × FT} : fw_S s_M_readNumber [(0, 2), (1, 0), (2, 0)] 44 (rtS (cE 1)) N B C := fs_ret (fe_iconst dX12_readNumber_44) dX12_readNumber_45
set_option maxRecDepth 20000 in
theorem C_M_readNumber : fw_C LM yX12_readNumber cX12_readNumber 3 (some .boolean) 3 [2, 0, 0] (some 0) m_M_readNumber := fm_z (d := 3) (N := (0, [])) (B := (0, [])) (C := (0, [])) LM_ok (by decide +kernel) (show fw_S s_M_readNumber _ 0 b_M_readNumber _ _ _ from (fs_seq (fs_if t_M_readNumber_0 t_M_readNumber_1 (fs_skip rfl)) (fs_seq (fs_if t_M_readNumber_2 t_M_readNumber_3 (fs_skip rfl)) (fs_seq t_M_readNumber_4 (fs_seq t_M_readNumber_5 t_M_readNumber_6))))) (by decide)
/-! DyerBellsModel.readReach (this 0 ) -/
abbrev s_M_readReach : SI := (LM, RX12, cX12_readReach, 2, 5, some 0)
def b_M_readReach : SM := (sq (stS 1 (ldE 192 160 (thE (cE 0) (cE 0)) (cE 0))) (sq (ifS (nB (cB 1 (vE 1) (cE 10))) (rtS (clE m_M_bad [(cE 0), (cE 4)])) skS) (sq (exS (clE m_M_go [(cE 0)])) (sq (ifS (orB (zB 0 (clE m_M_readNew [(cE 0), (o2 addI (cE 0) (vE 1))])) (nB (zB 1 (clE m_M_readNumber [(cE 0), (cE 1), (cE 9999)])))) (rtS (cE 0)) skS) (sq (asS 192 160 idI (thE (cE 0) (cE 0)) (o2 addI (cE 10) (o2 mulI (cE 2) (vE 1))) (thE (cE 0) (gE 13))) (sq (ifS (nB (zB 1 (clE m_M_readNumber [(cE 0), (cE 0), (cE 500)]))) (rtS (cE 0)) skS) (sq (asS 192 160 idI (thE (cE 0) (cE 0)) (o2 addI (o2 addI (cE 10) (o2 mulI (cE 2) (vE 1))) (cE 1)) (thE (cE 0) (gE 13))) (sq (aoS 192 160 addI (thE (cE 0) (cE 0)) (cE 0) (cE 1)) (rtS (cE 1))))))))))
def m_M_readReach : FM := mthZ [0] b_M_readReach
set_option maxRecDepth 20000 in
theorem t_M_readReach_0 {B C : Nat × FT} : fw_S s_M_readReach [(0, 2)] 0 (stS 1 (ldE 192 160 (thE (cE 0) (cE 0)) (cE 0))) (7, [(0, 2), (1, 0)]) B C := fs_istn (fe_iald (fe_getR (fe_aloadn 0 rfl dX12_readReach_0) fl_RX12_16 lm_0 rfl dX12_readReach_1) (fe_iconst dX12_readReach_4) lm_3 dX12_readReach_5) dX12_readReach_6 (by decide) rfl
set_option maxRecDepth 20000 in
theorem t_M_readReach_1 : fw_B s_M_readReach [(0, 2), (1, 0)] 0 7 13 19 (nB (cB 1 (vE 1) (cE 10))) := (fb_not (fb_icmp_ne (fe_iloadn 1 rfl dX12_readReach_7) (fe_bipush dX12_readReach_8) dX12_readReach_10 rfl))
set_option maxRecDepth 20000 in
theorem t_M_readReach_2 {N B C : Nat × FT} : fw_S s_M_readReach [(0, 2), (1, 0)] 13 (rtS (clE m_M_bad [(cE 0), (cE 4)])) N B C := fs_ret (fe_callV (fa_cons (fe_aloadn 0 rfl dX12_readReach_13) (fa_cons (fe_iconst dX12_readReach_14) fa_nil)) C_M_bad lv_RX12_159 lm_0 rfl rfl (by decide) (by decide) (by decide) dX12_readReach_15) dX12_readReach_18
set_option maxRecDepth 20000 in
theorem t_M_readReach_3 {B C : Nat × FT} : fw_S s_M_readReach [(0, 2), (1, 0)] 19 (exS (clE m_M_go [(cE 0)])) (23, [(0, 2), (1, 0)]) B C := fs_callV (t := 0) (fa_cons (fe_aloadn 0 rfl dX12_readReach_19) fa_nil) C_M_go lv_RX12_169 lm_0 rfl rfl (by decide) (by decide) dX12_readReach_20 rfl
set_option maxRecDepth 20000 in
theorem t_M_readReach_4 : fw_B s_M_readReach [(0, 2), (1, 0)] 0 23 44 46 (orB (zB 0 (clE m_M_readNew [(cE 0), (o2 addI (cE 0) (vE 1))])) (nB (zB 1 (clE m_M_readNumber [(cE 0), (cE 1), (cE 9999)])))) := (fb_or (fb_if_eq (fe_callV (fa_cons (fe_aloadn 0 rfl dX12_readReach_23) (fa_cons (fe_iadd (fe_iconst dX12_readReach_24) (fe_iloadn 1 rfl dX12_readReach_25) dX12_readReach_26) fa_nil)) C_M_readNew lv_RX12_213 lm_0 rfl rfl (by decide) (by decide) (by decide) dX12_readReach_27) dX12_readReach_30 rfl) (fb_not (fb_if_ne (fe_callV (fa_cons (fe_aloadn 0 rfl dX12_readReach_33) (fa_cons (fe_iconst dX12_readReach_34) (fa_cons (fe_sipush dX12_readReach_35) fa_nil))) C_M_readNumber lv_RX12_216 lm_0 rfl rfl (by decide) (by decide) (by decide) dX12_readReach_38) dX12_readReach_41 rfl)))
set_option maxRecDepth 20000 in
theorem t_M_readReach_5 {N B C : Nat × FT} : fw_S s_M_readReach [(0, 2), (1, 0)] 44 (rtS (cE 0)) N B C := fs_ret (fe_iconst dX12_readReach_44) dX12_readReach_45
set_option maxRecDepth 20000 in
theorem t_M_readReach_6 {B C : Nat × FT} : fw_S s_M_readReach [(0, 2), (1, 0)] 46 (asS 192 160 idI (thE (cE 0) (cE 0)) (o2 addI (cE 10) (o2 mulI (cE 2) (vE 1))) (thE (cE 0) (gE 13))) (61, [(0, 2), (1, 0)]) B C := fs_iast (fe_getR (fe_aloadn 0 rfl dX12_readReach_46) fl_RX12_16 lm_0 rfl dX12_readReach_47) (fe_iadd (fe_bipush dX12_readReach_50) (fe_imul (fe_iconst dX12_readReach_52) (fe_iloadn 1 rfl dX12_readReach_53) dX12_readReach_54) dX12_readReach_55) (fe_getI (fe_aloadn 0 rfl dX12_readReach_56) fl_RX12_166 lm_0 rfl dX12_readReach_57) lm_3 dX12_readReach_60 rfl
set_option maxRecDepth 20000 in
theorem t_M_readReach_7 : fw_B s_M_readReach [(0, 2), (1, 0)] 0 61 72 74 (nB (zB 1 (clE m_M_readNumber [(cE 0), (cE 0), (cE 500)]))) := (fb_not (fb_if_ne (fe_callV (fa_cons (fe_aloadn 0 rfl dX12_readReach_61) (fa_cons (fe_iconst dX12_readReach_62) (fa_cons (fe_sipush dX12_readReach_63) fa_nil))) C_M_readNumber lv_RX12_216 lm_0 rfl rfl (by decide) (by decide) (by decide) dX12_readReach_66) dX12_readReach_69 rfl))
set_option maxRecDepth 20000 in
theorem t_M_readReach_8 {N B C : Nat × FT} : fw_S s_M_readReach [(0, 2), (1, 0)] 72 (rtS (cE 0)) N B C := fs_ret (fe_iconst dX12_readReach_72) dX12_readReach_73
set_option maxRecDepth 20000 in
theorem t_M_readReach_9 {B C : Nat × FT} : fw_S s_M_readReach [(0, 2), (1, 0)] 74 (asS 192 160 idI (thE (cE 0) (cE 0)) (o2 addI (o2 addI (cE 10) (o2 mulI (cE 2) (vE 1))) (cE 1)) (thE (cE 0) (gE 13))) (91, [(0, 2), (1, 0)]) B C := fs_iast (fe_getR (fe_aloadn 0 rfl dX12_readReach_74) fl_RX12_16 lm_0 rfl dX12_readReach_75) (fe_iadd (fe_iadd (fe_bipush dX12_readReach_78) (fe_imul (fe_iconst dX12_readReach_80) (fe_iloadn 1 rfl dX12_readReach_81) dX12_readReach_82) dX12_readReach_83) (fe_iconst dX12_readReach_84) dX12_readReach_85) (fe_getI (fe_aloadn 0 rfl dX12_readReach_86) fl_RX12_166 lm_0 rfl dX12_readReach_87) lm_3 dX12_readReach_90 rfl
set_option maxRecDepth 20000 in
theorem t_M_readReach_10 {B C : Nat × FT} : fw_S s_M_readReach [(0, 2), (1, 0)] 91 (aoS 192 160 addI (thE (cE 0) (cE 0)) (cE 0) (cE 1)) (101, [(0, 2), (1, 0)]) B C := fs_ao_add (fe_getR (fe_aloadn 0 rfl dX12_readReach_91) fl_RX12_16 lm_0 rfl dX12_readReach_92) (fe_iconst dX12_readReach_95) dX12_readReach_96 dX12_readReach_97 (fe_iconst dX12_readReach_98) dX12_readReach_99 lm_3 dX12_readReach_100 rfl
set_option maxRecDepth 20000 in
theorem t_M_readReach_11 {N B C : Nat × FT} : fw_S s_M_readReach [(0, 2), (1, 0)] 101 (rtS (cE 1)) N B C := fs_ret (fe_iconst dX12_readReach_101) dX12_readReach_102
set_option maxRecDepth 20000 in
theorem C_M_readReach : fw_C LM yX12_readReach cX12_readReach 2 (some .boolean) 5 [2] (some 0) m_M_readReach := fm_z (d := 5) (N := (0, [])) (B := (0, [])) (C := (0, [])) LM_ok (by decide +kernel) (show fw_S s_M_readReach _ 0 b_M_readReach _ _ _ from (fs_seq t_M_readReach_0 (fs_seq (fs_if t_M_readReach_1 t_M_readReach_2 (fs_skip rfl)) (fs_seq t_M_readReach_3 (fs_seq (fs_if t_M_readReach_4 t_M_readReach_5 (fs_skip rfl)) (fs_seq t_M_readReach_6 (fs_seq (fs_if t_M_readReach_7 t_M_readReach_8 (fs_skip rfl)) (fs_seq t_M_readReach_9 (fs_seq t_M_readReach_10 t_M_readReach_11))))))))) (by decide)
/-! DyerBellsModel.readColour (this 0 ) -/
abbrev s_M_readColour : SI := (LM, RX12, cX12_readColour, 2, 5, some 0)
def b_M_readColour : SM := (sq (stS 1 (ldE 192 160 (thE (cE 0) (cE 0)) (cE 1))) (sq (ifS (nB (cB 1 (vE 1) (cE 4))) (rtS (clE m_M_bad [(cE 0), (cE 4)])) skS) (sq (exS (clE m_M_go [(cE 0)])) (sq (ifS (nB (zB 1 (clE m_M_readNew [(cE 0), (o2 addI (cE 10) (vE 1))]))) (rtS (cE 0)) skS) (sq (aoS 192 160 addI (thE (cE 0) (cE 0)) (cE 1) (cE 1)) (rtS (cE 1)))))))
def m_M_readColour : FM := mthZ [0] b_M_readColour
set_option maxRecDepth 20000 in
theorem t_M_readColour_0 {B C : Nat × FT} : fw_S s_M_readColour [(0, 2)] 0 (stS 1 (ldE 192 160 (thE (cE 0) (cE 0)) (cE 1))) (7, [(0, 2), (1, 0)]) B C := fs_istn (fe_iald (fe_getR (fe_aloadn 0 rfl dX12_readColour_0) fl_RX12_16 lm_0 rfl dX12_readColour_1) (fe_iconst dX12_readColour_4) lm_3 dX12_readColour_5) dX12_readColour_6 (by decide) rfl
set_option maxRecDepth 20000 in
theorem t_M_readColour_1 : fw_B s_M_readColour [(0, 2), (1, 0)] 0 7 12 18 (nB (cB 1 (vE 1) (cE 4))) := (fb_not (fb_icmp_ne (fe_iloadn 1 rfl dX12_readColour_7) (fe_iconst dX12_readColour_8) dX12_readColour_9 rfl))
set_option maxRecDepth 20000 in
theorem t_M_readColour_2 {N B C : Nat × FT} : fw_S s_M_readColour [(0, 2), (1, 0)] 12 (rtS (clE m_M_bad [(cE 0), (cE 4)])) N B C := fs_ret (fe_callV (fa_cons (fe_aloadn 0 rfl dX12_readColour_12) (fa_cons (fe_iconst dX12_readColour_13) fa_nil)) C_M_bad lv_RX12_159 lm_0 rfl rfl (by decide) (by decide) (by decide) dX12_readColour_14) dX12_readColour_17
set_option maxRecDepth 20000 in
theorem t_M_readColour_3 {B C : Nat × FT} : fw_S s_M_readColour [(0, 2), (1, 0)] 18 (exS (clE m_M_go [(cE 0)])) (22, [(0, 2), (1, 0)]) B C := fs_callV (t := 0) (fa_cons (fe_aloadn 0 rfl dX12_readColour_18) fa_nil) C_M_go lv_RX12_169 lm_0 rfl rfl (by decide) (by decide) dX12_readColour_19 rfl
set_option maxRecDepth 20000 in
theorem t_M_readColour_4 : fw_B s_M_readColour [(0, 2), (1, 0)] 0 22 33 35 (nB (zB 1 (clE m_M_readNew [(cE 0), (o2 addI (cE 10) (vE 1))]))) := (fb_not (fb_if_ne (fe_callV (fa_cons (fe_aloadn 0 rfl dX12_readColour_22) (fa_cons (fe_iadd (fe_bipush dX12_readColour_23) (fe_iloadn 1 rfl dX12_readColour_25) dX12_readColour_26) fa_nil)) C_M_readNew lv_RX12_213 lm_0 rfl rfl (by decide) (by decide) (by decide) dX12_readColour_27) dX12_readColour_30 rfl))
set_option maxRecDepth 20000 in
theorem t_M_readColour_5 {N B C : Nat × FT} : fw_S s_M_readColour [(0, 2), (1, 0)] 33 (rtS (cE 0)) N B C := fs_ret (fe_iconst dX12_readColour_33) dX12_readColour_34
set_option maxRecDepth 20000 in
theorem t_M_readColour_6 {B C : Nat × FT} : fw_S s_M_readColour [(0, 2), (1, 0)] 35 (aoS 192 160 addI (thE (cE 0) (cE 0)) (cE 1) (cE 1)) (45, [(0, 2), (1, 0)]) B C := fs_ao_add (fe_getR (fe_aloadn 0 rfl dX12_readColour_35) fl_RX12_16 lm_0 rfl dX12_readColour_36) (fe_iconst dX12_readColour_39) dX12_readColour_40 dX12_readColour_41 (fe_iconst dX12_readColour_42) dX12_readColour_43 lm_3 dX12_readColour_44 rfl
set_option maxRecDepth 20000 in
theorem t_M_readColour_7 {N B C : Nat × FT} : fw_S s_M_readColour [(0, 2), (1, 0)] 45 (rtS (cE 1)) N B C := fs_ret (fe_iconst dX12_readColour_45) dX12_readColour_46
set_option maxRecDepth 20000 in
theorem C_M_readColour : fw_C LM yX12_readColour cX12_readColour 2 (some .boolean) 5 [2] (some 0) m_M_readColour := fm_z (d := 5) (N := (0, [])) (B := (0, [])) (C := (0, [])) LM_ok (by decide +kernel) (show fw_S s_M_readColour _ 0 b_M_readColour _ _ _ from (fs_seq t_M_readColour_0 (fs_seq (fs_if t_M_readColour_1 t_M_readColour_2 (fs_skip rfl)) (fs_seq t_M_readColour_3 (fs_seq (fs_if t_M_readColour_4 t_M_readColour_5 (fs_skip rfl)) (fs_seq t_M_readColour_6 t_M_readColour_7)))))) (by decide)
/-! DyerBellsModel.readReachTold (this 0 ) -/
abbrev s_M_readReachTold : SI := (LM, RX12, cX12_readReachTold, 2, 4, some 0)
def b_M_readReachTold : SM := (sq (ifS (nB (zB 1 (clE m_M_isName [(cE 0)]))) (rtS (clE m_M_bad [(cE 0), (cE 1)])) skS) (sq (stS 1 (clE m_M_findIn [(cE 0), (thE (cE 0) (cE 0)), (cE 0), (ldE 192 160 (thE (cE 0) (cE 0)) (cE 0))])) (sq (ifS (nB (cB 1 (vE 1) (cE (-1)))) (rtS (clE m_M_bad [(cE 0), (cE 3)])) skS) (sq (pfS 13 (cE 0) (vE 1)) (sq (exS (clE m_M_go [(cE 0)])) (rtS (cE 1)))))))
def m_M_readReachTold : FM := mthZ [0] b_M_readReachTold
set_option maxRecDepth 20000 in
theorem t_M_readReachTold_0 : fw_B s_M_readReachTold [(0, 2)] 0 0 7 13 (nB (zB 1 (clE m_M_isName [(cE 0)]))) := (fb_not (fb_if_ne (fe_callV (fa_cons (fe_aloadn 0 rfl dX12_readReachTold_0) fa_nil) C_M_isName lv_RX12_206 lm_0 rfl rfl (by decide) (by decide) (by decide) dX12_readReachTold_1) dX12_readReachTold_4 rfl))
set_option maxRecDepth 20000 in
theorem t_M_readReachTold_1 {N B C : Nat × FT} : fw_S s_M_readReachTold [(0, 2)] 7 (rtS (clE m_M_bad [(cE 0), (cE 1)])) N B C := fs_ret (fe_callV (fa_cons (fe_aloadn 0 rfl dX12_readReachTold_7) (fa_cons (fe_iconst dX12_readReachTold_8) fa_nil)) C_M_bad lv_RX12_159 lm_0 rfl rfl (by decide) (by decide) (by decide) dX12_readReachTold_9) dX12_readReachTold_12
set_option maxRecDepth 20000 in
theorem t_M_readReachTold_2 {B C : Nat × FT} : fw_S s_M_readReachTold [(0, 2)] 13 (stS 1 (clE m_M_findIn [(cE 0), (thE (cE 0) (cE 0)), (cE 0), (ldE 192 160 (thE (cE 0) (cE 0)) (cE 0))])) (29, [(0, 2), (1, 0)]) B C := fs_istn (fe_callV (fa_cons (fe_aloadn 0 rfl dX12_readReachTold_13) (fa_cons (fe_getR (fe_aloadn 0 rfl dX12_readReachTold_14) fl_RX12_29 lm_0 rfl dX12_readReachTold_15) (fa_cons (fe_iconst dX12_readReachTold_18) (fa_cons (fe_iald (fe_getR (fe_aloadn 0 rfl dX12_readReachTold_19) fl_RX12_16 lm_0 rfl dX12_readReachTold_20) (fe_iconst dX12_readReachTold_23) lm_3 dX12_readReachTold_24) fa_nil)))) C_M_findIn lv_RX12_202 lm_0 rfl rfl (by decide) (by decide) (by decide) dX12_readReachTold_25) dX12_readReachTold_28 (by decide) rfl
set_option maxRecDepth 20000 in
theorem t_M_readReachTold_3 : fw_B s_M_readReachTold [(0, 2), (1, 0)] 0 29 34 40 (nB (cB 1 (vE 1) (cE (-1)))) := (fb_not (fb_icmp_ne (fe_iloadn 1 rfl dX12_readReachTold_29) (fe_iconst dX12_readReachTold_30) dX12_readReachTold_31 rfl))
set_option maxRecDepth 20000 in
theorem t_M_readReachTold_4 {N B C : Nat × FT} : fw_S s_M_readReachTold [(0, 2), (1, 0)] 34 (rtS (clE m_M_bad [(cE 0), (cE 3)])) N B C := fs_ret (fe_callV (fa_cons (fe_aloadn 0 rfl dX12_readReachTold_34) (fa_cons (fe_iconst dX12_readReachTold_35) fa_nil)) C_M_bad lv_RX12_159 lm_0 rfl rfl (by decide) (by decide) (by decide) dX12_readReachTold_36) dX12_readReachTold_39
set_option maxRecDepth 20000 in
theorem t_M_readReachTold_5 {B C : Nat × FT} : fw_S s_M_readReachTold [(0, 2), (1, 0)] 40 (pfS 13 (cE 0) (vE 1)) (45, [(0, 2), (1, 0)]) B C := fs_put (fe_aloadn 0 rfl dX12_readReachTold_40) (fe_iloadn 1 rfl dX12_readReachTold_41) fp_RX12_166 lm_0 rfl dX12_readReachTold_42 rfl
set_option maxRecDepth 20000 in
theorem t_M_readReachTold_6 {B C : Nat × FT} : fw_S s_M_readReachTold [(0, 2), (1, 0)] 45 (exS (clE m_M_go [(cE 0)])) (49, [(0, 2), (1, 0)]) B C := fs_callV (t := 0) (fa_cons (fe_aloadn 0 rfl dX12_readReachTold_45) fa_nil) C_M_go lv_RX12_169 lm_0 rfl rfl (by decide) (by decide) dX12_readReachTold_46 rfl
set_option maxRecDepth 20000 in
theorem t_M_readReachTold_7 {N B C : Nat × FT} : fw_S s_M_readReachTold [(0, 2), (1, 0)] 49 (rtS (cE 1)) N B C := fs_ret (fe_iconst dX12_readReachTold_49) dX12_readReachTold_50
set_option maxRecDepth 20000 in
theorem C_M_readReachTold : fw_C LM yX12_readReachTold cX12_readReachTold 2 (some .boolean) 4 [2] (some 0) m_M_readReachTold := fm_z (d := 4) (N := (0, [])) (B := (0, [])) (C := (0, [])) LM_ok (by decide +kernel) (show fw_S s_M_readReachTold _ 0 b_M_readReachTold _ _ _ from (fs_seq (fs_if t_M_readReachTold_0 t_M_readReachTold_1 (fs_skip rfl)) (fs_seq t_M_readReachTold_2 (fs_seq (fs_if t_M_readReachTold_3 t_M_readReachTold_4 (fs_skip rfl)) (fs_seq t_M_readReachTold_5 (fs_seq t_M_readReachTold_6 t_M_readReachTold_7)))))) (by decide)
/-! DyerBellsModel.has -/
abbrev s_M_has : SI := (LM, RX12, cX12_has, 2, 1, some 0)
def b_M_has : SM := (rtS (kE (nB (cB 1 (o2 andI (o2 shrI (vE 0) (vE 1)) (cE 1)) (cE 1))) (cE 1) (cE 0)))
def m_M_has : FM := mthZ [0, 1] b_M_has
set_option maxRecDepth 20000 in
theorem t_M_has_0 {N B C : Nat × FT} : fw_S s_M_has [(0, 0), (1, 0)] 0 (rtS (kE (nB (cB 1 (o2 andI (o2 shrI (vE 0) (vE 1)) (cE 1)) (cE 1))) (cE 1) (cE 0))) N B C := fs_ret (fe_ternG (fb_not (fb_icmp_ne (fe_iand (fe_ishr (fe_iloadn 0 rfl dX12_has_0) (fe_iloadn 1 rfl dX12_has_1) dX12_has_2) (fe_iconst dX12_has_3) dX12_has_4) (fe_iconst dX12_has_5) dX12_has_6 rfl)) (fe_gt (fe_iconst dX12_has_9) dX12_has_10 rfl) (fe_iconst dX12_has_13)) dX12_has_14
set_option maxRecDepth 20000 in
theorem C_M_has : fw_C LM yX12_has cX12_has 2 (some .boolean) 1 [0, 0] (some 0) m_M_has := fm_z (d := 1) (N := (0, [])) (B := (0, [])) (C := (0, [])) LM_ok (by decide +kernel) (show fw_S s_M_has _ 0 b_M_has _ _ _ from t_M_has_0) (by decide)
