/-! DyerBellsModel.isWord (this 0 ) -/
abbrev s_M_isWord : SI := (LM, RX12, cX12_isWord, 2, 3, some 0)
set_option maxRecDepth 20000 in
theorem t_M_isWord_0 {N B C : Nat × FT} : fw_S s_M_isWord [(0, 2), (1, 0)] 0 (rtS (kE (andB (nB (cB 1 (thE (cE 0) (gE 7)) (cE 2))) (nB (zB 1 (o2 cmpL (thE (cE 0) (gE 12)) (clE m_M_wordOf [(vE 1)]))))) (cE 1) (cE 0))) N B C := fs_ret (fe_ternG (fb_and (fb_not (fb_icmp_ne (fe_getI (fe_aloadn 0 rfl dX12_isWord_0) fl_RX12_113 lm_0 rfl dX12_isWord_1) (fe_iconst dX12_isWord_4) dX12_isWord_5 rfl)) (fb_not (fb_if_ne (fe_lcmp (fe_getL (fe_aloadn 0 rfl dX12_isWord_8) fl_RX12_126 lm_0 rfl dX12_isWord_9) (fe_callS (fa_cons (fe_iloadn 1 rfl dX12_isWord_12) fa_nil) C_M_wordOf ls_RX12_149 rfl (by decide) (by decide) (by decide) dX12_isWord_13) dX12_isWord_16) dX12_isWord_17 rfl))) (fe_gt (fe_iconst dX12_isWord_20) dX12_isWord_21 rfl) (fe_iconst dX12_isWord_24)) dX12_isWord_25
set_option maxRecDepth 20000 in
theorem C_M_isWord : fw_C LM yX12_isWord cX12_isWord 2 (some .boolean) 3 [2, 0] (some 0) m_M_isWord := fm_z (d := 3) (N := (0, [])) (B := (0, [])) (C := (0, [])) LM_ok (by decide +kernel) (show fw_S s_M_isWord _ 0 b_M_isWord _ _ _ from t_M_isWord_0) (by decide)
/-! DyerBellsModel.bad (this 0 ) -/
abbrev s_M_bad : SI := (LM, RX12, cX12_bad, 2, 1, some 0)
set_option maxRecDepth 20000 in
theorem t_M_bad_0 {B C : Nat × FT} : fw_S s_M_bad [(0, 2), (1, 0)] 0 (pfS 10 (cE 0) (kE (nB (cB 1 (thE (cE 0) (gE 7)) (cE 1))) (cE 1) (vE 1))) (17, [(0, 2), (1, 0)]) B C := fs_put (fe_aloadn 0 rfl dX12_bad_0) (fe_ternG (fb_not (fb_icmp_ne (fe_getI (fe_aloadn 0 rfl dX12_bad_1) fl_RX12_113 lm_0 rfl dX12_bad_2) (fe_iconst dX12_bad_5) dX12_bad_6 rfl)) (fe_gt (fe_iconst dX12_bad_9) dX12_bad_10 rfl) (fe_iloadn 1 rfl dX12_bad_13)) fp_RX12_153 lm_0 rfl dX12_bad_14 rfl
set_option maxRecDepth 20000 in
theorem t_M_bad_1 {B C : Nat × FT} : fw_S s_M_bad [(0, 2), (1, 0)] 17 (pfS 11 (cE 0) (thE (cE 0) (gE 6))) (25, [(0, 2), (1, 0)]) B C := fs_put (fe_aloadn 0 rfl dX12_bad_17) (fe_getI (fe_aloadn 0 rfl dX12_bad_18) fl_RX12_107 lm_0 rfl dX12_bad_19) fp_RX12_156 lm_0 rfl dX12_bad_22 rfl
set_option maxRecDepth 20000 in
theorem t_M_bad_2 {N B C : Nat × FT} : fw_S s_M_bad [(0, 2), (1, 0)] 25 (rtS (cE 0)) N B C := fs_ret (fe_iconst dX12_bad_25) dX12_bad_26
set_option maxRecDepth 20000 in
theorem C_M_bad : fw_C LM yX12_bad cX12_bad 2 (some .boolean) 1 [2, 0] (some 0) m_M_bad := fm_z (d := 1) (N := (0, [])) (B := (0, [])) (C := (0, [])) LM_ok (by decide +kernel) (show fw_S s_M_bad _ 0 b_M_bad _ _ _ from (fs_seq t_M_bad_0 (fs_seq t_M_bad_1 t_M_bad_2))) (by decide)
/-! DyerBellsModel.isName (this 0 ) -/
abbrev s_M_isName : SI := (LM, RX12, cX12_isName, 2, 3, some 0)
set_option maxRecDepth 20000 in
theorem t_M_isName_0 : fw_B s_M_isName [(0, 2)] 0 0 8 10 (nB (cB 0 (thE (cE 0) (gE 7)) (cE 2))) := (fb_not (fb_icmp_eq (fe_getI (fe_aloadn 0 rfl dX12_isName_0) fl_RX12_113 lm_0 rfl dX12_isName_1) (fe_iconst dX12_isName_4) dX12_isName_5 rfl))
set_option maxRecDepth 20000 in
theorem t_M_isName_1 {N B C : Nat × FT} : fw_S s_M_isName [(0, 2)] 8 (rtS (cE 0)) N B C := fs_ret (fe_iconst dX12_isName_8) dX12_isName_9
set_option maxRecDepth 20000 in
theorem t_M_isName_2 {B C : Nat × FT} : fw_S s_M_isName [(0, 2)] 10 (stS 1 (cE 0)) (12, [(0, 2), (1, 0)]) B C := fs_istn (fe_iconst dX12_isName_10) dX12_isName_11 (by decide) rfl
set_option maxRecDepth 20000 in
theorem t_M_isName_3 : fw_B s_M_isName [(0, 2), (1, 0)] 0 12 18 38 (nB (cB 4 (vE 1) (cE 16))) := (fb_not (fb_icmp_gt (fe_iloadn 1 rfl dX12_isName_12) (fe_bipush dX12_isName_13) dX12_isName_15 rfl))
set_option maxRecDepth 20000 in
theorem t_M_isName_4 : fw_B s_M_isName [(0, 2), (1, 0)] 0 18 30 32 (nB (zB 1 (o2 cmpL (thE (cE 0) (gE 12)) (clE m_M_wordOf [(vE 1)])))) := (fb_not (fb_if_ne (fe_lcmp (fe_getL (fe_aloadn 0 rfl dX12_isName_18) fl_RX12_126 lm_0 rfl dX12_isName_19) (fe_callS (fa_cons (fe_iloadn 1 rfl dX12_isName_22) fa_nil) C_M_wordOf ls_RX12_149 rfl (by decide) (by decide) (by decide) dX12_isName_23) dX12_isName_26) dX12_isName_27 rfl))
set_option maxRecDepth 20000 in
theorem t_M_isName_5 {N B C : Nat × FT} : fw_S s_M_isName [(0, 2), (1, 0)] 30 (rtS (cE 0)) N B C := fs_ret (fe_iconst dX12_isName_30) dX12_isName_31
set_option maxRecDepth 20000 in
theorem t_M_isName_6 {B C : Nat × FT} : fw_S s_M_isName [(0, 2), (1, 0)] 32 (inS 1 1) (35, [(0, 2), (1, 0)]) B C := fs_inc (j := 1) rfl dX12_isName_32 (by decide) rfl
set_option maxRecDepth 20000 in
theorem t_M_isName_7 {B C : Nat × FT} : fw_S s_M_isName [(0, 2), (1, 0)] 12 (whS (nB (cB 4 (vE 1) (cE 16))) (ifS (nB (zB 1 (o2 cmpL (thE (cE 0) (gE 12)) (clE m_M_wordOf [(vE 1)])))) (rtS (cE 0)) skS) (inS 1 1) FU) (38, [(0, 2), (1, 0)]) B C := fs_while t_M_isName_3 (fs_if t_M_isName_4 t_M_isName_5 (fs_skip rfl)) (fs_goto t_M_isName_6 dX12_isName_35 rfl)
set_option maxRecDepth 20000 in
theorem t_M_isName_8 {N B C : Nat × FT} : fw_S s_M_isName [(0, 2)] 38 (rtS (cE 1)) N B C := fs_ret (fe_iconst dX12_isName_38) dX12_isName_39
set_option maxRecDepth 20000 in
theorem C_M_isName : fw_C LM yX12_isName cX12_isName 2 (some .boolean) 3 [2] (some 0) m_M_isName := fm_z (d := 3) (N := (0, [])) (B := (0, [])) (C := (0, [])) LM_ok (by decide +kernel) (show fw_S s_M_isName _ 0 b_M_isName _ _ _ from (fs_seq (fs_if t_M_isName_0 t_M_isName_1 (fs_skip rfl)) (fs_seq (fs_seq t_M_isName_2 (fs_weak t_M_isName_7 rfl)) t_M_isName_8))) (by decide)
/-! DyerBellsModel.findIn (this 0 ) -/
abbrev s_M_findIn : SI := (LM, RX12, cX12_findIn, 5, 1, some 0)
set_option maxRecDepth 20000 in
theorem t_M_findIn_0 {B C : Nat × FT} : fw_S s_M_findIn [(0, 2), (1, 9), (2, 0), (3, 0)] 0 (stS 4 (cE 0)) (3, [(0, 2), (1, 9), (2, 0), (3, 0), (4, 0)]) B C := fs_ist (fe_iconst dX12_findIn_0) dX12_findIn_1 (by decide) rfl
set_option maxRecDepth 20000 in
theorem t_M_findIn_1 : fw_B s_M_findIn [(0, 2), (1, 9), (2, 0), (3, 0), (4, 0)] 0 3 9 32 (nB (cB 3 (vE 4) (vE 3))) := (fb_not (fb_icmp_ge (fe_iload 4 rfl dX12_findIn_3) (fe_iloadn 3 rfl dX12_findIn_5) dX12_findIn_6 rfl))
set_option maxRecDepth 20000 in
theorem t_M_findIn_2 : fw_B s_M_findIn [(0, 2), (1, 9), (2, 0), (3, 0), (4, 0)] 0 9 23 26 (nB (zB 1 (o2 cmpL (ldE 448 26 (cE 0) (o2 addI (vE 2) (vE 4))) (thE (cE 0) (gE 12))))) := (fb_not (fb_if_ne (fe_lcmp (fe_lald (fe_aloadn 1 rfl dX12_findIn_9) (fe_iadd (fe_iloadn 2 rfl dX12_findIn_10) (fe_iload 4 rfl dX12_findIn_11) dX12_findIn_13) lm_7 dX12_findIn_14) (fe_getL (fe_aloadn 0 rfl dX12_findIn_15) fl_RX12_126 lm_0 rfl dX12_findIn_16) dX12_findIn_19) dX12_findIn_20 rfl))
set_option maxRecDepth 20000 in
theorem t_M_findIn_3 {N B C : Nat × FT} : fw_S s_M_findIn [(0, 2), (1, 9), (2, 0), (3, 0), (4, 0)] 23 (rtS (vE 4)) N B C := fs_ret (fe_iload 4 rfl dX12_findIn_23) dX12_findIn_25
set_option maxRecDepth 20000 in
theorem t_M_findIn_4 {B C : Nat × FT} : fw_S s_M_findIn [(0, 2), (1, 9), (2, 0), (3, 0), (4, 0)] 26 (inS 4 1) (29, [(0, 2), (1, 9), (2, 0), (3, 0), (4, 0)]) B C := fs_inc (j := 4) rfl dX12_findIn_26 (by decide) rfl
set_option maxRecDepth 20000 in
theorem t_M_findIn_5 {B C : Nat × FT} : fw_S s_M_findIn [(0, 2), (1, 9), (2, 0), (3, 0), (4, 0)] 3 (whS (nB (cB 3 (vE 4) (vE 3))) (ifS (nB (zB 1 (o2 cmpL (ldE 448 26 (cE 0) (o2 addI (vE 2) (vE 4))) (thE (cE 0) (gE 12))))) (rtS (vE 4)) skS) (inS 4 1) FU) (32, [(0, 2), (1, 9), (2, 0), (3, 0), (4, 0)]) B C := fs_while t_M_findIn_1 (fs_if t_M_findIn_2 t_M_findIn_3 (fs_skip rfl)) (fs_goto t_M_findIn_4 dX12_findIn_29 rfl)
set_option maxRecDepth 20000 in
theorem t_M_findIn_6 {N B C : Nat × FT} : fw_S s_M_findIn [(0, 2), (1, 9), (2, 0), (3, 0)] 32 (rtS (cE (-1))) N B C := fs_ret (fe_iconst dX12_findIn_32) dX12_findIn_33
set_option maxRecDepth 20000 in
theorem C_M_findIn : fw_C LM yX12_findIn cX12_findIn 5 (some .int) 1 [2, 9, 0, 0] (some 0) m_M_findIn := fm_i (d := 1) (N := (0, [])) (B := (0, [])) (C := (0, [])) LM_ok (by decide +kernel) (show fw_S s_M_findIn _ 0 b_M_findIn _ _ _ from (fs_seq (fs_seq t_M_findIn_0 (fs_weak t_M_findIn_5 rfl)) t_M_findIn_6)) (by decide)
/-! DyerBellsModel.isTold (this 0 ) -/
abbrev s_M_isTold : SI := (LM, RX12, cX12_isTold, 1, 2, some 0)
set_option maxRecDepth 20000 in
theorem t_M_isTold_0 {N B C : Nat × FT} : fw_S s_M_isTold [(0, 2)] 0 (rtS (kE (orB (orB (orB (cB 1 (clE m_M_findIn [(cE 0), (thE (cE 0) (cE 0)), (cE 0), (ldE 192 160 (thE (cE 0) (cE 0)) (cE 0))]) (cE (-1))) (cB 1 (clE m_M_findIn [(cE 0), (thE (cE 0) (cE 0)), (cE 10), (ldE 192 160 (thE (cE 0) (cE 0)) (cE 1))]) (cE (-1)))) (cB 1 (clE m_M_findIn [(cE 0), (thE (cE 0) (cE 0)), (cE 14), (ldE 192 160 (thE (cE 0) (cE 0)) (cE 2))]) (cE (-1)))) (nB (cB 0 (clE m_M_findIn [(cE 0), (thE (cE 0) (cE 0)), (cE 20), (ldE 192 160 (thE (cE 0) (cE 0)) (cE 3))]) (cE (-1))))) (cE 1) (cE 0))) N B C := fs_ret (fe_ternG (fb_or (fb_or (fb_or (fb_icmp_ne (fe_callV (fa_cons (fe_aloadn 0 rfl dX12_isTold_0) (fa_cons (fe_getR (fe_aloadn 0 rfl dX12_isTold_1) fl_RX12_29 lm_0 rfl dX12_isTold_2) (fa_cons (fe_iconst dX12_isTold_5) (fa_cons (fe_iald (fe_getR (fe_aloadn 0 rfl dX12_isTold_6) fl_RX12_16 lm_0 rfl dX12_isTold_7) (fe_iconst dX12_isTold_10) lm_3 dX12_isTold_11) fa_nil)))) C_M_findIn lv_RX12_202 lm_0 rfl rfl (by decide) (by decide) (by decide) dX12_isTold_12) (fe_iconst dX12_isTold_15) dX12_isTold_16 rfl) (fb_icmp_ne (fe_callV (fa_cons (fe_aloadn 0 rfl dX12_isTold_19) (fa_cons (fe_getR (fe_aloadn 0 rfl dX12_isTold_20) fl_RX12_29 lm_0 rfl dX12_isTold_21) (fa_cons (fe_bipush dX12_isTold_24) (fa_cons (fe_iald (fe_getR (fe_aloadn 0 rfl dX12_isTold_26) fl_RX12_16 lm_0 rfl dX12_isTold_27) (fe_iconst dX12_isTold_30) lm_3 dX12_isTold_31) fa_nil)))) C_M_findIn lv_RX12_202 lm_0 rfl rfl (by decide) (by decide) (by decide) dX12_isTold_32) (fe_iconst dX12_isTold_35) dX12_isTold_36 rfl)) (fb_icmp_ne (fe_callV (fa_cons (fe_aloadn 0 rfl dX12_isTold_39) (fa_cons (fe_getR (fe_aloadn 0 rfl dX12_isTold_40) fl_RX12_29 lm_0 rfl dX12_isTold_41) (fa_cons (fe_bipush dX12_isTold_44) (fa_cons (fe_iald (fe_getR (fe_aloadn 0 rfl dX12_isTold_46) fl_RX12_16 lm_0 rfl dX12_isTold_47) (fe_iconst dX12_isTold_50) lm_3 dX12_isTold_51) fa_nil)))) C_M_findIn lv_RX12_202 lm_0 rfl rfl (by decide) (by decide) (by decide) dX12_isTold_52) (fe_iconst dX12_isTold_55) dX12_isTold_56 rfl)) (fb_not (fb_icmp_eq (fe_callV (fa_cons (fe_aloadn 0 rfl dX12_isTold_59) (fa_cons (fe_getR (fe_aloadn 0 rfl dX12_isTold_60) fl_RX12_29 lm_0 rfl dX12_isTold_61) (fa_cons (fe_bipush dX12_isTold_64) (fa_cons (fe_iald (fe_getR (fe_aloadn 0 rfl dX12_isTold_66) fl_RX12_16 lm_0 rfl dX12_isTold_67) (fe_iconst dX12_isTold_70) lm_3 dX12_isTold_71) fa_nil)))) C_M_findIn lv_RX12_202 lm_0 rfl rfl (by decide) (by decide) (by decide) dX12_isTold_72) (fe_iconst dX12_isTold_75) dX12_isTold_76 rfl))) (fe_gt (fe_iconst dX12_isTold_79) dX12_isTold_80 rfl) (fe_iconst dX12_isTold_83)) dX12_isTold_84
set_option maxRecDepth 20000 in
theorem C_M_isTold : fw_C LM yX12_isTold cX12_isTold 1 (some .boolean) 2 [2] (some 0) m_M_isTold := fm_z (d := 2) (N := (0, [])) (B := (0, [])) (C := (0, [])) LM_ok (by decide +kernel) (show fw_S s_M_isTold _ 0 b_M_isTold _ _ _ from t_M_isTold_0) (by decide)
/-! DyerBellsModel.readNew (this 0 ) -/
abbrev s_M_readNew : SI := (LM, RX12, cX12_readNew, 2, 4, some 0)
set_option maxRecDepth 20000 in
theorem t_M_readNew_0 : fw_B s_M_readNew [(0, 2), (1, 0)] 0 0 7 13 (nB (zB 1 (clE m_M_isName [(cE 0)]))) := (fb_not (fb_if_ne (fe_callV (fa_cons (fe_aloadn 0 rfl dX12_readNew_0) fa_nil) C_M_isName lv_RX12_206 lm_0 rfl rfl (by decide) (by decide) (by decide) dX12_readNew_1) dX12_readNew_4 rfl))
set_option maxRecDepth 20000 in
theorem t_M_readNew_1 {N B C : Nat × FT} : fw_S s_M_readNew [(0, 2), (1, 0)] 7 (rtS (clE m_M_bad [(cE 0), (cE 1)])) N B C := fs_ret (fe_callV (fa_cons (fe_aloadn 0 rfl dX12_readNew_7) (fa_cons (fe_iconst dX12_readNew_8) fa_nil)) C_M_bad lv_RX12_159 lm_0 rfl rfl (by decide) (by decide) (by decide) dX12_readNew_9) dX12_readNew_12
set_option maxRecDepth 20000 in
theorem t_M_readNew_2 : fw_B s_M_readNew [(0, 2), (1, 0)] 0 13 20 26 (nB (zB 0 (clE m_M_isTold [(cE 0)]))) := (fb_not (fb_if_eq (fe_callV (fa_cons (fe_aloadn 0 rfl dX12_readNew_13) fa_nil) C_M_isTold lv_RX12_210 lm_0 rfl rfl (by decide) (by decide) (by decide) dX12_readNew_14) dX12_readNew_17 rfl))
set_option maxRecDepth 20000 in
theorem t_M_readNew_3 {N B C : Nat × FT} : fw_S s_M_readNew [(0, 2), (1, 0)] 20 (rtS (clE m_M_bad [(cE 0), (cE 3)])) N B C := fs_ret (fe_callV (fa_cons (fe_aloadn 0 rfl dX12_readNew_20) (fa_cons (fe_iconst dX12_readNew_21) fa_nil)) C_M_bad lv_RX12_159 lm_0 rfl rfl (by decide) (by decide) (by decide) dX12_readNew_22) dX12_readNew_25
set_option maxRecDepth 20000 in
theorem t_M_readNew_4 {B C : Nat × FT} : fw_S s_M_readNew [(0, 2), (1, 0)] 26 (asS 448 26 idI (thE (cE 0) (cE 0)) (vE 1) (thE (cE 0) (gE 12))) (36, [(0, 2), (1, 0)]) B C := fs_last (fe_getR (fe_aloadn 0 rfl dX12_readNew_26) fl_RX12_29 lm_0 rfl dX12_readNew_27) (fe_iloadn 1 rfl dX12_readNew_30) (fe_getL (fe_aloadn 0 rfl dX12_readNew_31) fl_RX12_126 lm_0 rfl dX12_readNew_32) lm_7 dX12_readNew_35 rfl
set_option maxRecDepth 20000 in
theorem t_M_readNew_5 {B C : Nat × FT} : fw_S s_M_readNew [(0, 2), (1, 0)] 36 (exS (clE m_M_go [(cE 0)])) (40, [(0, 2), (1, 0)]) B C := fs_callV (t := 0) (fa_cons (fe_aloadn 0 rfl dX12_readNew_36) fa_nil) C_M_go lv_RX12_169 lm_0 rfl rfl (by decide) (by decide) dX12_readNew_37 rfl
set_option maxRecDepth 20000 in
theorem t_M_readNew_6 {N B C : Nat × FT} : fw_S s_M_readNew [(0, 2), (1, 0)] 40 (rtS (cE 1)) N B C := fs_ret (fe_iconst dX12_readNew_40) dX12_readNew_41
set_option maxRecDepth 20000 in
theorem C_M_readNew : fw_C LM yX12_readNew cX12_readNew 2 (some .boolean) 4 [2, 0] (some 0) m_M_readNew := fm_z (d := 4) (N := (0, [])) (B := (0, [])) (C := (0, [])) LM_ok (by decide +kernel) (show fw_S s_M_readNew _ 0 b_M_readNew _ _ _ from (fs_seq (fs_if t_M_readNew_0 t_M_readNew_1 (fs_skip rfl)) (fs_seq (fs_if t_M_readNew_2 t_M_readNew_3 (fs_skip rfl)) (fs_seq t_M_readNew_4 (fs_seq t_M_readNew_5 t_M_readNew_6))))) (by decide)
/-! DyerBellsModel.isIn -/
abbrev s_M_isIn : SI := (LM, RX12, cX12_isIn, 3, 1, some 0)
set_option maxRecDepth 20000 in
theorem t_M_isIn_0 {N B C : Nat × FT} : fw_S s_M_isIn [(0, 0), (1, 0), (2, 0)] 0 (rtS (kE (andB (nB (cB 2 (vE 0) (vE 1))) (nB (cB 4 (vE 0) (vE 2)))) (cE 1) (cE 0))) N B C := fs_ret (fe_ternG (fb_and (fb_not (fb_icmp_lt (fe_iloadn 0 rfl dX12_isIn_0) (fe_iloadn 1 rfl dX12_isIn_1) dX12_isIn_2 rfl)) (fb_not (fb_icmp_gt (fe_iloadn 0 rfl dX12_isIn_5) (fe_iloadn 2 rfl dX12_isIn_6) dX12_isIn_7 rfl))) (fe_gt (fe_iconst dX12_isIn_10) dX12_isIn_11 rfl) (fe_iconst dX12_isIn_14)) dX12_isIn_15
set_option maxRecDepth 20000 in
theorem C_M_isIn : fw_C LM yX12_isIn cX12_isIn 3 (some .boolean) 1 [0, 0, 0] (some 0) m_M_isIn := fm_z (d := 1) (N := (0, [])) (B := (0, [])) (C := (0, [])) LM_ok (by decide +kernel) (show fw_S s_M_isIn _ 0 b_M_isIn _ _ _ from t_M_isIn_0) (by decide)
/-! DyerBellsModel.readNumber (this 0 ) -/
abbrev s_M_readNumber : SI := (LM, RX12, cX12_readNumber, 3, 3, some 0)
set_option maxRecDepth 20000 in
theorem t_M_readNumber_0 : fw_B s_M_readNumber [(0, 2), (1, 0), (2, 0)] 0 0 8 14 (nB (cB 0 (thE (cE 0) (gE 7)) (cE 3))) := (fb_not (fb_icmp_eq (fe_getI (fe_aloadn 0 rfl dX12_readNumber_0) fl_RX12_113 lm_0 rfl dX12_readNumber_1) (fe_iconst dX12_readNumber_4) dX12_readNumber_5 rfl))
set_option maxRecDepth 20000 in
theorem t_M_readNumber_1 {N B C : Nat × FT} : fw_S s_M_readNumber [(0, 2), (1, 0), (2, 0)] 8 (rtS (clE m_M_bad [(cE 0), (cE 1)])) N B C := fs_ret (fe_callV (fa_cons (fe_aloadn 0 rfl dX12_readNumber_8) (fa_cons (fe_iconst dX12_readNumber_9) fa_nil)) C_M_bad lv_RX12_159 lm_0 rfl rfl (by decide) (by decide) (by decide) dX12_readNumber_10) dX12_readNumber_13
set_option maxRecDepth 20000 in
theorem t_M_readNumber_2 : fw_B s_M_readNumber [(0, 2), (1, 0), (2, 0)] 0 14 26 32 (nB (zB 1 (clE m_M_isIn [(thE (cE 0) (gE 8)), (vE 1), (vE 2)]))) := (fb_not (fb_if_ne (fe_callS (fa_cons (fe_getI (fe_aloadn 0 rfl dX12_readNumber_14) fl_RX12_130 lm_0 rfl dX12_readNumber_15) (fa_cons (fe_iloadn 1 rfl dX12_readNumber_18) (fa_cons (fe_iloadn 2 rfl dX12_readNumber_19) fa_nil))) C_M_isIn ls_RX12_162 rfl (by decide) (by decide) (by decide) dX12_readNumber_20) dX12_readNumber_23 rfl))
set_option maxRecDepth 20000 in
theorem t_M_readNumber_3 {N B C : Nat × FT} : fw_S s_M_readNumber [(0, 2), (1, 0), (2, 0)] 26 (rtS (clE m_M_bad [(cE 0), (cE 2)])) N B C := fs_ret (fe_callV (fa_cons (fe_aloadn 0 rfl dX12_readNumber_26) (fa_cons (fe_iconst dX12_readNumber_27) fa_nil)) C_M_bad lv_RX12_159 lm_0 rfl rfl (by decide) (by decide) (by decide) dX12_readNumber_28) dX12_readNumber_31
set_option maxRecDepth 20000 in
theorem t_M_readNumber_4 {B C : Nat × FT} : fw_S s_M_readNumber [(0, 2), (1, 0), (2, 0)] 32 (pfS 13 (cE 0) (thE (cE 0) (gE 8))) (40, [(0, 2), (1, 0), (2, 0)]) B C := fs_put (fe_aloadn 0 rfl dX12_readNumber_32) (fe_getI (fe_aloadn 0 rfl dX12_readNumber_33) fl_RX12_130 lm_0 rfl dX12_readNumber_34) fp_RX12_166 lm_0 rfl dX12_readNumber_37 rfl
set_option maxRecDepth 20000 in
theorem t_M_readNumber_5 {B C : Nat × FT} : fw_S s_M_readNumber [(0, 2), (1, 0), (2, 0)] 40 (exS (clE m_M_go [(cE 0)])) (44, [(0, 2), (1, 0), (2, 0)]) B C := fs_callV (t := 0) (fa_cons (fe_aloadn 0 rfl dX12_readNumber_40) fa_nil) C_M_go lv_RX12_169 lm_0 rfl rfl (by decide) (by decide) dX12_readNumber_41 rfl
set_option maxRecDepth 20000 in
theorem t_M_readNumber_6 {N B C : Nat × FT} : fw_S s_M_readNumber [(0, 2), (1, 0), (2, 0)] 44 (rtS (cE 1)) N B C := fs_ret (fe_iconst dX12_readNumber_44) dX12_readNumber_45
set_option maxRecDepth 20000 in
theorem C_M_readNumber : fw_C LM yX12_readNumber cX12_readNumber 3 (some .boolean) 3 [2, 0, 0] (some 0) m_M_readNumber := fm_z (d := 3) (N := (0, [])) (B := (0, [])) (C := (0, [])) LM_ok (by decide +kernel) (show fw_S s_M_readNumber _ 0 b_M_readNumber _ _ _ from (fs_seq (fs_if t_M_readNumber_0 t_M_readNumber_1 (fs_skip rfl)) (fs_seq (fs_if t_M_readNumber_2 t_M_readNumber_3 (fs_skip rfl)) (fs_seq t_M_readNumber_4 (fs_seq t_M_readNumber_5 t_M_readNumber_6))))) (by decide)
/-! DyerBellsModel.readReach (this 0 ) -/
abbrev s_M_readReach : SI := (LM, RX12, cX12_readReach, 2, 5, some 0)
set_option maxRecDepth 20000 in
theorem t_M_readReach_0 {B C : Nat × FT} : fw_S s_M_readReach [(0, 2)] 0 (stS 1 (ldE 192 160 (thE (cE 0) (cE 0)) (cE 0))) (7, [(0, 2), (1, 0)]) B C := fs_istn (fe_iald (fe_getR (fe_aloadn 0 rfl dX12_readReach_0) fl_RX12_16 lm_0 rfl dX12_readReach_1) (fe_iconst dX12_readReach_4) lm_3 dX12_readReach_5) dX12_readReach_6 (by decide) rfl
set_option maxRecDepth 20000 in
theorem t_M_readReach_1 : fw_B s_M_readReach [(0, 2), (1, 0)] 0 7 13 19 (nB (cB 1 (vE 1) (cE 10))) := (fb_not (fb_icmp_ne (fe_iloadn 1 rfl dX12_readReach_7) (fe_bipush dX12_readReach_8) dX12_readReach_10 rfl))
set_option maxRecDepth 20000 in
theorem t_M_readReach_2 {N B C : Nat × FT} : fw_S s_M_readReach [(0, 2), (1, 0)] 13 (rtS (clE m_M_bad [(cE 0), (cE 4)])) N B C := fs_ret (fe_callV (fa_cons (fe_aloadn 0 rfl dX12_readReach_13) (fa_cons (fe_iconst dX12_readReach_14) fa_nil)) C_M_bad lv_RX12_159 lm_0 rfl rfl (by decide) (by decide) (by decide) dX12_readReach_15) dX12_readReach_18
set_option maxRecDepth 20000 in
theorem t_M_readReach_3 {B C : Nat × FT} : fw_S s_M_readReach [(0, 2), (1, 0)] 19 (exS (clE m_M_go [(cE 0)])) (23, [(0, 2), (1, 0)]) B C := fs_callV (t := 0) (fa_cons (fe_aloadn 0 rfl dX12_readReach_19) fa_nil) C_M_go lv_RX12_169 lm_0 rfl rfl (by decide) (by decide) dX12_readReach_20 rfl
set_option maxRecDepth 20000 in
theorem t_M_readReach_4 : fw_B s_M_readReach [(0, 2), (1, 0)] 0 23 44 46 (orB (zB 0 (clE m_M_readNew [(cE 0), (o2 addI (cE 0) (vE 1))])) (nB (zB 1 (clE m_M_readNumber [(cE 0), (cE 1), (cE 9999)])))) := (fb_or (fb_if_eq (fe_callV (fa_cons (fe_aloadn 0 rfl dX12_readReach_23) (fa_cons (fe_iadd (fe_iconst dX12_readReach_24) (fe_iloadn 1 rfl dX12_readReach_25) dX12_readReach_26) fa_nil)) C_M_readNew lv_RX12_213 lm_0 rfl rfl (by decide) (by decide) (by decide) dX12_readReach_27) dX12_readReach_30 rfl) (fb_not (fb_if_ne (fe_callV (fa_cons (fe_aloadn 0 rfl dX12_readReach_33) (fa_cons (fe_iconst dX12_readReach_34) (fa_cons (fe_sipush dX12_readReach_35) fa_nil))) C_M_readNumber lv_RX12_216 lm_0 rfl rfl (by decide) (by decide) (by decide) dX12_readReach_38) dX12_readReach_41 rfl)))
set_option maxRecDepth 20000 in
theorem t_M_readReach_5 {N B C : Nat × FT} : fw_S s_M_readReach [(0, 2), (1, 0)] 44 (rtS (cE 0)) N B C := fs_ret (fe_iconst dX12_readReach_44) dX12_readReach_45
set_option maxRecDepth 20000 in
theorem t_M_readReach_6 {B C : Nat × FT} : fw_S s_M_readReach [(0, 2), (1, 0)] 46 (asS 192 160 idI (thE (cE 0) (cE 0)) (o2 addI (cE 10) (o2 mulI (cE 2) (vE 1))) (thE (cE 0) (gE 13))) (61, [(0, 2), (1, 0)]) B C := fs_iast (fe_getR (fe_aloadn 0 rfl dX12_readReach_46) fl_RX12_16 lm_0 rfl dX12_readReach_47) (fe_iadd (fe_bipush dX12_readReach_50) (fe_imul (fe_iconst dX12_readReach_52) (fe_iloadn 1 rfl dX12_readReach_53) dX12_readReach_54) dX12_readReach_55) (fe_getI (fe_aloadn 0 rfl dX12_readReach_56) fl_RX12_166 lm_0 rfl dX12_readReach_57) lm_3 dX12_readReach_60 rfl
set_option maxRecDepth 20000 in
theorem t_M_readReach_7 : fw_B s_M_readReach [(0, 2), (1, 0)] 0 61 72 74 (nB (zB 1 (clE m_M_readNumber [(cE 0), (cE 0), (cE 500)]))) := (fb_not (fb_if_ne (fe_callV (fa_cons (fe_aloadn 0 rfl dX12_readReach_61) (fa_cons (fe_iconst dX12_readReach_62) (fa_cons (fe_sipush dX12_readReach_63) fa_nil))) C_M_readNumber lv_RX12_216 lm_0 rfl rfl (by decide) (by decide) (by decide) dX12_readReach_66) dX12_readReach_69 rfl))
set_option maxRecDepth 20000 in
theorem t_M_readReach_8 {N B C : Nat × FT} : fw_S s_M_readReach [(0, 2), (1, 0)] 72 (rtS (cE 0)) N B C := fs_ret (fe_iconst dX12_readReach_72) dX12_readReach_73
set_option maxRecDepth 20000 in
theorem t_M_readReach_9 {B C : Nat × FT} : fw_S s_M_readReach [(0, 2), (1, 0)] 74 (asS 192 160 idI (thE (cE 0) (cE 0)) (o2 addI (o2 addI (cE 10) (o2 mulI (cE 2) (vE 1))) (cE 1)) (thE (cE 0) (gE 13))) (91, [(0, 2), (1, 0)]) B C := fs_iast (fe_getR (fe_aloadn 0 rfl dX12_readReach_74) fl_RX12_16 lm_0 rfl dX12_readReach_75) (fe_iadd (fe_iadd (fe_bipush dX12_readReach_78) (fe_imul (fe_iconst dX12_readReach_80) (fe_iloadn 1 rfl dX12_readReach_81) dX12_readReach_82) dX12_readReach_83) (fe_iconst dX12_readReach_84) dX12_readReach_85) (fe_getI (fe_aloadn 0 rfl dX12_readReach_86) fl_RX12_166 lm_0 rfl dX12_readReach_87) lm_3 dX12_readReach_90 rfl
set_option maxRecDepth 20000 in
theorem t_M_readReach_10 {B C : Nat × FT} : fw_S s_M_readReach [(0, 2), (1, 0)] 91 (aoS 192 160 addI (thE (cE 0) (cE 0)) (cE 0) (cE 1)) (101, [(0, 2), (1, 0)]) B C := fs_ao_add (fe_getR (fe_aloadn 0 rfl dX12_readReach_91) fl_RX12_16 lm_0 rfl dX12_readReach_92) (fe_iconst dX12_readReach_95) dX12_readReach_96 dX12_readReach_97 (fe_iconst dX12_readReach_98) dX12_readReach_99 lm_3 dX12_readReach_100 rfl
set_option maxRecDepth 20000 in
theorem t_M_readReach_11 {N B C : Nat × FT} : fw_S s_M_readReach [(0, 2), (1, 0)] 101 (rtS (cE 1)) N B C := fs_ret (fe_iconst dX12_readReach_101) dX12_readReach_102
set_option maxRecDepth 20000 in
theorem C_M_readReach : fw_C LM yX12_readReach cX12_readReach 2 (some .boolean) 5 [2] (some 0) m_M_readReach := fm_z (d := 5) (N := (0, [])) (B := (0, [])) (C := (0, [])) LM_ok (by decide +kernel) (show fw_S s_M_readReach _ 0 b_M_readReach _ _ _ from (fs_seq t_M_readReach_0 (fs_seq (fs_if t_M_readReach_1 t_M_readReach_2 (fs_skip rfl)) (fs_seq t_M_readReach_3 (fs_seq (fs_if t_M_readReach_4 t_M_readReach_5 (fs_skip rfl)) (fs_seq t_M_readReach_6 (fs_seq (fs_if t_M_readReach_7 t_M_readReach_8 (fs_skip rfl)) (fs_seq t_M_readReach_9 (fs_seq t_M_readReach_10 t_M_readReach_11))))))))) (by decide)
/-! DyerBellsModel.readColour (this 0 ) -/
abbrev s_M_readColour : SI := (LM, RX12, cX12_readColour, 2, 5, some 0)
set_option maxRecDepth 20000 in
theorem t_M_readColour_0 {B C : Nat × FT} : fw_S s_M_readColour [(0, 2)] 0 (stS 1 (ldE 192 160 (thE (cE 0) (cE 0)) (cE 1))) (7, [(0, 2), (1, 0)]) B C := fs_istn (fe_iald (fe_getR (fe_aloadn 0 rfl dX12_readColour_0) fl_RX12_16 lm_0 rfl dX12_readColour_1) (fe_iconst dX12_readColour_4) lm_3 dX12_readColour_5) dX12_readColour_6 (by decide) rfl
set_option maxRecDepth 20000 in
theorem t_M_readColour_1 : fw_B s_M_readColour [(0, 2), (1, 0)] 0 7 12 18 (nB (cB 1 (vE 1) (cE 4))) := (fb_not (fb_icmp_ne (fe_iloadn 1 rfl dX12_readColour_7) (fe_iconst dX12_readColour_8) dX12_readColour_9 rfl))
set_option maxRecDepth 20000 in
theorem t_M_readColour_2 {N B C : Nat × FT} : fw_S s_M_readColour [(0, 2), (1, 0)] 12 (rtS (clE m_M_bad [(cE 0), (cE 4)])) N B C := fs_ret (fe_callV (fa_cons (fe_aloadn 0 rfl dX12_readColour_12) (fa_cons (fe_iconst dX12_readColour_13) fa_nil)) C_M_bad lv_RX12_159 lm_0 rfl rfl (by decide) (by decide) (by decide) dX12_readColour_14) dX12_readColour_17
set_option maxRecDepth 20000 in
theorem t_M_readColour_3 {B C : Nat × FT} : fw_S s_M_readColour [(0, 2), (1, 0)] 18 (exS (clE m_M_go [(cE 0)])) (22, [(0, 2), (1, 0)]) B C := fs_callV (t := 0) (fa_cons (fe_aloadn 0 rfl dX12_readColour_18) fa_nil) C_M_go lv_RX12_169 lm_0 rfl rfl (by decide) (by decide) dX12_readColour_19 rfl
set_option maxRecDepth 20000 in
theorem t_M_readColour_4 : fw_B s_M_readColour [(0, 2), (1, 0)] 0 22 33 35 (nB (zB 1 (clE m_M_readNew [(cE 0), (o2 addI (cE 10) (vE 1))]))) := (fb_not (fb_if_ne (fe_callV (fa_cons (fe_aloadn 0 rfl dX12_readColour_22) (fa_cons (fe_iadd (fe_bipush dX12_readColour_23) (fe_iloadn 1 rfl dX12_readColour_25) dX12_readColour_26) fa_nil)) C_M_readNew lv_RX12_213 lm_0 rfl rfl (by decide) (by decide) (by decide) dX12_readColour_27) dX12_readColour_30 rfl))
set_option maxRecDepth 20000 in
theorem t_M_readColour_5 {N B C : Nat × FT} : fw_S s_M_readColour [(0, 2), (1, 0)] 33 (rtS (cE 0)) N B C := fs_ret (fe_iconst dX12_readColour_33) dX12_readColour_34
set_option maxRecDepth 20000 in
theorem t_M_readColour_6 {B C : Nat × FT} : fw_S s_M_readColour [(0, 2), (1, 0)] 35 (aoS 192 160 addI (thE (cE 0) (cE 0)) (cE 1) (cE 1)) (45, [(0, 2), (1, 0)]) B C := fs_ao_add (fe_getR (fe_aloadn 0 rfl dX12_readColour_35) fl_RX12_16 lm_0 rfl dX12_readColour_36) (fe_iconst dX12_readColour_39) dX12_readColour_40 dX12_readColour_41 (fe_iconst dX12_readColour_42) dX12_readColour_43 lm_3 dX12_readColour_44 rfl
set_option maxRecDepth 20000 in
theorem t_M_readColour_7 {N B C : Nat × FT} : fw_S s_M_readColour [(0, 2), (1, 0)] 45 (rtS (cE 1)) N B C := fs_ret (fe_iconst dX12_readColour_45) dX12_readColour_46
set_option maxRecDepth 20000 in
theorem C_M_readColour : fw_C LM yX12_readColour cX12_readColour 2 (some .boolean) 5 [2] (some 0) m_M_readColour := fm_z (d := 5) (N := (0, [])) (B := (0, [])) (C := (0, [])) LM_ok (by decide +kernel) (show fw_S s_M_readColour _ 0 b_M_readColour _ _ _ from (fs_seq t_M_readColour_0 (fs_seq (fs_if t_M_readColour_1 t_M_readColour_2 (fs_skip rfl)) (fs_seq t_M_readColour_3 (fs_seq (fs_if t_M_readColour_4 t_M_readColour_5 (fs_skip rfl)) (fs_seq t_M_readColour_6 t_M_readColour_7)))))) (by decide)
/-! DyerBellsModel.readReachTold (this 0 ) -/
abbrev s_M_readReachTold : SI := (LM, RX12, cX12_readReachTold, 2, 4, some 0)
set_option maxRecDepth 20000 in
theorem t_M_readReachTold_0 : fw_B s_M_readReachTold [(0, 2)] 0 0 7 13 (nB (zB 1 (clE m_M_isName [(cE 0)]))) := (fb_not (fb_if_ne (fe_callV (fa_cons (fe_aloadn 0 rfl dX12_readReachTold_0) fa_nil) C_M_isName lv_RX12_206 lm_0 rfl rfl (by decide) (by decide) (by decide) dX12_readReachTold_1) dX12_readReachTold_4 rfl))
set_option maxRecDepth 20000 in
theorem t_M_readReachTold_1 {N B C : Nat × FT} : fw_S s_M_readReachTold [(0, 2)] 7 (rtS (clE m_M_bad [(cE 0), (cE 1)])) N B C := fs_ret (fe_callV (fa_cons (fe_aloadn 0 rfl dX12_readReachTold_7) (fa_cons (fe_iconst dX12_readReachTold_8) fa_nil)) C_M_bad lv_RX12_159 lm_0 rfl rfl (by decide) (by decide) (by decide) dX12_readReachTold_9) dX12_readReachTold_12
set_option maxRecDepth 20000 in
theorem t_M_readReachTold_2 {B C : Nat × FT} : fw_S s_M_readReachTold [(0, 2)] 13 (stS 1 (clE m_M_findIn [(cE 0), (thE (cE 0) (cE 0)), (cE 0), (ldE 192 160 (thE (cE 0) (cE 0)) (cE 0))])) (29, [(0, 2), (1, 0)]) B C := fs_istn (fe_callV (fa_cons (fe_aloadn 0 rfl dX12_readReachTold_13) (fa_cons (fe_getR (fe_aloadn 0 rfl dX12_readReachTold_14) fl_RX12_29 lm_0 rfl dX12_readReachTold_15) (fa_cons (fe_iconst dX12_readReachTold_18) (fa_cons (fe_iald (fe_getR (fe_aloadn 0 rfl dX12_readReachTold_19) fl_RX12_16 lm_0 rfl dX12_readReachTold_20) (fe_iconst dX12_readReachTold_23) lm_3 dX12_readReachTold_24) fa_nil)))) C_M_findIn lv_RX12_202 lm_0 rfl rfl (by decide) (by decide) (by decide) dX12_readReachTold_25) dX12_readReachTold_28 (by decide) rfl
set_option maxRecDepth 20000 in
theorem t_M_readReachTold_3 : fw_B s_M_readReachTold [(0, 2), (1, 0)] 0 29 34 40 (nB (cB 1 (vE 1) (cE (-1)))) := (fb_not (fb_icmp_ne (fe_iloadn 1 rfl dX12_readReachTold_29) (fe_iconst dX12_readReachTold_30) dX12_readReachTold_31 rfl))
set_option maxRecDepth 20000 in
theorem t_M_readReachTold_4 {N B C : Nat × FT} : fw_S s_M_readReachTold [(0, 2), (1, 0)] 34 (rtS (clE m_M_bad [(cE 0), (cE 3)])) N B C := fs_ret (fe_callV (fa_cons (fe_aloadn 0 rfl dX12_readReachTold_34) (fa_cons (fe_iconst dX12_readReachTold_35) fa_nil)) C_M_bad lv_RX12_159 lm_0 rfl rfl (by decide) (by decide) (by decide) dX12_readReachTold_36) dX12_readReachTold_39
set_option maxRecDepth 20000 in
theorem t_M_readReachTold_5 {B C : Nat × FT} : fw_S s_M_readReachTold [(0, 2), (1, 0)] 40 (pfS 13 (cE 0) (vE 1)) (45, [(0, 2), (1, 0)]) B C := fs_put (fe_aloadn 0 rfl dX12_readReachTold_40) (fe_iloadn 1 rfl dX12_readReachTold_41) fp_RX12_166 lm_0 rfl dX12_readReachTold_42 rfl
set_option maxRecDepth 20000 in
theorem t_M_readReachTold_6 {B C : Nat × FT} : fw_S s_M_readReachTold [(0, 2), (1, 0)] 45 (exS (clE m_M_go [(cE 0)])) (49, [(0, 2), (1, 0)]) B C := fs_callV (t := 0) (fa_cons (fe_aloadn 0 rfl dX12_readReachTold_45) fa_nil) C_M_go lv_RX12_169 lm_0 rfl rfl (by decide) (by decide) dX12_readReachTold_46 rfl
set_option maxRecDepth 20000 in
theorem t_M_readReachTold_7 {N B C : Nat × FT} : fw_S s_M_readReachTold [(0, 2), (1, 0)] 49 (rtS (cE 1)) N B C := fs_ret (fe_iconst dX12_readReachTold_49) dX12_readReachTold_50
set_option maxRecDepth 20000 in
theorem C_M_readReachTold : fw_C LM yX12_readReachTold cX12_readReachTold 2 (some .boolean) 4 [2] (some 0) m_M_readReachTold := fm_z (d := 4) (N := (0, [])) (B := (0, [])) (C := (0, [])) LM_ok (by decide +kernel) (show fw_S s_M_readReachTold _ 0 b_M_readReachTold _ _ _ from (fs_seq (fs_if t_M_readReachTold_0 t_M_readReachTold_1 (fs_skip rfl)) (fs_seq t_M_readReachTold_2 (fs_seq (fs_if t_M_readReachTold_3 t_M_readReachTold_4 (fs_skip rfl)) (fs_seq t_M_readReachTold_5 (fs_seq t_M_readReachTold_6 t_M_readReachTold_7)))))) (by decide)
/-! DyerBellsModel.has -/
abbrev s_M_has : SI := (LM, RX12, cX12_has, 2, 1, some 0)
set_option maxRecDepth 20000 in
theorem t_M_has_0 {N B C : Nat × FT} : fw_S s_M_has [(0, 0), (1, 0)] 0 (rtS (kE (nB (cB 1 (o2 andI (o2 shrI (vE 0) (vE 1)) (cE 1)) (cE 1))) (cE 1) (cE 0))) N B C := fs_ret (fe_ternG (fb_not (fb_icmp_ne (fe_iand (fe_ishr (fe_iloadn 0 rfl dX12_has_0) (fe_iloadn 1 rfl dX12_has_1) dX12_has_2) (fe_iconst dX12_has_3) dX12_has_4) (fe_iconst dX12_has_5) dX12_has_6 rfl)) (fe_gt (fe_iconst dX12_has_9) dX12_has_10 rfl) (fe_iconst dX12_has_13)) dX12_has_14
set_option maxRecDepth 20000 in
theorem C_M_has : fw_C LM yX12_has cX12_has 2 (some .boolean) 1 [0, 0] (some 0) m_M_has := fm_z (d := 1) (N := (0, [])) (B := (0, [])) (C := (0, [])) LM_ok (by decide +kernel) (show fw_S s_M_has _ 0 b_M_has _ _ _ from t_M_has_0) (by decide)
/-! DyerBellsModel.readColourTold (this 0 ) -/
abbrev s_M_readColourTold : SI := (LM, RX12, cX12_readColourTold, 3, 4, some 0)
set_option maxRecDepth 20000 in
theorem t_M_readColourTold_0 : fw_B s_M_readColourTold [(0, 2), (1, 0)] 0 0 7 13 (nB (zB 1 (clE m_M_isName [(cE 0)]))) := (fb_not (fb_if_ne (fe_callV (fa_cons (fe_aloadn 0 rfl dX12_readColourTold_0) fa_nil) C_M_isName lv_RX12_206 lm_0 rfl rfl (by decide) (by decide) (by decide) dX12_readColourTold_1) dX12_readColourTold_4 rfl))
set_option maxRecDepth 20000 in
theorem t_M_readColourTold_1 {N B C : Nat × FT} : fw_S s_M_readColourTold [(0, 2), (1, 0)] 7 (rtS (clE m_M_bad [(cE 0), (cE 1)])) N B C := fs_ret (fe_callV (fa_cons (fe_aloadn 0 rfl dX12_readColourTold_7) (fa_cons (fe_iconst dX12_readColourTold_8) fa_nil)) C_M_bad lv_RX12_159 lm_0 rfl rfl (by decide) (by decide) (by decide) dX12_readColourTold_9) dX12_readColourTold_12
set_option maxRecDepth 20000 in
theorem t_M_readColourTold_2 {B C : Nat × FT} : fw_S s_M_readColourTold [(0, 2), (1, 0)] 13 (stS 2 (clE m_M_findIn [(cE 0), (thE (cE 0) (cE 0)), (cE 10), (ldE 192 160 (thE (cE 0) (cE 0)) (cE 1))])) (30, [(0, 2), (1, 0), (2, 0)]) B C := fs_istn (fe_callV (fa_cons (fe_aloadn 0 rfl dX12_readColourTold_13) (fa_cons (fe_getR (fe_aloadn 0 rfl dX12_readColourTold_14) fl_RX12_29 lm_0 rfl dX12_readColourTold_15) (fa_cons (fe_bipush dX12_readColourTold_18) (fa_cons (fe_iald (fe_getR (fe_aloadn 0 rfl dX12_readColourTold_20) fl_RX12_16 lm_0 rfl dX12_readColourTold_21) (fe_iconst dX12_readColourTold_24) lm_3 dX12_readColourTold_25) fa_nil)))) C_M_findIn lv_RX12_202 lm_0 rfl rfl (by decide) (by decide) (by decide) dX12_readColourTold_26) dX12_readColourTold_29 (by decide) rfl
set_option maxRecDepth 20000 in
theorem t_M_readColourTold_3 : fw_B s_M_readColourTold [(0, 2), (1, 0), (2, 0)] 0 30 43 49 (orB (cB 0 (vE 2) (cE (-1))) (nB (zB 0 (clE m_M_has [(vE 1), (vE 2)])))) := (fb_or (fb_icmp_eq (fe_iloadn 2 rfl dX12_readColourTold_30) (fe_iconst dX12_readColourTold_31) dX12_readColourTold_32 rfl) (fb_not (fb_if_eq (fe_callS (fa_cons (fe_iloadn 1 rfl dX12_readColourTold_35) (fa_cons (fe_iloadn 2 rfl dX12_readColourTold_36) fa_nil)) C_M_has ls_RX12_220 rfl (by decide) (by decide) (by decide) dX12_readColourTold_37) dX12_readColourTold_40 rfl)))
set_option maxRecDepth 20000 in
theorem t_M_readColourTold_4 {N B C : Nat × FT} : fw_S s_M_readColourTold [(0, 2), (1, 0), (2, 0)] 43 (rtS (clE m_M_bad [(cE 0), (cE 3)])) N B C := fs_ret (fe_callV (fa_cons (fe_aloadn 0 rfl dX12_readColourTold_43) (fa_cons (fe_iconst dX12_readColourTold_44) fa_nil)) C_M_bad lv_RX12_159 lm_0 rfl rfl (by decide) (by decide) (by decide) dX12_readColourTold_45) dX12_readColourTold_48
set_option maxRecDepth 20000 in
theorem t_M_readColourTold_5 {B C : Nat × FT} : fw_S s_M_readColourTold [(0, 2), (1, 0), (2, 0)] 49 (pfS 13 (cE 0) (vE 2)) (54, [(0, 2), (1, 0), (2, 0)]) B C := fs_put (fe_aloadn 0 rfl dX12_readColourTold_49) (fe_iloadn 2 rfl dX12_readColourTold_50) fp_RX12_166 lm_0 rfl dX12_readColourTold_51 rfl
set_option maxRecDepth 20000 in
theorem t_M_readColourTold_6 {N B C : Nat × FT} : fw_S s_M_readColourTold [(0, 2), (1, 0), (2, 0)] 54 (rtS (cE 1)) N B C := fs_ret (fe_iconst dX12_readColourTold_54) dX12_readColourTold_55
set_option maxRecDepth 20000 in
theorem C_M_readColourTold : fw_C LM yX12_readColourTold cX12_readColourTold 3 (some .boolean) 4 [2, 0] (some 0) m_M_readColourTold := fm_z (d := 4) (N := (0, [])) (B := (0, [])) (C := (0, [])) LM_ok (by decide +kernel) (show fw_S s_M_readColourTold _ 0 b_M_readColourTold _ _ _ from (fs_seq (fs_if t_M_readColourTold_0 t_M_readColourTold_1 (fs_skip rfl)) (fs_seq t_M_readColourTold_2 (fs_seq (fs_if t_M_readColourTold_3 t_M_readColourTold_4 (fs_skip rfl)) (fs_seq t_M_readColourTold_5 t_M_readColourTold_6))))) (by decide)
/-! DyerBellsModel.readGuild (this 0 ) -/
abbrev s_M_readGuild : SI := (LM, RX12, cX12_readGuild, 5, 5, some 0)
set_option maxRecDepth 20000 in
theorem t_M_readGuild_0 {B C : Nat × FT} : fw_S s_M_readGuild [(0, 2)] 0 (stS 1 (ldE 192 160 (thE (cE 0) (cE 0)) (cE 2))) (7, [(0, 2), (1, 0)]) B C := fs_istn (fe_iald (fe_getR (fe_aloadn 0 rfl dX12_readGuild_0) fl_RX12_16 lm_0 rfl dX12_readGuild_1) (fe_iconst dX12_readGuild_4) lm_3 dX12_readGuild_5) dX12_readGuild_6 (by decide) rfl
set_option maxRecDepth 20000 in
theorem t_M_readGuild_1 : fw_B s_M_readGuild [(0, 2), (1, 0)] 0 7 13 19 (nB (cB 1 (vE 1) (cE 6))) := (fb_not (fb_icmp_ne (fe_iloadn 1 rfl dX12_readGuild_7) (fe_bipush dX12_readGuild_8) dX12_readGuild_10 rfl))
set_option maxRecDepth 20000 in
theorem t_M_readGuild_2 {N B C : Nat × FT} : fw_S s_M_readGuild [(0, 2), (1, 0)] 13 (rtS (clE m_M_bad [(cE 0), (cE 4)])) N B C := fs_ret (fe_callV (fa_cons (fe_aloadn 0 rfl dX12_readGuild_13) (fa_cons (fe_iconst dX12_readGuild_14) fa_nil)) C_M_bad lv_RX12_159 lm_0 rfl rfl (by decide) (by decide) (by decide) dX12_readGuild_15) dX12_readGuild_18
set_option maxRecDepth 20000 in
theorem t_M_readGuild_3 {B C : Nat × FT} : fw_S s_M_readGuild [(0, 2), (1, 0)] 19 (stS 2 (o2 addI (cE 30) (o2 mulI (cE 6) (vE 1)))) (27, [(0, 2), (1, 0), (2, 0)]) B C := fs_istn (fe_iadd (fe_bipush dX12_readGuild_19) (fe_imul (fe_bipush dX12_readGuild_21) (fe_iloadn 1 rfl dX12_readGuild_23) dX12_readGuild_24) dX12_readGuild_25) dX12_readGuild_26 (by decide) rfl
set_option maxRecDepth 20000 in
theorem t_M_readGuild_4 {B C : Nat × FT} : fw_S s_M_readGuild [(0, 2), (1, 0), (2, 0)] 27 (exS (clE m_M_go [(cE 0)])) (31, [(0, 2), (1, 0), (2, 0)]) B C := fs_callV (t := 0) (fa_cons (fe_aloadn 0 rfl dX12_readGuild_27) fa_nil) C_M_go lv_RX12_169 lm_0 rfl rfl (by decide) (by decide) dX12_readGuild_28 rfl
set_option maxRecDepth 20000 in
theorem t_M_readGuild_5 : fw_B s_M_readGuild [(0, 2), (1, 0), (2, 0)] 0 31 49 51 (orB (zB 0 (clE m_M_readNew [(cE 0), (o2 addI (cE 14) (vE 1))])) (nB (zB 1 (clE m_M_readReachTold [(cE 0)])))) := (fb_or (fb_if_eq (fe_callV (fa_cons (fe_aloadn 0 rfl dX12_readGuild_31) (fa_cons (fe_iadd (fe_bipush dX12_readGuild_32) (fe_iloadn 1 rfl dX12_readGuild_34) dX12_readGuild_35) fa_nil)) C_M_readNew lv_RX12_213 lm_0 rfl rfl (by decide) (by decide) (by decide) dX12_readGuild_36) dX12_readGuild_39 rfl) (fb_not (fb_if_ne (fe_callV (fa_cons (fe_aloadn 0 rfl dX12_readGuild_42) fa_nil) C_M_readReachTold lv_RX12_223 lm_0 rfl rfl (by decide) (by decide) (by decide) dX12_readGuild_43) dX12_readGuild_46 rfl)))
set_option maxRecDepth 20000 in
theorem t_M_readGuild_6 {N B C : Nat × FT} : fw_S s_M_readGuild [(0, 2), (1, 0), (2, 0)] 49 (rtS (cE 0)) N B C := fs_ret (fe_iconst dX12_readGuild_49) dX12_readGuild_50
set_option maxRecDepth 20000 in
theorem t_M_readGuild_7 {B C : Nat × FT} : fw_S s_M_readGuild [(0, 2), (1, 0), (2, 0)] 51 (asS 192 160 idI (thE (cE 0) (cE 0)) (vE 2) (thE (cE 0) (gE 13))) (61, [(0, 2), (1, 0), (2, 0)]) B C := fs_iast (fe_getR (fe_aloadn 0 rfl dX12_readGuild_51) fl_RX12_16 lm_0 rfl dX12_readGuild_52) (fe_iloadn 2 rfl dX12_readGuild_55) (fe_getI (fe_aloadn 0 rfl dX12_readGuild_56) fl_RX12_166 lm_0 rfl dX12_readGuild_57) lm_3 dX12_readGuild_60 rfl
set_option maxRecDepth 20000 in
theorem t_M_readGuild_8 : fw_B s_M_readGuild [(0, 2), (1, 0), (2, 0)] 0 61 71 73 (nB (zB 1 (clE m_M_readNumber [(cE 0), (cE 1), (cE 24)]))) := (fb_not (fb_if_ne (fe_callV (fa_cons (fe_aloadn 0 rfl dX12_readGuild_61) (fa_cons (fe_iconst dX12_readGuild_62) (fa_cons (fe_bipush dX12_readGuild_63) fa_nil))) C_M_readNumber lv_RX12_216 lm_0 rfl rfl (by decide) (by decide) (by decide) dX12_readGuild_65) dX12_readGuild_68 rfl))
set_option maxRecDepth 20000 in
theorem t_M_readGuild_9 {N B C : Nat × FT} : fw_S s_M_readGuild [(0, 2), (1, 0), (2, 0)] 71 (rtS (cE 0)) N B C := fs_ret (fe_iconst dX12_readGuild_71) dX12_readGuild_72
set_option maxRecDepth 20000 in
theorem t_M_readGuild_10 {B C : Nat × FT} : fw_S s_M_readGuild [(0, 2), (1, 0), (2, 0)] 73 (asS 192 160 idI (thE (cE 0) (cE 0)) (o2 addI (vE 2) (cE 1)) (thE (cE 0) (gE 13))) (85, [(0, 2), (1, 0), (2, 0)]) B C := fs_iast (fe_getR (fe_aloadn 0 rfl dX12_readGuild_73) fl_RX12_16 lm_0 rfl dX12_readGuild_74) (fe_iadd (fe_iloadn 2 rfl dX12_readGuild_77) (fe_iconst dX12_readGuild_78) dX12_readGuild_79) (fe_getI (fe_aloadn 0 rfl dX12_readGuild_80) fl_RX12_166 lm_0 rfl dX12_readGuild_81) lm_3 dX12_readGuild_84 rfl
set_option maxRecDepth 20000 in
theorem t_M_readGuild_11 {B C : Nat × FT} : fw_S s_M_readGuild [(0, 2), (1, 0), (2, 0)] 85 (stS 3 (cE 0)) (87, [(0, 2), (1, 0), (2, 0), (3, 0)]) B C := fs_istn (fe_iconst dX12_readGuild_85) dX12_readGuild_86 (by decide) rfl
set_option maxRecDepth 20000 in
theorem t_M_readGuild_12 : fw_B s_M_readGuild [(0, 2), (1, 0), (2, 0), (3, 0)] 0 87 92 109 (nB (cB 3 (vE 3) (cE 4))) := (fb_not (fb_icmp_ge (fe_iloadn 3 rfl dX12_readGuild_87) (fe_iconst dX12_readGuild_88) dX12_readGuild_89 rfl))
set_option maxRecDepth 20000 in
theorem t_M_readGuild_13 {B C : Nat × FT} : fw_S s_M_readGuild [(0, 2), (1, 0), (2, 0), (3, 0)] 92 (asS 192 160 idI (thE (cE 0) (cE 0)) (o2 addI (o2 addI (vE 2) (cE 2)) (vE 3)) (cE 0)) (103, [(0, 2), (1, 0), (2, 0), (3, 0)]) B C := fs_iast (fe_getR (fe_aloadn 0 rfl dX12_readGuild_92) fl_RX12_16 lm_0 rfl dX12_readGuild_93) (fe_iadd (fe_iadd (fe_iloadn 2 rfl dX12_readGuild_96) (fe_iconst dX12_readGuild_97) dX12_readGuild_98) (fe_iloadn 3 rfl dX12_readGuild_99) dX12_readGuild_100) (fe_iconst dX12_readGuild_101) lm_3 dX12_readGuild_102 rfl
set_option maxRecDepth 20000 in
theorem t_M_readGuild_14 {B C : Nat × FT} : fw_S s_M_readGuild [(0, 2), (1, 0), (2, 0), (3, 0)] 103 (inS 3 1) (106, [(0, 2), (1, 0), (2, 0), (3, 0)]) B C := fs_inc (j := 3) rfl dX12_readGuild_103 (by decide) rfl
set_option maxRecDepth 20000 in
theorem t_M_readGuild_15 {B C : Nat × FT} : fw_S s_M_readGuild [(0, 2), (1, 0), (2, 0), (3, 0)] 87 (whS (nB (cB 3 (vE 3) (cE 4))) (asS 192 160 idI (thE (cE 0) (cE 0)) (o2 addI (o2 addI (vE 2) (cE 2)) (vE 3)) (cE 0)) (inS 3 1) FU) (109, [(0, 2), (1, 0), (2, 0), (3, 0)]) B C := fs_while t_M_readGuild_12 t_M_readGuild_13 (fs_goto t_M_readGuild_14 dX12_readGuild_106 rfl)
set_option maxRecDepth 20000 in
theorem t_M_readGuild_16 {B C : Nat × FT} : fw_S s_M_readGuild [(0, 2), (1, 0), (2, 0)] 109 (stS 3 (cE 0)) (111, [(0, 2), (1, 0), (2, 0), (3, 0)]) B C := fs_istn (fe_iconst dX12_readGuild_109) dX12_readGuild_110 (by decide) rfl
set_option maxRecDepth 20000 in
theorem t_M_readGuild_17 : fw_B s_M_readGuild [(0, 2), (1, 0), (2, 0), (3, 0)] 0 111 123 181 (orB (zB 0 (vE 3)) (nB (cB 1 (thE (cE 0) (gE 7)) (cE 2)))) := (fb_or (fb_if_eq (fe_iloadn 3 rfl dX12_readGuild_111) dX12_readGuild_112 rfl) (fb_not (fb_icmp_ne (fe_getI (fe_aloadn 0 rfl dX12_readGuild_115) fl_RX12_113 lm_0 rfl dX12_readGuild_116) (fe_iconst dX12_readGuild_119) dX12_readGuild_120 rfl)))
set_option maxRecDepth 20000 in
theorem t_M_readGuild_18 : fw_B s_M_readGuild [(0, 2), (1, 0), (2, 0), (3, 0)] 0 123 131 133 (nB (zB 1 (clE m_M_readColourTold [(cE 0), (vE 3)]))) := (fb_not (fb_if_ne (fe_callV (fa_cons (fe_aloadn 0 rfl dX12_readGuild_123) (fa_cons (fe_iloadn 3 rfl dX12_readGuild_124) fa_nil)) C_M_readColourTold lv_RX12_226 lm_0 rfl rfl (by decide) (by decide) (by decide) dX12_readGuild_125) dX12_readGuild_128 rfl))
set_option maxRecDepth 20000 in
theorem t_M_readGuild_19 {N B C : Nat × FT} : fw_S s_M_readGuild [(0, 2), (1, 0), (2, 0), (3, 0)] 131 (rtS (cE 0)) N B C := fs_ret (fe_iconst dX12_readGuild_131) dX12_readGuild_132
set_option maxRecDepth 20000 in
theorem t_M_readGuild_20 {B C : Nat × FT} : fw_S s_M_readGuild [(0, 2), (1, 0), (2, 0), (3, 0)] 133 (stS 4 (thE (cE 0) (gE 13))) (139, [(0, 2), (1, 0), (2, 0), (3, 0), (4, 0)]) B C := fs_ist (fe_getI (fe_aloadn 0 rfl dX12_readGuild_133) fl_RX12_166 lm_0 rfl dX12_readGuild_134) dX12_readGuild_137 (by decide) rfl
set_option maxRecDepth 20000 in
theorem t_M_readGuild_21 {B C : Nat × FT} : fw_S s_M_readGuild [(0, 2), (1, 0), (2, 0), (3, 0), (4, 0)] 139 (stS 3 (o2 iorI (vE 3) (o2 shlI (cE 1) (vE 4)))) (146, [(0, 2), (1, 0), (2, 0), (3, 0), (4, 0)]) B C := fs_istn (fe_ior (fe_iloadn 3 rfl dX12_readGuild_139) (fe_ishl (fe_iconst dX12_readGuild_140) (fe_iload 4 rfl dX12_readGuild_141) dX12_readGuild_143) dX12_readGuild_144) dX12_readGuild_145 (by decide) rfl
set_option maxRecDepth 20000 in
theorem t_M_readGuild_22 {B C : Nat × FT} : fw_S s_M_readGuild [(0, 2), (1, 0), (2, 0), (3, 0), (4, 0)] 146 (exS (clE m_M_go [(cE 0)])) (150, [(0, 2), (1, 0), (2, 0), (3, 0), (4, 0)]) B C := fs_callV (t := 0) (fa_cons (fe_aloadn 0 rfl dX12_readGuild_146) fa_nil) C_M_go lv_RX12_169 lm_0 rfl rfl (by decide) (by decide) dX12_readGuild_147 rfl
set_option maxRecDepth 20000 in
theorem t_M_readGuild_23 : fw_B s_M_readGuild [(0, 2), (1, 0), (2, 0), (3, 0), (4, 0)] 0 150 161 163 (nB (zB 1 (clE m_M_readNumber [(cE 0), (cE 1), (cE 9999)]))) := (fb_not (fb_if_ne (fe_callV (fa_cons (fe_aloadn 0 rfl dX12_readGuild_150) (fa_cons (fe_iconst dX12_readGuild_151) (fa_cons (fe_sipush dX12_readGuild_152) fa_nil))) C_M_readNumber lv_RX12_216 lm_0 rfl rfl (by decide) (by decide) (by decide) dX12_readGuild_155) dX12_readGuild_158 rfl))
set_option maxRecDepth 20000 in
theorem t_M_readGuild_24 {N B C : Nat × FT} : fw_S s_M_readGuild [(0, 2), (1, 0), (2, 0), (3, 0), (4, 0)] 161 (rtS (cE 0)) N B C := fs_ret (fe_iconst dX12_readGuild_161) dX12_readGuild_162
set_option maxRecDepth 20000 in
theorem t_M_readGuild_25 {B C : Nat × FT} : fw_S s_M_readGuild [(0, 2), (1, 0), (2, 0), (3, 0), (4, 0)] 163 (asS 192 160 idI (thE (cE 0) (cE 0)) (o2 addI (o2 addI (vE 2) (cE 2)) (vE 4)) (thE (cE 0) (gE 13))) (178, [(0, 2), (1, 0), (2, 0), (3, 0)]) B C := fs_iast (fe_getR (fe_aloadn 0 rfl dX12_readGuild_163) fl_RX12_16 lm_0 rfl dX12_readGuild_164) (fe_iadd (fe_iadd (fe_iloadn 2 rfl dX12_readGuild_167) (fe_iconst dX12_readGuild_168) dX12_readGuild_169) (fe_iload 4 rfl dX12_readGuild_170) dX12_readGuild_172) (fe_getI (fe_aloadn 0 rfl dX12_readGuild_173) fl_RX12_166 lm_0 rfl dX12_readGuild_174) lm_3 dX12_readGuild_177 rfl
set_option maxRecDepth 20000 in
theorem t_M_readGuild_26 {B C : Nat × FT} : fw_S s_M_readGuild [(0, 2), (1, 0), (2, 0), (3, 0)] 111 (whS (orB (zB 0 (vE 3)) (nB (cB 1 (thE (cE 0) (gE 7)) (cE 2)))) (sq (ifS (nB (zB 1 (clE m_M_readColourTold [(cE 0), (vE 3)]))) (rtS (cE 0)) skS) (sq (stS 4 (thE (cE 0) (gE 13))) (sq (stS 3 (o2 iorI (vE 3) (o2 shlI (cE 1) (vE 4)))) (sq (exS (clE m_M_go [(cE 0)])) (sq (ifS (nB (zB 1 (clE m_M_readNumber [(cE 0), (cE 1), (cE 9999)]))) (rtS (cE 0)) skS) (asS 192 160 idI (thE (cE 0) (cE 0)) (o2 addI (o2 addI (vE 2) (cE 2)) (vE 4)) (thE (cE 0) (gE 13)))))))) skS FU) (181, [(0, 2), (1, 0), (2, 0), (3, 0)]) B C := fs_while t_M_readGuild_17 (fs_goto (fs_seq (fs_if t_M_readGuild_18 t_M_readGuild_19 (fs_skip rfl)) (fs_seq t_M_readGuild_20 (fs_seq t_M_readGuild_21 (fs_seq t_M_readGuild_22 (fs_seq (fs_if t_M_readGuild_23 t_M_readGuild_24 (fs_skip rfl)) t_M_readGuild_25))))) dX12_readGuild_178 rfl) (fs_skip rfl)
set_option maxRecDepth 20000 in
theorem t_M_readGuild_27 {B C : Nat × FT} : fw_S s_M_readGuild [(0, 2), (1, 0), (2, 0), (3, 0)] 181 (aoS 192 160 addI (thE (cE 0) (cE 0)) (cE 2) (cE 1)) (191, [(0, 2), (1, 0), (2, 0), (3, 0)]) B C := fs_ao_add (fe_getR (fe_aloadn 0 rfl dX12_readGuild_181) fl_RX12_16 lm_0 rfl dX12_readGuild_182) (fe_iconst dX12_readGuild_185) dX12_readGuild_186 dX12_readGuild_187 (fe_iconst dX12_readGuild_188) dX12_readGuild_189 lm_3 dX12_readGuild_190 rfl
set_option maxRecDepth 20000 in
theorem t_M_readGuild_28 {N B C : Nat × FT} : fw_S s_M_readGuild [(0, 2), (1, 0), (2, 0), (3, 0)] 191 (rtS (cE 1)) N B C := fs_ret (fe_iconst dX12_readGuild_191) dX12_readGuild_192
set_option maxRecDepth 20000 in
theorem C_M_readGuild : fw_C LM yX12_readGuild cX12_readGuild 5 (some .boolean) 5 [2] (some 0) m_M_readGuild := fm_z (d := 5) (N := (0, [])) (B := (0, [])) (C := (0, [])) LM_ok (by decide +kernel) (show fw_S s_M_readGuild _ 0 b_M_readGuild _ _ _ from (fs_seq t_M_readGuild_0 (fs_seq (fs_if t_M_readGuild_1 t_M_readGuild_2 (fs_skip rfl)) (fs_seq t_M_readGuild_3 (fs_seq t_M_readGuild_4 (fs_seq (fs_if t_M_readGuild_5 t_M_readGuild_6 (fs_skip rfl)) (fs_seq t_M_readGuild_7 (fs_seq (fs_if t_M_readGuild_8 t_M_readGuild_9 (fs_skip rfl)) (fs_seq t_M_readGuild_10 (fs_seq (fs_seq t_M_readGuild_11 (fs_weak t_M_readGuild_15 rfl)) (fs_seq t_M_readGuild_16 (fs_seq t_M_readGuild_26 (fs_seq t_M_readGuild_27 t_M_readGuild_28))))))))))))) (by decide)
/-! DyerBellsModel.readUser (this 0 ) -/
abbrev s_M_readUser : SI := (LM, RX12, cX12_readUser, 5, 5, some 0)
set_option maxRecDepth 20000 in
theorem t_M_readUser_0 {B C : Nat × FT} : fw_S s_M_readUser [(0, 2)] 0 (stS 1 (ldE 192 160 (thE (cE 0) (cE 0)) (cE 3))) (7, [(0, 2), (1, 0)]) B C := fs_istn (fe_iald (fe_getR (fe_aloadn 0 rfl dX12_readUser_0) fl_RX12_16 lm_0 rfl dX12_readUser_1) (fe_iconst dX12_readUser_4) lm_3 dX12_readUser_5) dX12_readUser_6 (by decide) rfl
set_option maxRecDepth 20000 in
theorem t_M_readUser_1 : fw_B s_M_readUser [(0, 2), (1, 0)] 0 7 13 19 (nB (cB 1 (vE 1) (cE 6))) := (fb_not (fb_icmp_ne (fe_iloadn 1 rfl dX12_readUser_7) (fe_bipush dX12_readUser_8) dX12_readUser_10 rfl))
set_option maxRecDepth 20000 in
theorem t_M_readUser_2 {N B C : Nat × FT} : fw_S s_M_readUser [(0, 2), (1, 0)] 13 (rtS (clE m_M_bad [(cE 0), (cE 4)])) N B C := fs_ret (fe_callV (fa_cons (fe_aloadn 0 rfl dX12_readUser_13) (fa_cons (fe_iconst dX12_readUser_14) fa_nil)) C_M_bad lv_RX12_159 lm_0 rfl rfl (by decide) (by decide) (by decide) dX12_readUser_15) dX12_readUser_18
set_option maxRecDepth 20000 in
theorem t_M_readUser_3 {B C : Nat × FT} : fw_S s_M_readUser [(0, 2), (1, 0)] 19 (stS 2 (o2 addI (cE 66) (o2 mulI (cE 7) (vE 1)))) (27, [(0, 2), (1, 0), (2, 0)]) B C := fs_istn (fe_iadd (fe_bipush dX12_readUser_19) (fe_imul (fe_bipush dX12_readUser_21) (fe_iloadn 1 rfl dX12_readUser_23) dX12_readUser_24) dX12_readUser_25) dX12_readUser_26 (by decide) rfl
set_option maxRecDepth 20000 in
theorem t_M_readUser_4 {B C : Nat × FT} : fw_S s_M_readUser [(0, 2), (1, 0), (2, 0)] 27 (exS (clE m_M_go [(cE 0)])) (31, [(0, 2), (1, 0), (2, 0)]) B C := fs_callV (t := 0) (fa_cons (fe_aloadn 0 rfl dX12_readUser_27) fa_nil) C_M_go lv_RX12_169 lm_0 rfl rfl (by decide) (by decide) dX12_readUser_28 rfl
set_option maxRecDepth 20000 in
theorem t_M_readUser_5 : fw_B s_M_readUser [(0, 2), (1, 0), (2, 0)] 0 31 49 51 (orB (zB 0 (clE m_M_readNew [(cE 0), (o2 addI (cE 20) (vE 1))])) (nB (zB 1 (clE m_M_readReachTold [(cE 0)])))) := (fb_or (fb_if_eq (fe_callV (fa_cons (fe_aloadn 0 rfl dX12_readUser_31) (fa_cons (fe_iadd (fe_bipush dX12_readUser_32) (fe_iloadn 1 rfl dX12_readUser_34) dX12_readUser_35) fa_nil)) C_M_readNew lv_RX12_213 lm_0 rfl rfl (by decide) (by decide) (by decide) dX12_readUser_36) dX12_readUser_39 rfl) (fb_not (fb_if_ne (fe_callV (fa_cons (fe_aloadn 0 rfl dX12_readUser_42) fa_nil) C_M_readReachTold lv_RX12_223 lm_0 rfl rfl (by decide) (by decide) (by decide) dX12_readUser_43) dX12_readUser_46 rfl)))
set_option maxRecDepth 20000 in
theorem t_M_readUser_6 {N B C : Nat × FT} : fw_S s_M_readUser [(0, 2), (1, 0), (2, 0)] 49 (rtS (cE 0)) N B C := fs_ret (fe_iconst dX12_readUser_49) dX12_readUser_50
set_option maxRecDepth 20000 in
theorem t_M_readUser_7 {B C : Nat × FT} : fw_S s_M_readUser [(0, 2), (1, 0), (2, 0)] 51 (asS 192 160 idI (thE (cE 0) (cE 0)) (vE 2) (thE (cE 0) (gE 13))) (61, [(0, 2), (1, 0), (2, 0)]) B C := fs_iast (fe_getR (fe_aloadn 0 rfl dX12_readUser_51) fl_RX12_16 lm_0 rfl dX12_readUser_52) (fe_iloadn 2 rfl dX12_readUser_55) (fe_getI (fe_aloadn 0 rfl dX12_readUser_56) fl_RX12_166 lm_0 rfl dX12_readUser_57) lm_3 dX12_readUser_60 rfl
set_option maxRecDepth 20000 in
theorem t_M_readUser_8 : fw_B s_M_readUser [(0, 2), (1, 0), (2, 0)] 0 61 71 73 (nB (zB 1 (clE m_M_readNumber [(cE 0), (cE 0), (cE 23)]))) := (fb_not (fb_if_ne (fe_callV (fa_cons (fe_aloadn 0 rfl dX12_readUser_61) (fa_cons (fe_iconst dX12_readUser_62) (fa_cons (fe_bipush dX12_readUser_63) fa_nil))) C_M_readNumber lv_RX12_216 lm_0 rfl rfl (by decide) (by decide) (by decide) dX12_readUser_65) dX12_readUser_68 rfl))
set_option maxRecDepth 20000 in
theorem t_M_readUser_9 {N B C : Nat × FT} : fw_S s_M_readUser [(0, 2), (1, 0), (2, 0)] 71 (rtS (cE 0)) N B C := fs_ret (fe_iconst dX12_readUser_71) dX12_readUser_72
set_option maxRecDepth 20000 in
theorem t_M_readUser_10 {B C : Nat × FT} : fw_S s_M_readUser [(0, 2), (1, 0), (2, 0)] 73 (asS 192 160 idI (thE (cE 0) (cE 0)) (o2 addI (vE 2) (cE 1)) (thE (cE 0) (gE 13))) (85, [(0, 2), (1, 0), (2, 0)]) B C := fs_iast (fe_getR (fe_aloadn 0 rfl dX12_readUser_73) fl_RX12_16 lm_0 rfl dX12_readUser_74) (fe_iadd (fe_iloadn 2 rfl dX12_readUser_77) (fe_iconst dX12_readUser_78) dX12_readUser_79) (fe_getI (fe_aloadn 0 rfl dX12_readUser_80) fl_RX12_166 lm_0 rfl dX12_readUser_81) lm_3 dX12_readUser_84 rfl
set_option maxRecDepth 20000 in
theorem t_M_readUser_11 : fw_B s_M_readUser [(0, 2), (1, 0), (2, 0)] 0 85 100 102 (nB (zB 1 (clE m_M_readNumber [(cE 0), (o2 addI (thE (cE 0) (gE 13)) (cE 1)), (cE 24)]))) := (fb_not (fb_if_ne (fe_callV (fa_cons (fe_aloadn 0 rfl dX12_readUser_85) (fa_cons (fe_iadd (fe_getI (fe_aloadn 0 rfl dX12_readUser_86) fl_RX12_166 lm_0 rfl dX12_readUser_87) (fe_iconst dX12_readUser_90) dX12_readUser_91) (fa_cons (fe_bipush dX12_readUser_92) fa_nil))) C_M_readNumber lv_RX12_216 lm_0 rfl rfl (by decide) (by decide) (by decide) dX12_readUser_94) dX12_readUser_97 rfl))
set_option maxRecDepth 20000 in
theorem t_M_readUser_12 {N B C : Nat × FT} : fw_S s_M_readUser [(0, 2), (1, 0), (2, 0)] 100 (rtS (cE 0)) N B C := fs_ret (fe_iconst dX12_readUser_100) dX12_readUser_101
set_option maxRecDepth 20000 in
theorem t_M_readUser_13 {B C : Nat × FT} : fw_S s_M_readUser [(0, 2), (1, 0), (2, 0)] 102 (asS 192 160 idI (thE (cE 0) (cE 0)) (o2 addI (vE 2) (cE 2)) (thE (cE 0) (gE 13))) (114, [(0, 2), (1, 0), (2, 0)]) B C := fs_iast (fe_getR (fe_aloadn 0 rfl dX12_readUser_102) fl_RX12_16 lm_0 rfl dX12_readUser_103) (fe_iadd (fe_iloadn 2 rfl dX12_readUser_106) (fe_iconst dX12_readUser_107) dX12_readUser_108) (fe_getI (fe_aloadn 0 rfl dX12_readUser_109) fl_RX12_166 lm_0 rfl dX12_readUser_110) lm_3 dX12_readUser_113 rfl
set_option maxRecDepth 20000 in
theorem t_M_readUser_14 {B C : Nat × FT} : fw_S s_M_readUser [(0, 2), (1, 0), (2, 0)] 114 (stS 3 (cE 0)) (116, [(0, 2), (1, 0), (2, 0), (3, 0)]) B C := fs_istn (fe_iconst dX12_readUser_114) dX12_readUser_115 (by decide) rfl
set_option maxRecDepth 20000 in
theorem t_M_readUser_15 : fw_B s_M_readUser [(0, 2), (1, 0), (2, 0), (3, 0)] 0 116 121 138 (nB (cB 3 (vE 3) (cE 4))) := (fb_not (fb_icmp_ge (fe_iloadn 3 rfl dX12_readUser_116) (fe_iconst dX12_readUser_117) dX12_readUser_118 rfl))
set_option maxRecDepth 20000 in
theorem t_M_readUser_16 {B C : Nat × FT} : fw_S s_M_readUser [(0, 2), (1, 0), (2, 0), (3, 0)] 121 (asS 192 160 idI (thE (cE 0) (cE 0)) (o2 addI (o2 addI (vE 2) (cE 3)) (vE 3)) (cE (-1))) (132, [(0, 2), (1, 0), (2, 0), (3, 0)]) B C := fs_iast (fe_getR (fe_aloadn 0 rfl dX12_readUser_121) fl_RX12_16 lm_0 rfl dX12_readUser_122) (fe_iadd (fe_iadd (fe_iloadn 2 rfl dX12_readUser_125) (fe_iconst dX12_readUser_126) dX12_readUser_127) (fe_iloadn 3 rfl dX12_readUser_128) dX12_readUser_129) (fe_iconst dX12_readUser_130) lm_3 dX12_readUser_131 rfl
set_option maxRecDepth 20000 in
theorem t_M_readUser_17 {B C : Nat × FT} : fw_S s_M_readUser [(0, 2), (1, 0), (2, 0), (3, 0)] 132 (inS 3 1) (135, [(0, 2), (1, 0), (2, 0), (3, 0)]) B C := fs_inc (j := 3) rfl dX12_readUser_132 (by decide) rfl
set_option maxRecDepth 20000 in
theorem t_M_readUser_18 {B C : Nat × FT} : fw_S s_M_readUser [(0, 2), (1, 0), (2, 0), (3, 0)] 116 (whS (nB (cB 3 (vE 3) (cE 4))) (asS 192 160 idI (thE (cE 0) (cE 0)) (o2 addI (o2 addI (vE 2) (cE 3)) (vE 3)) (cE (-1))) (inS 3 1) FU) (138, [(0, 2), (1, 0), (2, 0), (3, 0)]) B C := fs_while t_M_readUser_15 t_M_readUser_16 (fs_goto t_M_readUser_17 dX12_readUser_135 rfl)
set_option maxRecDepth 20000 in
theorem t_M_readUser_19 {B C : Nat × FT} : fw_S s_M_readUser [(0, 2), (1, 0), (2, 0)] 138 (stS 3 (cE 0)) (140, [(0, 2), (1, 0), (2, 0), (3, 0)]) B C := fs_istn (fe_iconst dX12_readUser_138) dX12_readUser_139 (by decide) rfl
set_option maxRecDepth 20000 in
theorem t_M_readUser_20 : fw_B s_M_readUser [(0, 2), (1, 0), (2, 0), (3, 0)] 0 140 148 206 (nB (cB 1 (thE (cE 0) (gE 7)) (cE 2))) := (fb_not (fb_icmp_ne (fe_getI (fe_aloadn 0 rfl dX12_readUser_140) fl_RX12_113 lm_0 rfl dX12_readUser_141) (fe_iconst dX12_readUser_144) dX12_readUser_145 rfl))
set_option maxRecDepth 20000 in
theorem t_M_readUser_21 : fw_B s_M_readUser [(0, 2), (1, 0), (2, 0), (3, 0)] 0 148 156 158 (nB (zB 1 (clE m_M_readColourTold [(cE 0), (vE 3)]))) := (fb_not (fb_if_ne (fe_callV (fa_cons (fe_aloadn 0 rfl dX12_readUser_148) (fa_cons (fe_iloadn 3 rfl dX12_readUser_149) fa_nil)) C_M_readColourTold lv_RX12_226 lm_0 rfl rfl (by decide) (by decide) (by decide) dX12_readUser_150) dX12_readUser_153 rfl))
set_option maxRecDepth 20000 in
theorem t_M_readUser_22 {N B C : Nat × FT} : fw_S s_M_readUser [(0, 2), (1, 0), (2, 0), (3, 0)] 156 (rtS (cE 0)) N B C := fs_ret (fe_iconst dX12_readUser_156) dX12_readUser_157
set_option maxRecDepth 20000 in
theorem t_M_readUser_23 {B C : Nat × FT} : fw_S s_M_readUser [(0, 2), (1, 0), (2, 0), (3, 0)] 158 (stS 4 (thE (cE 0) (gE 13))) (164, [(0, 2), (1, 0), (2, 0), (3, 0), (4, 0)]) B C := fs_ist (fe_getI (fe_aloadn 0 rfl dX12_readUser_158) fl_RX12_166 lm_0 rfl dX12_readUser_159) dX12_readUser_162 (by decide) rfl
set_option maxRecDepth 20000 in
theorem t_M_readUser_24 {B C : Nat × FT} : fw_S s_M_readUser [(0, 2), (1, 0), (2, 0), (3, 0), (4, 0)] 164 (stS 3 (o2 iorI (vE 3) (o2 shlI (cE 1) (vE 4)))) (171, [(0, 2), (1, 0), (2, 0), (3, 0), (4, 0)]) B C := fs_istn (fe_ior (fe_iloadn 3 rfl dX12_readUser_164) (fe_ishl (fe_iconst dX12_readUser_165) (fe_iload 4 rfl dX12_readUser_166) dX12_readUser_168) dX12_readUser_169) dX12_readUser_170 (by decide) rfl
set_option maxRecDepth 20000 in
theorem t_M_readUser_25 {B C : Nat × FT} : fw_S s_M_readUser [(0, 2), (1, 0), (2, 0), (3, 0), (4, 0)] 171 (exS (clE m_M_go [(cE 0)])) (175, [(0, 2), (1, 0), (2, 0), (3, 0), (4, 0)]) B C := fs_callV (t := 0) (fa_cons (fe_aloadn 0 rfl dX12_readUser_171) fa_nil) C_M_go lv_RX12_169 lm_0 rfl rfl (by decide) (by decide) dX12_readUser_172 rfl
set_option maxRecDepth 20000 in
theorem t_M_readUser_26 : fw_B s_M_readUser [(0, 2), (1, 0), (2, 0), (3, 0), (4, 0)] 0 175 186 188 (nB (zB 1 (clE m_M_readNumber [(cE 0), (cE 0), (cE 9999)]))) := (fb_not (fb_if_ne (fe_callV (fa_cons (fe_aloadn 0 rfl dX12_readUser_175) (fa_cons (fe_iconst dX12_readUser_176) (fa_cons (fe_sipush dX12_readUser_177) fa_nil))) C_M_readNumber lv_RX12_216 lm_0 rfl rfl (by decide) (by decide) (by decide) dX12_readUser_180) dX12_readUser_183 rfl))
set_option maxRecDepth 20000 in
theorem t_M_readUser_27 {N B C : Nat × FT} : fw_S s_M_readUser [(0, 2), (1, 0), (2, 0), (3, 0), (4, 0)] 186 (rtS (cE 0)) N B C := fs_ret (fe_iconst dX12_readUser_186) dX12_readUser_187
set_option maxRecDepth 20000 in
theorem t_M_readUser_28 {B C : Nat × FT} : fw_S s_M_readUser [(0, 2), (1, 0), (2, 0), (3, 0), (4, 0)] 188 (asS 192 160 idI (thE (cE 0) (cE 0)) (o2 addI (o2 addI (vE 2) (cE 3)) (vE 4)) (thE (cE 0) (gE 13))) (203, [(0, 2), (1, 0), (2, 0), (3, 0)]) B C := fs_iast (fe_getR (fe_aloadn 0 rfl dX12_readUser_188) fl_RX12_16 lm_0 rfl dX12_readUser_189) (fe_iadd (fe_iadd (fe_iloadn 2 rfl dX12_readUser_192) (fe_iconst dX12_readUser_193) dX12_readUser_194) (fe_iload 4 rfl dX12_readUser_195) dX12_readUser_197) (fe_getI (fe_aloadn 0 rfl dX12_readUser_198) fl_RX12_166 lm_0 rfl dX12_readUser_199) lm_3 dX12_readUser_202 rfl
set_option maxRecDepth 20000 in
theorem t_M_readUser_29 {B C : Nat × FT} : fw_S s_M_readUser [(0, 2), (1, 0), (2, 0), (3, 0)] 140 (whS (nB (cB 1 (thE (cE 0) (gE 7)) (cE 2))) (sq (ifS (nB (zB 1 (clE m_M_readColourTold [(cE 0), (vE 3)]))) (rtS (cE 0)) skS) (sq (stS 4 (thE (cE 0) (gE 13))) (sq (stS 3 (o2 iorI (vE 3) (o2 shlI (cE 1) (vE 4)))) (sq (exS (clE m_M_go [(cE 0)])) (sq (ifS (nB (zB 1 (clE m_M_readNumber [(cE 0), (cE 0), (cE 9999)]))) (rtS (cE 0)) skS) (asS 192 160 idI (thE (cE 0) (cE 0)) (o2 addI (o2 addI (vE 2) (cE 3)) (vE 4)) (thE (cE 0) (gE 13)))))))) skS FU) (206, [(0, 2), (1, 0), (2, 0), (3, 0)]) B C := fs_while t_M_readUser_20 (fs_goto (fs_seq (fs_if t_M_readUser_21 t_M_readUser_22 (fs_skip rfl)) (fs_seq t_M_readUser_23 (fs_seq t_M_readUser_24 (fs_seq t_M_readUser_25 (fs_seq (fs_if t_M_readUser_26 t_M_readUser_27 (fs_skip rfl)) t_M_readUser_28))))) dX12_readUser_203 rfl) (fs_skip rfl)
set_option maxRecDepth 20000 in
theorem t_M_readUser_30 {B C : Nat × FT} : fw_S s_M_readUser [(0, 2), (1, 0), (2, 0), (3, 0)] 206 (aoS 192 160 addI (thE (cE 0) (cE 0)) (cE 3) (cE 1)) (216, [(0, 2), (1, 0), (2, 0), (3, 0)]) B C := fs_ao_add (fe_getR (fe_aloadn 0 rfl dX12_readUser_206) fl_RX12_16 lm_0 rfl dX12_readUser_207) (fe_iconst dX12_readUser_210) dX12_readUser_211 dX12_readUser_212 (fe_iconst dX12_readUser_213) dX12_readUser_214 lm_3 dX12_readUser_215 rfl
set_option maxRecDepth 20000 in
theorem t_M_readUser_31 {N B C : Nat × FT} : fw_S s_M_readUser [(0, 2), (1, 0), (2, 0), (3, 0)] 216 (rtS (cE 1)) N B C := fs_ret (fe_iconst dX12_readUser_216) dX12_readUser_217
set_option maxRecDepth 20000 in
theorem C_M_readUser : fw_C LM yX12_readUser cX12_readUser 5 (some .boolean) 5 [2] (some 0) m_M_readUser := fm_z (d := 5) (N := (0, [])) (B := (0, [])) (C := (0, [])) LM_ok (by decide +kernel) (show fw_S s_M_readUser _ 0 b_M_readUser _ _ _ from (fs_seq t_M_readUser_0 (fs_seq (fs_if t_M_readUser_1 t_M_readUser_2 (fs_skip rfl)) (fs_seq t_M_readUser_3 (fs_seq t_M_readUser_4 (fs_seq (fs_if t_M_readUser_5 t_M_readUser_6 (fs_skip rfl)) (fs_seq t_M_readUser_7 (fs_seq (fs_if t_M_readUser_8 t_M_readUser_9 (fs_skip rfl)) (fs_seq t_M_readUser_10 (fs_seq (fs_if t_M_readUser_11 t_M_readUser_12 (fs_skip rfl)) (fs_seq t_M_readUser_13 (fs_seq (fs_seq t_M_readUser_14 (fs_weak t_M_readUser_18 rfl)) (fs_seq t_M_readUser_19 (fs_seq t_M_readUser_29 (fs_seq t_M_readUser_30 t_M_readUser_31))))))))))))))) (by decide)
/-! DyerBellsModel.readFlow (this 0 ) -/
abbrev s_M_readFlow : SI := (LM, RX12, cX12_readFlow, 2, 4, some 0)
set_option maxRecDepth 20000 in
theorem t_M_readFlow_0 {B C : Nat × FT} : fw_S s_M_readFlow [(0, 2)] 0 (exS (clE m_M_go [(cE 0)])) (4, [(0, 2)]) B C := fs_callV (t := 0) (fa_cons (fe_aloadn 0 rfl dX12_readFlow_0) fa_nil) C_M_go lv_RX12_169 lm_0 rfl rfl (by decide) (by decide) dX12_readFlow_1 rfl
set_option maxRecDepth 20000 in
theorem t_M_readFlow_1 : fw_B s_M_readFlow [(0, 2)] 0 4 12 18 (nB (cB 0 (thE (cE 0) (gE 7)) (cE 3))) := (fb_not (fb_icmp_eq (fe_getI (fe_aloadn 0 rfl dX12_readFlow_4) fl_RX12_113 lm_0 rfl dX12_readFlow_5) (fe_iconst dX12_readFlow_8) dX12_readFlow_9 rfl))
set_option maxRecDepth 20000 in
theorem t_M_readFlow_2 {N B C : Nat × FT} : fw_S s_M_readFlow [(0, 2)] 12 (rtS (clE m_M_bad [(cE 0), (cE 1)])) N B C := fs_ret (fe_callV (fa_cons (fe_aloadn 0 rfl dX12_readFlow_12) (fa_cons (fe_iconst dX12_readFlow_13) fa_nil)) C_M_bad lv_RX12_159 lm_0 rfl rfl (by decide) (by decide) (by decide) dX12_readFlow_14) dX12_readFlow_17
set_option maxRecDepth 20000 in
theorem t_M_readFlow_3 : fw_B s_M_readFlow [(0, 2)] 0 18 27 33 (nB (cB 5 (thE (cE 0) (gE 8)) (cE 6))) := (fb_not (fb_icmp_le (fe_getI (fe_aloadn 0 rfl dX12_readFlow_18) fl_RX12_130 lm_0 rfl dX12_readFlow_19) (fe_bipush dX12_readFlow_22) dX12_readFlow_24 rfl))
set_option maxRecDepth 20000 in
theorem t_M_readFlow_4 {N B C : Nat × FT} : fw_S s_M_readFlow [(0, 2)] 27 (rtS (clE m_M_bad [(cE 0), (cE 2)])) N B C := fs_ret (fe_callV (fa_cons (fe_aloadn 0 rfl dX12_readFlow_27) (fa_cons (fe_iconst dX12_readFlow_28) fa_nil)) C_M_bad lv_RX12_159 lm_0 rfl rfl (by decide) (by decide) (by decide) dX12_readFlow_29) dX12_readFlow_32
set_option maxRecDepth 20000 in
theorem t_M_readFlow_5 : fw_B s_M_readFlow [(0, 2)] 0 33 47 53 (nB (zB 0 (clE m_M_has [(thE (cE 0) (gE 24)), (thE (cE 0) (gE 8))]))) := (fb_not (fb_if_eq (fe_callS (fa_cons (fe_getI (fe_aloadn 0 rfl dX12_readFlow_33) fl_RX12_229 lm_0 rfl dX12_readFlow_34) (fa_cons (fe_getI (fe_aloadn 0 rfl dX12_readFlow_37) fl_RX12_130 lm_0 rfl dX12_readFlow_38) fa_nil)) C_M_has ls_RX12_220 rfl (by decide) (by decide) (by decide) dX12_readFlow_41) dX12_readFlow_44 rfl))
set_option maxRecDepth 20000 in
theorem t_M_readFlow_6 {N B C : Nat × FT} : fw_S s_M_readFlow [(0, 2)] 47 (rtS (clE m_M_bad [(cE 0), (cE 3)])) N B C := fs_ret (fe_callV (fa_cons (fe_aloadn 0 rfl dX12_readFlow_47) (fa_cons (fe_iconst dX12_readFlow_48) fa_nil)) C_M_bad lv_RX12_159 lm_0 rfl rfl (by decide) (by decide) (by decide) dX12_readFlow_49) dX12_readFlow_52
set_option maxRecDepth 20000 in
theorem t_M_readFlow_7 {B C : Nat × FT} : fw_S s_M_readFlow [(0, 2)] 53 (poS 24 iorI (cE 0) (o2 shlI (cE 1) (thE (cE 0) (gE 8)))) (68, [(0, 2)]) B C := fs_po_or (fe_aloadn 0 rfl dX12_readFlow_53) dX12_readFlow_54 dX12_readFlow_55 (fe_ishl (fe_iconst dX12_readFlow_58) (fe_getI (fe_aloadn 0 rfl dX12_readFlow_59) fl_RX12_130 lm_0 rfl dX12_readFlow_60) dX12_readFlow_63) dX12_readFlow_64 fp_RX12_229 lm_0 rfl dX12_readFlow_65 rfl
set_option maxRecDepth 20000 in
theorem t_M_readFlow_8 {B C : Nat × FT} : fw_S s_M_readFlow [(0, 2)] 68 (stS 1 (thE (cE 0) (gE 8))) (73, [(0, 2), (1, 0)]) B C := fs_istn (fe_getI (fe_aloadn 0 rfl dX12_readFlow_68) fl_RX12_130 lm_0 rfl dX12_readFlow_69) dX12_readFlow_72 (by decide) rfl
set_option maxRecDepth 20000 in
theorem t_M_readFlow_9 {B C : Nat × FT} : fw_S s_M_readFlow [(0, 2), (1, 0)] 73 (exS (clE m_M_go [(cE 0)])) (77, [(0, 2), (1, 0)]) B C := fs_callV (t := 0) (fa_cons (fe_aloadn 0 rfl dX12_readFlow_73) fa_nil) C_M_go lv_RX12_169 lm_0 rfl rfl (by decide) (by decide) dX12_readFlow_74 rfl
set_option maxRecDepth 20000 in
theorem t_M_readFlow_10 : fw_B s_M_readFlow [(0, 2), (1, 0)] 0 77 88 90 (nB (zB 1 (clE m_M_readNumber [(cE 0), (cE 0), (cE 9999)]))) := (fb_not (fb_if_ne (fe_callV (fa_cons (fe_aloadn 0 rfl dX12_readFlow_77) (fa_cons (fe_iconst dX12_readFlow_78) (fa_cons (fe_sipush dX12_readFlow_79) fa_nil))) C_M_readNumber lv_RX12_216 lm_0 rfl rfl (by decide) (by decide) (by decide) dX12_readFlow_82) dX12_readFlow_85 rfl))
set_option maxRecDepth 20000 in
theorem t_M_readFlow_11 {N B C : Nat × FT} : fw_S s_M_readFlow [(0, 2), (1, 0)] 88 (rtS (cE 0)) N B C := fs_ret (fe_iconst dX12_readFlow_88) dX12_readFlow_89
set_option maxRecDepth 20000 in
theorem t_M_readFlow_12 {B C : Nat × FT} : fw_S s_M_readFlow [(0, 2), (1, 0)] 90 (asS 192 160 idI (thE (cE 0) (cE 0)) (o2 addI (cE 110) (vE 1)) (thE (cE 0) (gE 13))) (103, [(0, 2), (1, 0)]) B C := fs_iast (fe_getR (fe_aloadn 0 rfl dX12_readFlow_90) fl_RX12_16 lm_0 rfl dX12_readFlow_91) (fe_iadd (fe_bipush dX12_readFlow_94) (fe_iloadn 1 rfl dX12_readFlow_96) dX12_readFlow_97) (fe_getI (fe_aloadn 0 rfl dX12_readFlow_98) fl_RX12_166 lm_0 rfl dX12_readFlow_99) lm_3 dX12_readFlow_102 rfl
set_option maxRecDepth 20000 in
theorem t_M_readFlow_13 {N B C : Nat × FT} : fw_S s_M_readFlow [(0, 2), (1, 0)] 103 (rtS (cE 1)) N B C := fs_ret (fe_iconst dX12_readFlow_103) dX12_readFlow_104
set_option maxRecDepth 20000 in
theorem C_M_readFlow : fw_C LM yX12_readFlow cX12_readFlow 2 (some .boolean) 4 [2] (some 0) m_M_readFlow := fm_z (d := 4) (N := (0, [])) (B := (0, [])) (C := (0, [])) LM_ok (by decide +kernel) (show fw_S s_M_readFlow _ 0 b_M_readFlow _ _ _ from (fs_seq t_M_readFlow_0 (fs_seq (fs_if t_M_readFlow_1 t_M_readFlow_2 (fs_skip rfl)) (fs_seq (fs_if t_M_readFlow_3 t_M_readFlow_4 (fs_skip rfl)) (fs_seq (fs_if t_M_readFlow_5 t_M_readFlow_6 (fs_skip rfl)) (fs_seq t_M_readFlow_7 (fs_seq t_M_readFlow_8 (fs_seq t_M_readFlow_9 (fs_seq (fs_if t_M_readFlow_10 t_M_readFlow_11 (fs_skip rfl)) (fs_seq t_M_readFlow_12 t_M_readFlow_13)))))))))) (by decide)
/-! DyerBellsModel.readFlood (this 0 ) -/
abbrev s_M_readFlood : SI := (LM, RX12, cX12_readFlood, 1, 4, some 0)
set_option maxRecDepth 20000 in
theorem t_M_readFlood_0 : fw_B s_M_readFlood [(0, 2)] 0 0 7 13 (nB (zB 0 (thE (cE 0) (gE 23)))) := (fb_not (fb_if_eq (fe_getI (fe_aloadn 0 rfl dX12_readFlood_0) fl_RX12_232 lm_0 rfl dX12_readFlood_1) dX12_readFlood_4 rfl))
set_option maxRecDepth 20000 in
theorem t_M_readFlood_1 {N B C : Nat × FT} : fw_S s_M_readFlood [(0, 2)] 7 (rtS (clE m_M_bad [(cE 0), (cE 3)])) N B C := fs_ret (fe_callV (fa_cons (fe_aloadn 0 rfl dX12_readFlood_7) (fa_cons (fe_iconst dX12_readFlood_8) fa_nil)) C_M_bad lv_RX12_159 lm_0 rfl rfl (by decide) (by decide) (by decide) dX12_readFlood_9) dX12_readFlood_12
set_option maxRecDepth 20000 in
theorem t_M_readFlood_2 {B C : Nat × FT} : fw_S s_M_readFlood [(0, 2)] 13 (pfS 23 (cE 0) (cE 1)) (18, [(0, 2)]) B C := fs_put (fe_aloadn 0 rfl dX12_readFlood_13) (fe_iconst dX12_readFlood_14) fp_RX12_232 lm_0 rfl dX12_readFlood_15 rfl
set_option maxRecDepth 20000 in
theorem t_M_readFlood_3 {B C : Nat × FT} : fw_S s_M_readFlood [(0, 2)] 18 (exS (clE m_M_go [(cE 0)])) (22, [(0, 2)]) B C := fs_callV (t := 0) (fa_cons (fe_aloadn 0 rfl dX12_readFlood_18) fa_nil) C_M_go lv_RX12_169 lm_0 rfl rfl (by decide) (by decide) dX12_readFlood_19 rfl
set_option maxRecDepth 20000 in
theorem t_M_readFlood_4 : fw_B s_M_readFlood [(0, 2)] 0 22 33 35 (nB (zB 1 (clE m_M_readNumber [(cE 0), (cE 1), (cE 9999)]))) := (fb_not (fb_if_ne (fe_callV (fa_cons (fe_aloadn 0 rfl dX12_readFlood_22) (fa_cons (fe_iconst dX12_readFlood_23) (fa_cons (fe_sipush dX12_readFlood_24) fa_nil))) C_M_readNumber lv_RX12_216 lm_0 rfl rfl (by decide) (by decide) (by decide) dX12_readFlood_27) dX12_readFlood_30 rfl))
set_option maxRecDepth 20000 in
theorem t_M_readFlood_5 {N B C : Nat × FT} : fw_S s_M_readFlood [(0, 2)] 33 (rtS (cE 0)) N B C := fs_ret (fe_iconst dX12_readFlood_33) dX12_readFlood_34
set_option maxRecDepth 20000 in
theorem t_M_readFlood_6 {B C : Nat × FT} : fw_S s_M_readFlood [(0, 2)] 35 (asS 192 160 idI (thE (cE 0) (cE 0)) (cE 5) (thE (cE 0) (gE 13))) (45, [(0, 2)]) B C := fs_iast (fe_getR (fe_aloadn 0 rfl dX12_readFlood_35) fl_RX12_16 lm_0 rfl dX12_readFlood_36) (fe_iconst dX12_readFlood_39) (fe_getI (fe_aloadn 0 rfl dX12_readFlood_40) fl_RX12_166 lm_0 rfl dX12_readFlood_41) lm_3 dX12_readFlood_44 rfl
set_option maxRecDepth 20000 in
theorem t_M_readFlood_7 {N B C : Nat × FT} : fw_S s_M_readFlood [(0, 2)] 45 (rtS (cE 1)) N B C := fs_ret (fe_iconst dX12_readFlood_45) dX12_readFlood_46
set_option maxRecDepth 20000 in
theorem C_M_readFlood : fw_C LM yX12_readFlood cX12_readFlood 1 (some .boolean) 4 [2] (some 0) m_M_readFlood := fm_z (d := 4) (N := (0, [])) (B := (0, [])) (C := (0, [])) LM_ok (by decide +kernel) (show fw_S s_M_readFlood _ 0 b_M_readFlood _ _ _ from (fs_seq (fs_if t_M_readFlood_0 t_M_readFlood_1 (fs_skip rfl)) (fs_seq t_M_readFlood_2 (fs_seq t_M_readFlood_3 (fs_seq (fs_if t_M_readFlood_4 t_M_readFlood_5 (fs_skip rfl)) (fs_seq t_M_readFlood_6 t_M_readFlood_7)))))) (by decide)
/-! DyerBellsModel.readPebble (this 0 ) -/
abbrev s_M_readPebble : SI := (LM, RX12, cX12_readPebble, 4, 5, some 0)
set_option maxRecDepth 20000 in
theorem t_M_readPebble_0 {B C : Nat × FT} : fw_S s_M_readPebble [(0, 2)] 0 (stS 1 (ldE 192 160 (thE (cE 0) (cE 0)) (cE 4))) (7, [(0, 2), (1, 0)]) B C := fs_istn (fe_iald (fe_getR (fe_aloadn 0 rfl dX12_readPebble_0) fl_RX12_16 lm_0 rfl dX12_readPebble_1) (fe_iconst dX12_readPebble_4) lm_3 dX12_readPebble_5) dX12_readPebble_6 (by decide) rfl
set_option maxRecDepth 20000 in
theorem t_M_readPebble_1 : fw_B s_M_readPebble [(0, 2), (1, 0)] 0 7 13 19 (nB (cB 1 (vE 1) (cE 12))) := (fb_not (fb_icmp_ne (fe_iloadn 1 rfl dX12_readPebble_7) (fe_bipush dX12_readPebble_8) dX12_readPebble_10 rfl))
set_option maxRecDepth 20000 in
theorem t_M_readPebble_2 {N B C : Nat × FT} : fw_S s_M_readPebble [(0, 2), (1, 0)] 13 (rtS (clE m_M_bad [(cE 0), (cE 4)])) N B C := fs_ret (fe_callV (fa_cons (fe_aloadn 0 rfl dX12_readPebble_13) (fa_cons (fe_iconst dX12_readPebble_14) fa_nil)) C_M_bad lv_RX12_159 lm_0 rfl rfl (by decide) (by decide) (by decide) dX12_readPebble_15) dX12_readPebble_18
set_option maxRecDepth 20000 in
theorem t_M_readPebble_3 {B C : Nat × FT} : fw_S s_M_readPebble [(0, 2), (1, 0)] 19 (exS (clE m_M_go [(cE 0)])) (23, [(0, 2), (1, 0)]) B C := fs_callV (t := 0) (fa_cons (fe_aloadn 0 rfl dX12_readPebble_19) fa_nil) C_M_go lv_RX12_169 lm_0 rfl rfl (by decide) (by decide) dX12_readPebble_20 rfl
set_option maxRecDepth 20000 in
theorem t_M_readPebble_4 : fw_B s_M_readPebble [(0, 2), (1, 0)] 0 23 31 33 (nB (zB 1 (clE m_M_readColourTold [(cE 0), (cE 0)]))) := (fb_not (fb_if_ne (fe_callV (fa_cons (fe_aloadn 0 rfl dX12_readPebble_23) (fa_cons (fe_iconst dX12_readPebble_24) fa_nil)) C_M_readColourTold lv_RX12_226 lm_0 rfl rfl (by decide) (by decide) (by decide) dX12_readPebble_25) dX12_readPebble_28 rfl))
set_option maxRecDepth 20000 in
theorem t_M_readPebble_5 {N B C : Nat × FT} : fw_S s_M_readPebble [(0, 2), (1, 0)] 31 (rtS (cE 0)) N B C := fs_ret (fe_iconst dX12_readPebble_31) dX12_readPebble_32
set_option maxRecDepth 20000 in
theorem t_M_readPebble_6 {B C : Nat × FT} : fw_S s_M_readPebble [(0, 2), (1, 0)] 33 (stS 2 (o2 addI (cE 118) (o2 mulI (cE 3) (vE 1)))) (40, [(0, 2), (1, 0), (2, 0)]) B C := fs_istn (fe_iadd (fe_bipush dX12_readPebble_33) (fe_imul (fe_iconst dX12_readPebble_35) (fe_iloadn 1 rfl dX12_readPebble_36) dX12_readPebble_37) dX12_readPebble_38) dX12_readPebble_39 (by decide) rfl
set_option maxRecDepth 20000 in
theorem t_M_readPebble_7 {B C : Nat × FT} : fw_S s_M_readPebble [(0, 2), (1, 0), (2, 0)] 40 (asS 192 160 idI (thE (cE 0) (cE 0)) (vE 2) (thE (cE 0) (gE 13))) (50, [(0, 2), (1, 0), (2, 0)]) B C := fs_iast (fe_getR (fe_aloadn 0 rfl dX12_readPebble_40) fl_RX12_16 lm_0 rfl dX12_readPebble_41) (fe_iloadn 2 rfl dX12_readPebble_44) (fe_getI (fe_aloadn 0 rfl dX12_readPebble_45) fl_RX12_166 lm_0 rfl dX12_readPebble_46) lm_3 dX12_readPebble_49 rfl
set_option maxRecDepth 20000 in
theorem t_M_readPebble_8 {B C : Nat × FT} : fw_S s_M_readPebble [(0, 2), (1, 0), (2, 0)] 50 (exS (clE m_M_go [(cE 0)])) (54, [(0, 2), (1, 0), (2, 0)]) B C := fs_callV (t := 0) (fa_cons (fe_aloadn 0 rfl dX12_readPebble_50) fa_nil) C_M_go lv_RX12_169 lm_0 rfl rfl (by decide) (by decide) dX12_readPebble_51 rfl
set_option maxRecDepth 20000 in
theorem t_M_readPebble_9 : fw_B s_M_readPebble [(0, 2), (1, 0), (2, 0)] 0 54 62 68 (nB (cB 0 (thE (cE 0) (gE 7)) (cE 3))) := (fb_not (fb_icmp_eq (fe_getI (fe_aloadn 0 rfl dX12_readPebble_54) fl_RX12_113 lm_0 rfl dX12_readPebble_55) (fe_iconst dX12_readPebble_58) dX12_readPebble_59 rfl))
set_option maxRecDepth 20000 in
theorem t_M_readPebble_10 {N B C : Nat × FT} : fw_S s_M_readPebble [(0, 2), (1, 0), (2, 0)] 62 (rtS (clE m_M_bad [(cE 0), (cE 1)])) N B C := fs_ret (fe_callV (fa_cons (fe_aloadn 0 rfl dX12_readPebble_62) (fa_cons (fe_iconst dX12_readPebble_63) fa_nil)) C_M_bad lv_RX12_159 lm_0 rfl rfl (by decide) (by decide) (by decide) dX12_readPebble_64) dX12_readPebble_67
set_option maxRecDepth 20000 in
theorem t_M_readPebble_11 : fw_B s_M_readPebble [(0, 2), (1, 0), (2, 0)] 0 68 82 88 (nB (zB 1 (clE m_M_isIn [(thE (cE 0) (gE 8)), (cE 1), (cE 9999)]))) := (fb_not (fb_if_ne (fe_callS (fa_cons (fe_getI (fe_aloadn 0 rfl dX12_readPebble_68) fl_RX12_130 lm_0 rfl dX12_readPebble_69) (fa_cons (fe_iconst dX12_readPebble_72) (fa_cons (fe_sipush dX12_readPebble_73) fa_nil))) C_M_isIn ls_RX12_162 rfl (by decide) (by decide) (by decide) dX12_readPebble_76) dX12_readPebble_79 rfl))
set_option maxRecDepth 20000 in
theorem t_M_readPebble_12 {N B C : Nat × FT} : fw_S s_M_readPebble [(0, 2), (1, 0), (2, 0)] 82 (rtS (clE m_M_bad [(cE 0), (cE 2)])) N B C := fs_ret (fe_callV (fa_cons (fe_aloadn 0 rfl dX12_readPebble_82) (fa_cons (fe_iconst dX12_readPebble_83) fa_nil)) C_M_bad lv_RX12_159 lm_0 rfl rfl (by decide) (by decide) (by decide) dX12_readPebble_84) dX12_readPebble_87
set_option maxRecDepth 20000 in
theorem t_M_readPebble_13 {B C : Nat × FT} : fw_S s_M_readPebble [(0, 2), (1, 0), (2, 0)] 88 (stS 3 (cE 0)) (90, [(0, 2), (1, 0), (2, 0), (3, 0)]) B C := fs_istn (fe_iconst dX12_readPebble_88) dX12_readPebble_89 (by decide) rfl
set_option maxRecDepth 20000 in
theorem t_M_readPebble_14 : fw_B s_M_readPebble [(0, 2), (1, 0), (2, 0), (3, 0)] 0 90 95 147 (nB (cB 3 (vE 3) (vE 1))) := (fb_not (fb_icmp_ge (fe_iloadn 3 rfl dX12_readPebble_90) (fe_iloadn 1 rfl dX12_readPebble_91) dX12_readPebble_92 rfl))
set_option maxRecDepth 20000 in
theorem t_M_readPebble_15 : fw_B s_M_readPebble [(0, 2), (1, 0), (2, 0), (3, 0)] 0 95 135 141 (andB (nB (cB 1 (ldE 192 160 (thE (cE 0) (cE 0)) (o2 addI (cE 118) (o2 mulI (cE 3) (vE 3)))) (ldE 192 160 (thE (cE 0) (cE 0)) (vE 2)))) (nB (cB 1 (ldE 192 160 (thE (cE 0) (cE 0)) (o2 addI (o2 addI (cE 118) (o2 mulI (cE 3) (vE 3))) (cE 1))) (thE (cE 0) (gE 8))))) := (fb_and (fb_not (fb_icmp_ne (fe_iald (fe_getR (fe_aloadn 0 rfl dX12_readPebble_95) fl_RX12_16 lm_0 rfl dX12_readPebble_96) (fe_iadd (fe_bipush dX12_readPebble_99) (fe_imul (fe_iconst dX12_readPebble_101) (fe_iloadn 3 rfl dX12_readPebble_102) dX12_readPebble_103) dX12_readPebble_104) lm_3 dX12_readPebble_105) (fe_iald (fe_getR (fe_aloadn 0 rfl dX12_readPebble_106) fl_RX12_16 lm_0 rfl dX12_readPebble_107) (fe_iloadn 2 rfl dX12_readPebble_110) lm_3 dX12_readPebble_111) dX12_readPebble_112 rfl)) (fb_not (fb_icmp_ne (fe_iald (fe_getR (fe_aloadn 0 rfl dX12_readPebble_115) fl_RX12_16 lm_0 rfl dX12_readPebble_116) (fe_iadd (fe_iadd (fe_bipush dX12_readPebble_119) (fe_imul (fe_iconst dX12_readPebble_121) (fe_iloadn 3 rfl dX12_readPebble_122) dX12_readPebble_123) dX12_readPebble_124) (fe_iconst dX12_readPebble_125) dX12_readPebble_126) lm_3 dX12_readPebble_127) (fe_getI (fe_aloadn 0 rfl dX12_readPebble_128) fl_RX12_130 lm_0 rfl dX12_readPebble_129) dX12_readPebble_132 rfl)))
set_option maxRecDepth 20000 in
theorem t_M_readPebble_16 {N B C : Nat × FT} : fw_S s_M_readPebble [(0, 2), (1, 0), (2, 0), (3, 0)] 135 (rtS (clE m_M_bad [(cE 0), (cE 3)])) N B C := fs_ret (fe_callV (fa_cons (fe_aloadn 0 rfl dX12_readPebble_135) (fa_cons (fe_iconst dX12_readPebble_136) fa_nil)) C_M_bad lv_RX12_159 lm_0 rfl rfl (by decide) (by decide) (by decide) dX12_readPebble_137) dX12_readPebble_140
set_option maxRecDepth 20000 in
theorem t_M_readPebble_17 {B C : Nat × FT} : fw_S s_M_readPebble [(0, 2), (1, 0), (2, 0), (3, 0)] 141 (inS 3 1) (144, [(0, 2), (1, 0), (2, 0), (3, 0)]) B C := fs_inc (j := 3) rfl dX12_readPebble_141 (by decide) rfl
set_option maxRecDepth 20000 in
theorem t_M_readPebble_18 {B C : Nat × FT} : fw_S s_M_readPebble [(0, 2), (1, 0), (2, 0), (3, 0)] 90 (whS (nB (cB 3 (vE 3) (vE 1))) (ifS (andB (nB (cB 1 (ldE 192 160 (thE (cE 0) (cE 0)) (o2 addI (cE 118) (o2 mulI (cE 3) (vE 3)))) (ldE 192 160 (thE (cE 0) (cE 0)) (vE 2)))) (nB (cB 1 (ldE 192 160 (thE (cE 0) (cE 0)) (o2 addI (o2 addI (cE 118) (o2 mulI (cE 3) (vE 3))) (cE 1))) (thE (cE 0) (gE 8))))) (rtS (clE m_M_bad [(cE 0), (cE 3)])) skS) (inS 3 1) FU) (147, [(0, 2), (1, 0), (2, 0), (3, 0)]) B C := fs_while t_M_readPebble_14 (fs_if t_M_readPebble_15 t_M_readPebble_16 (fs_skip rfl)) (fs_goto t_M_readPebble_17 dX12_readPebble_144 rfl)
set_option maxRecDepth 20000 in
theorem t_M_readPebble_19 {B C : Nat × FT} : fw_S s_M_readPebble [(0, 2), (1, 0), (2, 0)] 147 (asS 192 160 idI (thE (cE 0) (cE 0)) (o2 addI (vE 2) (cE 1)) (thE (cE 0) (gE 8))) (159, [(0, 2), (1, 0), (2, 0)]) B C := fs_iast (fe_getR (fe_aloadn 0 rfl dX12_readPebble_147) fl_RX12_16 lm_0 rfl dX12_readPebble_148) (fe_iadd (fe_iloadn 2 rfl dX12_readPebble_151) (fe_iconst dX12_readPebble_152) dX12_readPebble_153) (fe_getI (fe_aloadn 0 rfl dX12_readPebble_154) fl_RX12_130 lm_0 rfl dX12_readPebble_155) lm_3 dX12_readPebble_158 rfl
set_option maxRecDepth 20000 in
theorem t_M_readPebble_20 {B C : Nat × FT} : fw_S s_M_readPebble [(0, 2), (1, 0), (2, 0)] 159 (exS (clE m_M_go [(cE 0)])) (163, [(0, 2), (1, 0), (2, 0)]) B C := fs_callV (t := 0) (fa_cons (fe_aloadn 0 rfl dX12_readPebble_159) fa_nil) C_M_go lv_RX12_169 lm_0 rfl rfl (by decide) (by decide) dX12_readPebble_160 rfl
set_option maxRecDepth 20000 in
theorem t_M_readPebble_21 : fw_B s_M_readPebble [(0, 2), (1, 0), (2, 0)] 0 163 174 176 (nB (zB 1 (clE m_M_readNumber [(cE 0), (cE 0), (cE 999)]))) := (fb_not (fb_if_ne (fe_callV (fa_cons (fe_aloadn 0 rfl dX12_readPebble_163) (fa_cons (fe_iconst dX12_readPebble_164) (fa_cons (fe_sipush dX12_readPebble_165) fa_nil))) C_M_readNumber lv_RX12_216 lm_0 rfl rfl (by decide) (by decide) (by decide) dX12_readPebble_168) dX12_readPebble_171 rfl))
set_option maxRecDepth 20000 in
theorem t_M_readPebble_22 {N B C : Nat × FT} : fw_S s_M_readPebble [(0, 2), (1, 0), (2, 0)] 174 (rtS (cE 0)) N B C := fs_ret (fe_iconst dX12_readPebble_174) dX12_readPebble_175
set_option maxRecDepth 20000 in
theorem t_M_readPebble_23 {B C : Nat × FT} : fw_S s_M_readPebble [(0, 2), (1, 0), (2, 0)] 176 (asS 192 160 idI (thE (cE 0) (cE 0)) (o2 addI (vE 2) (cE 2)) (thE (cE 0) (gE 13))) (188, [(0, 2), (1, 0), (2, 0)]) B C := fs_iast (fe_getR (fe_aloadn 0 rfl dX12_readPebble_176) fl_RX12_16 lm_0 rfl dX12_readPebble_177) (fe_iadd (fe_iloadn 2 rfl dX12_readPebble_180) (fe_iconst dX12_readPebble_181) dX12_readPebble_182) (fe_getI (fe_aloadn 0 rfl dX12_readPebble_183) fl_RX12_166 lm_0 rfl dX12_readPebble_184) lm_3 dX12_readPebble_187 rfl
set_option maxRecDepth 20000 in
theorem t_M_readPebble_24 {B C : Nat × FT} : fw_S s_M_readPebble [(0, 2), (1, 0), (2, 0)] 188 (aoS 192 160 addI (thE (cE 0) (cE 0)) (cE 4) (cE 1)) (198, [(0, 2), (1, 0), (2, 0)]) B C := fs_ao_add (fe_getR (fe_aloadn 0 rfl dX12_readPebble_188) fl_RX12_16 lm_0 rfl dX12_readPebble_189) (fe_iconst dX12_readPebble_192) dX12_readPebble_193 dX12_readPebble_194 (fe_iconst dX12_readPebble_195) dX12_readPebble_196 lm_3 dX12_readPebble_197 rfl
set_option maxRecDepth 20000 in
theorem t_M_readPebble_25 {N B C : Nat × FT} : fw_S s_M_readPebble [(0, 2), (1, 0), (2, 0)] 198 (rtS (cE 1)) N B C := fs_ret (fe_iconst dX12_readPebble_198) dX12_readPebble_199
set_option maxRecDepth 20000 in
theorem C_M_readPebble : fw_C LM yX12_readPebble cX12_readPebble 4 (some .boolean) 5 [2] (some 0) m_M_readPebble := fm_z (d := 5) (N := (0, [])) (B := (0, [])) (C := (0, [])) LM_ok (by decide +kernel) (show fw_S s_M_readPebble _ 0 b_M_readPebble _ _ _ from (fs_seq t_M_readPebble_0 (fs_seq (fs_if t_M_readPebble_1 t_M_readPebble_2 (fs_skip rfl)) (fs_seq t_M_readPebble_3 (fs_seq (fs_if t_M_readPebble_4 t_M_readPebble_5 (fs_skip rfl)) (fs_seq t_M_readPebble_6 (fs_seq t_M_readPebble_7 (fs_seq t_M_readPebble_8 (fs_seq (fs_if t_M_readPebble_9 t_M_readPebble_10 (fs_skip rfl)) (fs_seq (fs_if t_M_readPebble_11 t_M_readPebble_12 (fs_skip rfl)) (fs_seq (fs_seq t_M_readPebble_13 (fs_weak t_M_readPebble_18 rfl)) (fs_seq t_M_readPebble_19 (fs_seq t_M_readPebble_20 (fs_seq (fs_if t_M_readPebble_21 t_M_readPebble_22 (fs_skip rfl)) (fs_seq t_M_readPebble_23 (fs_seq t_M_readPebble_24 t_M_readPebble_25)))))))))))))))) (by decide)
/-! DyerBellsModel.isSign (this 0 ) -/
abbrev s_M_isSign : SI := (LM, RX12, cX12_isSign, 2, 1, some 0)
set_option maxRecDepth 20000 in
theorem t_M_isSign_0 {N B C : Nat × FT} : fw_S s_M_isSign [(0, 2), (1, 0)] 0 (rtS (kE (andB (nB (cB 1 (thE (cE 0) (gE 7)) (cE 4))) (nB (cB 1 (thE (cE 0) (gE 9)) (vE 1)))) (cE 1) (cE 0))) N B C := fs_ret (fe_ternG (fb_and (fb_not (fb_icmp_ne (fe_getI (fe_aloadn 0 rfl dX12_isSign_0) fl_RX12_113 lm_0 rfl dX12_isSign_1) (fe_iconst dX12_isSign_4) dX12_isSign_5 rfl)) (fb_not (fb_icmp_ne (fe_getI (fe_aloadn 0 rfl dX12_isSign_8) fl_RX12_123 lm_0 rfl dX12_isSign_9) (fe_iloadn 1 rfl dX12_isSign_12) dX12_isSign_13 rfl))) (fe_gt (fe_iconst dX12_isSign_16) dX12_isSign_17 rfl) (fe_iconst dX12_isSign_20)) dX12_isSign_21
set_option maxRecDepth 20000 in
theorem C_M_isSign : fw_C LM yX12_isSign cX12_isSign 2 (some .boolean) 1 [2, 0] (some 0) m_M_isSign := fm_z (d := 1) (N := (0, [])) (B := (0, [])) (C := (0, [])) LM_ok (by decide +kernel) (show fw_S s_M_isSign _ 0 b_M_isSign _ _ _ from t_M_isSign_0) (by decide)
/-! DyerBellsModel.readEnd (this 0 ) -/
abbrev s_M_readEnd : SI := (LM, RX12, cX12_readEnd, 1, 3, some 0)
set_option maxRecDepth 20000 in
theorem t_M_readEnd_0 : fw_B s_M_readEnd [(0, 2)] 0 0 9 15 (nB (zB 1 (clE m_M_isSign [(cE 0), (cE 59)]))) := (fb_not (fb_if_ne (fe_callV (fa_cons (fe_aloadn 0 rfl dX12_readEnd_0) (fa_cons (fe_bipush dX12_readEnd_1) fa_nil)) C_M_isSign lv_RX12_172 lm_0 rfl rfl (by decide) (by decide) (by decide) dX12_readEnd_3) dX12_readEnd_6 rfl))
set_option maxRecDepth 20000 in
theorem t_M_readEnd_1 {N B C : Nat × FT} : fw_S s_M_readEnd [(0, 2)] 9 (rtS (clE m_M_bad [(cE 0), (cE 1)])) N B C := fs_ret (fe_callV (fa_cons (fe_aloadn 0 rfl dX12_readEnd_9) (fa_cons (fe_iconst dX12_readEnd_10) fa_nil)) C_M_bad lv_RX12_159 lm_0 rfl rfl (by decide) (by decide) (by decide) dX12_readEnd_11) dX12_readEnd_14
set_option maxRecDepth 20000 in
theorem t_M_readEnd_2 {B C : Nat × FT} : fw_S s_M_readEnd [(0, 2)] 15 (exS (clE m_M_go [(cE 0)])) (19, [(0, 2)]) B C := fs_callV (t := 0) (fa_cons (fe_aloadn 0 rfl dX12_readEnd_15) fa_nil) C_M_go lv_RX12_169 lm_0 rfl rfl (by decide) (by decide) dX12_readEnd_16 rfl
set_option maxRecDepth 20000 in
theorem t_M_readEnd_3 {N B C : Nat × FT} : fw_S s_M_readEnd [(0, 2)] 19 (rtS (cE 1)) N B C := fs_ret (fe_iconst dX12_readEnd_19) dX12_readEnd_20
set_option maxRecDepth 20000 in
theorem C_M_readEnd : fw_C LM yX12_readEnd cX12_readEnd 1 (some .boolean) 3 [2] (some 0) m_M_readEnd := fm_z (d := 3) (N := (0, [])) (B := (0, [])) (C := (0, [])) LM_ok (by decide +kernel) (show fw_S s_M_readEnd _ 0 b_M_readEnd _ _ _ from (fs_seq (fs_if t_M_readEnd_0 t_M_readEnd_1 (fs_skip rfl)) (fs_seq t_M_readEnd_2 t_M_readEnd_3))) (by decide)
/-! DyerBellsModel.readLine (this 0 ) -/
abbrev s_M_readLine : SI := (LM, RX12, cX12_readLine, 3, 6, some 0)
set_option maxRecDepth 20000 in
theorem t_M_readLine_0 {B C : Nat × FT} : fw_S s_M_readLine [(0, 2)] 0 (stS 1 (cE 0)) (2, [(0, 2), (1, 0)]) B C := fs_istn (fe_iconst dX12_readLine_0) dX12_readLine_1 (by decide) rfl
set_option maxRecDepth 20000 in
theorem t_M_readLine_1 : fw_B s_M_readLine [(0, 2), (1, 0)] 0 2 16 22 (andB (nB (cB 4 (vE 1) (cE 6))) (nB (zB 1 (clE m_M_isWord [(cE 0), (vE 1)])))) := (fb_and (fb_not (fb_icmp_gt (fe_iloadn 1 rfl dX12_readLine_2) (fe_bipush dX12_readLine_3) dX12_readLine_5 rfl)) (fb_not (fb_if_ne (fe_callV (fa_cons (fe_aloadn 0 rfl dX12_readLine_8) (fa_cons (fe_iloadn 1 rfl dX12_readLine_9) fa_nil)) C_M_isWord lv_RX12_235 lm_0 rfl rfl (by decide) (by decide) (by decide) dX12_readLine_10) dX12_readLine_13 rfl)))
set_option maxRecDepth 20000 in
theorem t_M_readLine_2 {B C : Nat × FT} : fw_S s_M_readLine [(0, 2), (1, 0)] 16 (inS 1 1) (19, [(0, 2), (1, 0)]) B C := fs_inc (j := 1) rfl dX12_readLine_16 (by decide) rfl
set_option maxRecDepth 20000 in
theorem t_M_readLine_3 {B C : Nat × FT} : fw_S s_M_readLine [(0, 2), (1, 0)] 2 (whS (andB (nB (cB 4 (vE 1) (cE 6))) (nB (zB 1 (clE m_M_isWord [(cE 0), (vE 1)])))) (inS 1 1) skS FU) (22, [(0, 2), (1, 0)]) B C := fs_while t_M_readLine_1 (fs_goto t_M_readLine_2 dX12_readLine_19 rfl) (fs_skip rfl)
set_option maxRecDepth 20000 in
theorem t_M_readLine_4 {B C : Nat × FT} : fw_S s_M_readLine [(0, 2), (1, 0)] 64 (stS 2 (clE m_M_readReach [(cE 0)])) (69, [(0, 2), (1, 0), (2, 0)]) B C := fs_istn (fe_callV (fa_cons (fe_aloadn 0 rfl dX12_readLine_64) fa_nil) C_M_readReach lv_RX12_238 lm_0 rfl rfl (by decide) (by decide) (by decide) dX12_readLine_65) dX12_readLine_68 (by decide) rfl
set_option maxRecDepth 20000 in
theorem t_M_readLine_5 {B C : Nat × FT} : fw_S s_M_readLine [(0, 2), (1, 0)] 72 (stS 2 (clE m_M_readColour [(cE 0)])) (77, [(0, 2), (1, 0), (2, 0)]) B C := fs_istn (fe_callV (fa_cons (fe_aloadn 0 rfl dX12_readLine_72) fa_nil) C_M_readColour lv_RX12_241 lm_0 rfl rfl (by decide) (by decide) (by decide) dX12_readLine_73) dX12_readLine_76 (by decide) rfl
set_option maxRecDepth 20000 in
theorem t_M_readLine_6 {B C : Nat × FT} : fw_S s_M_readLine [(0, 2), (1, 0)] 80 (stS 2 (clE m_M_readGuild [(cE 0)])) (85, [(0, 2), (1, 0), (2, 0)]) B C := fs_istn (fe_callV (fa_cons (fe_aloadn 0 rfl dX12_readLine_80) fa_nil) C_M_readGuild lv_RX12_244 lm_0 rfl rfl (by decide) (by decide) (by decide) dX12_readLine_81) dX12_readLine_84 (by decide) rfl
set_option maxRecDepth 20000 in
theorem t_M_readLine_7 {B C : Nat × FT} : fw_S s_M_readLine [(0, 2), (1, 0)] 88 (stS 2 (clE m_M_readUser [(cE 0)])) (93, [(0, 2), (1, 0), (2, 0)]) B C := fs_istn (fe_callV (fa_cons (fe_aloadn 0 rfl dX12_readLine_88) fa_nil) C_M_readUser lv_RX12_247 lm_0 rfl rfl (by decide) (by decide) (by decide) dX12_readLine_89) dX12_readLine_92 (by decide) rfl
set_option maxRecDepth 20000 in
theorem t_M_readLine_8 {B C : Nat × FT} : fw_S s_M_readLine [(0, 2), (1, 0)] 96 (stS 2 (clE m_M_readFlow [(cE 0)])) (101, [(0, 2), (1, 0), (2, 0)]) B C := fs_istn (fe_callV (fa_cons (fe_aloadn 0 rfl dX12_readLine_96) fa_nil) C_M_readFlow lv_RX12_250 lm_0 rfl rfl (by decide) (by decide) (by decide) dX12_readLine_97) dX12_readLine_100 (by decide) rfl
set_option maxRecDepth 20000 in
theorem t_M_readLine_9 {B C : Nat × FT} : fw_S s_M_readLine [(0, 2), (1, 0)] 104 (stS 2 (clE m_M_readFlood [(cE 0)])) (109, [(0, 2), (1, 0), (2, 0)]) B C := fs_istn (fe_callV (fa_cons (fe_aloadn 0 rfl dX12_readLine_104) fa_nil) C_M_readFlood lv_RX12_253 lm_0 rfl rfl (by decide) (by decide) (by decide) dX12_readLine_105) dX12_readLine_108 (by decide) rfl
set_option maxRecDepth 20000 in
theorem t_M_readLine_10 {B C : Nat × FT} : fw_S s_M_readLine [(0, 2), (1, 0)] 112 (stS 2 (clE m_M_readPebble [(cE 0)])) (117, [(0, 2), (1, 0), (2, 0)]) B C := fs_istn (fe_callV (fa_cons (fe_aloadn 0 rfl dX12_readLine_112) fa_nil) C_M_readPebble lv_RX12_256 lm_0 rfl rfl (by decide) (by decide) (by decide) dX12_readLine_113) dX12_readLine_116 (by decide) rfl
set_option maxRecDepth 20000 in
theorem t_M_readLine_11 {N B C : Nat × FT} : fw_S s_M_readLine [(0, 2), (1, 0)] 120 (rtS (clE m_M_bad [(cE 0), (cE 1)])) N B C := fs_ret (fe_callV (fa_cons (fe_aloadn 0 rfl dX12_readLine_120) (fa_cons (fe_iconst dX12_readLine_121) fa_nil)) C_M_bad lv_RX12_159 lm_0 rfl rfl (by decide) (by decide) (by decide) dX12_readLine_122) dX12_readLine_125
set_option maxRecDepth 20000 in
theorem t_M_readLine_12 {C : Nat × FT} : fw_S s_M_readLine [(0, 2), (1, 0)] 22 (tsS (vE 1) 0 [(sq (stS 2 (clE m_M_readReach [(cE 0)])) brS), (sq (stS 2 (clE m_M_readColour [(cE 0)])) brS), (sq (stS 2 (clE m_M_readGuild [(cE 0)])) brS), (sq (stS 2 (clE m_M_readUser [(cE 0)])) brS), (sq (stS 2 (clE m_M_readFlow [(cE 0)])) brS), (sq (stS 2 (clE m_M_readFlood [(cE 0)])) brS), (sq (stS 2 (clE m_M_readPebble [(cE 0)])) brS)] (rtS (clE m_M_bad [(cE 0), (cE 1)]))) (126, [(0, 2), (1, 0), (2, 0)]) (126, [(0, 2), (1, 0), (2, 0)]) C := fs_tsw (cs := [(64, (sq (stS 2 (clE m_M_readReach [(cE 0)])) brS)), (72, (sq (stS 2 (clE m_M_readColour [(cE 0)])) brS)), (80, (sq (stS 2 (clE m_M_readGuild [(cE 0)])) brS)), (88, (sq (stS 2 (clE m_M_readUser [(cE 0)])) brS)), (96, (sq (stS 2 (clE m_M_readFlow [(cE 0)])) brS)), (104, (sq (stS 2 (clE m_M_readFlood [(cE 0)])) brS)), (112, (sq (stS 2 (clE m_M_readPebble [(cE 0)])) brS))]) (fe_iloadn 1 rfl dX12_readLine_22) dX12_readLine_23 ⟨⟨_, rfl, rfl⟩, (fs_seq t_M_readLine_4 (fs_brk dX12_readLine_69 rfl rfl)), ⟨⟨_, rfl, rfl⟩, (fs_seq t_M_readLine_5 (fs_brk dX12_readLine_77 rfl rfl)), ⟨⟨_, rfl, rfl⟩, (fs_seq t_M_readLine_6 (fs_brk dX12_readLine_85 rfl rfl)), ⟨⟨_, rfl, rfl⟩, (fs_seq t_M_readLine_7 (fs_brk dX12_readLine_93 rfl rfl)), ⟨⟨_, rfl, rfl⟩, (fs_seq t_M_readLine_8 (fs_brk dX12_readLine_101 rfl rfl)), ⟨⟨_, rfl, rfl⟩, (fs_seq t_M_readLine_9 (fs_brk dX12_readLine_109 rfl rfl)), ⟨⟨_, rfl, rfl⟩, (fs_seq t_M_readLine_10 (fs_brk dX12_readLine_117 rfl rfl)), trivial⟩⟩⟩⟩⟩⟩⟩ rfl rfl t_M_readLine_11
set_option maxRecDepth 20000 in
theorem t_M_readLine_13 {N B C : Nat × FT} : fw_S s_M_readLine [(0, 2), (1, 0), (2, 0)] 126 (rtS (kE (andB (nB (zB 0 (vE 2))) (nB (zB 0 (clE m_M_readEnd [(cE 0)])))) (cE 1) (cE 0))) N B C := fs_ret (fe_ternG (fb_and (fb_not (fb_if_eq (fe_iloadn 2 rfl dX12_readLine_126) dX12_readLine_127 rfl)) (fb_not (fb_if_eq (fe_callV (fa_cons (fe_aloadn 0 rfl dX12_readLine_130) fa_nil) C_M_readEnd lv_RX12_259 lm_0 rfl rfl (by decide) (by decide) (by decide) dX12_readLine_131) dX12_readLine_134 rfl))) (fe_gt (fe_iconst dX12_readLine_137) dX12_readLine_138 rfl) (fe_iconst dX12_readLine_141)) dX12_readLine_142
set_option maxRecDepth 20000 in
theorem C_M_readLine : fw_C LM yX12_readLine cX12_readLine 3 (some .boolean) 6 [2] (some 0) m_M_readLine := fm_z (d := 6) (N := (0, [])) (B := (0, [])) (C := (0, [])) LM_ok (by decide +kernel) (show fw_S s_M_readLine _ 0 b_M_readLine _ _ _ from (fs_seq t_M_readLine_0 (fs_seq t_M_readLine_3 (fs_seq (fs_skip rfl) (fs_seq (fs_sw t_M_readLine_12) t_M_readLine_13))))) (by decide)
/-! DyerBellsModel.river (this 0 ) -/
abbrev s_M_river : SI := (LM, RX12, cX12_river, 3, 7, some 0)
set_option maxRecDepth 20000 in
theorem t_M_river_0 {B C : Nat × FT} : fw_S s_M_river [(0, 2)] 0 (exS (clE m_M_begin [(cE 0), (cE 900)])) (7, [(0, 2)]) B C := fs_callV (t := 0) (fa_cons (fe_aloadn 0 rfl dX12_river_0) (fa_cons (fe_sipush dX12_river_1) fa_nil)) C_M_begin lv_RX12_262 lm_0 rfl rfl (by decide) (by decide) dX12_river_4 rfl
set_option maxRecDepth 20000 in
theorem t_M_river_1 {B C : Nat × FT} : fw_S s_M_river [(0, 2)] 7 (exS (clE m_M_standard_2 [(thE (cE 0) (cE 0))])) (14, [(0, 2)]) B C := fs_callS (t := 0) (fa_cons (fe_getR (fe_aloadn 0 rfl dX12_river_7) fl_RX12_16 lm_0 rfl dX12_river_8) fa_nil) C_M_standard_2 ls_RX12_186 rfl (by decide) (by decide) dX12_river_11 rfl
set_option maxRecDepth 20000 in
theorem t_M_river_2 {B C : Nat × FT} : fw_S s_M_river [(0, 2)] 14 (pfS 23 (cE 0) (cE 0)) (19, [(0, 2)]) B C := fs_put (fe_aloadn 0 rfl dX12_river_14) (fe_iconst dX12_river_15) fp_RX12_232 lm_0 rfl dX12_river_16 rfl
set_option maxRecDepth 20000 in
theorem t_M_river_3 {B C : Nat × FT} : fw_S s_M_river [(0, 2)] 19 (pfS 24 (cE 0) (cE 0)) (24, [(0, 2)]) B C := fs_put (fe_aloadn 0 rfl dX12_river_19) (fe_iconst dX12_river_20) fp_RX12_229 lm_0 rfl dX12_river_21 rfl
set_option maxRecDepth 20000 in
theorem t_M_river_4 {B C : Nat × FT} : fw_S s_M_river [(0, 2)] 24 (stS 1 (cE 0)) (26, [(0, 2), (1, 0)]) B C := fs_istn (fe_iconst dX12_river_24) dX12_river_25 (by decide) rfl
set_option maxRecDepth 20000 in
theorem t_M_river_5 : fw_B s_M_river [(0, 2), (1, 0)] 0 26 33 53 (nB (zB 0 (thE (cE 0) (gE 7)))) := (fb_not (fb_if_eq (fe_getI (fe_aloadn 0 rfl dX12_river_26) fl_RX12_113 lm_0 rfl dX12_river_27) dX12_river_30 rfl))
set_option maxRecDepth 20000 in
theorem t_M_river_6 : fw_B s_M_river [(0, 2), (1, 0)] 0 33 40 47 (nB (zB 1 (clE m_M_readLine [(cE 0)]))) := (fb_not (fb_if_ne (fe_callV (fa_cons (fe_aloadn 0 rfl dX12_river_33) fa_nil) C_M_readLine lv_RX12_265 lm_0 rfl rfl (by decide) (by decide) (by decide) dX12_river_34) dX12_river_37 rfl))
set_option maxRecDepth 20000 in
theorem t_M_river_7 {N B C : Nat × FT} : fw_S s_M_river [(0, 2), (1, 0)] 40 (rtS (o2 subI (cE (-1)) (thE (cE 0) (gE 11)))) N B C := fs_ret (fe_isub (fe_iconst dX12_river_40) (fe_getI (fe_aloadn 0 rfl dX12_river_41) fl_RX12_156 lm_0 rfl dX12_river_42) dX12_river_45) dX12_river_46
set_option maxRecDepth 20000 in
theorem t_M_river_8 {B C : Nat × FT} : fw_S s_M_river [(0, 2), (1, 0)] 47 (inS 1 1) (50, [(0, 2), (1, 0)]) B C := fs_inc (j := 1) rfl dX12_river_47 (by decide) rfl
set_option maxRecDepth 20000 in
theorem t_M_river_9 {B C : Nat × FT} : fw_S s_M_river [(0, 2), (1, 0)] 26 (whS (nB (zB 0 (thE (cE 0) (gE 7)))) (sq (ifS (nB (zB 1 (clE m_M_readLine [(cE 0)]))) (rtS (o2 subI (cE (-1)) (thE (cE 0) (gE 11)))) skS) (inS 1 1)) skS FU) (53, [(0, 2), (1, 0)]) B C := fs_while t_M_river_5 (fs_goto (fs_seq (fs_if t_M_river_6 t_M_river_7 (fs_skip rfl)) t_M_river_8) dX12_river_50 rfl) (fs_skip rfl)
set_option maxRecDepth 20000 in
theorem t_M_river_10 {B C : Nat × FT} : fw_S s_M_river [(0, 2), (1, 0)] 53 (stS 2 (cE 0)) (55, [(0, 2), (1, 0), (2, 0)]) B C := fs_istn (fe_iconst dX12_river_53) dX12_river_54 (by decide) rfl
set_option maxRecDepth 20000 in
theorem t_M_river_11 : fw_B s_M_river [(0, 2), (1, 0), (2, 0)] 0 55 62 80 (nB (cB 3 (vE 2) (cE 160))) := (fb_not (fb_icmp_ge (fe_iloadn 2 rfl dX12_river_55) (fe_sipush dX12_river_56) dX12_river_59 rfl))
set_option maxRecDepth 20000 in
theorem t_M_river_12 {B C : Nat × FT} : fw_S s_M_river [(0, 2), (1, 0), (2, 0)] 62 (asS 128 592 idI (thE (cE 0) (cE 0)) (vE 2) (ldE 192 160 (thE (cE 0) (cE 0)) (vE 2))) (74, [(0, 2), (1, 0), (2, 0)]) B C := fs_iast (fe_getR (fe_aloadn 0 rfl dX12_river_62) fl_RX12_13 lm_0 rfl dX12_river_63) (fe_iloadn 2 rfl dX12_river_66) (fe_iald (fe_getR (fe_aloadn 0 rfl dX12_river_67) fl_RX12_16 lm_0 rfl dX12_river_68) (fe_iloadn 2 rfl dX12_river_71) lm_3 dX12_river_72) lm_2 dX12_river_73 rfl
set_option maxRecDepth 20000 in
theorem t_M_river_13 {B C : Nat × FT} : fw_S s_M_river [(0, 2), (1, 0), (2, 0)] 74 (inS 2 1) (77, [(0, 2), (1, 0), (2, 0)]) B C := fs_inc (j := 2) rfl dX12_river_74 (by decide) rfl
set_option maxRecDepth 20000 in
theorem t_M_river_14 {B C : Nat × FT} : fw_S s_M_river [(0, 2), (1, 0), (2, 0)] 55 (whS (nB (cB 3 (vE 2) (cE 160))) (asS 128 592 idI (thE (cE 0) (cE 0)) (vE 2) (ldE 192 160 (thE (cE 0) (cE 0)) (vE 2))) (inS 2 1) FU) (80, [(0, 2), (1, 0), (2, 0)]) B C := fs_while t_M_river_11 t_M_river_12 (fs_goto t_M_river_13 dX12_river_77 rfl)
set_option maxRecDepth 20000 in
theorem t_M_river_15 {B C : Nat × FT} : fw_S s_M_river [(0, 2), (1, 0)] 80 (stS 2 (cE 0)) (82, [(0, 2), (1, 0), (2, 0)]) B C := fs_istn (fe_iconst dX12_river_80) dX12_river_81 (by decide) rfl
set_option maxRecDepth 20000 in
theorem t_M_river_16 : fw_B s_M_river [(0, 2), (1, 0), (2, 0)] 0 82 88 106 (nB (cB 3 (vE 2) (cE 26))) := (fb_not (fb_icmp_ge (fe_iloadn 2 rfl dX12_river_82) (fe_bipush dX12_river_83) dX12_river_85 rfl))
set_option maxRecDepth 20000 in
theorem t_M_river_17 {B C : Nat × FT} : fw_S s_M_river [(0, 2), (1, 0), (2, 0)] 88 (asS 384 26 idI (thE (cE 0) (cE 0)) (vE 2) (ldE 448 26 (thE (cE 0) (cE 0)) (vE 2))) (100, [(0, 2), (1, 0), (2, 0)]) B C := fs_last (fe_getR (fe_aloadn 0 rfl dX12_river_88) fl_RX12_25 lm_0 rfl dX12_river_89) (fe_iloadn 2 rfl dX12_river_92) (fe_lald (fe_getR (fe_aloadn 0 rfl dX12_river_93) fl_RX12_29 lm_0 rfl dX12_river_94) (fe_iloadn 2 rfl dX12_river_97) lm_7 dX12_river_98) lm_6 dX12_river_99 rfl
set_option maxRecDepth 20000 in
theorem t_M_river_18 {B C : Nat × FT} : fw_S s_M_river [(0, 2), (1, 0), (2, 0)] 100 (inS 2 1) (103, [(0, 2), (1, 0), (2, 0)]) B C := fs_inc (j := 2) rfl dX12_river_100 (by decide) rfl
set_option maxRecDepth 20000 in
theorem t_M_river_19 {B C : Nat × FT} : fw_S s_M_river [(0, 2), (1, 0), (2, 0)] 82 (whS (nB (cB 3 (vE 2) (cE 26))) (asS 384 26 idI (thE (cE 0) (cE 0)) (vE 2) (ldE 448 26 (thE (cE 0) (cE 0)) (vE 2))) (inS 2 1) FU) (106, [(0, 2), (1, 0), (2, 0)]) B C := fs_while t_M_river_16 t_M_river_17 (fs_goto t_M_river_18 dX12_river_103 rfl)
set_option maxRecDepth 20000 in
theorem t_M_river_20 {B C : Nat × FT} : fw_S s_M_river [(0, 2), (1, 0)] 106 (asS 128 592 idI (thE (cE 0) (cE 0)) (cE 160) (cE 0)) (115, [(0, 2), (1, 0)]) B C := fs_iast (fe_getR (fe_aloadn 0 rfl dX12_river_106) fl_RX12_13 lm_0 rfl dX12_river_107) (fe_sipush dX12_river_110) (fe_iconst dX12_river_113) lm_2 dX12_river_114 rfl
set_option maxRecDepth 20000 in
theorem t_M_river_21 {B C : Nat × FT} : fw_S s_M_river [(0, 2), (1, 0)] 115 (asS 128 592 idI (thE (cE 0) (cE 0)) (cE 285) (cE 0)) (124, [(0, 2), (1, 0)]) B C := fs_iast (fe_getR (fe_aloadn 0 rfl dX12_river_115) fl_RX12_13 lm_0 rfl dX12_river_116) (fe_sipush dX12_river_119) (fe_iconst dX12_river_122) lm_2 dX12_river_123 rfl
set_option maxRecDepth 20000 in
theorem t_M_river_22 {B C : Nat × FT} : fw_S s_M_river [(0, 2), (1, 0)] 124 (asS 128 592 idI (thE (cE 0) (cE 0)) (cE 350) (cE 0)) (133, [(0, 2), (1, 0)]) B C := fs_iast (fe_getR (fe_aloadn 0 rfl dX12_river_124) fl_RX12_13 lm_0 rfl dX12_river_125) (fe_sipush dX12_river_128) (fe_iconst dX12_river_131) lm_2 dX12_river_132 rfl
set_option maxRecDepth 20000 in
theorem t_M_river_23 {N B C : Nat × FT} : fw_S s_M_river [(0, 2), (1, 0)] 133 (rtS (vE 1)) N B C := fs_ret (fe_iloadn 1 rfl dX12_river_133) dX12_river_134
set_option maxRecDepth 20000 in
theorem C_M_river : fw_C LM yX12_river cX12_river 3 (some .int) 7 [2] (some 0) m_M_river := fm_i (d := 7) (N := (0, [])) (B := (0, [])) (C := (0, [])) LM_ok (by decide +kernel) (show fw_S s_M_river _ 0 b_M_river _ _ _ from (fs_seq t_M_river_0 (fs_seq t_M_river_1 (fs_seq t_M_river_2 (fs_seq t_M_river_3 (fs_seq t_M_river_4 (fs_seq t_M_river_9 (fs_seq (fs_seq t_M_river_10 (fs_weak t_M_river_14 rfl)) (fs_seq (fs_seq t_M_river_15 (fs_weak t_M_river_19 rfl)) (fs_seq t_M_river_20 (fs_seq t_M_river_21 (fs_seq t_M_river_22 t_M_river_23)))))))))))) (by decide)
/-! DyerBellsModel.fault (this 0 ) -/
abbrev s_M_fault : SI := (LM, RX12, cX12_fault, 1, 1, some 0)
set_option maxRecDepth 20000 in
theorem t_M_fault_0 {B C : Nat × FT} : fw_S s_M_fault [(0, 2)] 0 (pfS 0 (cE 0) (cE 0)) (5, [(0, 2)]) B C := fs_put (fe_aloadn 0 rfl dX12_fault_0) (fe_iconst dX12_fault_1) fp_RX12_91 lm_0 rfl dX12_fault_2 rfl
set_option maxRecDepth 20000 in
theorem t_M_fault_1 {N B C : Nat × FT} : fw_S s_M_fault [(0, 2)] 5 (rtS (thE (cE 0) (gE 10))) N B C := fs_ret (fe_getI (fe_aloadn 0 rfl dX12_fault_5) fl_RX12_153 lm_0 rfl dX12_fault_6) dX12_fault_9
set_option maxRecDepth 20000 in
theorem C_M_fault : fw_C LM yX12_fault cX12_fault 1 (some .int) 1 [2] (some 0) m_M_fault := fm_i (d := 1) (N := (0, [])) (B := (0, [])) (C := (0, [])) LM_ok (by decide +kernel) (show fw_S s_M_fault _ 0 b_M_fault _ _ _ from (fs_seq t_M_fault_0 t_M_fault_1)) (by decide)
/-! DyerBellsModel.reaches (this 0 ) -/
abbrev s_M_reaches : SI := (LM, RX12, cX12_reaches, 1, 1, some 0)
set_option maxRecDepth 20000 in
theorem t_M_reaches_0 {N B C : Nat × FT} : fw_S s_M_reaches [(0, 2)] 0 (rtS (ldE 128 592 (thE (cE 0) (cE 0)) (cE 0))) N B C := fs_ret (fe_iald (fe_getR (fe_aloadn 0 rfl dX12_reaches_0) fl_RX12_13 lm_0 rfl dX12_reaches_1) (fe_iconst dX12_reaches_4) lm_2 dX12_reaches_5) dX12_reaches_6
set_option maxRecDepth 20000 in
theorem C_M_reaches : fw_C LM yX12_reaches cX12_reaches 1 (some .int) 1 [2] (some 0) m_M_reaches := fm_i (d := 1) (N := (0, [])) (B := (0, [])) (C := (0, [])) LM_ok (by decide +kernel) (show fw_S s_M_reaches _ 0 b_M_reaches _ _ _ from t_M_reaches_0) (by decide)
/-! DyerBellsModel.isReach (this 0 ) -/
abbrev s_M_isReach : SI := (LM, RX12, cX12_isReach, 2, 2, some 0)
set_option maxRecDepth 20000 in
theorem t_M_isReach_0 {N B C : Nat × FT} : fw_S s_M_isReach [(0, 2), (1, 0)] 0 (rtS (kE (andB (nB (zB 2 (vE 1))) (nB (cB 3 (vE 1) (clE m_M_reaches [(cE 0)])))) (cE 1) (cE 0))) N B C := fs_ret (fe_ternG (fb_and (fb_not (fb_if_lt (fe_iloadn 1 rfl dX12_isReach_0) dX12_isReach_1 rfl)) (fb_not (fb_icmp_ge (fe_iloadn 1 rfl dX12_isReach_4) (fe_callV (fa_cons (fe_aloadn 0 rfl dX12_isReach_5) fa_nil) C_M_reaches lv_RX12_190 lm_0 rfl rfl (by decide) (by decide) (by decide) dX12_isReach_6) dX12_isReach_9 rfl))) (fe_gt (fe_iconst dX12_isReach_12) dX12_isReach_13 rfl) (fe_iconst dX12_isReach_16)) dX12_isReach_17
set_option maxRecDepth 20000 in
theorem C_M_isReach : fw_C LM yX12_isReach cX12_isReach 2 (some .boolean) 2 [2, 0] (some 0) m_M_isReach := fm_z (d := 2) (N := (0, [])) (B := (0, [])) (C := (0, [])) LM_ok (by decide +kernel) (show fw_S s_M_isReach _ 0 b_M_isReach _ _ _ from t_M_isReach_0) (by decide)
/-! DyerBellsModel.refuse (this 0 ) -/
abbrev s_M_refuse : SI := (LM, RX12, cX12_refuse, 1, 1, some 0)
set_option maxRecDepth 20000 in
theorem t_M_refuse_0 {B C : Nat × FT} : fw_S s_M_refuse [(0, 2)] 0 (pfS 0 (cE 0) (cE 1)) (5, [(0, 2)]) B C := fs_put (fe_aloadn 0 rfl dX12_refuse_0) (fe_iconst dX12_refuse_1) fp_RX12_91 lm_0 rfl dX12_refuse_2 rfl
set_option maxRecDepth 20000 in
theorem t_M_refuse_1 {N B C : Nat × FT} : fw_S s_M_refuse [(0, 2)] 5 (rtS (cE 0)) N B C := fs_ret (fe_iconst dX12_refuse_5) dX12_refuse_6
set_option maxRecDepth 20000 in
theorem C_M_refuse : fw_C LM yX12_refuse cX12_refuse 1 (some .int) 1 [2] (some 0) m_M_refuse := fm_i (d := 1) (N := (0, [])) (B := (0, [])) (C := (0, [])) LM_ok (by decide +kernel) (show fw_S s_M_refuse _ 0 b_M_refuse _ _ _ from (fs_seq t_M_refuse_0 t_M_refuse_1)) (by decide)
/-! DyerBellsModel.reach (this 0 ) -/
abbrev s_M_reach : SI := (LM, RX12, cX12_reach, 3, 3, some 0)
set_option maxRecDepth 20000 in
theorem t_M_reach_0 {B C : Nat × FT} : fw_S s_M_reach [(0, 2), (1, 0), (2, 0)] 0 (exS (clE m_M_lay [(cE 0)])) (4, [(0, 2), (1, 0), (2, 0)]) B C := fs_callV (t := 0) (fa_cons (fe_aloadn 0 rfl dX12_reach_0) fa_nil) C_M_lay lv_RX12_175 lm_0 rfl rfl (by decide) (by decide) dX12_reach_1 rfl
set_option maxRecDepth 20000 in
theorem t_M_reach_1 : fw_B s_M_reach [(0, 2), (1, 0), (2, 0)] 0 4 21 26 (orB (zB 0 (clE m_M_isReach [(cE 0), (vE 1)])) (nB (zB 1 (clE m_M_isIn [(vE 2), (cE 0), (cE 1)])))) := (fb_or (fb_if_eq (fe_callV (fa_cons (fe_aloadn 0 rfl dX12_reach_4) (fa_cons (fe_iloadn 1 rfl dX12_reach_5) fa_nil)) C_M_isReach lv_RX12_268 lm_0 rfl rfl (by decide) (by decide) (by decide) dX12_reach_6) dX12_reach_9 rfl) (fb_not (fb_if_ne (fe_callS (fa_cons (fe_iloadn 2 rfl dX12_reach_12) (fa_cons (fe_iconst dX12_reach_13) (fa_cons (fe_iconst dX12_reach_14) fa_nil))) C_M_isIn ls_RX12_162 rfl (by decide) (by decide) (by decide) dX12_reach_15) dX12_reach_18 rfl)))
set_option maxRecDepth 20000 in
theorem t_M_reach_2 {N B C : Nat × FT} : fw_S s_M_reach [(0, 2), (1, 0), (2, 0)] 21 (rtS (clE m_M_refuse [(cE 0)])) N B C := fs_ret (fe_callV (fa_cons (fe_aloadn 0 rfl dX12_reach_21) fa_nil) C_M_refuse lv_RX12_271 lm_0 rfl rfl (by decide) (by decide) (by decide) dX12_reach_22) dX12_reach_25
set_option maxRecDepth 20000 in
theorem t_M_reach_3 {B C : Nat × FT} : fw_S s_M_reach [(0, 2), (1, 0), (2, 0)] 26 (pfS 0 (cE 0) (cE 0)) (31, [(0, 2), (1, 0), (2, 0)]) B C := fs_put (fe_aloadn 0 rfl dX12_reach_26) (fe_iconst dX12_reach_27) fp_RX12_91 lm_0 rfl dX12_reach_28 rfl
set_option maxRecDepth 20000 in
theorem t_M_reach_4 {N B C : Nat × FT} : fw_S s_M_reach [(0, 2), (1, 0), (2, 0)] 31 (rtS (ldE 128 592 (thE (cE 0) (cE 0)) (o2 addI (o2 addI (cE 10) (o2 mulI (cE 2) (vE 1))) (vE 2)))) N B C := fs_ret (fe_iald (fe_getR (fe_aloadn 0 rfl dX12_reach_31) fl_RX12_13 lm_0 rfl dX12_reach_32) (fe_iadd (fe_iadd (fe_bipush dX12_reach_35) (fe_imul (fe_iconst dX12_reach_37) (fe_iloadn 1 rfl dX12_reach_38) dX12_reach_39) dX12_reach_40) (fe_iloadn 2 rfl dX12_reach_41) dX12_reach_42) lm_2 dX12_reach_43) dX12_reach_44
set_option maxRecDepth 20000 in
theorem C_M_reach : fw_C LM yX12_reach cX12_reach 3 (some .int) 3 [2, 0, 0] (some 0) m_M_reach := fm_i (d := 3) (N := (0, [])) (B := (0, [])) (C := (0, [])) LM_ok (by decide +kernel) (show fw_S s_M_reach _ 0 b_M_reach _ _ _ from (fs_seq t_M_reach_0 (fs_seq (fs_if t_M_reach_1 t_M_reach_2 (fs_skip rfl)) (fs_seq t_M_reach_3 t_M_reach_4)))) (by decide)
/-! DyerBellsModel.guilds (this 0 ) -/
abbrev s_M_guilds : SI := (LM, RX12, cX12_guilds, 1, 1, some 0)
set_option maxRecDepth 20000 in
theorem t_M_guilds_0 {N B C : Nat × FT} : fw_S s_M_guilds [(0, 2)] 0 (rtS (ldE 128 592 (thE (cE 0) (cE 0)) (cE 2))) N B C := fs_ret (fe_iald (fe_getR (fe_aloadn 0 rfl dX12_guilds_0) fl_RX12_13 lm_0 rfl dX12_guilds_1) (fe_iconst dX12_guilds_4) lm_2 dX12_guilds_5) dX12_guilds_6
set_option maxRecDepth 20000 in
theorem C_M_guilds : fw_C LM yX12_guilds cX12_guilds 1 (some .int) 1 [2] (some 0) m_M_guilds := fm_i (d := 1) (N := (0, [])) (B := (0, [])) (C := (0, [])) LM_ok (by decide +kernel) (show fw_S s_M_guilds _ 0 b_M_guilds _ _ _ from t_M_guilds_0) (by decide)
/-! DyerBellsModel.isGuild (this 0 ) -/
abbrev s_M_isGuild : SI := (LM, RX12, cX12_isGuild, 2, 2, some 0)
set_option maxRecDepth 20000 in
theorem t_M_isGuild_0 {N B C : Nat × FT} : fw_S s_M_isGuild [(0, 2), (1, 0)] 0 (rtS (kE (andB (nB (zB 2 (vE 1))) (nB (cB 3 (vE 1) (clE m_M_guilds [(cE 0)])))) (cE 1) (cE 0))) N B C := fs_ret (fe_ternG (fb_and (fb_not (fb_if_lt (fe_iloadn 1 rfl dX12_isGuild_0) dX12_isGuild_1 rfl)) (fb_not (fb_icmp_ge (fe_iloadn 1 rfl dX12_isGuild_4) (fe_callV (fa_cons (fe_aloadn 0 rfl dX12_isGuild_5) fa_nil) C_M_guilds lv_RX12_196 lm_0 rfl rfl (by decide) (by decide) (by decide) dX12_isGuild_6) dX12_isGuild_9 rfl))) (fe_gt (fe_iconst dX12_isGuild_12) dX12_isGuild_13 rfl) (fe_iconst dX12_isGuild_16)) dX12_isGuild_17
set_option maxRecDepth 20000 in
theorem C_M_isGuild : fw_C LM yX12_isGuild cX12_isGuild 2 (some .boolean) 2 [2, 0] (some 0) m_M_isGuild := fm_z (d := 2) (N := (0, [])) (B := (0, [])) (C := (0, [])) LM_ok (by decide +kernel) (show fw_S s_M_isGuild _ 0 b_M_isGuild _ _ _ from t_M_isGuild_0) (by decide)
/-! DyerBellsModel.colours (this 0 ) -/
abbrev s_M_colours : SI := (LM, RX12, cX12_colours, 1, 1, some 0)
set_option maxRecDepth 20000 in
theorem t_M_colours_0 {N B C : Nat × FT} : fw_S s_M_colours [(0, 2)] 0 (rtS (ldE 128 592 (thE (cE 0) (cE 0)) (cE 1))) N B C := fs_ret (fe_iald (fe_getR (fe_aloadn 0 rfl dX12_colours_0) fl_RX12_13 lm_0 rfl dX12_colours_1) (fe_iconst dX12_colours_4) lm_2 dX12_colours_5) dX12_colours_6
set_option maxRecDepth 20000 in
theorem C_M_colours : fw_C LM yX12_colours cX12_colours 1 (some .int) 1 [2] (some 0) m_M_colours := fm_i (d := 1) (N := (0, [])) (B := (0, [])) (C := (0, [])) LM_ok (by decide +kernel) (show fw_S s_M_colours _ 0 b_M_colours _ _ _ from t_M_colours_0) (by decide)
/-! DyerBellsModel.guild (this 0 ) -/
abbrev s_M_guild : SI := (LM, RX12, cX12_guild, 3, 3, some 0)
set_option maxRecDepth 20000 in
theorem t_M_guild_0 {B C : Nat × FT} : fw_S s_M_guild [(0, 2), (1, 0), (2, 0)] 0 (exS (clE m_M_lay [(cE 0)])) (4, [(0, 2), (1, 0), (2, 0)]) B C := fs_callV (t := 0) (fa_cons (fe_aloadn 0 rfl dX12_guild_0) fa_nil) C_M_lay lv_RX12_175 lm_0 rfl rfl (by decide) (by decide) dX12_guild_1 rfl
set_option maxRecDepth 20000 in
theorem t_M_guild_1 : fw_B s_M_guild [(0, 2), (1, 0), (2, 0)] 0 4 26 31 (orB (orB (zB 0 (clE m_M_isGuild [(cE 0), (vE 1)])) (zB 2 (vE 2))) (nB (cB 2 (vE 2) (o2 addI (cE 2) (clE m_M_colours [(cE 0)]))))) := (fb_or (fb_or (fb_if_eq (fe_callV (fa_cons (fe_aloadn 0 rfl dX12_guild_4) (fa_cons (fe_iloadn 1 rfl dX12_guild_5) fa_nil)) C_M_isGuild lv_RX12_274 lm_0 rfl rfl (by decide) (by decide) (by decide) dX12_guild_6) dX12_guild_9 rfl) (fb_if_lt (fe_iloadn 2 rfl dX12_guild_12) dX12_guild_13 rfl)) (fb_not (fb_icmp_lt (fe_iloadn 2 rfl dX12_guild_16) (fe_iadd (fe_iconst dX12_guild_17) (fe_callV (fa_cons (fe_aloadn 0 rfl dX12_guild_18) fa_nil) C_M_colours lv_RX12_193 lm_0 rfl rfl (by decide) (by decide) (by decide) dX12_guild_19) dX12_guild_22) dX12_guild_23 rfl)))
set_option maxRecDepth 20000 in
theorem t_M_guild_2 {N B C : Nat × FT} : fw_S s_M_guild [(0, 2), (1, 0), (2, 0)] 26 (rtS (clE m_M_refuse [(cE 0)])) N B C := fs_ret (fe_callV (fa_cons (fe_aloadn 0 rfl dX12_guild_26) fa_nil) C_M_refuse lv_RX12_271 lm_0 rfl rfl (by decide) (by decide) (by decide) dX12_guild_27) dX12_guild_30
set_option maxRecDepth 20000 in
theorem t_M_guild_3 {B C : Nat × FT} : fw_S s_M_guild [(0, 2), (1, 0), (2, 0)] 31 (pfS 0 (cE 0) (cE 0)) (36, [(0, 2), (1, 0), (2, 0)]) B C := fs_put (fe_aloadn 0 rfl dX12_guild_31) (fe_iconst dX12_guild_32) fp_RX12_91 lm_0 rfl dX12_guild_33 rfl
set_option maxRecDepth 20000 in
theorem t_M_guild_4 {N B C : Nat × FT} : fw_S s_M_guild [(0, 2), (1, 0), (2, 0)] 36 (rtS (ldE 128 592 (thE (cE 0) (cE 0)) (o2 addI (o2 addI (cE 30) (o2 mulI (cE 6) (vE 1))) (vE 2)))) N B C := fs_ret (fe_iald (fe_getR (fe_aloadn 0 rfl dX12_guild_36) fl_RX12_13 lm_0 rfl dX12_guild_37) (fe_iadd (fe_iadd (fe_bipush dX12_guild_40) (fe_imul (fe_bipush dX12_guild_42) (fe_iloadn 1 rfl dX12_guild_44) dX12_guild_45) dX12_guild_46) (fe_iloadn 2 rfl dX12_guild_47) dX12_guild_48) lm_2 dX12_guild_49) dX12_guild_50
set_option maxRecDepth 20000 in
theorem C_M_guild : fw_C LM yX12_guild cX12_guild 3 (some .int) 3 [2, 0, 0] (some 0) m_M_guild := fm_i (d := 3) (N := (0, [])) (B := (0, [])) (C := (0, [])) LM_ok (by decide +kernel) (show fw_S s_M_guild _ 0 b_M_guild _ _ _ from (fs_seq t_M_guild_0 (fs_seq (fs_if t_M_guild_1 t_M_guild_2 (fs_skip rfl)) (fs_seq t_M_guild_3 t_M_guild_4)))) (by decide)
/-! DyerBellsModel.users (this 0 ) -/
abbrev s_M_users : SI := (LM, RX12, cX12_users, 1, 1, some 0)
set_option maxRecDepth 20000 in
theorem t_M_users_0 {N B C : Nat × FT} : fw_S s_M_users [(0, 2)] 0 (rtS (ldE 128 592 (thE (cE 0) (cE 0)) (cE 3))) N B C := fs_ret (fe_iald (fe_getR (fe_aloadn 0 rfl dX12_users_0) fl_RX12_13 lm_0 rfl dX12_users_1) (fe_iconst dX12_users_4) lm_2 dX12_users_5) dX12_users_6
set_option maxRecDepth 20000 in
theorem C_M_users : fw_C LM yX12_users cX12_users 1 (some .int) 1 [2] (some 0) m_M_users := fm_i (d := 1) (N := (0, [])) (B := (0, [])) (C := (0, [])) LM_ok (by decide +kernel) (show fw_S s_M_users _ 0 b_M_users _ _ _ from t_M_users_0) (by decide)
/-! DyerBellsModel.isUser (this 0 ) -/
abbrev s_M_isUser : SI := (LM, RX12, cX12_isUser, 2, 2, some 0)
set_option maxRecDepth 20000 in
theorem t_M_isUser_0 {N B C : Nat × FT} : fw_S s_M_isUser [(0, 2), (1, 0)] 0 (rtS (kE (andB (nB (zB 2 (vE 1))) (nB (cB 3 (vE 1) (clE m_M_users [(cE 0)])))) (cE 1) (cE 0))) N B C := fs_ret (fe_ternG (fb_and (fb_not (fb_if_lt (fe_iloadn 1 rfl dX12_isUser_0) dX12_isUser_1 rfl)) (fb_not (fb_icmp_ge (fe_iloadn 1 rfl dX12_isUser_4) (fe_callV (fa_cons (fe_aloadn 0 rfl dX12_isUser_5) fa_nil) C_M_users lv_RX12_199 lm_0 rfl rfl (by decide) (by decide) (by decide) dX12_isUser_6) dX12_isUser_9 rfl))) (fe_gt (fe_iconst dX12_isUser_12) dX12_isUser_13 rfl) (fe_iconst dX12_isUser_16)) dX12_isUser_17
set_option maxRecDepth 20000 in
theorem C_M_isUser : fw_C LM yX12_isUser cX12_isUser 2 (some .boolean) 2 [2, 0] (some 0) m_M_isUser := fm_z (d := 2) (N := (0, [])) (B := (0, [])) (C := (0, [])) LM_ok (by decide +kernel) (show fw_S s_M_isUser _ 0 b_M_isUser _ _ _ from t_M_isUser_0) (by decide)
/-! DyerBellsModel.user (this 0 ) -/
abbrev s_M_user : SI := (LM, RX12, cX12_user, 3, 3, some 0)
set_option maxRecDepth 20000 in
theorem t_M_user_0 {B C : Nat × FT} : fw_S s_M_user [(0, 2), (1, 0), (2, 0)] 0 (exS (clE m_M_lay [(cE 0)])) (4, [(0, 2), (1, 0), (2, 0)]) B C := fs_callV (t := 0) (fa_cons (fe_aloadn 0 rfl dX12_user_0) fa_nil) C_M_lay lv_RX12_175 lm_0 rfl rfl (by decide) (by decide) dX12_user_1 rfl
set_option maxRecDepth 20000 in
theorem t_M_user_1 : fw_B s_M_user [(0, 2), (1, 0), (2, 0)] 0 4 26 31 (orB (orB (zB 0 (clE m_M_isUser [(cE 0), (vE 1)])) (zB 2 (vE 2))) (nB (cB 2 (vE 2) (o2 addI (cE 3) (clE m_M_colours [(cE 0)]))))) := (fb_or (fb_or (fb_if_eq (fe_callV (fa_cons (fe_aloadn 0 rfl dX12_user_4) (fa_cons (fe_iloadn 1 rfl dX12_user_5) fa_nil)) C_M_isUser lv_RX12_277 lm_0 rfl rfl (by decide) (by decide) (by decide) dX12_user_6) dX12_user_9 rfl) (fb_if_lt (fe_iloadn 2 rfl dX12_user_12) dX12_user_13 rfl)) (fb_not (fb_icmp_lt (fe_iloadn 2 rfl dX12_user_16) (fe_iadd (fe_iconst dX12_user_17) (fe_callV (fa_cons (fe_aloadn 0 rfl dX12_user_18) fa_nil) C_M_colours lv_RX12_193 lm_0 rfl rfl (by decide) (by decide) (by decide) dX12_user_19) dX12_user_22) dX12_user_23 rfl)))
set_option maxRecDepth 20000 in
theorem t_M_user_2 {N B C : Nat × FT} : fw_S s_M_user [(0, 2), (1, 0), (2, 0)] 26 (rtS (clE m_M_refuse [(cE 0)])) N B C := fs_ret (fe_callV (fa_cons (fe_aloadn 0 rfl dX12_user_26) fa_nil) C_M_refuse lv_RX12_271 lm_0 rfl rfl (by decide) (by decide) (by decide) dX12_user_27) dX12_user_30
set_option maxRecDepth 20000 in
theorem t_M_user_3 {B C : Nat × FT} : fw_S s_M_user [(0, 2), (1, 0), (2, 0)] 31 (pfS 0 (cE 0) (cE 0)) (36, [(0, 2), (1, 0), (2, 0)]) B C := fs_put (fe_aloadn 0 rfl dX12_user_31) (fe_iconst dX12_user_32) fp_RX12_91 lm_0 rfl dX12_user_33 rfl
set_option maxRecDepth 20000 in
theorem t_M_user_4 {N B C : Nat × FT} : fw_S s_M_user [(0, 2), (1, 0), (2, 0)] 36 (rtS (ldE 128 592 (thE (cE 0) (cE 0)) (o2 addI (o2 addI (cE 66) (o2 mulI (cE 7) (vE 1))) (vE 2)))) N B C := fs_ret (fe_iald (fe_getR (fe_aloadn 0 rfl dX12_user_36) fl_RX12_13 lm_0 rfl dX12_user_37) (fe_iadd (fe_iadd (fe_bipush dX12_user_40) (fe_imul (fe_bipush dX12_user_42) (fe_iloadn 1 rfl dX12_user_44) dX12_user_45) dX12_user_46) (fe_iloadn 2 rfl dX12_user_47) dX12_user_48) lm_2 dX12_user_49) dX12_user_50
set_option maxRecDepth 20000 in
theorem C_M_user : fw_C LM yX12_user cX12_user 3 (some .int) 3 [2, 0, 0] (some 0) m_M_user := fm_i (d := 3) (N := (0, [])) (B := (0, [])) (C := (0, [])) LM_ok (by decide +kernel) (show fw_S s_M_user _ 0 b_M_user _ _ _ from (fs_seq t_M_user_0 (fs_seq (fs_if t_M_user_1 t_M_user_2 (fs_skip rfl)) (fs_seq t_M_user_3 t_M_user_4)))) (by decide)
/-! DyerBellsModel.flow (this 0 ) -/
abbrev s_M_flow : SI := (LM, RX12, cX12_flow, 2, 3, some 0)
set_option maxRecDepth 20000 in
theorem t_M_flow_0 {B C : Nat × FT} : fw_S s_M_flow [(0, 2), (1, 0)] 0 (exS (clE m_M_lay [(cE 0)])) (4, [(0, 2), (1, 0)]) B C := fs_callV (t := 0) (fa_cons (fe_aloadn 0 rfl dX12_flow_0) fa_nil) C_M_lay lv_RX12_175 lm_0 rfl rfl (by decide) (by decide) dX12_flow_1 rfl
set_option maxRecDepth 20000 in
theorem t_M_flow_1 : fw_B s_M_flow [(0, 2), (1, 0)] 0 4 14 19 (nB (zB 1 (clE m_M_isIn [(vE 1), (cE 0), (cE 6)]))) := (fb_not (fb_if_ne (fe_callS (fa_cons (fe_iloadn 1 rfl dX12_flow_4) (fa_cons (fe_iconst dX12_flow_5) (fa_cons (fe_bipush dX12_flow_6) fa_nil))) C_M_isIn ls_RX12_162 rfl (by decide) (by decide) (by decide) dX12_flow_8) dX12_flow_11 rfl))
set_option maxRecDepth 20000 in
theorem t_M_flow_2 {N B C : Nat × FT} : fw_S s_M_flow [(0, 2), (1, 0)] 14 (rtS (clE m_M_refuse [(cE 0)])) N B C := fs_ret (fe_callV (fa_cons (fe_aloadn 0 rfl dX12_flow_14) fa_nil) C_M_refuse lv_RX12_271 lm_0 rfl rfl (by decide) (by decide) (by decide) dX12_flow_15) dX12_flow_18
set_option maxRecDepth 20000 in
theorem t_M_flow_3 {B C : Nat × FT} : fw_S s_M_flow [(0, 2), (1, 0)] 19 (pfS 0 (cE 0) (cE 0)) (24, [(0, 2), (1, 0)]) B C := fs_put (fe_aloadn 0 rfl dX12_flow_19) (fe_iconst dX12_flow_20) fp_RX12_91 lm_0 rfl dX12_flow_21 rfl
set_option maxRecDepth 20000 in
theorem t_M_flow_4 {N B C : Nat × FT} : fw_S s_M_flow [(0, 2), (1, 0)] 24 (rtS (ldE 128 592 (thE (cE 0) (cE 0)) (o2 addI (cE 110) (vE 1)))) N B C := fs_ret (fe_iald (fe_getR (fe_aloadn 0 rfl dX12_flow_24) fl_RX12_13 lm_0 rfl dX12_flow_25) (fe_iadd (fe_bipush dX12_flow_28) (fe_iloadn 1 rfl dX12_flow_30) dX12_flow_31) lm_2 dX12_flow_32) dX12_flow_33
set_option maxRecDepth 20000 in
theorem C_M_flow : fw_C LM yX12_flow cX12_flow 2 (some .int) 3 [2, 0] (some 0) m_M_flow := fm_i (d := 3) (N := (0, [])) (B := (0, [])) (C := (0, [])) LM_ok (by decide +kernel) (show fw_S s_M_flow _ 0 b_M_flow _ _ _ from (fs_seq t_M_flow_0 (fs_seq (fs_if t_M_flow_1 t_M_flow_2 (fs_skip rfl)) (fs_seq t_M_flow_3 t_M_flow_4)))) (by decide)
/-! DyerBellsModel.findIn (this 0 ) -/
abbrev s_M_findIn_2 : SI := (LM, RX12, cX12_findIn, 5, 1, some 0)
set_option maxRecDepth 20000 in
theorem t_M_findIn_2_0 {B C : Nat × FT} : fw_S s_M_findIn_2 [(0, 2), (1, 8), (2, 0), (3, 0)] 0 (stS 4 (cE 0)) (3, [(0, 2), (1, 8), (2, 0), (3, 0), (4, 0)]) B C := fs_ist (fe_iconst dX12_findIn_0) dX12_findIn_1 (by decide) rfl
set_option maxRecDepth 20000 in
theorem t_M_findIn_2_1 : fw_B s_M_findIn_2 [(0, 2), (1, 8), (2, 0), (3, 0), (4, 0)] 0 3 9 32 (nB (cB 3 (vE 4) (vE 3))) := (fb_not (fb_icmp_ge (fe_iload 4 rfl dX12_findIn_3) (fe_iloadn 3 rfl dX12_findIn_5) dX12_findIn_6 rfl))
set_option maxRecDepth 20000 in
theorem t_M_findIn_2_2 : fw_B s_M_findIn_2 [(0, 2), (1, 8), (2, 0), (3, 0), (4, 0)] 0 9 23 26 (nB (zB 1 (o2 cmpL (ldE 384 26 (cE 0) (o2 addI (vE 2) (vE 4))) (thE (cE 0) (gE 12))))) := (fb_not (fb_if_ne (fe_lcmp (fe_lald (fe_aloadn 1 rfl dX12_findIn_9) (fe_iadd (fe_iloadn 2 rfl dX12_findIn_10) (fe_iload 4 rfl dX12_findIn_11) dX12_findIn_13) lm_6 dX12_findIn_14) (fe_getL (fe_aloadn 0 rfl dX12_findIn_15) fl_RX12_126 lm_0 rfl dX12_findIn_16) dX12_findIn_19) dX12_findIn_20 rfl))
set_option maxRecDepth 20000 in
theorem t_M_findIn_2_3 {N B C : Nat × FT} : fw_S s_M_findIn_2 [(0, 2), (1, 8), (2, 0), (3, 0), (4, 0)] 23 (rtS (vE 4)) N B C := fs_ret (fe_iload 4 rfl dX12_findIn_23) dX12_findIn_25
set_option maxRecDepth 20000 in
theorem t_M_findIn_2_4 {B C : Nat × FT} : fw_S s_M_findIn_2 [(0, 2), (1, 8), (2, 0), (3, 0), (4, 0)] 26 (inS 4 1) (29, [(0, 2), (1, 8), (2, 0), (3, 0), (4, 0)]) B C := fs_inc (j := 4) rfl dX12_findIn_26 (by decide) rfl
set_option maxRecDepth 20000 in
theorem t_M_findIn_2_5 {B C : Nat × FT} : fw_S s_M_findIn_2 [(0, 2), (1, 8), (2, 0), (3, 0), (4, 0)] 3 (whS (nB (cB 3 (vE 4) (vE 3))) (ifS (nB (zB 1 (o2 cmpL (ldE 384 26 (cE 0) (o2 addI (vE 2) (vE 4))) (thE (cE 0) (gE 12))))) (rtS (vE 4)) skS) (inS 4 1) FU) (32, [(0, 2), (1, 8), (2, 0), (3, 0), (4, 0)]) B C := fs_while t_M_findIn_2_1 (fs_if t_M_findIn_2_2 t_M_findIn_2_3 (fs_skip rfl)) (fs_goto t_M_findIn_2_4 dX12_findIn_29 rfl)
set_option maxRecDepth 20000 in
theorem t_M_findIn_2_6 {N B C : Nat × FT} : fw_S s_M_findIn_2 [(0, 2), (1, 8), (2, 0), (3, 0)] 32 (rtS (cE (-1))) N B C := fs_ret (fe_iconst dX12_findIn_32) dX12_findIn_33
set_option maxRecDepth 20000 in
theorem C_M_findIn_2 : fw_C LM yX12_findIn cX12_findIn 5 (some .int) 1 [2, 8, 0, 0] (some 0) m_M_findIn_2 := fm_i (d := 1) (N := (0, [])) (B := (0, [])) (C := (0, [])) LM_ok (by decide +kernel) (show fw_S s_M_findIn_2 _ 0 b_M_findIn_2 _ _ _ from (fs_seq (fs_seq t_M_findIn_2_0 (fs_weak t_M_findIn_2_5 rfl)) t_M_findIn_2_6)) (by decide)
/-! DyerBellsModel.readBell (this 0 ) -/
abbrev s_M_readBell : SI := (LM, RX12, cX12_readBell, 3, 4, some 0)
set_option maxRecDepth 20000 in
theorem t_M_readBell_0 : fw_B s_M_readBell [(0, 2)] 0 0 9 15 (nB (zB 1 (clE m_M_isWord [(cE 0), (cE 7)]))) := (fb_not (fb_if_ne (fe_callV (fa_cons (fe_aloadn 0 rfl dX12_readBell_0) (fa_cons (fe_bipush dX12_readBell_1) fa_nil)) C_M_isWord lv_RX12_235 lm_0 rfl rfl (by decide) (by decide) (by decide) dX12_readBell_3) dX12_readBell_6 rfl))
set_option maxRecDepth 20000 in
theorem t_M_readBell_1 {N B C : Nat × FT} : fw_S s_M_readBell [(0, 2)] 9 (rtS (clE m_M_bad [(cE 0), (cE 1)])) N B C := fs_ret (fe_callV (fa_cons (fe_aloadn 0 rfl dX12_readBell_9) (fa_cons (fe_iconst dX12_readBell_10) fa_nil)) C_M_bad lv_RX12_159 lm_0 rfl rfl (by decide) (by decide) (by decide) dX12_readBell_11) dX12_readBell_14
set_option maxRecDepth 20000 in
theorem t_M_readBell_2 : fw_B s_M_readBell [(0, 2)] 0 15 24 30 (nB (cB 1 (thE (cE 0) (gE 25)) (cE 40))) := (fb_not (fb_icmp_ne (fe_getI (fe_aloadn 0 rfl dX12_readBell_15) fl_RX12_280 lm_0 rfl dX12_readBell_16) (fe_bipush dX12_readBell_19) dX12_readBell_21 rfl))
set_option maxRecDepth 20000 in
theorem t_M_readBell_3 {N B C : Nat × FT} : fw_S s_M_readBell [(0, 2)] 24 (rtS (clE m_M_bad [(cE 0), (cE 4)])) N B C := fs_ret (fe_callV (fa_cons (fe_aloadn 0 rfl dX12_readBell_24) (fa_cons (fe_iconst dX12_readBell_25) fa_nil)) C_M_bad lv_RX12_159 lm_0 rfl rfl (by decide) (by decide) (by decide) dX12_readBell_26) dX12_readBell_29
set_option maxRecDepth 20000 in
theorem t_M_readBell_4 {B C : Nat × FT} : fw_S s_M_readBell [(0, 2)] 30 (exS (clE m_M_go [(cE 0)])) (34, [(0, 2)]) B C := fs_callV (t := 0) (fa_cons (fe_aloadn 0 rfl dX12_readBell_30) fa_nil) C_M_go lv_RX12_169 lm_0 rfl rfl (by decide) (by decide) dX12_readBell_31 rfl
set_option maxRecDepth 20000 in
theorem t_M_readBell_5 : fw_B s_M_readBell [(0, 2)] 0 34 44 46 (nB (zB 1 (clE m_M_readNumber [(cE 0), (cE 0), (cE 6)]))) := (fb_not (fb_if_ne (fe_callV (fa_cons (fe_aloadn 0 rfl dX12_readBell_34) (fa_cons (fe_iconst dX12_readBell_35) (fa_cons (fe_bipush dX12_readBell_36) fa_nil))) C_M_readNumber lv_RX12_216 lm_0 rfl rfl (by decide) (by decide) (by decide) dX12_readBell_38) dX12_readBell_41 rfl))
set_option maxRecDepth 20000 in
theorem t_M_readBell_6 {N B C : Nat × FT} : fw_S s_M_readBell [(0, 2)] 44 (rtS (cE 0)) N B C := fs_ret (fe_iconst dX12_readBell_44) dX12_readBell_45
set_option maxRecDepth 20000 in
theorem t_M_readBell_7 {B C : Nat × FT} : fw_S s_M_readBell [(0, 2)] 46 (stS 1 (o2 mulI (cE 24) (thE (cE 0) (gE 13)))) (54, [(0, 2), (1, 0)]) B C := fs_istn (fe_imul (fe_bipush dX12_readBell_46) (fe_getI (fe_aloadn 0 rfl dX12_readBell_48) fl_RX12_166 lm_0 rfl dX12_readBell_49) dX12_readBell_52) dX12_readBell_53 (by decide) rfl
set_option maxRecDepth 20000 in
theorem t_M_readBell_8 : fw_B s_M_readBell [(0, 2), (1, 0)] 0 54 64 66 (nB (zB 1 (clE m_M_readNumber [(cE 0), (cE 0), (cE 23)]))) := (fb_not (fb_if_ne (fe_callV (fa_cons (fe_aloadn 0 rfl dX12_readBell_54) (fa_cons (fe_iconst dX12_readBell_55) (fa_cons (fe_bipush dX12_readBell_56) fa_nil))) C_M_readNumber lv_RX12_216 lm_0 rfl rfl (by decide) (by decide) (by decide) dX12_readBell_58) dX12_readBell_61 rfl))
set_option maxRecDepth 20000 in
theorem t_M_readBell_9 {N B C : Nat × FT} : fw_S s_M_readBell [(0, 2), (1, 0)] 64 (rtS (cE 0)) N B C := fs_ret (fe_iconst dX12_readBell_64) dX12_readBell_65
set_option maxRecDepth 20000 in
theorem t_M_readBell_10 {B C : Nat × FT} : fw_S s_M_readBell [(0, 2), (1, 0)] 66 (stS 1 (o2 addI (vE 1) (thE (cE 0) (gE 13)))) (73, [(0, 2), (1, 0)]) B C := fs_istn (fe_iadd (fe_iloadn 1 rfl dX12_readBell_66) (fe_getI (fe_aloadn 0 rfl dX12_readBell_67) fl_RX12_166 lm_0 rfl dX12_readBell_68) dX12_readBell_71) dX12_readBell_72 (by decide) rfl
set_option maxRecDepth 20000 in
theorem t_M_readBell_11 : fw_B s_M_readBell [(0, 2), (1, 0)] 0 73 80 86 (nB (zB 1 (clE m_M_isName [(cE 0)]))) := (fb_not (fb_if_ne (fe_callV (fa_cons (fe_aloadn 0 rfl dX12_readBell_73) fa_nil) C_M_isName lv_RX12_206 lm_0 rfl rfl (by decide) (by decide) (by decide) dX12_readBell_74) dX12_readBell_77 rfl))
set_option maxRecDepth 20000 in
theorem t_M_readBell_12 {N B C : Nat × FT} : fw_S s_M_readBell [(0, 2), (1, 0)] 80 (rtS (clE m_M_bad [(cE 0), (cE 1)])) N B C := fs_ret (fe_callV (fa_cons (fe_aloadn 0 rfl dX12_readBell_80) (fa_cons (fe_iconst dX12_readBell_81) fa_nil)) C_M_bad lv_RX12_159 lm_0 rfl rfl (by decide) (by decide) (by decide) dX12_readBell_82) dX12_readBell_85
set_option maxRecDepth 20000 in
theorem t_M_readBell_13 {B C : Nat × FT} : fw_S s_M_readBell [(0, 2), (1, 0)] 86 (stS 2 (clE m_M_findIn_2 [(cE 0), (thE (cE 0) (cE 0)), (cE 14), (clE m_M_guilds [(cE 0)])])) (101, [(0, 2), (1, 0), (2, 0)]) B C := fs_istn (fe_callV (fa_cons (fe_aloadn 0 rfl dX12_readBell_86) (fa_cons (fe_getR (fe_aloadn 0 rfl dX12_readBell_87) fl_RX12_25 lm_0 rfl dX12_readBell_88) (fa_cons (fe_bipush dX12_readBell_91) (fa_cons (fe_callV (fa_cons (fe_aloadn 0 rfl dX12_readBell_93) fa_nil) C_M_guilds lv_RX12_196 lm_0 rfl rfl (by decide) (by decide) (by decide) dX12_readBell_94) fa_nil)))) C_M_findIn_2 lv_RX12_202 lm_0 rfl rfl (by decide) (by decide) (by decide) dX12_readBell_97) dX12_readBell_100 (by decide) rfl
set_option maxRecDepth 20000 in
theorem t_M_readBell_14 : fw_B s_M_readBell [(0, 2), (1, 0), (2, 0)] 0 101 106 112 (nB (cB 1 (vE 2) (cE (-1)))) := (fb_not (fb_icmp_ne (fe_iloadn 2 rfl dX12_readBell_101) (fe_iconst dX12_readBell_102) dX12_readBell_103 rfl))
set_option maxRecDepth 20000 in
theorem t_M_readBell_15 {N B C : Nat × FT} : fw_S s_M_readBell [(0, 2), (1, 0), (2, 0)] 106 (rtS (clE m_M_bad [(cE 0), (cE 3)])) N B C := fs_ret (fe_callV (fa_cons (fe_aloadn 0 rfl dX12_readBell_106) (fa_cons (fe_iconst dX12_readBell_107) fa_nil)) C_M_bad lv_RX12_159 lm_0 rfl rfl (by decide) (by decide) (by decide) dX12_readBell_108) dX12_readBell_111
set_option maxRecDepth 20000 in
theorem t_M_readBell_16 {B C : Nat × FT} : fw_S s_M_readBell [(0, 2), (1, 0), (2, 0)] 112 (exS (clE m_M_go [(cE 0)])) (116, [(0, 2), (1, 0), (2, 0)]) B C := fs_callV (t := 0) (fa_cons (fe_aloadn 0 rfl dX12_readBell_112) fa_nil) C_M_go lv_RX12_169 lm_0 rfl rfl (by decide) (by decide) dX12_readBell_113 rfl
set_option maxRecDepth 20000 in
theorem t_M_readBell_17 : fw_B s_M_readBell [(0, 2), (1, 0), (2, 0)] 0 116 144 146 (nB (zB 1 (clE m_M_readNumber [(cE 0), (cE 1), (kE (nB (cB 3 (o2 subI (cE 168) (vE 1)) (cE 24))) (o2 subI (cE 168) (vE 1)) (cE 24))]))) := (fb_not (fb_if_ne (fe_callV (fa_cons (fe_aloadn 0 rfl dX12_readBell_116) (fa_cons (fe_iconst dX12_readBell_117) (fa_cons (fe_ternG (fb_not (fb_icmp_ge (fe_isub (fe_sipush dX12_readBell_118) (fe_iloadn 1 rfl dX12_readBell_121) dX12_readBell_122) (fe_bipush dX12_readBell_123) dX12_readBell_125 rfl)) (fe_gt (fe_isub (fe_sipush dX12_readBell_128) (fe_iloadn 1 rfl dX12_readBell_131) dX12_readBell_132) dX12_readBell_133 rfl) (fe_bipush dX12_readBell_136)) fa_nil))) C_M_readNumber lv_RX12_216 lm_0 rfl rfl (by decide) (by decide) (by decide) dX12_readBell_138) dX12_readBell_141 rfl))
set_option maxRecDepth 20000 in
theorem t_M_readBell_18 {N B C : Nat × FT} : fw_S s_M_readBell [(0, 2), (1, 0), (2, 0)] 144 (rtS (cE 0)) N B C := fs_ret (fe_iconst dX12_readBell_144) dX12_readBell_145
set_option maxRecDepth 20000 in
theorem t_M_readBell_19 {B C : Nat × FT} : fw_S s_M_readBell [(0, 2), (1, 0), (2, 0)] 146 (asS 320 120 idI (thE (cE 0) (cE 0)) (o2 mulI (cE 3) (thE (cE 0) (gE 25))) (vE 1)) (158, [(0, 2), (1, 0), (2, 0)]) B C := fs_iast (fe_getR (fe_aloadn 0 rfl dX12_readBell_146) fl_RX12_22 lm_0 rfl dX12_readBell_147) (fe_imul (fe_iconst dX12_readBell_150) (fe_getI (fe_aloadn 0 rfl dX12_readBell_151) fl_RX12_280 lm_0 rfl dX12_readBell_152) dX12_readBell_155) (fe_iloadn 1 rfl dX12_readBell_156) lm_5 dX12_readBell_157 rfl
set_option maxRecDepth 20000 in
theorem t_M_readBell_20 {B C : Nat × FT} : fw_S s_M_readBell [(0, 2), (1, 0), (2, 0)] 158 (asS 320 120 idI (thE (cE 0) (cE 0)) (o2 addI (o2 mulI (cE 3) (thE (cE 0) (gE 25))) (cE 1)) (vE 2)) (172, [(0, 2), (1, 0), (2, 0)]) B C := fs_iast (fe_getR (fe_aloadn 0 rfl dX12_readBell_158) fl_RX12_22 lm_0 rfl dX12_readBell_159) (fe_iadd (fe_imul (fe_iconst dX12_readBell_162) (fe_getI (fe_aloadn 0 rfl dX12_readBell_163) fl_RX12_280 lm_0 rfl dX12_readBell_164) dX12_readBell_167) (fe_iconst dX12_readBell_168) dX12_readBell_169) (fe_iloadn 2 rfl dX12_readBell_170) lm_5 dX12_readBell_171 rfl
set_option maxRecDepth 20000 in
theorem t_M_readBell_21 {B C : Nat × FT} : fw_S s_M_readBell [(0, 2), (1, 0), (2, 0)] 172 (asS 320 120 idI (thE (cE 0) (cE 0)) (o2 addI (o2 mulI (cE 3) (thE (cE 0) (gE 25))) (cE 2)) (thE (cE 0) (gE 13))) (189, [(0, 2), (1, 0), (2, 0)]) B C := fs_iast (fe_getR (fe_aloadn 0 rfl dX12_readBell_172) fl_RX12_22 lm_0 rfl dX12_readBell_173) (fe_iadd (fe_imul (fe_iconst dX12_readBell_176) (fe_getI (fe_aloadn 0 rfl dX12_readBell_177) fl_RX12_280 lm_0 rfl dX12_readBell_178) dX12_readBell_181) (fe_iconst dX12_readBell_182) dX12_readBell_183) (fe_getI (fe_aloadn 0 rfl dX12_readBell_184) fl_RX12_166 lm_0 rfl dX12_readBell_185) lm_5 dX12_readBell_188 rfl
set_option maxRecDepth 20000 in
theorem t_M_readBell_22 {B C : Nat × FT} : fw_S s_M_readBell [(0, 2), (1, 0), (2, 0)] 189 (poS 25 addI (cE 0) (cE 1)) (199, [(0, 2), (1, 0), (2, 0)]) B C := fs_po_add (fe_aloadn 0 rfl dX12_readBell_189) dX12_readBell_190 dX12_readBell_191 (fe_iconst dX12_readBell_194) dX12_readBell_195 fp_RX12_280 lm_0 rfl dX12_readBell_196 rfl
set_option maxRecDepth 20000 in
theorem t_M_readBell_23 {N B C : Nat × FT} : fw_S s_M_readBell [(0, 2), (1, 0), (2, 0)] 199 (rtS (clE m_M_readEnd [(cE 0)])) N B C := fs_ret (fe_callV (fa_cons (fe_aloadn 0 rfl dX12_readBell_199) fa_nil) C_M_readEnd lv_RX12_259 lm_0 rfl rfl (by decide) (by decide) (by decide) dX12_readBell_200) dX12_readBell_203
set_option maxRecDepth 20000 in
theorem C_M_readBell : fw_C LM yX12_readBell cX12_readBell 3 (some .boolean) 4 [2] (some 0) m_M_readBell := fm_z (d := 4) (N := (0, [])) (B := (0, [])) (C := (0, [])) LM_ok (by decide +kernel) (show fw_S s_M_readBell _ 0 b_M_readBell _ _ _ from (fs_seq (fs_if t_M_readBell_0 t_M_readBell_1 (fs_skip rfl)) (fs_seq (fs_if t_M_readBell_2 t_M_readBell_3 (fs_skip rfl)) (fs_seq t_M_readBell_4 (fs_seq (fs_if t_M_readBell_5 t_M_readBell_6 (fs_skip rfl)) (fs_seq t_M_readBell_7 (fs_seq (fs_if t_M_readBell_8 t_M_readBell_9 (fs_skip rfl)) (fs_seq t_M_readBell_10 (fs_seq (fs_if t_M_readBell_11 t_M_readBell_12 (fs_skip rfl)) (fs_seq t_M_readBell_13 (fs_seq (fs_if t_M_readBell_14 t_M_readBell_15 (fs_skip rfl)) (fs_seq t_M_readBell_16 (fs_seq (fs_if t_M_readBell_17 t_M_readBell_18 (fs_skip rfl)) (fs_seq t_M_readBell_19 (fs_seq t_M_readBell_20 (fs_seq t_M_readBell_21 (fs_seq t_M_readBell_22 t_M_readBell_23))))))))))))))))) (by decide)
/-! DyerBellsModel.order (this 0 ) -/
abbrev s_M_order : SI := (LM, RX12, cX12_order, 2, 5, some 0)
set_option maxRecDepth 20000 in
theorem t_M_order_0 {B C : Nat × FT} : fw_S s_M_order [(0, 2)] 0 (exS (clE m_M_begin [(cE 0), (cE 600)])) (7, [(0, 2)]) B C := fs_callV (t := 0) (fa_cons (fe_aloadn 0 rfl dX12_order_0) (fa_cons (fe_sipush dX12_order_1) fa_nil)) C_M_begin lv_RX12_262 lm_0 rfl rfl (by decide) (by decide) dX12_order_4 rfl
set_option maxRecDepth 20000 in
theorem t_M_order_1 {B C : Nat × FT} : fw_S s_M_order [(0, 2)] 7 (pfS 25 (cE 0) (cE 0)) (12, [(0, 2)]) B C := fs_put (fe_aloadn 0 rfl dX12_order_7) (fe_iconst dX12_order_8) fp_RX12_280 lm_0 rfl dX12_order_9 rfl
set_option maxRecDepth 20000 in
theorem t_M_order_2 : fw_B s_M_order [(0, 2)] 0 12 19 33 (nB (zB 0 (thE (cE 0) (gE 7)))) := (fb_not (fb_if_eq (fe_getI (fe_aloadn 0 rfl dX12_order_12) fl_RX12_113 lm_0 rfl dX12_order_13) dX12_order_16 rfl))
set_option maxRecDepth 20000 in
theorem t_M_order_3 : fw_B s_M_order [(0, 2)] 0 19 26 12 (nB (zB 1 (clE m_M_readBell [(cE 0)]))) := (fb_not (fb_if_ne (fe_callV (fa_cons (fe_aloadn 0 rfl dX12_order_19) fa_nil) C_M_readBell lv_RX12_283 lm_0 rfl rfl (by decide) (by decide) (by decide) dX12_order_20) dX12_order_23 rfl))
set_option maxRecDepth 20000 in
theorem t_M_order_4 {N B C : Nat × FT} : fw_S s_M_order [(0, 2)] 26 (rtS (o2 subI (cE (-1)) (thE (cE 0) (gE 11)))) N B C := fs_ret (fe_isub (fe_iconst dX12_order_26) (fe_getI (fe_aloadn 0 rfl dX12_order_27) fl_RX12_156 lm_0 rfl dX12_order_28) dX12_order_31) dX12_order_32
set_option maxRecDepth 20000 in
theorem t_M_order_5 {B C : Nat × FT} : fw_S s_M_order [(0, 2)] 12 (whS (nB (zB 0 (thE (cE 0) (gE 7)))) (ifS (nB (zB 1 (clE m_M_readBell [(cE 0)]))) (rtS (o2 subI (cE (-1)) (thE (cE 0) (gE 11)))) skS) skS FU) (33, [(0, 2)]) B C := fs_while t_M_order_2 (fs_if t_M_order_3 t_M_order_4 (fs_skip rfl)) (fs_skip rfl)
set_option maxRecDepth 20000 in
theorem t_M_order_6 {B C : Nat × FT} : fw_S s_M_order [(0, 2)] 33 (stS 1 (cE 0)) (35, [(0, 2), (1, 0)]) B C := fs_istn (fe_iconst dX12_order_33) dX12_order_34 (by decide) rfl
set_option maxRecDepth 20000 in
theorem t_M_order_7 : fw_B s_M_order [(0, 2), (1, 0)] 0 35 45 67 (nB (cB 3 (vE 1) (o2 mulI (cE 3) (thE (cE 0) (gE 25))))) := (fb_not (fb_icmp_ge (fe_iloadn 1 rfl dX12_order_35) (fe_imul (fe_iconst dX12_order_36) (fe_getI (fe_aloadn 0 rfl dX12_order_37) fl_RX12_280 lm_0 rfl dX12_order_38) dX12_order_41) dX12_order_42 rfl))
set_option maxRecDepth 20000 in
theorem t_M_order_8 {B C : Nat × FT} : fw_S s_M_order [(0, 2), (1, 0)] 45 (asS 128 592 idI (thE (cE 0) (cE 0)) (o2 addI (cE 161) (vE 1)) (ldE 320 120 (thE (cE 0) (cE 0)) (vE 1))) (61, [(0, 2), (1, 0)]) B C := fs_iast (fe_getR (fe_aloadn 0 rfl dX12_order_45) fl_RX12_13 lm_0 rfl dX12_order_46) (fe_iadd (fe_sipush dX12_order_49) (fe_iloadn 1 rfl dX12_order_52) dX12_order_53) (fe_iald (fe_getR (fe_aloadn 0 rfl dX12_order_54) fl_RX12_22 lm_0 rfl dX12_order_55) (fe_iloadn 1 rfl dX12_order_58) lm_5 dX12_order_59) lm_2 dX12_order_60 rfl
set_option maxRecDepth 20000 in
theorem t_M_order_9 {B C : Nat × FT} : fw_S s_M_order [(0, 2), (1, 0)] 61 (inS 1 1) (64, [(0, 2), (1, 0)]) B C := fs_inc (j := 1) rfl dX12_order_61 (by decide) rfl
set_option maxRecDepth 20000 in
theorem t_M_order_10 {B C : Nat × FT} : fw_S s_M_order [(0, 2), (1, 0)] 35 (whS (nB (cB 3 (vE 1) (o2 mulI (cE 3) (thE (cE 0) (gE 25))))) (asS 128 592 idI (thE (cE 0) (cE 0)) (o2 addI (cE 161) (vE 1)) (ldE 320 120 (thE (cE 0) (cE 0)) (vE 1))) (inS 1 1) FU) (67, [(0, 2), (1, 0)]) B C := fs_while t_M_order_7 t_M_order_8 (fs_goto t_M_order_9 dX12_order_64 rfl)
set_option maxRecDepth 20000 in
theorem t_M_order_11 {B C : Nat × FT} : fw_S s_M_order [(0, 2)] 67 (asS 128 592 idI (thE (cE 0) (cE 0)) (cE 160) (thE (cE 0) (gE 25))) (79, [(0, 2)]) B C := fs_iast (fe_getR (fe_aloadn 0 rfl dX12_order_67) fl_RX12_13 lm_0 rfl dX12_order_68) (fe_sipush dX12_order_71) (fe_getI (fe_aloadn 0 rfl dX12_order_74) fl_RX12_280 lm_0 rfl dX12_order_75) lm_2 dX12_order_78 rfl
set_option maxRecDepth 20000 in
theorem t_M_order_12 {N B C : Nat × FT} : fw_S s_M_order [(0, 2)] 79 (rtS (thE (cE 0) (gE 25))) N B C := fs_ret (fe_getI (fe_aloadn 0 rfl dX12_order_79) fl_RX12_280 lm_0 rfl dX12_order_80) dX12_order_83
set_option maxRecDepth 20000 in
theorem C_M_order : fw_C LM yX12_order cX12_order 2 (some .int) 5 [2] (some 0) m_M_order := fm_i (d := 5) (N := (0, [])) (B := (0, [])) (C := (0, [])) LM_ok (by decide +kernel) (show fw_S s_M_order _ 0 b_M_order _ _ _ from (fs_seq t_M_order_0 (fs_seq t_M_order_1 (fs_seq t_M_order_5 (fs_seq (fs_seq t_M_order_6 (fs_weak t_M_order_10 rfl)) (fs_seq t_M_order_11 t_M_order_12)))))) (by decide)
/-! DyerBellsModel.bells (this 0 ) -/
abbrev s_M_bells : SI := (LM, RX12, cX12_bells, 1, 1, some 0)
set_option maxRecDepth 20000 in
theorem t_M_bells_0 {N B C : Nat × FT} : fw_S s_M_bells [(0, 2)] 0 (rtS (ldE 128 592 (thE (cE 0) (cE 0)) (cE 160))) N B C := fs_ret (fe_iald (fe_getR (fe_aloadn 0 rfl dX12_bells_0) fl_RX12_13 lm_0 rfl dX12_bells_1) (fe_sipush dX12_bells_4) lm_2 dX12_bells_7) dX12_bells_8
set_option maxRecDepth 20000 in
theorem C_M_bells : fw_C LM yX12_bells cX12_bells 1 (some .int) 1 [2] (some 0) m_M_bells := fm_i (d := 1) (N := (0, [])) (B := (0, [])) (C := (0, [])) LM_ok (by decide +kernel) (show fw_S s_M_bells _ 0 b_M_bells _ _ _ from t_M_bells_0) (by decide)
/-! DyerBellsModel.addBell (this 0 ) -/
abbrev s_M_addBell : SI := (LM, RX12, cX12_addBell, 5, 2, none)
set_option maxRecDepth 20000 in
theorem t_M_addBell_0 {B C : Nat × FT} : fw_S s_M_addBell [(0, 2), (1, 0), (2, 0), (3, 0)] 0 (stS 4 (o2 addI (cE 161) (o2 mulI (cE 3) (clE m_M_bells [(cE 0)])))) (12, [(0, 2), (1, 0), (2, 0), (3, 0), (4, 0)]) B C := fs_ist (fe_iadd (fe_sipush dX12_addBell_0) (fe_imul (fe_iconst dX12_addBell_3) (fe_callV (fa_cons (fe_aloadn 0 rfl dX12_addBell_4) fa_nil) C_M_bells lv_RX12_286 lm_0 rfl rfl (by decide) (by decide) (by decide) dX12_addBell_5) dX12_addBell_8) dX12_addBell_9) dX12_addBell_10 (by decide) rfl
set_option maxRecDepth 20000 in
theorem t_M_addBell_1 {B C : Nat × FT} : fw_S s_M_addBell [(0, 2), (1, 0), (2, 0), (3, 0), (4, 0)] 12 (asS 128 592 idI (thE (cE 0) (cE 0)) (vE 4) (vE 1)) (20, [(0, 2), (1, 0), (2, 0), (3, 0), (4, 0)]) B C := fs_iast (fe_getR (fe_aloadn 0 rfl dX12_addBell_12) fl_RX12_13 lm_0 rfl dX12_addBell_13) (fe_iload 4 rfl dX12_addBell_16) (fe_iloadn 1 rfl dX12_addBell_18) lm_2 dX12_addBell_19 rfl
set_option maxRecDepth 20000 in
theorem t_M_addBell_2 {B C : Nat × FT} : fw_S s_M_addBell [(0, 2), (1, 0), (2, 0), (3, 0), (4, 0)] 20 (asS 128 592 idI (thE (cE 0) (cE 0)) (o2 addI (vE 4) (cE 1)) (vE 2)) (30, [(0, 2), (1, 0), (2, 0), (3, 0), (4, 0)]) B C := fs_iast (fe_getR (fe_aloadn 0 rfl dX12_addBell_20) fl_RX12_13 lm_0 rfl dX12_addBell_21) (fe_iadd (fe_iload 4 rfl dX12_addBell_24) (fe_iconst dX12_addBell_26) dX12_addBell_27) (fe_iloadn 2 rfl dX12_addBell_28) lm_2 dX12_addBell_29 rfl
set_option maxRecDepth 20000 in
theorem t_M_addBell_3 {B C : Nat × FT} : fw_S s_M_addBell [(0, 2), (1, 0), (2, 0), (3, 0), (4, 0)] 30 (asS 128 592 idI (thE (cE 0) (cE 0)) (o2 addI (vE 4) (cE 2)) (vE 3)) (40, [(0, 2), (1, 0), (2, 0), (3, 0), (4, 0)]) B C := fs_iast (fe_getR (fe_aloadn 0 rfl dX12_addBell_30) fl_RX12_13 lm_0 rfl dX12_addBell_31) (fe_iadd (fe_iload 4 rfl dX12_addBell_34) (fe_iconst dX12_addBell_36) dX12_addBell_37) (fe_iloadn 3 rfl dX12_addBell_38) lm_2 dX12_addBell_39 rfl
set_option maxRecDepth 20000 in
theorem t_M_addBell_4 {B C : Nat × FT} : fw_S s_M_addBell [(0, 2), (1, 0), (2, 0), (3, 0), (4, 0)] 40 (aoS 128 592 addI (thE (cE 0) (cE 0)) (cE 160) (cE 1)) (52, [(0, 2), (1, 0), (2, 0), (3, 0), (4, 0)]) B C := fs_ao_add (fe_getR (fe_aloadn 0 rfl dX12_addBell_40) fl_RX12_13 lm_0 rfl dX12_addBell_41) (fe_sipush dX12_addBell_44) dX12_addBell_47 dX12_addBell_48 (fe_iconst dX12_addBell_49) dX12_addBell_50 lm_2 dX12_addBell_51 rfl
set_option maxRecDepth 20000 in
theorem t_M_addBell_5 {N B C : Nat × FT} : fw_S s_M_addBell [(0, 2), (1, 0), (2, 0), (3, 0), (4, 0)] 52 rvS N B C := fs_rv dX12_addBell_52
set_option maxRecDepth 20000 in
theorem C_M_addBell : fw_C LM yX12_addBell cX12_addBell 5 none 2 [2, 0, 0, 0] (none) m_M_addBell := fm_v (d := 2) (N := (0, [])) (B := (0, [])) (C := (0, [])) LM_ok (by decide +kernel) (show fw_S s_M_addBell _ 0 b_M_addBell _ _ _ from (fs_seq t_M_addBell_0 (fs_seq t_M_addBell_1 (fs_seq t_M_addBell_2 (fs_seq t_M_addBell_3 (fs_seq t_M_addBell_4 t_M_addBell_5)))))) (by decide)
/-! DyerBellsModel.ring (this 0 ) -/
abbrev s_M_ring : SI := (LM, RX12, cX12_ring, 4, 3, some 0)
set_option maxRecDepth 20000 in
theorem t_M_ring_0 {B C : Nat × FT} : fw_S s_M_ring [(0, 2), (1, 0), (2, 0), (3, 0)] 0 (pfS 0 (cE 0) (cE 0)) (5, [(0, 2), (1, 0), (2, 0), (3, 0)]) B C := fs_put (fe_aloadn 0 rfl dX12_ring_0) (fe_iconst dX12_ring_1) fp_RX12_91 lm_0 rfl dX12_ring_2 rfl
set_option maxRecDepth 20000 in
theorem t_M_ring_1 {B C : Nat × FT} : fw_S s_M_ring [(0, 2), (1, 0), (2, 0), (3, 0)] 5 (exS (clE m_M_lay [(cE 0)])) (9, [(0, 2), (1, 0), (2, 0), (3, 0)]) B C := fs_callV (t := 0) (fa_cons (fe_aloadn 0 rfl dX12_ring_5) fa_nil) C_M_lay lv_RX12_175 lm_0 rfl rfl (by decide) (by decide) dX12_ring_6 rfl
set_option maxRecDepth 20000 in
theorem t_M_ring_2 : fw_B s_M_ring [(0, 2), (1, 0), (2, 0), (3, 0)] 0 9 56 58 (orB (orB (orB (orB (zB 0 (clE m_M_isGuild [(cE 0), (vE 2)])) (zB 0 (clE m_M_isIn [(vE 1), (cE 0), (cE 167)]))) (zB 0 (clE m_M_isIn [(vE 3), (cE 1), (cE 24)]))) (cB 4 (o2 addI (vE 1) (vE 3)) (cE 168))) (nB (cB 1 (clE m_M_bells [(cE 0)]) (cE 40)))) := (fb_or (fb_or (fb_or (fb_or (fb_if_eq (fe_callV (fa_cons (fe_aloadn 0 rfl dX12_ring_9) (fa_cons (fe_iloadn 2 rfl dX12_ring_10) fa_nil)) C_M_isGuild lv_RX12_274 lm_0 rfl rfl (by decide) (by decide) (by decide) dX12_ring_11) dX12_ring_14 rfl) (fb_if_eq (fe_callS (fa_cons (fe_iloadn 1 rfl dX12_ring_17) (fa_cons (fe_iconst dX12_ring_18) (fa_cons (fe_sipush dX12_ring_19) fa_nil))) C_M_isIn ls_RX12_162 rfl (by decide) (by decide) (by decide) dX12_ring_22) dX12_ring_25 rfl)) (fb_if_eq (fe_callS (fa_cons (fe_iloadn 3 rfl dX12_ring_28) (fa_cons (fe_iconst dX12_ring_29) (fa_cons (fe_bipush dX12_ring_30) fa_nil))) C_M_isIn ls_RX12_162 rfl (by decide) (by decide) (by decide) dX12_ring_32) dX12_ring_35 rfl)) (fb_icmp_gt (fe_iadd (fe_iloadn 1 rfl dX12_ring_38) (fe_iloadn 3 rfl dX12_ring_39) dX12_ring_40) (fe_sipush dX12_ring_41) dX12_ring_44 rfl)) (fb_not (fb_icmp_ne (fe_callV (fa_cons (fe_aloadn 0 rfl dX12_ring_47) fa_nil) C_M_bells lv_RX12_286 lm_0 rfl rfl (by decide) (by decide) (by decide) dX12_ring_48) (fe_bipush dX12_ring_51) dX12_ring_53 rfl)))
set_option maxRecDepth 20000 in
theorem t_M_ring_3 {N B C : Nat × FT} : fw_S s_M_ring [(0, 2), (1, 0), (2, 0), (3, 0)] 56 (rtS (cE (-1))) N B C := fs_ret (fe_iconst dX12_ring_56) dX12_ring_57
set_option maxRecDepth 20000 in
theorem t_M_ring_4 {B C : Nat × FT} : fw_S s_M_ring [(0, 2), (1, 0), (2, 0), (3, 0)] 58 (exS (clE m_M_addBell [(cE 0), (vE 1), (vE 2), (vE 3)])) (65, [(0, 2), (1, 0), (2, 0), (3, 0)]) B C := fs_callV (t := 0) (fa_cons (fe_aloadn 0 rfl dX12_ring_58) (fa_cons (fe_iloadn 1 rfl dX12_ring_59) (fa_cons (fe_iloadn 2 rfl dX12_ring_60) (fa_cons (fe_iloadn 3 rfl dX12_ring_61) fa_nil)))) C_M_addBell lv_RX12_289 lm_0 rfl rfl (by decide) (by decide) dX12_ring_62 rfl
set_option maxRecDepth 20000 in
theorem t_M_ring_5 {N B C : Nat × FT} : fw_S s_M_ring [(0, 2), (1, 0), (2, 0), (3, 0)] 65 (rtS (o2 subI (clE m_M_bells [(cE 0)]) (cE 1))) N B C := fs_ret (fe_isub (fe_callV (fa_cons (fe_aloadn 0 rfl dX12_ring_65) fa_nil) C_M_bells lv_RX12_286 lm_0 rfl rfl (by decide) (by decide) (by decide) dX12_ring_66) (fe_iconst dX12_ring_69) dX12_ring_70) dX12_ring_71
set_option maxRecDepth 20000 in
theorem C_M_ring : fw_C LM yX12_ring cX12_ring 4 (some .int) 3 [2, 0, 0, 0] (some 0) m_M_ring := fm_i (d := 3) (N := (0, [])) (B := (0, [])) (C := (0, [])) LM_ok (by decide +kernel) (show fw_S s_M_ring _ 0 b_M_ring _ _ _ from (fs_seq t_M_ring_0 (fs_seq t_M_ring_1 (fs_seq (fs_if t_M_ring_2 t_M_ring_3 (fs_skip rfl)) (fs_seq t_M_ring_4 t_M_ring_5))))) (by decide)
/-! DyerBellsModel.undo (this 0 ) -/
abbrev s_M_undo : SI := (LM, RX12, cX12_undo, 1, 3, some 0)
set_option maxRecDepth 20000 in
theorem t_M_undo_0 {B C : Nat × FT} : fw_S s_M_undo [(0, 2)] 0 (pfS 0 (cE 0) (cE 0)) (5, [(0, 2)]) B C := fs_put (fe_aloadn 0 rfl dX12_undo_0) (fe_iconst dX12_undo_1) fp_RX12_91 lm_0 rfl dX12_undo_2 rfl
set_option maxRecDepth 20000 in
theorem t_M_undo_1 {B C : Nat × FT} : fw_S s_M_undo [(0, 2)] 5 (exS (clE m_M_lay [(cE 0)])) (9, [(0, 2)]) B C := fs_callV (t := 0) (fa_cons (fe_aloadn 0 rfl dX12_undo_5) fa_nil) C_M_lay lv_RX12_175 lm_0 rfl rfl (by decide) (by decide) dX12_undo_6 rfl
set_option maxRecDepth 20000 in
theorem t_M_undo_2 : fw_B s_M_undo [(0, 2)] 0 9 16 18 (nB (zB 1 (clE m_M_bells [(cE 0)]))) := (fb_not (fb_if_ne (fe_callV (fa_cons (fe_aloadn 0 rfl dX12_undo_9) fa_nil) C_M_bells lv_RX12_286 lm_0 rfl rfl (by decide) (by decide) (by decide) dX12_undo_10) dX12_undo_13 rfl))
set_option maxRecDepth 20000 in
theorem t_M_undo_3 {N B C : Nat × FT} : fw_S s_M_undo [(0, 2)] 16 (rtS (cE (-1))) N B C := fs_ret (fe_iconst dX12_undo_16) dX12_undo_17
set_option maxRecDepth 20000 in
theorem t_M_undo_4 {B C : Nat × FT} : fw_S s_M_undo [(0, 2)] 18 (aoS 128 592 subI (thE (cE 0) (cE 0)) (cE 160) (cE 1)) (30, [(0, 2)]) B C := fs_ao_sub (fe_getR (fe_aloadn 0 rfl dX12_undo_18) fl_RX12_13 lm_0 rfl dX12_undo_19) (fe_sipush dX12_undo_22) dX12_undo_25 dX12_undo_26 (fe_iconst dX12_undo_27) dX12_undo_28 lm_2 dX12_undo_29 rfl
set_option maxRecDepth 20000 in
theorem t_M_undo_5 {N B C : Nat × FT} : fw_S s_M_undo [(0, 2)] 30 (rtS (clE m_M_bells [(cE 0)])) N B C := fs_ret (fe_callV (fa_cons (fe_aloadn 0 rfl dX12_undo_30) fa_nil) C_M_bells lv_RX12_286 lm_0 rfl rfl (by decide) (by decide) (by decide) dX12_undo_31) dX12_undo_34
set_option maxRecDepth 20000 in
theorem C_M_undo : fw_C LM yX12_undo cX12_undo 1 (some .int) 3 [2] (some 0) m_M_undo := fm_i (d := 3) (N := (0, [])) (B := (0, [])) (C := (0, [])) LM_ok (by decide +kernel) (show fw_S s_M_undo _ 0 b_M_undo _ _ _ from (fs_seq t_M_undo_0 (fs_seq t_M_undo_1 (fs_seq (fs_if t_M_undo_2 t_M_undo_3 (fs_skip rfl)) (fs_seq t_M_undo_4 t_M_undo_5))))) (by decide)
/-! DyerBellsModel.bell (this 0 ) -/
abbrev s_M_bell : SI := (LM, RX12, cX12_bell, 3, 3, some 0)
set_option maxRecDepth 20000 in
theorem t_M_bell_0 {B C : Nat × FT} : fw_S s_M_bell [(0, 2), (1, 0), (2, 0)] 0 (exS (clE m_M_lay [(cE 0)])) (4, [(0, 2), (1, 0), (2, 0)]) B C := fs_callV (t := 0) (fa_cons (fe_aloadn 0 rfl dX12_bell_0) fa_nil) C_M_lay lv_RX12_175 lm_0 rfl rfl (by decide) (by decide) dX12_bell_1 rfl
set_option maxRecDepth 20000 in
theorem t_M_bell_1 : fw_B s_M_bell [(0, 2), (1, 0), (2, 0)] 0 4 25 30 (orB (orB (zB 2 (vE 1)) (cB 3 (vE 1) (clE m_M_bells [(cE 0)]))) (nB (zB 1 (clE m_M_isIn [(vE 2), (cE 0), (cE 2)])))) := (fb_or (fb_or (fb_if_lt (fe_iloadn 1 rfl dX12_bell_4) dX12_bell_5 rfl) (fb_icmp_ge (fe_iloadn 1 rfl dX12_bell_8) (fe_callV (fa_cons (fe_aloadn 0 rfl dX12_bell_9) fa_nil) C_M_bells lv_RX12_286 lm_0 rfl rfl (by decide) (by decide) (by decide) dX12_bell_10) dX12_bell_13 rfl)) (fb_not (fb_if_ne (fe_callS (fa_cons (fe_iloadn 2 rfl dX12_bell_16) (fa_cons (fe_iconst dX12_bell_17) (fa_cons (fe_iconst dX12_bell_18) fa_nil))) C_M_isIn ls_RX12_162 rfl (by decide) (by decide) (by decide) dX12_bell_19) dX12_bell_22 rfl)))
set_option maxRecDepth 20000 in
theorem t_M_bell_2 {N B C : Nat × FT} : fw_S s_M_bell [(0, 2), (1, 0), (2, 0)] 25 (rtS (clE m_M_refuse [(cE 0)])) N B C := fs_ret (fe_callV (fa_cons (fe_aloadn 0 rfl dX12_bell_25) fa_nil) C_M_refuse lv_RX12_271 lm_0 rfl rfl (by decide) (by decide) (by decide) dX12_bell_26) dX12_bell_29
set_option maxRecDepth 20000 in
theorem t_M_bell_3 {B C : Nat × FT} : fw_S s_M_bell [(0, 2), (1, 0), (2, 0)] 30 (pfS 0 (cE 0) (cE 0)) (35, [(0, 2), (1, 0), (2, 0)]) B C := fs_put (fe_aloadn 0 rfl dX12_bell_30) (fe_iconst dX12_bell_31) fp_RX12_91 lm_0 rfl dX12_bell_32 rfl
set_option maxRecDepth 20000 in
theorem t_M_bell_4 {N B C : Nat × FT} : fw_S s_M_bell [(0, 2), (1, 0), (2, 0)] 35 (rtS (ldE 128 592 (thE (cE 0) (cE 0)) (o2 addI (o2 addI (cE 161) (o2 mulI (cE 3) (vE 1))) (vE 2)))) N B C := fs_ret (fe_iald (fe_getR (fe_aloadn 0 rfl dX12_bell_35) fl_RX12_13 lm_0 rfl dX12_bell_36) (fe_iadd (fe_iadd (fe_sipush dX12_bell_39) (fe_imul (fe_iconst dX12_bell_42) (fe_iloadn 1 rfl dX12_bell_43) dX12_bell_44) dX12_bell_45) (fe_iloadn 2 rfl dX12_bell_46) dX12_bell_47) lm_2 dX12_bell_48) dX12_bell_49
set_option maxRecDepth 20000 in
theorem C_M_bell : fw_C LM yX12_bell cX12_bell 3 (some .int) 3 [2, 0, 0] (some 0) m_M_bell := fm_i (d := 3) (N := (0, [])) (B := (0, [])) (C := (0, [])) LM_ok (by decide +kernel) (show fw_S s_M_bell _ 0 b_M_bell _ _ _ from (fs_seq t_M_bell_0 (fs_seq (fs_if t_M_bell_1 t_M_bell_2 (fs_skip rfl)) (fs_seq t_M_bell_3 t_M_bell_4)))) (by decide)
/-! DyerBellsModel.isHour -/
abbrev s_M_isHour : SI := (LM, RX12, cX12_isHour, 1, 1, some 0)
set_option maxRecDepth 20000 in
theorem t_M_isHour_0 {N B C : Nat × FT} : fw_S s_M_isHour [(0, 0)] 0 (rtS (kE (andB (nB (zB 2 (vE 0))) (nB (cB 3 (vE 0) (cE 168)))) (cE 1) (cE 0))) N B C := fs_ret (fe_ternG (fb_and (fb_not (fb_if_lt (fe_iloadn 0 rfl dX12_isHour_0) dX12_isHour_1 rfl)) (fb_not (fb_icmp_ge (fe_iloadn 0 rfl dX12_isHour_4) (fe_sipush dX12_isHour_5) dX12_isHour_8 rfl))) (fe_gt (fe_iconst dX12_isHour_11) dX12_isHour_12 rfl) (fe_iconst dX12_isHour_15)) dX12_isHour_16
set_option maxRecDepth 20000 in
theorem C_M_isHour : fw_C LM yX12_isHour cX12_isHour 1 (some .boolean) 1 [0] (some 0) m_M_isHour := fm_z (d := 1) (N := (0, [])) (B := (0, [])) (C := (0, [])) LM_ok (by decide +kernel) (show fw_S s_M_isHour _ 0 b_M_isHour _ _ _ from t_M_isHour_0) (by decide)
/-! DyerBellsModel.isColour (this 0 ) -/
abbrev s_M_isColour : SI := (LM, RX12, cX12_isColour, 2, 2, some 0)
set_option maxRecDepth 20000 in
theorem t_M_isColour_0 {N B C : Nat × FT} : fw_S s_M_isColour [(0, 2), (1, 0)] 0 (rtS (kE (andB (nB (zB 2 (vE 1))) (nB (cB 3 (vE 1) (clE m_M_colours [(cE 0)])))) (cE 1) (cE 0))) N B C := fs_ret (fe_ternG (fb_and (fb_not (fb_if_lt (fe_iloadn 1 rfl dX12_isColour_0) dX12_isColour_1 rfl)) (fb_not (fb_icmp_ge (fe_iloadn 1 rfl dX12_isColour_4) (fe_callV (fa_cons (fe_aloadn 0 rfl dX12_isColour_5) fa_nil) C_M_colours lv_RX12_193 lm_0 rfl rfl (by decide) (by decide) (by decide) dX12_isColour_6) dX12_isColour_9 rfl))) (fe_gt (fe_iconst dX12_isColour_12) dX12_isColour_13 rfl) (fe_iconst dX12_isColour_16)) dX12_isColour_17
set_option maxRecDepth 20000 in
theorem C_M_isColour : fw_C LM yX12_isColour cX12_isColour 2 (some .boolean) 2 [2, 0] (some 0) m_M_isColour := fm_z (d := 2) (N := (0, [])) (B := (0, [])) (C := (0, [])) LM_ok (by decide +kernel) (show fw_S s_M_isColour _ 0 b_M_isColour _ _ _ from t_M_isColour_0) (by decide)
