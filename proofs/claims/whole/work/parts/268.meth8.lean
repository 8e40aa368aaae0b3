/-! DyerBellsModel.late (this 0 ) -/
abbrev s_M_late : SI := (LM, RX12, cX12_late, 6, 6, some 0)
set_option maxRecDepth 20000 in
theorem t_M_late_0 {B C : Nat × FT} : fw_S s_M_late [(0, 2), (1, 0)] 0 (pfS 0 (cE 0) (cE 0)) (5, [(0, 2), (1, 0)]) B C := fs_put (fe_aloadn 0 rfl dX12_late_0) (fe_iconst dX12_late_1) fp_RX12_91 lm_0 rfl dX12_late_2 rfl
set_option maxRecDepth 20000 in
theorem t_M_late_1 {B C : Nat × FT} : fw_S s_M_late [(0, 2), (1, 0)] 5 (exS (clE m_M_lay [(cE 0)])) (9, [(0, 2), (1, 0)]) B C := fs_callV (t := 0) (fa_cons (fe_aloadn 0 rfl dX12_late_5) fa_nil) C_M_lay lv_RX12_175 lm_0 rfl rfl (by decide) (by decide) dX12_late_6 rfl
set_option maxRecDepth 20000 in
theorem t_M_late_2 : fw_B s_M_late [(0, 2), (1, 0)] 0 9 21 23 (orB (zB 2 (vE 1)) (nB (cB 2 (vE 1) (clE m_M_bells [(cE 0)])))) := (fb_or (fb_if_lt (fe_iloadn 1 rfl dX12_late_9) dX12_late_10 rfl) (fb_not (fb_icmp_lt (fe_iloadn 1 rfl dX12_late_13) (fe_callV (fa_cons (fe_aloadn 0 rfl dX12_late_14) fa_nil) C_M_bells lv_RX12_286 lm_0 rfl rfl (by decide) (by decide) (by decide) dX12_late_15) dX12_late_18 rfl)))
set_option maxRecDepth 20000 in
theorem t_M_late_3 {N B C : Nat × FT} : fw_S s_M_late [(0, 2), (1, 0)] 21 (rtS (cE (-1))) N B C := fs_ret (fe_iconst dX12_late_21) dX12_late_22
set_option maxRecDepth 20000 in
theorem t_M_late_4 {B C : Nat × FT} : fw_S s_M_late [(0, 2), (1, 0)] 23 (stS 2 (clE m_M_harmNow [(cE 0)])) (28, [(0, 2), (1, 0), (2, 0)]) B C := fs_istn (fe_callV (fa_cons (fe_aloadn 0 rfl dX12_late_23) fa_nil) C_M_harmNow lv_RX12_334 lm_0 rfl rfl (by decide) (by decide) (by decide) dX12_late_24) dX12_late_27 (by decide) rfl
set_option maxRecDepth 20000 in
theorem t_M_late_5 {B C : Nat × FT} : fw_S s_M_late [(0, 2), (1, 0), (2, 0)] 28 (stS 3 (o2 addI (cE 161) (o2 mulI (cE 3) (vE 1)))) (36, [(0, 2), (1, 0), (2, 0), (3, 0)]) B C := fs_istn (fe_iadd (fe_sipush dX12_late_28) (fe_imul (fe_iconst dX12_late_31) (fe_iloadn 1 rfl dX12_late_32) dX12_late_33) dX12_late_34) dX12_late_35 (by decide) rfl
set_option maxRecDepth 20000 in
theorem t_M_late_6 {B C : Nat × FT} : fw_S s_M_late [(0, 2), (1, 0), (2, 0), (3, 0)] 36 (stS 4 (ldE 128 592 (thE (cE 0) (cE 0)) (vE 3))) (44, [(0, 2), (1, 0), (2, 0), (3, 0), (4, 0)]) B C := fs_ist (fe_iald (fe_getR (fe_aloadn 0 rfl dX12_late_36) fl_RX12_13 lm_0 rfl dX12_late_37) (fe_iloadn 3 rfl dX12_late_40) lm_2 dX12_late_41) dX12_late_42 (by decide) rfl
set_option maxRecDepth 20000 in
theorem t_M_late_7 {B C : Nat × FT} : fw_S s_M_late [(0, 2), (1, 0), (2, 0), (3, 0), (4, 0)] 44 (stS 5 (cE 0)) (47, [(0, 2), (1, 0), (2, 0), (3, 0), (4, 0), (5, 0)]) B C := fs_ist (fe_iconst dX12_late_44) dX12_late_45 (by decide) rfl
set_option maxRecDepth 20000 in
theorem t_M_late_8 : fw_B s_M_late [(0, 2), (1, 0), (2, 0), (3, 0), (4, 0), (5, 0)] 0 47 76 106 (andB (nB (cB 3 (vE 5) (cE 24))) (nB (cB 4 (o2 addI (o2 addI (o2 addI (vE 4) (vE 5)) (cE 1)) (ldE 128 592 (thE (cE 0) (cE 0)) (o2 addI (vE 3) (cE 2)))) (cE 168)))) := (fb_and (fb_not (fb_icmp_ge (fe_iload 5 rfl dX12_late_47) (fe_bipush dX12_late_49) dX12_late_51 rfl)) (fb_not (fb_icmp_gt (fe_iadd (fe_iadd (fe_iadd (fe_iload 4 rfl dX12_late_54) (fe_iload 5 rfl dX12_late_56) dX12_late_58) (fe_iconst dX12_late_59) dX12_late_60) (fe_iald (fe_getR (fe_aloadn 0 rfl dX12_late_61) fl_RX12_13 lm_0 rfl dX12_late_62) (fe_iadd (fe_iloadn 3 rfl dX12_late_65) (fe_iconst dX12_late_66) dX12_late_67) lm_2 dX12_late_68) dX12_late_69) (fe_sipush dX12_late_70) dX12_late_73 rfl)))
set_option maxRecDepth 20000 in
theorem t_M_late_9 {B C : Nat × FT} : fw_S s_M_late [(0, 2), (1, 0), (2, 0), (3, 0), (4, 0), (5, 0)] 76 (asS 128 592 idI (thE (cE 0) (cE 0)) (vE 3) (o2 addI (o2 addI (vE 4) (vE 5)) (cE 1))) (89, [(0, 2), (1, 0), (2, 0), (3, 0), (4, 0), (5, 0)]) B C := fs_iast (fe_getR (fe_aloadn 0 rfl dX12_late_76) fl_RX12_13 lm_0 rfl dX12_late_77) (fe_iloadn 3 rfl dX12_late_80) (fe_iadd (fe_iadd (fe_iload 4 rfl dX12_late_81) (fe_iload 5 rfl dX12_late_83) dX12_late_85) (fe_iconst dX12_late_86) dX12_late_87) lm_2 dX12_late_88 rfl
set_option maxRecDepth 20000 in
theorem t_M_late_10 : fw_B s_M_late [(0, 2), (1, 0), (2, 0), (3, 0), (4, 0), (5, 0)] 0 89 97 100 (nB (cB 5 (clE m_M_harmNow [(cE 0)]) (vE 2))) := (fb_not (fb_icmp_le (fe_callV (fa_cons (fe_aloadn 0 rfl dX12_late_89) fa_nil) C_M_harmNow lv_RX12_334 lm_0 rfl rfl (by decide) (by decide) (by decide) dX12_late_90) (fe_iloadn 2 rfl dX12_late_93) dX12_late_94 rfl))
set_option maxRecDepth 20000 in
theorem t_M_late_11 {B C : Nat × FT} : fw_S s_M_late [(0, 2), (1, 0), (2, 0), (3, 0), (4, 0), (5, 0)] 100 (inS 5 1) (103, [(0, 2), (1, 0), (2, 0), (3, 0), (4, 0), (5, 0)]) B C := fs_inc (j := 5) rfl dX12_late_100 (by decide) rfl
set_option maxRecDepth 20000 in
theorem t_M_late_12 {B C : Nat × FT} : fw_S s_M_late [(0, 2), (1, 0), (2, 0), (3, 0), (4, 0), (5, 0)] 47 (whS (andB (nB (cB 3 (vE 5) (cE 24))) (nB (cB 4 (o2 addI (o2 addI (o2 addI (vE 4) (vE 5)) (cE 1)) (ldE 128 592 (thE (cE 0) (cE 0)) (o2 addI (vE 3) (cE 2)))) (cE 168)))) (sq (asS 128 592 idI (thE (cE 0) (cE 0)) (vE 3) (o2 addI (o2 addI (vE 4) (vE 5)) (cE 1))) (sq (ifS (nB (cB 5 (clE m_M_harmNow [(cE 0)]) (vE 2))) brS skS) (inS 5 1))) skS FU) (106, [(0, 2), (1, 0), (2, 0), (3, 0), (4, 0), (5, 0)]) B C := fs_while t_M_late_8 (fs_goto (fs_seq t_M_late_9 (fs_seq (fs_if t_M_late_10 (fs_brk dX12_late_97 rfl rfl) (fs_skip rfl)) t_M_late_11)) dX12_late_103 rfl) (fs_skip rfl)
set_option maxRecDepth 20000 in
theorem t_M_late_13 {B C : Nat × FT} : fw_S s_M_late [(0, 2), (1, 0), (2, 0), (3, 0), (4, 0), (5, 0)] 106 (asS 128 592 idI (thE (cE 0) (cE 0)) (vE 3) (vE 4)) (114, [(0, 2), (1, 0), (2, 0), (3, 0), (4, 0), (5, 0)]) B C := fs_iast (fe_getR (fe_aloadn 0 rfl dX12_late_106) fl_RX12_13 lm_0 rfl dX12_late_107) (fe_iloadn 3 rfl dX12_late_110) (fe_iload 4 rfl dX12_late_111) lm_2 dX12_late_113 rfl
set_option maxRecDepth 20000 in
theorem t_M_late_14 {N B C : Nat × FT} : fw_S s_M_late [(0, 2), (1, 0), (2, 0), (3, 0), (4, 0), (5, 0)] 114 (rtS (vE 5)) N B C := fs_ret (fe_iload 5 rfl dX12_late_114) dX12_late_116
set_option maxRecDepth 20000 in
theorem C_M_late : fw_C LM yX12_late cX12_late 6 (some .int) 6 [2, 0] (some 0) m_M_late := fm_i (d := 6) (N := (0, [])) (B := (0, [])) (C := (0, [])) LM_ok (by decide +kernel) (show fw_S s_M_late _ 0 b_M_late _ _ _ from (fs_seq t_M_late_0 (fs_seq t_M_late_1 (fs_seq (fs_if t_M_late_2 t_M_late_3 (fs_skip rfl)) (fs_seq t_M_late_4 (fs_seq t_M_late_5 (fs_seq t_M_late_6 (fs_seq t_M_late_7 (fs_seq t_M_late_12 (fs_seq t_M_late_13 t_M_late_14)))))))))) (by decide)
/-! DyerBellsModel.see (this 0 ) -/
abbrev s_M_see : SI := (LM, RX12, cX12_see, 5, 3, some 0)
set_option maxRecDepth 20000 in
theorem t_M_see_0 {B C : Nat × FT} : fw_S s_M_see [(0, 2), (1, 0), (2, 0), (3, 0)] 0 (pfS 0 (cE 0) (cE 0)) (5, [(0, 2), (1, 0), (2, 0), (3, 0)]) B C := fs_put (fe_aloadn 0 rfl dX12_see_0) (fe_iconst dX12_see_1) fp_RX12_91 lm_0 rfl dX12_see_2 rfl
set_option maxRecDepth 20000 in
theorem t_M_see_1 {B C : Nat × FT} : fw_S s_M_see [(0, 2), (1, 0), (2, 0), (3, 0)] 5 (exS (clE m_M_lay [(cE 0)])) (9, [(0, 2), (1, 0), (2, 0), (3, 0)]) B C := fs_callV (t := 0) (fa_cons (fe_aloadn 0 rfl dX12_see_5) fa_nil) C_M_lay lv_RX12_175 lm_0 rfl rfl (by decide) (by decide) dX12_see_6 rfl
set_option maxRecDepth 20000 in
theorem t_M_see_2 : fw_B s_M_see [(0, 2), (1, 0), (2, 0), (3, 0)] 0 9 41 43 (orB (orB (orB (zB 0 (clE m_M_isHour [(vE 1)])) (zB 0 (clE m_M_isColour [(cE 0), (vE 2)]))) (zB 2 (vE 3))) (nB (cB 1 (ldE 128 592 (thE (cE 0) (cE 0)) (cE 285)) (cE 20)))) := (fb_or (fb_or (fb_or (fb_if_eq (fe_callS (fa_cons (fe_iloadn 1 rfl dX12_see_9) fa_nil) C_M_isHour ls_RX12_328 rfl (by decide) (by decide) (by decide) dX12_see_10) dX12_see_13 rfl) (fb_if_eq (fe_callV (fa_cons (fe_aloadn 0 rfl dX12_see_16) (fa_cons (fe_iloadn 2 rfl dX12_see_17) fa_nil)) C_M_isColour lv_RX12_331 lm_0 rfl rfl (by decide) (by decide) (by decide) dX12_see_18) dX12_see_21 rfl)) (fb_if_lt (fe_iloadn 3 rfl dX12_see_24) dX12_see_25 rfl)) (fb_not (fb_icmp_ne (fe_iald (fe_getR (fe_aloadn 0 rfl dX12_see_28) fl_RX12_13 lm_0 rfl dX12_see_29) (fe_sipush dX12_see_32) lm_2 dX12_see_35) (fe_bipush dX12_see_36) dX12_see_38 rfl)))
set_option maxRecDepth 20000 in
theorem t_M_see_3 {N B C : Nat × FT} : fw_S s_M_see [(0, 2), (1, 0), (2, 0), (3, 0)] 41 (rtS (cE (-1))) N B C := fs_ret (fe_iconst dX12_see_41) dX12_see_42
set_option maxRecDepth 20000 in
theorem t_M_see_4 {B C : Nat × FT} : fw_S s_M_see [(0, 2), (1, 0), (2, 0), (3, 0)] 43 (stS 4 (o2 addI (cE 286) (o2 mulI (cE 3) (ldE 128 592 (thE (cE 0) (cE 0)) (cE 285))))) (59, [(0, 2), (1, 0), (2, 0), (3, 0), (4, 0)]) B C := fs_ist (fe_iadd (fe_sipush dX12_see_43) (fe_imul (fe_iconst dX12_see_46) (fe_iald (fe_getR (fe_aloadn 0 rfl dX12_see_47) fl_RX12_13 lm_0 rfl dX12_see_48) (fe_sipush dX12_see_51) lm_2 dX12_see_54) dX12_see_55) dX12_see_56) dX12_see_57 (by decide) rfl
set_option maxRecDepth 20000 in
theorem t_M_see_5 {B C : Nat × FT} : fw_S s_M_see [(0, 2), (1, 0), (2, 0), (3, 0), (4, 0)] 59 (asS 128 592 idI (thE (cE 0) (cE 0)) (vE 4) (vE 1)) (67, [(0, 2), (1, 0), (2, 0), (3, 0), (4, 0)]) B C := fs_iast (fe_getR (fe_aloadn 0 rfl dX12_see_59) fl_RX12_13 lm_0 rfl dX12_see_60) (fe_iload 4 rfl dX12_see_63) (fe_iloadn 1 rfl dX12_see_65) lm_2 dX12_see_66 rfl
set_option maxRecDepth 20000 in
theorem t_M_see_6 {B C : Nat × FT} : fw_S s_M_see [(0, 2), (1, 0), (2, 0), (3, 0), (4, 0)] 67 (asS 128 592 idI (thE (cE 0) (cE 0)) (o2 addI (vE 4) (cE 1)) (vE 2)) (77, [(0, 2), (1, 0), (2, 0), (3, 0), (4, 0)]) B C := fs_iast (fe_getR (fe_aloadn 0 rfl dX12_see_67) fl_RX12_13 lm_0 rfl dX12_see_68) (fe_iadd (fe_iload 4 rfl dX12_see_71) (fe_iconst dX12_see_73) dX12_see_74) (fe_iloadn 2 rfl dX12_see_75) lm_2 dX12_see_76 rfl
set_option maxRecDepth 20000 in
theorem t_M_see_7 {B C : Nat × FT} : fw_S s_M_see [(0, 2), (1, 0), (2, 0), (3, 0), (4, 0)] 77 (asS 128 592 idI (thE (cE 0) (cE 0)) (o2 addI (vE 4) (cE 2)) (vE 3)) (87, [(0, 2), (1, 0), (2, 0), (3, 0), (4, 0)]) B C := fs_iast (fe_getR (fe_aloadn 0 rfl dX12_see_77) fl_RX12_13 lm_0 rfl dX12_see_78) (fe_iadd (fe_iload 4 rfl dX12_see_81) (fe_iconst dX12_see_83) dX12_see_84) (fe_iloadn 3 rfl dX12_see_85) lm_2 dX12_see_86 rfl
set_option maxRecDepth 20000 in
theorem t_M_see_8 {B C : Nat × FT} : fw_S s_M_see [(0, 2), (1, 0), (2, 0), (3, 0), (4, 0)] 87 (aoS 128 592 addI (thE (cE 0) (cE 0)) (cE 285) (cE 1)) (99, [(0, 2), (1, 0), (2, 0), (3, 0), (4, 0)]) B C := fs_ao_add (fe_getR (fe_aloadn 0 rfl dX12_see_87) fl_RX12_13 lm_0 rfl dX12_see_88) (fe_sipush dX12_see_91) dX12_see_94 dX12_see_95 (fe_iconst dX12_see_96) dX12_see_97 lm_2 dX12_see_98 rfl
set_option maxRecDepth 20000 in
theorem t_M_see_9 {N B C : Nat × FT} : fw_S s_M_see [(0, 2), (1, 0), (2, 0), (3, 0), (4, 0)] 99 (rtS (o2 subI (ldE 128 592 (thE (cE 0) (cE 0)) (cE 285)) (cE 1))) N B C := fs_ret (fe_isub (fe_iald (fe_getR (fe_aloadn 0 rfl dX12_see_99) fl_RX12_13 lm_0 rfl dX12_see_100) (fe_sipush dX12_see_103) lm_2 dX12_see_106) (fe_iconst dX12_see_107) dX12_see_108) dX12_see_109
set_option maxRecDepth 20000 in
theorem C_M_see : fw_C LM yX12_see cX12_see 5 (some .int) 3 [2, 0, 0, 0] (some 0) m_M_see := fm_i (d := 3) (N := (0, [])) (B := (0, [])) (C := (0, [])) LM_ok (by decide +kernel) (show fw_S s_M_see _ 0 b_M_see _ _ _ from (fs_seq t_M_see_0 (fs_seq t_M_see_1 (fs_seq (fs_if t_M_see_2 t_M_see_3 (fs_skip rfl)) (fs_seq t_M_see_4 (fs_seq t_M_see_5 (fs_seq t_M_see_6 (fs_seq t_M_see_7 (fs_seq t_M_see_8 t_M_see_9))))))))) (by decide)
/-! DyerBellsModel.isSeen (this 0 ) -/
abbrev s_M_isSeen : SI := (LM, RX12, cX12_isSeen, 2, 4, some 0)
set_option maxRecDepth 20000 in
theorem t_M_isSeen_0 {B C : Nat × FT} : fw_S s_M_isSeen [(0, 2)] 0 (exS (clE m_M_goWeek [(cE 0)])) (4, [(0, 2)]) B C := fs_callV (t := 0) (fa_cons (fe_aloadn 0 rfl dX12_isSeen_0) fa_nil) C_M_goWeek lv_RX12_310 lm_0 rfl rfl (by decide) (by decide) dX12_isSeen_1 rfl
set_option maxRecDepth 20000 in
theorem t_M_isSeen_1 {B C : Nat × FT} : fw_S s_M_isSeen [(0, 2)] 4 (stS 1 (cE 0)) (6, [(0, 2), (1, 0)]) B C := fs_istn (fe_iconst dX12_isSeen_4) dX12_isSeen_5 (by decide) rfl
set_option maxRecDepth 20000 in
theorem t_M_isSeen_2 : fw_B s_M_isSeen [(0, 2), (1, 0)] 0 6 18 77 (nB (cB 3 (vE 1) (ldE 128 592 (thE (cE 0) (cE 0)) (cE 285)))) := (fb_not (fb_icmp_ge (fe_iloadn 1 rfl dX12_isSeen_6) (fe_iald (fe_getR (fe_aloadn 0 rfl dX12_isSeen_7) fl_RX12_13 lm_0 rfl dX12_isSeen_8) (fe_sipush dX12_isSeen_11) lm_2 dX12_isSeen_14) dX12_isSeen_15 rfl))
set_option maxRecDepth 20000 in
theorem t_M_isSeen_3 : fw_B s_M_isSeen [(0, 2), (1, 0)] 0 18 69 71 (nB (cB 0 (ldE 832 672 (thE (cE 0) (cE 0)) (o2 addI (o2 mulI (cE 4) (ldE 128 592 (thE (cE 0) (cE 0)) (o2 addI (cE 286) (o2 mulI (cE 3) (vE 1))))) (ldE 128 592 (thE (cE 0) (cE 0)) (o2 addI (o2 addI (cE 286) (o2 mulI (cE 3) (vE 1))) (cE 1))))) (ldE 128 592 (thE (cE 0) (cE 0)) (o2 addI (o2 addI (cE 286) (o2 mulI (cE 3) (vE 1))) (cE 2))))) := (fb_not (fb_icmp_eq (fe_iald (fe_getR (fe_aloadn 0 rfl dX12_isSeen_18) fl_RX12_48 lm_0 rfl dX12_isSeen_19) (fe_iadd (fe_imul (fe_iconst dX12_isSeen_22) (fe_iald (fe_getR (fe_aloadn 0 rfl dX12_isSeen_23) fl_RX12_13 lm_0 rfl dX12_isSeen_24) (fe_iadd (fe_sipush dX12_isSeen_27) (fe_imul (fe_iconst dX12_isSeen_30) (fe_iloadn 1 rfl dX12_isSeen_31) dX12_isSeen_32) dX12_isSeen_33) lm_2 dX12_isSeen_34) dX12_isSeen_35) (fe_iald (fe_getR (fe_aloadn 0 rfl dX12_isSeen_36) fl_RX12_13 lm_0 rfl dX12_isSeen_37) (fe_iadd (fe_iadd (fe_sipush dX12_isSeen_40) (fe_imul (fe_iconst dX12_isSeen_43) (fe_iloadn 1 rfl dX12_isSeen_44) dX12_isSeen_45) dX12_isSeen_46) (fe_iconst dX12_isSeen_47) dX12_isSeen_48) lm_2 dX12_isSeen_49) dX12_isSeen_50) lm_13 dX12_isSeen_51) (fe_iald (fe_getR (fe_aloadn 0 rfl dX12_isSeen_52) fl_RX12_13 lm_0 rfl dX12_isSeen_53) (fe_iadd (fe_iadd (fe_sipush dX12_isSeen_56) (fe_imul (fe_iconst dX12_isSeen_59) (fe_iloadn 1 rfl dX12_isSeen_60) dX12_isSeen_61) dX12_isSeen_62) (fe_iconst dX12_isSeen_63) dX12_isSeen_64) lm_2 dX12_isSeen_65) dX12_isSeen_66 rfl))
set_option maxRecDepth 20000 in
theorem t_M_isSeen_4 {N B C : Nat × FT} : fw_S s_M_isSeen [(0, 2), (1, 0)] 69 (rtS (cE 0)) N B C := fs_ret (fe_iconst dX12_isSeen_69) dX12_isSeen_70
set_option maxRecDepth 20000 in
theorem t_M_isSeen_5 {B C : Nat × FT} : fw_S s_M_isSeen [(0, 2), (1, 0)] 71 (inS 1 1) (74, [(0, 2), (1, 0)]) B C := fs_inc (j := 1) rfl dX12_isSeen_71 (by decide) rfl
set_option maxRecDepth 20000 in
theorem t_M_isSeen_6 {B C : Nat × FT} : fw_S s_M_isSeen [(0, 2), (1, 0)] 6 (whS (nB (cB 3 (vE 1) (ldE 128 592 (thE (cE 0) (cE 0)) (cE 285)))) (ifS (nB (cB 0 (ldE 832 672 (thE (cE 0) (cE 0)) (o2 addI (o2 mulI (cE 4) (ldE 128 592 (thE (cE 0) (cE 0)) (o2 addI (cE 286) (o2 mulI (cE 3) (vE 1))))) (ldE 128 592 (thE (cE 0) (cE 0)) (o2 addI (o2 addI (cE 286) (o2 mulI (cE 3) (vE 1))) (cE 1))))) (ldE 128 592 (thE (cE 0) (cE 0)) (o2 addI (o2 addI (cE 286) (o2 mulI (cE 3) (vE 1))) (cE 2))))) (rtS (cE 0)) skS) (inS 1 1) FU) (77, [(0, 2), (1, 0)]) B C := fs_while t_M_isSeen_2 (fs_if t_M_isSeen_3 t_M_isSeen_4 (fs_skip rfl)) (fs_goto t_M_isSeen_5 dX12_isSeen_74 rfl)
set_option maxRecDepth 20000 in
theorem t_M_isSeen_7 {N B C : Nat × FT} : fw_S s_M_isSeen [(0, 2)] 77 (rtS (cE 1)) N B C := fs_ret (fe_iconst dX12_isSeen_77) dX12_isSeen_78
set_option maxRecDepth 20000 in
theorem C_M_isSeen : fw_C LM yX12_isSeen cX12_isSeen 2 (some .boolean) 4 [2] (some 0) m_M_isSeen := fm_z (d := 4) (N := (0, [])) (B := (0, [])) (C := (0, [])) LM_ok (by decide +kernel) (show fw_S s_M_isSeen _ 0 b_M_isSeen _ _ _ from (fs_seq t_M_isSeen_0 (fs_seq (fs_seq t_M_isSeen_1 (fs_weak t_M_isSeen_6 rfl)) t_M_isSeen_7))) (by decide)
/-! DyerBellsModel.night (this 0 ) -/
abbrev s_M_night : SI := (LM, RX12, cX12_night, 5, 5, some 0)
set_option maxRecDepth 20000 in
theorem t_M_night_0 {B C : Nat × FT} : fw_S s_M_night [(0, 2)] 0 (pfS 0 (cE 0) (cE 0)) (5, [(0, 2)]) B C := fs_put (fe_aloadn 0 rfl dX12_night_0) (fe_iconst dX12_night_1) fp_RX12_91 lm_0 rfl dX12_night_2 rfl
set_option maxRecDepth 20000 in
theorem t_M_night_1 {B C : Nat × FT} : fw_S s_M_night [(0, 2)] 5 (exS (clE m_M_lay [(cE 0)])) (9, [(0, 2)]) B C := fs_callV (t := 0) (fa_cons (fe_aloadn 0 rfl dX12_night_5) fa_nil) C_M_lay lv_RX12_175 lm_0 rfl rfl (by decide) (by decide) dX12_night_6 rfl
set_option maxRecDepth 20000 in
theorem t_M_night_2 {B C : Nat × FT} : fw_S s_M_night [(0, 2)] 9 (exS (clE m_M_layWorks [(cE 0), (cE (-1))])) (14, [(0, 2)]) B C := fs_callV (t := 0) (fa_cons (fe_aloadn 0 rfl dX12_night_9) (fa_cons (fe_iconst dX12_night_10) fa_nil)) C_M_layWorks lv_RX12_304 lm_0 rfl rfl (by decide) (by decide) dX12_night_11 rfl
set_option maxRecDepth 20000 in
theorem t_M_night_3 {B C : Nat × FT} : fw_S s_M_night [(0, 2)] 14 (exS (clE m_M_layFlows [(cE 0)])) (18, [(0, 2)]) B C := fs_callV (t := 0) (fa_cons (fe_aloadn 0 rfl dX12_night_14) fa_nil) C_M_layFlows lv_RX12_307 lm_0 rfl rfl (by decide) (by decide) dX12_night_15 rfl
set_option maxRecDepth 20000 in
theorem t_M_night_4 {B C : Nat × FT} : fw_S s_M_night [(0, 2)] 18 (stS 1 (cE 0)) (20, [(0, 2), (1, 0)]) B C := fs_istn (fe_iconst dX12_night_18) dX12_night_19 (by decide) rfl
set_option maxRecDepth 20000 in
theorem t_M_night_5 : fw_B s_M_night [(0, 2), (1, 0)] 0 20 27 45 (nB (cB 3 (vE 1) (cE 168))) := (fb_not (fb_icmp_ge (fe_iloadn 1 rfl dX12_night_20) (fe_sipush dX12_night_21) dX12_night_24 rfl))
set_option maxRecDepth 20000 in
theorem t_M_night_6 {B C : Nat × FT} : fw_S s_M_night [(0, 2), (1, 0)] 27 (asS 1536 168 idI (thE (cE 0) (cE 0)) (vE 1) (ldE 640 168 (thE (cE 0) (cE 0)) (vE 1))) (39, [(0, 2), (1, 0)]) B C := fs_iast (fe_getR (fe_aloadn 0 rfl dX12_night_27) fl_RX12_85 lm_0 rfl dX12_night_28) (fe_iloadn 1 rfl dX12_night_31) (fe_iald (fe_getR (fe_aloadn 0 rfl dX12_night_32) fl_RX12_39 lm_0 rfl dX12_night_33) (fe_iloadn 1 rfl dX12_night_36) lm_10 dX12_night_37) lm_24 dX12_night_38 rfl
set_option maxRecDepth 20000 in
theorem t_M_night_7 {B C : Nat × FT} : fw_S s_M_night [(0, 2), (1, 0)] 39 (inS 1 1) (42, [(0, 2), (1, 0)]) B C := fs_inc (j := 1) rfl dX12_night_39 (by decide) rfl
set_option maxRecDepth 20000 in
theorem t_M_night_8 {B C : Nat × FT} : fw_S s_M_night [(0, 2), (1, 0)] 20 (whS (nB (cB 3 (vE 1) (cE 168))) (asS 1536 168 idI (thE (cE 0) (cE 0)) (vE 1) (ldE 640 168 (thE (cE 0) (cE 0)) (vE 1))) (inS 1 1) FU) (45, [(0, 2), (1, 0)]) B C := fs_while t_M_night_5 t_M_night_6 (fs_goto t_M_night_7 dX12_night_42 rfl)
set_option maxRecDepth 20000 in
theorem t_M_night_9 {B C : Nat × FT} : fw_S s_M_night [(0, 2)] 45 (stS 1 (cE 0)) (47, [(0, 2), (1, 0)]) B C := fs_istn (fe_iconst dX12_night_45) dX12_night_46 (by decide) rfl
set_option maxRecDepth 20000 in
theorem t_M_night_10 {B C : Nat × FT} : fw_S s_M_night [(0, 2), (1, 0)] 47 (stS 2 (cE 0)) (49, [(0, 2), (1, 0), (2, 0)]) B C := fs_istn (fe_iconst dX12_night_47) dX12_night_48 (by decide) rfl
set_option maxRecDepth 20000 in
theorem t_M_night_11 : fw_B s_M_night [(0, 2), (1, 0), (2, 0)] 0 49 54 67 (nB (cB 3 (vE 2) (cE 3))) := (fb_not (fb_icmp_ge (fe_iloadn 2 rfl dX12_night_49) (fe_iconst dX12_night_50) dX12_night_51 rfl))
set_option maxRecDepth 20000 in
theorem t_M_night_12 {B C : Nat × FT} : fw_S s_M_night [(0, 2), (1, 0), (2, 0)] 54 (asS 1472 3 idI (thE (cE 0) (cE 0)) (vE 2) (cE (-1))) (61, [(0, 2), (1, 0), (2, 0)]) B C := fs_iast (fe_getR (fe_aloadn 0 rfl dX12_night_54) fl_RX12_82 lm_0 rfl dX12_night_55) (fe_iloadn 2 rfl dX12_night_58) (fe_iconst dX12_night_59) lm_23 dX12_night_60 rfl
set_option maxRecDepth 20000 in
theorem t_M_night_13 {B C : Nat × FT} : fw_S s_M_night [(0, 2), (1, 0), (2, 0)] 61 (inS 2 1) (64, [(0, 2), (1, 0), (2, 0)]) B C := fs_inc (j := 2) rfl dX12_night_61 (by decide) rfl
set_option maxRecDepth 20000 in
theorem t_M_night_14 {B C : Nat × FT} : fw_S s_M_night [(0, 2), (1, 0), (2, 0)] 49 (whS (nB (cB 3 (vE 2) (cE 3))) (asS 1472 3 idI (thE (cE 0) (cE 0)) (vE 2) (cE (-1))) (inS 2 1) FU) (67, [(0, 2), (1, 0), (2, 0)]) B C := fs_while t_M_night_11 t_M_night_12 (fs_goto t_M_night_13 dX12_night_64 rfl)
set_option maxRecDepth 20000 in
theorem t_M_night_15 {B C : Nat × FT} : fw_S s_M_night [(0, 2), (1, 0)] 67 (stS 2 (cE 0)) (69, [(0, 2), (1, 0), (2, 0)]) B C := fs_istn (fe_iconst dX12_night_67) dX12_night_68 (by decide) rfl
set_option maxRecDepth 20000 in
theorem t_M_night_16 : fw_B s_M_night [(0, 2), (1, 0), (2, 0)] 0 69 77 207 (nB (cB 3 (vE 2) (clE m_M_guilds [(cE 0)]))) := (fb_not (fb_icmp_ge (fe_iloadn 2 rfl dX12_night_69) (fe_callV (fa_cons (fe_aloadn 0 rfl dX12_night_70) fa_nil) C_M_guilds lv_RX12_196 lm_0 rfl rfl (by decide) (by decide) (by decide) dX12_night_71) dX12_night_74 rfl))
set_option maxRecDepth 20000 in
theorem t_M_night_17 {B C : Nat × FT} : fw_S s_M_night [(0, 2), (1, 0), (2, 0)] 77 (stS 3 (cE 0)) (79, [(0, 2), (1, 0), (2, 0), (3, 0)]) B C := fs_istn (fe_iconst dX12_night_77) dX12_night_78 (by decide) rfl
set_option maxRecDepth 20000 in
theorem t_M_night_18 : fw_B s_M_night [(0, 2), (1, 0), (2, 0), (3, 0)] 0 79 86 201 (nB (cB 3 (vE 3) (cE 168))) := (fb_not (fb_icmp_ge (fe_iloadn 3 rfl dX12_night_79) (fe_sipush dX12_night_80) dX12_night_83 rfl))
set_option maxRecDepth 20000 in
theorem t_M_night_19 {B C : Nat × FT} : fw_S s_M_night [(0, 2), (1, 0), (2, 0), (3, 0)] 86 (stS 4 (cE 1)) (89, [(0, 2), (1, 0), (2, 0), (3, 0), (4, 0)]) B C := fs_ist (fe_iconst dX12_night_86) dX12_night_87 (by decide) rfl
set_option maxRecDepth 20000 in
theorem t_M_night_20 : fw_B s_M_night [(0, 2), (1, 0), (2, 0), (3, 0), (4, 0)] 0 89 106 164 (andB (nB (cB 4 (vE 4) (cE 6))) (nB (cB 4 (o2 addI (vE 3) (vE 4)) (cE 168)))) := (fb_and (fb_not (fb_icmp_gt (fe_iload 4 rfl dX12_night_89) (fe_bipush dX12_night_91) dX12_night_93 rfl)) (fb_not (fb_icmp_gt (fe_iadd (fe_iloadn 3 rfl dX12_night_96) (fe_iload 4 rfl dX12_night_97) dX12_night_99) (fe_sipush dX12_night_100) dX12_night_103 rfl)))
set_option maxRecDepth 20000 in
theorem t_M_night_21 {B C : Nat × FT} : fw_S s_M_night [(0, 2), (1, 0), (2, 0), (3, 0), (4, 0)] 106 (aoS 640 168 iorI (thE (cE 0) (cE 0)) (o2 subI (o2 addI (vE 3) (vE 4)) (cE 1)) (o2 shlI (cE 1) (vE 2))) (123, [(0, 2), (1, 0), (2, 0), (3, 0), (4, 0)]) B C := fs_ao_or (fe_getR (fe_aloadn 0 rfl dX12_night_106) fl_RX12_39 lm_0 rfl dX12_night_107) (fe_isub (fe_iadd (fe_iloadn 3 rfl dX12_night_110) (fe_iload 4 rfl dX12_night_111) dX12_night_113) (fe_iconst dX12_night_114) dX12_night_115) dX12_night_116 dX12_night_117 (fe_ishl (fe_iconst dX12_night_118) (fe_iloadn 2 rfl dX12_night_119) dX12_night_120) dX12_night_121 lm_10 dX12_night_122 rfl
set_option maxRecDepth 20000 in
theorem t_M_night_22 : fw_B s_M_night [(0, 2), (1, 0), (2, 0), (3, 0), (4, 0)] 0 123 130 133 (nB (zB 1 (clE m_M_isSeen [(cE 0)]))) := (fb_not (fb_if_ne (fe_callV (fa_cons (fe_aloadn 0 rfl dX12_night_123) fa_nil) C_M_isSeen lv_RX12_359 lm_0 rfl rfl (by decide) (by decide) (by decide) dX12_night_124) dX12_night_127 rfl))
set_option maxRecDepth 20000 in
theorem t_M_night_23 {B C : Nat × FT} : fw_S s_M_night [(0, 2), (1, 0), (2, 0), (3, 0), (4, 0)] 133 (inS 1 1) (136, [(0, 2), (1, 0), (2, 0), (3, 0), (4, 0)]) B C := fs_inc (j := 1) rfl dX12_night_133 (by decide) rfl
set_option maxRecDepth 20000 in
theorem t_M_night_24 {B C : Nat × FT} : fw_S s_M_night [(0, 2), (1, 0), (2, 0), (3, 0), (4, 0)] 136 (asS 1472 3 idI (thE (cE 0) (cE 0)) (cE 0) (vE 2)) (143, [(0, 2), (1, 0), (2, 0), (3, 0), (4, 0)]) B C := fs_iast (fe_getR (fe_aloadn 0 rfl dX12_night_136) fl_RX12_82 lm_0 rfl dX12_night_137) (fe_iconst dX12_night_140) (fe_iloadn 2 rfl dX12_night_141) lm_23 dX12_night_142 rfl
set_option maxRecDepth 20000 in
theorem t_M_night_25 {B C : Nat × FT} : fw_S s_M_night [(0, 2), (1, 0), (2, 0), (3, 0), (4, 0)] 143 (asS 1472 3 idI (thE (cE 0) (cE 0)) (cE 1) (vE 3)) (150, [(0, 2), (1, 0), (2, 0), (3, 0), (4, 0)]) B C := fs_iast (fe_getR (fe_aloadn 0 rfl dX12_night_143) fl_RX12_82 lm_0 rfl dX12_night_144) (fe_iconst dX12_night_147) (fe_iloadn 3 rfl dX12_night_148) lm_23 dX12_night_149 rfl
set_option maxRecDepth 20000 in
theorem t_M_night_26 {B C : Nat × FT} : fw_S s_M_night [(0, 2), (1, 0), (2, 0), (3, 0), (4, 0)] 150 (asS 1472 3 idI (thE (cE 0) (cE 0)) (cE 2) (vE 4)) (158, [(0, 2), (1, 0), (2, 0), (3, 0), (4, 0)]) B C := fs_iast (fe_getR (fe_aloadn 0 rfl dX12_night_150) fl_RX12_82 lm_0 rfl dX12_night_151) (fe_iconst dX12_night_154) (fe_iload 4 rfl dX12_night_155) lm_23 dX12_night_157 rfl
set_option maxRecDepth 20000 in
theorem t_M_night_27 {B C : Nat × FT} : fw_S s_M_night [(0, 2), (1, 0), (2, 0), (3, 0), (4, 0)] 158 (inS 4 1) (161, [(0, 2), (1, 0), (2, 0), (3, 0), (4, 0)]) B C := fs_inc (j := 4) rfl dX12_night_158 (by decide) rfl
set_option maxRecDepth 20000 in
theorem t_M_night_28 {B C : Nat × FT} : fw_S s_M_night [(0, 2), (1, 0), (2, 0), (3, 0), (4, 0)] 89 (whS (andB (nB (cB 4 (vE 4) (cE 6))) (nB (cB 4 (o2 addI (vE 3) (vE 4)) (cE 168)))) (sq (aoS 640 168 iorI (thE (cE 0) (cE 0)) (o2 subI (o2 addI (vE 3) (vE 4)) (cE 1)) (o2 shlI (cE 1) (vE 2))) (sq (ifS (nB (zB 1 (clE m_M_isSeen [(cE 0)]))) ctS skS) (sq (inS 1 1) (sq (asS 1472 3 idI (thE (cE 0) (cE 0)) (cE 0) (vE 2)) (sq (asS 1472 3 idI (thE (cE 0) (cE 0)) (cE 1) (vE 3)) (asS 1472 3 idI (thE (cE 0) (cE 0)) (cE 2) (vE 4))))))) (inS 4 1) FU) (164, [(0, 2), (1, 0), (2, 0), (3, 0), (4, 0)]) B C := fs_while t_M_night_20 (fs_seq t_M_night_21 (fs_seq (fs_if t_M_night_22 (fs_cnt dX12_night_130 rfl rfl) (fs_skip rfl)) (fs_seq t_M_night_23 (fs_seq t_M_night_24 (fs_seq t_M_night_25 t_M_night_26))))) (fs_goto t_M_night_27 dX12_night_161 rfl)
set_option maxRecDepth 20000 in
theorem t_M_night_29 {B C : Nat × FT} : fw_S s_M_night [(0, 2), (1, 0), (2, 0), (3, 0)] 164 (stS 4 (cE 0)) (167, [(0, 2), (1, 0), (2, 0), (3, 0), (4, 0)]) B C := fs_ist (fe_iconst dX12_night_164) dX12_night_165 (by decide) rfl
set_option maxRecDepth 20000 in
theorem t_M_night_30 : fw_B s_M_night [(0, 2), (1, 0), (2, 0), (3, 0), (4, 0)] 0 167 175 195 (nB (cB 3 (vE 4) (cE 168))) := (fb_not (fb_icmp_ge (fe_iload 4 rfl dX12_night_167) (fe_sipush dX12_night_169) dX12_night_172 rfl))
set_option maxRecDepth 20000 in
theorem t_M_night_31 {B C : Nat × FT} : fw_S s_M_night [(0, 2), (1, 0), (2, 0), (3, 0), (4, 0)] 175 (asS 640 168 idI (thE (cE 0) (cE 0)) (vE 4) (ldE 1536 168 (thE (cE 0) (cE 0)) (vE 4))) (189, [(0, 2), (1, 0), (2, 0), (3, 0), (4, 0)]) B C := fs_iast (fe_getR (fe_aloadn 0 rfl dX12_night_175) fl_RX12_39 lm_0 rfl dX12_night_176) (fe_iload 4 rfl dX12_night_179) (fe_iald (fe_getR (fe_aloadn 0 rfl dX12_night_181) fl_RX12_85 lm_0 rfl dX12_night_182) (fe_iload 4 rfl dX12_night_185) lm_24 dX12_night_187) lm_10 dX12_night_188 rfl
set_option maxRecDepth 20000 in
theorem t_M_night_32 {B C : Nat × FT} : fw_S s_M_night [(0, 2), (1, 0), (2, 0), (3, 0), (4, 0)] 189 (inS 4 1) (192, [(0, 2), (1, 0), (2, 0), (3, 0), (4, 0)]) B C := fs_inc (j := 4) rfl dX12_night_189 (by decide) rfl
set_option maxRecDepth 20000 in
theorem t_M_night_33 {B C : Nat × FT} : fw_S s_M_night [(0, 2), (1, 0), (2, 0), (3, 0), (4, 0)] 167 (whS (nB (cB 3 (vE 4) (cE 168))) (asS 640 168 idI (thE (cE 0) (cE 0)) (vE 4) (ldE 1536 168 (thE (cE 0) (cE 0)) (vE 4))) (inS 4 1) FU) (195, [(0, 2), (1, 0), (2, 0), (3, 0), (4, 0)]) B C := fs_while t_M_night_30 t_M_night_31 (fs_goto t_M_night_32 dX12_night_192 rfl)
set_option maxRecDepth 20000 in
theorem t_M_night_34 {B C : Nat × FT} : fw_S s_M_night [(0, 2), (1, 0), (2, 0), (3, 0)] 195 (inS 3 1) (198, [(0, 2), (1, 0), (2, 0), (3, 0)]) B C := fs_inc (j := 3) rfl dX12_night_195 (by decide) rfl
set_option maxRecDepth 20000 in
theorem t_M_night_35 {B C : Nat × FT} : fw_S s_M_night [(0, 2), (1, 0), (2, 0), (3, 0)] 79 (whS (nB (cB 3 (vE 3) (cE 168))) (sq (sq (stS 4 (cE 1)) (whS (andB (nB (cB 4 (vE 4) (cE 6))) (nB (cB 4 (o2 addI (vE 3) (vE 4)) (cE 168)))) (sq (aoS 640 168 iorI (thE (cE 0) (cE 0)) (o2 subI (o2 addI (vE 3) (vE 4)) (cE 1)) (o2 shlI (cE 1) (vE 2))) (sq (ifS (nB (zB 1 (clE m_M_isSeen [(cE 0)]))) ctS skS) (sq (inS 1 1) (sq (asS 1472 3 idI (thE (cE 0) (cE 0)) (cE 0) (vE 2)) (sq (asS 1472 3 idI (thE (cE 0) (cE 0)) (cE 1) (vE 3)) (asS 1472 3 idI (thE (cE 0) (cE 0)) (cE 2) (vE 4))))))) (inS 4 1) FU)) (sq (stS 4 (cE 0)) (whS (nB (cB 3 (vE 4) (cE 168))) (asS 640 168 idI (thE (cE 0) (cE 0)) (vE 4) (ldE 1536 168 (thE (cE 0) (cE 0)) (vE 4))) (inS 4 1) FU))) (inS 3 1) FU) (201, [(0, 2), (1, 0), (2, 0), (3, 0)]) B C := fs_while t_M_night_18 (fs_seq (fs_seq t_M_night_19 (fs_weak t_M_night_28 rfl)) (fs_seq t_M_night_29 (fs_weak t_M_night_33 rfl))) (fs_goto t_M_night_34 dX12_night_198 rfl)
set_option maxRecDepth 20000 in
theorem t_M_night_36 {B C : Nat × FT} : fw_S s_M_night [(0, 2), (1, 0), (2, 0)] 201 (inS 2 1) (204, [(0, 2), (1, 0), (2, 0)]) B C := fs_inc (j := 2) rfl dX12_night_201 (by decide) rfl
set_option maxRecDepth 20000 in
theorem t_M_night_37 {B C : Nat × FT} : fw_S s_M_night [(0, 2), (1, 0), (2, 0)] 69 (whS (nB (cB 3 (vE 2) (clE m_M_guilds [(cE 0)]))) (sq (stS 3 (cE 0)) (whS (nB (cB 3 (vE 3) (cE 168))) (sq (sq (stS 4 (cE 1)) (whS (andB (nB (cB 4 (vE 4) (cE 6))) (nB (cB 4 (o2 addI (vE 3) (vE 4)) (cE 168)))) (sq (aoS 640 168 iorI (thE (cE 0) (cE 0)) (o2 subI (o2 addI (vE 3) (vE 4)) (cE 1)) (o2 shlI (cE 1) (vE 2))) (sq (ifS (nB (zB 1 (clE m_M_isSeen [(cE 0)]))) ctS skS) (sq (inS 1 1) (sq (asS 1472 3 idI (thE (cE 0) (cE 0)) (cE 0) (vE 2)) (sq (asS 1472 3 idI (thE (cE 0) (cE 0)) (cE 1) (vE 3)) (asS 1472 3 idI (thE (cE 0) (cE 0)) (cE 2) (vE 4))))))) (inS 4 1) FU)) (sq (stS 4 (cE 0)) (whS (nB (cB 3 (vE 4) (cE 168))) (asS 640 168 idI (thE (cE 0) (cE 0)) (vE 4) (ldE 1536 168 (thE (cE 0) (cE 0)) (vE 4))) (inS 4 1) FU))) (inS 3 1) FU)) (inS 2 1) FU) (207, [(0, 2), (1, 0), (2, 0)]) B C := fs_while t_M_night_16 (fs_seq t_M_night_17 (fs_weak t_M_night_35 rfl)) (fs_goto t_M_night_36 dX12_night_204 rfl)
set_option maxRecDepth 20000 in
theorem t_M_night_38 {B C : Nat × FT} : fw_S s_M_night [(0, 2), (1, 0)] 207 (stS 2 (cE 0)) (209, [(0, 2), (1, 0), (2, 0)]) B C := fs_istn (fe_iconst dX12_night_207) dX12_night_208 (by decide) rfl
set_option maxRecDepth 20000 in
theorem t_M_night_39 : fw_B s_M_night [(0, 2), (1, 0), (2, 0)] 0 209 219 232 (andB (nB (cB 3 (vE 2) (cE 3))) (nB (cB 0 (vE 1) (cE 1)))) := (fb_and (fb_not (fb_icmp_ge (fe_iloadn 2 rfl dX12_night_209) (fe_iconst dX12_night_210) dX12_night_211 rfl)) (fb_not (fb_icmp_eq (fe_iloadn 1 rfl dX12_night_214) (fe_iconst dX12_night_215) dX12_night_216 rfl)))
set_option maxRecDepth 20000 in
theorem t_M_night_40 {B C : Nat × FT} : fw_S s_M_night [(0, 2), (1, 0), (2, 0)] 219 (asS 1472 3 idI (thE (cE 0) (cE 0)) (vE 2) (cE (-1))) (226, [(0, 2), (1, 0), (2, 0)]) B C := fs_iast (fe_getR (fe_aloadn 0 rfl dX12_night_219) fl_RX12_82 lm_0 rfl dX12_night_220) (fe_iloadn 2 rfl dX12_night_223) (fe_iconst dX12_night_224) lm_23 dX12_night_225 rfl
set_option maxRecDepth 20000 in
theorem t_M_night_41 {B C : Nat × FT} : fw_S s_M_night [(0, 2), (1, 0), (2, 0)] 226 (inS 2 1) (229, [(0, 2), (1, 0), (2, 0)]) B C := fs_inc (j := 2) rfl dX12_night_226 (by decide) rfl
set_option maxRecDepth 20000 in
theorem t_M_night_42 {B C : Nat × FT} : fw_S s_M_night [(0, 2), (1, 0), (2, 0)] 209 (whS (andB (nB (cB 3 (vE 2) (cE 3))) (nB (cB 0 (vE 1) (cE 1)))) (asS 1472 3 idI (thE (cE 0) (cE 0)) (vE 2) (cE (-1))) (inS 2 1) FU) (232, [(0, 2), (1, 0), (2, 0)]) B C := fs_while t_M_night_39 t_M_night_40 (fs_goto t_M_night_41 dX12_night_229 rfl)
set_option maxRecDepth 20000 in
theorem t_M_night_43 {N B C : Nat × FT} : fw_S s_M_night [(0, 2), (1, 0)] 232 (rtS (vE 1)) N B C := fs_ret (fe_iloadn 1 rfl dX12_night_232) dX12_night_233
set_option maxRecDepth 20000 in
theorem C_M_night : fw_C LM yX12_night cX12_night 5 (some .int) 5 [2] (some 0) m_M_night := fm_i (d := 5) (N := (0, [])) (B := (0, [])) (C := (0, [])) LM_ok (by decide +kernel) (show fw_S s_M_night _ 0 b_M_night _ _ _ from (fs_seq t_M_night_0 (fs_seq t_M_night_1 (fs_seq t_M_night_2 (fs_seq t_M_night_3 (fs_seq (fs_seq t_M_night_4 (fs_weak t_M_night_8 rfl)) (fs_seq t_M_night_9 (fs_seq (fs_seq t_M_night_10 (fs_weak t_M_night_14 rfl)) (fs_seq (fs_seq t_M_night_15 (fs_weak t_M_night_37 rfl)) (fs_seq (fs_seq t_M_night_38 (fs_weak t_M_night_42 rfl)) t_M_night_43)))))))))) (by decide)
/-! DyerBellsModel.led (this 0 ) -/
abbrev s_M_led : SI := (LM, RX12, cX12_led, 2, 2, some 0)
set_option maxRecDepth 20000 in
theorem t_M_led_0 {B C : Nat × FT} : fw_S s_M_led [(0, 2), (1, 0)] 0 (pfS 0 (cE 0) (cE 0)) (5, [(0, 2), (1, 0)]) B C := fs_put (fe_aloadn 0 rfl dX12_led_0) (fe_iconst dX12_led_1) fp_RX12_91 lm_0 rfl dX12_led_2 rfl
set_option maxRecDepth 20000 in
theorem t_M_led_1 {N B C : Nat × FT} : fw_S s_M_led [(0, 2), (1, 0)] 5 (rtS (kE (nB (zB 0 (clE m_M_isIn [(vE 1), (cE 0), (cE 2)]))) (ldE 1472 3 (thE (cE 0) (cE 0)) (vE 1)) (cE (-1)))) N B C := fs_ret (fe_ternG (fb_not (fb_if_eq (fe_callS (fa_cons (fe_iloadn 1 rfl dX12_led_5) (fa_cons (fe_iconst dX12_led_6) (fa_cons (fe_iconst dX12_led_7) fa_nil))) C_M_isIn ls_RX12_162 rfl (by decide) (by decide) (by decide) dX12_led_8) dX12_led_11 rfl)) (fe_gt (fe_iald (fe_getR (fe_aloadn 0 rfl dX12_led_14) fl_RX12_82 lm_0 rfl dX12_led_15) (fe_iloadn 1 rfl dX12_led_18) lm_23 dX12_led_19) dX12_led_20 rfl) (fe_iconst dX12_led_23)) dX12_led_24
set_option maxRecDepth 20000 in
theorem C_M_led : fw_C LM yX12_led cX12_led 2 (some .int) 2 [2, 0] (some 0) m_M_led := fm_i (d := 2) (N := (0, [])) (B := (0, [])) (C := (0, [])) LM_ok (by decide +kernel) (show fw_S s_M_led _ 0 b_M_led _ _ _ from (fs_seq t_M_led_0 t_M_led_1)) (by decide)
/-! DyerBellsModel.dam (this 0 ) -/
abbrev s_M_dam : SI := (LM, RX12, cX12_dam, 5, 6, some 0)
set_option maxRecDepth 20000 in
theorem t_M_dam_0 {B C : Nat × FT} : fw_S s_M_dam [(0, 2), (1, 0), (2, 0)] 0 (pfS 0 (cE 0) (cE 0)) (5, [(0, 2), (1, 0), (2, 0)]) B C := fs_put (fe_aloadn 0 rfl dX12_dam_0) (fe_iconst dX12_dam_1) fp_RX12_91 lm_0 rfl dX12_dam_2 rfl
set_option maxRecDepth 20000 in
theorem t_M_dam_1 {B C : Nat × FT} : fw_S s_M_dam [(0, 2), (1, 0), (2, 0)] 5 (exS (clE m_M_lay [(cE 0)])) (9, [(0, 2), (1, 0), (2, 0)]) B C := fs_callV (t := 0) (fa_cons (fe_aloadn 0 rfl dX12_dam_5) fa_nil) C_M_lay lv_RX12_175 lm_0 rfl rfl (by decide) (by decide) dX12_dam_6 rfl
set_option maxRecDepth 20000 in
theorem t_M_dam_2 : fw_B s_M_dam [(0, 2), (1, 0), (2, 0)] 0 9 28 30 (orB (zB 0 (clE m_M_isReach [(cE 0), (vE 1)])) (nB (zB 1 (clE m_M_isIn [(vE 2), (cE 1), (cE 9999)])))) := (fb_or (fb_if_eq (fe_callV (fa_cons (fe_aloadn 0 rfl dX12_dam_9) (fa_cons (fe_iloadn 1 rfl dX12_dam_10) fa_nil)) C_M_isReach lv_RX12_268 lm_0 rfl rfl (by decide) (by decide) (by decide) dX12_dam_11) dX12_dam_14 rfl) (fb_not (fb_if_ne (fe_callS (fa_cons (fe_iloadn 2 rfl dX12_dam_17) (fa_cons (fe_iconst dX12_dam_18) (fa_cons (fe_sipush dX12_dam_19) fa_nil))) C_M_isIn ls_RX12_162 rfl (by decide) (by decide) (by decide) dX12_dam_22) dX12_dam_25 rfl)))
set_option maxRecDepth 20000 in
theorem t_M_dam_3 {N B C : Nat × FT} : fw_S s_M_dam [(0, 2), (1, 0), (2, 0)] 28 (rtS (cE (-1))) N B C := fs_ret (fe_iconst dX12_dam_28) dX12_dam_29
set_option maxRecDepth 20000 in
theorem t_M_dam_4 {B C : Nat × FT} : fw_S s_M_dam [(0, 2), (1, 0), (2, 0)] 30 (stS 3 (ldE 128 592 (thE (cE 0) (cE 0)) (o2 addI (cE 10) (o2 mulI (cE 2) (vE 1))))) (42, [(0, 2), (1, 0), (2, 0), (3, 0)]) B C := fs_istn (fe_iald (fe_getR (fe_aloadn 0 rfl dX12_dam_30) fl_RX12_13 lm_0 rfl dX12_dam_31) (fe_iadd (fe_bipush dX12_dam_34) (fe_imul (fe_iconst dX12_dam_36) (fe_iloadn 1 rfl dX12_dam_37) dX12_dam_38) dX12_dam_39) lm_2 dX12_dam_40) dX12_dam_41 (by decide) rfl
set_option maxRecDepth 20000 in
theorem t_M_dam_5 {B C : Nat × FT} : fw_S s_M_dam [(0, 2), (1, 0), (2, 0), (3, 0)] 42 (asS 128 592 idI (thE (cE 0) (cE 0)) (o2 addI (cE 10) (o2 mulI (cE 2) (vE 1))) (vE 2)) (54, [(0, 2), (1, 0), (2, 0), (3, 0)]) B C := fs_iast (fe_getR (fe_aloadn 0 rfl dX12_dam_42) fl_RX12_13 lm_0 rfl dX12_dam_43) (fe_iadd (fe_bipush dX12_dam_46) (fe_imul (fe_iconst dX12_dam_48) (fe_iloadn 1 rfl dX12_dam_49) dX12_dam_50) dX12_dam_51) (fe_iloadn 2 rfl dX12_dam_52) lm_2 dX12_dam_53 rfl
set_option maxRecDepth 20000 in
theorem t_M_dam_6 {B C : Nat × FT} : fw_S s_M_dam [(0, 2), (1, 0), (2, 0), (3, 0)] 54 (stS 4 (clE m_M_harmNow [(cE 0)])) (60, [(0, 2), (1, 0), (2, 0), (3, 0), (4, 0)]) B C := fs_ist (fe_callV (fa_cons (fe_aloadn 0 rfl dX12_dam_54) fa_nil) C_M_harmNow lv_RX12_334 lm_0 rfl rfl (by decide) (by decide) (by decide) dX12_dam_55) dX12_dam_58 (by decide) rfl
set_option maxRecDepth 20000 in
theorem t_M_dam_7 {B C : Nat × FT} : fw_S s_M_dam [(0, 2), (1, 0), (2, 0), (3, 0), (4, 0)] 60 (asS 128 592 idI (thE (cE 0) (cE 0)) (o2 addI (cE 10) (o2 mulI (cE 2) (vE 1))) (vE 3)) (72, [(0, 2), (1, 0), (2, 0), (3, 0), (4, 0)]) B C := fs_iast (fe_getR (fe_aloadn 0 rfl dX12_dam_60) fl_RX12_13 lm_0 rfl dX12_dam_61) (fe_iadd (fe_bipush dX12_dam_64) (fe_imul (fe_iconst dX12_dam_66) (fe_iloadn 1 rfl dX12_dam_67) dX12_dam_68) dX12_dam_69) (fe_iloadn 3 rfl dX12_dam_70) lm_2 dX12_dam_71 rfl
set_option maxRecDepth 20000 in
theorem t_M_dam_8 {N B C : Nat × FT} : fw_S s_M_dam [(0, 2), (1, 0), (2, 0), (3, 0), (4, 0)] 72 (rtS (vE 4)) N B C := fs_ret (fe_iload 4 rfl dX12_dam_72) dX12_dam_74
set_option maxRecDepth 20000 in
theorem C_M_dam : fw_C LM yX12_dam cX12_dam 5 (some .int) 6 [2, 0, 0] (some 0) m_M_dam := fm_i (d := 6) (N := (0, [])) (B := (0, [])) (C := (0, [])) LM_ok (by decide +kernel) (show fw_S s_M_dam _ 0 b_M_dam _ _ _ from (fs_seq t_M_dam_0 (fs_seq t_M_dam_1 (fs_seq (fs_if t_M_dam_2 t_M_dam_3 (fs_skip rfl)) (fs_seq t_M_dam_4 (fs_seq t_M_dam_5 (fs_seq t_M_dam_6 (fs_seq t_M_dam_7 t_M_dam_8)))))))) (by decide)
/-! DyerBellsModel.draw (this 0 ) -/
abbrev s_M_draw : SI := (LM, RX12, cX12_draw, 2, 1, some 0)
set_option maxRecDepth 20000 in
theorem t_M_draw_0 {B C : Nat × FT} : fw_S s_M_draw [(0, 2), (1, 0)] 0 (pfS 48 (cE 0) (o2 addI (o2 mulI (thE (cE 0) (gE 48)) (cE 1103515245)) (cE 12345))) (16, [(0, 2), (1, 0)]) B C := fs_put (fe_aloadn 0 rfl dX12_draw_0) (fe_iadd (fe_imul (fe_getI (fe_aloadn 0 rfl dX12_draw_1) fl_RX12_362 lm_0 rfl dX12_draw_2) (fe_ldcw dX12_draw_5 wk_RX12_365) dX12_draw_8) (fe_sipush dX12_draw_9) dX12_draw_12) fp_RX12_362 lm_0 rfl dX12_draw_13 rfl
set_option maxRecDepth 20000 in
theorem t_M_draw_1 {N B C : Nat × FT} : fw_S s_M_draw [(0, 2), (1, 0)] 16 (rtS (rmE (o2 usrI (thE (cE 0) (gE 48)) (cE 8)) (vE 1))) N B C := fs_ret (fe_irem (fe_iushr (fe_getI (fe_aloadn 0 rfl dX12_draw_16) fl_RX12_362 lm_0 rfl dX12_draw_17) (fe_bipush dX12_draw_20) dX12_draw_22) (fe_iloadn 1 rfl dX12_draw_23) dX12_draw_24) dX12_draw_25
set_option maxRecDepth 20000 in
theorem C_M_draw : fw_C LM yX12_draw cX12_draw 2 (some .int) 1 [2, 0] (some 0) m_M_draw := fm_i (d := 1) (N := (0, [])) (B := (0, [])) (C := (0, [])) LM_ok (by decide +kernel) (show fw_S s_M_draw _ 0 b_M_draw _ _ _ from (fs_seq t_M_draw_0 t_M_draw_1)) (by decide)
/-! DyerBellsModel.rain (this 0 ) -/
abbrev s_M_rain : SI := (LM, RX12, cX12_rain, 8, 4, some 0)
set_option maxRecDepth 20000 in
theorem t_M_rain_0 {B C : Nat × FT} : fw_S s_M_rain [(0, 2), (1, 0), (2, 0)] 0 (pfS 0 (cE 0) (cE 0)) (5, [(0, 2), (1, 0), (2, 0)]) B C := fs_put (fe_aloadn 0 rfl dX12_rain_0) (fe_iconst dX12_rain_1) fp_RX12_91 lm_0 rfl dX12_rain_2 rfl
set_option maxRecDepth 20000 in
theorem t_M_rain_1 {B C : Nat × FT} : fw_S s_M_rain [(0, 2), (1, 0), (2, 0)] 5 (exS (clE m_M_lay [(cE 0)])) (9, [(0, 2), (1, 0), (2, 0)]) B C := fs_callV (t := 0) (fa_cons (fe_aloadn 0 rfl dX12_rain_5) fa_nil) C_M_lay lv_RX12_175 lm_0 rfl rfl (by decide) (by decide) dX12_rain_6 rfl
set_option maxRecDepth 20000 in
theorem t_M_rain_2 : fw_B s_M_rain [(0, 2), (1, 0), (2, 0)] 0 9 19 21 (nB (zB 1 (clE m_M_isIn [(vE 1), (cE 1), (cE 20)]))) := (fb_not (fb_if_ne (fe_callS (fa_cons (fe_iloadn 1 rfl dX12_rain_9) (fa_cons (fe_iconst dX12_rain_10) (fa_cons (fe_bipush dX12_rain_11) fa_nil))) C_M_isIn ls_RX12_162 rfl (by decide) (by decide) (by decide) dX12_rain_13) dX12_rain_16 rfl))
set_option maxRecDepth 20000 in
theorem t_M_rain_3 {N B C : Nat × FT} : fw_S s_M_rain [(0, 2), (1, 0), (2, 0)] 19 (rtS (cE (-1))) N B C := fs_ret (fe_iconst dX12_rain_19) dX12_rain_20
set_option maxRecDepth 20000 in
theorem t_M_rain_4 {B C : Nat × FT} : fw_S s_M_rain [(0, 2), (1, 0), (2, 0)] 21 (pfS 48 (cE 0) (vE 2)) (26, [(0, 2), (1, 0), (2, 0)]) B C := fs_put (fe_aloadn 0 rfl dX12_rain_21) (fe_iloadn 2 rfl dX12_rain_22) fp_RX12_362 lm_0 rfl dX12_rain_23 rfl
set_option maxRecDepth 20000 in
theorem t_M_rain_5 {B C : Nat × FT} : fw_S s_M_rain [(0, 2), (1, 0), (2, 0)] 26 (exS (clE m_M_layWorks [(cE 0), (cE (-1))])) (31, [(0, 2), (1, 0), (2, 0)]) B C := fs_callV (t := 0) (fa_cons (fe_aloadn 0 rfl dX12_rain_26) (fa_cons (fe_iconst dX12_rain_27) fa_nil)) C_M_layWorks lv_RX12_304 lm_0 rfl rfl (by decide) (by decide) dX12_rain_28 rfl
set_option maxRecDepth 20000 in
theorem t_M_rain_6 {B C : Nat × FT} : fw_S s_M_rain [(0, 2), (1, 0), (2, 0)] 31 (stS 3 (cE 0)) (33, [(0, 2), (1, 0), (2, 0), (3, 0)]) B C := fs_istn (fe_iconst dX12_rain_31) dX12_rain_32 (by decide) rfl
set_option maxRecDepth 20000 in
theorem t_M_rain_7 {B C : Nat × FT} : fw_S s_M_rain [(0, 2), (1, 0), (2, 0), (3, 0)] 33 (stS 4 (cE 0)) (36, [(0, 2), (1, 0), (2, 0), (3, 0), (4, 0)]) B C := fs_ist (fe_iconst dX12_rain_33) dX12_rain_34 (by decide) rfl
set_option maxRecDepth 20000 in
theorem t_M_rain_8 : fw_B s_M_rain [(0, 2), (1, 0), (2, 0), (3, 0), (4, 0)] 0 36 42 145 (nB (cB 3 (vE 4) (vE 1))) := (fb_not (fb_icmp_ge (fe_iload 4 rfl dX12_rain_36) (fe_iloadn 1 rfl dX12_rain_38) dX12_rain_39 rfl))
set_option maxRecDepth 20000 in
theorem t_M_rain_9 {B C : Nat × FT} : fw_S s_M_rain [(0, 2), (1, 0), (2, 0), (3, 0), (4, 0)] 42 (stS 5 (cE 0)) (45, [(0, 2), (1, 0), (2, 0), (3, 0), (4, 0), (5, 0)]) B C := fs_ist (fe_iconst dX12_rain_42) dX12_rain_43 (by decide) rfl
set_option maxRecDepth 20000 in
theorem t_M_rain_10 : fw_B s_M_rain [(0, 2), (1, 0), (2, 0), (3, 0), (4, 0), (5, 0)] 0 45 52 125 (nB (cB 3 (vE 5) (cE 7))) := (fb_not (fb_icmp_ge (fe_iload 5 rfl dX12_rain_45) (fe_bipush dX12_rain_47) dX12_rain_49 rfl))
set_option maxRecDepth 20000 in
theorem t_M_rain_11 {B C : Nat × FT} : fw_S s_M_rain [(0, 2), (1, 0), (2, 0), (3, 0), (4, 0), (5, 0)] 52 (stS 6 (ldE 128 592 (thE (cE 0) (cE 0)) (o2 addI (cE 110) (vE 5)))) (64, [(0, 2), (1, 0), (2, 0), (3, 0), (4, 0), (5, 0), (6, 0)]) B C := fs_ist (fe_iald (fe_getR (fe_aloadn 0 rfl dX12_rain_52) fl_RX12_13 lm_0 rfl dX12_rain_53) (fe_iadd (fe_bipush dX12_rain_56) (fe_iload 5 rfl dX12_rain_58) dX12_rain_60) lm_2 dX12_rain_61) dX12_rain_62 (by decide) rfl
set_option maxRecDepth 20000 in
theorem t_M_rain_12 {B C : Nat × FT} : fw_S s_M_rain [(0, 2), (1, 0), (2, 0), (3, 0), (4, 0), (5, 0), (6, 0)] 64 (stS 7 (clE m_M_draw [(cE 0), (cE 5)])) (71, [(0, 2), (1, 0), (2, 0), (3, 0), (4, 0), (5, 0), (6, 0), (7, 0)]) B C := fs_ist (fe_callV (fa_cons (fe_aloadn 0 rfl dX12_rain_64) (fa_cons (fe_iconst dX12_rain_65) fa_nil)) C_M_draw lv_RX12_366 lm_0 rfl rfl (by decide) (by decide) (by decide) dX12_rain_66) dX12_rain_69 (by decide) rfl
set_option maxRecDepth 20000 in
theorem t_M_rain_13 {B C : Nat × FT} : fw_S s_M_rain [(0, 2), (1, 0), (2, 0), (3, 0), (4, 0), (5, 0), (6, 0), (7, 0)] 71 (asS 960 7 idI (thE (cE 0) (cE 0)) (vE 5) (kE (nB (zB 1 (vE 7))) (dvE (vE 6) (cE 2)) (kE (nB (cB 3 (vE 7) (cE 4))) (vE 6) (kE (nB (cB 5 (vE 6) (cE 3333))) (cE 9999) (o2 mulI (cE 3) (vE 6)))))) (119, [(0, 2), (1, 0), (2, 0), (3, 0), (4, 0), (5, 0)]) B C := fs_iast (fe_getR (fe_aloadn 0 rfl dX12_rain_71) fl_RX12_54 lm_0 rfl dX12_rain_72) (fe_iload 5 rfl dX12_rain_75) (fe_ternG (fb_not (fb_if_ne (fe_iload 7 rfl dX12_rain_77) dX12_rain_79 rfl)) (fe_gt (fe_idiv (fe_iload 6 rfl dX12_rain_82) (fe_iconst dX12_rain_84) dX12_rain_85) dX12_rain_86 rfl) (fe_ternG (fb_not (fb_icmp_ge (fe_iload 7 rfl dX12_rain_89) (fe_iconst dX12_rain_91) dX12_rain_92 rfl)) (fe_gt (fe_iload 6 rfl dX12_rain_95) dX12_rain_97 rfl) (fe_ternG (fb_not (fb_icmp_le (fe_iload 6 rfl dX12_rain_100) (fe_sipush dX12_rain_102) dX12_rain_105 rfl)) (fe_gt (fe_sipush dX12_rain_108) dX12_rain_111 rfl) (fe_imul (fe_iconst dX12_rain_114) (fe_iload 6 rfl dX12_rain_115) dX12_rain_117)))) lm_15 dX12_rain_118 rfl
set_option maxRecDepth 20000 in
theorem t_M_rain_14 {B C : Nat × FT} : fw_S s_M_rain [(0, 2), (1, 0), (2, 0), (3, 0), (4, 0), (5, 0)] 119 (inS 5 1) (122, [(0, 2), (1, 0), (2, 0), (3, 0), (4, 0), (5, 0)]) B C := fs_inc (j := 5) rfl dX12_rain_119 (by decide) rfl
set_option maxRecDepth 20000 in
theorem t_M_rain_15 {B C : Nat × FT} : fw_S s_M_rain [(0, 2), (1, 0), (2, 0), (3, 0), (4, 0), (5, 0)] 45 (whS (nB (cB 3 (vE 5) (cE 7))) (sq (stS 6 (ldE 128 592 (thE (cE 0) (cE 0)) (o2 addI (cE 110) (vE 5)))) (sq (stS 7 (clE m_M_draw [(cE 0), (cE 5)])) (asS 960 7 idI (thE (cE 0) (cE 0)) (vE 5) (kE (nB (zB 1 (vE 7))) (dvE (vE 6) (cE 2)) (kE (nB (cB 3 (vE 7) (cE 4))) (vE 6) (kE (nB (cB 5 (vE 6) (cE 3333))) (cE 9999) (o2 mulI (cE 3) (vE 6)))))))) (inS 5 1) FU) (125, [(0, 2), (1, 0), (2, 0), (3, 0), (4, 0), (5, 0)]) B C := fs_while t_M_rain_10 (fs_seq t_M_rain_11 (fs_seq t_M_rain_12 t_M_rain_13)) (fs_goto t_M_rain_14 dX12_rain_122 rfl)
set_option maxRecDepth 20000 in
theorem t_M_rain_16 {B C : Nat × FT} : fw_S s_M_rain [(0, 2), (1, 0), (2, 0), (3, 0), (4, 0)] 125 (exS (clE m_M_goWeek [(cE 0)])) (129, [(0, 2), (1, 0), (2, 0), (3, 0), (4, 0)]) B C := fs_callV (t := 0) (fa_cons (fe_aloadn 0 rfl dX12_rain_125) fa_nil) C_M_goWeek lv_RX12_310 lm_0 rfl rfl (by decide) (by decide) dX12_rain_126 rfl
set_option maxRecDepth 20000 in
theorem t_M_rain_17 : fw_B s_M_rain [(0, 2), (1, 0), (2, 0), (3, 0), (4, 0)] 0 129 136 139 (nB (zB 5 (clE m_M_harmAtHand [(cE 0)]))) := (fb_not (fb_if_le (fe_callV (fa_cons (fe_aloadn 0 rfl dX12_rain_129) fa_nil) C_M_harmAtHand lv_RX12_325 lm_0 rfl rfl (by decide) (by decide) (by decide) dX12_rain_130) dX12_rain_133 rfl))
set_option maxRecDepth 20000 in
theorem t_M_rain_18 {B C : Nat × FT} : fw_S s_M_rain [(0, 2), (1, 0), (2, 0), (3, 0), (4, 0)] 136 (inS 3 1) (139, [(0, 2), (1, 0), (2, 0), (3, 0), (4, 0)]) B C := fs_inc (j := 3) rfl dX12_rain_136 (by decide) rfl
set_option maxRecDepth 20000 in
theorem t_M_rain_19 {B C : Nat × FT} : fw_S s_M_rain [(0, 2), (1, 0), (2, 0), (3, 0), (4, 0)] 139 (inS 4 1) (142, [(0, 2), (1, 0), (2, 0), (3, 0), (4, 0)]) B C := fs_inc (j := 4) rfl dX12_rain_139 (by decide) rfl
set_option maxRecDepth 20000 in
theorem t_M_rain_20 {B C : Nat × FT} : fw_S s_M_rain [(0, 2), (1, 0), (2, 0), (3, 0), (4, 0)] 36 (whS (nB (cB 3 (vE 4) (vE 1))) (sq (sq (stS 5 (cE 0)) (whS (nB (cB 3 (vE 5) (cE 7))) (sq (stS 6 (ldE 128 592 (thE (cE 0) (cE 0)) (o2 addI (cE 110) (vE 5)))) (sq (stS 7 (clE m_M_draw [(cE 0), (cE 5)])) (asS 960 7 idI (thE (cE 0) (cE 0)) (vE 5) (kE (nB (zB 1 (vE 7))) (dvE (vE 6) (cE 2)) (kE (nB (cB 3 (vE 7) (cE 4))) (vE 6) (kE (nB (cB 5 (vE 6) (cE 3333))) (cE 9999) (o2 mulI (cE 3) (vE 6)))))))) (inS 5 1) FU)) (sq (exS (clE m_M_goWeek [(cE 0)])) (ifS (nB (zB 5 (clE m_M_harmAtHand [(cE 0)]))) (inS 3 1) skS))) (inS 4 1) FU) (145, [(0, 2), (1, 0), (2, 0), (3, 0), (4, 0)]) B C := fs_while t_M_rain_8 (fs_seq (fs_seq t_M_rain_9 (fs_weak t_M_rain_15 rfl)) (fs_seq t_M_rain_16 (fs_if t_M_rain_17 t_M_rain_18 (fs_skip rfl)))) (fs_goto t_M_rain_19 dX12_rain_142 rfl)
set_option maxRecDepth 20000 in
theorem t_M_rain_21 {N B C : Nat × FT} : fw_S s_M_rain [(0, 2), (1, 0), (2, 0), (3, 0)] 145 (rtS (vE 3)) N B C := fs_ret (fe_iloadn 3 rfl dX12_rain_145) dX12_rain_146
set_option maxRecDepth 20000 in
theorem C_M_rain : fw_C LM yX12_rain cX12_rain 8 (some .int) 4 [2, 0, 0] (some 0) m_M_rain := fm_i (d := 4) (N := (0, [])) (B := (0, [])) (C := (0, [])) LM_ok (by decide +kernel) (show fw_S s_M_rain _ 0 b_M_rain _ _ _ from (fs_seq t_M_rain_0 (fs_seq t_M_rain_1 (fs_seq (fs_if t_M_rain_2 t_M_rain_3 (fs_skip rfl)) (fs_seq t_M_rain_4 (fs_seq t_M_rain_5 (fs_seq t_M_rain_6 (fs_seq (fs_seq t_M_rain_7 (fs_weak t_M_rain_20 rfl)) t_M_rain_21)))))))) (by decide)
/-! DyerBellsModel.lays (this 0 ) -/
abbrev s_M_lays : SI := (LM, RX12, cX12_lays, 6, 1, some 0)
set_option maxRecDepth 20000 in
theorem t_M_lays_0 {B C : Nat × FT} : fw_S s_M_lays [(0, 2), (1, 0), (2, 0), (3, 0), (4, 0)] 0 (stS 5 (o2 mulI (cE 4) (thE (cE 0) (gE 50)))) (8, [(0, 2), (1, 0), (2, 0), (3, 0), (4, 0), (5, 0)]) B C := fs_ist (fe_imul (fe_iconst dX12_lays_0) (fe_getI (fe_aloadn 0 rfl dX12_lays_1) fl_RX12_369 lm_0 rfl dX12_lays_2) dX12_lays_5) dX12_lays_6 (by decide) rfl
set_option maxRecDepth 20000 in
theorem t_M_lays_1 {B C : Nat × FT} : fw_S s_M_lays [(0, 2), (1, 0), (2, 0), (3, 0), (4, 0), (5, 0)] 8 (asS 1600 240 idI (thE (cE 0) (cE 0)) (vE 5) (vE 1)) (16, [(0, 2), (1, 0), (2, 0), (3, 0), (4, 0), (5, 0)]) B C := fs_iast (fe_getR (fe_aloadn 0 rfl dX12_lays_8) fl_RX12_88 lm_0 rfl dX12_lays_9) (fe_iload 5 rfl dX12_lays_12) (fe_iloadn 1 rfl dX12_lays_14) lm_25 dX12_lays_15 rfl
set_option maxRecDepth 20000 in
theorem t_M_lays_2 {B C : Nat × FT} : fw_S s_M_lays [(0, 2), (1, 0), (2, 0), (3, 0), (4, 0), (5, 0)] 16 (asS 1600 240 idI (thE (cE 0) (cE 0)) (o2 addI (vE 5) (cE 1)) (vE 2)) (26, [(0, 2), (1, 0), (2, 0), (3, 0), (4, 0), (5, 0)]) B C := fs_iast (fe_getR (fe_aloadn 0 rfl dX12_lays_16) fl_RX12_88 lm_0 rfl dX12_lays_17) (fe_iadd (fe_iload 5 rfl dX12_lays_20) (fe_iconst dX12_lays_22) dX12_lays_23) (fe_iloadn 2 rfl dX12_lays_24) lm_25 dX12_lays_25 rfl
set_option maxRecDepth 20000 in
theorem t_M_lays_3 {B C : Nat × FT} : fw_S s_M_lays [(0, 2), (1, 0), (2, 0), (3, 0), (4, 0), (5, 0)] 26 (asS 1600 240 idI (thE (cE 0) (cE 0)) (o2 addI (vE 5) (cE 2)) (vE 3)) (36, [(0, 2), (1, 0), (2, 0), (3, 0), (4, 0), (5, 0)]) B C := fs_iast (fe_getR (fe_aloadn 0 rfl dX12_lays_26) fl_RX12_88 lm_0 rfl dX12_lays_27) (fe_iadd (fe_iload 5 rfl dX12_lays_30) (fe_iconst dX12_lays_32) dX12_lays_33) (fe_iloadn 3 rfl dX12_lays_34) lm_25 dX12_lays_35 rfl
set_option maxRecDepth 20000 in
theorem t_M_lays_4 {B C : Nat × FT} : fw_S s_M_lays [(0, 2), (1, 0), (2, 0), (3, 0), (4, 0), (5, 0)] 36 (asS 1600 240 idI (thE (cE 0) (cE 0)) (o2 addI (vE 5) (cE 3)) (vE 4)) (47, [(0, 2), (1, 0), (2, 0), (3, 0), (4, 0), (5, 0)]) B C := fs_iast (fe_getR (fe_aloadn 0 rfl dX12_lays_36) fl_RX12_88 lm_0 rfl dX12_lays_37) (fe_iadd (fe_iload 5 rfl dX12_lays_40) (fe_iconst dX12_lays_42) dX12_lays_43) (fe_iload 4 rfl dX12_lays_44) lm_25 dX12_lays_46 rfl
set_option maxRecDepth 20000 in
theorem t_M_lays_5 {B C : Nat × FT} : fw_S s_M_lays [(0, 2), (1, 0), (2, 0), (3, 0), (4, 0), (5, 0)] 47 (poS 50 addI (cE 0) (cE 1)) (57, [(0, 2), (1, 0), (2, 0), (3, 0), (4, 0), (5, 0)]) B C := fs_po_add (fe_aloadn 0 rfl dX12_lays_47) dX12_lays_48 dX12_lays_49 (fe_iconst dX12_lays_52) dX12_lays_53 fp_RX12_369 lm_0 rfl dX12_lays_54 rfl
set_option maxRecDepth 20000 in
theorem t_M_lays_6 {N B C : Nat × FT} : fw_S s_M_lays [(0, 2), (1, 0), (2, 0), (3, 0), (4, 0), (5, 0)] 57 (rtS (o2 subI (thE (cE 0) (gE 50)) (cE 1))) N B C := fs_ret (fe_isub (fe_getI (fe_aloadn 0 rfl dX12_lays_57) fl_RX12_369 lm_0 rfl dX12_lays_58) (fe_iconst dX12_lays_61) dX12_lays_62) dX12_lays_63
set_option maxRecDepth 20000 in
theorem C_M_lays : fw_C LM yX12_lays cX12_lays 6 (some .int) 1 [2, 0, 0, 0, 0] (some 0) m_M_lays := fm_i (d := 1) (N := (0, [])) (B := (0, [])) (C := (0, [])) LM_ok (by decide +kernel) (show fw_S s_M_lays _ 0 b_M_lays _ _ _ from (fs_seq t_M_lays_0 (fs_seq t_M_lays_1 (fs_seq t_M_lays_2 (fs_seq t_M_lays_3 (fs_seq t_M_lays_4 (fs_seq t_M_lays_5 t_M_lays_6))))))) (by decide)
/-! DyerBellsModel.readNamed (this 0 ) -/
abbrev s_M_readNamed : SI := (LM, RX12, cX12_readNamed, 4, 4, some 0)
set_option maxRecDepth 20000 in
theorem t_M_readNamed_0 : fw_B s_M_readNamed [(0, 2), (1, 0), (2, 0)] 0 0 7 13 (nB (zB 1 (clE m_M_isName [(cE 0)]))) := (fb_not (fb_if_ne (fe_callV (fa_cons (fe_aloadn 0 rfl dX12_readNamed_0) fa_nil) C_M_isName lv_RX12_206 lm_0 rfl rfl (by decide) (by decide) (by decide) dX12_readNamed_1) dX12_readNamed_4 rfl))
set_option maxRecDepth 20000 in
theorem t_M_readNamed_1 {N B C : Nat × FT} : fw_S s_M_readNamed [(0, 2), (1, 0), (2, 0)] 7 (rtS (clE m_M_bad [(cE 0), (cE 1)])) N B C := fs_ret (fe_callV (fa_cons (fe_aloadn 0 rfl dX12_readNamed_7) (fa_cons (fe_iconst dX12_readNamed_8) fa_nil)) C_M_bad lv_RX12_159 lm_0 rfl rfl (by decide) (by decide) (by decide) dX12_readNamed_9) dX12_readNamed_12
set_option maxRecDepth 20000 in
theorem t_M_readNamed_2 {B C : Nat × FT} : fw_S s_M_readNamed [(0, 2), (1, 0), (2, 0)] 13 (stS 3 (clE m_M_findIn_2 [(cE 0), (thE (cE 0) (cE 0)), (vE 1), (vE 2)])) (24, [(0, 2), (1, 0), (2, 0), (3, 0)]) B C := fs_istn (fe_callV (fa_cons (fe_aloadn 0 rfl dX12_readNamed_13) (fa_cons (fe_getR (fe_aloadn 0 rfl dX12_readNamed_14) fl_RX12_25 lm_0 rfl dX12_readNamed_15) (fa_cons (fe_iloadn 1 rfl dX12_readNamed_18) (fa_cons (fe_iloadn 2 rfl dX12_readNamed_19) fa_nil)))) C_M_findIn_2 lv_RX12_202 lm_0 rfl rfl (by decide) (by decide) (by decide) dX12_readNamed_20) dX12_readNamed_23 (by decide) rfl
set_option maxRecDepth 20000 in
theorem t_M_readNamed_3 : fw_B s_M_readNamed [(0, 2), (1, 0), (2, 0), (3, 0)] 0 24 29 35 (nB (cB 1 (vE 3) (cE (-1)))) := (fb_not (fb_icmp_ne (fe_iloadn 3 rfl dX12_readNamed_24) (fe_iconst dX12_readNamed_25) dX12_readNamed_26 rfl))
set_option maxRecDepth 20000 in
theorem t_M_readNamed_4 {N B C : Nat × FT} : fw_S s_M_readNamed [(0, 2), (1, 0), (2, 0), (3, 0)] 29 (rtS (clE m_M_bad [(cE 0), (cE 3)])) N B C := fs_ret (fe_callV (fa_cons (fe_aloadn 0 rfl dX12_readNamed_29) (fa_cons (fe_iconst dX12_readNamed_30) fa_nil)) C_M_bad lv_RX12_159 lm_0 rfl rfl (by decide) (by decide) (by decide) dX12_readNamed_31) dX12_readNamed_34
set_option maxRecDepth 20000 in
theorem t_M_readNamed_5 {B C : Nat × FT} : fw_S s_M_readNamed [(0, 2), (1, 0), (2, 0), (3, 0)] 35 (pfS 13 (cE 0) (vE 3)) (40, [(0, 2), (1, 0), (2, 0), (3, 0)]) B C := fs_put (fe_aloadn 0 rfl dX12_readNamed_35) (fe_iloadn 3 rfl dX12_readNamed_36) fp_RX12_166 lm_0 rfl dX12_readNamed_37 rfl
set_option maxRecDepth 20000 in
theorem t_M_readNamed_6 {B C : Nat × FT} : fw_S s_M_readNamed [(0, 2), (1, 0), (2, 0), (3, 0)] 40 (exS (clE m_M_go [(cE 0)])) (44, [(0, 2), (1, 0), (2, 0), (3, 0)]) B C := fs_callV (t := 0) (fa_cons (fe_aloadn 0 rfl dX12_readNamed_40) fa_nil) C_M_go lv_RX12_169 lm_0 rfl rfl (by decide) (by decide) dX12_readNamed_41 rfl
set_option maxRecDepth 20000 in
theorem t_M_readNamed_7 {N B C : Nat × FT} : fw_S s_M_readNamed [(0, 2), (1, 0), (2, 0), (3, 0)] 44 (rtS (cE 1)) N B C := fs_ret (fe_iconst dX12_readNamed_44) dX12_readNamed_45
set_option maxRecDepth 20000 in
theorem C_M_readNamed : fw_C LM yX12_readNamed cX12_readNamed 4 (some .boolean) 4 [2, 0, 0] (some 0) m_M_readNamed := fm_z (d := 4) (N := (0, [])) (B := (0, [])) (C := (0, [])) LM_ok (by decide +kernel) (show fw_S s_M_readNamed _ 0 b_M_readNamed _ _ _ from (fs_seq (fs_if t_M_readNamed_0 t_M_readNamed_1 (fs_skip rfl)) (fs_seq t_M_readNamed_2 (fs_seq (fs_if t_M_readNamed_3 t_M_readNamed_4 (fs_skip rfl)) (fs_seq t_M_readNamed_5 (fs_seq t_M_readNamed_6 t_M_readNamed_7)))))) (by decide)
/-! DyerBellsModel.readOf (this 0 ) -/
abbrev s_M_readOf : SI := (LM, RX12, cX12_readOf, 2, 5, some 0)
set_option maxRecDepth 20000 in
theorem t_M_readOf_0 : fw_B s_M_readOf [(0, 2), (1, 0)] 0 0 35 37 (nB (tkB (nB (cB 1 (vE 1) (cE 11))) (nB (zB 0 (clE m_M_readNamed [(cE 0), (cE 14), (clE m_M_guilds [(cE 0)])]))) (zB 1 (clE m_M_readNamed [(cE 0), (cE 20), (clE m_M_users [(cE 0)])])))) := (fb_not (fb_tern (fb_not (fb_icmp_ne (fe_iloadn 1 rfl dX12_readOf_0) (fe_bipush dX12_readOf_1) dX12_readOf_3 rfl)) (fb_not (fb_if_eq (fe_callV (fa_cons (fe_aloadn 0 rfl dX12_readOf_6) (fa_cons (fe_bipush dX12_readOf_7) (fa_cons (fe_callV (fa_cons (fe_aloadn 0 rfl dX12_readOf_9) fa_nil) C_M_guilds lv_RX12_196 lm_0 rfl rfl (by decide) (by decide) (by decide) dX12_readOf_10) fa_nil))) C_M_readNamed lv_RX12_406 lm_0 rfl rfl (by decide) (by decide) (by decide) dX12_readOf_13) dX12_readOf_16 rfl)) dX12_readOf_19 rfl (fb_if_ne (fe_callV (fa_cons (fe_aloadn 0 rfl dX12_readOf_22) (fa_cons (fe_bipush dX12_readOf_23) (fa_cons (fe_callV (fa_cons (fe_aloadn 0 rfl dX12_readOf_25) fa_nil) C_M_users lv_RX12_199 lm_0 rfl rfl (by decide) (by decide) (by decide) dX12_readOf_26) fa_nil))) C_M_readNamed lv_RX12_406 lm_0 rfl rfl (by decide) (by decide) (by decide) dX12_readOf_29) dX12_readOf_32 rfl)))
set_option maxRecDepth 20000 in
theorem t_M_readOf_1 {N B C : Nat × FT} : fw_S s_M_readOf [(0, 2), (1, 0)] 35 (rtS (cE 0)) N B C := fs_ret (fe_iconst dX12_readOf_35) dX12_readOf_36
set_option maxRecDepth 20000 in
theorem t_M_readOf_2 {B C : Nat × FT} : fw_S s_M_readOf [(0, 2), (1, 0)] 37 (pfS 53 (cE 0) (clE m_M_lays [(cE 0), (kE (nB (cB 1 (vE 1) (cE 11))) (cE 4) (cE 5)), (thE (cE 0) (gE 13)), (cE 0), (cE 0)])) (62, [(0, 2), (1, 0)]) B C := fs_put (fe_aloadn 0 rfl dX12_readOf_37) (fe_callV (fa_cons (fe_aloadn 0 rfl dX12_readOf_38) (fa_cons (fe_ternG (fb_not (fb_icmp_ne (fe_iloadn 1 rfl dX12_readOf_39) (fe_bipush dX12_readOf_40) dX12_readOf_42 rfl)) (fe_gt (fe_iconst dX12_readOf_45) dX12_readOf_46 rfl) (fe_iconst dX12_readOf_49)) (fa_cons (fe_getI (fe_aloadn 0 rfl dX12_readOf_50) fl_RX12_166 lm_0 rfl dX12_readOf_51) (fa_cons (fe_iconst dX12_readOf_54) (fa_cons (fe_iconst dX12_readOf_55) fa_nil))))) C_M_lays lv_RX12_378 lm_0 rfl rfl (by decide) (by decide) (by decide) dX12_readOf_56) fp_RX12_375 lm_0 rfl dX12_readOf_59 rfl
set_option maxRecDepth 20000 in
theorem t_M_readOf_3 {N B C : Nat × FT} : fw_S s_M_readOf [(0, 2), (1, 0)] 62 (rtS (cE 1)) N B C := fs_ret (fe_iconst dX12_readOf_62) dX12_readOf_63
set_option maxRecDepth 20000 in
theorem C_M_readOf : fw_C LM yX12_readOf cX12_readOf 2 (some .boolean) 5 [2, 0] (some 0) m_M_readOf := fm_z (d := 5) (N := (0, [])) (B := (0, [])) (C := (0, [])) LM_ok (by decide +kernel) (show fw_S s_M_readOf _ 0 b_M_readOf _ _ _ from (fs_seq (fs_if t_M_readOf_0 t_M_readOf_1 (fs_skip rfl)) (fs_seq t_M_readOf_2 t_M_readOf_3))) (by decide)
/-! DyerBellsModel.readCompare (this 0 ) -/
abbrev s_M_readCompare : SI := (LM, RX12, cX12_readCompare, 4, 5, some 0)
set_option maxRecDepth 20000 in
theorem t_M_readCompare_0 {B C : Nat × FT} : fw_S s_M_readCompare [(0, 2), (1, 0)] 0 (stS 2 (cE 0)) (2, [(0, 2), (1, 0), (2, 0)]) B C := fs_istn (fe_iconst dX12_readCompare_0) dX12_readCompare_1 (by decide) rfl
set_option maxRecDepth 20000 in
theorem t_M_readCompare_1 : fw_B s_M_readCompare [(0, 2), (1, 0), (2, 0)] 0 2 8 51 (nB (cB 1 (vE 1) (cE 13))) := (fb_not (fb_icmp_ne (fe_iloadn 1 rfl dX12_readCompare_2) (fe_bipush dX12_readCompare_3) dX12_readCompare_5 rfl))
set_option maxRecDepth 20000 in
theorem t_M_readCompare_2 : fw_B s_M_readCompare [(0, 2), (1, 0), (2, 0)] 0 8 21 23 (nB (zB 1 (clE m_M_readNamed [(cE 0), (cE 10), (clE m_M_colours [(cE 0)])]))) := (fb_not (fb_if_ne (fe_callV (fa_cons (fe_aloadn 0 rfl dX12_readCompare_8) (fa_cons (fe_bipush dX12_readCompare_9) (fa_cons (fe_callV (fa_cons (fe_aloadn 0 rfl dX12_readCompare_11) fa_nil) C_M_colours lv_RX12_193 lm_0 rfl rfl (by decide) (by decide) (by decide) dX12_readCompare_12) fa_nil))) C_M_readNamed lv_RX12_406 lm_0 rfl rfl (by decide) (by decide) (by decide) dX12_readCompare_15) dX12_readCompare_18 rfl))
set_option maxRecDepth 20000 in
theorem t_M_readCompare_3 {N B C : Nat × FT} : fw_S s_M_readCompare [(0, 2), (1, 0), (2, 0)] 21 (rtS (cE 0)) N B C := fs_ret (fe_iconst dX12_readCompare_21) dX12_readCompare_22
set_option maxRecDepth 20000 in
theorem t_M_readCompare_4 {B C : Nat × FT} : fw_S s_M_readCompare [(0, 2), (1, 0), (2, 0)] 23 (stS 2 (thE (cE 0) (gE 13))) (28, [(0, 2), (1, 0), (2, 0)]) B C := fs_istn (fe_getI (fe_aloadn 0 rfl dX12_readCompare_23) fl_RX12_166 lm_0 rfl dX12_readCompare_24) dX12_readCompare_27 (by decide) rfl
set_option maxRecDepth 20000 in
theorem t_M_readCompare_5 : fw_B s_M_readCompare [(0, 2), (1, 0), (2, 0)] 0 28 40 42 (nB (zB 1 (clE m_M_readNamed [(cE 0), (cE 0), (clE m_M_reaches [(cE 0)])]))) := (fb_not (fb_if_ne (fe_callV (fa_cons (fe_aloadn 0 rfl dX12_readCompare_28) (fa_cons (fe_iconst dX12_readCompare_29) (fa_cons (fe_callV (fa_cons (fe_aloadn 0 rfl dX12_readCompare_30) fa_nil) C_M_reaches lv_RX12_190 lm_0 rfl rfl (by decide) (by decide) (by decide) dX12_readCompare_31) fa_nil))) C_M_readNamed lv_RX12_406 lm_0 rfl rfl (by decide) (by decide) (by decide) dX12_readCompare_34) dX12_readCompare_37 rfl))
set_option maxRecDepth 20000 in
theorem t_M_readCompare_6 {N B C : Nat × FT} : fw_S s_M_readCompare [(0, 2), (1, 0), (2, 0)] 40 (rtS (cE 0)) N B C := fs_ret (fe_iconst dX12_readCompare_40) dX12_readCompare_41
set_option maxRecDepth 20000 in
theorem t_M_readCompare_7 {B C : Nat × FT} : fw_S s_M_readCompare [(0, 2), (1, 0), (2, 0)] 42 (stS 2 (o2 addI (vE 2) (o2 mulI (cE 4) (thE (cE 0) (gE 13))))) (51, [(0, 2), (1, 0), (2, 0)]) B C := fs_istn (fe_iadd (fe_iloadn 2 rfl dX12_readCompare_42) (fe_imul (fe_iconst dX12_readCompare_43) (fe_getI (fe_aloadn 0 rfl dX12_readCompare_44) fl_RX12_166 lm_0 rfl dX12_readCompare_45) dX12_readCompare_48) dX12_readCompare_49) dX12_readCompare_50 (by decide) rfl
set_option maxRecDepth 20000 in
theorem t_M_readCompare_8 : fw_B s_M_readCompare [(0, 2), (1, 0), (2, 0)] 0 51 78 84 (andB (andB (nB (zB 1 (clE m_M_isSign [(cE 0), (cE 60)]))) (nB (zB 1 (clE m_M_isSign [(cE 0), (cE 61)])))) (nB (zB 1 (clE m_M_isSign [(cE 0), (cE 62)])))) := (fb_and (fb_and (fb_not (fb_if_ne (fe_callV (fa_cons (fe_aloadn 0 rfl dX12_readCompare_51) (fa_cons (fe_bipush dX12_readCompare_52) fa_nil)) C_M_isSign lv_RX12_172 lm_0 rfl rfl (by decide) (by decide) (by decide) dX12_readCompare_54) dX12_readCompare_57 rfl)) (fb_not (fb_if_ne (fe_callV (fa_cons (fe_aloadn 0 rfl dX12_readCompare_60) (fa_cons (fe_bipush dX12_readCompare_61) fa_nil)) C_M_isSign lv_RX12_172 lm_0 rfl rfl (by decide) (by decide) (by decide) dX12_readCompare_63) dX12_readCompare_66 rfl))) (fb_not (fb_if_ne (fe_callV (fa_cons (fe_aloadn 0 rfl dX12_readCompare_69) (fa_cons (fe_bipush dX12_readCompare_70) fa_nil)) C_M_isSign lv_RX12_172 lm_0 rfl rfl (by decide) (by decide) (by decide) dX12_readCompare_72) dX12_readCompare_75 rfl)))
set_option maxRecDepth 20000 in
theorem t_M_readCompare_9 {N B C : Nat × FT} : fw_S s_M_readCompare [(0, 2), (1, 0), (2, 0)] 78 (rtS (clE m_M_bad [(cE 0), (cE 1)])) N B C := fs_ret (fe_callV (fa_cons (fe_aloadn 0 rfl dX12_readCompare_78) (fa_cons (fe_iconst dX12_readCompare_79) fa_nil)) C_M_bad lv_RX12_159 lm_0 rfl rfl (by decide) (by decide) (by decide) dX12_readCompare_80) dX12_readCompare_83
set_option maxRecDepth 20000 in
theorem t_M_readCompare_10 {B C : Nat × FT} : fw_S s_M_readCompare [(0, 2), (1, 0), (2, 0)] 84 (stS 3 (thE (cE 0) (gE 9))) (89, [(0, 2), (1, 0), (2, 0), (3, 0)]) B C := fs_istn (fe_getI (fe_aloadn 0 rfl dX12_readCompare_84) fl_RX12_123 lm_0 rfl dX12_readCompare_85) dX12_readCompare_88 (by decide) rfl
set_option maxRecDepth 20000 in
theorem t_M_readCompare_11 {B C : Nat × FT} : fw_S s_M_readCompare [(0, 2), (1, 0), (2, 0), (3, 0)] 89 (exS (clE m_M_go [(cE 0)])) (93, [(0, 2), (1, 0), (2, 0), (3, 0)]) B C := fs_callV (t := 0) (fa_cons (fe_aloadn 0 rfl dX12_readCompare_89) fa_nil) C_M_go lv_RX12_169 lm_0 rfl rfl (by decide) (by decide) dX12_readCompare_90 rfl
set_option maxRecDepth 20000 in
theorem t_M_readCompare_12 : fw_B s_M_readCompare [(0, 2), (1, 0), (2, 0), (3, 0)] 0 93 104 106 (nB (zB 1 (clE m_M_readNumber [(cE 0), (cE 0), (cE 9999)]))) := (fb_not (fb_if_ne (fe_callV (fa_cons (fe_aloadn 0 rfl dX12_readCompare_93) (fa_cons (fe_iconst dX12_readCompare_94) (fa_cons (fe_sipush dX12_readCompare_95) fa_nil))) C_M_readNumber lv_RX12_216 lm_0 rfl rfl (by decide) (by decide) (by decide) dX12_readCompare_98) dX12_readCompare_101 rfl))
set_option maxRecDepth 20000 in
theorem t_M_readCompare_13 {N B C : Nat × FT} : fw_S s_M_readCompare [(0, 2), (1, 0), (2, 0), (3, 0)] 104 (rtS (cE 0)) N B C := fs_ret (fe_iconst dX12_readCompare_104) dX12_readCompare_105
set_option maxRecDepth 20000 in
theorem t_M_readCompare_14 {B C : Nat × FT} : fw_S s_M_readCompare [(0, 2), (1, 0), (2, 0), (3, 0)] 106 (pfS 53 (cE 0) (clE m_M_lays [(cE 0), (kE (nB (cB 1 (vE 1) (cE 13))) (cE 6) (o2 addI (cE 50) (vE 1))), (vE 2), (thE (cE 0) (gE 13)), (vE 3)])) (135, [(0, 2), (1, 0), (2, 0), (3, 0)]) B C := fs_put (fe_aloadn 0 rfl dX12_readCompare_106) (fe_callV (fa_cons (fe_aloadn 0 rfl dX12_readCompare_107) (fa_cons (fe_ternG (fb_not (fb_icmp_ne (fe_iloadn 1 rfl dX12_readCompare_108) (fe_bipush dX12_readCompare_109) dX12_readCompare_111 rfl)) (fe_gt (fe_bipush dX12_readCompare_114) dX12_readCompare_116 rfl) (fe_iadd (fe_bipush dX12_readCompare_119) (fe_iloadn 1 rfl dX12_readCompare_121) dX12_readCompare_122)) (fa_cons (fe_iloadn 2 rfl dX12_readCompare_123) (fa_cons (fe_getI (fe_aloadn 0 rfl dX12_readCompare_124) fl_RX12_166 lm_0 rfl dX12_readCompare_125) (fa_cons (fe_iloadn 3 rfl dX12_readCompare_128) fa_nil))))) C_M_lays lv_RX12_378 lm_0 rfl rfl (by decide) (by decide) (by decide) dX12_readCompare_129) fp_RX12_375 lm_0 rfl dX12_readCompare_132 rfl
set_option maxRecDepth 20000 in
theorem t_M_readCompare_15 {N B C : Nat × FT} : fw_S s_M_readCompare [(0, 2), (1, 0), (2, 0), (3, 0)] 135 (rtS (cE 1)) N B C := fs_ret (fe_iconst dX12_readCompare_135) dX12_readCompare_136
set_option maxRecDepth 20000 in
theorem C_M_readCompare : fw_C LM yX12_readCompare cX12_readCompare 4 (some .boolean) 5 [2, 0] (some 0) m_M_readCompare := fm_z (d := 5) (N := (0, [])) (B := (0, [])) (C := (0, [])) LM_ok (by decide +kernel) (show fw_S s_M_readCompare _ 0 b_M_readCompare _ _ _ from (fs_seq t_M_readCompare_0 (fs_seq (fs_if t_M_readCompare_1 (fs_seq (fs_if t_M_readCompare_2 t_M_readCompare_3 (fs_skip rfl)) (fs_seq t_M_readCompare_4 (fs_seq (fs_if t_M_readCompare_5 t_M_readCompare_6 (fs_skip rfl)) t_M_readCompare_7))) (fs_skip rfl)) (fs_seq (fs_if t_M_readCompare_8 t_M_readCompare_9 (fs_skip rfl)) (fs_seq t_M_readCompare_10 (fs_seq t_M_readCompare_11 (fs_seq (fs_if t_M_readCompare_12 t_M_readCompare_13 (fs_skip rfl)) (fs_seq t_M_readCompare_14 t_M_readCompare_15)))))))) (by decide)
/-! a group: M_readOr, M_readAnd, M_readOne, M_readNot, M_readBracket -/
abbrev s_M_readOr (n : Nat) : SI := (LM, RX12, cX12_readOr, 2, 6 + n + 1, some 0)
abbrev s_M_readAnd (n : Nat) : SI := (LM, RX12, cX12_readAnd, 2, 6 + n + 1, some 0)
abbrev s_M_readOne (n : Nat) : SI := (LM, RX12, cX12_readOne, 4, 6 + n + 1, some 0)
abbrev s_M_readNot (n : Nat) : SI := (LM, RX12, cX12_readNot, 1, 6 + n + 1, some 0)
abbrev s_M_readBracket (n : Nat) : SI := (LM, RX12, cX12_readBracket, 1, 6 + n + 1, some 0)
def H_M_readOr (n : Nat) (F : FM × FM × FM × FM × FM) : Prop := fw_C LM yX12_readOr cX12_readOr 2 (some .boolean) (6 + n) [2] (some 0) F.1 ∧ fw_C LM yX12_readAnd cX12_readAnd 2 (some .boolean) (6 + n) [2] (some 0) F.2.1 ∧ fw_C LM yX12_readOne cX12_readOne 4 (some .boolean) (6 + n) [2] (some 0) F.2.2.1 ∧ fw_C LM yX12_readNot cX12_readNot 1 (some .boolean) (6 + n) [2] (some 0) F.2.2.2.1 ∧ fw_C LM yX12_readBracket cX12_readBracket 1 (some .boolean) (6 + n) [2] (some 0) F.2.2.2.2
set_option maxRecDepth 20000 in
theorem t_M_readOr_0 {n : Nat} {F : FM × FM × FM × FM × FM} (hC : H_M_readOr n F) : fw_B (s_M_readOr n) [(0, 2)] 0 0 7 9 (nB (zB 1 (clE F.2.1 [(cE 0)]))) := (fb_not (fb_if_ne (fe_callV (fa_cons (fe_aloadn 0 rfl dX12_readOr_0) fa_nil) (hC.2.1) lv_RX12_372 lm_0 rfl rfl (Nat.le_refl _) (by decide) (by decide) dX12_readOr_1) dX12_readOr_4 rfl))
set_option maxRecDepth 20000 in
theorem t_M_readOr_1 {n : Nat} {F : FM × FM × FM × FM × FM} (hC : H_M_readOr n F) {N B C : Nat × FT} : fw_S (s_M_readOr n) [(0, 2)] 7 (rtS (cE 0)) N B C := fs_ret (fe_iconst dX12_readOr_7) dX12_readOr_8
set_option maxRecDepth 20000 in
theorem t_M_readOr_2 {n : Nat} {F : FM × FM × FM × FM × FM} (hC : H_M_readOr n F) {B C : Nat × FT} : fw_S (s_M_readOr n) [(0, 2)] 9 (stS 1 (thE (cE 0) (gE 53))) (14, [(0, 2), (1, 0)]) B C := fs_istn (fe_getI (fe_aloadn 0 rfl dX12_readOr_9) fl_RX12_375 lm_0 rfl dX12_readOr_10) dX12_readOr_13 (by decide) rfl
set_option maxRecDepth 20000 in
theorem t_M_readOr_3 {n : Nat} {F : FM × FM × FM × FM × FM} (hC : H_M_readOr n F) : fw_B (s_M_readOr n) [(0, 2), (1, 0)] 0 14 23 51 (nB (zB 0 (clE m_M_isWord [(cE 0), (cE 8)]))) := (fb_not (fb_if_eq (fe_callV (fa_cons (fe_aloadn 0 rfl dX12_readOr_14) (fa_cons (fe_bipush dX12_readOr_15) fa_nil)) C_M_isWord lv_RX12_235 lm_0 rfl rfl (by omega) (by decide) (by decide) dX12_readOr_17) dX12_readOr_20 rfl))
set_option maxRecDepth 20000 in
theorem t_M_readOr_4 {n : Nat} {F : FM × FM × FM × FM × FM} (hC : H_M_readOr n F) {B C : Nat × FT} : fw_S (s_M_readOr n) [(0, 2), (1, 0)] 23 (exS (clE m_M_go [(cE 0)])) (27, [(0, 2), (1, 0)]) B C := fs_callV (t := 0) (fa_cons (fe_aloadn 0 rfl dX12_readOr_23) fa_nil) C_M_go lv_RX12_169 lm_0 rfl rfl (by omega) (by decide) dX12_readOr_24 rfl
set_option maxRecDepth 20000 in
theorem t_M_readOr_5 {n : Nat} {F : FM × FM × FM × FM × FM} (hC : H_M_readOr n F) : fw_B (s_M_readOr n) [(0, 2), (1, 0)] 0 27 34 36 (nB (zB 1 (clE F.2.1 [(cE 0)]))) := (fb_not (fb_if_ne (fe_callV (fa_cons (fe_aloadn 0 rfl dX12_readOr_27) fa_nil) (hC.2.1) lv_RX12_372 lm_0 rfl rfl (Nat.le_refl _) (by decide) (by decide) dX12_readOr_28) dX12_readOr_31 rfl))
set_option maxRecDepth 20000 in
theorem t_M_readOr_6 {n : Nat} {F : FM × FM × FM × FM × FM} (hC : H_M_readOr n F) {N B C : Nat × FT} : fw_S (s_M_readOr n) [(0, 2), (1, 0)] 34 (rtS (cE 0)) N B C := fs_ret (fe_iconst dX12_readOr_34) dX12_readOr_35
set_option maxRecDepth 20000 in
theorem t_M_readOr_7 {n : Nat} {F : FM × FM × FM × FM × FM} (hC : H_M_readOr n F) {B C : Nat × FT} : fw_S (s_M_readOr n) [(0, 2), (1, 0)] 36 (stS 1 (clE m_M_lays [(cE 0), (cE 3), (vE 1), (thE (cE 0) (gE 53)), (cE 0)])) (48, [(0, 2), (1, 0)]) B C := fs_istn (fe_callV (fa_cons (fe_aloadn 0 rfl dX12_readOr_36) (fa_cons (fe_iconst dX12_readOr_37) (fa_cons (fe_iloadn 1 rfl dX12_readOr_38) (fa_cons (fe_getI (fe_aloadn 0 rfl dX12_readOr_39) fl_RX12_375 lm_0 rfl dX12_readOr_40) (fa_cons (fe_iconst dX12_readOr_43) fa_nil))))) C_M_lays lv_RX12_378 lm_0 rfl rfl (by omega) (by decide) (by decide) dX12_readOr_44) dX12_readOr_47 (by decide) rfl
set_option maxRecDepth 20000 in
theorem t_M_readOr_8 {n : Nat} {F : FM × FM × FM × FM × FM} (hC : H_M_readOr n F) {B C : Nat × FT} : fw_S (s_M_readOr n) [(0, 2), (1, 0)] 14 (whS (nB (zB 0 (clE m_M_isWord [(cE 0), (cE 8)]))) (sq (exS (clE m_M_go [(cE 0)])) (sq (ifS (nB (zB 1 (clE F.2.1 [(cE 0)]))) (rtS (cE 0)) skS) (stS 1 (clE m_M_lays [(cE 0), (cE 3), (vE 1), (thE (cE 0) (gE 53)), (cE 0)])))) skS FU) (51, [(0, 2), (1, 0)]) B C := fs_while (t_M_readOr_3 hC) (fs_goto (fs_seq (t_M_readOr_4 hC) (fs_seq (fs_if (t_M_readOr_5 hC) (t_M_readOr_6 hC) (fs_skip rfl)) (t_M_readOr_7 hC))) dX12_readOr_48 rfl) (fs_skip rfl)
set_option maxRecDepth 20000 in
theorem t_M_readOr_9 {n : Nat} {F : FM × FM × FM × FM × FM} (hC : H_M_readOr n F) {B C : Nat × FT} : fw_S (s_M_readOr n) [(0, 2), (1, 0)] 51 (pfS 53 (cE 0) (vE 1)) (56, [(0, 2), (1, 0)]) B C := fs_put (fe_aloadn 0 rfl dX12_readOr_51) (fe_iloadn 1 rfl dX12_readOr_52) fp_RX12_375 lm_0 rfl dX12_readOr_53 rfl
set_option maxRecDepth 20000 in
theorem t_M_readOr_10 {n : Nat} {F : FM × FM × FM × FM × FM} (hC : H_M_readOr n F) {N B C : Nat × FT} : fw_S (s_M_readOr n) [(0, 2), (1, 0)] 56 (rtS (cE 1)) N B C := fs_ret (fe_iconst dX12_readOr_56) dX12_readOr_57
set_option maxRecDepth 20000 in
theorem t_M_readAnd_0 {n : Nat} {F : FM × FM × FM × FM × FM} (hC : H_M_readOr n F) : fw_B (s_M_readAnd n) [(0, 2)] 0 0 7 9 (nB (zB 1 (clE F.2.2.1 [(cE 0)]))) := (fb_not (fb_if_ne (fe_callV (fa_cons (fe_aloadn 0 rfl dX12_readAnd_0) fa_nil) (hC.2.2.1) lv_RX12_382 lm_0 rfl rfl (Nat.le_refl _) (by decide) (by decide) dX12_readAnd_1) dX12_readAnd_4 rfl))
set_option maxRecDepth 20000 in
theorem t_M_readAnd_1 {n : Nat} {F : FM × FM × FM × FM × FM} (hC : H_M_readOr n F) {N B C : Nat × FT} : fw_S (s_M_readAnd n) [(0, 2)] 7 (rtS (cE 0)) N B C := fs_ret (fe_iconst dX12_readAnd_7) dX12_readAnd_8
set_option maxRecDepth 20000 in
theorem t_M_readAnd_2 {n : Nat} {F : FM × FM × FM × FM × FM} (hC : H_M_readOr n F) {B C : Nat × FT} : fw_S (s_M_readAnd n) [(0, 2)] 9 (stS 1 (thE (cE 0) (gE 53))) (14, [(0, 2), (1, 0)]) B C := fs_istn (fe_getI (fe_aloadn 0 rfl dX12_readAnd_9) fl_RX12_375 lm_0 rfl dX12_readAnd_10) dX12_readAnd_13 (by decide) rfl
set_option maxRecDepth 20000 in
theorem t_M_readAnd_3 {n : Nat} {F : FM × FM × FM × FM × FM} (hC : H_M_readOr n F) : fw_B (s_M_readAnd n) [(0, 2), (1, 0)] 0 14 23 51 (nB (zB 0 (clE m_M_isWord [(cE 0), (cE 9)]))) := (fb_not (fb_if_eq (fe_callV (fa_cons (fe_aloadn 0 rfl dX12_readAnd_14) (fa_cons (fe_bipush dX12_readAnd_15) fa_nil)) C_M_isWord lv_RX12_235 lm_0 rfl rfl (by omega) (by decide) (by decide) dX12_readAnd_17) dX12_readAnd_20 rfl))
set_option maxRecDepth 20000 in
theorem t_M_readAnd_4 {n : Nat} {F : FM × FM × FM × FM × FM} (hC : H_M_readOr n F) {B C : Nat × FT} : fw_S (s_M_readAnd n) [(0, 2), (1, 0)] 23 (exS (clE m_M_go [(cE 0)])) (27, [(0, 2), (1, 0)]) B C := fs_callV (t := 0) (fa_cons (fe_aloadn 0 rfl dX12_readAnd_23) fa_nil) C_M_go lv_RX12_169 lm_0 rfl rfl (by omega) (by decide) dX12_readAnd_24 rfl
set_option maxRecDepth 20000 in
theorem t_M_readAnd_5 {n : Nat} {F : FM × FM × FM × FM × FM} (hC : H_M_readOr n F) : fw_B (s_M_readAnd n) [(0, 2), (1, 0)] 0 27 34 36 (nB (zB 1 (clE F.2.2.1 [(cE 0)]))) := (fb_not (fb_if_ne (fe_callV (fa_cons (fe_aloadn 0 rfl dX12_readAnd_27) fa_nil) (hC.2.2.1) lv_RX12_382 lm_0 rfl rfl (Nat.le_refl _) (by decide) (by decide) dX12_readAnd_28) dX12_readAnd_31 rfl))
set_option maxRecDepth 20000 in
theorem t_M_readAnd_6 {n : Nat} {F : FM × FM × FM × FM × FM} (hC : H_M_readOr n F) {N B C : Nat × FT} : fw_S (s_M_readAnd n) [(0, 2), (1, 0)] 34 (rtS (cE 0)) N B C := fs_ret (fe_iconst dX12_readAnd_34) dX12_readAnd_35
set_option maxRecDepth 20000 in
theorem t_M_readAnd_7 {n : Nat} {F : FM × FM × FM × FM × FM} (hC : H_M_readOr n F) {B C : Nat × FT} : fw_S (s_M_readAnd n) [(0, 2), (1, 0)] 36 (stS 1 (clE m_M_lays [(cE 0), (cE 2), (vE 1), (thE (cE 0) (gE 53)), (cE 0)])) (48, [(0, 2), (1, 0)]) B C := fs_istn (fe_callV (fa_cons (fe_aloadn 0 rfl dX12_readAnd_36) (fa_cons (fe_iconst dX12_readAnd_37) (fa_cons (fe_iloadn 1 rfl dX12_readAnd_38) (fa_cons (fe_getI (fe_aloadn 0 rfl dX12_readAnd_39) fl_RX12_375 lm_0 rfl dX12_readAnd_40) (fa_cons (fe_iconst dX12_readAnd_43) fa_nil))))) C_M_lays lv_RX12_378 lm_0 rfl rfl (by omega) (by decide) (by decide) dX12_readAnd_44) dX12_readAnd_47 (by decide) rfl
set_option maxRecDepth 20000 in
theorem t_M_readAnd_8 {n : Nat} {F : FM × FM × FM × FM × FM} (hC : H_M_readOr n F) {B C : Nat × FT} : fw_S (s_M_readAnd n) [(0, 2), (1, 0)] 14 (whS (nB (zB 0 (clE m_M_isWord [(cE 0), (cE 9)]))) (sq (exS (clE m_M_go [(cE 0)])) (sq (ifS (nB (zB 1 (clE F.2.2.1 [(cE 0)]))) (rtS (cE 0)) skS) (stS 1 (clE m_M_lays [(cE 0), (cE 2), (vE 1), (thE (cE 0) (gE 53)), (cE 0)])))) skS FU) (51, [(0, 2), (1, 0)]) B C := fs_while (t_M_readAnd_3 hC) (fs_goto (fs_seq (t_M_readAnd_4 hC) (fs_seq (fs_if (t_M_readAnd_5 hC) (t_M_readAnd_6 hC) (fs_skip rfl)) (t_M_readAnd_7 hC))) dX12_readAnd_48 rfl) (fs_skip rfl)
set_option maxRecDepth 20000 in
theorem t_M_readAnd_9 {n : Nat} {F : FM × FM × FM × FM × FM} (hC : H_M_readOr n F) {B C : Nat × FT} : fw_S (s_M_readAnd n) [(0, 2), (1, 0)] 51 (pfS 53 (cE 0) (vE 1)) (56, [(0, 2), (1, 0)]) B C := fs_put (fe_aloadn 0 rfl dX12_readAnd_51) (fe_iloadn 1 rfl dX12_readAnd_52) fp_RX12_375 lm_0 rfl dX12_readAnd_53 rfl
set_option maxRecDepth 20000 in
theorem t_M_readAnd_10 {n : Nat} {F : FM × FM × FM × FM × FM} (hC : H_M_readOr n F) {N B C : Nat × FT} : fw_S (s_M_readAnd n) [(0, 2), (1, 0)] 56 (rtS (cE 1)) N B C := fs_ret (fe_iconst dX12_readAnd_56) dX12_readAnd_57
set_option maxRecDepth 20000 in
theorem t_M_readOne_0 {n : Nat} {F : FM × FM × FM × FM × FM} (hC : H_M_readOr n F) {B C : Nat × FT} : fw_S (s_M_readOne n) [(0, 2)] 0 (stS 1 (clE m_M_isSign [(cE 0), (cE 40)])) (7, [(0, 2), (1, 0)]) B C := fs_istn (fe_callV (fa_cons (fe_aloadn 0 rfl dX12_readOne_0) (fa_cons (fe_bipush dX12_readOne_1) fa_nil)) C_M_isSign lv_RX12_172 lm_0 rfl rfl (by omega) (by decide) (by decide) dX12_readOne_3) dX12_readOne_6 (by decide) rfl
set_option maxRecDepth 20000 in
theorem t_M_readOne_1 {n : Nat} {F : FM × FM × FM × FM × FM} (hC : H_M_readOr n F) {B C : Nat × FT} : fw_S (s_M_readOne n) [(0, 2), (1, 0)] 7 (stS 2 (cE 10)) (10, [(0, 2), (1, 0), (2, 0)]) B C := fs_istn (fe_bipush dX12_readOne_7) dX12_readOne_9 (by decide) rfl
set_option maxRecDepth 20000 in
theorem t_M_readOne_2 {n : Nat} {F : FM × FM × FM × FM × FM} (hC : H_M_readOr n F) : fw_B (s_M_readOne n) [(0, 2), (1, 0), (2, 0)] 0 10 24 30 (andB (nB (cB 4 (vE 2) (cE 16))) (nB (zB 1 (clE m_M_isWord [(cE 0), (vE 2)])))) := (fb_and (fb_not (fb_icmp_gt (fe_iloadn 2 rfl dX12_readOne_10) (fe_bipush dX12_readOne_11) dX12_readOne_13 rfl)) (fb_not (fb_if_ne (fe_callV (fa_cons (fe_aloadn 0 rfl dX12_readOne_16) (fa_cons (fe_iloadn 2 rfl dX12_readOne_17) fa_nil)) C_M_isWord lv_RX12_235 lm_0 rfl rfl (by omega) (by decide) (by decide) dX12_readOne_18) dX12_readOne_21 rfl)))
set_option maxRecDepth 20000 in
theorem t_M_readOne_3 {n : Nat} {F : FM × FM × FM × FM × FM} (hC : H_M_readOr n F) {B C : Nat × FT} : fw_S (s_M_readOne n) [(0, 2), (1, 0), (2, 0)] 24 (inS 2 1) (27, [(0, 2), (1, 0), (2, 0)]) B C := fs_inc (j := 2) rfl dX12_readOne_24 (by decide) rfl
set_option maxRecDepth 20000 in
theorem t_M_readOne_4 {n : Nat} {F : FM × FM × FM × FM × FM} (hC : H_M_readOr n F) {B C : Nat × FT} : fw_S (s_M_readOne n) [(0, 2), (1, 0), (2, 0)] 10 (whS (andB (nB (cB 4 (vE 2) (cE 16))) (nB (zB 1 (clE m_M_isWord [(cE 0), (vE 2)])))) (inS 2 1) skS FU) (30, [(0, 2), (1, 0), (2, 0)]) B C := fs_while (t_M_readOne_2 hC) (fs_goto (t_M_readOne_3 hC) dX12_readOne_27 rfl) (fs_skip rfl)
set_option maxRecDepth 20000 in
theorem t_M_readOne_5 {n : Nat} {F : FM × FM × FM × FM × FM} (hC : H_M_readOr n F) : fw_B (s_M_readOne n) [(0, 2), (1, 0), (2, 0)] 0 30 40 46 (andB (nB (zB 1 (vE 1))) (nB (cB 5 (vE 2) (cE 16)))) := (fb_and (fb_not (fb_if_ne (fe_iloadn 1 rfl dX12_readOne_30) dX12_readOne_31 rfl)) (fb_not (fb_icmp_le (fe_iloadn 2 rfl dX12_readOne_34) (fe_bipush dX12_readOne_35) dX12_readOne_37 rfl)))
set_option maxRecDepth 20000 in
theorem t_M_readOne_6 {n : Nat} {F : FM × FM × FM × FM × FM} (hC : H_M_readOr n F) {N B C : Nat × FT} : fw_S (s_M_readOne n) [(0, 2), (1, 0), (2, 0)] 40 (rtS (clE m_M_bad [(cE 0), (cE 1)])) N B C := fs_ret (fe_callV (fa_cons (fe_aloadn 0 rfl dX12_readOne_40) (fa_cons (fe_iconst dX12_readOne_41) fa_nil)) C_M_bad lv_RX12_159 lm_0 rfl rfl (by omega) (by decide) (by decide) dX12_readOne_42) dX12_readOne_45
set_option maxRecDepth 20000 in
theorem t_M_readOne_7 {n : Nat} {F : FM × FM × FM × FM × FM} (hC : H_M_readOr n F) : fw_B (s_M_readOne n) [(0, 2), (1, 0), (2, 0)] 0 46 64 70 (orB (cB 0 (thE (cE 0) (gE 51)) (cE 20)) (nB (cB 1 (thE (cE 0) (gE 52)) (cE 8)))) := (fb_or (fb_icmp_eq (fe_getI (fe_aloadn 0 rfl dX12_readOne_46) fl_RX12_385 lm_0 rfl dX12_readOne_47) (fe_bipush dX12_readOne_50) dX12_readOne_52 rfl) (fb_not (fb_icmp_ne (fe_getI (fe_aloadn 0 rfl dX12_readOne_55) fl_RX12_388 lm_0 rfl dX12_readOne_56) (fe_bipush dX12_readOne_59) dX12_readOne_61 rfl)))
set_option maxRecDepth 20000 in
theorem t_M_readOne_8 {n : Nat} {F : FM × FM × FM × FM × FM} (hC : H_M_readOr n F) {N B C : Nat × FT} : fw_S (s_M_readOne n) [(0, 2), (1, 0), (2, 0)] 64 (rtS (clE m_M_bad [(cE 0), (cE 4)])) N B C := fs_ret (fe_callV (fa_cons (fe_aloadn 0 rfl dX12_readOne_64) (fa_cons (fe_iconst dX12_readOne_65) fa_nil)) C_M_bad lv_RX12_159 lm_0 rfl rfl (by omega) (by decide) (by decide) dX12_readOne_66) dX12_readOne_69
set_option maxRecDepth 20000 in
theorem t_M_readOne_9 {n : Nat} {F : FM × FM × FM × FM × FM} (hC : H_M_readOr n F) {B C : Nat × FT} : fw_S (s_M_readOne n) [(0, 2), (1, 0), (2, 0)] 70 (poS 51 addI (cE 0) (cE 1)) (80, [(0, 2), (1, 0), (2, 0)]) B C := fs_po_add (fe_aloadn 0 rfl dX12_readOne_70) dX12_readOne_71 dX12_readOne_72 (fe_iconst dX12_readOne_75) dX12_readOne_76 fp_RX12_385 lm_0 rfl dX12_readOne_77 rfl
set_option maxRecDepth 20000 in
theorem t_M_readOne_10 {n : Nat} {F : FM × FM × FM × FM × FM} (hC : H_M_readOr n F) {B C : Nat × FT} : fw_S (s_M_readOne n) [(0, 2), (1, 0), (2, 0)] 80 (poS 52 addI (cE 0) (cE 1)) (90, [(0, 2), (1, 0), (2, 0)]) B C := fs_po_add (fe_aloadn 0 rfl dX12_readOne_80) dX12_readOne_81 dX12_readOne_82 (fe_iconst dX12_readOne_85) dX12_readOne_86 fp_RX12_388 lm_0 rfl dX12_readOne_87 rfl
set_option maxRecDepth 20000 in
theorem t_M_readOne_11 {n : Nat} {F : FM × FM × FM × FM × FM} (hC : H_M_readOr n F) {B C : Nat × FT} : fw_S (s_M_readOne n) [(0, 2), (1, 0), (2, 0)] 90 (exS (clE m_M_go [(cE 0)])) (94, [(0, 2), (1, 0), (2, 0)]) B C := fs_callV (t := 0) (fa_cons (fe_aloadn 0 rfl dX12_readOne_90) fa_nil) C_M_go lv_RX12_169 lm_0 rfl rfl (by omega) (by decide) dX12_readOne_91 rfl
set_option maxRecDepth 20000 in
theorem t_M_readOne_12 {n : Nat} {F : FM × FM × FM × FM × FM} (hC : H_M_readOr n F) {B C : Nat × FT} : fw_S (s_M_readOne n) [(0, 2), (1, 0), (2, 0)] 94 (stS 3 (cE 1)) (96, [(0, 2), (1, 0), (2, 0), (3, 0)]) B C := fs_istn (fe_iconst dX12_readOne_94) dX12_readOne_95 (by decide) rfl
set_option maxRecDepth 20000 in
theorem t_M_readOne_13 {n : Nat} {F : FM × FM × FM × FM × FM} (hC : H_M_readOr n F) : fw_B (s_M_readOne n) [(0, 2), (1, 0), (2, 0), (3, 0)] 0 96 100 108 (nB (zB 0 (vE 1))) := (fb_not (fb_if_eq (fe_iloadn 1 rfl dX12_readOne_96) dX12_readOne_97 rfl))
set_option maxRecDepth 20000 in
theorem t_M_readOne_14 {n : Nat} {F : FM × FM × FM × FM × FM} (hC : H_M_readOr n F) {B C : Nat × FT} : fw_S (s_M_readOne n) [(0, 2), (1, 0), (2, 0), (3, 0)] 100 (stS 3 (clE F.2.2.2.2 [(cE 0)])) (105, [(0, 2), (1, 0), (2, 0), (3, 0)]) B C := fs_istn (fe_callV (fa_cons (fe_aloadn 0 rfl dX12_readOne_100) fa_nil) (hC.2.2.2.2) lv_RX12_391 lm_0 rfl rfl (Nat.le_refl _) (by decide) (by decide) dX12_readOne_101) dX12_readOne_104 (by decide) rfl
set_option maxRecDepth 20000 in
theorem t_M_readOne_15 {n : Nat} {F : FM × FM × FM × FM × FM} (hC : H_M_readOr n F) : fw_B (s_M_readOne n) [(0, 2), (1, 0), (2, 0), (3, 0)] 0 108 114 122 (nB (cB 1 (vE 2) (cE 10))) := (fb_not (fb_icmp_ne (fe_iloadn 2 rfl dX12_readOne_108) (fe_bipush dX12_readOne_109) dX12_readOne_111 rfl))
set_option maxRecDepth 20000 in
theorem t_M_readOne_16 {n : Nat} {F : FM × FM × FM × FM × FM} (hC : H_M_readOr n F) {B C : Nat × FT} : fw_S (s_M_readOne n) [(0, 2), (1, 0), (2, 0), (3, 0)] 114 (stS 3 (clE F.2.2.2.1 [(cE 0)])) (119, [(0, 2), (1, 0), (2, 0), (3, 0)]) B C := fs_istn (fe_callV (fa_cons (fe_aloadn 0 rfl dX12_readOne_114) fa_nil) (hC.2.2.2.1) lv_RX12_394 lm_0 rfl rfl (Nat.le_refl _) (by decide) (by decide) dX12_readOne_115) dX12_readOne_118 (by decide) rfl
set_option maxRecDepth 20000 in
theorem t_M_readOne_17 {n : Nat} {F : FM × FM × FM × FM × FM} (hC : H_M_readOr n F) : fw_B (s_M_readOne n) [(0, 2), (1, 0), (2, 0), (3, 0)] 0 122 128 137 (nB (cB 3 (vE 2) (cE 13))) := (fb_not (fb_icmp_ge (fe_iloadn 2 rfl dX12_readOne_122) (fe_bipush dX12_readOne_123) dX12_readOne_125 rfl))
set_option maxRecDepth 20000 in
theorem t_M_readOne_18 {n : Nat} {F : FM × FM × FM × FM × FM} (hC : H_M_readOr n F) {B C : Nat × FT} : fw_S (s_M_readOne n) [(0, 2), (1, 0), (2, 0), (3, 0)] 128 (stS 3 (clE m_M_readOf [(cE 0), (vE 2)])) (134, [(0, 2), (1, 0), (2, 0), (3, 0)]) B C := fs_istn (fe_callV (fa_cons (fe_aloadn 0 rfl dX12_readOne_128) (fa_cons (fe_iloadn 2 rfl dX12_readOne_129) fa_nil)) C_M_readOf lv_RX12_397 lm_0 rfl rfl (by omega) (by decide) (by decide) dX12_readOne_130) dX12_readOne_133 (by decide) rfl
set_option maxRecDepth 20000 in
theorem t_M_readOne_19 {n : Nat} {F : FM × FM × FM × FM × FM} (hC : H_M_readOr n F) {B C : Nat × FT} : fw_S (s_M_readOne n) [(0, 2), (1, 0), (2, 0), (3, 0)] 137 (stS 3 (clE m_M_readCompare [(cE 0), (vE 2)])) (143, [(0, 2), (1, 0), (2, 0), (3, 0)]) B C := fs_istn (fe_callV (fa_cons (fe_aloadn 0 rfl dX12_readOne_137) (fa_cons (fe_iloadn 2 rfl dX12_readOne_138) fa_nil)) C_M_readCompare lv_RX12_400 lm_0 rfl rfl (by omega) (by decide) (by decide) dX12_readOne_139) dX12_readOne_142 (by decide) rfl
set_option maxRecDepth 20000 in
theorem t_M_readOne_20 {n : Nat} {F : FM × FM × FM × FM × FM} (hC : H_M_readOr n F) {B C : Nat × FT} : fw_S (s_M_readOne n) [(0, 2), (1, 0), (2, 0), (3, 0)] 143 (poS 52 subI (cE 0) (cE 1)) (153, [(0, 2), (1, 0), (2, 0), (3, 0)]) B C := fs_po_sub (fe_aloadn 0 rfl dX12_readOne_143) dX12_readOne_144 dX12_readOne_145 (fe_iconst dX12_readOne_148) dX12_readOne_149 fp_RX12_388 lm_0 rfl dX12_readOne_150 rfl
set_option maxRecDepth 20000 in
theorem t_M_readOne_21 {n : Nat} {F : FM × FM × FM × FM × FM} (hC : H_M_readOr n F) {N B C : Nat × FT} : fw_S (s_M_readOne n) [(0, 2), (1, 0), (2, 0), (3, 0)] 153 (rtS (vE 3)) N B C := fs_ret (fe_iloadn 3 rfl dX12_readOne_153) dX12_readOne_154
set_option maxRecDepth 20000 in
theorem t_M_readNot_0 {n : Nat} {F : FM × FM × FM × FM × FM} (hC : H_M_readOr n F) : fw_B (s_M_readNot n) [(0, 2)] 0 0 7 9 (nB (zB 1 (clE F.2.2.1 [(cE 0)]))) := (fb_not (fb_if_ne (fe_callV (fa_cons (fe_aloadn 0 rfl dX12_readNot_0) fa_nil) (hC.2.2.1) lv_RX12_382 lm_0 rfl rfl (Nat.le_refl _) (by decide) (by decide) dX12_readNot_1) dX12_readNot_4 rfl))
set_option maxRecDepth 20000 in
theorem t_M_readNot_1 {n : Nat} {F : FM × FM × FM × FM × FM} (hC : H_M_readOr n F) {N B C : Nat × FT} : fw_S (s_M_readNot n) [(0, 2)] 7 (rtS (cE 0)) N B C := fs_ret (fe_iconst dX12_readNot_7) dX12_readNot_8
set_option maxRecDepth 20000 in
theorem t_M_readNot_2 {n : Nat} {F : FM × FM × FM × FM × FM} (hC : H_M_readOr n F) {B C : Nat × FT} : fw_S (s_M_readNot n) [(0, 2)] 9 (pfS 53 (cE 0) (clE m_M_lays [(cE 0), (cE 1), (thE (cE 0) (gE 53)), (cE 0), (cE 0)])) (24, [(0, 2)]) B C := fs_put (fe_aloadn 0 rfl dX12_readNot_9) (fe_callV (fa_cons (fe_aloadn 0 rfl dX12_readNot_10) (fa_cons (fe_iconst dX12_readNot_11) (fa_cons (fe_getI (fe_aloadn 0 rfl dX12_readNot_12) fl_RX12_375 lm_0 rfl dX12_readNot_13) (fa_cons (fe_iconst dX12_readNot_16) (fa_cons (fe_iconst dX12_readNot_17) fa_nil))))) C_M_lays lv_RX12_378 lm_0 rfl rfl (by omega) (by decide) (by decide) dX12_readNot_18) fp_RX12_375 lm_0 rfl dX12_readNot_21 rfl
set_option maxRecDepth 20000 in
theorem t_M_readNot_3 {n : Nat} {F : FM × FM × FM × FM × FM} (hC : H_M_readOr n F) {N B C : Nat × FT} : fw_S (s_M_readNot n) [(0, 2)] 24 (rtS (cE 1)) N B C := fs_ret (fe_iconst dX12_readNot_24) dX12_readNot_25
set_option maxRecDepth 20000 in
theorem t_M_readBracket_0 {n : Nat} {F : FM × FM × FM × FM × FM} (hC : H_M_readOr n F) : fw_B (s_M_readBracket n) [(0, 2)] 0 0 7 9 (nB (zB 1 (clE F.1 [(cE 0)]))) := (fb_not (fb_if_ne (fe_callV (fa_cons (fe_aloadn 0 rfl dX12_readBracket_0) fa_nil) (hC.1) lv_RX12_403 lm_0 rfl rfl (Nat.le_refl _) (by decide) (by decide) dX12_readBracket_1) dX12_readBracket_4 rfl))
set_option maxRecDepth 20000 in
theorem t_M_readBracket_1 {n : Nat} {F : FM × FM × FM × FM × FM} (hC : H_M_readOr n F) {N B C : Nat × FT} : fw_S (s_M_readBracket n) [(0, 2)] 7 (rtS (cE 0)) N B C := fs_ret (fe_iconst dX12_readBracket_7) dX12_readBracket_8
set_option maxRecDepth 20000 in
theorem t_M_readBracket_2 {n : Nat} {F : FM × FM × FM × FM × FM} (hC : H_M_readOr n F) : fw_B (s_M_readBracket n) [(0, 2)] 0 9 18 24 (nB (zB 1 (clE m_M_isSign [(cE 0), (cE 41)]))) := (fb_not (fb_if_ne (fe_callV (fa_cons (fe_aloadn 0 rfl dX12_readBracket_9) (fa_cons (fe_bipush dX12_readBracket_10) fa_nil)) C_M_isSign lv_RX12_172 lm_0 rfl rfl (by omega) (by decide) (by decide) dX12_readBracket_12) dX12_readBracket_15 rfl))
set_option maxRecDepth 20000 in
theorem t_M_readBracket_3 {n : Nat} {F : FM × FM × FM × FM × FM} (hC : H_M_readOr n F) {N B C : Nat × FT} : fw_S (s_M_readBracket n) [(0, 2)] 18 (rtS (clE m_M_bad [(cE 0), (cE 1)])) N B C := fs_ret (fe_callV (fa_cons (fe_aloadn 0 rfl dX12_readBracket_18) (fa_cons (fe_iconst dX12_readBracket_19) fa_nil)) C_M_bad lv_RX12_159 lm_0 rfl rfl (by omega) (by decide) (by decide) dX12_readBracket_20) dX12_readBracket_23
set_option maxRecDepth 20000 in
theorem t_M_readBracket_4 {n : Nat} {F : FM × FM × FM × FM × FM} (hC : H_M_readOr n F) {B C : Nat × FT} : fw_S (s_M_readBracket n) [(0, 2)] 24 (exS (clE m_M_go [(cE 0)])) (28, [(0, 2)]) B C := fs_callV (t := 0) (fa_cons (fe_aloadn 0 rfl dX12_readBracket_24) fa_nil) C_M_go lv_RX12_169 lm_0 rfl rfl (by omega) (by decide) dX12_readBracket_25 rfl
set_option maxRecDepth 20000 in
theorem t_M_readBracket_5 {n : Nat} {F : FM × FM × FM × FM × FM} (hC : H_M_readOr n F) {N B C : Nat × FT} : fw_S (s_M_readBracket n) [(0, 2)] 28 (rtS (cE 1)) N B C := fs_ret (fe_iconst dX12_readBracket_28) dX12_readBracket_29
set_option maxRecDepth 20000 in
theorem G_M_readOr : ∀ n, H_M_readOr n (g_M_readOr n)
  | 0 => ⟨fun _ _ _ _ _ _ _ _ _ _ h => (by cases h), fun _ _ _ _ _ _ _ _ _ _ h => (by cases h), fun _ _ _ _ _ _ _ _ _ _ h => (by cases h), fun _ _ _ _ _ _ _ _ _ _ h => (by cases h), fun _ _ _ _ _ _ _ _ _ _ h => (by cases h)⟩
  | n + 1 => by
    have hC := G_M_readOr n
    exact ⟨fm_z (d := 6 + n + 1) (N := (0, [])) (B := (0, [])) (C := (0, [])) LM_ok (by decide +kernel) (show fw_S (s_M_readOr n) _ 0 (b_M_readOr (g_M_readOr n)) _ _ _ from (fs_seq (fs_if (t_M_readOr_0 hC) (t_M_readOr_1 hC) (fs_skip rfl)) (fs_seq (t_M_readOr_2 hC) (fs_seq (t_M_readOr_8 hC) (fs_seq (t_M_readOr_9 hC) (t_M_readOr_10 hC)))))) (by decide), fm_z (d := 6 + n + 1) (N := (0, [])) (B := (0, [])) (C := (0, [])) LM_ok (by decide +kernel) (show fw_S (s_M_readAnd n) _ 0 (b_M_readAnd (g_M_readOr n)) _ _ _ from (fs_seq (fs_if (t_M_readAnd_0 hC) (t_M_readAnd_1 hC) (fs_skip rfl)) (fs_seq (t_M_readAnd_2 hC) (fs_seq (t_M_readAnd_8 hC) (fs_seq (t_M_readAnd_9 hC) (t_M_readAnd_10 hC)))))) (by decide), fm_z (d := 6 + n + 1) (N := (0, [])) (B := (0, [])) (C := (0, [])) LM_ok (by decide +kernel) (show fw_S (s_M_readOne n) _ 0 (b_M_readOne (g_M_readOr n)) _ _ _ from (fs_seq (t_M_readOne_0 hC) (fs_seq (t_M_readOne_1 hC) (fs_seq (t_M_readOne_4 hC) (fs_seq (fs_if (t_M_readOne_5 hC) (t_M_readOne_6 hC) (fs_skip rfl)) (fs_seq (fs_if (t_M_readOne_7 hC) (t_M_readOne_8 hC) (fs_skip rfl)) (fs_seq (t_M_readOne_9 hC) (fs_seq (t_M_readOne_10 hC) (fs_seq (t_M_readOne_11 hC) (fs_seq (t_M_readOne_12 hC) (fs_seq (fs_if (t_M_readOne_13 hC) (fs_goto (t_M_readOne_14 hC) dX12_readOne_105 rfl) (fs_if (t_M_readOne_15 hC) (fs_goto (t_M_readOne_16 hC) dX12_readOne_119 rfl) (fs_if (t_M_readOne_17 hC) (fs_goto (t_M_readOne_18 hC) dX12_readOne_134 rfl) (t_M_readOne_19 hC)))) (fs_seq (t_M_readOne_20 hC) (t_M_readOne_21 hC))))))))))))) (by decide), fm_z (d := 6 + n + 1) (N := (0, [])) (B := (0, [])) (C := (0, [])) LM_ok (by decide +kernel) (show fw_S (s_M_readNot n) _ 0 (b_M_readNot (g_M_readOr n)) _ _ _ from (fs_seq (fs_if (t_M_readNot_0 hC) (t_M_readNot_1 hC) (fs_skip rfl)) (fs_seq (t_M_readNot_2 hC) (t_M_readNot_3 hC)))) (by decide), fm_z (d := 6 + n + 1) (N := (0, [])) (B := (0, [])) (C := (0, [])) LM_ok (by decide +kernel) (show fw_S (s_M_readBracket n) _ 0 (b_M_readBracket (g_M_readOr n)) _ _ _ from (fs_seq (fs_if (t_M_readBracket_0 hC) (t_M_readBracket_1 hC) (fs_skip rfl)) (fs_seq (fs_if (t_M_readBracket_2 hC) (t_M_readBracket_3 hC) (fs_skip rfl)) (fs_seq (t_M_readBracket_4 hC) (t_M_readBracket_5 hC))))) (by decide)⟩
/-! DyerBellsModel.sentence (this 0 ) -/
abbrev s_M_sentence : SI := (LM, RX12, cX12_sentence, 2, 67, some 0)
set_option maxRecDepth 20000 in
theorem t_M_sentence_0 {B C : Nat × FT} : fw_S s_M_sentence [(0, 2)] 0 (exS (clE m_M_begin [(cE 0), (cE 200)])) (7, [(0, 2)]) B C := fs_callV (t := 0) (fa_cons (fe_aloadn 0 rfl dX12_sentence_0) (fa_cons (fe_sipush dX12_sentence_1) fa_nil)) C_M_begin lv_RX12_262 lm_0 rfl rfl (by decide) (by decide) dX12_sentence_4 rfl
set_option maxRecDepth 20000 in
theorem t_M_sentence_1 {B C : Nat × FT} : fw_S s_M_sentence [(0, 2)] 7 (pfS 50 (cE 0) (cE 0)) (12, [(0, 2)]) B C := fs_put (fe_aloadn 0 rfl dX12_sentence_7) (fe_iconst dX12_sentence_8) fp_RX12_369 lm_0 rfl dX12_sentence_9 rfl
set_option maxRecDepth 20000 in
theorem t_M_sentence_2 {B C : Nat × FT} : fw_S s_M_sentence [(0, 2)] 12 (pfS 51 (cE 0) (cE 0)) (17, [(0, 2)]) B C := fs_put (fe_aloadn 0 rfl dX12_sentence_12) (fe_iconst dX12_sentence_13) fp_RX12_385 lm_0 rfl dX12_sentence_14 rfl
set_option maxRecDepth 20000 in
theorem t_M_sentence_3 {B C : Nat × FT} : fw_S s_M_sentence [(0, 2)] 17 (pfS 52 (cE 0) (cE 0)) (22, [(0, 2)]) B C := fs_put (fe_aloadn 0 rfl dX12_sentence_17) (fe_iconst dX12_sentence_18) fp_RX12_388 lm_0 rfl dX12_sentence_19 rfl
set_option maxRecDepth 20000 in
theorem t_M_sentence_4 : fw_B s_M_sentence [(0, 2)] 0 22 29 36 (nB (zB 1 (clE (g_M_readOr 60).1 [(cE 0)]))) := (fb_not (fb_if_ne (fe_callV (fa_cons (fe_aloadn 0 rfl dX12_sentence_22) fa_nil) (G_M_readOr 60).1 lv_RX12_403 lm_0 rfl rfl (by decide) (by decide) (by decide) dX12_sentence_23) dX12_sentence_26 rfl))
set_option maxRecDepth 20000 in
theorem t_M_sentence_5 {N B C : Nat × FT} : fw_S s_M_sentence [(0, 2)] 29 (rtS (o2 subI (cE (-1)) (thE (cE 0) (gE 11)))) N B C := fs_ret (fe_isub (fe_iconst dX12_sentence_29) (fe_getI (fe_aloadn 0 rfl dX12_sentence_30) fl_RX12_156 lm_0 rfl dX12_sentence_31) dX12_sentence_34) dX12_sentence_35
set_option maxRecDepth 20000 in
theorem t_M_sentence_6 : fw_B s_M_sentence [(0, 2)] 0 36 43 56 (nB (zB 0 (thE (cE 0) (gE 7)))) := (fb_not (fb_if_eq (fe_getI (fe_aloadn 0 rfl dX12_sentence_36) fl_RX12_113 lm_0 rfl dX12_sentence_37) dX12_sentence_40 rfl))
set_option maxRecDepth 20000 in
theorem t_M_sentence_7 {B C : Nat × FT} : fw_S s_M_sentence [(0, 2)] 43 (exS (clE m_M_bad [(cE 0), (cE 1)])) (49, [(0, 2)]) B C := fs_pop (fe_callV (fa_cons (fe_aloadn 0 rfl dX12_sentence_43) (fa_cons (fe_iconst dX12_sentence_44) fa_nil)) C_M_bad lv_RX12_159 lm_0 rfl rfl (by decide) (by decide) (by decide) dX12_sentence_45) rfl dX12_sentence_48 rfl
set_option maxRecDepth 20000 in
theorem t_M_sentence_8 {N B C : Nat × FT} : fw_S s_M_sentence [(0, 2)] 49 (rtS (o2 subI (cE (-1)) (thE (cE 0) (gE 11)))) N B C := fs_ret (fe_isub (fe_iconst dX12_sentence_49) (fe_getI (fe_aloadn 0 rfl dX12_sentence_50) fl_RX12_156 lm_0 rfl dX12_sentence_51) dX12_sentence_54) dX12_sentence_55
set_option maxRecDepth 20000 in
theorem t_M_sentence_9 {B C : Nat × FT} : fw_S s_M_sentence [(0, 2)] 56 (asS 128 592 idI (thE (cE 0) (cE 0)) (cE 350) (cE 1)) (65, [(0, 2)]) B C := fs_iast (fe_getR (fe_aloadn 0 rfl dX12_sentence_56) fl_RX12_13 lm_0 rfl dX12_sentence_57) (fe_sipush dX12_sentence_60) (fe_iconst dX12_sentence_63) lm_2 dX12_sentence_64 rfl
set_option maxRecDepth 20000 in
theorem t_M_sentence_10 {B C : Nat × FT} : fw_S s_M_sentence [(0, 2)] 65 (asS 128 592 idI (thE (cE 0) (cE 0)) (cE 351) (thE (cE 0) (gE 53))) (77, [(0, 2)]) B C := fs_iast (fe_getR (fe_aloadn 0 rfl dX12_sentence_65) fl_RX12_13 lm_0 rfl dX12_sentence_66) (fe_sipush dX12_sentence_69) (fe_getI (fe_aloadn 0 rfl dX12_sentence_72) fl_RX12_375 lm_0 rfl dX12_sentence_73) lm_2 dX12_sentence_76 rfl
set_option maxRecDepth 20000 in
theorem t_M_sentence_11 {B C : Nat × FT} : fw_S s_M_sentence [(0, 2)] 77 (stS 1 (cE 0)) (79, [(0, 2), (1, 0)]) B C := fs_istn (fe_iconst dX12_sentence_77) dX12_sentence_78 (by decide) rfl
set_option maxRecDepth 20000 in
theorem t_M_sentence_12 : fw_B s_M_sentence [(0, 2), (1, 0)] 0 79 86 108 (nB (cB 3 (vE 1) (cE 240))) := (fb_not (fb_icmp_ge (fe_iloadn 1 rfl dX12_sentence_79) (fe_sipush dX12_sentence_80) dX12_sentence_83 rfl))
set_option maxRecDepth 20000 in
theorem t_M_sentence_13 {B C : Nat × FT} : fw_S s_M_sentence [(0, 2), (1, 0)] 86 (asS 128 592 idI (thE (cE 0) (cE 0)) (o2 addI (cE 352) (vE 1)) (ldE 1600 240 (thE (cE 0) (cE 0)) (vE 1))) (102, [(0, 2), (1, 0)]) B C := fs_iast (fe_getR (fe_aloadn 0 rfl dX12_sentence_86) fl_RX12_13 lm_0 rfl dX12_sentence_87) (fe_iadd (fe_sipush dX12_sentence_90) (fe_iloadn 1 rfl dX12_sentence_93) dX12_sentence_94) (fe_iald (fe_getR (fe_aloadn 0 rfl dX12_sentence_95) fl_RX12_88 lm_0 rfl dX12_sentence_96) (fe_iloadn 1 rfl dX12_sentence_99) lm_25 dX12_sentence_100) lm_2 dX12_sentence_101 rfl
set_option maxRecDepth 20000 in
theorem t_M_sentence_14 {B C : Nat × FT} : fw_S s_M_sentence [(0, 2), (1, 0)] 102 (inS 1 1) (105, [(0, 2), (1, 0)]) B C := fs_inc (j := 1) rfl dX12_sentence_102 (by decide) rfl
set_option maxRecDepth 20000 in
theorem t_M_sentence_15 {B C : Nat × FT} : fw_S s_M_sentence [(0, 2), (1, 0)] 79 (whS (nB (cB 3 (vE 1) (cE 240))) (asS 128 592 idI (thE (cE 0) (cE 0)) (o2 addI (cE 352) (vE 1)) (ldE 1600 240 (thE (cE 0) (cE 0)) (vE 1))) (inS 1 1) FU) (108, [(0, 2), (1, 0)]) B C := fs_while t_M_sentence_12 t_M_sentence_13 (fs_goto t_M_sentence_14 dX12_sentence_105 rfl)
set_option maxRecDepth 20000 in
theorem t_M_sentence_16 {N B C : Nat × FT} : fw_S s_M_sentence [(0, 2)] 108 (rtS (thE (cE 0) (gE 51))) N B C := fs_ret (fe_getI (fe_aloadn 0 rfl dX12_sentence_108) fl_RX12_385 lm_0 rfl dX12_sentence_109) dX12_sentence_112
set_option maxRecDepth 20000 in
theorem C_M_sentence : fw_C LM yX12_sentence cX12_sentence 2 (some .int) 67 [2] (some 0) m_M_sentence := fm_i (d := 67) (N := (0, [])) (B := (0, [])) (C := (0, [])) LM_ok (by decide +kernel) (show fw_S s_M_sentence _ 0 b_M_sentence _ _ _ from (fs_seq t_M_sentence_0 (fs_seq t_M_sentence_1 (fs_seq t_M_sentence_2 (fs_seq t_M_sentence_3 (fs_seq (fs_if t_M_sentence_4 t_M_sentence_5 (fs_skip rfl)) (fs_seq (fs_if t_M_sentence_6 (fs_seq t_M_sentence_7 t_M_sentence_8) (fs_skip rfl)) (fs_seq t_M_sentence_9 (fs_seq t_M_sentence_10 (fs_seq (fs_seq t_M_sentence_11 (fs_weak t_M_sentence_15 rfl)) t_M_sentence_16)))))))))) (by decide)
/-! DyerBellsModel.valueOf (this 0 ) -/
abbrev s_M_valueOf : SI := (LM, RX12, cX12_valueOf, 6, 2, some 0)
set_option maxRecDepth 20000 in
theorem t_M_valueOf_0 : fw_B s_M_valueOf [(0, 2), (1, 0), (2, 0), (3, 0)] 0 0 6 18 (nB (cB 1 (vE 1) (cE 6))) := (fb_not (fb_icmp_ne (fe_iloadn 1 rfl dX12_valueOf_0) (fe_bipush dX12_valueOf_1) dX12_valueOf_3 rfl))
set_option maxRecDepth 20000 in
theorem t_M_valueOf_1 {N B C : Nat × FT} : fw_S s_M_valueOf [(0, 2), (1, 0), (2, 0), (3, 0)] 6 (rtS (clE m_M_shadeAt [(cE 0), (vE 3), (dvE (vE 2) (cE 4)), (rmE (vE 2) (cE 4))])) N B C := fs_ret (fe_callV (fa_cons (fe_aloadn 0 rfl dX12_valueOf_6) (fa_cons (fe_iloadn 3 rfl dX12_valueOf_7) (fa_cons (fe_idiv (fe_iloadn 2 rfl dX12_valueOf_8) (fe_iconst dX12_valueOf_9) dX12_valueOf_10) (fa_cons (fe_irem (fe_iloadn 2 rfl dX12_valueOf_11) (fe_iconst dX12_valueOf_12) dX12_valueOf_13) fa_nil)))) C_M_shadeAt lv_RX12_315 lm_0 rfl rfl (by decide) (by decide) (by decide) dX12_valueOf_14) dX12_valueOf_17
set_option maxRecDepth 20000 in
theorem t_M_valueOf_2 : fw_B s_M_valueOf [(0, 2), (1, 0), (2, 0), (3, 0)] 0 18 24 26 (nB (cB 1 (vE 1) (cE 64))) := (fb_not (fb_icmp_ne (fe_iloadn 1 rfl dX12_valueOf_18) (fe_bipush dX12_valueOf_19) dX12_valueOf_21 rfl))
set_option maxRecDepth 20000 in
theorem t_M_valueOf_3 {N B C : Nat × FT} : fw_S s_M_valueOf [(0, 2), (1, 0), (2, 0), (3, 0)] 24 (rtS (vE 3)) N B C := fs_ret (fe_iloadn 3 rfl dX12_valueOf_24) dX12_valueOf_25
set_option maxRecDepth 20000 in
theorem t_M_valueOf_4 : fw_B s_M_valueOf [(0, 2), (1, 0), (2, 0), (3, 0)] 0 26 32 37 (nB (cB 1 (vE 1) (cE 65))) := (fb_not (fb_icmp_ne (fe_iloadn 1 rfl dX12_valueOf_26) (fe_bipush dX12_valueOf_27) dX12_valueOf_29 rfl))
set_option maxRecDepth 20000 in
theorem t_M_valueOf_5 {N B C : Nat × FT} : fw_S s_M_valueOf [(0, 2), (1, 0), (2, 0), (3, 0)] 32 (rtS (dvE (vE 3) (cE 24))) N B C := fs_ret (fe_idiv (fe_iloadn 3 rfl dX12_valueOf_32) (fe_bipush dX12_valueOf_33) dX12_valueOf_35) dX12_valueOf_36
set_option maxRecDepth 20000 in
theorem t_M_valueOf_6 {B C : Nat × FT} : fw_S s_M_valueOf [(0, 2), (1, 0), (2, 0), (3, 0)] 37 (stS 4 (cE 0)) (40, [(0, 2), (1, 0), (2, 0), (3, 0), (4, 0)]) B C := fs_ist (fe_iconst dX12_valueOf_37) dX12_valueOf_38 (by decide) rfl
set_option maxRecDepth 20000 in
theorem t_M_valueOf_7 {B C : Nat × FT} : fw_S s_M_valueOf [(0, 2), (1, 0), (2, 0), (3, 0), (4, 0)] 40 (stS 5 (cE 0)) (43, [(0, 2), (1, 0), (2, 0), (3, 0), (4, 0), (5, 0)]) B C := fs_ist (fe_iconst dX12_valueOf_40) dX12_valueOf_41 (by decide) rfl
set_option maxRecDepth 20000 in
theorem t_M_valueOf_8 : fw_B s_M_valueOf [(0, 2), (1, 0), (2, 0), (3, 0), (4, 0), (5, 0)] 0 43 52 74 (nB (cB 3 (vE 5) (clE m_M_colours [(cE 0)]))) := (fb_not (fb_icmp_ge (fe_iload 5 rfl dX12_valueOf_43) (fe_callV (fa_cons (fe_aloadn 0 rfl dX12_valueOf_45) fa_nil) C_M_colours lv_RX12_193 lm_0 rfl rfl (by decide) (by decide) (by decide) dX12_valueOf_46) dX12_valueOf_49 rfl))
set_option maxRecDepth 20000 in
theorem t_M_valueOf_9 {B C : Nat × FT} : fw_S s_M_valueOf [(0, 2), (1, 0), (2, 0), (3, 0), (4, 0), (5, 0)] 52 (stS 4 (o2 addI (vE 4) (ldE 832 672 (thE (cE 0) (cE 0)) (o2 addI (o2 mulI (cE 4) (vE 3)) (vE 5))))) (68, [(0, 2), (1, 0), (2, 0), (3, 0), (4, 0), (5, 0)]) B C := fs_ist (fe_iadd (fe_iload 4 rfl dX12_valueOf_52) (fe_iald (fe_getR (fe_aloadn 0 rfl dX12_valueOf_54) fl_RX12_48 lm_0 rfl dX12_valueOf_55) (fe_iadd (fe_imul (fe_iconst dX12_valueOf_58) (fe_iloadn 3 rfl dX12_valueOf_59) dX12_valueOf_60) (fe_iload 5 rfl dX12_valueOf_61) dX12_valueOf_63) lm_13 dX12_valueOf_64) dX12_valueOf_65) dX12_valueOf_66 (by decide) rfl
set_option maxRecDepth 20000 in
theorem t_M_valueOf_10 {B C : Nat × FT} : fw_S s_M_valueOf [(0, 2), (1, 0), (2, 0), (3, 0), (4, 0), (5, 0)] 68 (inS 5 1) (71, [(0, 2), (1, 0), (2, 0), (3, 0), (4, 0), (5, 0)]) B C := fs_inc (j := 5) rfl dX12_valueOf_68 (by decide) rfl
set_option maxRecDepth 20000 in
theorem t_M_valueOf_11 {B C : Nat × FT} : fw_S s_M_valueOf [(0, 2), (1, 0), (2, 0), (3, 0), (4, 0), (5, 0)] 43 (whS (nB (cB 3 (vE 5) (clE m_M_colours [(cE 0)]))) (stS 4 (o2 addI (vE 4) (ldE 832 672 (thE (cE 0) (cE 0)) (o2 addI (o2 mulI (cE 4) (vE 3)) (vE 5))))) (inS 5 1) FU) (74, [(0, 2), (1, 0), (2, 0), (3, 0), (4, 0), (5, 0)]) B C := fs_while t_M_valueOf_8 t_M_valueOf_9 (fs_goto t_M_valueOf_10 dX12_valueOf_71 rfl)
set_option maxRecDepth 20000 in
theorem t_M_valueOf_12 {N B C : Nat × FT} : fw_S s_M_valueOf [(0, 2), (1, 0), (2, 0), (3, 0), (4, 0)] 74 (rtS (vE 4)) N B C := fs_ret (fe_iload 4 rfl dX12_valueOf_74) dX12_valueOf_76
set_option maxRecDepth 20000 in
theorem C_M_valueOf : fw_C LM yX12_valueOf cX12_valueOf 6 (some .int) 2 [2, 0, 0, 0] (some 0) m_M_valueOf := fm_i (d := 2) (N := (0, [])) (B := (0, [])) (C := (0, [])) LM_ok (by decide +kernel) (show fw_S s_M_valueOf _ 0 b_M_valueOf _ _ _ from (fs_seq (fs_if t_M_valueOf_0 t_M_valueOf_1 (fs_skip rfl)) (fs_seq (fs_if t_M_valueOf_2 t_M_valueOf_3 (fs_skip rfl)) (fs_seq (fs_if t_M_valueOf_4 t_M_valueOf_5 (fs_skip rfl)) (fs_seq t_M_valueOf_6 (fs_seq (fs_seq t_M_valueOf_7 (fs_weak t_M_valueOf_11 rfl)) t_M_valueOf_12)))))) (by decide)
/-! a group: M_isSo -/
abbrev s_M_isSo (n : Nat) : SI := (LM, RX12, cX12_isSo, 7, 3 + n + 1, some 0)
def H_M_isSo (n : Nat) (F : FM) : Prop := fw_C LM yX12_isSo cX12_isSo 7 (some .boolean) (3 + n) [2, 0, 0] (some 0) F
set_option maxRecDepth 20000 in
theorem t_M_isSo_0 {n : Nat} {F : FM} (hC : H_M_isSo n F) {B C : Nat × FT} : fw_S (s_M_isSo n) [(0, 2), (1, 0), (2, 0)] 0 (stS 3 (o2 addI (cE 352) (o2 mulI (cE 4) (vE 1)))) (8, [(0, 2), (1, 0), (2, 0), (3, 0)]) B C := fs_istn (fe_iadd (fe_sipush dX12_isSo_0) (fe_imul (fe_iconst dX12_isSo_3) (fe_iloadn 1 rfl dX12_isSo_4) dX12_isSo_5) dX12_isSo_6) dX12_isSo_7 (by decide) rfl
set_option maxRecDepth 20000 in
theorem t_M_isSo_1 {n : Nat} {F : FM} (hC : H_M_isSo n F) {B C : Nat × FT} : fw_S (s_M_isSo n) [(0, 2), (1, 0), (2, 0), (3, 0)] 8 (stS 4 (ldE 128 592 (thE (cE 0) (cE 0)) (o2 addI (vE 3) (cE 1)))) (18, [(0, 2), (1, 0), (2, 0), (3, 0), (4, 0)]) B C := fs_ist (fe_iald (fe_getR (fe_aloadn 0 rfl dX12_isSo_8) fl_RX12_13 lm_0 rfl dX12_isSo_9) (fe_iadd (fe_iloadn 3 rfl dX12_isSo_12) (fe_iconst dX12_isSo_13) dX12_isSo_14) lm_2 dX12_isSo_15) dX12_isSo_16 (by decide) rfl
set_option maxRecDepth 20000 in
theorem t_M_isSo_2 {n : Nat} {F : FM} (hC : H_M_isSo n F) {B C : Nat × FT} : fw_S (s_M_isSo n) [(0, 2), (1, 0), (2, 0), (3, 0), (4, 0)] 18 (stS 5 (ldE 128 592 (thE (cE 0) (cE 0)) (o2 addI (vE 3) (cE 2)))) (28, [(0, 2), (1, 0), (2, 0), (3, 0), (4, 0), (5, 0)]) B C := fs_ist (fe_iald (fe_getR (fe_aloadn 0 rfl dX12_isSo_18) fl_RX12_13 lm_0 rfl dX12_isSo_19) (fe_iadd (fe_iloadn 3 rfl dX12_isSo_22) (fe_iconst dX12_isSo_23) dX12_isSo_24) lm_2 dX12_isSo_25) dX12_isSo_26 (by decide) rfl
set_option maxRecDepth 20000 in
theorem t_M_isSo_3 {n : Nat} {F : FM} (hC : H_M_isSo n F) {N B C : Nat × FT} : fw_S (s_M_isSo n) [(0, 2), (1, 0), (2, 0), (3, 0), (4, 0), (5, 0)] 68 (rtS (kE (nB (zB 1 (clE F [(cE 0), (vE 4), (vE 2)]))) (cE 1) (cE 0))) N B C := fs_ret (fe_ternG (fb_not (fb_if_ne (fe_callV (fa_cons (fe_aloadn 0 rfl dX12_isSo_68) (fa_cons (fe_iload 4 rfl dX12_isSo_69) (fa_cons (fe_iloadn 2 rfl dX12_isSo_71) fa_nil))) (hC) lv_RX12_409 lm_0 rfl rfl (Nat.le_refl _) (by decide) (by decide) dX12_isSo_72) dX12_isSo_75 rfl)) (fe_gt (fe_iconst dX12_isSo_78) dX12_isSo_79 rfl) (fe_iconst dX12_isSo_82)) dX12_isSo_83
set_option maxRecDepth 20000 in
theorem t_M_isSo_4 {n : Nat} {F : FM} (hC : H_M_isSo n F) {N B C : Nat × FT} : fw_S (s_M_isSo n) [(0, 2), (1, 0), (2, 0), (3, 0), (4, 0), (5, 0)] 84 (rtS (kE (andB (nB (zB 0 (clE F [(cE 0), (vE 4), (vE 2)]))) (nB (zB 0 (clE F [(cE 0), (vE 5), (vE 2)])))) (cE 1) (cE 0))) N B C := fs_ret (fe_ternG (fb_and (fb_not (fb_if_eq (fe_callV (fa_cons (fe_aloadn 0 rfl dX12_isSo_84) (fa_cons (fe_iload 4 rfl dX12_isSo_85) (fa_cons (fe_iloadn 2 rfl dX12_isSo_87) fa_nil))) (hC) lv_RX12_409 lm_0 rfl rfl (Nat.le_refl _) (by decide) (by decide) dX12_isSo_88) dX12_isSo_91 rfl)) (fb_not (fb_if_eq (fe_callV (fa_cons (fe_aloadn 0 rfl dX12_isSo_94) (fa_cons (fe_iload 5 rfl dX12_isSo_95) (fa_cons (fe_iloadn 2 rfl dX12_isSo_97) fa_nil))) (hC) lv_RX12_409 lm_0 rfl rfl (Nat.le_refl _) (by decide) (by decide) dX12_isSo_98) dX12_isSo_101 rfl))) (fe_gt (fe_iconst dX12_isSo_104) dX12_isSo_105 rfl) (fe_iconst dX12_isSo_108)) dX12_isSo_109
set_option maxRecDepth 20000 in
theorem t_M_isSo_5 {n : Nat} {F : FM} (hC : H_M_isSo n F) {N B C : Nat × FT} : fw_S (s_M_isSo n) [(0, 2), (1, 0), (2, 0), (3, 0), (4, 0), (5, 0)] 110 (rtS (kE (orB (zB 1 (clE F [(cE 0), (vE 4), (vE 2)])) (nB (zB 0 (clE F [(cE 0), (vE 5), (vE 2)])))) (cE 1) (cE 0))) N B C := fs_ret (fe_ternG (fb_or (fb_if_ne (fe_callV (fa_cons (fe_aloadn 0 rfl dX12_isSo_110) (fa_cons (fe_iload 4 rfl dX12_isSo_111) (fa_cons (fe_iloadn 2 rfl dX12_isSo_113) fa_nil))) (hC) lv_RX12_409 lm_0 rfl rfl (Nat.le_refl _) (by decide) (by decide) dX12_isSo_114) dX12_isSo_117 rfl) (fb_not (fb_if_eq (fe_callV (fa_cons (fe_aloadn 0 rfl dX12_isSo_120) (fa_cons (fe_iload 5 rfl dX12_isSo_121) (fa_cons (fe_iloadn 2 rfl dX12_isSo_123) fa_nil))) (hC) lv_RX12_409 lm_0 rfl rfl (Nat.le_refl _) (by decide) (by decide) dX12_isSo_124) dX12_isSo_127 rfl))) (fe_gt (fe_iconst dX12_isSo_130) dX12_isSo_131 rfl) (fe_iconst dX12_isSo_134)) dX12_isSo_135
set_option maxRecDepth 20000 in
theorem t_M_isSo_6 {n : Nat} {F : FM} (hC : H_M_isSo n F) {N B C : Nat × FT} : fw_S (s_M_isSo n) [(0, 2), (1, 0), (2, 0), (3, 0), (4, 0), (5, 0)] 136 (rtS (clE m_M_has [(ldE 640 168 (thE (cE 0) (cE 0)) (vE 2)), (vE 4)])) N B C := fs_ret (fe_callS (fa_cons (fe_iald (fe_getR (fe_aloadn 0 rfl dX12_isSo_136) fl_RX12_39 lm_0 rfl dX12_isSo_137) (fe_iloadn 2 rfl dX12_isSo_140) lm_10 dX12_isSo_141) (fa_cons (fe_iload 4 rfl dX12_isSo_142) fa_nil)) C_M_has ls_RX12_220 rfl (by omega) (by decide) (by decide) dX12_isSo_144) dX12_isSo_147
set_option maxRecDepth 20000 in
theorem t_M_isSo_7 {n : Nat} {F : FM} (hC : H_M_isSo n F) {N B C : Nat × FT} : fw_S (s_M_isSo n) [(0, 2), (1, 0), (2, 0), (3, 0), (4, 0), (5, 0)] 148 (rtS (clE m_M_isHarmed [(cE 0), (vE 4), (vE 2)])) N B C := fs_ret (fe_callV (fa_cons (fe_aloadn 0 rfl dX12_isSo_148) (fa_cons (fe_iload 4 rfl dX12_isSo_149) (fa_cons (fe_iloadn 2 rfl dX12_isSo_151) fa_nil))) C_M_isHarmed lv_RX12_319 lm_0 rfl rfl (by omega) (by decide) (by decide) dX12_isSo_152) dX12_isSo_155
set_option maxRecDepth 20000 in
theorem t_M_isSo_8 {n : Nat} {F : FM} (hC : H_M_isSo n F) {B C : Nat × FT} : fw_S (s_M_isSo n) [(0, 2), (1, 0), (2, 0), (3, 0), (4, 0), (5, 0)] 156 (stS 6 (clE m_M_valueOf [(cE 0), (ldE 128 592 (thE (cE 0) (cE 0)) (vE 3)), (vE 4), (vE 2)])) (171, [(0, 2), (1, 0), (2, 0), (3, 0), (4, 0), (5, 0), (6, 0)]) B C := fs_ist (fe_callV (fa_cons (fe_aloadn 0 rfl dX12_isSo_156) (fa_cons (fe_iald (fe_getR (fe_aloadn 0 rfl dX12_isSo_157) fl_RX12_13 lm_0 rfl dX12_isSo_158) (fe_iloadn 3 rfl dX12_isSo_161) lm_2 dX12_isSo_162) (fa_cons (fe_iload 4 rfl dX12_isSo_163) (fa_cons (fe_iloadn 2 rfl dX12_isSo_165) fa_nil)))) C_M_valueOf lv_RX12_412 lm_0 rfl rfl (by omega) (by decide) (by decide) dX12_isSo_166) dX12_isSo_169 (by decide) rfl
set_option maxRecDepth 20000 in
theorem t_M_isSo_9 {n : Nat} {F : FM} (hC : H_M_isSo n F) {N B C : Nat × FT} : fw_S (s_M_isSo n) [(0, 2), (1, 0), (2, 0), (3, 0), (4, 0), (5, 0), (6, 0)] 171 (rtS (kE (nB (cB 1 (ldE 128 592 (thE (cE 0) (cE 0)) (o2 addI (vE 3) (cE 3))) (cE 60))) (kE (nB (cB 3 (vE 6) (vE 5))) (cE 1) (cE 0)) (kE (nB (cB 1 (ldE 128 592 (thE (cE 0) (cE 0)) (o2 addI (vE 3) (cE 3))) (cE 61))) (kE (nB (cB 1 (vE 6) (vE 5))) (cE 1) (cE 0)) (kE (nB (cB 5 (vE 6) (vE 5))) (cE 1) (cE 0))))) N B C := fs_ret (fe_ternG (fb_not (fb_icmp_ne (fe_iald (fe_getR (fe_aloadn 0 rfl dX12_isSo_171) fl_RX12_13 lm_0 rfl dX12_isSo_172) (fe_iadd (fe_iloadn 3 rfl dX12_isSo_175) (fe_iconst dX12_isSo_176) dX12_isSo_177) lm_2 dX12_isSo_178) (fe_bipush dX12_isSo_179) dX12_isSo_181 rfl)) (fe_ternG (fb_not (fb_icmp_ge (fe_iload 6 rfl dX12_isSo_184) (fe_iload 5 rfl dX12_isSo_186) dX12_isSo_188 rfl)) (fe_gt (fe_iconst dX12_isSo_191) dX12_isSo_192 rfl) (fe_gt (fe_iconst dX12_isSo_195) dX12_isSo_196 rfl)) (fe_ternG (fb_not (fb_icmp_ne (fe_iald (fe_getR (fe_aloadn 0 rfl dX12_isSo_199) fl_RX12_13 lm_0 rfl dX12_isSo_200) (fe_iadd (fe_iloadn 3 rfl dX12_isSo_203) (fe_iconst dX12_isSo_204) dX12_isSo_205) lm_2 dX12_isSo_206) (fe_bipush dX12_isSo_207) dX12_isSo_209 rfl)) (fe_ternG (fb_not (fb_icmp_ne (fe_iload 6 rfl dX12_isSo_212) (fe_iload 5 rfl dX12_isSo_214) dX12_isSo_216 rfl)) (fe_gt (fe_iconst dX12_isSo_219) dX12_isSo_220 rfl) (fe_gt (fe_iconst dX12_isSo_223) dX12_isSo_224 rfl)) (fe_ternG (fb_not (fb_icmp_le (fe_iload 6 rfl dX12_isSo_227) (fe_iload 5 rfl dX12_isSo_229) dX12_isSo_231 rfl)) (fe_gt (fe_iconst dX12_isSo_234) dX12_isSo_235 rfl) (fe_iconst dX12_isSo_238)))) dX12_isSo_239
set_option maxRecDepth 20000 in
theorem t_M_isSo_10 {n : Nat} {F : FM} (hC : H_M_isSo n F) {N B C : Nat × FT} : fw_S (s_M_isSo n) [(0, 2), (1, 0), (2, 0), (3, 0), (4, 0), (5, 0)] 28 (tsS (ldE 128 592 (thE (cE 0) (cE 0)) (vE 3)) 1 [(rtS (kE (nB (zB 1 (clE F [(cE 0), (vE 4), (vE 2)]))) (cE 1) (cE 0))), (rtS (kE (andB (nB (zB 0 (clE F [(cE 0), (vE 4), (vE 2)]))) (nB (zB 0 (clE F [(cE 0), (vE 5), (vE 2)])))) (cE 1) (cE 0))), (rtS (kE (orB (zB 1 (clE F [(cE 0), (vE 4), (vE 2)])) (nB (zB 0 (clE F [(cE 0), (vE 5), (vE 2)])))) (cE 1) (cE 0))), (rtS (clE m_M_has [(ldE 640 168 (thE (cE 0) (cE 0)) (vE 2)), (vE 4)])), (rtS (clE m_M_isHarmed [(cE 0), (vE 4), (vE 2)]))] (sq (stS 6 (clE m_M_valueOf [(cE 0), (ldE 128 592 (thE (cE 0) (cE 0)) (vE 3)), (vE 4), (vE 2)])) (rtS (kE (nB (cB 1 (ldE 128 592 (thE (cE 0) (cE 0)) (o2 addI (vE 3) (cE 3))) (cE 60))) (kE (nB (cB 3 (vE 6) (vE 5))) (cE 1) (cE 0)) (kE (nB (cB 1 (ldE 128 592 (thE (cE 0) (cE 0)) (o2 addI (vE 3) (cE 3))) (cE 61))) (kE (nB (cB 1 (vE 6) (vE 5))) (cE 1) (cE 0)) (kE (nB (cB 5 (vE 6) (vE 5))) (cE 1) (cE 0))))))) N B C := fs_tsw (cs := [(68, (rtS (kE (nB (zB 1 (clE F [(cE 0), (vE 4), (vE 2)]))) (cE 1) (cE 0)))), (84, (rtS (kE (andB (nB (zB 0 (clE F [(cE 0), (vE 4), (vE 2)]))) (nB (zB 0 (clE F [(cE 0), (vE 5), (vE 2)])))) (cE 1) (cE 0)))), (110, (rtS (kE (orB (zB 1 (clE F [(cE 0), (vE 4), (vE 2)])) (nB (zB 0 (clE F [(cE 0), (vE 5), (vE 2)])))) (cE 1) (cE 0)))), (136, (rtS (clE m_M_has [(ldE 640 168 (thE (cE 0) (cE 0)) (vE 2)), (vE 4)]))), (148, (rtS (clE m_M_isHarmed [(cE 0), (vE 4), (vE 2)])))]) (fe_iald (fe_getR (fe_aloadn 0 rfl dX12_isSo_28) fl_RX12_13 lm_0 rfl dX12_isSo_29) (fe_iloadn 3 rfl dX12_isSo_32) lm_2 dX12_isSo_33) dX12_isSo_34 ⟨⟨_, rfl, rfl⟩, (t_M_isSo_3 hC), ⟨⟨_, rfl, rfl⟩, (t_M_isSo_4 hC), ⟨⟨_, rfl, rfl⟩, (t_M_isSo_5 hC), ⟨⟨_, rfl, rfl⟩, (t_M_isSo_6 hC), ⟨⟨_, rfl, rfl⟩, (t_M_isSo_7 hC), trivial⟩⟩⟩⟩⟩ rfl rfl (fs_seq (t_M_isSo_8 hC) (t_M_isSo_9 hC))
set_option maxRecDepth 20000 in
theorem G_M_isSo : ∀ n, H_M_isSo n (g_M_isSo n)
  | 0 => fun _ _ _ _ _ _ _ _ _ _ h => (by cases h)
  | n + 1 => by
    have hC := G_M_isSo n
    exact fm_z (d := 3 + n + 1) (N := (0, [])) (B := (0, [])) (C := (0, [])) LM_ok (by decide +kernel) (show fw_S (s_M_isSo n) _ 0 (b_M_isSo (g_M_isSo n)) _ _ _ from (fs_seq (t_M_isSo_0 hC) (fs_seq (t_M_isSo_1 hC) (fs_seq (t_M_isSo_2 hC) (t_M_isSo_10 hC))))) (by decide)
/-! DyerBellsModel.said (this 0 ) -/
abbrev s_M_said : SI := (LM, RX12, cX12_said, 4, 64, some 0)
set_option maxRecDepth 20000 in
theorem t_M_said_0 {B C : Nat × FT} : fw_S s_M_said [(0, 2), (1, 0)] 0 (pfS 0 (cE 0) (cE 0)) (5, [(0, 2), (1, 0)]) B C := fs_put (fe_aloadn 0 rfl dX12_said_0) (fe_iconst dX12_said_1) fp_RX12_91 lm_0 rfl dX12_said_2 rfl
set_option maxRecDepth 20000 in
theorem t_M_said_1 {B C : Nat × FT} : fw_S s_M_said [(0, 2), (1, 0)] 5 (exS (clE m_M_lay [(cE 0)])) (9, [(0, 2), (1, 0)]) B C := fs_callV (t := 0) (fa_cons (fe_aloadn 0 rfl dX12_said_5) fa_nil) C_M_lay lv_RX12_175 lm_0 rfl rfl (by decide) (by decide) dX12_said_6 rfl
set_option maxRecDepth 20000 in
theorem t_M_said_2 : fw_B s_M_said [(0, 2), (1, 0)] 0 9 25 27 (orB (zB 0 (ldE 128 592 (thE (cE 0) (cE 0)) (cE 350))) (nB (cB 3 (vE 1) (cE (-1))))) := (fb_or (fb_if_eq (fe_iald (fe_getR (fe_aloadn 0 rfl dX12_said_9) fl_RX12_13 lm_0 rfl dX12_said_10) (fe_sipush dX12_said_13) lm_2 dX12_said_16) dX12_said_17 rfl) (fb_not (fb_icmp_ge (fe_iloadn 1 rfl dX12_said_20) (fe_iconst dX12_said_21) dX12_said_22 rfl)))
set_option maxRecDepth 20000 in
theorem t_M_said_3 {N B C : Nat × FT} : fw_S s_M_said [(0, 2), (1, 0)] 25 (rtS (cE (-1))) N B C := fs_ret (fe_iconst dX12_said_25) dX12_said_26
set_option maxRecDepth 20000 in
theorem t_M_said_4 {B C : Nat × FT} : fw_S s_M_said [(0, 2), (1, 0)] 27 (exS (clE m_M_week [(cE 0)])) (31, [(0, 2), (1, 0)]) B C := fs_callV (t := 0) (fa_cons (fe_aloadn 0 rfl dX12_said_27) fa_nil) C_M_week lv_RX12_322 lm_0 rfl rfl (by decide) (by decide) dX12_said_28 rfl
set_option maxRecDepth 20000 in
theorem t_M_said_5 {B C : Nat × FT} : fw_S s_M_said [(0, 2), (1, 0)] 31 (stS 2 (cE 0)) (33, [(0, 2), (1, 0), (2, 0)]) B C := fs_istn (fe_iconst dX12_said_31) dX12_said_32 (by decide) rfl
set_option maxRecDepth 20000 in
theorem t_M_said_6 {B C : Nat × FT} : fw_S s_M_said [(0, 2), (1, 0), (2, 0)] 33 (stS 3 (cE 0)) (35, [(0, 2), (1, 0), (2, 0), (3, 0)]) B C := fs_istn (fe_iconst dX12_said_33) dX12_said_34 (by decide) rfl
set_option maxRecDepth 20000 in
theorem t_M_said_7 : fw_B s_M_said [(0, 2), (1, 0), (2, 0), (3, 0)] 0 35 42 77 (nB (cB 3 (vE 3) (cE 168))) := (fb_not (fb_icmp_ge (fe_iloadn 3 rfl dX12_said_35) (fe_sipush dX12_said_36) dX12_said_39 rfl))
set_option maxRecDepth 20000 in
theorem t_M_said_8 : fw_B s_M_said [(0, 2), (1, 0), (2, 0), (3, 0)] 0 42 58 61 (nB (zB 1 (clE (g_M_isSo 60) [(cE 0), (ldE 128 592 (thE (cE 0) (cE 0)) (cE 351)), (vE 3)]))) := (fb_not (fb_if_ne (fe_callV (fa_cons (fe_aloadn 0 rfl dX12_said_42) (fa_cons (fe_iald (fe_getR (fe_aloadn 0 rfl dX12_said_43) fl_RX12_13 lm_0 rfl dX12_said_44) (fe_sipush dX12_said_47) lm_2 dX12_said_50) (fa_cons (fe_iloadn 3 rfl dX12_said_51) fa_nil))) (G_M_isSo 60) lv_RX12_409 lm_0 rfl rfl (by decide) (by decide) (by decide) dX12_said_52) dX12_said_55 rfl))
set_option maxRecDepth 20000 in
theorem t_M_said_9 : fw_B s_M_said [(0, 2), (1, 0), (2, 0), (3, 0)] 0 61 66 68 (nB (cB 1 (vE 2) (vE 1))) := (fb_not (fb_icmp_ne (fe_iloadn 2 rfl dX12_said_61) (fe_iloadn 1 rfl dX12_said_62) dX12_said_63 rfl))
set_option maxRecDepth 20000 in
theorem t_M_said_10 {N B C : Nat × FT} : fw_S s_M_said [(0, 2), (1, 0), (2, 0), (3, 0)] 66 (rtS (vE 3)) N B C := fs_ret (fe_iloadn 3 rfl dX12_said_66) dX12_said_67
set_option maxRecDepth 20000 in
theorem t_M_said_11 {B C : Nat × FT} : fw_S s_M_said [(0, 2), (1, 0), (2, 0), (3, 0)] 68 (inS 2 1) (71, [(0, 2), (1, 0), (2, 0), (3, 0)]) B C := fs_inc (j := 2) rfl dX12_said_68 (by decide) rfl
set_option maxRecDepth 20000 in
theorem t_M_said_12 {B C : Nat × FT} : fw_S s_M_said [(0, 2), (1, 0), (2, 0), (3, 0)] 71 (inS 3 1) (74, [(0, 2), (1, 0), (2, 0), (3, 0)]) B C := fs_inc (j := 3) rfl dX12_said_71 (by decide) rfl
set_option maxRecDepth 20000 in
theorem t_M_said_13 {B C : Nat × FT} : fw_S s_M_said [(0, 2), (1, 0), (2, 0), (3, 0)] 35 (whS (nB (cB 3 (vE 3) (cE 168))) (sq (ifS (nB (zB 1 (clE (g_M_isSo 60) [(cE 0), (ldE 128 592 (thE (cE 0) (cE 0)) (cE 351)), (vE 3)]))) ctS skS) (sq (ifS (nB (cB 1 (vE 2) (vE 1))) (rtS (vE 3)) skS) (inS 2 1))) (inS 3 1) FU) (77, [(0, 2), (1, 0), (2, 0), (3, 0)]) B C := fs_while t_M_said_7 (fs_seq (fs_if t_M_said_8 (fs_cnt dX12_said_58 rfl rfl) (fs_skip rfl)) (fs_seq (fs_if t_M_said_9 t_M_said_10 (fs_skip rfl)) t_M_said_11)) (fs_goto t_M_said_12 dX12_said_74 rfl)
set_option maxRecDepth 20000 in
theorem t_M_said_14 {N B C : Nat × FT} : fw_S s_M_said [(0, 2), (1, 0), (2, 0)] 77 (rtS (kE (nB (cB 1 (vE 1) (cE (-1)))) (vE 2) (cE (-1)))) N B C := fs_ret (fe_ternG (fb_not (fb_icmp_ne (fe_iloadn 1 rfl dX12_said_77) (fe_iconst dX12_said_78) dX12_said_79 rfl)) (fe_gt (fe_iloadn 2 rfl dX12_said_82) dX12_said_83 rfl) (fe_iconst dX12_said_86)) dX12_said_87
set_option maxRecDepth 20000 in
theorem C_M_said : fw_C LM yX12_said cX12_said 4 (some .int) 64 [2, 0] (some 0) m_M_said := fm_i (d := 64) (N := (0, [])) (B := (0, [])) (C := (0, [])) LM_ok (by decide +kernel) (show fw_S s_M_said _ 0 b_M_said _ _ _ from (fs_seq t_M_said_0 (fs_seq t_M_said_1 (fs_seq (fs_if t_M_said_2 t_M_said_3 (fs_skip rfl)) (fs_seq t_M_said_4 (fs_seq t_M_said_5 (fs_seq (fs_seq t_M_said_6 (fs_weak t_M_said_13 rfl)) t_M_said_14))))))) (by decide)
/-! DyerBellsModel.image (this 0 ) -/
abbrev s_M_image : SI := (LM, RX12, cX12_image, 3, 3, some 0)
set_option maxRecDepth 20000 in
theorem t_M_image_0 {B C : Nat × FT} : fw_S s_M_image [(0, 2), (1, 0)] 0 (pfS 0 (cE 0) (cE 0)) (5, [(0, 2), (1, 0)]) B C := fs_put (fe_aloadn 0 rfl dX12_image_0) (fe_iconst dX12_image_1) fp_RX12_91 lm_0 rfl dX12_image_2 rfl
set_option maxRecDepth 20000 in
theorem t_M_image_1 {B C : Nat × FT} : fw_S s_M_image [(0, 2), (1, 0)] 5 (exS (clE m_M_lay [(cE 0)])) (9, [(0, 2), (1, 0)]) B C := fs_callV (t := 0) (fa_cons (fe_aloadn 0 rfl dX12_image_5) fa_nil) C_M_lay lv_RX12_175 lm_0 rfl rfl (by decide) (by decide) dX12_image_6 rfl
set_option maxRecDepth 20000 in
theorem t_M_image_2 : fw_B s_M_image [(0, 2), (1, 0)] 0 9 18 20 (nB (zB 1 (clE m_M_isIn [(vE 1), (cE 0), (cE 1)]))) := (fb_not (fb_if_ne (fe_callS (fa_cons (fe_iloadn 1 rfl dX12_image_9) (fa_cons (fe_iconst dX12_image_10) (fa_cons (fe_iconst dX12_image_11) fa_nil))) C_M_isIn ls_RX12_162 rfl (by decide) (by decide) (by decide) dX12_image_12) dX12_image_15 rfl))
set_option maxRecDepth 20000 in
theorem t_M_image_3 {N B C : Nat × FT} : fw_S s_M_image [(0, 2), (1, 0)] 18 (rtS (cE 0)) N B C := fs_ret (fe_iconst dX12_image_18) dX12_image_19
set_option maxRecDepth 20000 in
theorem t_M_image_4 {B C : Nat × FT} : fw_S s_M_image [(0, 2), (1, 0)] 20 (stS 2 (cE 0)) (22, [(0, 2), (1, 0), (2, 0)]) B C := fs_istn (fe_iconst dX12_image_20) dX12_image_21 (by decide) rfl
set_option maxRecDepth 20000 in
theorem t_M_image_5 : fw_B s_M_image [(0, 2), (1, 0), (2, 0)] 0 22 29 53 (nB (cB 3 (vE 2) (cE 592))) := (fb_not (fb_icmp_ge (fe_iloadn 2 rfl dX12_image_22) (fe_sipush dX12_image_23) dX12_image_26 rfl))
set_option maxRecDepth 20000 in
theorem t_M_image_6 {B C : Nat × FT} : fw_S s_M_image [(0, 2), (1, 0), (2, 0)] 29 (asS 256 1184 idI (thE (cE 0) (cE 0)) (o2 addI (o2 mulI (cE 592) (vE 1)) (vE 2)) (ldE 128 592 (thE (cE 0) (cE 0)) (vE 2))) (47, [(0, 2), (1, 0), (2, 0)]) B C := fs_iast (fe_getR (fe_aloadn 0 rfl dX12_image_29) fl_RX12_19 lm_0 rfl dX12_image_30) (fe_iadd (fe_imul (fe_sipush dX12_image_33) (fe_iloadn 1 rfl dX12_image_36) dX12_image_37) (fe_iloadn 2 rfl dX12_image_38) dX12_image_39) (fe_iald (fe_getR (fe_aloadn 0 rfl dX12_image_40) fl_RX12_13 lm_0 rfl dX12_image_41) (fe_iloadn 2 rfl dX12_image_44) lm_2 dX12_image_45) lm_4 dX12_image_46 rfl
set_option maxRecDepth 20000 in
theorem t_M_image_7 {B C : Nat × FT} : fw_S s_M_image [(0, 2), (1, 0), (2, 0)] 47 (inS 2 1) (50, [(0, 2), (1, 0), (2, 0)]) B C := fs_inc (j := 2) rfl dX12_image_47 (by decide) rfl
set_option maxRecDepth 20000 in
theorem t_M_image_8 {B C : Nat × FT} : fw_S s_M_image [(0, 2), (1, 0), (2, 0)] 22 (whS (nB (cB 3 (vE 2) (cE 592))) (asS 256 1184 idI (thE (cE 0) (cE 0)) (o2 addI (o2 mulI (cE 592) (vE 1)) (vE 2)) (ldE 128 592 (thE (cE 0) (cE 0)) (vE 2))) (inS 2 1) FU) (53, [(0, 2), (1, 0), (2, 0)]) B C := fs_while t_M_image_5 t_M_image_6 (fs_goto t_M_image_7 dX12_image_50 rfl)
set_option maxRecDepth 20000 in
theorem t_M_image_9 {B C : Nat × FT} : fw_S s_M_image [(0, 2), (1, 0)] 53 (stS 2 (cE 0)) (55, [(0, 2), (1, 0), (2, 0)]) B C := fs_istn (fe_iconst dX12_image_53) dX12_image_54 (by decide) rfl
set_option maxRecDepth 20000 in
theorem t_M_image_10 : fw_B s_M_image [(0, 2), (1, 0), (2, 0)] 0 55 61 84 (nB (cB 3 (vE 2) (cE 26))) := (fb_not (fb_icmp_ge (fe_iloadn 2 rfl dX12_image_55) (fe_bipush dX12_image_56) dX12_image_58 rfl))
set_option maxRecDepth 20000 in
theorem t_M_image_11 {B C : Nat × FT} : fw_S s_M_image [(0, 2), (1, 0), (2, 0)] 61 (asS 512 52 idI (thE (cE 0) (cE 0)) (o2 addI (o2 mulI (cE 26) (vE 1)) (vE 2)) (ldE 384 26 (thE (cE 0) (cE 0)) (vE 2))) (78, [(0, 2), (1, 0), (2, 0)]) B C := fs_last (fe_getR (fe_aloadn 0 rfl dX12_image_61) fl_RX12_32 lm_0 rfl dX12_image_62) (fe_iadd (fe_imul (fe_bipush dX12_image_65) (fe_iloadn 1 rfl dX12_image_67) dX12_image_68) (fe_iloadn 2 rfl dX12_image_69) dX12_image_70) (fe_lald (fe_getR (fe_aloadn 0 rfl dX12_image_71) fl_RX12_25 lm_0 rfl dX12_image_72) (fe_iloadn 2 rfl dX12_image_75) lm_6 dX12_image_76) lm_8 dX12_image_77 rfl
set_option maxRecDepth 20000 in
theorem t_M_image_12 {B C : Nat × FT} : fw_S s_M_image [(0, 2), (1, 0), (2, 0)] 78 (inS 2 1) (81, [(0, 2), (1, 0), (2, 0)]) B C := fs_inc (j := 2) rfl dX12_image_78 (by decide) rfl
set_option maxRecDepth 20000 in
theorem t_M_image_13 {B C : Nat × FT} : fw_S s_M_image [(0, 2), (1, 0), (2, 0)] 55 (whS (nB (cB 3 (vE 2) (cE 26))) (asS 512 52 idI (thE (cE 0) (cE 0)) (o2 addI (o2 mulI (cE 26) (vE 1)) (vE 2)) (ldE 384 26 (thE (cE 0) (cE 0)) (vE 2))) (inS 2 1) FU) (84, [(0, 2), (1, 0), (2, 0)]) B C := fs_while t_M_image_10 t_M_image_11 (fs_goto t_M_image_12 dX12_image_81 rfl)
set_option maxRecDepth 20000 in
theorem t_M_image_14 {B C : Nat × FT} : fw_S s_M_image [(0, 2), (1, 0)] 84 (asS 576 2 nzI (thE (cE 0) (cE 0)) (vE 1) (cE 1)) (91, [(0, 2), (1, 0)]) B C := fs_zast (fe_getR (fe_aloadn 0 rfl dX12_image_84) fl_RX12_35 lm_0 rfl dX12_image_85) (fe_iloadn 1 rfl dX12_image_88) (fe_iconst dX12_image_89) lm_9 dX12_image_90 rfl
set_option maxRecDepth 20000 in
theorem t_M_image_15 {N B C : Nat × FT} : fw_S s_M_image [(0, 2), (1, 0)] 91 (rtS (cE 1)) N B C := fs_ret (fe_iconst dX12_image_91) dX12_image_92
set_option maxRecDepth 20000 in
theorem C_M_image : fw_C LM yX12_image cX12_image 3 (some .boolean) 3 [2, 0] (some 0) m_M_image := fm_z (d := 3) (N := (0, [])) (B := (0, [])) (C := (0, [])) LM_ok (by decide +kernel) (show fw_S s_M_image _ 0 b_M_image _ _ _ from (fs_seq t_M_image_0 (fs_seq t_M_image_1 (fs_seq (fs_if t_M_image_2 t_M_image_3 (fs_skip rfl)) (fs_seq (fs_seq t_M_image_4 (fs_weak t_M_image_8 rfl)) (fs_seq (fs_seq t_M_image_9 (fs_weak t_M_image_13 rfl)) (fs_seq t_M_image_14 t_M_image_15))))))) (by decide)
/-! DyerBellsModel.restore (this 0 ) -/
abbrev s_M_restore : SI := (LM, RX12, cX12_restore, 3, 3, some 0)
set_option maxRecDepth 20000 in
theorem t_M_restore_0 {B C : Nat × FT} : fw_S s_M_restore [(0, 2), (1, 0)] 0 (pfS 0 (cE 0) (cE 0)) (5, [(0, 2), (1, 0)]) B C := fs_put (fe_aloadn 0 rfl dX12_restore_0) (fe_iconst dX12_restore_1) fp_RX12_91 lm_0 rfl dX12_restore_2 rfl
set_option maxRecDepth 20000 in
theorem t_M_restore_1 {B C : Nat × FT} : fw_S s_M_restore [(0, 2), (1, 0)] 5 (exS (clE m_M_lay [(cE 0)])) (9, [(0, 2), (1, 0)]) B C := fs_callV (t := 0) (fa_cons (fe_aloadn 0 rfl dX12_restore_5) fa_nil) C_M_lay lv_RX12_175 lm_0 rfl rfl (by decide) (by decide) dX12_restore_6 rfl
set_option maxRecDepth 20000 in
theorem t_M_restore_2 : fw_B s_M_restore [(0, 2), (1, 0)] 0 9 27 29 (orB (zB 0 (clE m_M_isIn [(vE 1), (cE 0), (cE 1)])) (nB (zB 1 (ldE 576 2 (thE (cE 0) (cE 0)) (vE 1))))) := (fb_or (fb_if_eq (fe_callS (fa_cons (fe_iloadn 1 rfl dX12_restore_9) (fa_cons (fe_iconst dX12_restore_10) (fa_cons (fe_iconst dX12_restore_11) fa_nil))) C_M_isIn ls_RX12_162 rfl (by decide) (by decide) (by decide) dX12_restore_12) dX12_restore_15 rfl) (fb_not (fb_if_ne (fe_zald (fe_getR (fe_aloadn 0 rfl dX12_restore_18) fl_RX12_35 lm_0 rfl dX12_restore_19) (fe_iloadn 1 rfl dX12_restore_22) lm_9 dX12_restore_23) dX12_restore_24 rfl)))
set_option maxRecDepth 20000 in
theorem t_M_restore_3 {N B C : Nat × FT} : fw_S s_M_restore [(0, 2), (1, 0)] 27 (rtS (cE 0)) N B C := fs_ret (fe_iconst dX12_restore_27) dX12_restore_28
set_option maxRecDepth 20000 in
theorem t_M_restore_4 {B C : Nat × FT} : fw_S s_M_restore [(0, 2), (1, 0)] 29 (stS 2 (cE 0)) (31, [(0, 2), (1, 0), (2, 0)]) B C := fs_istn (fe_iconst dX12_restore_29) dX12_restore_30 (by decide) rfl
set_option maxRecDepth 20000 in
theorem t_M_restore_5 : fw_B s_M_restore [(0, 2), (1, 0), (2, 0)] 0 31 38 62 (nB (cB 3 (vE 2) (cE 592))) := (fb_not (fb_icmp_ge (fe_iloadn 2 rfl dX12_restore_31) (fe_sipush dX12_restore_32) dX12_restore_35 rfl))
set_option maxRecDepth 20000 in
theorem t_M_restore_6 {B C : Nat × FT} : fw_S s_M_restore [(0, 2), (1, 0), (2, 0)] 38 (asS 128 592 idI (thE (cE 0) (cE 0)) (vE 2) (ldE 256 1184 (thE (cE 0) (cE 0)) (o2 addI (o2 mulI (cE 592) (vE 1)) (vE 2)))) (56, [(0, 2), (1, 0), (2, 0)]) B C := fs_iast (fe_getR (fe_aloadn 0 rfl dX12_restore_38) fl_RX12_13 lm_0 rfl dX12_restore_39) (fe_iloadn 2 rfl dX12_restore_42) (fe_iald (fe_getR (fe_aloadn 0 rfl dX12_restore_43) fl_RX12_19 lm_0 rfl dX12_restore_44) (fe_iadd (fe_imul (fe_sipush dX12_restore_47) (fe_iloadn 1 rfl dX12_restore_50) dX12_restore_51) (fe_iloadn 2 rfl dX12_restore_52) dX12_restore_53) lm_4 dX12_restore_54) lm_2 dX12_restore_55 rfl
set_option maxRecDepth 20000 in
theorem t_M_restore_7 {B C : Nat × FT} : fw_S s_M_restore [(0, 2), (1, 0), (2, 0)] 56 (inS 2 1) (59, [(0, 2), (1, 0), (2, 0)]) B C := fs_inc (j := 2) rfl dX12_restore_56 (by decide) rfl
set_option maxRecDepth 20000 in
theorem t_M_restore_8 {B C : Nat × FT} : fw_S s_M_restore [(0, 2), (1, 0), (2, 0)] 31 (whS (nB (cB 3 (vE 2) (cE 592))) (asS 128 592 idI (thE (cE 0) (cE 0)) (vE 2) (ldE 256 1184 (thE (cE 0) (cE 0)) (o2 addI (o2 mulI (cE 592) (vE 1)) (vE 2)))) (inS 2 1) FU) (62, [(0, 2), (1, 0), (2, 0)]) B C := fs_while t_M_restore_5 t_M_restore_6 (fs_goto t_M_restore_7 dX12_restore_59 rfl)
set_option maxRecDepth 20000 in
theorem t_M_restore_9 {B C : Nat × FT} : fw_S s_M_restore [(0, 2), (1, 0)] 62 (stS 2 (cE 0)) (64, [(0, 2), (1, 0), (2, 0)]) B C := fs_istn (fe_iconst dX12_restore_62) dX12_restore_63 (by decide) rfl
set_option maxRecDepth 20000 in
theorem t_M_restore_10 : fw_B s_M_restore [(0, 2), (1, 0), (2, 0)] 0 64 70 93 (nB (cB 3 (vE 2) (cE 26))) := (fb_not (fb_icmp_ge (fe_iloadn 2 rfl dX12_restore_64) (fe_bipush dX12_restore_65) dX12_restore_67 rfl))
set_option maxRecDepth 20000 in
theorem t_M_restore_11 {B C : Nat × FT} : fw_S s_M_restore [(0, 2), (1, 0), (2, 0)] 70 (asS 384 26 idI (thE (cE 0) (cE 0)) (vE 2) (ldE 512 52 (thE (cE 0) (cE 0)) (o2 addI (o2 mulI (cE 26) (vE 1)) (vE 2)))) (87, [(0, 2), (1, 0), (2, 0)]) B C := fs_last (fe_getR (fe_aloadn 0 rfl dX12_restore_70) fl_RX12_25 lm_0 rfl dX12_restore_71) (fe_iloadn 2 rfl dX12_restore_74) (fe_lald (fe_getR (fe_aloadn 0 rfl dX12_restore_75) fl_RX12_32 lm_0 rfl dX12_restore_76) (fe_iadd (fe_imul (fe_bipush dX12_restore_79) (fe_iloadn 1 rfl dX12_restore_81) dX12_restore_82) (fe_iloadn 2 rfl dX12_restore_83) dX12_restore_84) lm_8 dX12_restore_85) lm_6 dX12_restore_86 rfl
set_option maxRecDepth 20000 in
theorem t_M_restore_12 {B C : Nat × FT} : fw_S s_M_restore [(0, 2), (1, 0), (2, 0)] 87 (inS 2 1) (90, [(0, 2), (1, 0), (2, 0)]) B C := fs_inc (j := 2) rfl dX12_restore_87 (by decide) rfl
set_option maxRecDepth 20000 in
theorem t_M_restore_13 {B C : Nat × FT} : fw_S s_M_restore [(0, 2), (1, 0), (2, 0)] 64 (whS (nB (cB 3 (vE 2) (cE 26))) (asS 384 26 idI (thE (cE 0) (cE 0)) (vE 2) (ldE 512 52 (thE (cE 0) (cE 0)) (o2 addI (o2 mulI (cE 26) (vE 1)) (vE 2)))) (inS 2 1) FU) (93, [(0, 2), (1, 0), (2, 0)]) B C := fs_while t_M_restore_10 t_M_restore_11 (fs_goto t_M_restore_12 dX12_restore_90 rfl)
set_option maxRecDepth 20000 in
theorem t_M_restore_14 {N B C : Nat × FT} : fw_S s_M_restore [(0, 2), (1, 0)] 93 (rtS (cE 1)) N B C := fs_ret (fe_iconst dX12_restore_93) dX12_restore_94
set_option maxRecDepth 20000 in
theorem C_M_restore : fw_C LM yX12_restore cX12_restore 3 (some .boolean) 3 [2, 0] (some 0) m_M_restore := fm_z (d := 3) (N := (0, [])) (B := (0, [])) (C := (0, [])) LM_ok (by decide +kernel) (show fw_S s_M_restore _ 0 b_M_restore _ _ _ from (fs_seq t_M_restore_0 (fs_seq t_M_restore_1 (fs_seq (fs_if t_M_restore_2 t_M_restore_3 (fs_skip rfl)) (fs_seq (fs_seq t_M_restore_4 (fs_weak t_M_restore_8 rfl)) (fs_seq (fs_seq t_M_restore_9 (fs_weak t_M_restore_13 rfl)) t_M_restore_14)))))) (by decide)
/-! DyerBellsModel.count (this 0 ) -/
abbrev s_M_count : SI := (LM, RX12, cX12_count, 2, 3, some 0)
set_option maxRecDepth 20000 in
theorem t_M_count_0 {B C : Nat × FT} : fw_S s_M_count [(0, 2), (1, 0)] 0 (pfS 0 (cE 0) (cE 0)) (5, [(0, 2), (1, 0)]) B C := fs_put (fe_aloadn 0 rfl dX12_count_0) (fe_iconst dX12_count_1) fp_RX12_91 lm_0 rfl dX12_count_2 rfl
set_option maxRecDepth 20000 in
theorem t_M_count_1 {B C : Nat × FT} : fw_S s_M_count [(0, 2), (1, 0)] 5 (exS (clE m_M_lay [(cE 0)])) (9, [(0, 2), (1, 0)]) B C := fs_callV (t := 0) (fa_cons (fe_aloadn 0 rfl dX12_count_5) fa_nil) C_M_lay lv_RX12_175 lm_0 rfl rfl (by decide) (by decide) dX12_count_6 rfl
set_option maxRecDepth 20000 in
theorem t_M_count_2 {N B C : Nat × FT} : fw_S s_M_count [(0, 2), (1, 0)] 56 (rtS (clE m_M_reaches [(cE 0)])) N B C := fs_ret (fe_callV (fa_cons (fe_aloadn 0 rfl dX12_count_56) fa_nil) C_M_reaches lv_RX12_190 lm_0 rfl rfl (by decide) (by decide) (by decide) dX12_count_57) dX12_count_60
set_option maxRecDepth 20000 in
theorem t_M_count_3 {N B C : Nat × FT} : fw_S s_M_count [(0, 2), (1, 0)] 61 (rtS (clE m_M_colours [(cE 0)])) N B C := fs_ret (fe_callV (fa_cons (fe_aloadn 0 rfl dX12_count_61) fa_nil) C_M_colours lv_RX12_193 lm_0 rfl rfl (by decide) (by decide) (by decide) dX12_count_62) dX12_count_65
set_option maxRecDepth 20000 in
theorem t_M_count_4 {N B C : Nat × FT} : fw_S s_M_count [(0, 2), (1, 0)] 66 (rtS (clE m_M_guilds [(cE 0)])) N B C := fs_ret (fe_callV (fa_cons (fe_aloadn 0 rfl dX12_count_66) fa_nil) C_M_guilds lv_RX12_196 lm_0 rfl rfl (by decide) (by decide) (by decide) dX12_count_67) dX12_count_70
set_option maxRecDepth 20000 in
theorem t_M_count_5 {N B C : Nat × FT} : fw_S s_M_count [(0, 2), (1, 0)] 71 (rtS (clE m_M_users [(cE 0)])) N B C := fs_ret (fe_callV (fa_cons (fe_aloadn 0 rfl dX12_count_71) fa_nil) C_M_users lv_RX12_199 lm_0 rfl rfl (by decide) (by decide) (by decide) dX12_count_72) dX12_count_75
set_option maxRecDepth 20000 in
theorem t_M_count_6 {N B C : Nat × FT} : fw_S s_M_count [(0, 2), (1, 0)] 76 (rtS (ldE 128 592 (thE (cE 0) (cE 0)) (cE 4))) N B C := fs_ret (fe_iald (fe_getR (fe_aloadn 0 rfl dX12_count_76) fl_RX12_13 lm_0 rfl dX12_count_77) (fe_iconst dX12_count_80) lm_2 dX12_count_81) dX12_count_82
set_option maxRecDepth 20000 in
theorem t_M_count_7 {N B C : Nat × FT} : fw_S s_M_count [(0, 2), (1, 0)] 83 (rtS (clE m_M_bells [(cE 0)])) N B C := fs_ret (fe_callV (fa_cons (fe_aloadn 0 rfl dX12_count_83) fa_nil) C_M_bells lv_RX12_286 lm_0 rfl rfl (by decide) (by decide) (by decide) dX12_count_84) dX12_count_87
set_option maxRecDepth 20000 in
theorem t_M_count_8 {N B C : Nat × FT} : fw_S s_M_count [(0, 2), (1, 0)] 88 (rtS (ldE 128 592 (thE (cE 0) (cE 0)) (cE 285))) N B C := fs_ret (fe_iald (fe_getR (fe_aloadn 0 rfl dX12_count_88) fl_RX12_13 lm_0 rfl dX12_count_89) (fe_sipush dX12_count_92) lm_2 dX12_count_95) dX12_count_96
set_option maxRecDepth 20000 in
theorem t_M_count_9 {N B C : Nat × FT} : fw_S s_M_count [(0, 2), (1, 0)] 97 (rtS (thE (cE 0) (gE 2))) N B C := fs_ret (fe_getI (fe_aloadn 0 rfl dX12_count_97) fl_RX12_94 lm_0 rfl dX12_count_98) dX12_count_101
set_option maxRecDepth 20000 in
theorem t_M_count_10 {N B C : Nat × FT} : fw_S s_M_count [(0, 2), (1, 0)] 102 (rtS (cE (-1))) N B C := fs_ret (fe_iconst dX12_count_102) dX12_count_103
set_option maxRecDepth 20000 in
theorem t_M_count_11 {N B C : Nat × FT} : fw_S s_M_count [(0, 2), (1, 0)] 9 (tsS (vE 1) 0 [(rtS (clE m_M_reaches [(cE 0)])), (rtS (clE m_M_colours [(cE 0)])), (rtS (clE m_M_guilds [(cE 0)])), (rtS (clE m_M_users [(cE 0)])), (rtS (ldE 128 592 (thE (cE 0) (cE 0)) (cE 4))), (rtS (clE m_M_bells [(cE 0)])), (rtS (ldE 128 592 (thE (cE 0) (cE 0)) (cE 285))), (rtS (thE (cE 0) (gE 2)))] (rtS (cE (-1)))) N B C := fs_tsw (cs := [(56, (rtS (clE m_M_reaches [(cE 0)]))), (61, (rtS (clE m_M_colours [(cE 0)]))), (66, (rtS (clE m_M_guilds [(cE 0)]))), (71, (rtS (clE m_M_users [(cE 0)]))), (76, (rtS (ldE 128 592 (thE (cE 0) (cE 0)) (cE 4)))), (83, (rtS (clE m_M_bells [(cE 0)]))), (88, (rtS (ldE 128 592 (thE (cE 0) (cE 0)) (cE 285)))), (97, (rtS (thE (cE 0) (gE 2))))]) (fe_iloadn 1 rfl dX12_count_9) dX12_count_10 ⟨⟨_, rfl, rfl⟩, t_M_count_2, ⟨⟨_, rfl, rfl⟩, t_M_count_3, ⟨⟨_, rfl, rfl⟩, t_M_count_4, ⟨⟨_, rfl, rfl⟩, t_M_count_5, ⟨⟨_, rfl, rfl⟩, t_M_count_6, ⟨⟨_, rfl, rfl⟩, t_M_count_7, ⟨⟨_, rfl, rfl⟩, t_M_count_8, ⟨⟨_, rfl, rfl⟩, t_M_count_9, trivial⟩⟩⟩⟩⟩⟩⟩⟩ rfl rfl t_M_count_10
set_option maxRecDepth 20000 in
theorem C_M_count : fw_C LM yX12_count cX12_count 2 (some .int) 3 [2, 0] (some 0) m_M_count := fm_i (d := 3) (N := (0, [])) (B := (0, [])) (C := (0, [])) LM_ok (by decide +kernel) (show fw_S s_M_count _ 0 b_M_count _ _ _ from (fs_seq t_M_count_0 (fs_seq t_M_count_1 t_M_count_11))) (by decide)
