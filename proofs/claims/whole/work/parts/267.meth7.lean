/-! DyerBellsModel.layWorks (this 0 ) -/
abbrev s_M_layWorks : SI := (LM, RX12, cX12_layWorks, 5, 2, none)
set_option maxRecDepth 20000 in
theorem t_M_layWorks_0 {B C : Nat × FT} : fw_S s_M_layWorks [(0, 2), (1, 0)] 0 (stS 2 (cE 0)) (2, [(0, 2), (1, 0), (2, 0)]) B C := fs_istn (fe_iconst dX12_layWorks_0) dX12_layWorks_1 (by decide) rfl
set_option maxRecDepth 20000 in
theorem t_M_layWorks_1 : fw_B s_M_layWorks [(0, 2), (1, 0), (2, 0)] 0 2 9 22 (nB (cB 3 (vE 2) (cE 168))) := (fb_not (fb_icmp_ge (fe_iloadn 2 rfl dX12_layWorks_2) (fe_sipush dX12_layWorks_3) dX12_layWorks_6 rfl))
set_option maxRecDepth 20000 in
theorem t_M_layWorks_2 {B C : Nat × FT} : fw_S s_M_layWorks [(0, 2), (1, 0), (2, 0)] 9 (asS 640 168 idI (thE (cE 0) (cE 0)) (vE 2) (cE 0)) (16, [(0, 2), (1, 0), (2, 0)]) B C := fs_iast (fe_getR (fe_aloadn 0 rfl dX12_layWorks_9) fl_RX12_39 lm_0 rfl dX12_layWorks_10) (fe_iloadn 2 rfl dX12_layWorks_13) (fe_iconst dX12_layWorks_14) lm_10 dX12_layWorks_15 rfl
set_option maxRecDepth 20000 in
theorem t_M_layWorks_3 {B C : Nat × FT} : fw_S s_M_layWorks [(0, 2), (1, 0), (2, 0)] 16 (inS 2 1) (19, [(0, 2), (1, 0), (2, 0)]) B C := fs_inc (j := 2) rfl dX12_layWorks_16 (by decide) rfl
set_option maxRecDepth 20000 in
theorem t_M_layWorks_4 {B C : Nat × FT} : fw_S s_M_layWorks [(0, 2), (1, 0), (2, 0)] 2 (whS (nB (cB 3 (vE 2) (cE 168))) (asS 640 168 idI (thE (cE 0) (cE 0)) (vE 2) (cE 0)) (inS 2 1) FU) (22, [(0, 2), (1, 0), (2, 0)]) B C := fs_while t_M_layWorks_1 t_M_layWorks_2 (fs_goto t_M_layWorks_3 dX12_layWorks_19 rfl)
set_option maxRecDepth 20000 in
theorem t_M_layWorks_5 {B C : Nat × FT} : fw_S s_M_layWorks [(0, 2), (1, 0)] 22 (stS 2 (cE 0)) (24, [(0, 2), (1, 0), (2, 0)]) B C := fs_istn (fe_iconst dX12_layWorks_22) dX12_layWorks_23 (by decide) rfl
set_option maxRecDepth 20000 in
theorem t_M_layWorks_6 : fw_B s_M_layWorks [(0, 2), (1, 0), (2, 0)] 0 24 32 110 (nB (cB 3 (vE 2) (clE m_M_bells [(cE 0)]))) := (fb_not (fb_icmp_ge (fe_iloadn 2 rfl dX12_layWorks_24) (fe_callV (fa_cons (fe_aloadn 0 rfl dX12_layWorks_25) fa_nil) C_M_bells lv_RX12_286 lm_0 rfl rfl (by decide) (by decide) (by decide) dX12_layWorks_26) dX12_layWorks_29 rfl))
set_option maxRecDepth 20000 in
theorem t_M_layWorks_7 {B C : Nat × FT} : fw_S s_M_layWorks [(0, 2), (1, 0), (2, 0)] 32 (stS 3 (o2 addI (cE 161) (o2 mulI (cE 3) (vE 2)))) (40, [(0, 2), (1, 0), (2, 0), (3, 0)]) B C := fs_istn (fe_iadd (fe_sipush dX12_layWorks_32) (fe_imul (fe_iconst dX12_layWorks_35) (fe_iloadn 2 rfl dX12_layWorks_36) dX12_layWorks_37) dX12_layWorks_38) dX12_layWorks_39 (by decide) rfl
set_option maxRecDepth 20000 in
theorem t_M_layWorks_8 : fw_B s_M_layWorks [(0, 2), (1, 0), (2, 0), (3, 0)] 0 40 52 55 (nB (cB 1 (ldE 128 592 (thE (cE 0) (cE 0)) (o2 addI (vE 3) (cE 1))) (vE 1))) := (fb_not (fb_icmp_ne (fe_iald (fe_getR (fe_aloadn 0 rfl dX12_layWorks_40) fl_RX12_13 lm_0 rfl dX12_layWorks_41) (fe_iadd (fe_iloadn 3 rfl dX12_layWorks_44) (fe_iconst dX12_layWorks_45) dX12_layWorks_46) lm_2 dX12_layWorks_47) (fe_iloadn 1 rfl dX12_layWorks_48) dX12_layWorks_49 rfl))
set_option maxRecDepth 20000 in
theorem t_M_layWorks_9 {B C : Nat × FT} : fw_S s_M_layWorks [(0, 2), (1, 0), (2, 0), (3, 0)] 55 (stS 4 (cE 0)) (58, [(0, 2), (1, 0), (2, 0), (3, 0), (4, 0)]) B C := fs_ist (fe_iconst dX12_layWorks_55) dX12_layWorks_56 (by decide) rfl
set_option maxRecDepth 20000 in
theorem t_M_layWorks_10 : fw_B s_M_layWorks [(0, 2), (1, 0), (2, 0), (3, 0), (4, 0)] 0 58 71 104 (nB (cB 3 (vE 4) (ldE 128 592 (thE (cE 0) (cE 0)) (o2 addI (vE 3) (cE 2))))) := (fb_not (fb_icmp_ge (fe_iload 4 rfl dX12_layWorks_58) (fe_iald (fe_getR (fe_aloadn 0 rfl dX12_layWorks_60) fl_RX12_13 lm_0 rfl dX12_layWorks_61) (fe_iadd (fe_iloadn 3 rfl dX12_layWorks_64) (fe_iconst dX12_layWorks_65) dX12_layWorks_66) lm_2 dX12_layWorks_67) dX12_layWorks_68 rfl))
set_option maxRecDepth 20000 in
theorem t_M_layWorks_11 {B C : Nat × FT} : fw_S s_M_layWorks [(0, 2), (1, 0), (2, 0), (3, 0), (4, 0)] 71 (aoS 640 168 iorI (thE (cE 0) (cE 0)) (o2 addI (ldE 128 592 (thE (cE 0) (cE 0)) (vE 3)) (vE 4)) (o2 shlI (cE 1) (ldE 128 592 (thE (cE 0) (cE 0)) (o2 addI (vE 3) (cE 1))))) (98, [(0, 2), (1, 0), (2, 0), (3, 0), (4, 0)]) B C := fs_ao_or (fe_getR (fe_aloadn 0 rfl dX12_layWorks_71) fl_RX12_39 lm_0 rfl dX12_layWorks_72) (fe_iadd (fe_iald (fe_getR (fe_aloadn 0 rfl dX12_layWorks_75) fl_RX12_13 lm_0 rfl dX12_layWorks_76) (fe_iloadn 3 rfl dX12_layWorks_79) lm_2 dX12_layWorks_80) (fe_iload 4 rfl dX12_layWorks_81) dX12_layWorks_83) dX12_layWorks_84 dX12_layWorks_85 (fe_ishl (fe_iconst dX12_layWorks_86) (fe_iald (fe_getR (fe_aloadn 0 rfl dX12_layWorks_87) fl_RX12_13 lm_0 rfl dX12_layWorks_88) (fe_iadd (fe_iloadn 3 rfl dX12_layWorks_91) (fe_iconst dX12_layWorks_92) dX12_layWorks_93) lm_2 dX12_layWorks_94) dX12_layWorks_95) dX12_layWorks_96 lm_10 dX12_layWorks_97 rfl
set_option maxRecDepth 20000 in
theorem t_M_layWorks_12 {B C : Nat × FT} : fw_S s_M_layWorks [(0, 2), (1, 0), (2, 0), (3, 0), (4, 0)] 98 (inS 4 1) (101, [(0, 2), (1, 0), (2, 0), (3, 0), (4, 0)]) B C := fs_inc (j := 4) rfl dX12_layWorks_98 (by decide) rfl
set_option maxRecDepth 20000 in
theorem t_M_layWorks_13 {B C : Nat × FT} : fw_S s_M_layWorks [(0, 2), (1, 0), (2, 0), (3, 0), (4, 0)] 58 (whS (nB (cB 3 (vE 4) (ldE 128 592 (thE (cE 0) (cE 0)) (o2 addI (vE 3) (cE 2))))) (aoS 640 168 iorI (thE (cE 0) (cE 0)) (o2 addI (ldE 128 592 (thE (cE 0) (cE 0)) (vE 3)) (vE 4)) (o2 shlI (cE 1) (ldE 128 592 (thE (cE 0) (cE 0)) (o2 addI (vE 3) (cE 1))))) (inS 4 1) FU) (104, [(0, 2), (1, 0), (2, 0), (3, 0), (4, 0)]) B C := fs_while t_M_layWorks_10 t_M_layWorks_11 (fs_goto t_M_layWorks_12 dX12_layWorks_101 rfl)
set_option maxRecDepth 20000 in
theorem t_M_layWorks_14 {B C : Nat × FT} : fw_S s_M_layWorks [(0, 2), (1, 0), (2, 0)] 104 (inS 2 1) (107, [(0, 2), (1, 0), (2, 0)]) B C := fs_inc (j := 2) rfl dX12_layWorks_104 (by decide) rfl
set_option maxRecDepth 20000 in
theorem t_M_layWorks_15 {B C : Nat × FT} : fw_S s_M_layWorks [(0, 2), (1, 0), (2, 0)] 24 (whS (nB (cB 3 (vE 2) (clE m_M_bells [(cE 0)]))) (sq (stS 3 (o2 addI (cE 161) (o2 mulI (cE 3) (vE 2)))) (sq (ifS (nB (cB 1 (ldE 128 592 (thE (cE 0) (cE 0)) (o2 addI (vE 3) (cE 1))) (vE 1))) ctS skS) (sq (stS 4 (cE 0)) (whS (nB (cB 3 (vE 4) (ldE 128 592 (thE (cE 0) (cE 0)) (o2 addI (vE 3) (cE 2))))) (aoS 640 168 iorI (thE (cE 0) (cE 0)) (o2 addI (ldE 128 592 (thE (cE 0) (cE 0)) (vE 3)) (vE 4)) (o2 shlI (cE 1) (ldE 128 592 (thE (cE 0) (cE 0)) (o2 addI (vE 3) (cE 1))))) (inS 4 1) FU)))) (inS 2 1) FU) (110, [(0, 2), (1, 0), (2, 0)]) B C := fs_while t_M_layWorks_6 (fs_seq t_M_layWorks_7 (fs_seq (fs_if t_M_layWorks_8 (fs_cnt dX12_layWorks_52 rfl rfl) (fs_skip rfl)) (fs_seq t_M_layWorks_9 (fs_weak t_M_layWorks_13 rfl)))) (fs_goto t_M_layWorks_14 dX12_layWorks_107 rfl)
set_option maxRecDepth 20000 in
theorem t_M_layWorks_16 {N B C : Nat × FT} : fw_S s_M_layWorks [(0, 2), (1, 0)] 110 rvS N B C := fs_rv dX12_layWorks_110
set_option maxRecDepth 20000 in
theorem C_M_layWorks : fw_C LM yX12_layWorks cX12_layWorks 5 none 2 [2, 0] (none) m_M_layWorks := fm_v (d := 2) (N := (0, [])) (B := (0, [])) (C := (0, [])) LM_ok (by decide +kernel) (show fw_S s_M_layWorks _ 0 b_M_layWorks _ _ _ from (fs_seq (fs_seq t_M_layWorks_0 (fs_weak t_M_layWorks_4 rfl)) (fs_seq (fs_seq t_M_layWorks_5 (fs_weak t_M_layWorks_15 rfl)) t_M_layWorks_16))) (by decide)
/-! DyerBellsModel.layFlows (this 0 ) -/
abbrev s_M_layFlows : SI := (LM, RX12, cX12_layFlows, 2, 1, none)
set_option maxRecDepth 20000 in
theorem t_M_layFlows_0 {B C : Nat × FT} : fw_S s_M_layFlows [(0, 2)] 0 (stS 1 (cE 0)) (2, [(0, 2), (1, 0)]) B C := fs_istn (fe_iconst dX12_layFlows_0) dX12_layFlows_1 (by decide) rfl
set_option maxRecDepth 20000 in
theorem t_M_layFlows_1 : fw_B s_M_layFlows [(0, 2), (1, 0)] 0 2 8 29 (nB (cB 3 (vE 1) (cE 7))) := (fb_not (fb_icmp_ge (fe_iloadn 1 rfl dX12_layFlows_2) (fe_bipush dX12_layFlows_3) dX12_layFlows_5 rfl))
set_option maxRecDepth 20000 in
theorem t_M_layFlows_2 {B C : Nat × FT} : fw_S s_M_layFlows [(0, 2), (1, 0)] 8 (asS 960 7 idI (thE (cE 0) (cE 0)) (vE 1) (ldE 128 592 (thE (cE 0) (cE 0)) (o2 addI (cE 110) (vE 1)))) (23, [(0, 2), (1, 0)]) B C := fs_iast (fe_getR (fe_aloadn 0 rfl dX12_layFlows_8) fl_RX12_54 lm_0 rfl dX12_layFlows_9) (fe_iloadn 1 rfl dX12_layFlows_12) (fe_iald (fe_getR (fe_aloadn 0 rfl dX12_layFlows_13) fl_RX12_13 lm_0 rfl dX12_layFlows_14) (fe_iadd (fe_bipush dX12_layFlows_17) (fe_iloadn 1 rfl dX12_layFlows_19) dX12_layFlows_20) lm_2 dX12_layFlows_21) lm_15 dX12_layFlows_22 rfl
set_option maxRecDepth 20000 in
theorem t_M_layFlows_3 {B C : Nat × FT} : fw_S s_M_layFlows [(0, 2), (1, 0)] 23 (inS 1 1) (26, [(0, 2), (1, 0)]) B C := fs_inc (j := 1) rfl dX12_layFlows_23 (by decide) rfl
set_option maxRecDepth 20000 in
theorem t_M_layFlows_4 {B C : Nat × FT} : fw_S s_M_layFlows [(0, 2), (1, 0)] 2 (whS (nB (cB 3 (vE 1) (cE 7))) (asS 960 7 idI (thE (cE 0) (cE 0)) (vE 1) (ldE 128 592 (thE (cE 0) (cE 0)) (o2 addI (cE 110) (vE 1)))) (inS 1 1) FU) (29, [(0, 2), (1, 0)]) B C := fs_while t_M_layFlows_1 t_M_layFlows_2 (fs_goto t_M_layFlows_3 dX12_layFlows_26 rfl)
set_option maxRecDepth 20000 in
theorem t_M_layFlows_5 {N B C : Nat × FT} : fw_S s_M_layFlows [(0, 2)] 29 rvS N B C := fs_rv dX12_layFlows_29
set_option maxRecDepth 20000 in
theorem C_M_layFlows : fw_C LM yX12_layFlows cX12_layFlows 2 none 1 [2] (none) m_M_layFlows := fm_v (d := 1) (N := (0, [])) (B := (0, [])) (C := (0, [])) LM_ok (by decide +kernel) (show fw_S s_M_layFlows _ 0 b_M_layFlows _ _ _ from (fs_seq (fs_seq t_M_layFlows_0 (fs_weak t_M_layFlows_4 rfl)) t_M_layFlows_5)) (by decide)
/-! DyerBellsModel.hour (this 0 ) -/
abbrev s_M_hour : SI := (LM, RX12, cX12_hour, 8, 2, none)
set_option maxRecDepth 20000 in
theorem t_M_hour_0 {B C : Nat × FT} : fw_S s_M_hour [(0, 2), (1, 0), (2, 0), (3, 0)] 0 (stS 4 (cE 0)) (3, [(0, 2), (1, 0), (2, 0), (3, 0), (4, 0)]) B C := fs_ist (fe_iconst dX12_hour_0) dX12_hour_1 (by decide) rfl
set_option maxRecDepth 20000 in
theorem t_M_hour_1 : fw_B s_M_hour [(0, 2), (1, 0), (2, 0), (3, 0), (4, 0)] 0 3 12 103 (nB (cB 3 (vE 4) (clE m_M_guilds [(cE 0)]))) := (fb_not (fb_icmp_ge (fe_iload 4 rfl dX12_hour_3) (fe_callV (fa_cons (fe_aloadn 0 rfl dX12_hour_5) fa_nil) C_M_guilds lv_RX12_196 lm_0 rfl rfl (by decide) (by decide) (by decide) dX12_hour_6) dX12_hour_9 rfl))
set_option maxRecDepth 20000 in
theorem t_M_hour_2 : fw_B s_M_hour [(0, 2), (1, 0), (2, 0), (3, 0), (4, 0)] 0 12 26 29 (nB (zB 1 (clE m_M_has [(ldE 640 168 (thE (cE 0) (cE 0)) (vE 1)), (vE 4)]))) := (fb_not (fb_if_ne (fe_callS (fa_cons (fe_iald (fe_getR (fe_aloadn 0 rfl dX12_hour_12) fl_RX12_39 lm_0 rfl dX12_hour_13) (fe_iloadn 1 rfl dX12_hour_16) lm_10 dX12_hour_17) (fa_cons (fe_iload 4 rfl dX12_hour_18) fa_nil)) C_M_has ls_RX12_220 rfl (by decide) (by decide) (by decide) dX12_hour_20) dX12_hour_23 rfl))
set_option maxRecDepth 20000 in
theorem t_M_hour_3 {B C : Nat × FT} : fw_S s_M_hour [(0, 2), (1, 0), (2, 0), (3, 0), (4, 0)] 29 (aoS 704 40 addI (thE (cE 0) (cE 0)) (o2 addI (o2 mulI (cE 4) (ldE 128 592 (thE (cE 0) (cE 0)) (o2 addI (cE 30) (o2 mulI (cE 6) (vE 4))))) (vE 2)) (ldE 128 592 (thE (cE 0) (cE 0)) (o2 addI (o2 addI (o2 addI (cE 30) (o2 mulI (cE 6) (vE 4))) (cE 2)) (vE 2)))) (71, [(0, 2), (1, 0), (2, 0), (3, 0), (4, 0)]) B C := fs_ao_add (fe_getR (fe_aloadn 0 rfl dX12_hour_29) fl_RX12_42 lm_0 rfl dX12_hour_30) (fe_iadd (fe_imul (fe_iconst dX12_hour_33) (fe_iald (fe_getR (fe_aloadn 0 rfl dX12_hour_34) fl_RX12_13 lm_0 rfl dX12_hour_35) (fe_iadd (fe_bipush dX12_hour_38) (fe_imul (fe_bipush dX12_hour_40) (fe_iload 4 rfl dX12_hour_42) dX12_hour_44) dX12_hour_45) lm_2 dX12_hour_46) dX12_hour_47) (fe_iloadn 2 rfl dX12_hour_48) dX12_hour_49) dX12_hour_50 dX12_hour_51 (fe_iald (fe_getR (fe_aloadn 0 rfl dX12_hour_52) fl_RX12_13 lm_0 rfl dX12_hour_53) (fe_iadd (fe_iadd (fe_iadd (fe_bipush dX12_hour_56) (fe_imul (fe_bipush dX12_hour_58) (fe_iload 4 rfl dX12_hour_60) dX12_hour_62) dX12_hour_63) (fe_iconst dX12_hour_64) dX12_hour_65) (fe_iloadn 2 rfl dX12_hour_66) dX12_hour_67) lm_2 dX12_hour_68) dX12_hour_69 lm_11 dX12_hour_70 rfl
set_option maxRecDepth 20000 in
theorem t_M_hour_4 {B C : Nat × FT} : fw_S s_M_hour [(0, 2), (1, 0), (2, 0), (3, 0), (4, 0)] 71 (aoS 896 4 addI (thE (cE 0) (cE 0)) (vE 2) (ldE 128 592 (thE (cE 0) (cE 0)) (o2 addI (o2 addI (o2 addI (cE 30) (o2 mulI (cE 6) (vE 4))) (cE 2)) (vE 2)))) (97, [(0, 2), (1, 0), (2, 0), (3, 0), (4, 0)]) B C := fs_ao_add (fe_getR (fe_aloadn 0 rfl dX12_hour_71) fl_RX12_51 lm_0 rfl dX12_hour_72) (fe_iloadn 2 rfl dX12_hour_75) dX12_hour_76 dX12_hour_77 (fe_iald (fe_getR (fe_aloadn 0 rfl dX12_hour_78) fl_RX12_13 lm_0 rfl dX12_hour_79) (fe_iadd (fe_iadd (fe_iadd (fe_bipush dX12_hour_82) (fe_imul (fe_bipush dX12_hour_84) (fe_iload 4 rfl dX12_hour_86) dX12_hour_88) dX12_hour_89) (fe_iconst dX12_hour_90) dX12_hour_91) (fe_iloadn 2 rfl dX12_hour_92) dX12_hour_93) lm_2 dX12_hour_94) dX12_hour_95 lm_14 dX12_hour_96 rfl
set_option maxRecDepth 20000 in
theorem t_M_hour_5 {B C : Nat × FT} : fw_S s_M_hour [(0, 2), (1, 0), (2, 0), (3, 0), (4, 0)] 97 (inS 4 1) (100, [(0, 2), (1, 0), (2, 0), (3, 0), (4, 0)]) B C := fs_inc (j := 4) rfl dX12_hour_97 (by decide) rfl
set_option maxRecDepth 20000 in
theorem t_M_hour_6 {B C : Nat × FT} : fw_S s_M_hour [(0, 2), (1, 0), (2, 0), (3, 0), (4, 0)] 3 (whS (nB (cB 3 (vE 4) (clE m_M_guilds [(cE 0)]))) (sq (ifS (nB (zB 1 (clE m_M_has [(ldE 640 168 (thE (cE 0) (cE 0)) (vE 1)), (vE 4)]))) ctS skS) (sq (aoS 704 40 addI (thE (cE 0) (cE 0)) (o2 addI (o2 mulI (cE 4) (ldE 128 592 (thE (cE 0) (cE 0)) (o2 addI (cE 30) (o2 mulI (cE 6) (vE 4))))) (vE 2)) (ldE 128 592 (thE (cE 0) (cE 0)) (o2 addI (o2 addI (o2 addI (cE 30) (o2 mulI (cE 6) (vE 4))) (cE 2)) (vE 2)))) (aoS 896 4 addI (thE (cE 0) (cE 0)) (vE 2) (ldE 128 592 (thE (cE 0) (cE 0)) (o2 addI (o2 addI (o2 addI (cE 30) (o2 mulI (cE 6) (vE 4))) (cE 2)) (vE 2)))))) (inS 4 1) FU) (103, [(0, 2), (1, 0), (2, 0), (3, 0), (4, 0)]) B C := fs_while t_M_hour_1 (fs_seq (fs_if t_M_hour_2 (fs_cnt dX12_hour_26 rfl rfl) (fs_skip rfl)) (fs_seq t_M_hour_3 t_M_hour_4)) (fs_goto t_M_hour_5 dX12_hour_100 rfl)
set_option maxRecDepth 20000 in
theorem t_M_hour_7 : fw_B s_M_hour [(0, 2), (1, 0), (2, 0), (3, 0)] 0 103 123 143 (andB (andB (nB (zB 1 (vE 1))) (nB (cB 0 (thE (cE 0) (gE 34)) (cE (-1))))) (nB (cB 1 (vE 2) (thE (cE 0) (gE 35))))) := (fb_and (fb_and (fb_not (fb_if_ne (fe_iloadn 1 rfl dX12_hour_103) dX12_hour_104 rfl)) (fb_not (fb_icmp_eq (fe_getI (fe_aloadn 0 rfl dX12_hour_107) fl_RX12_63 lm_0 rfl dX12_hour_108) (fe_iconst dX12_hour_111) dX12_hour_112 rfl))) (fb_not (fb_icmp_ne (fe_iloadn 2 rfl dX12_hour_115) (fe_getI (fe_aloadn 0 rfl dX12_hour_116) fl_RX12_293 lm_0 rfl dX12_hour_117) dX12_hour_120 rfl)))
set_option maxRecDepth 20000 in
theorem t_M_hour_8 {B C : Nat × FT} : fw_S s_M_hour [(0, 2), (1, 0), (2, 0), (3, 0)] 123 (aoS 704 40 addI (thE (cE 0) (cE 0)) (o2 addI (o2 mulI (cE 4) (thE (cE 0) (gE 34))) (vE 2)) (thE (cE 0) (gE 36))) (143, [(0, 2), (1, 0), (2, 0), (3, 0)]) B C := fs_ao_add (fe_getR (fe_aloadn 0 rfl dX12_hour_123) fl_RX12_42 lm_0 rfl dX12_hour_124) (fe_iadd (fe_imul (fe_iconst dX12_hour_127) (fe_getI (fe_aloadn 0 rfl dX12_hour_128) fl_RX12_63 lm_0 rfl dX12_hour_129) dX12_hour_132) (fe_iloadn 2 rfl dX12_hour_133) dX12_hour_134) dX12_hour_135 dX12_hour_136 (fe_getI (fe_aloadn 0 rfl dX12_hour_137) fl_RX12_296 lm_0 rfl dX12_hour_138) dX12_hour_141 lm_11 dX12_hour_142 rfl
set_option maxRecDepth 20000 in
theorem t_M_hour_9 {B C : Nat × FT} : fw_S s_M_hour [(0, 2), (1, 0), (2, 0), (3, 0)] 143 (asS 832 672 idI (thE (cE 0) (cE 0)) (o2 addI (o2 mulI (cE 4) (vE 1)) (vE 2)) (cE 0)) (154, [(0, 2), (1, 0), (2, 0), (3, 0)]) B C := fs_iast (fe_getR (fe_aloadn 0 rfl dX12_hour_143) fl_RX12_48 lm_0 rfl dX12_hour_144) (fe_iadd (fe_imul (fe_iconst dX12_hour_147) (fe_iloadn 1 rfl dX12_hour_148) dX12_hour_149) (fe_iloadn 2 rfl dX12_hour_150) dX12_hour_151) (fe_iconst dX12_hour_152) lm_13 dX12_hour_153 rfl
set_option maxRecDepth 20000 in
theorem t_M_hour_10 {B C : Nat × FT} : fw_S s_M_hour [(0, 2), (1, 0), (2, 0), (3, 0)] 154 (stS 4 (o2 subI (clE m_M_reaches [(cE 0)]) (cE 1))) (162, [(0, 2), (1, 0), (2, 0), (3, 0), (4, 0)]) B C := fs_ist (fe_isub (fe_callV (fa_cons (fe_aloadn 0 rfl dX12_hour_154) fa_nil) C_M_reaches lv_RX12_190 lm_0 rfl rfl (by decide) (by decide) (by decide) dX12_hour_155) (fe_iconst dX12_hour_158) dX12_hour_159) dX12_hour_160 (by decide) rfl
set_option maxRecDepth 20000 in
theorem t_M_hour_11 : fw_B s_M_hour [(0, 2), (1, 0), (2, 0), (3, 0), (4, 0)] 0 162 167 324 (nB (zB 2 (vE 4))) := (fb_not (fb_if_lt (fe_iload 4 rfl dX12_hour_162) dX12_hour_164 rfl))
set_option maxRecDepth 20000 in
theorem t_M_hour_12 {B C : Nat × FT} : fw_S s_M_hour [(0, 2), (1, 0), (2, 0), (3, 0), (4, 0)] 167 (stS 5 (o2 addI (o2 mulI (cE 4) (vE 4)) (vE 2))) (175, [(0, 2), (1, 0), (2, 0), (3, 0), (4, 0), (5, 0)]) B C := fs_ist (fe_iadd (fe_imul (fe_iconst dX12_hour_167) (fe_iload 4 rfl dX12_hour_168) dX12_hour_170) (fe_iloadn 2 rfl dX12_hour_171) dX12_hour_172) dX12_hour_173 (by decide) rfl
set_option maxRecDepth 20000 in
theorem t_M_hour_13 {B C : Nat × FT} : fw_S s_M_hour [(0, 2), (1, 0), (2, 0), (3, 0), (4, 0), (5, 0)] 175 (stS 6 (ldE 128 592 (thE (cE 0) (cE 0)) (o2 addI (cE 10) (o2 mulI (cE 2) (vE 4))))) (189, [(0, 2), (1, 0), (2, 0), (3, 0), (4, 0), (5, 0), (6, 0)]) B C := fs_ist (fe_iald (fe_getR (fe_aloadn 0 rfl dX12_hour_175) fl_RX12_13 lm_0 rfl dX12_hour_176) (fe_iadd (fe_bipush dX12_hour_179) (fe_imul (fe_iconst dX12_hour_181) (fe_iload 4 rfl dX12_hour_182) dX12_hour_184) dX12_hour_185) lm_2 dX12_hour_186) dX12_hour_187 (by decide) rfl
set_option maxRecDepth 20000 in
theorem t_M_hour_14 : fw_B s_M_hour [(0, 2), (1, 0), (2, 0), (3, 0), (4, 0), (5, 0), (6, 0)] 0 189 199 234 (nB (cB 2 (vE 3) (ldE 128 592 (thE (cE 0) (cE 0)) (cE 5)))) := (fb_not (fb_icmp_lt (fe_iloadn 3 rfl dX12_hour_189) (fe_iald (fe_getR (fe_aloadn 0 rfl dX12_hour_190) fl_RX12_13 lm_0 rfl dX12_hour_191) (fe_iconst dX12_hour_194) lm_2 dX12_hour_195) dX12_hour_196 rfl))
set_option maxRecDepth 20000 in
theorem t_M_hour_15 {B C : Nat × FT} : fw_S s_M_hour [(0, 2), (1, 0), (2, 0), (3, 0), (4, 0), (5, 0), (6, 0)] 199 (stS 7 (dvE (ldE 768 40 (thE (cE 0) (cE 0)) (vE 5)) (cE 2))) (210, [(0, 2), (1, 0), (2, 0), (3, 0), (4, 0), (5, 0), (6, 0), (7, 0)]) B C := fs_ist (fe_idiv (fe_iald (fe_getR (fe_aloadn 0 rfl dX12_hour_199) fl_RX12_45 lm_0 rfl dX12_hour_200) (fe_iload 5 rfl dX12_hour_203) lm_12 dX12_hour_205) (fe_iconst dX12_hour_206) dX12_hour_207) dX12_hour_208 (by decide) rfl
set_option maxRecDepth 20000 in
theorem t_M_hour_16 {B C : Nat × FT} : fw_S s_M_hour [(0, 2), (1, 0), (2, 0), (3, 0), (4, 0), (5, 0), (6, 0), (7, 0)] 210 (aoS 768 40 subI (thE (cE 0) (cE 0)) (vE 5) (vE 7)) (222, [(0, 2), (1, 0), (2, 0), (3, 0), (4, 0), (5, 0), (6, 0), (7, 0)]) B C := fs_ao_sub (fe_getR (fe_aloadn 0 rfl dX12_hour_210) fl_RX12_45 lm_0 rfl dX12_hour_211) (fe_iload 5 rfl dX12_hour_214) dX12_hour_216 dX12_hour_217 (fe_iload 7 rfl dX12_hour_218) dX12_hour_220 lm_12 dX12_hour_221 rfl
set_option maxRecDepth 20000 in
theorem t_M_hour_17 {B C : Nat × FT} : fw_S s_M_hour [(0, 2), (1, 0), (2, 0), (3, 0), (4, 0), (5, 0), (6, 0), (7, 0)] 222 (aoS 704 40 addI (thE (cE 0) (cE 0)) (vE 5) (vE 7)) (234, [(0, 2), (1, 0), (2, 0), (3, 0), (4, 0), (5, 0), (6, 0)]) B C := fs_ao_add (fe_getR (fe_aloadn 0 rfl dX12_hour_222) fl_RX12_42 lm_0 rfl dX12_hour_223) (fe_iload 5 rfl dX12_hour_226) dX12_hour_228 dX12_hour_229 (fe_iload 7 rfl dX12_hour_230) dX12_hour_232 lm_11 dX12_hour_233 rfl
set_option maxRecDepth 20000 in
theorem t_M_hour_18 {B C : Nat × FT} : fw_S s_M_hour [(0, 2), (1, 0), (2, 0), (3, 0), (4, 0), (5, 0), (6, 0)] 234 (stS 7 (o1 l2iI (dlE (o2 mulI (o1 i2lI (ldE 704 40 (thE (cE 0) (cE 0)) (vE 5))) (o1 i2lI (kE (nB (cB 3 (vE 3) (vE 6))) (vE 3) (vE 6)))) (o1 i2lI (vE 6))))) (263, [(0, 2), (1, 0), (2, 0), (3, 0), (4, 0), (5, 0), (6, 0), (7, 0)]) B C := fs_ist (fe_l2i (fe_ldiv (fe_lmul (fe_i2l (fe_iald (fe_getR (fe_aloadn 0 rfl dX12_hour_234) fl_RX12_42 lm_0 rfl dX12_hour_235) (fe_iload 5 rfl dX12_hour_238) lm_11 dX12_hour_240) dX12_hour_241) (fe_i2l (fe_ternG (fb_not (fb_icmp_ge (fe_iloadn 3 rfl dX12_hour_242) (fe_iload 6 rfl dX12_hour_243) dX12_hour_245 rfl)) (fe_gt (fe_iloadn 3 rfl dX12_hour_248) dX12_hour_249 rfl) (fe_iload 6 rfl dX12_hour_252)) dX12_hour_254) dX12_hour_255) (fe_i2l (fe_iload 6 rfl dX12_hour_256) dX12_hour_258) dX12_hour_259) dX12_hour_260) dX12_hour_261 (by decide) rfl
set_option maxRecDepth 20000 in
theorem t_M_hour_19 {B C : Nat × FT} : fw_S s_M_hour [(0, 2), (1, 0), (2, 0), (3, 0), (4, 0), (5, 0), (6, 0), (7, 0)] 263 (aoS 704 40 subI (thE (cE 0) (cE 0)) (vE 5) (vE 7)) (275, [(0, 2), (1, 0), (2, 0), (3, 0), (4, 0), (5, 0), (6, 0), (7, 0)]) B C := fs_ao_sub (fe_getR (fe_aloadn 0 rfl dX12_hour_263) fl_RX12_42 lm_0 rfl dX12_hour_264) (fe_iload 5 rfl dX12_hour_267) dX12_hour_269 dX12_hour_270 (fe_iload 7 rfl dX12_hour_271) dX12_hour_273 lm_11 dX12_hour_274 rfl
set_option maxRecDepth 20000 in
theorem t_M_hour_20 : fw_B s_M_hour [(0, 2), (1, 0), (2, 0), (3, 0), (4, 0), (5, 0), (6, 0), (7, 0)] 0 275 286 304 (nB (cB 1 (vE 4) (o2 subI (clE m_M_reaches [(cE 0)]) (cE 1)))) := (fb_not (fb_icmp_ne (fe_iload 4 rfl dX12_hour_275) (fe_isub (fe_callV (fa_cons (fe_aloadn 0 rfl dX12_hour_277) fa_nil) C_M_reaches lv_RX12_190 lm_0 rfl rfl (by decide) (by decide) (by decide) dX12_hour_278) (fe_iconst dX12_hour_281) dX12_hour_282) dX12_hour_283 rfl))
set_option maxRecDepth 20000 in
theorem t_M_hour_21 {B C : Nat × FT} : fw_S s_M_hour [(0, 2), (1, 0), (2, 0), (3, 0), (4, 0), (5, 0), (6, 0), (7, 0)] 286 (aoS 832 672 addI (thE (cE 0) (cE 0)) (o2 addI (o2 mulI (cE 4) (vE 1)) (vE 2)) (vE 7)) (301, [(0, 2), (1, 0), (2, 0), (3, 0), (4, 0)]) B C := fs_ao_add (fe_getR (fe_aloadn 0 rfl dX12_hour_286) fl_RX12_48 lm_0 rfl dX12_hour_287) (fe_iadd (fe_imul (fe_iconst dX12_hour_290) (fe_iloadn 1 rfl dX12_hour_291) dX12_hour_292) (fe_iloadn 2 rfl dX12_hour_293) dX12_hour_294) dX12_hour_295 dX12_hour_296 (fe_iload 7 rfl dX12_hour_297) dX12_hour_299 lm_13 dX12_hour_300 rfl
set_option maxRecDepth 20000 in
theorem t_M_hour_22 {B C : Nat × FT} : fw_S s_M_hour [(0, 2), (1, 0), (2, 0), (3, 0), (4, 0), (5, 0), (6, 0), (7, 0)] 304 (aoS 704 40 addI (thE (cE 0) (cE 0)) (o2 addI (vE 5) (cE 4)) (vE 7)) (318, [(0, 2), (1, 0), (2, 0), (3, 0), (4, 0)]) B C := fs_ao_add (fe_getR (fe_aloadn 0 rfl dX12_hour_304) fl_RX12_42 lm_0 rfl dX12_hour_305) (fe_iadd (fe_iload 5 rfl dX12_hour_308) (fe_iconst dX12_hour_310) dX12_hour_311) dX12_hour_312 dX12_hour_313 (fe_iload 7 rfl dX12_hour_314) dX12_hour_316 lm_11 dX12_hour_317 rfl
set_option maxRecDepth 20000 in
theorem t_M_hour_23 {B C : Nat × FT} : fw_S s_M_hour [(0, 2), (1, 0), (2, 0), (3, 0), (4, 0)] 318 (inS 4 (-1)) (321, [(0, 2), (1, 0), (2, 0), (3, 0), (4, 0)]) B C := fs_inc (j := 4) rfl dX12_hour_318 (by decide) rfl
set_option maxRecDepth 20000 in
theorem t_M_hour_24 {B C : Nat × FT} : fw_S s_M_hour [(0, 2), (1, 0), (2, 0), (3, 0), (4, 0)] 162 (whS (nB (zB 2 (vE 4))) (sq (stS 5 (o2 addI (o2 mulI (cE 4) (vE 4)) (vE 2))) (sq (stS 6 (ldE 128 592 (thE (cE 0) (cE 0)) (o2 addI (cE 10) (o2 mulI (cE 2) (vE 4))))) (sq (ifS (nB (cB 2 (vE 3) (ldE 128 592 (thE (cE 0) (cE 0)) (cE 5)))) (sq (stS 7 (dvE (ldE 768 40 (thE (cE 0) (cE 0)) (vE 5)) (cE 2))) (sq (aoS 768 40 subI (thE (cE 0) (cE 0)) (vE 5) (vE 7)) (aoS 704 40 addI (thE (cE 0) (cE 0)) (vE 5) (vE 7)))) skS) (sq (stS 7 (o1 l2iI (dlE (o2 mulI (o1 i2lI (ldE 704 40 (thE (cE 0) (cE 0)) (vE 5))) (o1 i2lI (kE (nB (cB 3 (vE 3) (vE 6))) (vE 3) (vE 6)))) (o1 i2lI (vE 6))))) (sq (aoS 704 40 subI (thE (cE 0) (cE 0)) (vE 5) (vE 7)) (ifS (nB (cB 1 (vE 4) (o2 subI (clE m_M_reaches [(cE 0)]) (cE 1)))) (aoS 832 672 addI (thE (cE 0) (cE 0)) (o2 addI (o2 mulI (cE 4) (vE 1)) (vE 2)) (vE 7)) (aoS 704 40 addI (thE (cE 0) (cE 0)) (o2 addI (vE 5) (cE 4)) (vE 7)))))))) (inS 4 (-1)) FU) (324, [(0, 2), (1, 0), (2, 0), (3, 0), (4, 0)]) B C := fs_while t_M_hour_11 (fs_seq t_M_hour_12 (fs_seq t_M_hour_13 (fs_seq (fs_if t_M_hour_14 (fs_seq t_M_hour_15 (fs_seq t_M_hour_16 t_M_hour_17)) (fs_skip rfl)) (fs_seq t_M_hour_18 (fs_seq t_M_hour_19 (fs_if t_M_hour_20 (fs_goto t_M_hour_21 dX12_hour_301 rfl) t_M_hour_22)))))) (fs_goto t_M_hour_23 dX12_hour_321 rfl)
set_option maxRecDepth 20000 in
theorem t_M_hour_25 {B C : Nat × FT} : fw_S s_M_hour [(0, 2), (1, 0), (2, 0), (3, 0)] 324 (stS 4 (cE 0)) (327, [(0, 2), (1, 0), (2, 0), (3, 0), (4, 0)]) B C := fs_ist (fe_iconst dX12_hour_324) dX12_hour_325 (by decide) rfl
set_option maxRecDepth 20000 in
theorem t_M_hour_26 : fw_B s_M_hour [(0, 2), (1, 0), (2, 0), (3, 0), (4, 0)] 0 327 336 443 (nB (cB 3 (vE 4) (clE m_M_reaches [(cE 0)]))) := (fb_not (fb_icmp_ge (fe_iload 4 rfl dX12_hour_327) (fe_callV (fa_cons (fe_aloadn 0 rfl dX12_hour_329) fa_nil) C_M_reaches lv_RX12_190 lm_0 rfl rfl (by decide) (by decide) (by decide) dX12_hour_330) dX12_hour_333 rfl))
set_option maxRecDepth 20000 in
theorem t_M_hour_27 {B C : Nat × FT} : fw_S s_M_hour [(0, 2), (1, 0), (2, 0), (3, 0), (4, 0)] 336 (stS 5 (o2 addI (o2 mulI (cE 4) (vE 4)) (vE 2))) (344, [(0, 2), (1, 0), (2, 0), (3, 0), (4, 0), (5, 0)]) B C := fs_ist (fe_iadd (fe_imul (fe_iconst dX12_hour_336) (fe_iload 4 rfl dX12_hour_337) dX12_hour_339) (fe_iloadn 2 rfl dX12_hour_340) dX12_hour_341) dX12_hour_342 (by decide) rfl
set_option maxRecDepth 20000 in
theorem t_M_hour_28 {B C : Nat × FT} : fw_S s_M_hour [(0, 2), (1, 0), (2, 0), (3, 0), (4, 0), (5, 0)] 344 (stS 6 (o1 l2iI (dlE (o2 mulI (o1 i2lI (ldE 704 40 (thE (cE 0) (cE 0)) (vE 5))) (o1 i2lI (ldE 128 592 (thE (cE 0) (cE 0)) (o2 addI (o2 addI (cE 10) (o2 mulI (cE 2) (vE 4))) (cE 1))))) (cE 1000)))) (375, [(0, 2), (1, 0), (2, 0), (3, 0), (4, 0), (5, 0), (6, 0)]) B C := fs_ist (fe_l2i (fe_ldiv (fe_lmul (fe_i2l (fe_iald (fe_getR (fe_aloadn 0 rfl dX12_hour_344) fl_RX12_42 lm_0 rfl dX12_hour_345) (fe_iload 5 rfl dX12_hour_348) lm_11 dX12_hour_350) dX12_hour_351) (fe_i2l (fe_iald (fe_getR (fe_aloadn 0 rfl dX12_hour_352) fl_RX12_13 lm_0 rfl dX12_hour_353) (fe_iadd (fe_iadd (fe_bipush dX12_hour_356) (fe_imul (fe_iconst dX12_hour_358) (fe_iload 4 rfl dX12_hour_359) dX12_hour_361) dX12_hour_362) (fe_iconst dX12_hour_363) dX12_hour_364) lm_2 dX12_hour_365) dX12_hour_366) dX12_hour_367) (fe_ldc2 dX12_hour_368 wk_RX12_299) dX12_hour_371) dX12_hour_372) dX12_hour_373 (by decide) rfl
set_option maxRecDepth 20000 in
theorem t_M_hour_29 {B C : Nat × FT} : fw_S s_M_hour [(0, 2), (1, 0), (2, 0), (3, 0), (4, 0), (5, 0), (6, 0)] 375 (aoS 704 40 subI (thE (cE 0) (cE 0)) (vE 5) (vE 6)) (387, [(0, 2), (1, 0), (2, 0), (3, 0), (4, 0), (5, 0), (6, 0)]) B C := fs_ao_sub (fe_getR (fe_aloadn 0 rfl dX12_hour_375) fl_RX12_42 lm_0 rfl dX12_hour_376) (fe_iload 5 rfl dX12_hour_379) dX12_hour_381 dX12_hour_382 (fe_iload 6 rfl dX12_hour_383) dX12_hour_385 lm_11 dX12_hour_386 rfl
set_option maxRecDepth 20000 in
theorem t_M_hour_30 {B C : Nat × FT} : fw_S s_M_hour [(0, 2), (1, 0), (2, 0), (3, 0), (4, 0), (5, 0), (6, 0)] 387 (aoS 768 40 addI (thE (cE 0) (cE 0)) (vE 5) (vE 6)) (399, [(0, 2), (1, 0), (2, 0), (3, 0), (4, 0), (5, 0), (6, 0)]) B C := fs_ao_add (fe_getR (fe_aloadn 0 rfl dX12_hour_387) fl_RX12_45 lm_0 rfl dX12_hour_388) (fe_iload 5 rfl dX12_hour_391) dX12_hour_393 dX12_hour_394 (fe_iload 6 rfl dX12_hour_395) dX12_hour_397 lm_12 dX12_hour_398 rfl
set_option maxRecDepth 20000 in
theorem t_M_hour_31 {B C : Nat × FT} : fw_S s_M_hour [(0, 2), (1, 0), (2, 0), (3, 0), (4, 0), (5, 0), (6, 0)] 399 (asS 1024 6720 idI (thE (cE 0) (cE 0)) (o2 addI (o2 mulI (cE 40) (vE 1)) (vE 5)) (ldE 704 40 (thE (cE 0) (cE 0)) (vE 5))) (418, [(0, 2), (1, 0), (2, 0), (3, 0), (4, 0), (5, 0), (6, 0)]) B C := fs_iast (fe_getR (fe_aloadn 0 rfl dX12_hour_399) fl_RX12_57 lm_0 rfl dX12_hour_400) (fe_iadd (fe_imul (fe_bipush dX12_hour_403) (fe_iloadn 1 rfl dX12_hour_405) dX12_hour_406) (fe_iload 5 rfl dX12_hour_407) dX12_hour_409) (fe_iald (fe_getR (fe_aloadn 0 rfl dX12_hour_410) fl_RX12_42 lm_0 rfl dX12_hour_411) (fe_iload 5 rfl dX12_hour_414) lm_11 dX12_hour_416) lm_16 dX12_hour_417 rfl
set_option maxRecDepth 20000 in
theorem t_M_hour_32 {B C : Nat × FT} : fw_S s_M_hour [(0, 2), (1, 0), (2, 0), (3, 0), (4, 0), (5, 0), (6, 0)] 418 (asS 1088 6720 idI (thE (cE 0) (cE 0)) (o2 addI (o2 mulI (cE 40) (vE 1)) (vE 5)) (ldE 768 40 (thE (cE 0) (cE 0)) (vE 5))) (437, [(0, 2), (1, 0), (2, 0), (3, 0), (4, 0)]) B C := fs_iast (fe_getR (fe_aloadn 0 rfl dX12_hour_418) fl_RX12_60 lm_0 rfl dX12_hour_419) (fe_iadd (fe_imul (fe_bipush dX12_hour_422) (fe_iloadn 1 rfl dX12_hour_424) dX12_hour_425) (fe_iload 5 rfl dX12_hour_426) dX12_hour_428) (fe_iald (fe_getR (fe_aloadn 0 rfl dX12_hour_429) fl_RX12_45 lm_0 rfl dX12_hour_430) (fe_iload 5 rfl dX12_hour_433) lm_12 dX12_hour_435) lm_17 dX12_hour_436 rfl
set_option maxRecDepth 20000 in
theorem t_M_hour_33 {B C : Nat × FT} : fw_S s_M_hour [(0, 2), (1, 0), (2, 0), (3, 0), (4, 0)] 437 (inS 4 1) (440, [(0, 2), (1, 0), (2, 0), (3, 0), (4, 0)]) B C := fs_inc (j := 4) rfl dX12_hour_437 (by decide) rfl
set_option maxRecDepth 20000 in
theorem t_M_hour_34 {B C : Nat × FT} : fw_S s_M_hour [(0, 2), (1, 0), (2, 0), (3, 0), (4, 0)] 327 (whS (nB (cB 3 (vE 4) (clE m_M_reaches [(cE 0)]))) (sq (stS 5 (o2 addI (o2 mulI (cE 4) (vE 4)) (vE 2))) (sq (stS 6 (o1 l2iI (dlE (o2 mulI (o1 i2lI (ldE 704 40 (thE (cE 0) (cE 0)) (vE 5))) (o1 i2lI (ldE 128 592 (thE (cE 0) (cE 0)) (o2 addI (o2 addI (cE 10) (o2 mulI (cE 2) (vE 4))) (cE 1))))) (cE 1000)))) (sq (aoS 704 40 subI (thE (cE 0) (cE 0)) (vE 5) (vE 6)) (sq (aoS 768 40 addI (thE (cE 0) (cE 0)) (vE 5) (vE 6)) (sq (asS 1024 6720 idI (thE (cE 0) (cE 0)) (o2 addI (o2 mulI (cE 40) (vE 1)) (vE 5)) (ldE 704 40 (thE (cE 0) (cE 0)) (vE 5))) (asS 1088 6720 idI (thE (cE 0) (cE 0)) (o2 addI (o2 mulI (cE 40) (vE 1)) (vE 5)) (ldE 768 40 (thE (cE 0) (cE 0)) (vE 5)))))))) (inS 4 1) FU) (443, [(0, 2), (1, 0), (2, 0), (3, 0), (4, 0)]) B C := fs_while t_M_hour_26 (fs_seq t_M_hour_27 (fs_seq t_M_hour_28 (fs_seq t_M_hour_29 (fs_seq t_M_hour_30 (fs_seq t_M_hour_31 t_M_hour_32))))) (fs_goto t_M_hour_33 dX12_hour_440 rfl)
set_option maxRecDepth 20000 in
theorem t_M_hour_35 {N B C : Nat × FT} : fw_S s_M_hour [(0, 2), (1, 0), (2, 0), (3, 0)] 443 rvS N B C := fs_rv dX12_hour_443
set_option maxRecDepth 20000 in
theorem C_M_hour : fw_C LM yX12_hour cX12_hour 8 none 2 [2, 0, 0, 0] (none) m_M_hour := fm_v (d := 2) (N := (0, [])) (B := (0, [])) (C := (0, [])) LM_ok (by decide +kernel) (show fw_S s_M_hour _ 0 b_M_hour _ _ _ from (fs_seq (fs_seq t_M_hour_0 (fs_weak t_M_hour_6 rfl)) (fs_seq (fs_if t_M_hour_7 t_M_hour_8 (fs_skip rfl)) (fs_seq t_M_hour_9 (fs_seq (fs_seq t_M_hour_10 (fs_weak t_M_hour_24 rfl)) (fs_seq (fs_seq t_M_hour_25 (fs_weak t_M_hour_34 rfl)) t_M_hour_35)))))) (by decide)
/-! DyerBellsModel.goWeek (this 0 ) -/
abbrev s_M_goWeek : SI := (LM, RX12, cX12_goWeek, 3, 3, none)
set_option maxRecDepth 20000 in
theorem t_M_goWeek_0 {B C : Nat × FT} : fw_S s_M_goWeek [(0, 2)] 0 (stS 1 (cE 0)) (2, [(0, 2), (1, 0)]) B C := fs_istn (fe_iconst dX12_goWeek_0) dX12_goWeek_1 (by decide) rfl
set_option maxRecDepth 20000 in
theorem t_M_goWeek_1 : fw_B s_M_goWeek [(0, 2), (1, 0)] 0 2 8 28 (nB (cB 3 (vE 1) (cE 40))) := (fb_not (fb_icmp_ge (fe_iloadn 1 rfl dX12_goWeek_2) (fe_bipush dX12_goWeek_3) dX12_goWeek_5 rfl))
set_option maxRecDepth 20000 in
theorem t_M_goWeek_2 {B C : Nat × FT} : fw_S s_M_goWeek [(0, 2), (1, 0)] 8 (asS 704 40 idI (thE (cE 0) (cE 0)) (vE 1) (cE 0)) (15, [(0, 2), (1, 0)]) B C := fs_iast (fe_getR (fe_aloadn 0 rfl dX12_goWeek_8) fl_RX12_42 lm_0 rfl dX12_goWeek_9) (fe_iloadn 1 rfl dX12_goWeek_12) (fe_iconst dX12_goWeek_13) lm_11 dX12_goWeek_14 rfl
set_option maxRecDepth 20000 in
theorem t_M_goWeek_3 {B C : Nat × FT} : fw_S s_M_goWeek [(0, 2), (1, 0)] 15 (asS 768 40 idI (thE (cE 0) (cE 0)) (vE 1) (cE 0)) (22, [(0, 2), (1, 0)]) B C := fs_iast (fe_getR (fe_aloadn 0 rfl dX12_goWeek_15) fl_RX12_45 lm_0 rfl dX12_goWeek_16) (fe_iloadn 1 rfl dX12_goWeek_19) (fe_iconst dX12_goWeek_20) lm_12 dX12_goWeek_21 rfl
set_option maxRecDepth 20000 in
theorem t_M_goWeek_4 {B C : Nat × FT} : fw_S s_M_goWeek [(0, 2), (1, 0)] 22 (inS 1 1) (25, [(0, 2), (1, 0)]) B C := fs_inc (j := 1) rfl dX12_goWeek_22 (by decide) rfl
set_option maxRecDepth 20000 in
theorem t_M_goWeek_5 {B C : Nat × FT} : fw_S s_M_goWeek [(0, 2), (1, 0)] 2 (whS (nB (cB 3 (vE 1) (cE 40))) (sq (asS 704 40 idI (thE (cE 0) (cE 0)) (vE 1) (cE 0)) (asS 768 40 idI (thE (cE 0) (cE 0)) (vE 1) (cE 0))) (inS 1 1) FU) (28, [(0, 2), (1, 0)]) B C := fs_while t_M_goWeek_1 (fs_seq t_M_goWeek_2 t_M_goWeek_3) (fs_goto t_M_goWeek_4 dX12_goWeek_25 rfl)
set_option maxRecDepth 20000 in
theorem t_M_goWeek_6 {B C : Nat × FT} : fw_S s_M_goWeek [(0, 2)] 28 (stS 1 (cE 0)) (30, [(0, 2), (1, 0)]) B C := fs_istn (fe_iconst dX12_goWeek_28) dX12_goWeek_29 (by decide) rfl
set_option maxRecDepth 20000 in
theorem t_M_goWeek_7 : fw_B s_M_goWeek [(0, 2), (1, 0)] 0 30 35 48 (nB (cB 3 (vE 1) (cE 4))) := (fb_not (fb_icmp_ge (fe_iloadn 1 rfl dX12_goWeek_30) (fe_iconst dX12_goWeek_31) dX12_goWeek_32 rfl))
set_option maxRecDepth 20000 in
theorem t_M_goWeek_8 {B C : Nat × FT} : fw_S s_M_goWeek [(0, 2), (1, 0)] 35 (asS 896 4 idI (thE (cE 0) (cE 0)) (vE 1) (cE 0)) (42, [(0, 2), (1, 0)]) B C := fs_iast (fe_getR (fe_aloadn 0 rfl dX12_goWeek_35) fl_RX12_51 lm_0 rfl dX12_goWeek_36) (fe_iloadn 1 rfl dX12_goWeek_39) (fe_iconst dX12_goWeek_40) lm_14 dX12_goWeek_41 rfl
set_option maxRecDepth 20000 in
theorem t_M_goWeek_9 {B C : Nat × FT} : fw_S s_M_goWeek [(0, 2), (1, 0)] 42 (inS 1 1) (45, [(0, 2), (1, 0)]) B C := fs_inc (j := 1) rfl dX12_goWeek_42 (by decide) rfl
set_option maxRecDepth 20000 in
theorem t_M_goWeek_10 {B C : Nat × FT} : fw_S s_M_goWeek [(0, 2), (1, 0)] 30 (whS (nB (cB 3 (vE 1) (cE 4))) (asS 896 4 idI (thE (cE 0) (cE 0)) (vE 1) (cE 0)) (inS 1 1) FU) (48, [(0, 2), (1, 0)]) B C := fs_while t_M_goWeek_7 t_M_goWeek_8 (fs_goto t_M_goWeek_9 dX12_goWeek_45 rfl)
set_option maxRecDepth 20000 in
theorem t_M_goWeek_11 {B C : Nat × FT} : fw_S s_M_goWeek [(0, 2)] 48 (stS 1 (cE 0)) (50, [(0, 2), (1, 0)]) B C := fs_istn (fe_iconst dX12_goWeek_48) dX12_goWeek_49 (by decide) rfl
set_option maxRecDepth 20000 in
theorem t_M_goWeek_12 : fw_B s_M_goWeek [(0, 2), (1, 0)] 0 50 57 94 (nB (cB 3 (vE 1) (cE 168))) := (fb_not (fb_icmp_ge (fe_iloadn 1 rfl dX12_goWeek_50) (fe_sipush dX12_goWeek_51) dX12_goWeek_54 rfl))
set_option maxRecDepth 20000 in
theorem t_M_goWeek_13 {B C : Nat × FT} : fw_S s_M_goWeek [(0, 2), (1, 0)] 57 (stS 2 (cE 0)) (59, [(0, 2), (1, 0), (2, 0)]) B C := fs_istn (fe_iconst dX12_goWeek_57) dX12_goWeek_58 (by decide) rfl
set_option maxRecDepth 20000 in
theorem t_M_goWeek_14 : fw_B s_M_goWeek [(0, 2), (1, 0), (2, 0)] 0 59 67 88 (nB (cB 3 (vE 2) (clE m_M_colours [(cE 0)]))) := (fb_not (fb_icmp_ge (fe_iloadn 2 rfl dX12_goWeek_59) (fe_callV (fa_cons (fe_aloadn 0 rfl dX12_goWeek_60) fa_nil) C_M_colours lv_RX12_193 lm_0 rfl rfl (by decide) (by decide) (by decide) dX12_goWeek_61) dX12_goWeek_64 rfl))
set_option maxRecDepth 20000 in
theorem t_M_goWeek_15 {B C : Nat × FT} : fw_S s_M_goWeek [(0, 2), (1, 0), (2, 0)] 67 (exS (clE m_M_hour [(cE 0), (vE 1), (vE 2), (ldE 960 7 (thE (cE 0) (cE 0)) (dvE (vE 1) (cE 24)))])) (82, [(0, 2), (1, 0), (2, 0)]) B C := fs_callV (t := 0) (fa_cons (fe_aloadn 0 rfl dX12_goWeek_67) (fa_cons (fe_iloadn 1 rfl dX12_goWeek_68) (fa_cons (fe_iloadn 2 rfl dX12_goWeek_69) (fa_cons (fe_iald (fe_getR (fe_aloadn 0 rfl dX12_goWeek_70) fl_RX12_54 lm_0 rfl dX12_goWeek_71) (fe_idiv (fe_iloadn 1 rfl dX12_goWeek_74) (fe_bipush dX12_goWeek_75) dX12_goWeek_77) lm_15 dX12_goWeek_78) fa_nil)))) C_M_hour lv_RX12_301 lm_0 rfl rfl (by decide) (by decide) dX12_goWeek_79 rfl
set_option maxRecDepth 20000 in
theorem t_M_goWeek_16 {B C : Nat × FT} : fw_S s_M_goWeek [(0, 2), (1, 0), (2, 0)] 82 (inS 2 1) (85, [(0, 2), (1, 0), (2, 0)]) B C := fs_inc (j := 2) rfl dX12_goWeek_82 (by decide) rfl
set_option maxRecDepth 20000 in
theorem t_M_goWeek_17 {B C : Nat × FT} : fw_S s_M_goWeek [(0, 2), (1, 0), (2, 0)] 59 (whS (nB (cB 3 (vE 2) (clE m_M_colours [(cE 0)]))) (exS (clE m_M_hour [(cE 0), (vE 1), (vE 2), (ldE 960 7 (thE (cE 0) (cE 0)) (dvE (vE 1) (cE 24)))])) (inS 2 1) FU) (88, [(0, 2), (1, 0), (2, 0)]) B C := fs_while t_M_goWeek_14 t_M_goWeek_15 (fs_goto t_M_goWeek_16 dX12_goWeek_85 rfl)
set_option maxRecDepth 20000 in
theorem t_M_goWeek_18 {B C : Nat × FT} : fw_S s_M_goWeek [(0, 2), (1, 0)] 88 (inS 1 1) (91, [(0, 2), (1, 0)]) B C := fs_inc (j := 1) rfl dX12_goWeek_88 (by decide) rfl
set_option maxRecDepth 20000 in
theorem t_M_goWeek_19 {B C : Nat × FT} : fw_S s_M_goWeek [(0, 2), (1, 0)] 50 (whS (nB (cB 3 (vE 1) (cE 168))) (sq (stS 2 (cE 0)) (whS (nB (cB 3 (vE 2) (clE m_M_colours [(cE 0)]))) (exS (clE m_M_hour [(cE 0), (vE 1), (vE 2), (ldE 960 7 (thE (cE 0) (cE 0)) (dvE (vE 1) (cE 24)))])) (inS 2 1) FU)) (inS 1 1) FU) (94, [(0, 2), (1, 0)]) B C := fs_while t_M_goWeek_12 (fs_seq t_M_goWeek_13 (fs_weak t_M_goWeek_17 rfl)) (fs_goto t_M_goWeek_18 dX12_goWeek_91 rfl)
set_option maxRecDepth 20000 in
theorem t_M_goWeek_20 {N B C : Nat × FT} : fw_S s_M_goWeek [(0, 2)] 94 rvS N B C := fs_rv dX12_goWeek_94
set_option maxRecDepth 20000 in
theorem C_M_goWeek : fw_C LM yX12_goWeek cX12_goWeek 3 none 3 [2] (none) m_M_goWeek := fm_v (d := 3) (N := (0, [])) (B := (0, [])) (C := (0, [])) LM_ok (by decide +kernel) (show fw_S s_M_goWeek _ 0 b_M_goWeek _ _ _ from (fs_seq (fs_seq t_M_goWeek_0 (fs_weak t_M_goWeek_5 rfl)) (fs_seq (fs_seq t_M_goWeek_6 (fs_weak t_M_goWeek_10 rfl)) (fs_seq (fs_seq t_M_goWeek_11 (fs_weak t_M_goWeek_19 rfl)) t_M_goWeek_20)))) (by decide)
/-! DyerBellsModel.week (this 0 ) -/
abbrev s_M_week : SI := (LM, RX12, cX12_week, 1, 4, none)
set_option maxRecDepth 20000 in
theorem t_M_week_0 {B C : Nat × FT} : fw_S s_M_week [(0, 2)] 0 (exS (clE m_M_lay [(cE 0)])) (4, [(0, 2)]) B C := fs_callV (t := 0) (fa_cons (fe_aloadn 0 rfl dX12_week_0) fa_nil) C_M_lay lv_RX12_175 lm_0 rfl rfl (by decide) (by decide) dX12_week_1 rfl
set_option maxRecDepth 20000 in
theorem t_M_week_1 {B C : Nat × FT} : fw_S s_M_week [(0, 2)] 4 (exS (clE m_M_layWorks [(cE 0), (cE (-1))])) (9, [(0, 2)]) B C := fs_callV (t := 0) (fa_cons (fe_aloadn 0 rfl dX12_week_4) (fa_cons (fe_iconst dX12_week_5) fa_nil)) C_M_layWorks lv_RX12_304 lm_0 rfl rfl (by decide) (by decide) dX12_week_6 rfl
set_option maxRecDepth 20000 in
theorem t_M_week_2 {B C : Nat × FT} : fw_S s_M_week [(0, 2)] 9 (exS (clE m_M_layFlows [(cE 0)])) (13, [(0, 2)]) B C := fs_callV (t := 0) (fa_cons (fe_aloadn 0 rfl dX12_week_9) fa_nil) C_M_layFlows lv_RX12_307 lm_0 rfl rfl (by decide) (by decide) dX12_week_10 rfl
set_option maxRecDepth 20000 in
theorem t_M_week_3 {B C : Nat × FT} : fw_S s_M_week [(0, 2)] 13 (exS (clE m_M_goWeek [(cE 0)])) (17, [(0, 2)]) B C := fs_callV (t := 0) (fa_cons (fe_aloadn 0 rfl dX12_week_13) fa_nil) C_M_goWeek lv_RX12_310 lm_0 rfl rfl (by decide) (by decide) dX12_week_14 rfl
set_option maxRecDepth 20000 in
theorem t_M_week_4 {N B C : Nat × FT} : fw_S s_M_week [(0, 2)] 17 rvS N B C := fs_rv dX12_week_17
set_option maxRecDepth 20000 in
theorem C_M_week : fw_C LM yX12_week cX12_week 1 none 4 [2] (none) m_M_week := fm_v (d := 4) (N := (0, [])) (B := (0, [])) (C := (0, [])) LM_ok (by decide +kernel) (show fw_S s_M_week _ 0 b_M_week _ _ _ from (fs_seq t_M_week_0 (fs_seq t_M_week_1 (fs_seq t_M_week_2 (fs_seq t_M_week_3 t_M_week_4))))) (by decide)
/-! DyerBellsModel.shadeAt (this 0 ) -/
abbrev s_M_shadeAt : SI := (LM, RX12, cX12_shadeAt, 4, 1, some 0)
set_option maxRecDepth 20000 in
theorem t_M_shadeAt_0 {N B C : Nat × FT} : fw_S s_M_shadeAt [(0, 2), (1, 0), (2, 0), (3, 0)] 0 (rtS (o1 l2iI (dlE (o2 mulI (cE 100) (o1 i2lI (ldE 1024 6720 (thE (cE 0) (cE 0)) (o2 addI (o2 addI (o2 mulI (cE 40) (vE 1)) (o2 mulI (cE 4) (vE 2))) (vE 3))))) (o1 i2lI (ldE 128 592 (thE (cE 0) (cE 0)) (o2 addI (cE 10) (o2 mulI (cE 2) (vE 2)))))))) N B C := fs_ret (fe_l2i (fe_ldiv (fe_lmul (fe_ldc2 dX12_shadeAt_0 wk_RX12_313) (fe_i2l (fe_iald (fe_getR (fe_aloadn 0 rfl dX12_shadeAt_3) fl_RX12_57 lm_0 rfl dX12_shadeAt_4) (fe_iadd (fe_iadd (fe_imul (fe_bipush dX12_shadeAt_7) (fe_iloadn 1 rfl dX12_shadeAt_9) dX12_shadeAt_10) (fe_imul (fe_iconst dX12_shadeAt_11) (fe_iloadn 2 rfl dX12_shadeAt_12) dX12_shadeAt_13) dX12_shadeAt_14) (fe_iloadn 3 rfl dX12_shadeAt_15) dX12_shadeAt_16) lm_16 dX12_shadeAt_17) dX12_shadeAt_18) dX12_shadeAt_19) (fe_i2l (fe_iald (fe_getR (fe_aloadn 0 rfl dX12_shadeAt_20) fl_RX12_13 lm_0 rfl dX12_shadeAt_21) (fe_iadd (fe_bipush dX12_shadeAt_24) (fe_imul (fe_iconst dX12_shadeAt_26) (fe_iloadn 2 rfl dX12_shadeAt_27) dX12_shadeAt_28) dX12_shadeAt_29) lm_2 dX12_shadeAt_30) dX12_shadeAt_31) dX12_shadeAt_32) dX12_shadeAt_33) dX12_shadeAt_34
set_option maxRecDepth 20000 in
theorem C_M_shadeAt : fw_C LM yX12_shadeAt cX12_shadeAt 4 (some .int) 1 [2, 0, 0, 0] (some 0) m_M_shadeAt := fm_i (d := 1) (N := (0, [])) (B := (0, [])) (C := (0, [])) LM_ok (by decide +kernel) (show fw_S s_M_shadeAt _ 0 b_M_shadeAt _ _ _ from t_M_shadeAt_0) (by decide)
/-! DyerBellsModel.at (this 0 ) -/
abbrev s_M_at : SI := (LM, RX12, cX12_at, 6, 5, some 0)
set_option maxRecDepth 20000 in
theorem t_M_at_0 {B C : Nat × FT} : fw_S s_M_at [(0, 2), (1, 0), (2, 0), (3, 0), (4, 0)] 0 (pfS 0 (cE 0) (cE 0)) (5, [(0, 2), (1, 0), (2, 0), (3, 0), (4, 0)]) B C := fs_put (fe_aloadn 0 rfl dX12_at_0) (fe_iconst dX12_at_1) fp_RX12_91 lm_0 rfl dX12_at_2 rfl
set_option maxRecDepth 20000 in
theorem t_M_at_1 {B C : Nat × FT} : fw_S s_M_at [(0, 2), (1, 0), (2, 0), (3, 0), (4, 0)] 5 (exS (clE m_M_lay [(cE 0)])) (9, [(0, 2), (1, 0), (2, 0), (3, 0), (4, 0)]) B C := fs_callV (t := 0) (fa_cons (fe_aloadn 0 rfl dX12_at_5) fa_nil) C_M_lay lv_RX12_175 lm_0 rfl rfl (by decide) (by decide) dX12_at_6 rfl
set_option maxRecDepth 20000 in
theorem t_M_at_2 : fw_B s_M_at [(0, 2), (1, 0), (2, 0), (3, 0), (4, 0)] 0 9 42 44 (orB (orB (orB (zB 0 (clE m_M_isHour [(vE 1)])) (zB 0 (clE m_M_isReach [(cE 0), (vE 2)]))) (zB 0 (clE m_M_isColour [(cE 0), (vE 3)]))) (nB (zB 1 (clE m_M_isIn [(vE 4), (cE 0), (cE 2)])))) := (fb_or (fb_or (fb_or (fb_if_eq (fe_callS (fa_cons (fe_iloadn 1 rfl dX12_at_9) fa_nil) C_M_isHour ls_RX12_328 rfl (by decide) (by decide) (by decide) dX12_at_10) dX12_at_13 rfl) (fb_if_eq (fe_callV (fa_cons (fe_aloadn 0 rfl dX12_at_16) (fa_cons (fe_iloadn 2 rfl dX12_at_17) fa_nil)) C_M_isReach lv_RX12_268 lm_0 rfl rfl (by decide) (by decide) (by decide) dX12_at_18) dX12_at_21 rfl)) (fb_if_eq (fe_callV (fa_cons (fe_aloadn 0 rfl dX12_at_24) (fa_cons (fe_iloadn 3 rfl dX12_at_25) fa_nil)) C_M_isColour lv_RX12_331 lm_0 rfl rfl (by decide) (by decide) (by decide) dX12_at_26) dX12_at_29 rfl)) (fb_not (fb_if_ne (fe_callS (fa_cons (fe_iload 4 rfl dX12_at_32) (fa_cons (fe_iconst dX12_at_34) (fa_cons (fe_iconst dX12_at_35) fa_nil))) C_M_isIn ls_RX12_162 rfl (by decide) (by decide) (by decide) dX12_at_36) dX12_at_39 rfl)))
set_option maxRecDepth 20000 in
theorem t_M_at_3 {N B C : Nat × FT} : fw_S s_M_at [(0, 2), (1, 0), (2, 0), (3, 0), (4, 0)] 42 (rtS (cE (-1))) N B C := fs_ret (fe_iconst dX12_at_42) dX12_at_43
set_option maxRecDepth 20000 in
theorem t_M_at_4 {B C : Nat × FT} : fw_S s_M_at [(0, 2), (1, 0), (2, 0), (3, 0), (4, 0)] 44 (exS (clE m_M_week [(cE 0)])) (48, [(0, 2), (1, 0), (2, 0), (3, 0), (4, 0)]) B C := fs_callV (t := 0) (fa_cons (fe_aloadn 0 rfl dX12_at_44) fa_nil) C_M_week lv_RX12_322 lm_0 rfl rfl (by decide) (by decide) dX12_at_45 rfl
set_option maxRecDepth 20000 in
theorem t_M_at_5 {B C : Nat × FT} : fw_S s_M_at [(0, 2), (1, 0), (2, 0), (3, 0), (4, 0)] 48 (stS 5 (o2 addI (o2 addI (o2 mulI (cE 40) (vE 1)) (o2 mulI (cE 4) (vE 2))) (vE 3))) (60, [(0, 2), (1, 0), (2, 0), (3, 0), (4, 0), (5, 0)]) B C := fs_ist (fe_iadd (fe_iadd (fe_imul (fe_bipush dX12_at_48) (fe_iloadn 1 rfl dX12_at_50) dX12_at_51) (fe_imul (fe_iconst dX12_at_52) (fe_iloadn 2 rfl dX12_at_53) dX12_at_54) dX12_at_55) (fe_iloadn 3 rfl dX12_at_56) dX12_at_57) dX12_at_58 (by decide) rfl
set_option maxRecDepth 20000 in
theorem t_M_at_6 {N B C : Nat × FT} : fw_S s_M_at [(0, 2), (1, 0), (2, 0), (3, 0), (4, 0), (5, 0)] 60 (rtS (kE (nB (zB 1 (vE 4))) (ldE 1024 6720 (thE (cE 0) (cE 0)) (vE 5)) (kE (nB (cB 1 (vE 4) (cE 1))) (ldE 1088 6720 (thE (cE 0) (cE 0)) (vE 5)) (clE m_M_shadeAt [(cE 0), (vE 1), (vE 2), (vE 3)])))) N B C := fs_ret (fe_ternG (fb_not (fb_if_ne (fe_iload 4 rfl dX12_at_60) dX12_at_62 rfl)) (fe_gt (fe_iald (fe_getR (fe_aloadn 0 rfl dX12_at_65) fl_RX12_57 lm_0 rfl dX12_at_66) (fe_iload 5 rfl dX12_at_69) lm_16 dX12_at_71) dX12_at_72 rfl) (fe_ternG (fb_not (fb_icmp_ne (fe_iload 4 rfl dX12_at_75) (fe_iconst dX12_at_77) dX12_at_78 rfl)) (fe_gt (fe_iald (fe_getR (fe_aloadn 0 rfl dX12_at_81) fl_RX12_60 lm_0 rfl dX12_at_82) (fe_iload 5 rfl dX12_at_85) lm_17 dX12_at_87) dX12_at_88 rfl) (fe_callV (fa_cons (fe_aloadn 0 rfl dX12_at_91) (fa_cons (fe_iloadn 1 rfl dX12_at_92) (fa_cons (fe_iloadn 2 rfl dX12_at_93) (fa_cons (fe_iloadn 3 rfl dX12_at_94) fa_nil)))) C_M_shadeAt lv_RX12_315 lm_0 rfl rfl (by decide) (by decide) (by decide) dX12_at_95))) dX12_at_98
set_option maxRecDepth 20000 in
theorem C_M_at : fw_C LM yX12_at cX12_at 6 (some .int) 5 [2, 0, 0, 0, 0] (some 0) m_M_at := fm_i (d := 5) (N := (0, [])) (B := (0, [])) (C := (0, [])) LM_ok (by decide +kernel) (show fw_S s_M_at _ 0 b_M_at _ _ _ from (fs_seq t_M_at_0 (fs_seq t_M_at_1 (fs_seq (fs_if t_M_at_2 t_M_at_3 (fs_skip rfl)) (fs_seq t_M_at_4 (fs_seq t_M_at_5 t_M_at_6)))))) (by decide)
/-! DyerBellsModel.passed (this 0 ) -/
abbrev s_M_passed : SI := (LM, RX12, cX12_passed, 3, 5, some 0)
set_option maxRecDepth 20000 in
theorem t_M_passed_0 {B C : Nat × FT} : fw_S s_M_passed [(0, 2), (1, 0), (2, 0)] 0 (pfS 0 (cE 0) (cE 0)) (5, [(0, 2), (1, 0), (2, 0)]) B C := fs_put (fe_aloadn 0 rfl dX12_passed_0) (fe_iconst dX12_passed_1) fp_RX12_91 lm_0 rfl dX12_passed_2 rfl
set_option maxRecDepth 20000 in
theorem t_M_passed_1 {B C : Nat × FT} : fw_S s_M_passed [(0, 2), (1, 0), (2, 0)] 5 (exS (clE m_M_lay [(cE 0)])) (9, [(0, 2), (1, 0), (2, 0)]) B C := fs_callV (t := 0) (fa_cons (fe_aloadn 0 rfl dX12_passed_5) fa_nil) C_M_lay lv_RX12_175 lm_0 rfl rfl (by decide) (by decide) dX12_passed_6 rfl
set_option maxRecDepth 20000 in
theorem t_M_passed_2 : fw_B s_M_passed [(0, 2), (1, 0), (2, 0)] 0 9 24 26 (orB (zB 0 (clE m_M_isHour [(vE 1)])) (nB (zB 1 (clE m_M_isColour [(cE 0), (vE 2)])))) := (fb_or (fb_if_eq (fe_callS (fa_cons (fe_iloadn 1 rfl dX12_passed_9) fa_nil) C_M_isHour ls_RX12_328 rfl (by decide) (by decide) (by decide) dX12_passed_10) dX12_passed_13 rfl) (fb_not (fb_if_ne (fe_callV (fa_cons (fe_aloadn 0 rfl dX12_passed_16) (fa_cons (fe_iloadn 2 rfl dX12_passed_17) fa_nil)) C_M_isColour lv_RX12_331 lm_0 rfl rfl (by decide) (by decide) (by decide) dX12_passed_18) dX12_passed_21 rfl)))
set_option maxRecDepth 20000 in
theorem t_M_passed_3 {N B C : Nat × FT} : fw_S s_M_passed [(0, 2), (1, 0), (2, 0)] 24 (rtS (cE (-1))) N B C := fs_ret (fe_iconst dX12_passed_24) dX12_passed_25
set_option maxRecDepth 20000 in
theorem t_M_passed_4 {B C : Nat × FT} : fw_S s_M_passed [(0, 2), (1, 0), (2, 0)] 26 (exS (clE m_M_week [(cE 0)])) (30, [(0, 2), (1, 0), (2, 0)]) B C := fs_callV (t := 0) (fa_cons (fe_aloadn 0 rfl dX12_passed_26) fa_nil) C_M_week lv_RX12_322 lm_0 rfl rfl (by decide) (by decide) dX12_passed_27 rfl
set_option maxRecDepth 20000 in
theorem t_M_passed_5 {N B C : Nat × FT} : fw_S s_M_passed [(0, 2), (1, 0), (2, 0)] 30 (rtS (ldE 832 672 (thE (cE 0) (cE 0)) (o2 addI (o2 mulI (cE 4) (vE 1)) (vE 2)))) N B C := fs_ret (fe_iald (fe_getR (fe_aloadn 0 rfl dX12_passed_30) fl_RX12_48 lm_0 rfl dX12_passed_31) (fe_iadd (fe_imul (fe_iconst dX12_passed_34) (fe_iloadn 1 rfl dX12_passed_35) dX12_passed_36) (fe_iloadn 2 rfl dX12_passed_37) dX12_passed_38) lm_13 dX12_passed_39) dX12_passed_40
set_option maxRecDepth 20000 in
theorem C_M_passed : fw_C LM yX12_passed cX12_passed 3 (some .int) 5 [2, 0, 0] (some 0) m_M_passed := fm_i (d := 5) (N := (0, [])) (B := (0, [])) (C := (0, [])) LM_ok (by decide +kernel) (show fw_S s_M_passed _ 0 b_M_passed _ _ _ from (fs_seq t_M_passed_0 (fs_seq t_M_passed_1 (fs_seq (fs_if t_M_passed_2 t_M_passed_3 (fs_skip rfl)) (fs_seq t_M_passed_4 t_M_passed_5))))) (by decide)
/-! DyerBellsModel.sum (this 0 ) -/
abbrev s_M_sum : SI := (LM, RX12, cX12_sum, 5, 5, some 0)
set_option maxRecDepth 20000 in
theorem t_M_sum_0 {B C : Nat × FT} : fw_S s_M_sum [(0, 2), (1, 0), (2, 0)] 0 (pfS 0 (cE 0) (cE 0)) (5, [(0, 2), (1, 0), (2, 0)]) B C := fs_put (fe_aloadn 0 rfl dX12_sum_0) (fe_iconst dX12_sum_1) fp_RX12_91 lm_0 rfl dX12_sum_2 rfl
set_option maxRecDepth 20000 in
theorem t_M_sum_1 {B C : Nat × FT} : fw_S s_M_sum [(0, 2), (1, 0), (2, 0)] 5 (exS (clE m_M_lay [(cE 0)])) (9, [(0, 2), (1, 0), (2, 0)]) B C := fs_callV (t := 0) (fa_cons (fe_aloadn 0 rfl dX12_sum_5) fa_nil) C_M_lay lv_RX12_175 lm_0 rfl rfl (by decide) (by decide) dX12_sum_6 rfl
set_option maxRecDepth 20000 in
theorem t_M_sum_2 : fw_B s_M_sum [(0, 2), (1, 0), (2, 0)] 0 9 26 28 (orB (zB 0 (clE m_M_isColour [(cE 0), (vE 1)])) (nB (zB 1 (clE m_M_isIn [(vE 2), (cE 0), (cE 3)])))) := (fb_or (fb_if_eq (fe_callV (fa_cons (fe_aloadn 0 rfl dX12_sum_9) (fa_cons (fe_iloadn 1 rfl dX12_sum_10) fa_nil)) C_M_isColour lv_RX12_331 lm_0 rfl rfl (by decide) (by decide) (by decide) dX12_sum_11) dX12_sum_14 rfl) (fb_not (fb_if_ne (fe_callS (fa_cons (fe_iloadn 2 rfl dX12_sum_17) (fa_cons (fe_iconst dX12_sum_18) (fa_cons (fe_iconst dX12_sum_19) fa_nil))) C_M_isIn ls_RX12_162 rfl (by decide) (by decide) (by decide) dX12_sum_20) dX12_sum_23 rfl)))
set_option maxRecDepth 20000 in
theorem t_M_sum_3 {N B C : Nat × FT} : fw_S s_M_sum [(0, 2), (1, 0), (2, 0)] 26 (rtS (cE (-1))) N B C := fs_ret (fe_iconst dX12_sum_26) dX12_sum_27
set_option maxRecDepth 20000 in
theorem t_M_sum_4 {B C : Nat × FT} : fw_S s_M_sum [(0, 2), (1, 0), (2, 0)] 28 (exS (clE m_M_week [(cE 0)])) (32, [(0, 2), (1, 0), (2, 0)]) B C := fs_callV (t := 0) (fa_cons (fe_aloadn 0 rfl dX12_sum_28) fa_nil) C_M_week lv_RX12_322 lm_0 rfl rfl (by decide) (by decide) dX12_sum_29 rfl
set_option maxRecDepth 20000 in
theorem t_M_sum_5 : fw_B s_M_sum [(0, 2), (1, 0), (2, 0)] 0 32 36 43 (nB (zB 1 (vE 2))) := (fb_not (fb_if_ne (fe_iloadn 2 rfl dX12_sum_32) dX12_sum_33 rfl))
set_option maxRecDepth 20000 in
theorem t_M_sum_6 {N B C : Nat × FT} : fw_S s_M_sum [(0, 2), (1, 0), (2, 0)] 36 (rtS (ldE 896 4 (thE (cE 0) (cE 0)) (vE 1))) N B C := fs_ret (fe_iald (fe_getR (fe_aloadn 0 rfl dX12_sum_36) fl_RX12_51 lm_0 rfl dX12_sum_37) (fe_iloadn 1 rfl dX12_sum_40) lm_14 dX12_sum_41) dX12_sum_42
set_option maxRecDepth 20000 in
theorem t_M_sum_7 {B C : Nat × FT} : fw_S s_M_sum [(0, 2), (1, 0), (2, 0)] 43 (stS 3 (cE 0)) (45, [(0, 2), (1, 0), (2, 0), (3, 0)]) B C := fs_istn (fe_iconst dX12_sum_43) dX12_sum_44 (by decide) rfl
set_option maxRecDepth 20000 in
theorem t_M_sum_8 : fw_B s_M_sum [(0, 2), (1, 0), (2, 0), (3, 0)] 0 45 50 81 (nB (cB 1 (vE 2) (cE 1))) := (fb_not (fb_icmp_ne (fe_iloadn 2 rfl dX12_sum_45) (fe_iconst dX12_sum_46) dX12_sum_47 rfl))
set_option maxRecDepth 20000 in
theorem t_M_sum_9 {B C : Nat × FT} : fw_S s_M_sum [(0, 2), (1, 0), (2, 0), (3, 0)] 50 (stS 4 (cE 0)) (53, [(0, 2), (1, 0), (2, 0), (3, 0), (4, 0)]) B C := fs_ist (fe_iconst dX12_sum_50) dX12_sum_51 (by decide) rfl
set_option maxRecDepth 20000 in
theorem t_M_sum_10 : fw_B s_M_sum [(0, 2), (1, 0), (2, 0), (3, 0), (4, 0)] 0 53 61 81 (nB (cB 3 (vE 4) (cE 168))) := (fb_not (fb_icmp_ge (fe_iload 4 rfl dX12_sum_53) (fe_sipush dX12_sum_55) dX12_sum_58 rfl))
set_option maxRecDepth 20000 in
theorem t_M_sum_11 {B C : Nat × FT} : fw_S s_M_sum [(0, 2), (1, 0), (2, 0), (3, 0), (4, 0)] 61 (stS 3 (o2 addI (vE 3) (ldE 832 672 (thE (cE 0) (cE 0)) (o2 addI (o2 mulI (cE 4) (vE 4)) (vE 1))))) (75, [(0, 2), (1, 0), (2, 0), (3, 0), (4, 0)]) B C := fs_istn (fe_iadd (fe_iloadn 3 rfl dX12_sum_61) (fe_iald (fe_getR (fe_aloadn 0 rfl dX12_sum_62) fl_RX12_48 lm_0 rfl dX12_sum_63) (fe_iadd (fe_imul (fe_iconst dX12_sum_66) (fe_iload 4 rfl dX12_sum_67) dX12_sum_69) (fe_iloadn 1 rfl dX12_sum_70) dX12_sum_71) lm_13 dX12_sum_72) dX12_sum_73) dX12_sum_74 (by decide) rfl
set_option maxRecDepth 20000 in
theorem t_M_sum_12 {B C : Nat × FT} : fw_S s_M_sum [(0, 2), (1, 0), (2, 0), (3, 0), (4, 0)] 75 (inS 4 1) (78, [(0, 2), (1, 0), (2, 0), (3, 0), (4, 0)]) B C := fs_inc (j := 4) rfl dX12_sum_75 (by decide) rfl
set_option maxRecDepth 20000 in
theorem t_M_sum_13 {B C : Nat × FT} : fw_S s_M_sum [(0, 2), (1, 0), (2, 0), (3, 0), (4, 0)] 53 (whS (nB (cB 3 (vE 4) (cE 168))) (stS 3 (o2 addI (vE 3) (ldE 832 672 (thE (cE 0) (cE 0)) (o2 addI (o2 mulI (cE 4) (vE 4)) (vE 1))))) (inS 4 1) FU) (81, [(0, 2), (1, 0), (2, 0), (3, 0), (4, 0)]) B C := fs_while t_M_sum_10 t_M_sum_11 (fs_goto t_M_sum_12 dX12_sum_78 rfl)
set_option maxRecDepth 20000 in
theorem t_M_sum_14 {B C : Nat × FT} : fw_S s_M_sum [(0, 2), (1, 0), (2, 0), (3, 0)] 81 (stS 4 (cE 0)) (84, [(0, 2), (1, 0), (2, 0), (3, 0), (4, 0)]) B C := fs_ist (fe_iconst dX12_sum_81) dX12_sum_82 (by decide) rfl
set_option maxRecDepth 20000 in
theorem t_M_sum_15 : fw_B s_M_sum [(0, 2), (1, 0), (2, 0), (3, 0), (4, 0)] 0 84 98 137 (andB (nB (cB 3 (vE 4) (clE m_M_reaches [(cE 0)]))) (nB (cB 5 (vE 2) (cE 1)))) := (fb_and (fb_not (fb_icmp_ge (fe_iload 4 rfl dX12_sum_84) (fe_callV (fa_cons (fe_aloadn 0 rfl dX12_sum_86) fa_nil) C_M_reaches lv_RX12_190 lm_0 rfl rfl (by decide) (by decide) (by decide) dX12_sum_87) dX12_sum_90 rfl)) (fb_not (fb_icmp_le (fe_iloadn 2 rfl dX12_sum_93) (fe_iconst dX12_sum_94) dX12_sum_95 rfl)))
set_option maxRecDepth 20000 in
theorem t_M_sum_16 {B C : Nat × FT} : fw_S s_M_sum [(0, 2), (1, 0), (2, 0), (3, 0), (4, 0)] 98 (stS 3 (o2 addI (vE 3) (kE (nB (cB 1 (vE 2) (cE 2))) (ldE 704 40 (thE (cE 0) (cE 0)) (o2 addI (o2 mulI (cE 4) (vE 4)) (vE 1))) (ldE 768 40 (thE (cE 0) (cE 0)) (o2 addI (o2 mulI (cE 4) (vE 4)) (vE 1)))))) (131, [(0, 2), (1, 0), (2, 0), (3, 0), (4, 0)]) B C := fs_istn (fe_iadd (fe_iloadn 3 rfl dX12_sum_98) (fe_ternG (fb_not (fb_icmp_ne (fe_iloadn 2 rfl dX12_sum_99) (fe_iconst dX12_sum_100) dX12_sum_101 rfl)) (fe_gt (fe_iald (fe_getR (fe_aloadn 0 rfl dX12_sum_104) fl_RX12_42 lm_0 rfl dX12_sum_105) (fe_iadd (fe_imul (fe_iconst dX12_sum_108) (fe_iload 4 rfl dX12_sum_109) dX12_sum_111) (fe_iloadn 1 rfl dX12_sum_112) dX12_sum_113) lm_11 dX12_sum_114) dX12_sum_115 rfl) (fe_iald (fe_getR (fe_aloadn 0 rfl dX12_sum_118) fl_RX12_45 lm_0 rfl dX12_sum_119) (fe_iadd (fe_imul (fe_iconst dX12_sum_122) (fe_iload 4 rfl dX12_sum_123) dX12_sum_125) (fe_iloadn 1 rfl dX12_sum_126) dX12_sum_127) lm_12 dX12_sum_128)) dX12_sum_129) dX12_sum_130 (by decide) rfl
set_option maxRecDepth 20000 in
theorem t_M_sum_17 {B C : Nat × FT} : fw_S s_M_sum [(0, 2), (1, 0), (2, 0), (3, 0), (4, 0)] 131 (inS 4 1) (134, [(0, 2), (1, 0), (2, 0), (3, 0), (4, 0)]) B C := fs_inc (j := 4) rfl dX12_sum_131 (by decide) rfl
set_option maxRecDepth 20000 in
theorem t_M_sum_18 {B C : Nat × FT} : fw_S s_M_sum [(0, 2), (1, 0), (2, 0), (3, 0), (4, 0)] 84 (whS (andB (nB (cB 3 (vE 4) (clE m_M_reaches [(cE 0)]))) (nB (cB 5 (vE 2) (cE 1)))) (stS 3 (o2 addI (vE 3) (kE (nB (cB 1 (vE 2) (cE 2))) (ldE 704 40 (thE (cE 0) (cE 0)) (o2 addI (o2 mulI (cE 4) (vE 4)) (vE 1))) (ldE 768 40 (thE (cE 0) (cE 0)) (o2 addI (o2 mulI (cE 4) (vE 4)) (vE 1)))))) (inS 4 1) FU) (137, [(0, 2), (1, 0), (2, 0), (3, 0), (4, 0)]) B C := fs_while t_M_sum_15 t_M_sum_16 (fs_goto t_M_sum_17 dX12_sum_134 rfl)
set_option maxRecDepth 20000 in
theorem t_M_sum_19 {N B C : Nat × FT} : fw_S s_M_sum [(0, 2), (1, 0), (2, 0), (3, 0)] 137 (rtS (vE 3)) N B C := fs_ret (fe_iloadn 3 rfl dX12_sum_137) dX12_sum_138
set_option maxRecDepth 20000 in
theorem C_M_sum : fw_C LM yX12_sum cX12_sum 5 (some .int) 5 [2, 0, 0] (some 0) m_M_sum := fm_i (d := 5) (N := (0, [])) (B := (0, [])) (C := (0, [])) LM_ok (by decide +kernel) (show fw_S s_M_sum _ 0 b_M_sum _ _ _ from (fs_seq t_M_sum_0 (fs_seq t_M_sum_1 (fs_seq (fs_if t_M_sum_2 t_M_sum_3 (fs_skip rfl)) (fs_seq t_M_sum_4 (fs_seq (fs_if t_M_sum_5 t_M_sum_6 (fs_skip rfl)) (fs_seq t_M_sum_7 (fs_seq (fs_if t_M_sum_8 (fs_seq t_M_sum_9 (fs_weak t_M_sum_13 rfl)) (fs_skip rfl)) (fs_seq (fs_seq t_M_sum_14 (fs_weak t_M_sum_18 rfl)) t_M_sum_19))))))))) (by decide)
/-! DyerBellsModel.fine (this 0 ) -/
abbrev s_M_fine : SI := (LM, RX12, cX12_fine, 10, 5, some 0)
set_option maxRecDepth 20000 in
theorem t_M_fine_0 {B C : Nat × FT} : fw_S s_M_fine [(0, 2), (1, 0), (2, 0)] 0 (pfS 0 (cE 0) (cE 0)) (5, [(0, 2), (1, 0), (2, 0)]) B C := fs_put (fe_aloadn 0 rfl dX12_fine_0) (fe_iconst dX12_fine_1) fp_RX12_91 lm_0 rfl dX12_fine_2 rfl
set_option maxRecDepth 20000 in
theorem t_M_fine_1 {B C : Nat × FT} : fw_S s_M_fine [(0, 2), (1, 0), (2, 0)] 5 (exS (clE m_M_lay [(cE 0)])) (9, [(0, 2), (1, 0), (2, 0)]) B C := fs_callV (t := 0) (fa_cons (fe_aloadn 0 rfl dX12_fine_5) fa_nil) C_M_lay lv_RX12_175 lm_0 rfl rfl (by decide) (by decide) dX12_fine_6 rfl
set_option maxRecDepth 20000 in
theorem t_M_fine_2 : fw_B s_M_fine [(0, 2), (1, 0), (2, 0)] 0 9 24 26 (orB (zB 0 (clE m_M_isHour [(vE 1)])) (nB (zB 1 (clE m_M_isReach [(cE 0), (vE 2)])))) := (fb_or (fb_if_eq (fe_callS (fa_cons (fe_iloadn 1 rfl dX12_fine_9) fa_nil) C_M_isHour ls_RX12_328 rfl (by decide) (by decide) (by decide) dX12_fine_10) dX12_fine_13 rfl) (fb_not (fb_if_ne (fe_callV (fa_cons (fe_aloadn 0 rfl dX12_fine_16) (fa_cons (fe_iloadn 2 rfl dX12_fine_17) fa_nil)) C_M_isReach lv_RX12_268 lm_0 rfl rfl (by decide) (by decide) (by decide) dX12_fine_18) dX12_fine_21 rfl)))
set_option maxRecDepth 20000 in
theorem t_M_fine_3 {N B C : Nat × FT} : fw_S s_M_fine [(0, 2), (1, 0), (2, 0)] 24 (rtS (cE (-1))) N B C := fs_ret (fe_iconst dX12_fine_24) dX12_fine_25
set_option maxRecDepth 20000 in
theorem t_M_fine_4 {B C : Nat × FT} : fw_S s_M_fine [(0, 2), (1, 0), (2, 0)] 26 (exS (clE m_M_week [(cE 0)])) (30, [(0, 2), (1, 0), (2, 0)]) B C := fs_callV (t := 0) (fa_cons (fe_aloadn 0 rfl dX12_fine_26) fa_nil) C_M_week lv_RX12_322 lm_0 rfl rfl (by decide) (by decide) dX12_fine_27 rfl
set_option maxRecDepth 20000 in
theorem t_M_fine_5 {B C : Nat × FT} : fw_S s_M_fine [(0, 2), (1, 0), (2, 0)] 30 (stS 3 (cE 0)) (32, [(0, 2), (1, 0), (2, 0), (3, 0)]) B C := fs_istn (fe_iconst dX12_fine_30) dX12_fine_31 (by decide) rfl
set_option maxRecDepth 20000 in
theorem t_M_fine_6 {B C : Nat × FT} : fw_S s_M_fine [(0, 2), (1, 0), (2, 0), (3, 0)] 32 (stS 4 (cE 0)) (35, [(0, 2), (1, 0), (2, 0), (3, 0), (4, 0)]) B C := fs_ist (fe_iconst dX12_fine_32) dX12_fine_33 (by decide) rfl
set_option maxRecDepth 20000 in
theorem t_M_fine_7 : fw_B s_M_fine [(0, 2), (1, 0), (2, 0), (3, 0), (4, 0)] 0 35 44 165 (nB (cB 3 (vE 4) (clE m_M_colours [(cE 0)]))) := (fb_not (fb_icmp_ge (fe_iload 4 rfl dX12_fine_35) (fe_callV (fa_cons (fe_aloadn 0 rfl dX12_fine_37) fa_nil) C_M_colours lv_RX12_193 lm_0 rfl rfl (by decide) (by decide) (by decide) dX12_fine_38) dX12_fine_41 rfl))
set_option maxRecDepth 20000 in
theorem t_M_fine_8 {B C : Nat × FT} : fw_S s_M_fine [(0, 2), (1, 0), (2, 0), (3, 0), (4, 0)] 44 (stS 5 (clE m_M_shadeAt [(cE 0), (vE 1), (vE 2), (vE 4)])) (54, [(0, 2), (1, 0), (2, 0), (3, 0), (4, 0), (5, 0)]) B C := fs_ist (fe_callV (fa_cons (fe_aloadn 0 rfl dX12_fine_44) (fa_cons (fe_iloadn 1 rfl dX12_fine_45) (fa_cons (fe_iloadn 2 rfl dX12_fine_46) (fa_cons (fe_iload 4 rfl dX12_fine_47) fa_nil)))) C_M_shadeAt lv_RX12_315 lm_0 rfl rfl (by decide) (by decide) (by decide) dX12_fine_49) dX12_fine_52 (by decide) rfl
set_option maxRecDepth 20000 in
theorem t_M_fine_9 {B C : Nat × FT} : fw_S s_M_fine [(0, 2), (1, 0), (2, 0), (3, 0), (4, 0), (5, 0)] 54 (stS 6 (cE 0)) (57, [(0, 2), (1, 0), (2, 0), (3, 0), (4, 0), (5, 0), (6, 0)]) B C := fs_ist (fe_iconst dX12_fine_54) dX12_fine_55 (by decide) rfl
set_option maxRecDepth 20000 in
theorem t_M_fine_10 {B C : Nat × FT} : fw_S s_M_fine [(0, 2), (1, 0), (2, 0), (3, 0), (4, 0), (5, 0), (6, 0)] 57 (stS 7 (cE 0)) (60, [(0, 2), (1, 0), (2, 0), (3, 0), (4, 0), (5, 0), (6, 0), (7, 0)]) B C := fs_ist (fe_iconst dX12_fine_57) dX12_fine_58 (by decide) rfl
set_option maxRecDepth 20000 in
theorem t_M_fine_11 {B C : Nat × FT} : fw_S s_M_fine [(0, 2), (1, 0), (2, 0), (3, 0), (4, 0), (5, 0), (6, 0), (7, 0)] 60 (stS 8 (cE 0)) (63, [(0, 2), (1, 0), (2, 0), (3, 0), (4, 0), (5, 0), (6, 0), (7, 0), (8, 0)]) B C := fs_ist (fe_iconst dX12_fine_60) dX12_fine_61 (by decide) rfl
set_option maxRecDepth 20000 in
theorem t_M_fine_12 : fw_B s_M_fine [(0, 2), (1, 0), (2, 0), (3, 0), (4, 0), (5, 0), (6, 0), (7, 0), (8, 0)] 0 63 74 154 (nB (cB 3 (vE 8) (ldE 128 592 (thE (cE 0) (cE 0)) (cE 4)))) := (fb_not (fb_icmp_ge (fe_iload 8 rfl dX12_fine_63) (fe_iald (fe_getR (fe_aloadn 0 rfl dX12_fine_65) fl_RX12_13 lm_0 rfl dX12_fine_66) (fe_iconst dX12_fine_69) lm_2 dX12_fine_70) dX12_fine_71 rfl))
set_option maxRecDepth 20000 in
theorem t_M_fine_13 {B C : Nat × FT} : fw_S s_M_fine [(0, 2), (1, 0), (2, 0), (3, 0), (4, 0), (5, 0), (6, 0), (7, 0), (8, 0)] 74 (stS 9 (o2 addI (cE 118) (o2 mulI (cE 3) (vE 8)))) (83, [(0, 2), (1, 0), (2, 0), (3, 0), (4, 0), (5, 0), (6, 0), (7, 0), (8, 0), (9, 0)]) B C := fs_ist (fe_iadd (fe_bipush dX12_fine_74) (fe_imul (fe_iconst dX12_fine_76) (fe_iload 8 rfl dX12_fine_77) dX12_fine_79) dX12_fine_80) dX12_fine_81 (by decide) rfl
set_option maxRecDepth 20000 in
theorem t_M_fine_14 : fw_B s_M_fine [(0, 2), (1, 0), (2, 0), (3, 0), (4, 0), (5, 0), (6, 0), (7, 0), (8, 0), (9, 0)] 0 83 148 126 (orB (orB (cB 1 (ldE 128 592 (thE (cE 0) (cE 0)) (vE 9)) (vE 4)) (cB 4 (ldE 128 592 (thE (cE 0) (cE 0)) (o2 addI (vE 9) (cE 1))) (vE 5))) (nB (cB 4 (ldE 128 592 (thE (cE 0) (cE 0)) (o2 addI (vE 9) (cE 1))) (vE 6)))) := (fb_or (fb_or (fb_icmp_ne (fe_iald (fe_getR (fe_aloadn 0 rfl dX12_fine_83) fl_RX12_13 lm_0 rfl dX12_fine_84) (fe_iload 9 rfl dX12_fine_87) lm_2 dX12_fine_89) (fe_iload 4 rfl dX12_fine_90) dX12_fine_92 rfl) (fb_icmp_gt (fe_iald (fe_getR (fe_aloadn 0 rfl dX12_fine_95) fl_RX12_13 lm_0 rfl dX12_fine_96) (fe_iadd (fe_iload 9 rfl dX12_fine_99) (fe_iconst dX12_fine_101) dX12_fine_102) lm_2 dX12_fine_103) (fe_iload 5 rfl dX12_fine_104) dX12_fine_106 rfl)) (fb_gtT (fb_not (fb_icmp_gt (fe_iald (fe_getR (fe_aloadn 0 rfl dX12_fine_109) fl_RX12_13 lm_0 rfl dX12_fine_110) (fe_iadd (fe_iload 9 rfl dX12_fine_113) (fe_iconst dX12_fine_115) dX12_fine_116) lm_2 dX12_fine_117) (fe_iload 6 rfl dX12_fine_118) dX12_fine_120 rfl)) dX12_fine_123 rfl))
set_option maxRecDepth 20000 in
theorem t_M_fine_15 {B C : Nat × FT} : fw_S s_M_fine [(0, 2), (1, 0), (2, 0), (3, 0), (4, 0), (5, 0), (6, 0), (7, 0), (8, 0), (9, 0)] 126 (stS 6 (ldE 128 592 (thE (cE 0) (cE 0)) (o2 addI (vE 9) (cE 1)))) (137, [(0, 2), (1, 0), (2, 0), (3, 0), (4, 0), (5, 0), (6, 0), (7, 0), (8, 0), (9, 0)]) B C := fs_ist (fe_iald (fe_getR (fe_aloadn 0 rfl dX12_fine_126) fl_RX12_13 lm_0 rfl dX12_fine_127) (fe_iadd (fe_iload 9 rfl dX12_fine_130) (fe_iconst dX12_fine_132) dX12_fine_133) lm_2 dX12_fine_134) dX12_fine_135 (by decide) rfl
set_option maxRecDepth 20000 in
theorem t_M_fine_16 {B C : Nat × FT} : fw_S s_M_fine [(0, 2), (1, 0), (2, 0), (3, 0), (4, 0), (5, 0), (6, 0), (7, 0), (8, 0), (9, 0)] 137 (stS 7 (ldE 128 592 (thE (cE 0) (cE 0)) (o2 addI (vE 9) (cE 2)))) (148, [(0, 2), (1, 0), (2, 0), (3, 0), (4, 0), (5, 0), (6, 0), (7, 0), (8, 0)]) B C := fs_ist (fe_iald (fe_getR (fe_aloadn 0 rfl dX12_fine_137) fl_RX12_13 lm_0 rfl dX12_fine_138) (fe_iadd (fe_iload 9 rfl dX12_fine_141) (fe_iconst dX12_fine_143) dX12_fine_144) lm_2 dX12_fine_145) dX12_fine_146 (by decide) rfl
set_option maxRecDepth 20000 in
theorem t_M_fine_17 {B C : Nat × FT} : fw_S s_M_fine [(0, 2), (1, 0), (2, 0), (3, 0), (4, 0), (5, 0), (6, 0), (7, 0), (8, 0)] 148 (inS 8 1) (151, [(0, 2), (1, 0), (2, 0), (3, 0), (4, 0), (5, 0), (6, 0), (7, 0), (8, 0)]) B C := fs_inc (j := 8) rfl dX12_fine_148 (by decide) rfl
set_option maxRecDepth 20000 in
theorem t_M_fine_18 {B C : Nat × FT} : fw_S s_M_fine [(0, 2), (1, 0), (2, 0), (3, 0), (4, 0), (5, 0), (6, 0), (7, 0), (8, 0)] 63 (whS (nB (cB 3 (vE 8) (ldE 128 592 (thE (cE 0) (cE 0)) (cE 4)))) (sq (stS 9 (o2 addI (cE 118) (o2 mulI (cE 3) (vE 8)))) (sq (ifS (orB (orB (cB 1 (ldE 128 592 (thE (cE 0) (cE 0)) (vE 9)) (vE 4)) (cB 4 (ldE 128 592 (thE (cE 0) (cE 0)) (o2 addI (vE 9) (cE 1))) (vE 5))) (nB (cB 4 (ldE 128 592 (thE (cE 0) (cE 0)) (o2 addI (vE 9) (cE 1))) (vE 6)))) ctS skS) (sq (stS 6 (ldE 128 592 (thE (cE 0) (cE 0)) (o2 addI (vE 9) (cE 1)))) (stS 7 (ldE 128 592 (thE (cE 0) (cE 0)) (o2 addI (vE 9) (cE 2))))))) (inS 8 1) FU) (154, [(0, 2), (1, 0), (2, 0), (3, 0), (4, 0), (5, 0), (6, 0), (7, 0), (8, 0)]) B C := fs_while t_M_fine_12 (fs_seq t_M_fine_13 (fs_seq (fs_if t_M_fine_14 (fs_cnt0 rfl) (fs_skip rfl)) (fs_seq t_M_fine_15 t_M_fine_16))) (fs_goto t_M_fine_17 dX12_fine_151 rfl)
set_option maxRecDepth 20000 in
theorem t_M_fine_19 {B C : Nat × FT} : fw_S s_M_fine [(0, 2), (1, 0), (2, 0), (3, 0), (4, 0), (5, 0), (6, 0), (7, 0)] 154 (stS 3 (o2 addI (vE 3) (vE 7))) (159, [(0, 2), (1, 0), (2, 0), (3, 0), (4, 0)]) B C := fs_istn (fe_iadd (fe_iloadn 3 rfl dX12_fine_154) (fe_iload 7 rfl dX12_fine_155) dX12_fine_157) dX12_fine_158 (by decide) rfl
set_option maxRecDepth 20000 in
theorem t_M_fine_20 {B C : Nat × FT} : fw_S s_M_fine [(0, 2), (1, 0), (2, 0), (3, 0), (4, 0)] 159 (inS 4 1) (162, [(0, 2), (1, 0), (2, 0), (3, 0), (4, 0)]) B C := fs_inc (j := 4) rfl dX12_fine_159 (by decide) rfl
set_option maxRecDepth 20000 in
theorem t_M_fine_21 {B C : Nat × FT} : fw_S s_M_fine [(0, 2), (1, 0), (2, 0), (3, 0), (4, 0)] 35 (whS (nB (cB 3 (vE 4) (clE m_M_colours [(cE 0)]))) (sq (stS 5 (clE m_M_shadeAt [(cE 0), (vE 1), (vE 2), (vE 4)])) (sq (stS 6 (cE 0)) (sq (stS 7 (cE 0)) (sq (sq (stS 8 (cE 0)) (whS (nB (cB 3 (vE 8) (ldE 128 592 (thE (cE 0) (cE 0)) (cE 4)))) (sq (stS 9 (o2 addI (cE 118) (o2 mulI (cE 3) (vE 8)))) (sq (ifS (orB (orB (cB 1 (ldE 128 592 (thE (cE 0) (cE 0)) (vE 9)) (vE 4)) (cB 4 (ldE 128 592 (thE (cE 0) (cE 0)) (o2 addI (vE 9) (cE 1))) (vE 5))) (nB (cB 4 (ldE 128 592 (thE (cE 0) (cE 0)) (o2 addI (vE 9) (cE 1))) (vE 6)))) ctS skS) (sq (stS 6 (ldE 128 592 (thE (cE 0) (cE 0)) (o2 addI (vE 9) (cE 1)))) (stS 7 (ldE 128 592 (thE (cE 0) (cE 0)) (o2 addI (vE 9) (cE 2))))))) (inS 8 1) FU)) (stS 3 (o2 addI (vE 3) (vE 7))))))) (inS 4 1) FU) (165, [(0, 2), (1, 0), (2, 0), (3, 0), (4, 0)]) B C := fs_while t_M_fine_7 (fs_seq t_M_fine_8 (fs_seq t_M_fine_9 (fs_seq t_M_fine_10 (fs_seq (fs_seq t_M_fine_11 (fs_weak t_M_fine_18 rfl)) t_M_fine_19)))) (fs_goto t_M_fine_20 dX12_fine_162 rfl)
set_option maxRecDepth 20000 in
theorem t_M_fine_22 {N B C : Nat × FT} : fw_S s_M_fine [(0, 2), (1, 0), (2, 0), (3, 0)] 165 (rtS (vE 3)) N B C := fs_ret (fe_iloadn 3 rfl dX12_fine_165) dX12_fine_166
set_option maxRecDepth 20000 in
theorem C_M_fine : fw_C LM yX12_fine cX12_fine 10 (some .int) 5 [2, 0, 0] (some 0) m_M_fine := fm_i (d := 5) (N := (0, [])) (B := (0, [])) (C := (0, [])) LM_ok (by decide +kernel) (show fw_S s_M_fine _ 0 b_M_fine _ _ _ from (fs_seq t_M_fine_0 (fs_seq t_M_fine_1 (fs_seq (fs_if t_M_fine_2 t_M_fine_3 (fs_skip rfl)) (fs_seq t_M_fine_4 (fs_seq t_M_fine_5 (fs_seq (fs_seq t_M_fine_6 (fs_weak t_M_fine_21 rfl)) t_M_fine_22))))))) (by decide)
/-! DyerBellsModel.isHarmed (this 0 ) -/
abbrev s_M_isHarmed : SI := (LM, RX12, cX12_isHarmed, 5, 2, some 0)
set_option maxRecDepth 20000 in
theorem t_M_isHarmed_0 {B C : Nat × FT} : fw_S s_M_isHarmed [(0, 2), (1, 0), (2, 0)] 0 (stS 3 (o2 addI (cE 66) (o2 mulI (cE 7) (vE 1)))) (8, [(0, 2), (1, 0), (2, 0), (3, 0)]) B C := fs_istn (fe_iadd (fe_bipush dX12_isHarmed_0) (fe_imul (fe_bipush dX12_isHarmed_2) (fe_iloadn 1 rfl dX12_isHarmed_4) dX12_isHarmed_5) dX12_isHarmed_6) dX12_isHarmed_7 (by decide) rfl
set_option maxRecDepth 20000 in
theorem t_M_isHarmed_1 : fw_B s_M_isHarmed [(0, 2), (1, 0), (2, 0), (3, 0)] 0 8 38 40 (orB (cB 2 (rmE (vE 2) (cE 24)) (ldE 128 592 (thE (cE 0) (cE 0)) (o2 addI (vE 3) (cE 1)))) (nB (cB 2 (rmE (vE 2) (cE 24)) (ldE 128 592 (thE (cE 0) (cE 0)) (o2 addI (vE 3) (cE 2)))))) := (fb_or (fb_icmp_lt (fe_irem (fe_iloadn 2 rfl dX12_isHarmed_8) (fe_bipush dX12_isHarmed_9) dX12_isHarmed_11) (fe_iald (fe_getR (fe_aloadn 0 rfl dX12_isHarmed_12) fl_RX12_13 lm_0 rfl dX12_isHarmed_13) (fe_iadd (fe_iloadn 3 rfl dX12_isHarmed_16) (fe_iconst dX12_isHarmed_17) dX12_isHarmed_18) lm_2 dX12_isHarmed_19) dX12_isHarmed_20 rfl) (fb_not (fb_icmp_lt (fe_irem (fe_iloadn 2 rfl dX12_isHarmed_23) (fe_bipush dX12_isHarmed_24) dX12_isHarmed_26) (fe_iald (fe_getR (fe_aloadn 0 rfl dX12_isHarmed_27) fl_RX12_13 lm_0 rfl dX12_isHarmed_28) (fe_iadd (fe_iloadn 3 rfl dX12_isHarmed_31) (fe_iconst dX12_isHarmed_32) dX12_isHarmed_33) lm_2 dX12_isHarmed_34) dX12_isHarmed_35 rfl)))
set_option maxRecDepth 20000 in
theorem t_M_isHarmed_2 {N B C : Nat × FT} : fw_S s_M_isHarmed [(0, 2), (1, 0), (2, 0), (3, 0)] 38 (rtS (cE 0)) N B C := fs_ret (fe_iconst dX12_isHarmed_38) dX12_isHarmed_39
set_option maxRecDepth 20000 in
theorem t_M_isHarmed_3 {B C : Nat × FT} : fw_S s_M_isHarmed [(0, 2), (1, 0), (2, 0), (3, 0)] 40 (stS 4 (cE 0)) (43, [(0, 2), (1, 0), (2, 0), (3, 0), (4, 0)]) B C := fs_ist (fe_iconst dX12_isHarmed_40) dX12_isHarmed_41 (by decide) rfl
set_option maxRecDepth 20000 in
theorem t_M_isHarmed_4 : fw_B s_M_isHarmed [(0, 2), (1, 0), (2, 0), (3, 0), (4, 0)] 0 43 52 102 (nB (cB 3 (vE 4) (clE m_M_colours [(cE 0)]))) := (fb_not (fb_icmp_ge (fe_iload 4 rfl dX12_isHarmed_43) (fe_callV (fa_cons (fe_aloadn 0 rfl dX12_isHarmed_45) fa_nil) C_M_colours lv_RX12_193 lm_0 rfl rfl (by decide) (by decide) (by decide) dX12_isHarmed_46) dX12_isHarmed_49 rfl))
set_option maxRecDepth 20000 in
theorem t_M_isHarmed_5 : fw_B s_M_isHarmed [(0, 2), (1, 0), (2, 0), (3, 0), (4, 0)] 0 52 94 96 (andB (nB (cB 0 (ldE 128 592 (thE (cE 0) (cE 0)) (o2 addI (o2 addI (vE 3) (cE 3)) (vE 4))) (cE (-1)))) (nB (cB 5 (clE m_M_shadeAt [(cE 0), (vE 2), (ldE 128 592 (thE (cE 0) (cE 0)) (vE 3)), (vE 4)]) (ldE 128 592 (thE (cE 0) (cE 0)) (o2 addI (o2 addI (vE 3) (cE 3)) (vE 4)))))) := (fb_and (fb_not (fb_icmp_eq (fe_iald (fe_getR (fe_aloadn 0 rfl dX12_isHarmed_52) fl_RX12_13 lm_0 rfl dX12_isHarmed_53) (fe_iadd (fe_iadd (fe_iloadn 3 rfl dX12_isHarmed_56) (fe_iconst dX12_isHarmed_57) dX12_isHarmed_58) (fe_iload 4 rfl dX12_isHarmed_59) dX12_isHarmed_61) lm_2 dX12_isHarmed_62) (fe_iconst dX12_isHarmed_63) dX12_isHarmed_64 rfl)) (fb_not (fb_icmp_le (fe_callV (fa_cons (fe_aloadn 0 rfl dX12_isHarmed_67) (fa_cons (fe_iloadn 2 rfl dX12_isHarmed_68) (fa_cons (fe_iald (fe_getR (fe_aloadn 0 rfl dX12_isHarmed_69) fl_RX12_13 lm_0 rfl dX12_isHarmed_70) (fe_iloadn 3 rfl dX12_isHarmed_73) lm_2 dX12_isHarmed_74) (fa_cons (fe_iload 4 rfl dX12_isHarmed_75) fa_nil)))) C_M_shadeAt lv_RX12_315 lm_0 rfl rfl (by decide) (by decide) (by decide) dX12_isHarmed_77) (fe_iald (fe_getR (fe_aloadn 0 rfl dX12_isHarmed_80) fl_RX12_13 lm_0 rfl dX12_isHarmed_81) (fe_iadd (fe_iadd (fe_iloadn 3 rfl dX12_isHarmed_84) (fe_iconst dX12_isHarmed_85) dX12_isHarmed_86) (fe_iload 4 rfl dX12_isHarmed_87) dX12_isHarmed_89) lm_2 dX12_isHarmed_90) dX12_isHarmed_91 rfl)))
set_option maxRecDepth 20000 in
theorem t_M_isHarmed_6 {N B C : Nat × FT} : fw_S s_M_isHarmed [(0, 2), (1, 0), (2, 0), (3, 0), (4, 0)] 94 (rtS (cE 1)) N B C := fs_ret (fe_iconst dX12_isHarmed_94) dX12_isHarmed_95
set_option maxRecDepth 20000 in
theorem t_M_isHarmed_7 {B C : Nat × FT} : fw_S s_M_isHarmed [(0, 2), (1, 0), (2, 0), (3, 0), (4, 0)] 96 (inS 4 1) (99, [(0, 2), (1, 0), (2, 0), (3, 0), (4, 0)]) B C := fs_inc (j := 4) rfl dX12_isHarmed_96 (by decide) rfl
set_option maxRecDepth 20000 in
theorem t_M_isHarmed_8 {B C : Nat × FT} : fw_S s_M_isHarmed [(0, 2), (1, 0), (2, 0), (3, 0), (4, 0)] 43 (whS (nB (cB 3 (vE 4) (clE m_M_colours [(cE 0)]))) (ifS (andB (nB (cB 0 (ldE 128 592 (thE (cE 0) (cE 0)) (o2 addI (o2 addI (vE 3) (cE 3)) (vE 4))) (cE (-1)))) (nB (cB 5 (clE m_M_shadeAt [(cE 0), (vE 2), (ldE 128 592 (thE (cE 0) (cE 0)) (vE 3)), (vE 4)]) (ldE 128 592 (thE (cE 0) (cE 0)) (o2 addI (o2 addI (vE 3) (cE 3)) (vE 4)))))) (rtS (cE 1)) skS) (inS 4 1) FU) (102, [(0, 2), (1, 0), (2, 0), (3, 0), (4, 0)]) B C := fs_while t_M_isHarmed_4 (fs_if t_M_isHarmed_5 t_M_isHarmed_6 (fs_skip rfl)) (fs_goto t_M_isHarmed_7 dX12_isHarmed_99 rfl)
set_option maxRecDepth 20000 in
theorem t_M_isHarmed_9 {N B C : Nat × FT} : fw_S s_M_isHarmed [(0, 2), (1, 0), (2, 0), (3, 0)] 102 (rtS (cE 0)) N B C := fs_ret (fe_iconst dX12_isHarmed_102) dX12_isHarmed_103
set_option maxRecDepth 20000 in
theorem C_M_isHarmed : fw_C LM yX12_isHarmed cX12_isHarmed 5 (some .boolean) 2 [2, 0, 0] (some 0) m_M_isHarmed := fm_z (d := 2) (N := (0, [])) (B := (0, [])) (C := (0, [])) LM_ok (by decide +kernel) (show fw_S s_M_isHarmed _ 0 b_M_isHarmed _ _ _ from (fs_seq t_M_isHarmed_0 (fs_seq (fs_if t_M_isHarmed_1 t_M_isHarmed_2 (fs_skip rfl)) (fs_seq (fs_seq t_M_isHarmed_3 (fs_weak t_M_isHarmed_8 rfl)) t_M_isHarmed_9)))) (by decide)
/-! DyerBellsModel.harmed (this 0 ) -/
abbrev s_M_harmed : SI := (LM, RX12, cX12_harmed, 5, 5, some 0)
set_option maxRecDepth 20000 in
theorem t_M_harmed_0 {B C : Nat × FT} : fw_S s_M_harmed [(0, 2), (1, 0), (2, 0)] 0 (pfS 0 (cE 0) (cE 0)) (5, [(0, 2), (1, 0), (2, 0)]) B C := fs_put (fe_aloadn 0 rfl dX12_harmed_0) (fe_iconst dX12_harmed_1) fp_RX12_91 lm_0 rfl dX12_harmed_2 rfl
set_option maxRecDepth 20000 in
theorem t_M_harmed_1 {B C : Nat × FT} : fw_S s_M_harmed [(0, 2), (1, 0), (2, 0)] 5 (exS (clE m_M_lay [(cE 0)])) (9, [(0, 2), (1, 0), (2, 0)]) B C := fs_callV (t := 0) (fa_cons (fe_aloadn 0 rfl dX12_harmed_5) fa_nil) C_M_lay lv_RX12_175 lm_0 rfl rfl (by decide) (by decide) dX12_harmed_6 rfl
set_option maxRecDepth 20000 in
theorem t_M_harmed_2 : fw_B s_M_harmed [(0, 2), (1, 0), (2, 0)] 0 9 22 24 (orB (zB 0 (clE m_M_isUser [(cE 0), (vE 1)])) (nB (cB 3 (vE 2) (cE (-1))))) := (fb_or (fb_if_eq (fe_callV (fa_cons (fe_aloadn 0 rfl dX12_harmed_9) (fa_cons (fe_iloadn 1 rfl dX12_harmed_10) fa_nil)) C_M_isUser lv_RX12_277 lm_0 rfl rfl (by decide) (by decide) (by decide) dX12_harmed_11) dX12_harmed_14 rfl) (fb_not (fb_icmp_ge (fe_iloadn 2 rfl dX12_harmed_17) (fe_iconst dX12_harmed_18) dX12_harmed_19 rfl)))
set_option maxRecDepth 20000 in
theorem t_M_harmed_3 {N B C : Nat × FT} : fw_S s_M_harmed [(0, 2), (1, 0), (2, 0)] 22 (rtS (cE (-1))) N B C := fs_ret (fe_iconst dX12_harmed_22) dX12_harmed_23
set_option maxRecDepth 20000 in
theorem t_M_harmed_4 {B C : Nat × FT} : fw_S s_M_harmed [(0, 2), (1, 0), (2, 0)] 24 (exS (clE m_M_week [(cE 0)])) (28, [(0, 2), (1, 0), (2, 0)]) B C := fs_callV (t := 0) (fa_cons (fe_aloadn 0 rfl dX12_harmed_24) fa_nil) C_M_week lv_RX12_322 lm_0 rfl rfl (by decide) (by decide) dX12_harmed_25 rfl
set_option maxRecDepth 20000 in
theorem t_M_harmed_5 {B C : Nat × FT} : fw_S s_M_harmed [(0, 2), (1, 0), (2, 0)] 28 (stS 3 (cE 0)) (30, [(0, 2), (1, 0), (2, 0), (3, 0)]) B C := fs_istn (fe_iconst dX12_harmed_28) dX12_harmed_29 (by decide) rfl
set_option maxRecDepth 20000 in
theorem t_M_harmed_6 {B C : Nat × FT} : fw_S s_M_harmed [(0, 2), (1, 0), (2, 0), (3, 0)] 30 (stS 4 (cE 0)) (33, [(0, 2), (1, 0), (2, 0), (3, 0), (4, 0)]) B C := fs_ist (fe_iconst dX12_harmed_30) dX12_harmed_31 (by decide) rfl
set_option maxRecDepth 20000 in
theorem t_M_harmed_7 : fw_B s_M_harmed [(0, 2), (1, 0), (2, 0), (3, 0), (4, 0)] 0 33 41 71 (nB (cB 3 (vE 4) (cE 168))) := (fb_not (fb_icmp_ge (fe_iload 4 rfl dX12_harmed_33) (fe_sipush dX12_harmed_35) dX12_harmed_38 rfl))
set_option maxRecDepth 20000 in
theorem t_M_harmed_8 : fw_B s_M_harmed [(0, 2), (1, 0), (2, 0), (3, 0), (4, 0)] 0 41 51 54 (nB (zB 1 (clE m_M_isHarmed [(cE 0), (vE 1), (vE 4)]))) := (fb_not (fb_if_ne (fe_callV (fa_cons (fe_aloadn 0 rfl dX12_harmed_41) (fa_cons (fe_iloadn 1 rfl dX12_harmed_42) (fa_cons (fe_iload 4 rfl dX12_harmed_43) fa_nil))) C_M_isHarmed lv_RX12_319 lm_0 rfl rfl (by decide) (by decide) (by decide) dX12_harmed_45) dX12_harmed_48 rfl))
set_option maxRecDepth 20000 in
theorem t_M_harmed_9 : fw_B s_M_harmed [(0, 2), (1, 0), (2, 0), (3, 0), (4, 0)] 0 54 59 62 (nB (cB 1 (vE 3) (vE 2))) := (fb_not (fb_icmp_ne (fe_iloadn 3 rfl dX12_harmed_54) (fe_iloadn 2 rfl dX12_harmed_55) dX12_harmed_56 rfl))
set_option maxRecDepth 20000 in
theorem t_M_harmed_10 {N B C : Nat × FT} : fw_S s_M_harmed [(0, 2), (1, 0), (2, 0), (3, 0), (4, 0)] 59 (rtS (vE 4)) N B C := fs_ret (fe_iload 4 rfl dX12_harmed_59) dX12_harmed_61
set_option maxRecDepth 20000 in
theorem t_M_harmed_11 {B C : Nat × FT} : fw_S s_M_harmed [(0, 2), (1, 0), (2, 0), (3, 0), (4, 0)] 62 (inS 3 1) (65, [(0, 2), (1, 0), (2, 0), (3, 0), (4, 0)]) B C := fs_inc (j := 3) rfl dX12_harmed_62 (by decide) rfl
set_option maxRecDepth 20000 in
theorem t_M_harmed_12 {B C : Nat × FT} : fw_S s_M_harmed [(0, 2), (1, 0), (2, 0), (3, 0), (4, 0)] 65 (inS 4 1) (68, [(0, 2), (1, 0), (2, 0), (3, 0), (4, 0)]) B C := fs_inc (j := 4) rfl dX12_harmed_65 (by decide) rfl
set_option maxRecDepth 20000 in
theorem t_M_harmed_13 {B C : Nat × FT} : fw_S s_M_harmed [(0, 2), (1, 0), (2, 0), (3, 0), (4, 0)] 33 (whS (nB (cB 3 (vE 4) (cE 168))) (sq (ifS (nB (zB 1 (clE m_M_isHarmed [(cE 0), (vE 1), (vE 4)]))) ctS skS) (sq (ifS (nB (cB 1 (vE 3) (vE 2))) (rtS (vE 4)) skS) (inS 3 1))) (inS 4 1) FU) (71, [(0, 2), (1, 0), (2, 0), (3, 0), (4, 0)]) B C := fs_while t_M_harmed_7 (fs_seq (fs_if t_M_harmed_8 (fs_cnt dX12_harmed_51 rfl rfl) (fs_skip rfl)) (fs_seq (fs_if t_M_harmed_9 t_M_harmed_10 (fs_skip rfl)) t_M_harmed_11)) (fs_goto t_M_harmed_12 dX12_harmed_68 rfl)
set_option maxRecDepth 20000 in
theorem t_M_harmed_14 {N B C : Nat × FT} : fw_S s_M_harmed [(0, 2), (1, 0), (2, 0), (3, 0)] 71 (rtS (kE (nB (cB 1 (vE 2) (cE (-1)))) (vE 3) (cE (-1)))) N B C := fs_ret (fe_ternG (fb_not (fb_icmp_ne (fe_iloadn 2 rfl dX12_harmed_71) (fe_iconst dX12_harmed_72) dX12_harmed_73 rfl)) (fe_gt (fe_iloadn 3 rfl dX12_harmed_76) dX12_harmed_77 rfl) (fe_iconst dX12_harmed_80)) dX12_harmed_81
set_option maxRecDepth 20000 in
theorem C_M_harmed : fw_C LM yX12_harmed cX12_harmed 5 (some .int) 5 [2, 0, 0] (some 0) m_M_harmed := fm_i (d := 5) (N := (0, [])) (B := (0, [])) (C := (0, [])) LM_ok (by decide +kernel) (show fw_S s_M_harmed _ 0 b_M_harmed _ _ _ from (fs_seq t_M_harmed_0 (fs_seq t_M_harmed_1 (fs_seq (fs_if t_M_harmed_2 t_M_harmed_3 (fs_skip rfl)) (fs_seq t_M_harmed_4 (fs_seq t_M_harmed_5 (fs_seq (fs_seq t_M_harmed_6 (fs_weak t_M_harmed_13 rfl)) t_M_harmed_14))))))) (by decide)
/-! DyerBellsModel.harmAtHand (this 0 ) -/
abbrev s_M_harmAtHand : SI := (LM, RX12, cX12_harmAtHand, 4, 3, some 0)
set_option maxRecDepth 20000 in
theorem t_M_harmAtHand_0 {B C : Nat × FT} : fw_S s_M_harmAtHand [(0, 2)] 0 (stS 1 (cE 0)) (2, [(0, 2), (1, 0)]) B C := fs_istn (fe_iconst dX12_harmAtHand_0) dX12_harmAtHand_1 (by decide) rfl
set_option maxRecDepth 20000 in
theorem t_M_harmAtHand_1 {B C : Nat × FT} : fw_S s_M_harmAtHand [(0, 2), (1, 0)] 2 (stS 2 (cE 0)) (4, [(0, 2), (1, 0), (2, 0)]) B C := fs_istn (fe_iconst dX12_harmAtHand_2) dX12_harmAtHand_3 (by decide) rfl
set_option maxRecDepth 20000 in
theorem t_M_harmAtHand_2 : fw_B s_M_harmAtHand [(0, 2), (1, 0), (2, 0)] 0 4 12 45 (nB (cB 3 (vE 2) (clE m_M_users [(cE 0)]))) := (fb_not (fb_icmp_ge (fe_iloadn 2 rfl dX12_harmAtHand_4) (fe_callV (fa_cons (fe_aloadn 0 rfl dX12_harmAtHand_5) fa_nil) C_M_users lv_RX12_199 lm_0 rfl rfl (by decide) (by decide) (by decide) dX12_harmAtHand_6) dX12_harmAtHand_9 rfl))
set_option maxRecDepth 20000 in
theorem t_M_harmAtHand_3 {B C : Nat × FT} : fw_S s_M_harmAtHand [(0, 2), (1, 0), (2, 0)] 12 (stS 3 (cE 0)) (14, [(0, 2), (1, 0), (2, 0), (3, 0)]) B C := fs_istn (fe_iconst dX12_harmAtHand_12) dX12_harmAtHand_13 (by decide) rfl
set_option maxRecDepth 20000 in
theorem t_M_harmAtHand_4 : fw_B s_M_harmAtHand [(0, 2), (1, 0), (2, 0), (3, 0)] 0 14 21 39 (nB (cB 3 (vE 3) (cE 168))) := (fb_not (fb_icmp_ge (fe_iloadn 3 rfl dX12_harmAtHand_14) (fe_sipush dX12_harmAtHand_15) dX12_harmAtHand_18 rfl))
set_option maxRecDepth 20000 in
theorem t_M_harmAtHand_5 : fw_B s_M_harmAtHand [(0, 2), (1, 0), (2, 0), (3, 0)] 0 21 30 33 (nB (zB 0 (clE m_M_isHarmed [(cE 0), (vE 2), (vE 3)]))) := (fb_not (fb_if_eq (fe_callV (fa_cons (fe_aloadn 0 rfl dX12_harmAtHand_21) (fa_cons (fe_iloadn 2 rfl dX12_harmAtHand_22) (fa_cons (fe_iloadn 3 rfl dX12_harmAtHand_23) fa_nil))) C_M_isHarmed lv_RX12_319 lm_0 rfl rfl (by decide) (by decide) (by decide) dX12_harmAtHand_24) dX12_harmAtHand_27 rfl))
set_option maxRecDepth 20000 in
theorem t_M_harmAtHand_6 {B C : Nat × FT} : fw_S s_M_harmAtHand [(0, 2), (1, 0), (2, 0), (3, 0)] 30 (inS 1 1) (33, [(0, 2), (1, 0), (2, 0), (3, 0)]) B C := fs_inc (j := 1) rfl dX12_harmAtHand_30 (by decide) rfl
set_option maxRecDepth 20000 in
theorem t_M_harmAtHand_7 {B C : Nat × FT} : fw_S s_M_harmAtHand [(0, 2), (1, 0), (2, 0), (3, 0)] 33 (inS 3 1) (36, [(0, 2), (1, 0), (2, 0), (3, 0)]) B C := fs_inc (j := 3) rfl dX12_harmAtHand_33 (by decide) rfl
set_option maxRecDepth 20000 in
theorem t_M_harmAtHand_8 {B C : Nat × FT} : fw_S s_M_harmAtHand [(0, 2), (1, 0), (2, 0), (3, 0)] 14 (whS (nB (cB 3 (vE 3) (cE 168))) (ifS (nB (zB 0 (clE m_M_isHarmed [(cE 0), (vE 2), (vE 3)]))) (inS 1 1) skS) (inS 3 1) FU) (39, [(0, 2), (1, 0), (2, 0), (3, 0)]) B C := fs_while t_M_harmAtHand_4 (fs_if t_M_harmAtHand_5 t_M_harmAtHand_6 (fs_skip rfl)) (fs_goto t_M_harmAtHand_7 dX12_harmAtHand_36 rfl)
set_option maxRecDepth 20000 in
theorem t_M_harmAtHand_9 {B C : Nat × FT} : fw_S s_M_harmAtHand [(0, 2), (1, 0), (2, 0)] 39 (inS 2 1) (42, [(0, 2), (1, 0), (2, 0)]) B C := fs_inc (j := 2) rfl dX12_harmAtHand_39 (by decide) rfl
set_option maxRecDepth 20000 in
theorem t_M_harmAtHand_10 {B C : Nat × FT} : fw_S s_M_harmAtHand [(0, 2), (1, 0), (2, 0)] 4 (whS (nB (cB 3 (vE 2) (clE m_M_users [(cE 0)]))) (sq (stS 3 (cE 0)) (whS (nB (cB 3 (vE 3) (cE 168))) (ifS (nB (zB 0 (clE m_M_isHarmed [(cE 0), (vE 2), (vE 3)]))) (inS 1 1) skS) (inS 3 1) FU)) (inS 2 1) FU) (45, [(0, 2), (1, 0), (2, 0)]) B C := fs_while t_M_harmAtHand_2 (fs_seq t_M_harmAtHand_3 (fs_weak t_M_harmAtHand_8 rfl)) (fs_goto t_M_harmAtHand_9 dX12_harmAtHand_42 rfl)
set_option maxRecDepth 20000 in
theorem t_M_harmAtHand_11 {N B C : Nat × FT} : fw_S s_M_harmAtHand [(0, 2), (1, 0)] 45 (rtS (vE 1)) N B C := fs_ret (fe_iloadn 1 rfl dX12_harmAtHand_45) dX12_harmAtHand_46
set_option maxRecDepth 20000 in
theorem C_M_harmAtHand : fw_C LM yX12_harmAtHand cX12_harmAtHand 4 (some .int) 3 [2] (some 0) m_M_harmAtHand := fm_i (d := 3) (N := (0, [])) (B := (0, [])) (C := (0, [])) LM_ok (by decide +kernel) (show fw_S s_M_harmAtHand _ 0 b_M_harmAtHand _ _ _ from (fs_seq t_M_harmAtHand_0 (fs_seq (fs_seq t_M_harmAtHand_1 (fs_weak t_M_harmAtHand_10 rfl)) t_M_harmAtHand_11))) (by decide)
/-! DyerBellsModel.harmNow (this 0 ) -/
abbrev s_M_harmNow : SI := (LM, RX12, cX12_harmNow, 1, 5, some 0)
set_option maxRecDepth 20000 in
theorem t_M_harmNow_0 {B C : Nat × FT} : fw_S s_M_harmNow [(0, 2)] 0 (exS (clE m_M_week [(cE 0)])) (4, [(0, 2)]) B C := fs_callV (t := 0) (fa_cons (fe_aloadn 0 rfl dX12_harmNow_0) fa_nil) C_M_week lv_RX12_322 lm_0 rfl rfl (by decide) (by decide) dX12_harmNow_1 rfl
set_option maxRecDepth 20000 in
theorem t_M_harmNow_1 {N B C : Nat × FT} : fw_S s_M_harmNow [(0, 2)] 4 (rtS (clE m_M_harmAtHand [(cE 0)])) N B C := fs_ret (fe_callV (fa_cons (fe_aloadn 0 rfl dX12_harmNow_4) fa_nil) C_M_harmAtHand lv_RX12_325 lm_0 rfl rfl (by decide) (by decide) (by decide) dX12_harmNow_5) dX12_harmNow_8
set_option maxRecDepth 20000 in
theorem C_M_harmNow : fw_C LM yX12_harmNow cX12_harmNow 1 (some .int) 5 [2] (some 0) m_M_harmNow := fm_i (d := 5) (N := (0, [])) (B := (0, [])) (C := (0, [])) LM_ok (by decide +kernel) (show fw_S s_M_harmNow _ 0 b_M_harmNow _ _ _ from (fs_seq t_M_harmNow_0 t_M_harmNow_1)) (by decide)
/-! DyerBellsModel.harm (this 0 ) -/
abbrev s_M_harm : SI := (LM, RX12, cX12_harm, 1, 6, some 0)
set_option maxRecDepth 20000 in
theorem t_M_harm_0 {B C : Nat × FT} : fw_S s_M_harm [(0, 2)] 0 (pfS 0 (cE 0) (cE 0)) (5, [(0, 2)]) B C := fs_put (fe_aloadn 0 rfl dX12_harm_0) (fe_iconst dX12_harm_1) fp_RX12_91 lm_0 rfl dX12_harm_2 rfl
set_option maxRecDepth 20000 in
theorem t_M_harm_1 {N B C : Nat × FT} : fw_S s_M_harm [(0, 2)] 5 (rtS (clE m_M_harmNow [(cE 0)])) N B C := fs_ret (fe_callV (fa_cons (fe_aloadn 0 rfl dX12_harm_5) fa_nil) C_M_harmNow lv_RX12_334 lm_0 rfl rfl (by decide) (by decide) (by decide) dX12_harm_6) dX12_harm_9
set_option maxRecDepth 20000 in
theorem C_M_harm : fw_C LM yX12_harm cX12_harm 1 (some .int) 6 [2] (some 0) m_M_harm := fm_i (d := 6) (N := (0, [])) (B := (0, [])) (C := (0, [])) LM_ok (by decide +kernel) (show fw_S s_M_harm _ 0 b_M_harm _ _ _ from (fs_seq t_M_harm_0 t_M_harm_1)) (by decide)
/-! DyerBellsModel.blame (this 0 ) -/
abbrev s_M_blame : SI := (LM, RX12, cX12_blame, 5, 5, some 0)
set_option maxRecDepth 20000 in
theorem t_M_blame_0 {B C : Nat × FT} : fw_S s_M_blame [(0, 2), (1, 0), (2, 0)] 0 (pfS 0 (cE 0) (cE 0)) (5, [(0, 2), (1, 0), (2, 0)]) B C := fs_put (fe_aloadn 0 rfl dX12_blame_0) (fe_iconst dX12_blame_1) fp_RX12_91 lm_0 rfl dX12_blame_2 rfl
set_option maxRecDepth 20000 in
theorem t_M_blame_1 {B C : Nat × FT} : fw_S s_M_blame [(0, 2), (1, 0), (2, 0)] 5 (exS (clE m_M_lay [(cE 0)])) (9, [(0, 2), (1, 0), (2, 0)]) B C := fs_callV (t := 0) (fa_cons (fe_aloadn 0 rfl dX12_blame_5) fa_nil) C_M_lay lv_RX12_175 lm_0 rfl rfl (by decide) (by decide) dX12_blame_6 rfl
set_option maxRecDepth 20000 in
theorem t_M_blame_2 : fw_B s_M_blame [(0, 2), (1, 0), (2, 0)] 0 9 25 27 (orB (zB 0 (clE m_M_isGuild [(cE 0), (vE 1)])) (nB (zB 1 (clE m_M_isUser [(cE 0), (vE 2)])))) := (fb_or (fb_if_eq (fe_callV (fa_cons (fe_aloadn 0 rfl dX12_blame_9) (fa_cons (fe_iloadn 1 rfl dX12_blame_10) fa_nil)) C_M_isGuild lv_RX12_274 lm_0 rfl rfl (by decide) (by decide) (by decide) dX12_blame_11) dX12_blame_14 rfl) (fb_not (fb_if_ne (fe_callV (fa_cons (fe_aloadn 0 rfl dX12_blame_17) (fa_cons (fe_iloadn 2 rfl dX12_blame_18) fa_nil)) C_M_isUser lv_RX12_277 lm_0 rfl rfl (by decide) (by decide) (by decide) dX12_blame_19) dX12_blame_22 rfl)))
set_option maxRecDepth 20000 in
theorem t_M_blame_3 {N B C : Nat × FT} : fw_S s_M_blame [(0, 2), (1, 0), (2, 0)] 25 (rtS (cE (-1))) N B C := fs_ret (fe_iconst dX12_blame_25) dX12_blame_26
set_option maxRecDepth 20000 in
theorem t_M_blame_4 {B C : Nat × FT} : fw_S s_M_blame [(0, 2), (1, 0), (2, 0)] 27 (exS (clE m_M_week [(cE 0)])) (31, [(0, 2), (1, 0), (2, 0)]) B C := fs_callV (t := 0) (fa_cons (fe_aloadn 0 rfl dX12_blame_27) fa_nil) C_M_week lv_RX12_322 lm_0 rfl rfl (by decide) (by decide) dX12_blame_28 rfl
set_option maxRecDepth 20000 in
theorem t_M_blame_5 {B C : Nat × FT} : fw_S s_M_blame [(0, 2), (1, 0), (2, 0)] 31 (stS 3 (cE 0)) (33, [(0, 2), (1, 0), (2, 0), (3, 0)]) B C := fs_istn (fe_iconst dX12_blame_31) dX12_blame_32 (by decide) rfl
set_option maxRecDepth 20000 in
theorem t_M_blame_6 : fw_B s_M_blame [(0, 2), (1, 0), (2, 0), (3, 0)] 0 33 40 58 (nB (cB 3 (vE 3) (cE 168))) := (fb_not (fb_icmp_ge (fe_iloadn 3 rfl dX12_blame_33) (fe_sipush dX12_blame_34) dX12_blame_37 rfl))
set_option maxRecDepth 20000 in
theorem t_M_blame_7 {B C : Nat × FT} : fw_S s_M_blame [(0, 2), (1, 0), (2, 0), (3, 0)] 40 (asS 1152 168 nzI (thE (cE 0) (cE 0)) (vE 3) (clE m_M_isHarmed [(cE 0), (vE 2), (vE 3)])) (52, [(0, 2), (1, 0), (2, 0), (3, 0)]) B C := fs_zast (fe_getR (fe_aloadn 0 rfl dX12_blame_40) fl_RX12_67 lm_0 rfl dX12_blame_41) (fe_iloadn 3 rfl dX12_blame_44) (fe_callV (fa_cons (fe_aloadn 0 rfl dX12_blame_45) (fa_cons (fe_iloadn 2 rfl dX12_blame_46) (fa_cons (fe_iloadn 3 rfl dX12_blame_47) fa_nil))) C_M_isHarmed lv_RX12_319 lm_0 rfl rfl (by decide) (by decide) (by decide) dX12_blame_48) lm_18 dX12_blame_51 rfl
set_option maxRecDepth 20000 in
theorem t_M_blame_8 {B C : Nat × FT} : fw_S s_M_blame [(0, 2), (1, 0), (2, 0), (3, 0)] 52 (inS 3 1) (55, [(0, 2), (1, 0), (2, 0), (3, 0)]) B C := fs_inc (j := 3) rfl dX12_blame_52 (by decide) rfl
set_option maxRecDepth 20000 in
theorem t_M_blame_9 {B C : Nat × FT} : fw_S s_M_blame [(0, 2), (1, 0), (2, 0), (3, 0)] 33 (whS (nB (cB 3 (vE 3) (cE 168))) (asS 1152 168 nzI (thE (cE 0) (cE 0)) (vE 3) (clE m_M_isHarmed [(cE 0), (vE 2), (vE 3)])) (inS 3 1) FU) (58, [(0, 2), (1, 0), (2, 0), (3, 0)]) B C := fs_while t_M_blame_6 t_M_blame_7 (fs_goto t_M_blame_8 dX12_blame_55 rfl)
set_option maxRecDepth 20000 in
theorem t_M_blame_10 {B C : Nat × FT} : fw_S s_M_blame [(0, 2), (1, 0), (2, 0)] 58 (exS (clE m_M_layWorks [(cE 0), (vE 1)])) (63, [(0, 2), (1, 0), (2, 0)]) B C := fs_callV (t := 0) (fa_cons (fe_aloadn 0 rfl dX12_blame_58) (fa_cons (fe_iloadn 1 rfl dX12_blame_59) fa_nil)) C_M_layWorks lv_RX12_304 lm_0 rfl rfl (by decide) (by decide) dX12_blame_60 rfl
set_option maxRecDepth 20000 in
theorem t_M_blame_11 {B C : Nat × FT} : fw_S s_M_blame [(0, 2), (1, 0), (2, 0)] 63 (exS (clE m_M_goWeek [(cE 0)])) (67, [(0, 2), (1, 0), (2, 0)]) B C := fs_callV (t := 0) (fa_cons (fe_aloadn 0 rfl dX12_blame_63) fa_nil) C_M_goWeek lv_RX12_310 lm_0 rfl rfl (by decide) (by decide) dX12_blame_64 rfl
set_option maxRecDepth 20000 in
theorem t_M_blame_12 {B C : Nat × FT} : fw_S s_M_blame [(0, 2), (1, 0), (2, 0)] 67 (stS 3 (cE 0)) (69, [(0, 2), (1, 0), (2, 0), (3, 0)]) B C := fs_istn (fe_iconst dX12_blame_67) dX12_blame_68 (by decide) rfl
set_option maxRecDepth 20000 in
theorem t_M_blame_13 {B C : Nat × FT} : fw_S s_M_blame [(0, 2), (1, 0), (2, 0), (3, 0)] 69 (stS 4 (cE 0)) (72, [(0, 2), (1, 0), (2, 0), (3, 0), (4, 0)]) B C := fs_ist (fe_iconst dX12_blame_69) dX12_blame_70 (by decide) rfl
set_option maxRecDepth 20000 in
theorem t_M_blame_14 : fw_B s_M_blame [(0, 2), (1, 0), (2, 0), (3, 0), (4, 0)] 0 72 80 109 (nB (cB 3 (vE 4) (cE 168))) := (fb_not (fb_icmp_ge (fe_iload 4 rfl dX12_blame_72) (fe_sipush dX12_blame_74) dX12_blame_77 rfl))
set_option maxRecDepth 20000 in
theorem t_M_blame_15 : fw_B s_M_blame [(0, 2), (1, 0), (2, 0), (3, 0), (4, 0)] 0 80 100 103 (andB (nB (zB 0 (ldE 1152 168 (thE (cE 0) (cE 0)) (vE 4)))) (nB (zB 1 (clE m_M_isHarmed [(cE 0), (vE 2), (vE 4)])))) := (fb_and (fb_not (fb_if_eq (fe_zald (fe_getR (fe_aloadn 0 rfl dX12_blame_80) fl_RX12_67 lm_0 rfl dX12_blame_81) (fe_iload 4 rfl dX12_blame_84) lm_18 dX12_blame_86) dX12_blame_87 rfl)) (fb_not (fb_if_ne (fe_callV (fa_cons (fe_aloadn 0 rfl dX12_blame_90) (fa_cons (fe_iloadn 2 rfl dX12_blame_91) (fa_cons (fe_iload 4 rfl dX12_blame_92) fa_nil))) C_M_isHarmed lv_RX12_319 lm_0 rfl rfl (by decide) (by decide) (by decide) dX12_blame_94) dX12_blame_97 rfl)))
set_option maxRecDepth 20000 in
theorem t_M_blame_16 {B C : Nat × FT} : fw_S s_M_blame [(0, 2), (1, 0), (2, 0), (3, 0), (4, 0)] 100 (inS 3 1) (103, [(0, 2), (1, 0), (2, 0), (3, 0), (4, 0)]) B C := fs_inc (j := 3) rfl dX12_blame_100 (by decide) rfl
set_option maxRecDepth 20000 in
theorem t_M_blame_17 {B C : Nat × FT} : fw_S s_M_blame [(0, 2), (1, 0), (2, 0), (3, 0), (4, 0)] 103 (inS 4 1) (106, [(0, 2), (1, 0), (2, 0), (3, 0), (4, 0)]) B C := fs_inc (j := 4) rfl dX12_blame_103 (by decide) rfl
set_option maxRecDepth 20000 in
theorem t_M_blame_18 {B C : Nat × FT} : fw_S s_M_blame [(0, 2), (1, 0), (2, 0), (3, 0), (4, 0)] 72 (whS (nB (cB 3 (vE 4) (cE 168))) (ifS (andB (nB (zB 0 (ldE 1152 168 (thE (cE 0) (cE 0)) (vE 4)))) (nB (zB 1 (clE m_M_isHarmed [(cE 0), (vE 2), (vE 4)])))) (inS 3 1) skS) (inS 4 1) FU) (109, [(0, 2), (1, 0), (2, 0), (3, 0), (4, 0)]) B C := fs_while t_M_blame_14 (fs_if t_M_blame_15 t_M_blame_16 (fs_skip rfl)) (fs_goto t_M_blame_17 dX12_blame_106 rfl)
set_option maxRecDepth 20000 in
theorem t_M_blame_19 {N B C : Nat × FT} : fw_S s_M_blame [(0, 2), (1, 0), (2, 0), (3, 0)] 109 (rtS (vE 3)) N B C := fs_ret (fe_iloadn 3 rfl dX12_blame_109) dX12_blame_110
set_option maxRecDepth 20000 in
theorem C_M_blame : fw_C LM yX12_blame cX12_blame 5 (some .int) 5 [2, 0, 0] (some 0) m_M_blame := fm_i (d := 5) (N := (0, [])) (B := (0, [])) (C := (0, [])) LM_ok (by decide +kernel) (show fw_S s_M_blame _ 0 b_M_blame _ _ _ from (fs_seq t_M_blame_0 (fs_seq t_M_blame_1 (fs_seq (fs_if t_M_blame_2 t_M_blame_3 (fs_skip rfl)) (fs_seq t_M_blame_4 (fs_seq (fs_seq t_M_blame_5 (fs_weak t_M_blame_9 rfl)) (fs_seq t_M_blame_10 (fs_seq t_M_blame_11 (fs_seq t_M_blame_12 (fs_seq (fs_seq t_M_blame_13 (fs_weak t_M_blame_18 rfl)) t_M_blame_19)))))))))) (by decide)
/-! DyerBellsModel.duty (this 0 ) -/
abbrev s_M_duty : SI := (LM, RX12, cX12_duty, 4, 3, some 0)
set_option maxRecDepth 20000 in
theorem t_M_duty_0 {B C : Nat × FT} : fw_S s_M_duty [(0, 2), (1, 0)] 0 (pfS 0 (cE 0) (cE 0)) (5, [(0, 2), (1, 0)]) B C := fs_put (fe_aloadn 0 rfl dX12_duty_0) (fe_iconst dX12_duty_1) fp_RX12_91 lm_0 rfl dX12_duty_2 rfl
set_option maxRecDepth 20000 in
theorem t_M_duty_1 {B C : Nat × FT} : fw_S s_M_duty [(0, 2), (1, 0)] 5 (exS (clE m_M_lay [(cE 0)])) (9, [(0, 2), (1, 0)]) B C := fs_callV (t := 0) (fa_cons (fe_aloadn 0 rfl dX12_duty_5) fa_nil) C_M_lay lv_RX12_175 lm_0 rfl rfl (by decide) (by decide) dX12_duty_6 rfl
set_option maxRecDepth 20000 in
theorem t_M_duty_2 : fw_B s_M_duty [(0, 2), (1, 0)] 0 9 17 19 (nB (zB 1 (clE m_M_isGuild [(cE 0), (vE 1)]))) := (fb_not (fb_if_ne (fe_callV (fa_cons (fe_aloadn 0 rfl dX12_duty_9) (fa_cons (fe_iloadn 1 rfl dX12_duty_10) fa_nil)) C_M_isGuild lv_RX12_274 lm_0 rfl rfl (by decide) (by decide) (by decide) dX12_duty_11) dX12_duty_14 rfl))
set_option maxRecDepth 20000 in
theorem t_M_duty_3 {N B C : Nat × FT} : fw_S s_M_duty [(0, 2), (1, 0)] 17 (rtS (cE (-1))) N B C := fs_ret (fe_iconst dX12_duty_17) dX12_duty_18
set_option maxRecDepth 20000 in
theorem t_M_duty_4 {B C : Nat × FT} : fw_S s_M_duty [(0, 2), (1, 0)] 19 (exS (clE m_M_layWorks [(cE 0), (cE (-1))])) (24, [(0, 2), (1, 0)]) B C := fs_callV (t := 0) (fa_cons (fe_aloadn 0 rfl dX12_duty_19) (fa_cons (fe_iconst dX12_duty_20) fa_nil)) C_M_layWorks lv_RX12_304 lm_0 rfl rfl (by decide) (by decide) dX12_duty_21 rfl
set_option maxRecDepth 20000 in
theorem t_M_duty_5 {B C : Nat × FT} : fw_S s_M_duty [(0, 2), (1, 0)] 24 (stS 2 (ldE 128 592 (thE (cE 0) (cE 0)) (o2 addI (o2 addI (cE 30) (o2 mulI (cE 6) (vE 1))) (cE 1)))) (39, [(0, 2), (1, 0), (2, 0)]) B C := fs_istn (fe_iald (fe_getR (fe_aloadn 0 rfl dX12_duty_24) fl_RX12_13 lm_0 rfl dX12_duty_25) (fe_iadd (fe_iadd (fe_bipush dX12_duty_28) (fe_imul (fe_bipush dX12_duty_30) (fe_iloadn 1 rfl dX12_duty_32) dX12_duty_33) dX12_duty_34) (fe_iconst dX12_duty_35) dX12_duty_36) lm_2 dX12_duty_37) dX12_duty_38 (by decide) rfl
set_option maxRecDepth 20000 in
theorem t_M_duty_6 {B C : Nat × FT} : fw_S s_M_duty [(0, 2), (1, 0), (2, 0)] 39 (stS 3 (cE 0)) (41, [(0, 2), (1, 0), (2, 0), (3, 0)]) B C := fs_istn (fe_iconst dX12_duty_39) dX12_duty_40 (by decide) rfl
set_option maxRecDepth 20000 in
theorem t_M_duty_7 : fw_B s_M_duty [(0, 2), (1, 0), (2, 0), (3, 0)] 0 41 48 70 (nB (cB 3 (vE 3) (cE 168))) := (fb_not (fb_icmp_ge (fe_iloadn 3 rfl dX12_duty_41) (fe_sipush dX12_duty_42) dX12_duty_45 rfl))
set_option maxRecDepth 20000 in
theorem t_M_duty_8 : fw_B s_M_duty [(0, 2), (1, 0), (2, 0), (3, 0)] 0 48 61 64 (nB (zB 0 (clE m_M_has [(ldE 640 168 (thE (cE 0) (cE 0)) (vE 3)), (vE 1)]))) := (fb_not (fb_if_eq (fe_callS (fa_cons (fe_iald (fe_getR (fe_aloadn 0 rfl dX12_duty_48) fl_RX12_39 lm_0 rfl dX12_duty_49) (fe_iloadn 3 rfl dX12_duty_52) lm_10 dX12_duty_53) (fa_cons (fe_iloadn 1 rfl dX12_duty_54) fa_nil)) C_M_has ls_RX12_220 rfl (by decide) (by decide) (by decide) dX12_duty_55) dX12_duty_58 rfl))
set_option maxRecDepth 20000 in
theorem t_M_duty_9 {B C : Nat × FT} : fw_S s_M_duty [(0, 2), (1, 0), (2, 0), (3, 0)] 61 (inS 2 (-1)) (64, [(0, 2), (1, 0), (2, 0), (3, 0)]) B C := fs_inc (j := 2) rfl dX12_duty_61 (by decide) rfl
set_option maxRecDepth 20000 in
theorem t_M_duty_10 {B C : Nat × FT} : fw_S s_M_duty [(0, 2), (1, 0), (2, 0), (3, 0)] 64 (inS 3 1) (67, [(0, 2), (1, 0), (2, 0), (3, 0)]) B C := fs_inc (j := 3) rfl dX12_duty_64 (by decide) rfl
set_option maxRecDepth 20000 in
theorem t_M_duty_11 {B C : Nat × FT} : fw_S s_M_duty [(0, 2), (1, 0), (2, 0), (3, 0)] 41 (whS (nB (cB 3 (vE 3) (cE 168))) (ifS (nB (zB 0 (clE m_M_has [(ldE 640 168 (thE (cE 0) (cE 0)) (vE 3)), (vE 1)]))) (inS 2 (-1)) skS) (inS 3 1) FU) (70, [(0, 2), (1, 0), (2, 0), (3, 0)]) B C := fs_while t_M_duty_7 (fs_if t_M_duty_8 t_M_duty_9 (fs_skip rfl)) (fs_goto t_M_duty_10 dX12_duty_67 rfl)
set_option maxRecDepth 20000 in
theorem t_M_duty_12 {N B C : Nat × FT} : fw_S s_M_duty [(0, 2), (1, 0), (2, 0)] 70 (rtS (kE (nB (zB 5 (vE 2))) (vE 2) (cE 0))) N B C := fs_ret (fe_ternG (fb_not (fb_if_le (fe_iloadn 2 rfl dX12_duty_70) dX12_duty_71 rfl)) (fe_gt (fe_iloadn 2 rfl dX12_duty_74) dX12_duty_75 rfl) (fe_iconst dX12_duty_78)) dX12_duty_79
set_option maxRecDepth 20000 in
theorem C_M_duty : fw_C LM yX12_duty cX12_duty 4 (some .int) 3 [2, 0] (some 0) m_M_duty := fm_i (d := 3) (N := (0, [])) (B := (0, [])) (C := (0, [])) LM_ok (by decide +kernel) (show fw_S s_M_duty _ 0 b_M_duty _ _ _ from (fs_seq t_M_duty_0 (fs_seq t_M_duty_1 (fs_seq (fs_if t_M_duty_2 t_M_duty_3 (fs_skip rfl)) (fs_seq t_M_duty_4 (fs_seq t_M_duty_5 (fs_seq (fs_seq t_M_duty_6 (fs_weak t_M_duty_11 rfl)) t_M_duty_12))))))) (by decide)
/-! DyerBellsModel.pulse (this 0 ) -/
abbrev s_M_pulse : SI := (LM, RX12, cX12_pulse, 10, 4, some 0)
set_option maxRecDepth 20000 in
theorem t_M_pulse_0 {B C : Nat × FT} : fw_S s_M_pulse [(0, 2), (1, 0), (2, 0), (3, 0), (4, 0)] 0 (pfS 0 (cE 0) (cE 0)) (5, [(0, 2), (1, 0), (2, 0), (3, 0), (4, 0)]) B C := fs_put (fe_aloadn 0 rfl dX12_pulse_0) (fe_iconst dX12_pulse_1) fp_RX12_91 lm_0 rfl dX12_pulse_2 rfl
set_option maxRecDepth 20000 in
theorem t_M_pulse_1 {B C : Nat × FT} : fw_S s_M_pulse [(0, 2), (1, 0), (2, 0), (3, 0), (4, 0)] 5 (exS (clE m_M_lay [(cE 0)])) (9, [(0, 2), (1, 0), (2, 0), (3, 0), (4, 0)]) B C := fs_callV (t := 0) (fa_cons (fe_aloadn 0 rfl dX12_pulse_5) fa_nil) C_M_lay lv_RX12_175 lm_0 rfl rfl (by decide) (by decide) dX12_pulse_6 rfl
set_option maxRecDepth 20000 in
theorem t_M_pulse_2 : fw_B s_M_pulse [(0, 2), (1, 0), (2, 0), (3, 0), (4, 0)] 0 9 46 49 (orB (orB (orB (zB 0 (clE m_M_isReach [(cE 0), (vE 1)])) (zB 0 (clE m_M_isColour [(cE 0), (vE 2)]))) (zB 0 (clE m_M_isIn [(vE 3), (cE 1), (cE 9999)]))) (nB (zB 1 (clE m_M_isIn [(vE 4), (cE 0), (cE 2)])))) := (fb_or (fb_or (fb_or (fb_if_eq (fe_callV (fa_cons (fe_aloadn 0 rfl dX12_pulse_9) (fa_cons (fe_iloadn 1 rfl dX12_pulse_10) fa_nil)) C_M_isReach lv_RX12_268 lm_0 rfl rfl (by decide) (by decide) (by decide) dX12_pulse_11) dX12_pulse_14 rfl) (fb_if_eq (fe_callV (fa_cons (fe_aloadn 0 rfl dX12_pulse_17) (fa_cons (fe_iloadn 2 rfl dX12_pulse_18) fa_nil)) C_M_isColour lv_RX12_331 lm_0 rfl rfl (by decide) (by decide) (by decide) dX12_pulse_19) dX12_pulse_22 rfl)) (fb_if_eq (fe_callS (fa_cons (fe_iloadn 3 rfl dX12_pulse_25) (fa_cons (fe_iconst dX12_pulse_26) (fa_cons (fe_sipush dX12_pulse_27) fa_nil))) C_M_isIn ls_RX12_162 rfl (by decide) (by decide) (by decide) dX12_pulse_30) dX12_pulse_33 rfl)) (fb_not (fb_if_ne (fe_callS (fa_cons (fe_iload 4 rfl dX12_pulse_36) (fa_cons (fe_iconst dX12_pulse_38) (fa_cons (fe_iconst dX12_pulse_39) fa_nil))) C_M_isIn ls_RX12_162 rfl (by decide) (by decide) (by decide) dX12_pulse_40) dX12_pulse_43 rfl)))
set_option maxRecDepth 20000 in
theorem t_M_pulse_3 {N B C : Nat × FT} : fw_S s_M_pulse [(0, 2), (1, 0), (2, 0), (3, 0), (4, 0)] 46 (rtS (cE (-2))) N B C := fs_ret (fe_bipush dX12_pulse_46) dX12_pulse_48
set_option maxRecDepth 20000 in
theorem t_M_pulse_4 {B C : Nat × FT} : fw_S s_M_pulse [(0, 2), (1, 0), (2, 0), (3, 0), (4, 0)] 49 (stS 5 (cE 0)) (52, [(0, 2), (1, 0), (2, 0), (3, 0), (4, 0), (5, 0)]) B C := fs_ist (fe_iconst dX12_pulse_49) dX12_pulse_50 (by decide) rfl
set_option maxRecDepth 20000 in
theorem t_M_pulse_5 : fw_B s_M_pulse [(0, 2), (1, 0), (2, 0), (3, 0), (4, 0), (5, 0)] 0 52 60 74 (nB (cB 3 (vE 5) (cE 168))) := (fb_not (fb_icmp_ge (fe_iload 5 rfl dX12_pulse_52) (fe_sipush dX12_pulse_54) dX12_pulse_57 rfl))
set_option maxRecDepth 20000 in
theorem t_M_pulse_6 {B C : Nat × FT} : fw_S s_M_pulse [(0, 2), (1, 0), (2, 0), (3, 0), (4, 0), (5, 0)] 60 (asS 640 168 idI (thE (cE 0) (cE 0)) (vE 5) (cE 0)) (68, [(0, 2), (1, 0), (2, 0), (3, 0), (4, 0), (5, 0)]) B C := fs_iast (fe_getR (fe_aloadn 0 rfl dX12_pulse_60) fl_RX12_39 lm_0 rfl dX12_pulse_61) (fe_iload 5 rfl dX12_pulse_64) (fe_iconst dX12_pulse_66) lm_10 dX12_pulse_67 rfl
set_option maxRecDepth 20000 in
theorem t_M_pulse_7 {B C : Nat × FT} : fw_S s_M_pulse [(0, 2), (1, 0), (2, 0), (3, 0), (4, 0), (5, 0)] 68 (inS 5 1) (71, [(0, 2), (1, 0), (2, 0), (3, 0), (4, 0), (5, 0)]) B C := fs_inc (j := 5) rfl dX12_pulse_68 (by decide) rfl
set_option maxRecDepth 20000 in
theorem t_M_pulse_8 {B C : Nat × FT} : fw_S s_M_pulse [(0, 2), (1, 0), (2, 0), (3, 0), (4, 0), (5, 0)] 52 (whS (nB (cB 3 (vE 5) (cE 168))) (asS 640 168 idI (thE (cE 0) (cE 0)) (vE 5) (cE 0)) (inS 5 1) FU) (74, [(0, 2), (1, 0), (2, 0), (3, 0), (4, 0), (5, 0)]) B C := fs_while t_M_pulse_5 t_M_pulse_6 (fs_goto t_M_pulse_7 dX12_pulse_71 rfl)
set_option maxRecDepth 20000 in
theorem t_M_pulse_9 {B C : Nat × FT} : fw_S s_M_pulse [(0, 2), (1, 0), (2, 0), (3, 0), (4, 0)] 74 (exS (clE m_M_layFlows [(cE 0)])) (78, [(0, 2), (1, 0), (2, 0), (3, 0), (4, 0)]) B C := fs_callV (t := 0) (fa_cons (fe_aloadn 0 rfl dX12_pulse_74) fa_nil) C_M_layFlows lv_RX12_307 lm_0 rfl rfl (by decide) (by decide) dX12_pulse_75 rfl
set_option maxRecDepth 20000 in
theorem t_M_pulse_10 {B C : Nat × FT} : fw_S s_M_pulse [(0, 2), (1, 0), (2, 0), (3, 0), (4, 0)] 78 (pfS 34 (cE 0) (vE 1)) (83, [(0, 2), (1, 0), (2, 0), (3, 0), (4, 0)]) B C := fs_put (fe_aloadn 0 rfl dX12_pulse_78) (fe_iloadn 1 rfl dX12_pulse_79) fp_RX12_63 lm_0 rfl dX12_pulse_80 rfl
set_option maxRecDepth 20000 in
theorem t_M_pulse_11 {B C : Nat × FT} : fw_S s_M_pulse [(0, 2), (1, 0), (2, 0), (3, 0), (4, 0)] 83 (pfS 35 (cE 0) (vE 2)) (88, [(0, 2), (1, 0), (2, 0), (3, 0), (4, 0)]) B C := fs_put (fe_aloadn 0 rfl dX12_pulse_83) (fe_iloadn 2 rfl dX12_pulse_84) fp_RX12_293 lm_0 rfl dX12_pulse_85 rfl
set_option maxRecDepth 20000 in
theorem t_M_pulse_12 {B C : Nat × FT} : fw_S s_M_pulse [(0, 2), (1, 0), (2, 0), (3, 0), (4, 0)] 88 (pfS 36 (cE 0) (vE 3)) (93, [(0, 2), (1, 0), (2, 0), (3, 0), (4, 0)]) B C := fs_put (fe_aloadn 0 rfl dX12_pulse_88) (fe_iloadn 3 rfl dX12_pulse_89) fp_RX12_296 lm_0 rfl dX12_pulse_90 rfl
set_option maxRecDepth 20000 in
theorem t_M_pulse_13 {B C : Nat × FT} : fw_S s_M_pulse [(0, 2), (1, 0), (2, 0), (3, 0), (4, 0)] 93 (exS (clE m_M_goWeek [(cE 0)])) (97, [(0, 2), (1, 0), (2, 0), (3, 0), (4, 0)]) B C := fs_callV (t := 0) (fa_cons (fe_aloadn 0 rfl dX12_pulse_93) fa_nil) C_M_goWeek lv_RX12_310 lm_0 rfl rfl (by decide) (by decide) dX12_pulse_94 rfl
set_option maxRecDepth 20000 in
theorem t_M_pulse_14 {B C : Nat × FT} : fw_S s_M_pulse [(0, 2), (1, 0), (2, 0), (3, 0), (4, 0)] 97 (pfS 34 (cE 0) (cE (-1))) (102, [(0, 2), (1, 0), (2, 0), (3, 0), (4, 0)]) B C := fs_put (fe_aloadn 0 rfl dX12_pulse_97) (fe_iconst dX12_pulse_98) fp_RX12_63 lm_0 rfl dX12_pulse_99 rfl
set_option maxRecDepth 20000 in
theorem t_M_pulse_15 {B C : Nat × FT} : fw_S s_M_pulse [(0, 2), (1, 0), (2, 0), (3, 0), (4, 0)] 102 (stS 5 (cE (-1))) (105, [(0, 2), (1, 0), (2, 0), (3, 0), (4, 0), (5, 0)]) B C := fs_ist (fe_iconst dX12_pulse_102) dX12_pulse_103 (by decide) rfl
set_option maxRecDepth 20000 in
theorem t_M_pulse_16 {B C : Nat × FT} : fw_S s_M_pulse [(0, 2), (1, 0), (2, 0), (3, 0), (4, 0), (5, 0)] 105 (stS 6 (cE (-1))) (108, [(0, 2), (1, 0), (2, 0), (3, 0), (4, 0), (5, 0), (6, 0)]) B C := fs_ist (fe_iconst dX12_pulse_105) dX12_pulse_106 (by decide) rfl
set_option maxRecDepth 20000 in
theorem t_M_pulse_17 {B C : Nat × FT} : fw_S s_M_pulse [(0, 2), (1, 0), (2, 0), (3, 0), (4, 0), (5, 0), (6, 0)] 108 (stS 7 (cE 0)) (111, [(0, 2), (1, 0), (2, 0), (3, 0), (4, 0), (5, 0), (6, 0), (7, 0)]) B C := fs_ist (fe_iconst dX12_pulse_108) dX12_pulse_109 (by decide) rfl
set_option maxRecDepth 20000 in
theorem t_M_pulse_18 {B C : Nat × FT} : fw_S s_M_pulse [(0, 2), (1, 0), (2, 0), (3, 0), (4, 0), (5, 0), (6, 0), (7, 0)] 111 (stS 8 (cE 0)) (114, [(0, 2), (1, 0), (2, 0), (3, 0), (4, 0), (5, 0), (6, 0), (7, 0), (8, 0)]) B C := fs_ist (fe_iconst dX12_pulse_111) dX12_pulse_112 (by decide) rfl
set_option maxRecDepth 20000 in
theorem t_M_pulse_19 : fw_B s_M_pulse [(0, 2), (1, 0), (2, 0), (3, 0), (4, 0), (5, 0), (6, 0), (7, 0), (8, 0)] 0 114 122 192 (nB (cB 3 (vE 8) (cE 168))) := (fb_not (fb_icmp_ge (fe_iload 8 rfl dX12_pulse_114) (fe_sipush dX12_pulse_116) dX12_pulse_119 rfl))
set_option maxRecDepth 20000 in
theorem t_M_pulse_20 {B C : Nat × FT} : fw_S s_M_pulse [(0, 2), (1, 0), (2, 0), (3, 0), (4, 0), (5, 0), (6, 0), (7, 0), (8, 0)] 122 (stS 9 (ldE 832 672 (thE (cE 0) (cE 0)) (o2 addI (o2 mulI (cE 4) (vE 8)) (vE 2)))) (135, [(0, 2), (1, 0), (2, 0), (3, 0), (4, 0), (5, 0), (6, 0), (7, 0), (8, 0), (9, 0)]) B C := fs_ist (fe_iald (fe_getR (fe_aloadn 0 rfl dX12_pulse_122) fl_RX12_48 lm_0 rfl dX12_pulse_123) (fe_iadd (fe_imul (fe_iconst dX12_pulse_126) (fe_iload 8 rfl dX12_pulse_127) dX12_pulse_129) (fe_iloadn 2 rfl dX12_pulse_130) dX12_pulse_131) lm_13 dX12_pulse_132) dX12_pulse_133 (by decide) rfl
set_option maxRecDepth 20000 in
theorem t_M_pulse_21 {B C : Nat × FT} : fw_S s_M_pulse [(0, 2), (1, 0), (2, 0), (3, 0), (4, 0), (5, 0), (6, 0), (7, 0), (8, 0), (9, 0)] 135 (stS 7 (o2 addI (vE 7) (vE 9))) (142, [(0, 2), (1, 0), (2, 0), (3, 0), (4, 0), (5, 0), (6, 0), (7, 0), (8, 0), (9, 0)]) B C := fs_ist (fe_iadd (fe_iload 7 rfl dX12_pulse_135) (fe_iload 9 rfl dX12_pulse_137) dX12_pulse_139) dX12_pulse_140 (by decide) rfl
set_option maxRecDepth 20000 in
theorem t_M_pulse_22 : fw_B s_M_pulse [(0, 2), (1, 0), (2, 0), (3, 0), (4, 0), (5, 0), (6, 0), (7, 0), (8, 0), (9, 0)] 0 142 147 150 (nB (zB 1 (vE 9))) := (fb_not (fb_if_ne (fe_iload 9 rfl dX12_pulse_142) dX12_pulse_144 rfl))
set_option maxRecDepth 20000 in
theorem t_M_pulse_23 : fw_B s_M_pulse [(0, 2), (1, 0), (2, 0), (3, 0), (4, 0), (5, 0), (6, 0), (7, 0), (8, 0), (9, 0)] 0 150 156 160 (nB (cB 1 (vE 5) (cE (-1)))) := (fb_not (fb_icmp_ne (fe_iload 5 rfl dX12_pulse_150) (fe_iconst dX12_pulse_152) dX12_pulse_153 rfl))
set_option maxRecDepth 20000 in
theorem t_M_pulse_24 {B C : Nat × FT} : fw_S s_M_pulse [(0, 2), (1, 0), (2, 0), (3, 0), (4, 0), (5, 0), (6, 0), (7, 0), (8, 0), (9, 0)] 156 (stS 5 (vE 8)) (160, [(0, 2), (1, 0), (2, 0), (3, 0), (4, 0), (5, 0), (6, 0), (7, 0), (8, 0), (9, 0)]) B C := fs_ist (fe_iload 8 rfl dX12_pulse_156) dX12_pulse_158 (by decide) rfl
set_option maxRecDepth 20000 in
theorem t_M_pulse_25 : fw_B s_M_pulse [(0, 2), (1, 0), (2, 0), (3, 0), (4, 0), (5, 0), (6, 0), (7, 0), (8, 0), (9, 0)] 0 160 182 186 (orB (cB 0 (vE 6) (cE (-1))) (nB (cB 5 (vE 9) (ldE 832 672 (thE (cE 0) (cE 0)) (o2 addI (o2 mulI (cE 4) (vE 6)) (vE 2)))))) := (fb_or (fb_icmp_eq (fe_iload 6 rfl dX12_pulse_160) (fe_iconst dX12_pulse_162) dX12_pulse_163 rfl) (fb_not (fb_icmp_le (fe_iload 9 rfl dX12_pulse_166) (fe_iald (fe_getR (fe_aloadn 0 rfl dX12_pulse_168) fl_RX12_48 lm_0 rfl dX12_pulse_169) (fe_iadd (fe_imul (fe_iconst dX12_pulse_172) (fe_iload 6 rfl dX12_pulse_173) dX12_pulse_175) (fe_iloadn 2 rfl dX12_pulse_176) dX12_pulse_177) lm_13 dX12_pulse_178) dX12_pulse_179 rfl)))
set_option maxRecDepth 20000 in
theorem t_M_pulse_26 {B C : Nat × FT} : fw_S s_M_pulse [(0, 2), (1, 0), (2, 0), (3, 0), (4, 0), (5, 0), (6, 0), (7, 0), (8, 0), (9, 0)] 182 (stS 6 (vE 8)) (186, [(0, 2), (1, 0), (2, 0), (3, 0), (4, 0), (5, 0), (6, 0), (7, 0), (8, 0)]) B C := fs_ist (fe_iload 8 rfl dX12_pulse_182) dX12_pulse_184 (by decide) rfl
set_option maxRecDepth 20000 in
theorem t_M_pulse_27 {B C : Nat × FT} : fw_S s_M_pulse [(0, 2), (1, 0), (2, 0), (3, 0), (4, 0), (5, 0), (6, 0), (7, 0), (8, 0)] 186 (inS 8 1) (189, [(0, 2), (1, 0), (2, 0), (3, 0), (4, 0), (5, 0), (6, 0), (7, 0), (8, 0)]) B C := fs_inc (j := 8) rfl dX12_pulse_186 (by decide) rfl
set_option maxRecDepth 20000 in
theorem t_M_pulse_28 {B C : Nat × FT} : fw_S s_M_pulse [(0, 2), (1, 0), (2, 0), (3, 0), (4, 0), (5, 0), (6, 0), (7, 0), (8, 0)] 114 (whS (nB (cB 3 (vE 8) (cE 168))) (sq (stS 9 (ldE 832 672 (thE (cE 0) (cE 0)) (o2 addI (o2 mulI (cE 4) (vE 8)) (vE 2)))) (sq (stS 7 (o2 addI (vE 7) (vE 9))) (sq (ifS (nB (zB 1 (vE 9))) ctS skS) (sq (ifS (nB (cB 1 (vE 5) (cE (-1)))) (stS 5 (vE 8)) skS) (ifS (orB (cB 0 (vE 6) (cE (-1))) (nB (cB 5 (vE 9) (ldE 832 672 (thE (cE 0) (cE 0)) (o2 addI (o2 mulI (cE 4) (vE 6)) (vE 2)))))) (stS 6 (vE 8)) skS))))) (inS 8 1) FU) (192, [(0, 2), (1, 0), (2, 0), (3, 0), (4, 0), (5, 0), (6, 0), (7, 0), (8, 0)]) B C := fs_while t_M_pulse_19 (fs_seq t_M_pulse_20 (fs_seq t_M_pulse_21 (fs_seq (fs_if t_M_pulse_22 (fs_cnt dX12_pulse_147 rfl rfl) (fs_skip rfl)) (fs_seq (fs_if t_M_pulse_23 t_M_pulse_24 (fs_skip rfl)) (fs_if t_M_pulse_25 t_M_pulse_26 (fs_skip rfl)))))) (fs_goto t_M_pulse_27 dX12_pulse_189 rfl)
set_option maxRecDepth 20000 in
theorem t_M_pulse_29 {N B C : Nat × FT} : fw_S s_M_pulse [(0, 2), (1, 0), (2, 0), (3, 0), (4, 0), (5, 0), (6, 0), (7, 0)] 192 (rtS (kE (nB (zB 1 (vE 4))) (vE 5) (kE (nB (cB 1 (vE 4) (cE 1))) (vE 6) (vE 7)))) N B C := fs_ret (fe_ternG (fb_not (fb_if_ne (fe_iload 4 rfl dX12_pulse_192) dX12_pulse_194 rfl)) (fe_gt (fe_iload 5 rfl dX12_pulse_197) dX12_pulse_199 rfl) (fe_ternG (fb_not (fb_icmp_ne (fe_iload 4 rfl dX12_pulse_202) (fe_iconst dX12_pulse_204) dX12_pulse_205 rfl)) (fe_gt (fe_iload 6 rfl dX12_pulse_208) dX12_pulse_210 rfl) (fe_iload 7 rfl dX12_pulse_213))) dX12_pulse_215
set_option maxRecDepth 20000 in
theorem C_M_pulse : fw_C LM yX12_pulse cX12_pulse 10 (some .int) 4 [2, 0, 0, 0, 0] (some 0) m_M_pulse := fm_i (d := 4) (N := (0, [])) (B := (0, [])) (C := (0, [])) LM_ok (by decide +kernel) (show fw_S s_M_pulse _ 0 b_M_pulse _ _ _ from (fs_seq t_M_pulse_0 (fs_seq t_M_pulse_1 (fs_seq (fs_if t_M_pulse_2 t_M_pulse_3 (fs_skip rfl)) (fs_seq (fs_seq t_M_pulse_4 (fs_weak t_M_pulse_8 rfl)) (fs_seq t_M_pulse_9 (fs_seq t_M_pulse_10 (fs_seq t_M_pulse_11 (fs_seq t_M_pulse_12 (fs_seq t_M_pulse_13 (fs_seq t_M_pulse_14 (fs_seq t_M_pulse_15 (fs_seq t_M_pulse_16 (fs_seq t_M_pulse_17 (fs_seq (fs_seq t_M_pulse_18 (fs_weak t_M_pulse_28 rfl)) t_M_pulse_29))))))))))))))) (by decide)
/-! a group: M_tryDays -/
abbrev s_M_tryDays (n : Nat) : SI := (LM, RX12, cX12_tryDays, 5, 6 + n + 1, none)
def H_M_tryDays (n : Nat) (F : FM) : Prop := fw_C LM yX12_tryDays cX12_tryDays 5 none (6 + n) [2, 0, 0] (none) F
set_option maxRecDepth 20000 in
theorem t_M_tryDays_0 {n : Nat} {F : FM} (hC : H_M_tryDays n F) : fw_B (s_M_tryDays n) [(0, 2), (1, 0), (2, 0)] 0 0 8 65 (nB (cB 1 (vE 1) (thE (cE 0) (gE 42)))) := (fb_not (fb_icmp_ne (fe_iloadn 1 rfl dX12_tryDays_0) (fe_getI (fe_aloadn 0 rfl dX12_tryDays_1) fl_RX12_337 lm_0 rfl dX12_tryDays_2) dX12_tryDays_5 rfl))
set_option maxRecDepth 20000 in
theorem t_M_tryDays_1 {n : Nat} {F : FM} (hC : H_M_tryDays n F) {B C : Nat × FT} : fw_S (s_M_tryDays n) [(0, 2), (1, 0), (2, 0)] 8 (stS 3 (clE m_M_harmNow [(cE 0)])) (13, [(0, 2), (1, 0), (2, 0), (3, 0)]) B C := fs_istn (fe_callV (fa_cons (fe_aloadn 0 rfl dX12_tryDays_8) fa_nil) C_M_harmNow lv_RX12_334 lm_0 rfl rfl (by omega) (by decide) (by decide) dX12_tryDays_9) dX12_tryDays_12 (by decide) rfl
set_option maxRecDepth 20000 in
theorem t_M_tryDays_2 {n : Nat} {F : FM} (hC : H_M_tryDays n F) : fw_B (s_M_tryDays n) [(0, 2), (1, 0), (2, 0), (3, 0)] 0 13 29 30 (andB (nB (cB 0 (thE (cE 0) (gE 43)) (cE (-1)))) (nB (cB 2 (vE 3) (thE (cE 0) (gE 43))))) := (fb_and (fb_not (fb_icmp_eq (fe_getI (fe_aloadn 0 rfl dX12_tryDays_13) fl_RX12_340 lm_0 rfl dX12_tryDays_14) (fe_iconst dX12_tryDays_17) dX12_tryDays_18 rfl)) (fb_not (fb_icmp_lt (fe_iloadn 3 rfl dX12_tryDays_21) (fe_getI (fe_aloadn 0 rfl dX12_tryDays_22) fl_RX12_340 lm_0 rfl dX12_tryDays_23) dX12_tryDays_26 rfl)))
set_option maxRecDepth 20000 in
theorem t_M_tryDays_3 {n : Nat} {F : FM} (hC : H_M_tryDays n F) {N B C : Nat × FT} : fw_S (s_M_tryDays n) [(0, 2), (1, 0), (2, 0), (3, 0)] 29 rvS N B C := fs_rv dX12_tryDays_29
set_option maxRecDepth 20000 in
theorem t_M_tryDays_4 {n : Nat} {F : FM} (hC : H_M_tryDays n F) {B C : Nat × FT} : fw_S (s_M_tryDays n) [(0, 2), (1, 0), (2, 0), (3, 0)] 30 (pfS 43 (cE 0) (vE 3)) (35, [(0, 2), (1, 0), (2, 0), (3, 0)]) B C := fs_put (fe_aloadn 0 rfl dX12_tryDays_30) (fe_iloadn 3 rfl dX12_tryDays_31) fp_RX12_340 lm_0 rfl dX12_tryDays_32 rfl
set_option maxRecDepth 20000 in
theorem t_M_tryDays_5 {n : Nat} {F : FM} (hC : H_M_tryDays n F) {B C : Nat × FT} : fw_S (s_M_tryDays n) [(0, 2), (1, 0), (2, 0), (3, 0)] 35 (stS 4 (cE 0)) (38, [(0, 2), (1, 0), (2, 0), (3, 0), (4, 0)]) B C := fs_ist (fe_iconst dX12_tryDays_35) dX12_tryDays_36 (by decide) rfl
set_option maxRecDepth 20000 in
theorem t_M_tryDays_6 {n : Nat} {F : FM} (hC : H_M_tryDays n F) : fw_B (s_M_tryDays n) [(0, 2), (1, 0), (2, 0), (3, 0), (4, 0)] 0 38 44 64 (nB (cB 3 (vE 4) (vE 1))) := (fb_not (fb_icmp_ge (fe_iload 4 rfl dX12_tryDays_38) (fe_iloadn 1 rfl dX12_tryDays_40) dX12_tryDays_41 rfl))
set_option maxRecDepth 20000 in
theorem t_M_tryDays_7 {n : Nat} {F : FM} (hC : H_M_tryDays n F) {B C : Nat × FT} : fw_S (s_M_tryDays n) [(0, 2), (1, 0), (2, 0), (3, 0), (4, 0)] 44 (asS 1344 4 idI (thE (cE 0) (cE 0)) (vE 4) (ldE 1280 4 (thE (cE 0) (cE 0)) (vE 4))) (58, [(0, 2), (1, 0), (2, 0), (3, 0), (4, 0)]) B C := fs_iast (fe_getR (fe_aloadn 0 rfl dX12_tryDays_44) fl_RX12_76 lm_0 rfl dX12_tryDays_45) (fe_iload 4 rfl dX12_tryDays_48) (fe_iald (fe_getR (fe_aloadn 0 rfl dX12_tryDays_50) fl_RX12_73 lm_0 rfl dX12_tryDays_51) (fe_iload 4 rfl dX12_tryDays_54) lm_20 dX12_tryDays_56) lm_21 dX12_tryDays_57 rfl
set_option maxRecDepth 20000 in
theorem t_M_tryDays_8 {n : Nat} {F : FM} (hC : H_M_tryDays n F) {B C : Nat × FT} : fw_S (s_M_tryDays n) [(0, 2), (1, 0), (2, 0), (3, 0), (4, 0)] 58 (inS 4 1) (61, [(0, 2), (1, 0), (2, 0), (3, 0), (4, 0)]) B C := fs_inc (j := 4) rfl dX12_tryDays_58 (by decide) rfl
set_option maxRecDepth 20000 in
theorem t_M_tryDays_9 {n : Nat} {F : FM} (hC : H_M_tryDays n F) {B C : Nat × FT} : fw_S (s_M_tryDays n) [(0, 2), (1, 0), (2, 0), (3, 0), (4, 0)] 38 (whS (nB (cB 3 (vE 4) (vE 1))) (asS 1344 4 idI (thE (cE 0) (cE 0)) (vE 4) (ldE 1280 4 (thE (cE 0) (cE 0)) (vE 4))) (inS 4 1) FU) (64, [(0, 2), (1, 0), (2, 0), (3, 0), (4, 0)]) B C := fs_while (t_M_tryDays_6 hC) (t_M_tryDays_7 hC) (fs_goto (t_M_tryDays_8 hC) dX12_tryDays_61 rfl)
set_option maxRecDepth 20000 in
theorem t_M_tryDays_10 {n : Nat} {F : FM} (hC : H_M_tryDays n F) {N B C : Nat × FT} : fw_S (s_M_tryDays n) [(0, 2), (1, 0), (2, 0), (3, 0)] 64 rvS N B C := fs_rv dX12_tryDays_64
set_option maxRecDepth 20000 in
theorem t_M_tryDays_11 {n : Nat} {F : FM} (hC : H_M_tryDays n F) {B C : Nat × FT} : fw_S (s_M_tryDays n) [(0, 2), (1, 0), (2, 0)] 65 (stS 3 (ldE 128 592 (thE (cE 0) (cE 0)) (o2 addI (o2 addI (cE 30) (o2 mulI (cE 6) (ldE 1216 4 (thE (cE 0) (cE 0)) (vE 1)))) (cE 1)))) (85, [(0, 2), (1, 0), (2, 0), (3, 0)]) B C := fs_istn (fe_iald (fe_getR (fe_aloadn 0 rfl dX12_tryDays_65) fl_RX12_13 lm_0 rfl dX12_tryDays_66) (fe_iadd (fe_iadd (fe_bipush dX12_tryDays_69) (fe_imul (fe_bipush dX12_tryDays_71) (fe_iald (fe_getR (fe_aloadn 0 rfl dX12_tryDays_73) fl_RX12_70 lm_0 rfl dX12_tryDays_74) (fe_iloadn 1 rfl dX12_tryDays_77) lm_19 dX12_tryDays_78) dX12_tryDays_79) dX12_tryDays_80) (fe_iconst dX12_tryDays_81) dX12_tryDays_82) lm_2 dX12_tryDays_83) dX12_tryDays_84 (by decide) rfl
set_option maxRecDepth 20000 in
theorem t_M_tryDays_12 {n : Nat} {F : FM} (hC : H_M_tryDays n F) {B C : Nat × FT} : fw_S (s_M_tryDays n) [(0, 2), (1, 0), (2, 0), (3, 0)] 85 (stS 4 (cE 0)) (88, [(0, 2), (1, 0), (2, 0), (3, 0), (4, 0)]) B C := fs_ist (fe_iconst dX12_tryDays_85) dX12_tryDays_86 (by decide) rfl
set_option maxRecDepth 20000 in
theorem t_M_tryDays_13 {n : Nat} {F : FM} (hC : H_M_tryDays n F) : fw_B (s_M_tryDays n) [(0, 2), (1, 0), (2, 0), (3, 0), (4, 0)] 0 88 110 162 (andB (nB (cB 3 (vE 4) (cE 7))) (nB (cB 4 (o2 addI (o2 addI (o2 mulI (cE 24) (vE 4)) (vE 2)) (vE 3)) (cE 168)))) := (fb_and (fb_not (fb_icmp_ge (fe_iload 4 rfl dX12_tryDays_88) (fe_bipush dX12_tryDays_90) dX12_tryDays_92 rfl)) (fb_not (fb_icmp_gt (fe_iadd (fe_iadd (fe_imul (fe_bipush dX12_tryDays_95) (fe_iload 4 rfl dX12_tryDays_97) dX12_tryDays_99) (fe_iloadn 2 rfl dX12_tryDays_100) dX12_tryDays_101) (fe_iloadn 3 rfl dX12_tryDays_102) dX12_tryDays_103) (fe_sipush dX12_tryDays_104) dX12_tryDays_107 rfl)))
set_option maxRecDepth 20000 in
theorem t_M_tryDays_14 {n : Nat} {F : FM} (hC : H_M_tryDays n F) {B C : Nat × FT} : fw_S (s_M_tryDays n) [(0, 2), (1, 0), (2, 0), (3, 0), (4, 0)] 110 (asS 1280 4 idI (thE (cE 0) (cE 0)) (vE 1) (vE 4)) (118, [(0, 2), (1, 0), (2, 0), (3, 0), (4, 0)]) B C := fs_iast (fe_getR (fe_aloadn 0 rfl dX12_tryDays_110) fl_RX12_73 lm_0 rfl dX12_tryDays_111) (fe_iloadn 1 rfl dX12_tryDays_114) (fe_iload 4 rfl dX12_tryDays_115) lm_20 dX12_tryDays_117 rfl
set_option maxRecDepth 20000 in
theorem t_M_tryDays_15 {n : Nat} {F : FM} (hC : H_M_tryDays n F) {B C : Nat × FT} : fw_S (s_M_tryDays n) [(0, 2), (1, 0), (2, 0), (3, 0), (4, 0)] 118 (exS (clE m_M_addBell [(cE 0), (o2 addI (o2 mulI (cE 24) (vE 4)) (vE 2)), (ldE 1216 4 (thE (cE 0) (cE 0)) (vE 1)), (vE 3)])) (136, [(0, 2), (1, 0), (2, 0), (3, 0), (4, 0)]) B C := fs_callV (t := 0) (fa_cons (fe_aloadn 0 rfl dX12_tryDays_118) (fa_cons (fe_iadd (fe_imul (fe_bipush dX12_tryDays_119) (fe_iload 4 rfl dX12_tryDays_121) dX12_tryDays_123) (fe_iloadn 2 rfl dX12_tryDays_124) dX12_tryDays_125) (fa_cons (fe_iald (fe_getR (fe_aloadn 0 rfl dX12_tryDays_126) fl_RX12_70 lm_0 rfl dX12_tryDays_127) (fe_iloadn 1 rfl dX12_tryDays_130) lm_19 dX12_tryDays_131) (fa_cons (fe_iloadn 3 rfl dX12_tryDays_132) fa_nil)))) C_M_addBell lv_RX12_289 lm_0 rfl rfl (by omega) (by decide) dX12_tryDays_133 rfl
set_option maxRecDepth 20000 in
theorem t_M_tryDays_16 {n : Nat} {F : FM} (hC : H_M_tryDays n F) {B C : Nat × FT} : fw_S (s_M_tryDays n) [(0, 2), (1, 0), (2, 0), (3, 0), (4, 0)] 136 (exS (clE F [(cE 0), (o2 addI (vE 1) (cE 1)), (vE 2)])) (144, [(0, 2), (1, 0), (2, 0), (3, 0), (4, 0)]) B C := fs_callV (t := 0) (fa_cons (fe_aloadn 0 rfl dX12_tryDays_136) (fa_cons (fe_iadd (fe_iloadn 1 rfl dX12_tryDays_137) (fe_iconst dX12_tryDays_138) dX12_tryDays_139) (fa_cons (fe_iloadn 2 rfl dX12_tryDays_140) fa_nil))) (hC) lv_RX12_343 lm_0 rfl rfl (Nat.le_refl _) (by decide) dX12_tryDays_141 rfl
set_option maxRecDepth 20000 in
theorem t_M_tryDays_17 {n : Nat} {F : FM} (hC : H_M_tryDays n F) {B C : Nat × FT} : fw_S (s_M_tryDays n) [(0, 2), (1, 0), (2, 0), (3, 0), (4, 0)] 144 (aoS 128 592 subI (thE (cE 0) (cE 0)) (cE 160) (cE 1)) (156, [(0, 2), (1, 0), (2, 0), (3, 0), (4, 0)]) B C := fs_ao_sub (fe_getR (fe_aloadn 0 rfl dX12_tryDays_144) fl_RX12_13 lm_0 rfl dX12_tryDays_145) (fe_sipush dX12_tryDays_148) dX12_tryDays_151 dX12_tryDays_152 (fe_iconst dX12_tryDays_153) dX12_tryDays_154 lm_2 dX12_tryDays_155 rfl
set_option maxRecDepth 20000 in
theorem t_M_tryDays_18 {n : Nat} {F : FM} (hC : H_M_tryDays n F) {B C : Nat × FT} : fw_S (s_M_tryDays n) [(0, 2), (1, 0), (2, 0), (3, 0), (4, 0)] 156 (inS 4 1) (159, [(0, 2), (1, 0), (2, 0), (3, 0), (4, 0)]) B C := fs_inc (j := 4) rfl dX12_tryDays_156 (by decide) rfl
set_option maxRecDepth 20000 in
theorem t_M_tryDays_19 {n : Nat} {F : FM} (hC : H_M_tryDays n F) {B C : Nat × FT} : fw_S (s_M_tryDays n) [(0, 2), (1, 0), (2, 0), (3, 0), (4, 0)] 88 (whS (andB (nB (cB 3 (vE 4) (cE 7))) (nB (cB 4 (o2 addI (o2 addI (o2 mulI (cE 24) (vE 4)) (vE 2)) (vE 3)) (cE 168)))) (sq (asS 1280 4 idI (thE (cE 0) (cE 0)) (vE 1) (vE 4)) (sq (exS (clE m_M_addBell [(cE 0), (o2 addI (o2 mulI (cE 24) (vE 4)) (vE 2)), (ldE 1216 4 (thE (cE 0) (cE 0)) (vE 1)), (vE 3)])) (sq (exS (clE F [(cE 0), (o2 addI (vE 1) (cE 1)), (vE 2)])) (aoS 128 592 subI (thE (cE 0) (cE 0)) (cE 160) (cE 1))))) (inS 4 1) FU) (162, [(0, 2), (1, 0), (2, 0), (3, 0), (4, 0)]) B C := fs_while (t_M_tryDays_13 hC) (fs_seq (t_M_tryDays_14 hC) (fs_seq (t_M_tryDays_15 hC) (fs_seq (t_M_tryDays_16 hC) (t_M_tryDays_17 hC)))) (fs_goto (t_M_tryDays_18 hC) dX12_tryDays_159 rfl)
set_option maxRecDepth 20000 in
theorem t_M_tryDays_20 {n : Nat} {F : FM} (hC : H_M_tryDays n F) {N B C : Nat × FT} : fw_S (s_M_tryDays n) [(0, 2), (1, 0), (2, 0), (3, 0)] 162 rvS N B C := fs_rv dX12_tryDays_162
set_option maxRecDepth 20000 in
theorem G_M_tryDays : ∀ n, H_M_tryDays n (g_M_tryDays n)
  | 0 => fun _ _ _ _ _ _ _ _ _ _ h => (by cases h)
  | n + 1 => by
    have hC := G_M_tryDays n
    exact fm_v (d := 6 + n + 1) (N := (0, [])) (B := (0, [])) (C := (0, [])) LM_ok (by decide +kernel) (show fw_S (s_M_tryDays n) _ 0 (b_M_tryDays (g_M_tryDays n)) _ _ _ from (fs_seq (fs_if (t_M_tryDays_0 hC) (fs_seq (t_M_tryDays_1 hC) (fs_seq (fs_if (t_M_tryDays_2 hC) (t_M_tryDays_3 hC) (fs_skip rfl)) (fs_seq (t_M_tryDays_4 hC) (fs_seq (fs_seq (t_M_tryDays_5 hC) (fs_weak (t_M_tryDays_9 hC) rfl)) (t_M_tryDays_10 hC))))) (fs_skip rfl)) (fs_seq (t_M_tryDays_11 hC) (fs_seq (fs_seq (t_M_tryDays_12 hC) (fs_weak (t_M_tryDays_19 hC) rfl)) (t_M_tryDays_20 hC))))) (by decide)
/-! DyerBellsModel.days (this 0 ) -/
abbrev s_M_days : SI := (LM, RX12, cX12_days, 5, 67, some 0)
set_option maxRecDepth 20000 in
theorem t_M_days_0 {B C : Nat × FT} : fw_S s_M_days [(0, 2), (1, 0)] 0 (pfS 0 (cE 0) (cE 0)) (5, [(0, 2), (1, 0)]) B C := fs_put (fe_aloadn 0 rfl dX12_days_0) (fe_iconst dX12_days_1) fp_RX12_91 lm_0 rfl dX12_days_2 rfl
set_option maxRecDepth 20000 in
theorem t_M_days_1 {B C : Nat × FT} : fw_S s_M_days [(0, 2), (1, 0)] 5 (exS (clE m_M_lay [(cE 0)])) (9, [(0, 2), (1, 0)]) B C := fs_callV (t := 0) (fa_cons (fe_aloadn 0 rfl dX12_days_5) fa_nil) C_M_lay lv_RX12_175 lm_0 rfl rfl (by decide) (by decide) dX12_days_6 rfl
set_option maxRecDepth 20000 in
theorem t_M_days_2 {B C : Nat × FT} : fw_S s_M_days [(0, 2), (1, 0)] 9 (stS 2 (clE m_M_take [(cE 0)])) (14, [(0, 2), (1, 0), (2, 0)]) B C := fs_istn (fe_callV (fa_cons (fe_aloadn 0 rfl dX12_days_9) fa_nil) C_M_take lv_RX12_178 lm_0 rfl rfl (by decide) (by decide) (by decide) dX12_days_10) dX12_days_13 (by decide) rfl
set_option maxRecDepth 20000 in
theorem t_M_days_3 : fw_B s_M_days [(0, 2), (1, 0), (2, 0)] 0 14 44 47 (orB (orB (zB 0 (clE m_M_isIn [(vE 2), (cE 1), (cE 4)])) (zB 0 (clE m_M_isIn [(vE 1), (cE 0), (cE 23)]))) (nB (cB 5 (o2 addI (clE m_M_bells [(cE 0)]) (vE 2)) (cE 40)))) := (fb_or (fb_or (fb_if_eq (fe_callS (fa_cons (fe_iloadn 2 rfl dX12_days_14) (fa_cons (fe_iconst dX12_days_15) (fa_cons (fe_iconst dX12_days_16) fa_nil))) C_M_isIn ls_RX12_162 rfl (by decide) (by decide) (by decide) dX12_days_17) dX12_days_20 rfl) (fb_if_eq (fe_callS (fa_cons (fe_iloadn 1 rfl dX12_days_23) (fa_cons (fe_iconst dX12_days_24) (fa_cons (fe_bipush dX12_days_25) fa_nil))) C_M_isIn ls_RX12_162 rfl (by decide) (by decide) (by decide) dX12_days_27) dX12_days_30 rfl)) (fb_not (fb_icmp_le (fe_iadd (fe_callV (fa_cons (fe_aloadn 0 rfl dX12_days_33) fa_nil) C_M_bells lv_RX12_286 lm_0 rfl rfl (by decide) (by decide) (by decide) dX12_days_34) (fe_iloadn 2 rfl dX12_days_37) dX12_days_38) (fe_bipush dX12_days_39) dX12_days_41 rfl)))
set_option maxRecDepth 20000 in
theorem t_M_days_4 {N B C : Nat × FT} : fw_S s_M_days [(0, 2), (1, 0), (2, 0)] 44 (rtS (cE (-2))) N B C := fs_ret (fe_bipush dX12_days_44) dX12_days_46
set_option maxRecDepth 20000 in
theorem t_M_days_5 {B C : Nat × FT} : fw_S s_M_days [(0, 2), (1, 0), (2, 0)] 47 (stS 3 (cE 0)) (49, [(0, 2), (1, 0), (2, 0), (3, 0)]) B C := fs_istn (fe_iconst dX12_days_47) dX12_days_48 (by decide) rfl
set_option maxRecDepth 20000 in
theorem t_M_days_6 {B C : Nat × FT} : fw_S s_M_days [(0, 2), (1, 0), (2, 0), (3, 0)] 49 (stS 4 (cE 0)) (52, [(0, 2), (1, 0), (2, 0), (3, 0), (4, 0)]) B C := fs_ist (fe_iconst dX12_days_49) dX12_days_50 (by decide) rfl
set_option maxRecDepth 20000 in
theorem t_M_days_7 : fw_B s_M_days [(0, 2), (1, 0), (2, 0), (3, 0), (4, 0)] 0 52 58 121 (nB (cB 3 (vE 4) (vE 2))) := (fb_not (fb_icmp_ge (fe_iload 4 rfl dX12_days_52) (fe_iloadn 2 rfl dX12_days_54) dX12_days_55 rfl))
set_option maxRecDepth 20000 in
theorem t_M_days_8 : fw_B s_M_days [(0, 2), (1, 0), (2, 0), (3, 0), (4, 0)] 0 58 86 89 (orB (cB 3 (ldE 64 940 (thE (cE 0) (cE 0)) (vE 4)) (clE m_M_guilds [(cE 0)])) (nB (zB 0 (clE m_M_has [(vE 3), (ldE 64 940 (thE (cE 0) (cE 0)) (vE 4))])))) := (fb_or (fb_icmp_ge (fe_iald (fe_getR (fe_aloadn 0 rfl dX12_days_58) fl_RX12_7 lm_0 rfl dX12_days_59) (fe_iload 4 rfl dX12_days_62) lm_1 dX12_days_64) (fe_callV (fa_cons (fe_aloadn 0 rfl dX12_days_65) fa_nil) C_M_guilds lv_RX12_196 lm_0 rfl rfl (by decide) (by decide) (by decide) dX12_days_66) dX12_days_69 rfl) (fb_not (fb_if_eq (fe_callS (fa_cons (fe_iloadn 3 rfl dX12_days_72) (fa_cons (fe_iald (fe_getR (fe_aloadn 0 rfl dX12_days_73) fl_RX12_7 lm_0 rfl dX12_days_74) (fe_iload 4 rfl dX12_days_77) lm_1 dX12_days_79) fa_nil)) C_M_has ls_RX12_220 rfl (by decide) (by decide) (by decide) dX12_days_80) dX12_days_83 rfl)))
set_option maxRecDepth 20000 in
theorem t_M_days_9 {N B C : Nat × FT} : fw_S s_M_days [(0, 2), (1, 0), (2, 0), (3, 0), (4, 0)] 86 (rtS (cE (-2))) N B C := fs_ret (fe_bipush dX12_days_86) dX12_days_88
set_option maxRecDepth 20000 in
theorem t_M_days_10 {B C : Nat × FT} : fw_S s_M_days [(0, 2), (1, 0), (2, 0), (3, 0), (4, 0)] 89 (stS 3 (o2 iorI (vE 3) (o2 shlI (cE 1) (ldE 64 940 (thE (cE 0) (cE 0)) (vE 4))))) (101, [(0, 2), (1, 0), (2, 0), (3, 0), (4, 0)]) B C := fs_istn (fe_ior (fe_iloadn 3 rfl dX12_days_89) (fe_ishl (fe_iconst dX12_days_90) (fe_iald (fe_getR (fe_aloadn 0 rfl dX12_days_91) fl_RX12_7 lm_0 rfl dX12_days_92) (fe_iload 4 rfl dX12_days_95) lm_1 dX12_days_97) dX12_days_98) dX12_days_99) dX12_days_100 (by decide) rfl
set_option maxRecDepth 20000 in
theorem t_M_days_11 {B C : Nat × FT} : fw_S s_M_days [(0, 2), (1, 0), (2, 0), (3, 0), (4, 0)] 101 (asS 1216 4 idI (thE (cE 0) (cE 0)) (vE 4) (ldE 64 940 (thE (cE 0) (cE 0)) (vE 4))) (115, [(0, 2), (1, 0), (2, 0), (3, 0), (4, 0)]) B C := fs_iast (fe_getR (fe_aloadn 0 rfl dX12_days_101) fl_RX12_70 lm_0 rfl dX12_days_102) (fe_iload 4 rfl dX12_days_105) (fe_iald (fe_getR (fe_aloadn 0 rfl dX12_days_107) fl_RX12_7 lm_0 rfl dX12_days_108) (fe_iload 4 rfl dX12_days_111) lm_1 dX12_days_113) lm_19 dX12_days_114 rfl
set_option maxRecDepth 20000 in
theorem t_M_days_12 {B C : Nat × FT} : fw_S s_M_days [(0, 2), (1, 0), (2, 0), (3, 0), (4, 0)] 115 (inS 4 1) (118, [(0, 2), (1, 0), (2, 0), (3, 0), (4, 0)]) B C := fs_inc (j := 4) rfl dX12_days_115 (by decide) rfl
set_option maxRecDepth 20000 in
theorem t_M_days_13 {B C : Nat × FT} : fw_S s_M_days [(0, 2), (1, 0), (2, 0), (3, 0), (4, 0)] 52 (whS (nB (cB 3 (vE 4) (vE 2))) (sq (ifS (orB (cB 3 (ldE 64 940 (thE (cE 0) (cE 0)) (vE 4)) (clE m_M_guilds [(cE 0)])) (nB (zB 0 (clE m_M_has [(vE 3), (ldE 64 940 (thE (cE 0) (cE 0)) (vE 4))])))) (rtS (cE (-2))) skS) (sq (stS 3 (o2 iorI (vE 3) (o2 shlI (cE 1) (ldE 64 940 (thE (cE 0) (cE 0)) (vE 4))))) (asS 1216 4 idI (thE (cE 0) (cE 0)) (vE 4) (ldE 64 940 (thE (cE 0) (cE 0)) (vE 4))))) (inS 4 1) FU) (121, [(0, 2), (1, 0), (2, 0), (3, 0), (4, 0)]) B C := fs_while t_M_days_7 (fs_seq (fs_if t_M_days_8 t_M_days_9 (fs_skip rfl)) (fs_seq t_M_days_10 t_M_days_11)) (fs_goto t_M_days_12 dX12_days_118 rfl)
set_option maxRecDepth 20000 in
theorem t_M_days_14 {B C : Nat × FT} : fw_S s_M_days [(0, 2), (1, 0), (2, 0), (3, 0)] 121 (pfS 42 (cE 0) (vE 2)) (126, [(0, 2), (1, 0), (2, 0), (3, 0)]) B C := fs_put (fe_aloadn 0 rfl dX12_days_121) (fe_iloadn 2 rfl dX12_days_122) fp_RX12_337 lm_0 rfl dX12_days_123 rfl
set_option maxRecDepth 20000 in
theorem t_M_days_15 {B C : Nat × FT} : fw_S s_M_days [(0, 2), (1, 0), (2, 0), (3, 0)] 126 (pfS 43 (cE 0) (cE (-1))) (131, [(0, 2), (1, 0), (2, 0), (3, 0)]) B C := fs_put (fe_aloadn 0 rfl dX12_days_126) (fe_iconst dX12_days_127) fp_RX12_340 lm_0 rfl dX12_days_128 rfl
set_option maxRecDepth 20000 in
theorem t_M_days_16 {B C : Nat × FT} : fw_S s_M_days [(0, 2), (1, 0), (2, 0), (3, 0)] 131 (exS (clE (g_M_tryDays 60) [(cE 0), (cE 0), (vE 1)])) (137, [(0, 2), (1, 0), (2, 0), (3, 0)]) B C := fs_callV (t := 0) (fa_cons (fe_aloadn 0 rfl dX12_days_131) (fa_cons (fe_iconst dX12_days_132) (fa_cons (fe_iloadn 1 rfl dX12_days_133) fa_nil))) (G_M_tryDays 60) lv_RX12_343 lm_0 rfl rfl (by decide) (by decide) dX12_days_134 rfl
set_option maxRecDepth 20000 in
theorem t_M_days_17 : fw_B s_M_days [(0, 2), (1, 0), (2, 0), (3, 0)] 0 137 145 147 (nB (cB 1 (thE (cE 0) (gE 43)) (cE (-1)))) := (fb_not (fb_icmp_ne (fe_getI (fe_aloadn 0 rfl dX12_days_137) fl_RX12_340 lm_0 rfl dX12_days_138) (fe_iconst dX12_days_141) dX12_days_142 rfl))
set_option maxRecDepth 20000 in
theorem t_M_days_18 {N B C : Nat × FT} : fw_S s_M_days [(0, 2), (1, 0), (2, 0), (3, 0)] 145 (rtS (cE (-1))) N B C := fs_ret (fe_iconst dX12_days_145) dX12_days_146
set_option maxRecDepth 20000 in
theorem t_M_days_19 {B C : Nat × FT} : fw_S s_M_days [(0, 2), (1, 0), (2, 0), (3, 0)] 147 (pfS 44 (cE 0) (vE 2)) (152, [(0, 2), (1, 0), (2, 0), (3, 0)]) B C := fs_put (fe_aloadn 0 rfl dX12_days_147) (fe_iloadn 2 rfl dX12_days_148) fp_RX12_347 lm_0 rfl dX12_days_149 rfl
set_option maxRecDepth 20000 in
theorem t_M_days_20 {B C : Nat × FT} : fw_S s_M_days [(0, 2), (1, 0), (2, 0), (3, 0)] 152 (stS 4 (cE 0)) (155, [(0, 2), (1, 0), (2, 0), (3, 0), (4, 0)]) B C := fs_ist (fe_iconst dX12_days_152) dX12_days_153 (by decide) rfl
set_option maxRecDepth 20000 in
theorem t_M_days_21 : fw_B s_M_days [(0, 2), (1, 0), (2, 0), (3, 0), (4, 0)] 0 155 161 181 (nB (cB 3 (vE 4) (vE 2))) := (fb_not (fb_icmp_ge (fe_iload 4 rfl dX12_days_155) (fe_iloadn 2 rfl dX12_days_157) dX12_days_158 rfl))
set_option maxRecDepth 20000 in
theorem t_M_days_22 {B C : Nat × FT} : fw_S s_M_days [(0, 2), (1, 0), (2, 0), (3, 0), (4, 0)] 161 (asS 1408 4 idI (thE (cE 0) (cE 0)) (vE 4) (ldE 1344 4 (thE (cE 0) (cE 0)) (vE 4))) (175, [(0, 2), (1, 0), (2, 0), (3, 0), (4, 0)]) B C := fs_iast (fe_getR (fe_aloadn 0 rfl dX12_days_161) fl_RX12_79 lm_0 rfl dX12_days_162) (fe_iload 4 rfl dX12_days_165) (fe_iald (fe_getR (fe_aloadn 0 rfl dX12_days_167) fl_RX12_76 lm_0 rfl dX12_days_168) (fe_iload 4 rfl dX12_days_171) lm_21 dX12_days_173) lm_22 dX12_days_174 rfl
set_option maxRecDepth 20000 in
theorem t_M_days_23 {B C : Nat × FT} : fw_S s_M_days [(0, 2), (1, 0), (2, 0), (3, 0), (4, 0)] 175 (inS 4 1) (178, [(0, 2), (1, 0), (2, 0), (3, 0), (4, 0)]) B C := fs_inc (j := 4) rfl dX12_days_175 (by decide) rfl
set_option maxRecDepth 20000 in
theorem t_M_days_24 {B C : Nat × FT} : fw_S s_M_days [(0, 2), (1, 0), (2, 0), (3, 0), (4, 0)] 155 (whS (nB (cB 3 (vE 4) (vE 2))) (asS 1408 4 idI (thE (cE 0) (cE 0)) (vE 4) (ldE 1344 4 (thE (cE 0) (cE 0)) (vE 4))) (inS 4 1) FU) (181, [(0, 2), (1, 0), (2, 0), (3, 0), (4, 0)]) B C := fs_while t_M_days_21 t_M_days_22 (fs_goto t_M_days_23 dX12_days_178 rfl)
set_option maxRecDepth 20000 in
theorem t_M_days_25 {N B C : Nat × FT} : fw_S s_M_days [(0, 2), (1, 0), (2, 0), (3, 0)] 181 (rtS (thE (cE 0) (gE 43))) N B C := fs_ret (fe_getI (fe_aloadn 0 rfl dX12_days_181) fl_RX12_340 lm_0 rfl dX12_days_182) dX12_days_185
set_option maxRecDepth 20000 in
theorem C_M_days : fw_C LM yX12_days cX12_days 5 (some .int) 67 [2, 0] (some 0) m_M_days := fm_i (d := 67) (N := (0, [])) (B := (0, [])) (C := (0, [])) LM_ok (by decide +kernel) (show fw_S s_M_days _ 0 b_M_days _ _ _ from (fs_seq t_M_days_0 (fs_seq t_M_days_1 (fs_seq t_M_days_2 (fs_seq (fs_if t_M_days_3 t_M_days_4 (fs_skip rfl)) (fs_seq t_M_days_5 (fs_seq (fs_seq t_M_days_6 (fs_weak t_M_days_13 rfl)) (fs_seq t_M_days_14 (fs_seq t_M_days_15 (fs_seq t_M_days_16 (fs_seq (fs_if t_M_days_17 t_M_days_18 (fs_skip rfl)) (fs_seq t_M_days_19 (fs_seq (fs_seq t_M_days_20 (fs_weak t_M_days_24 rfl)) t_M_days_25))))))))))))) (by decide)
/-! DyerBellsModel.dayOf (this 0 ) -/
abbrev s_M_dayOf : SI := (LM, RX12, cX12_dayOf, 2, 1, some 0)
set_option maxRecDepth 20000 in
theorem t_M_dayOf_0 {B C : Nat × FT} : fw_S s_M_dayOf [(0, 2), (1, 0)] 0 (pfS 0 (cE 0) (cE 0)) (5, [(0, 2), (1, 0)]) B C := fs_put (fe_aloadn 0 rfl dX12_dayOf_0) (fe_iconst dX12_dayOf_1) fp_RX12_91 lm_0 rfl dX12_dayOf_2 rfl
set_option maxRecDepth 20000 in
theorem t_M_dayOf_1 {N B C : Nat × FT} : fw_S s_M_dayOf [(0, 2), (1, 0)] 5 (rtS (kE (andB (nB (zB 2 (vE 1))) (nB (cB 3 (vE 1) (thE (cE 0) (gE 44))))) (ldE 1408 4 (thE (cE 0) (cE 0)) (vE 1)) (cE (-1)))) N B C := fs_ret (fe_ternG (fb_and (fb_not (fb_if_lt (fe_iloadn 1 rfl dX12_dayOf_5) dX12_dayOf_6 rfl)) (fb_not (fb_icmp_ge (fe_iloadn 1 rfl dX12_dayOf_9) (fe_getI (fe_aloadn 0 rfl dX12_dayOf_10) fl_RX12_347 lm_0 rfl dX12_dayOf_11) dX12_dayOf_14 rfl))) (fe_gt (fe_iald (fe_getR (fe_aloadn 0 rfl dX12_dayOf_17) fl_RX12_79 lm_0 rfl dX12_dayOf_18) (fe_iloadn 1 rfl dX12_dayOf_21) lm_22 dX12_dayOf_22) dX12_dayOf_23 rfl) (fe_iconst dX12_dayOf_26)) dX12_dayOf_27
set_option maxRecDepth 20000 in
theorem C_M_dayOf : fw_C LM yX12_dayOf cX12_dayOf 2 (some .int) 1 [2, 0] (some 0) m_M_dayOf := fm_i (d := 1) (N := (0, [])) (B := (0, [])) (C := (0, [])) LM_ok (by decide +kernel) (show fw_S s_M_dayOf _ 0 b_M_dayOf _ _ _ from (fs_seq t_M_dayOf_0 t_M_dayOf_1)) (by decide)
/-! DyerBellsModel.swap (this 0 ) -/
abbrev s_M_swap : SI := (LM, RX12, cX12_swap, 4, 1, none)
set_option maxRecDepth 20000 in
theorem t_M_swap_0 {B C : Nat × FT} : fw_S s_M_swap [(0, 2), (1, 0), (2, 0)] 0 (stS 3 (ldE 128 592 (thE (cE 0) (cE 0)) (o2 addI (o2 addI (cE 161) (o2 mulI (cE 3) (vE 1))) (cE 1)))) (15, [(0, 2), (1, 0), (2, 0), (3, 0)]) B C := fs_istn (fe_iald (fe_getR (fe_aloadn 0 rfl dX12_swap_0) fl_RX12_13 lm_0 rfl dX12_swap_1) (fe_iadd (fe_iadd (fe_sipush dX12_swap_4) (fe_imul (fe_iconst dX12_swap_7) (fe_iloadn 1 rfl dX12_swap_8) dX12_swap_9) dX12_swap_10) (fe_iconst dX12_swap_11) dX12_swap_12) lm_2 dX12_swap_13) dX12_swap_14 (by decide) rfl
set_option maxRecDepth 20000 in
theorem t_M_swap_1 {B C : Nat × FT} : fw_S s_M_swap [(0, 2), (1, 0), (2, 0), (3, 0)] 15 (asS 128 592 idI (thE (cE 0) (cE 0)) (o2 addI (o2 addI (cE 161) (o2 mulI (cE 3) (vE 1))) (cE 1)) (ldE 128 592 (thE (cE 0) (cE 0)) (o2 addI (o2 addI (cE 161) (o2 mulI (cE 3) (vE 2))) (cE 1)))) (43, [(0, 2), (1, 0), (2, 0), (3, 0)]) B C := fs_iast (fe_getR (fe_aloadn 0 rfl dX12_swap_15) fl_RX12_13 lm_0 rfl dX12_swap_16) (fe_iadd (fe_iadd (fe_sipush dX12_swap_19) (fe_imul (fe_iconst dX12_swap_22) (fe_iloadn 1 rfl dX12_swap_23) dX12_swap_24) dX12_swap_25) (fe_iconst dX12_swap_26) dX12_swap_27) (fe_iald (fe_getR (fe_aloadn 0 rfl dX12_swap_28) fl_RX12_13 lm_0 rfl dX12_swap_29) (fe_iadd (fe_iadd (fe_sipush dX12_swap_32) (fe_imul (fe_iconst dX12_swap_35) (fe_iloadn 2 rfl dX12_swap_36) dX12_swap_37) dX12_swap_38) (fe_iconst dX12_swap_39) dX12_swap_40) lm_2 dX12_swap_41) lm_2 dX12_swap_42 rfl
set_option maxRecDepth 20000 in
theorem t_M_swap_2 {B C : Nat × FT} : fw_S s_M_swap [(0, 2), (1, 0), (2, 0), (3, 0)] 43 (asS 128 592 idI (thE (cE 0) (cE 0)) (o2 addI (o2 addI (cE 161) (o2 mulI (cE 3) (vE 2))) (cE 1)) (vE 3)) (58, [(0, 2), (1, 0), (2, 0), (3, 0)]) B C := fs_iast (fe_getR (fe_aloadn 0 rfl dX12_swap_43) fl_RX12_13 lm_0 rfl dX12_swap_44) (fe_iadd (fe_iadd (fe_sipush dX12_swap_47) (fe_imul (fe_iconst dX12_swap_50) (fe_iloadn 2 rfl dX12_swap_51) dX12_swap_52) dX12_swap_53) (fe_iconst dX12_swap_54) dX12_swap_55) (fe_iloadn 3 rfl dX12_swap_56) lm_2 dX12_swap_57 rfl
set_option maxRecDepth 20000 in
theorem t_M_swap_3 {N B C : Nat × FT} : fw_S s_M_swap [(0, 2), (1, 0), (2, 0), (3, 0)] 58 rvS N B C := fs_rv dX12_swap_58
set_option maxRecDepth 20000 in
theorem C_M_swap : fw_C LM yX12_swap cX12_swap 4 none 1 [2, 0, 0] (none) m_M_swap := fm_v (d := 1) (N := (0, [])) (B := (0, [])) (C := (0, [])) LM_ok (by decide +kernel) (show fw_S s_M_swap _ 0 b_M_swap _ _ _ from (fs_seq t_M_swap_0 (fs_seq t_M_swap_1 (fs_seq t_M_swap_2 t_M_swap_3)))) (by decide)
/-! DyerBellsModel.exchangeOnce (this 0 ) -/
abbrev s_M_exchangeOnce : SI := (LM, RX12, cX12_exchangeOnce, 5, 6, some 0)
set_option maxRecDepth 20000 in
theorem t_M_exchangeOnce_0 {B C : Nat × FT} : fw_S s_M_exchangeOnce [(0, 2), (1, 0)] 0 (stS 2 (cE 0)) (2, [(0, 2), (1, 0), (2, 0)]) B C := fs_istn (fe_iconst dX12_exchangeOnce_0) dX12_exchangeOnce_1 (by decide) rfl
set_option maxRecDepth 20000 in
theorem t_M_exchangeOnce_1 : fw_B s_M_exchangeOnce [(0, 2), (1, 0), (2, 0)] 0 2 10 95 (nB (cB 3 (vE 2) (clE m_M_bells [(cE 0)]))) := (fb_not (fb_icmp_ge (fe_iloadn 2 rfl dX12_exchangeOnce_2) (fe_callV (fa_cons (fe_aloadn 0 rfl dX12_exchangeOnce_3) fa_nil) C_M_bells lv_RX12_286 lm_0 rfl rfl (by decide) (by decide) (by decide) dX12_exchangeOnce_4) dX12_exchangeOnce_7 rfl))
set_option maxRecDepth 20000 in
theorem t_M_exchangeOnce_2 {B C : Nat × FT} : fw_S s_M_exchangeOnce [(0, 2), (1, 0), (2, 0)] 10 (stS 3 (o2 addI (vE 2) (cE 1))) (14, [(0, 2), (1, 0), (2, 0), (3, 0)]) B C := fs_istn (fe_iadd (fe_iloadn 2 rfl dX12_exchangeOnce_10) (fe_iconst dX12_exchangeOnce_11) dX12_exchangeOnce_12) dX12_exchangeOnce_13 (by decide) rfl
set_option maxRecDepth 20000 in
theorem t_M_exchangeOnce_3 : fw_B s_M_exchangeOnce [(0, 2), (1, 0), (2, 0), (3, 0)] 0 14 22 89 (nB (cB 3 (vE 3) (clE m_M_bells [(cE 0)]))) := (fb_not (fb_icmp_ge (fe_iloadn 3 rfl dX12_exchangeOnce_14) (fe_callV (fa_cons (fe_aloadn 0 rfl dX12_exchangeOnce_15) fa_nil) C_M_bells lv_RX12_286 lm_0 rfl rfl (by decide) (by decide) (by decide) dX12_exchangeOnce_16) dX12_exchangeOnce_19 rfl))
set_option maxRecDepth 20000 in
theorem t_M_exchangeOnce_4 : fw_B s_M_exchangeOnce [(0, 2), (1, 0), (2, 0), (3, 0)] 0 22 53 56 (nB (cB 1 (ldE 128 592 (thE (cE 0) (cE 0)) (o2 addI (o2 addI (cE 161) (o2 mulI (cE 3) (vE 2))) (cE 1))) (ldE 128 592 (thE (cE 0) (cE 0)) (o2 addI (o2 addI (cE 161) (o2 mulI (cE 3) (vE 3))) (cE 1))))) := (fb_not (fb_icmp_ne (fe_iald (fe_getR (fe_aloadn 0 rfl dX12_exchangeOnce_22) fl_RX12_13 lm_0 rfl dX12_exchangeOnce_23) (fe_iadd (fe_iadd (fe_sipush dX12_exchangeOnce_26) (fe_imul (fe_iconst dX12_exchangeOnce_29) (fe_iloadn 2 rfl dX12_exchangeOnce_30) dX12_exchangeOnce_31) dX12_exchangeOnce_32) (fe_iconst dX12_exchangeOnce_33) dX12_exchangeOnce_34) lm_2 dX12_exchangeOnce_35) (fe_iald (fe_getR (fe_aloadn 0 rfl dX12_exchangeOnce_36) fl_RX12_13 lm_0 rfl dX12_exchangeOnce_37) (fe_iadd (fe_iadd (fe_sipush dX12_exchangeOnce_40) (fe_imul (fe_iconst dX12_exchangeOnce_43) (fe_iloadn 3 rfl dX12_exchangeOnce_44) dX12_exchangeOnce_45) dX12_exchangeOnce_46) (fe_iconst dX12_exchangeOnce_47) dX12_exchangeOnce_48) lm_2 dX12_exchangeOnce_49) dX12_exchangeOnce_50 rfl))
set_option maxRecDepth 20000 in
theorem t_M_exchangeOnce_5 {B C : Nat × FT} : fw_S s_M_exchangeOnce [(0, 2), (1, 0), (2, 0), (3, 0)] 56 (exS (clE m_M_swap [(cE 0), (vE 2), (vE 3)])) (62, [(0, 2), (1, 0), (2, 0), (3, 0)]) B C := fs_callV (t := 0) (fa_cons (fe_aloadn 0 rfl dX12_exchangeOnce_56) (fa_cons (fe_iloadn 2 rfl dX12_exchangeOnce_57) (fa_cons (fe_iloadn 3 rfl dX12_exchangeOnce_58) fa_nil))) C_M_swap lv_RX12_350 lm_0 rfl rfl (by decide) (by decide) dX12_exchangeOnce_59 rfl
set_option maxRecDepth 20000 in
theorem t_M_exchangeOnce_6 {B C : Nat × FT} : fw_S s_M_exchangeOnce [(0, 2), (1, 0), (2, 0), (3, 0)] 62 (stS 4 (clE m_M_harmNow [(cE 0)])) (68, [(0, 2), (1, 0), (2, 0), (3, 0), (4, 0)]) B C := fs_ist (fe_callV (fa_cons (fe_aloadn 0 rfl dX12_exchangeOnce_62) fa_nil) C_M_harmNow lv_RX12_334 lm_0 rfl rfl (by decide) (by decide) (by decide) dX12_exchangeOnce_63) dX12_exchangeOnce_66 (by decide) rfl
set_option maxRecDepth 20000 in
theorem t_M_exchangeOnce_7 : fw_B s_M_exchangeOnce [(0, 2), (1, 0), (2, 0), (3, 0), (4, 0)] 0 68 74 77 (nB (cB 3 (vE 4) (vE 1))) := (fb_not (fb_icmp_ge (fe_iload 4 rfl dX12_exchangeOnce_68) (fe_iloadn 1 rfl dX12_exchangeOnce_70) dX12_exchangeOnce_71 rfl))
set_option maxRecDepth 20000 in
theorem t_M_exchangeOnce_8 {N B C : Nat × FT} : fw_S s_M_exchangeOnce [(0, 2), (1, 0), (2, 0), (3, 0), (4, 0)] 74 (rtS (vE 4)) N B C := fs_ret (fe_iload 4 rfl dX12_exchangeOnce_74) dX12_exchangeOnce_76
set_option maxRecDepth 20000 in
theorem t_M_exchangeOnce_9 {B C : Nat × FT} : fw_S s_M_exchangeOnce [(0, 2), (1, 0), (2, 0), (3, 0), (4, 0)] 77 (exS (clE m_M_swap [(cE 0), (vE 2), (vE 3)])) (83, [(0, 2), (1, 0), (2, 0), (3, 0)]) B C := fs_callV (t := 0) (fa_cons (fe_aloadn 0 rfl dX12_exchangeOnce_77) (fa_cons (fe_iloadn 2 rfl dX12_exchangeOnce_78) (fa_cons (fe_iloadn 3 rfl dX12_exchangeOnce_79) fa_nil))) C_M_swap lv_RX12_350 lm_0 rfl rfl (by decide) (by decide) dX12_exchangeOnce_80 rfl
set_option maxRecDepth 20000 in
theorem t_M_exchangeOnce_10 {B C : Nat × FT} : fw_S s_M_exchangeOnce [(0, 2), (1, 0), (2, 0), (3, 0)] 83 (inS 3 1) (86, [(0, 2), (1, 0), (2, 0), (3, 0)]) B C := fs_inc (j := 3) rfl dX12_exchangeOnce_83 (by decide) rfl
set_option maxRecDepth 20000 in
theorem t_M_exchangeOnce_11 {B C : Nat × FT} : fw_S s_M_exchangeOnce [(0, 2), (1, 0), (2, 0), (3, 0)] 14 (whS (nB (cB 3 (vE 3) (clE m_M_bells [(cE 0)]))) (sq (ifS (nB (cB 1 (ldE 128 592 (thE (cE 0) (cE 0)) (o2 addI (o2 addI (cE 161) (o2 mulI (cE 3) (vE 2))) (cE 1))) (ldE 128 592 (thE (cE 0) (cE 0)) (o2 addI (o2 addI (cE 161) (o2 mulI (cE 3) (vE 3))) (cE 1))))) ctS skS) (sq (exS (clE m_M_swap [(cE 0), (vE 2), (vE 3)])) (sq (stS 4 (clE m_M_harmNow [(cE 0)])) (sq (ifS (nB (cB 3 (vE 4) (vE 1))) (rtS (vE 4)) skS) (exS (clE m_M_swap [(cE 0), (vE 2), (vE 3)])))))) (inS 3 1) FU) (89, [(0, 2), (1, 0), (2, 0), (3, 0)]) B C := fs_while t_M_exchangeOnce_3 (fs_seq (fs_if t_M_exchangeOnce_4 (fs_cnt dX12_exchangeOnce_53 rfl rfl) (fs_skip rfl)) (fs_seq t_M_exchangeOnce_5 (fs_seq t_M_exchangeOnce_6 (fs_seq (fs_if t_M_exchangeOnce_7 t_M_exchangeOnce_8 (fs_skip rfl)) t_M_exchangeOnce_9)))) (fs_goto t_M_exchangeOnce_10 dX12_exchangeOnce_86 rfl)
set_option maxRecDepth 20000 in
theorem t_M_exchangeOnce_12 {B C : Nat × FT} : fw_S s_M_exchangeOnce [(0, 2), (1, 0), (2, 0)] 89 (inS 2 1) (92, [(0, 2), (1, 0), (2, 0)]) B C := fs_inc (j := 2) rfl dX12_exchangeOnce_89 (by decide) rfl
set_option maxRecDepth 20000 in
theorem t_M_exchangeOnce_13 {B C : Nat × FT} : fw_S s_M_exchangeOnce [(0, 2), (1, 0), (2, 0)] 2 (whS (nB (cB 3 (vE 2) (clE m_M_bells [(cE 0)]))) (sq (stS 3 (o2 addI (vE 2) (cE 1))) (whS (nB (cB 3 (vE 3) (clE m_M_bells [(cE 0)]))) (sq (ifS (nB (cB 1 (ldE 128 592 (thE (cE 0) (cE 0)) (o2 addI (o2 addI (cE 161) (o2 mulI (cE 3) (vE 2))) (cE 1))) (ldE 128 592 (thE (cE 0) (cE 0)) (o2 addI (o2 addI (cE 161) (o2 mulI (cE 3) (vE 3))) (cE 1))))) ctS skS) (sq (exS (clE m_M_swap [(cE 0), (vE 2), (vE 3)])) (sq (stS 4 (clE m_M_harmNow [(cE 0)])) (sq (ifS (nB (cB 3 (vE 4) (vE 1))) (rtS (vE 4)) skS) (exS (clE m_M_swap [(cE 0), (vE 2), (vE 3)])))))) (inS 3 1) FU)) (inS 2 1) FU) (95, [(0, 2), (1, 0), (2, 0)]) B C := fs_while t_M_exchangeOnce_1 (fs_seq t_M_exchangeOnce_2 (fs_weak t_M_exchangeOnce_11 rfl)) (fs_goto t_M_exchangeOnce_12 dX12_exchangeOnce_92 rfl)
set_option maxRecDepth 20000 in
theorem t_M_exchangeOnce_14 {N B C : Nat × FT} : fw_S s_M_exchangeOnce [(0, 2), (1, 0)] 95 (rtS (vE 1)) N B C := fs_ret (fe_iloadn 1 rfl dX12_exchangeOnce_95) dX12_exchangeOnce_96
set_option maxRecDepth 20000 in
theorem C_M_exchangeOnce : fw_C LM yX12_exchangeOnce cX12_exchangeOnce 5 (some .int) 6 [2, 0] (some 0) m_M_exchangeOnce := fm_i (d := 6) (N := (0, [])) (B := (0, [])) (C := (0, [])) LM_ok (by decide +kernel) (show fw_S s_M_exchangeOnce _ 0 b_M_exchangeOnce _ _ _ from (fs_seq (fs_seq t_M_exchangeOnce_0 (fs_weak t_M_exchangeOnce_13 rfl)) t_M_exchangeOnce_14)) (by decide)
/-! DyerBellsModel.exchange (this 0 ) -/
abbrev s_M_exchange : SI := (LM, RX12, cX12_exchange, 4, 7, some 0)
set_option maxRecDepth 20000 in
theorem t_M_exchange_0 {B C : Nat × FT} : fw_S s_M_exchange [(0, 2)] 0 (pfS 0 (cE 0) (cE 0)) (5, [(0, 2)]) B C := fs_put (fe_aloadn 0 rfl dX12_exchange_0) (fe_iconst dX12_exchange_1) fp_RX12_91 lm_0 rfl dX12_exchange_2 rfl
set_option maxRecDepth 20000 in
theorem t_M_exchange_1 {B C : Nat × FT} : fw_S s_M_exchange [(0, 2)] 5 (stS 1 (clE m_M_harmNow [(cE 0)])) (10, [(0, 2), (1, 0)]) B C := fs_istn (fe_callV (fa_cons (fe_aloadn 0 rfl dX12_exchange_5) fa_nil) C_M_harmNow lv_RX12_334 lm_0 rfl rfl (by decide) (by decide) (by decide) dX12_exchange_6) dX12_exchange_9 (by decide) rfl
set_option maxRecDepth 20000 in
theorem t_M_exchange_2 {B C : Nat × FT} : fw_S s_M_exchange [(0, 2), (1, 0)] 10 (pfS 45 (cE 0) (cE 0)) (15, [(0, 2), (1, 0)]) B C := fs_put (fe_aloadn 0 rfl dX12_exchange_10) (fe_iconst dX12_exchange_11) fp_RX12_353 lm_0 rfl dX12_exchange_12 rfl
set_option maxRecDepth 20000 in
theorem t_M_exchange_3 {B C : Nat × FT} : fw_S s_M_exchange [(0, 2), (1, 0)] 15 (stS 2 (cE 0)) (17, [(0, 2), (1, 0), (2, 0)]) B C := fs_istn (fe_iconst dX12_exchange_15) dX12_exchange_16 (by decide) rfl
set_option maxRecDepth 20000 in
theorem t_M_exchange_4 : fw_B s_M_exchange [(0, 2), (1, 0), (2, 0)] 0 17 23 54 (nB (cB 3 (vE 2) (cE 50))) := (fb_not (fb_icmp_ge (fe_iloadn 2 rfl dX12_exchange_17) (fe_bipush dX12_exchange_18) dX12_exchange_20 rfl))
set_option maxRecDepth 20000 in
theorem t_M_exchange_5 {B C : Nat × FT} : fw_S s_M_exchange [(0, 2), (1, 0), (2, 0)] 23 (stS 3 (clE m_M_exchangeOnce [(cE 0), (vE 1)])) (29, [(0, 2), (1, 0), (2, 0), (3, 0)]) B C := fs_istn (fe_callV (fa_cons (fe_aloadn 0 rfl dX12_exchange_23) (fa_cons (fe_iloadn 1 rfl dX12_exchange_24) fa_nil)) C_M_exchangeOnce lv_RX12_356 lm_0 rfl rfl (by decide) (by decide) (by decide) dX12_exchange_25) dX12_exchange_28 (by decide) rfl
set_option maxRecDepth 20000 in
theorem t_M_exchange_6 : fw_B s_M_exchange [(0, 2), (1, 0), (2, 0), (3, 0)] 0 29 34 36 (nB (cB 1 (vE 3) (vE 1))) := (fb_not (fb_icmp_ne (fe_iloadn 3 rfl dX12_exchange_29) (fe_iloadn 1 rfl dX12_exchange_30) dX12_exchange_31 rfl))
set_option maxRecDepth 20000 in
theorem t_M_exchange_7 {N B C : Nat × FT} : fw_S s_M_exchange [(0, 2), (1, 0), (2, 0), (3, 0)] 34 (rtS (vE 1)) N B C := fs_ret (fe_iloadn 1 rfl dX12_exchange_34) dX12_exchange_35
set_option maxRecDepth 20000 in
theorem t_M_exchange_8 {B C : Nat × FT} : fw_S s_M_exchange [(0, 2), (1, 0), (2, 0), (3, 0)] 36 (stS 1 (vE 3)) (38, [(0, 2), (1, 0), (2, 0), (3, 0)]) B C := fs_istn (fe_iloadn 3 rfl dX12_exchange_36) dX12_exchange_37 (by decide) rfl
set_option maxRecDepth 20000 in
theorem t_M_exchange_9 {B C : Nat × FT} : fw_S s_M_exchange [(0, 2), (1, 0), (2, 0), (3, 0)] 38 (poS 45 addI (cE 0) (cE 1)) (48, [(0, 2), (1, 0), (2, 0)]) B C := fs_po_add (fe_aloadn 0 rfl dX12_exchange_38) dX12_exchange_39 dX12_exchange_40 (fe_iconst dX12_exchange_43) dX12_exchange_44 fp_RX12_353 lm_0 rfl dX12_exchange_45 rfl
set_option maxRecDepth 20000 in
theorem t_M_exchange_10 {B C : Nat × FT} : fw_S s_M_exchange [(0, 2), (1, 0), (2, 0)] 48 (inS 2 1) (51, [(0, 2), (1, 0), (2, 0)]) B C := fs_inc (j := 2) rfl dX12_exchange_48 (by decide) rfl
set_option maxRecDepth 20000 in
theorem t_M_exchange_11 {B C : Nat × FT} : fw_S s_M_exchange [(0, 2), (1, 0), (2, 0)] 17 (whS (nB (cB 3 (vE 2) (cE 50))) (sq (stS 3 (clE m_M_exchangeOnce [(cE 0), (vE 1)])) (sq (ifS (nB (cB 1 (vE 3) (vE 1))) (rtS (vE 1)) skS) (sq (stS 1 (vE 3)) (poS 45 addI (cE 0) (cE 1))))) (inS 2 1) FU) (54, [(0, 2), (1, 0), (2, 0)]) B C := fs_while t_M_exchange_4 (fs_seq t_M_exchange_5 (fs_seq (fs_if t_M_exchange_6 t_M_exchange_7 (fs_skip rfl)) (fs_seq t_M_exchange_8 t_M_exchange_9))) (fs_goto t_M_exchange_10 dX12_exchange_51 rfl)
set_option maxRecDepth 20000 in
theorem t_M_exchange_12 {N B C : Nat × FT} : fw_S s_M_exchange [(0, 2), (1, 0)] 54 (rtS (vE 1)) N B C := fs_ret (fe_iloadn 1 rfl dX12_exchange_54) dX12_exchange_55
set_option maxRecDepth 20000 in
theorem C_M_exchange : fw_C LM yX12_exchange cX12_exchange 4 (some .int) 7 [2] (some 0) m_M_exchange := fm_i (d := 7) (N := (0, [])) (B := (0, [])) (C := (0, [])) LM_ok (by decide +kernel) (show fw_S s_M_exchange _ 0 b_M_exchange _ _ _ from (fs_seq t_M_exchange_0 (fs_seq t_M_exchange_1 (fs_seq t_M_exchange_2 (fs_seq (fs_seq t_M_exchange_3 (fs_weak t_M_exchange_11 rfl)) t_M_exchange_12))))) (by decide)
/-! DyerBellsModel.exchanges (this 0 ) -/
abbrev s_M_exchanges : SI := (LM, RX12, cX12_exchanges, 1, 1, some 0)
set_option maxRecDepth 20000 in
theorem t_M_exchanges_0 {B C : Nat × FT} : fw_S s_M_exchanges [(0, 2)] 0 (pfS 0 (cE 0) (cE 0)) (5, [(0, 2)]) B C := fs_put (fe_aloadn 0 rfl dX12_exchanges_0) (fe_iconst dX12_exchanges_1) fp_RX12_91 lm_0 rfl dX12_exchanges_2 rfl
set_option maxRecDepth 20000 in
theorem t_M_exchanges_1 {N B C : Nat × FT} : fw_S s_M_exchanges [(0, 2)] 5 (rtS (thE (cE 0) (gE 45))) N B C := fs_ret (fe_getI (fe_aloadn 0 rfl dX12_exchanges_5) fl_RX12_353 lm_0 rfl dX12_exchanges_6) dX12_exchanges_9
set_option maxRecDepth 20000 in
theorem C_M_exchanges : fw_C LM yX12_exchanges cX12_exchanges 1 (some .int) 1 [2] (some 0) m_M_exchanges := fm_i (d := 1) (N := (0, [])) (B := (0, [])) (C := (0, [])) LM_ok (by decide +kernel) (show fw_S s_M_exchanges _ 0 b_M_exchanges _ _ _ from (fs_seq t_M_exchanges_0 t_M_exchanges_1)) (by decide)
