/-! DyerBellsModel.count (this 0 ) -/
abbrev s_M_count : SI := (LM, RX12, cX12_count, 2, 3, some 0)
def b_M_count : SM := (sq (pfS 0 (cE 0) (cE 0)) (sq (exS (clE m_M_lay [(cE 0)])) (tsS (vE 1) 0 [(rtS (clE m_M_reaches [(cE 0)])), (rtS (clE m_M_colours [(cE 0)])), (rtS (clE m_M_guilds [(cE 0)])), (rtS (clE m_M_users [(cE 0)])), (rtS (ldE 128 592 (thE (cE 0) (cE 0)) (cE 4))), (rtS (clE m_M_bells [(cE 0)])), (rtS (ldE 128 592 (thE (cE 0) (cE 0)) (cE 285))), (rtS (thE (cE 0) (gE 2)))] (rtS (cE (-1))))))
def m_M_count : FM := mthF [0, 1] b_M_count
set_option maxRecDepth 20000 in
theorem t_M_count_0 {B C : Nat × FT} : fw_S s_M_count [(0, 2), (1, 0)] 0 (pfS 0 (cE 0) (cE 0)) (5, [(0, 2), (1, 0)]) B C := fs_put (fe_aloadn 0 rfl dX12_count_0) (fe_iconst dX12_count_1) fp_RX12_91 lm_0 rfl dX12_count_2 rfl
set_option maxRecDepth 20000 in
theorem t_M_count_1 {B C : Nat × FT} : fw_S s_M_count [(0, 2), (1, 0)] 5 (exS (clE m_M_lay [(cE 0)])) (9, [(0, 2), (1, 0)]) B C := fs_callV (t := 0) (fa_cons (fe_aloadn 0 rfl dX12_count_5) fa_nil) C_M_lay lv_RX12_175 lm_0 rfl rfl (by decide) (by decide) dX12_count_6 rfl
set_option maxRecDepth 20000 in
theorem t_M_count_2 {N B C : Nat × FT} : fw_S s_M_count [(0, 2), (1, 0)] 56 (rtS (clE m_M_reaches [(cE 0)])) N B C := fs_ret (fe_callV (fa_cons (fe_aloadn 0 rfl dX12_count_56) fa_nil) C_M_reaches lv_RX12_190 lm_0 rfl rfl (by decide) (by decide) (by decide) dX12_count_57) dX12_count_60
set_option maxRecDepth 20000 in
theorem t_M_count_3 {N B C : Nat × FT} : fw_S s_M_count [(0, 2), (1, 0)] 61 (rtS (clE m_M_colours [(cE 0)])) N B C := fs_ret (fe_callV (fa_cons (fe_aloadn 0 rfl dX12_count_61) fa_nil) C_M_colours lv_RX12_193 lm_0 rfl rfl (by decide) (by decide) (by decide) dX12_count_62) dX12_count_65
set_option maxRecDepth 20000 in
theorem t_M_count_4 {N B C : Nat × FT} : fw_S s_M_count [(0, 2), (1, 0)] 66 (rtS (clE m_M_guilds [(cE 0)])) N B C := fs_ret (fe_callV (fa_cons (fe_aloadn 0 rfl dX12_count_66) fa_nil) C_M_guilds lv_RX12_196 lm_0 rfl rfl (by decide) (by decide) (by decide) dX12_count_67) dX12_count_70
set_option maxRecDepth 20000 in
theorem t_M_count_5 {N B C : Nat × FT} : fw_S s_M_count [(0, 2), (1, 0)] 71 (rtS (clE m_M_users [(cE 0)])) N B C := fs_ret (fe_callV (fa_cons (fe_aloadn 0 rfl dX12_count_71) fa_nil) C_M_users lv_RX12_199 lm_0 rfl rfl (by decide) (by decide) (by decide) dX12_count_72) dX12_count_75
set_option maxRecDepth 20000 in
theorem t_M_count_6 {N B C : Nat × FT} : fw_S s_M_count [(0, 2), (1, 0)] 76 (rtS (ldE 128 592 (thE (cE 0) (cE 0)) (cE 4))) N B C := fs_ret (fe_iald (fe_getR (fe_aloadn 0 rfl dX12_count_76) fl_RX12_13 lm_0 rfl dX12_count_77) (fe_iconst dX12_count_80) lm_2 dX12_count_81) dX12_count_82
set_option maxRecDepth 20000 in
theorem t_M_count_7 {N B C : Nat × FT} : fw_S s_M_count [(0, 2), (1, 0)] 83 (rtS (clE m_M_bells [(cE 0)])) N B C := fs_ret (fe_callV (fa_cons (fe_aloadn 0 rfl dX12_count_83) fa_nil) C_M_bells lv_RX12_286 lm_0 rfl rfl (by decide) (by decide) (by decide) dX12_count_84) dX12_count_87
set_option maxRecDepth 20000 in
theorem t_M_count_8 {N B C : Nat × FT} : fw_S s_M_count [(0, 2), (1, 0)] 88 (rtS (ldE 128 592 (thE (cE 0) (cE 0)) (cE 285))) N B C := fs_ret (fe_iald (fe_getR (fe_aloadn 0 rfl dX12_count_88) fl_RX12_13 lm_0 rfl dX12_count_89) (fe_sipush dX12_count_92) lm_2 dX12_count_95) dX12_count_96
set_option maxRecDepth 20000 in
theorem t_M_count_9 {N B C : Nat × FT} : fw_S s_M_count [(0, 2), (1, 0)] 97 (rtS (thE (cE 0) (gE 2))) N B C := fs_ret (fe_getI (fe_aloadn 0 rfl dX12_count_97) fl_RX12_94 lm_0 rfl dX12_count_98) dX12_count_101
set_option maxRecDepth 20000 in
theorem t_M_count_10 {N B C : Nat × FT} : fw_S s_M_count [(0, 2), (1, 0)] 102 (rtS (cE (-1))) N B C := fs_ret (fe_iconst dX12_count_102) dX12_count_103
set_option maxRecDepth 20000 in
theorem t_M_count_11 {N B C : Nat × FT} : fw_S s_M_count [(0, 2), (1, 0)] 9 (tsS (vE 1) 0 [(rtS (clE m_M_reaches [(cE 0)])), (rtS (clE m_M_colours [(cE 0)])), (rtS (clE m_M_guilds [(cE 0)])), (rtS (clE m_M_users [(cE 0)])), (rtS (ldE 128 592 (thE (cE 0) (cE 0)) (cE 4))), (rtS (clE m_M_bells [(cE 0)])), (rtS (ldE 128 592 (thE (cE 0) (cE 0)) (cE 285))), (rtS (thE (cE 0) (gE 2)))] (rtS (cE (-1)))) N B C := fs_tsw (cs := [(56, (rtS (clE m_M_reaches [(cE 0)]))), (61, (rtS (clE m_M_colours [(cE 0)]))), (66, (rtS (clE m_M_guilds [(cE 0)]))), (71, (rtS (clE m_M_users [(cE 0)]))), (76, (rtS (ldE 128 592 (thE (cE 0) (cE 0)) (cE 4)))), (83, (rtS (clE m_M_bells [(cE 0)]))), (88, (rtS (ldE 128 592 (thE (cE 0) (cE 0)) (cE 285)))), (97, (rtS (thE (cE 0) (gE 2))))]) (fe_iloadn 1 rfl dX12_count_9) dX12_count_10 ⟨⟨_, rfl, rfl⟩, t_M_count_2, ⟨⟨_, rfl, rfl⟩, t_M_count_3, ⟨⟨_, rfl, rfl⟩, t_M_count_4, ⟨⟨_, rfl, rfl⟩, t_M_count_5, ⟨⟨_, rfl, rfl⟩, t_M_count_6, ⟨⟨_, rfl, rfl⟩, t_M_count_7, ⟨⟨_, rfl, rfl⟩, t_M_count_8, ⟨⟨_, rfl, rfl⟩, t_M_count_9, trivial⟩⟩⟩⟩⟩⟩⟩⟩ rfl rfl t_M_count_10
set_option maxRecDepth 20000 in
theorem C_M_count : fw_C LM yX12_count cX12_count 2 (some .int) 3 [2, 0] (some 0) m_M_count := fm_i (d := 3) (N := (0, [])) (B := (0, [])) (C := (0, [])) LM_ok (by decide +kernel) (show fw_S s_M_count _ 0 b_M_count _ _ _ from (fs_seq t_M_count_0 (fs_seq t_M_count_1 t_M_count_11))) (by decide)
