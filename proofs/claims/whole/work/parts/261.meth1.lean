/-! DyerBells$Tape.put (this 1 tape) -/
abbrev s_Tape_put : SI := (LX, RX9, cX9_put, 3, 1, none)
set_option maxRecDepth 20000 in
theorem t_Tape_put_0 {B C : Nat × FT} : fw_S s_Tape_put [(0, 3), (1, 0)] 0 (stS 2 (cE 24)) (3, [(0, 3), (1, 0), (2, 0)]) B C := fs_istn (fe_bipush dX9_put_0) dX9_put_2 (by decide) rfl
set_option maxRecDepth 20000 in
theorem t_Tape_put_1 : fw_B s_Tape_put [(0, 3), (1, 0), (2, 0)] 0 3 7 46 (nB (zB 2 (vE 2))) := (fb_not (fb_if_lt (fe_iloadn 2 rfl dX9_put_3) dX9_put_4 rfl))
set_option maxRecDepth 20000 in
theorem t_Tape_put_2 : fw_B s_Tape_put [(0, 3), (1, 0), (2, 0)] 0 7 17 40 (nB (cB 3 (thE (cE 0) (gE 65)) (cE 940))) := (fb_not (fb_icmp_ge (fe_getI (fe_aloadn 0 rfl dX9_put_7) fl_RX9_15 lx_1 rfl dX9_put_8) (fe_sipush dX9_put_11) dX9_put_14 rfl))
set_option maxRecDepth 20000 in
theorem t_Tape_put_3 {B C : Nat × FT} : fw_S s_Tape_put [(0, 3), (1, 0), (2, 0)] 17 (asS 128 940 i2bI (thE (cE 0) (cE 0)) (thE (cE 0) (gE 65)) (o1 i2bI (o2 usrI (vE 1) (vE 2)))) (30, [(0, 3), (1, 0), (2, 0)]) B C := fs_bast (fe_getR (fe_aloadn 0 rfl dX9_put_17) fl_RX9_9 lx_1 rfl dX9_put_18) (fe_getI (fe_aloadn 0 rfl dX9_put_21) fl_RX9_15 lx_1 rfl dX9_put_22) (fe_i2b (fe_iushr (fe_iloadn 1 rfl dX9_put_25) (fe_iloadn 2 rfl dX9_put_26) dX9_put_27) dX9_put_28) lx_2 dX9_put_29 rfl
set_option maxRecDepth 20000 in
theorem t_Tape_put_4 {B C : Nat × FT} : fw_S s_Tape_put [(0, 3), (1, 0), (2, 0)] 30 (poS 65 addI (cE 0) (cE 1)) (40, [(0, 3), (1, 0), (2, 0)]) B C := fs_po_add (fe_aloadn 0 rfl dX9_put_30) dX9_put_31 dX9_put_32 (fe_iconst dX9_put_35) dX9_put_36 fp_RX9_15 lx_1 rfl dX9_put_37 rfl
set_option maxRecDepth 20000 in
theorem t_Tape_put_5 {B C : Nat × FT} : fw_S s_Tape_put [(0, 3), (1, 0), (2, 0)] 40 (inS 2 (-8)) (43, [(0, 3), (1, 0), (2, 0)]) B C := fs_inc (j := 2) rfl dX9_put_40 (by decide) rfl
set_option maxRecDepth 20000 in
theorem t_Tape_put_6 {B C : Nat × FT} : fw_S s_Tape_put [(0, 3), (1, 0), (2, 0)] 3 (whS (nB (zB 2 (vE 2))) (ifS (nB (cB 3 (thE (cE 0) (gE 65)) (cE 940))) (sq (asS 128 940 i2bI (thE (cE 0) (cE 0)) (thE (cE 0) (gE 65)) (o1 i2bI (o2 usrI (vE 1) (vE 2)))) (poS 65 addI (cE 0) (cE 1))) skS) (inS 2 (-8)) FU) (46, [(0, 3), (1, 0), (2, 0)]) B C := fs_while t_Tape_put_1 (fs_if t_Tape_put_2 (fs_seq t_Tape_put_3 t_Tape_put_4) (fs_skip rfl)) (fs_goto t_Tape_put_5 dX9_put_43 rfl)
set_option maxRecDepth 20000 in
theorem t_Tape_put_7 {N B C : Nat × FT} : fw_S s_Tape_put [(0, 3), (1, 0)] 46 rvS N B C := fs_rv dX9_put_46
set_option maxRecDepth 20000 in
theorem C_Tape_put : fw_C LX yX9_put cX9_put 3 none 1 [3, 0] (none) m_Tape_put := fm_v (d := 1) (N := (0, [])) (B := (0, [])) (C := (0, [])) LX_ok (by decide +kernel) (show fw_S s_Tape_put _ 0 b_Tape_put _ _ _ from (fs_seq (fs_seq t_Tape_put_0 (fs_weak t_Tape_put_6 rfl)) t_Tape_put_7)) (by decide)
/-! DyerBells.feed (this 0 ) -/
abbrev s_D_feed : SI := (LX, RX11, cX11_feed, 6, 2, some 0)
set_option maxRecDepth 20000 in
theorem t_D_feed_0 : fw_B s_D_feed [(0, 2), (1, 0), (2, 0), (3, 0), (4, 0), (5, 0)] 0 0 13 15 (nB (cB 5 (thE (thE (cE 0) (cE 0)) (gE 65)) (cE 920))) := (fb_not (fb_icmp_le (fe_getI (fe_getR (fe_aloadn 0 rfl dX11_feed_0) fl_RX11_12 lx_0 rfl dX11_feed_1) fl_RX11_63 lx_1 rfl dX11_feed_4) (fe_sipush dX11_feed_7) dX11_feed_10 rfl))
set_option maxRecDepth 20000 in
theorem t_D_feed_1 {N B C : Nat × FT} : fw_S s_D_feed [(0, 2), (1, 0), (2, 0), (3, 0), (4, 0), (5, 0)] 13 (rtS (cE (-1))) N B C := fs_ret (fe_iconst dX11_feed_13) dX11_feed_14
set_option maxRecDepth 20000 in
theorem t_D_feed_2 {B C : Nat × FT} : fw_S s_D_feed [(0, 2), (1, 0), (2, 0), (3, 0), (4, 0), (5, 0)] 15 (exS (clE m_Tape_put [(thE (cE 0) (cE 0)), (vE 1)])) (23, [(0, 2), (1, 0), (2, 0), (3, 0), (4, 0), (5, 0)]) B C := fs_callV (t := 0) (fa_cons (fe_getR (fe_aloadn 0 rfl dX11_feed_15) fl_RX11_12 lx_0 rfl dX11_feed_16) (fa_cons (fe_iloadn 1 rfl dX11_feed_19) fa_nil)) C_Tape_put lv_RX11_67 lx_1 rfl rfl (by decide) (by decide) dX11_feed_20 rfl
set_option maxRecDepth 20000 in
theorem t_D_feed_3 {B C : Nat × FT} : fw_S s_D_feed [(0, 2), (1, 0), (2, 0), (3, 0), (4, 0), (5, 0)] 23 (exS (clE m_Tape_put [(thE (cE 0) (cE 0)), (vE 2)])) (31, [(0, 2), (1, 0), (2, 0), (3, 0), (4, 0), (5, 0)]) B C := fs_callV (t := 0) (fa_cons (fe_getR (fe_aloadn 0 rfl dX11_feed_23) fl_RX11_12 lx_0 rfl dX11_feed_24) (fa_cons (fe_iloadn 2 rfl dX11_feed_27) fa_nil)) C_Tape_put lv_RX11_67 lx_1 rfl rfl (by decide) (by decide) dX11_feed_28 rfl
set_option maxRecDepth 20000 in
theorem t_D_feed_4 {B C : Nat × FT} : fw_S s_D_feed [(0, 2), (1, 0), (2, 0), (3, 0), (4, 0), (5, 0)] 31 (exS (clE m_Tape_put [(thE (cE 0) (cE 0)), (vE 3)])) (39, [(0, 2), (1, 0), (2, 0), (3, 0), (4, 0), (5, 0)]) B C := fs_callV (t := 0) (fa_cons (fe_getR (fe_aloadn 0 rfl dX11_feed_31) fl_RX11_12 lx_0 rfl dX11_feed_32) (fa_cons (fe_iloadn 3 rfl dX11_feed_35) fa_nil)) C_Tape_put lv_RX11_67 lx_1 rfl rfl (by decide) (by decide) dX11_feed_36 rfl
set_option maxRecDepth 20000 in
theorem t_D_feed_5 {B C : Nat × FT} : fw_S s_D_feed [(0, 2), (1, 0), (2, 0), (3, 0), (4, 0), (5, 0)] 39 (exS (clE m_Tape_put [(thE (cE 0) (cE 0)), (vE 4)])) (48, [(0, 2), (1, 0), (2, 0), (3, 0), (4, 0), (5, 0)]) B C := fs_callV (t := 0) (fa_cons (fe_getR (fe_aloadn 0 rfl dX11_feed_39) fl_RX11_12 lx_0 rfl dX11_feed_40) (fa_cons (fe_iload 4 rfl dX11_feed_43) fa_nil)) C_Tape_put lv_RX11_67 lx_1 rfl rfl (by decide) (by decide) dX11_feed_45 rfl
set_option maxRecDepth 20000 in
theorem t_D_feed_6 {B C : Nat × FT} : fw_S s_D_feed [(0, 2), (1, 0), (2, 0), (3, 0), (4, 0), (5, 0)] 48 (exS (clE m_Tape_put [(thE (cE 0) (cE 0)), (vE 5)])) (57, [(0, 2), (1, 0), (2, 0), (3, 0), (4, 0), (5, 0)]) B C := fs_callV (t := 0) (fa_cons (fe_getR (fe_aloadn 0 rfl dX11_feed_48) fl_RX11_12 lx_0 rfl dX11_feed_49) (fa_cons (fe_iload 5 rfl dX11_feed_52) fa_nil)) C_Tape_put lv_RX11_67 lx_1 rfl rfl (by decide) (by decide) dX11_feed_54 rfl
set_option maxRecDepth 20000 in
theorem t_D_feed_7 {N B C : Nat × FT} : fw_S s_D_feed [(0, 2), (1, 0), (2, 0), (3, 0), (4, 0), (5, 0)] 57 (rtS (thE (thE (cE 0) (cE 0)) (gE 65))) N B C := fs_ret (fe_getI (fe_getR (fe_aloadn 0 rfl dX11_feed_57) fl_RX11_12 lx_0 rfl dX11_feed_58) fl_RX11_63 lx_1 rfl dX11_feed_61) dX11_feed_64
set_option maxRecDepth 20000 in
theorem C_D_feed : fw_C LX yX11_feed cX11_feed 6 (some .int) 2 [2, 0, 0, 0, 0, 0] (some 0) m_D_feed := fm_i (d := 2) (N := (0, [])) (B := (0, [])) (C := (0, [])) LX_ok (by decide +kernel) (show fw_S s_D_feed _ 0 b_D_feed _ _ _ from (fs_seq (fs_if t_D_feed_0 t_D_feed_1 (fs_skip rfl)) (fs_seq t_D_feed_2 (fs_seq t_D_feed_3 (fs_seq t_D_feed_4 (fs_seq t_D_feed_5 (fs_seq t_D_feed_6 t_D_feed_7))))))) (by decide)
/-! DyerBells.end (this 0 ) -/
abbrev s_D_end : SI := (LX, RX11, cX11_end, 2, 1, some 0)
set_option maxRecDepth 20000 in
theorem t_D_end_0 : fw_B s_D_end [(0, 2), (1, 0)] 0 0 15 17 (orB (zB 2 (vE 1)) (nB (cB 5 (vE 1) (thE (thE (cE 0) (cE 0)) (gE 65))))) := (fb_or (fb_if_lt (fe_iloadn 1 rfl dX11_end_0) dX11_end_1 rfl) (fb_not (fb_icmp_le (fe_iloadn 1 rfl dX11_end_4) (fe_getI (fe_getR (fe_aloadn 0 rfl dX11_end_5) fl_RX11_12 lx_0 rfl dX11_end_6) fl_RX11_63 lx_1 rfl dX11_end_9) dX11_end_12 rfl)))
set_option maxRecDepth 20000 in
theorem t_D_end_1 {N B C : Nat × FT} : fw_S s_D_end [(0, 2), (1, 0)] 15 (rtS (cE 0)) N B C := fs_ret (fe_iconst dX11_end_15) dX11_end_16
set_option maxRecDepth 20000 in
theorem t_D_end_2 {B C : Nat × FT} : fw_S s_D_end [(0, 2), (1, 0)] 17 (pfS 65 (thE (cE 0) (cE 0)) (vE 1)) (25, [(0, 2), (1, 0)]) B C := fs_put (fe_getR (fe_aloadn 0 rfl dX11_end_17) fl_RX11_12 lx_0 rfl dX11_end_18) (fe_iloadn 1 rfl dX11_end_21) fp_RX11_63 lx_1 rfl dX11_end_22 rfl
set_option maxRecDepth 20000 in
theorem t_D_end_3 {N B C : Nat × FT} : fw_S s_D_end [(0, 2), (1, 0)] 25 (rtS (cE 1)) N B C := fs_ret (fe_iconst dX11_end_25) dX11_end_26
set_option maxRecDepth 20000 in
theorem C_D_end : fw_C LX yX11_end cX11_end 2 (some .boolean) 1 [2, 0] (some 0) m_D_end := fm_z (d := 1) (N := (0, [])) (B := (0, [])) (C := (0, [])) LX_ok (by decide +kernel) (show fw_S s_D_end _ 0 b_D_end _ _ _ from (fs_seq (fs_if t_D_end_0 t_D_end_1 (fs_skip rfl)) (fs_seq t_D_end_2 t_D_end_3))) (by decide)
/-! DyerBells$River.forget (this 37 draft.river) -/
abbrev s_River_forget : SI := (LX, RX3, cX3_forget, 2, 1, none)
set_option maxRecDepth 20000 in
theorem t_River_forget_0 {B C : Nat × FT} : fw_S s_River_forget [(0, 39)] 0 (pfS 2432 (thE (cE 0) (cE 0)) (cE 0)) (8, [(0, 39)]) B C := fs_put (fe_getR (fe_aloadn 0 rfl dX3_forget_0) fl_RX3_12 lx_37 rfl dX3_forget_1) (fe_iconst dX3_forget_4) fp_RX3_62 lx_38 rfl dX3_forget_5 rfl
set_option maxRecDepth 20000 in
theorem t_River_forget_1 {B C : Nat × FT} : fw_S s_River_forget [(0, 39)] 8 (pfS 2369 (cE 0) (cE 0)) (13, [(0, 39)]) B C := fs_put (fe_aloadn 0 rfl dX3_forget_8) (fe_iconst dX3_forget_9) fp_RX3_64 lx_37 rfl dX3_forget_10 rfl
set_option maxRecDepth 20000 in
theorem t_River_forget_2 {B C : Nat × FT} : fw_S s_River_forget [(0, 39)] 13 (pfS 2372 (cE 0) (cE 0)) (18, [(0, 39)]) B C := fs_put (fe_aloadn 0 rfl dX3_forget_13) (fe_iconst dX3_forget_14) fp_RX3_67 lx_37 rfl dX3_forget_15 rfl
set_option maxRecDepth 20000 in
theorem t_River_forget_3 {B C : Nat × FT} : fw_S s_River_forget [(0, 39)] 18 (pfS 2373 (cE 0) (cE 0)) (23, [(0, 39)]) B C := fs_put (fe_aloadn 0 rfl dX3_forget_18) (fe_iconst dX3_forget_19) fp_RX3_70 lx_37 rfl dX3_forget_20 rfl
set_option maxRecDepth 20000 in
theorem t_River_forget_4 {B C : Nat × FT} : fw_S s_River_forget [(0, 39)] 23 (pfS 2377 (cE 0) (cE 0)) (28, [(0, 39)]) B C := fs_put (fe_aloadn 0 rfl dX3_forget_23) (fe_iconst dX3_forget_24) fp_RX3_73 lx_37 rfl dX3_forget_25 rfl
set_option maxRecDepth 20000 in
theorem t_River_forget_5 {B C : Nat × FT} : fw_S s_River_forget [(0, 39)] 28 (pfS 2384 (cE 0) (cE 0)) (33, [(0, 39)]) B C := fs_put (fe_aloadn 0 rfl dX3_forget_28) (fe_iconst dX3_forget_29) fp_RX3_76 lx_37 rfl dX3_forget_30 rfl
set_option maxRecDepth 20000 in
theorem t_River_forget_6 {B C : Nat × FT} : fw_S s_River_forget [(0, 39)] 33 (pfS 2383 (cE 0) (cE (-1))) (38, [(0, 39)]) B C := fs_put (fe_aloadn 0 rfl dX3_forget_33) (fe_iconst dX3_forget_34) fp_RX3_49 lx_37 rfl dX3_forget_35 rfl
set_option maxRecDepth 20000 in
theorem t_River_forget_7 {B C : Nat × FT} : fw_S s_River_forget [(0, 39)] 38 (stS 1 (cE 0)) (40, [(0, 39), (1, 0)]) B C := fs_istn (fe_iconst dX3_forget_38) dX3_forget_39 (by decide) rfl
set_option maxRecDepth 20000 in
theorem t_River_forget_8 : fw_B s_River_forget [(0, 39), (1, 0)] 0 40 46 59 (nB (cB 3 (vE 1) (cE 7))) := (fb_not (fb_icmp_ge (fe_iloadn 1 rfl dX3_forget_40) (fe_bipush dX3_forget_41) dX3_forget_43 rfl))
set_option maxRecDepth 20000 in
theorem t_River_forget_9 {B C : Nat × FT} : fw_S s_River_forget [(0, 39), (1, 0)] 46 (asS 3264 7 idI (thE (cE 0) (cE 0)) (vE 1) (cE (-1))) (53, [(0, 39), (1, 0)]) B C := fs_iast (fe_getR (fe_aloadn 0 rfl dX3_forget_46) fl_RX3_46 lx_37 rfl dX3_forget_47) (fe_iloadn 1 rfl dX3_forget_50) (fe_iconst dX3_forget_51) lx_51 dX3_forget_52 rfl
set_option maxRecDepth 20000 in
theorem t_River_forget_10 {B C : Nat × FT} : fw_S s_River_forget [(0, 39), (1, 0)] 53 (inS 1 1) (56, [(0, 39), (1, 0)]) B C := fs_inc (j := 1) rfl dX3_forget_53 (by decide) rfl
set_option maxRecDepth 20000 in
theorem t_River_forget_11 {B C : Nat × FT} : fw_S s_River_forget [(0, 39), (1, 0)] 40 (whS (nB (cB 3 (vE 1) (cE 7))) (asS 3264 7 idI (thE (cE 0) (cE 0)) (vE 1) (cE (-1))) (inS 1 1) FU) (59, [(0, 39), (1, 0)]) B C := fs_while t_River_forget_8 t_River_forget_9 (fs_goto t_River_forget_10 dX3_forget_56 rfl)
set_option maxRecDepth 20000 in
theorem t_River_forget_12 {B C : Nat × FT} : fw_S s_River_forget [(0, 39)] 59 (stS 1 (cE 0)) (61, [(0, 39), (1, 0)]) B C := fs_istn (fe_iconst dX3_forget_59) dX3_forget_60 (by decide) rfl
set_option maxRecDepth 20000 in
theorem t_River_forget_13 : fw_B s_River_forget [(0, 39), (1, 0)] 0 61 67 80 (nB (cB 3 (vE 1) (cE 24))) := (fb_not (fb_icmp_ge (fe_iloadn 1 rfl dX3_forget_61) (fe_bipush dX3_forget_62) dX3_forget_64 rfl))
set_option maxRecDepth 20000 in
theorem t_River_forget_14 {B C : Nat × FT} : fw_S s_River_forget [(0, 39), (1, 0)] 67 (asS 2944 24 idI (thE (cE 0) (cE 0)) (vE 1) (cE 0)) (74, [(0, 39), (1, 0)]) B C := fs_iast (fe_getR (fe_aloadn 0 rfl dX3_forget_67) fl_RX3_31 lx_37 rfl dX3_forget_68) (fe_iloadn 1 rfl dX3_forget_71) (fe_iconst dX3_forget_72) lx_46 dX3_forget_73 rfl
set_option maxRecDepth 20000 in
theorem t_River_forget_15 {B C : Nat × FT} : fw_S s_River_forget [(0, 39), (1, 0)] 74 (inS 1 1) (77, [(0, 39), (1, 0)]) B C := fs_inc (j := 1) rfl dX3_forget_74 (by decide) rfl
set_option maxRecDepth 20000 in
theorem t_River_forget_16 {B C : Nat × FT} : fw_S s_River_forget [(0, 39), (1, 0)] 61 (whS (nB (cB 3 (vE 1) (cE 24))) (asS 2944 24 idI (thE (cE 0) (cE 0)) (vE 1) (cE 0)) (inS 1 1) FU) (80, [(0, 39), (1, 0)]) B C := fs_while t_River_forget_13 t_River_forget_14 (fs_goto t_River_forget_15 dX3_forget_77 rfl)
set_option maxRecDepth 20000 in
theorem t_River_forget_17 {B C : Nat × FT} : fw_S s_River_forget [(0, 39)] 80 (stS 1 (cE 0)) (82, [(0, 39), (1, 0)]) B C := fs_istn (fe_iconst dX3_forget_80) dX3_forget_81 (by decide) rfl
set_option maxRecDepth 20000 in
theorem t_River_forget_18 : fw_B s_River_forget [(0, 39), (1, 0)] 0 82 88 101 (nB (cB 3 (vE 1) (cE 24))) := (fb_not (fb_icmp_ge (fe_iloadn 1 rfl dX3_forget_82) (fe_bipush dX3_forget_83) dX3_forget_85 rfl))
set_option maxRecDepth 20000 in
theorem t_River_forget_19 {B C : Nat × FT} : fw_S s_River_forget [(0, 39), (1, 0)] 88 (asS 3200 24 idI (thE (cE 0) (cE 0)) (vE 1) (cE (-1))) (95, [(0, 39), (1, 0)]) B C := fs_iast (fe_getR (fe_aloadn 0 rfl dX3_forget_88) fl_RX3_43 lx_37 rfl dX3_forget_89) (fe_iloadn 1 rfl dX3_forget_92) (fe_iconst dX3_forget_93) lx_50 dX3_forget_94 rfl
set_option maxRecDepth 20000 in
theorem t_River_forget_20 {B C : Nat × FT} : fw_S s_River_forget [(0, 39), (1, 0)] 95 (inS 1 1) (98, [(0, 39), (1, 0)]) B C := fs_inc (j := 1) rfl dX3_forget_95 (by decide) rfl
set_option maxRecDepth 20000 in
theorem t_River_forget_21 {B C : Nat × FT} : fw_S s_River_forget [(0, 39), (1, 0)] 82 (whS (nB (cB 3 (vE 1) (cE 24))) (asS 3200 24 idI (thE (cE 0) (cE 0)) (vE 1) (cE (-1))) (inS 1 1) FU) (101, [(0, 39), (1, 0)]) B C := fs_while t_River_forget_18 t_River_forget_19 (fs_goto t_River_forget_20 dX3_forget_98 rfl)
set_option maxRecDepth 20000 in
theorem t_River_forget_22 {N B C : Nat × FT} : fw_S s_River_forget [(0, 39)] 101 rvS N B C := fs_rv dX3_forget_101
set_option maxRecDepth 20000 in
theorem C_River_forget : fw_C LX yX3_forget cX3_forget 2 none 1 [39] (none) m_River_forget := fm_v (d := 1) (N := (0, [])) (B := (0, [])) (C := (0, [])) LX_ok (by decide +kernel) (show fw_S s_River_forget _ 0 b_River_forget _ _ _ from (fs_seq t_River_forget_0 (fs_seq t_River_forget_1 (fs_seq t_River_forget_2 (fs_seq t_River_forget_3 (fs_seq t_River_forget_4 (fs_seq t_River_forget_5 (fs_seq t_River_forget_6 (fs_seq (fs_seq t_River_forget_7 (fs_weak t_River_forget_11 rfl)) (fs_seq (fs_seq t_River_forget_12 (fs_weak t_River_forget_16 rfl)) (fs_seq (fs_seq t_River_forget_17 (fs_weak t_River_forget_21 rfl)) t_River_forget_22))))))))))) (by decide)
/-! DyerBells$Order.forget (this 55 draft.order) -/
abbrev s_Order_forget : SI := (LX, RX1, cX1_forget, 1, 1, none)
set_option maxRecDepth 20000 in
theorem t_Order_forget_0 {B C : Nat × FT} : fw_S s_Order_forget [(0, 57)] 0 (pfS 3520 (cE 0) (cE 0)) (5, [(0, 57)]) B C := fs_put (fe_aloadn 0 rfl dX1_forget_0) (fe_iconst dX1_forget_1) fp_RX1_21 lx_55 rfl dX1_forget_2 rfl
set_option maxRecDepth 20000 in
theorem t_Order_forget_1 {N B C : Nat × FT} : fw_S s_Order_forget [(0, 57)] 5 rvS N B C := fs_rv dX1_forget_5
set_option maxRecDepth 20000 in
theorem C_Order_forget : fw_C LX yX1_forget cX1_forget 1 none 1 [57] (none) m_Order_forget := fm_v (d := 1) (N := (0, [])) (B := (0, [])) (C := (0, [])) LX_ok (by decide +kernel) (show fw_S s_Order_forget _ 0 b_Order_forget _ _ _ from (fs_seq t_Order_forget_0 t_Order_forget_1)) (by decide)
/-! DyerBells$Sentence.forget (this 63 draft.sentence) -/
abbrev s_Sentence_forget : SI := (LX, RX6, cX6_forget, 1, 1, none)
set_option maxRecDepth 20000 in
theorem t_Sentence_forget_0 {B C : Nat × FT} : fw_S s_Sentence_forget [(0, 65)] 0 (pfS 4032 (cE 0) (cE 0)) (5, [(0, 65)]) B C := fs_put (fe_aloadn 0 rfl dX6_forget_0) (fe_iconst dX6_forget_1) fp_RX6_27 lx_63 rfl dX6_forget_2 rfl
set_option maxRecDepth 20000 in
theorem t_Sentence_forget_1 {B C : Nat × FT} : fw_S s_Sentence_forget [(0, 65)] 5 (pfS 4033 (cE 0) (cE 0)) (10, [(0, 65)]) B C := fs_put (fe_aloadn 0 rfl dX6_forget_5) (fe_iconst dX6_forget_6) fp_RX6_31 lx_63 rfl dX6_forget_7 rfl
set_option maxRecDepth 20000 in
theorem t_Sentence_forget_2 {N B C : Nat × FT} : fw_S s_Sentence_forget [(0, 65)] 10 rvS N B C := fs_rv dX6_forget_10
set_option maxRecDepth 20000 in
theorem C_Sentence_forget : fw_C LX yX6_forget cX6_forget 1 none 1 [65] (none) m_Sentence_forget := fm_v (d := 1) (N := (0, [])) (B := (0, [])) (C := (0, [])) LX_ok (by decide +kernel) (show fw_S s_Sentence_forget _ 0 b_Sentence_forget _ _ _ from (fs_seq t_Sentence_forget_0 (fs_seq t_Sentence_forget_1 t_Sentence_forget_2))) (by decide)
/-! DyerBells$Scene.forget (this 36 draft) -/
abbrev s_Scene_forget : SI := (LX, RX5, cX5_forget, 1, 2, none)
set_option maxRecDepth 20000 in
theorem t_Scene_forget_0 {B C : Nat × FT} : fw_S s_Scene_forget [(0, 38)] 0 (exS (clE m_River_forget [(thE (cE 0) (cE 0))])) (7, [(0, 38)]) B C := fs_callV (t := 0) (fa_cons (fe_getR (fe_aloadn 0 rfl dX5_forget_0) fl_RX5_10 lx_36 rfl dX5_forget_1) fa_nil) C_River_forget lv_RX5_37 lx_37 rfl rfl (by decide) (by decide) dX5_forget_4 rfl
set_option maxRecDepth 20000 in
theorem t_Scene_forget_1 {B C : Nat × FT} : fw_S s_Scene_forget [(0, 38)] 7 (exS (clE m_Order_forget [(thE (cE 0) (cE 0))])) (14, [(0, 38)]) B C := fs_callV (t := 0) (fa_cons (fe_getR (fe_aloadn 0 rfl dX5_forget_7) fl_RX5_19 lx_36 rfl dX5_forget_8) fa_nil) C_Order_forget lv_RX5_40 lx_55 rfl rfl (by decide) (by decide) dX5_forget_11 rfl
set_option maxRecDepth 20000 in
theorem t_Scene_forget_2 {B C : Nat × FT} : fw_S s_Scene_forget [(0, 38)] 14 (pfS 3776 (thE (cE 0) (cE 0)) (cE 0)) (22, [(0, 38)]) B C := fs_put (fe_getR (fe_aloadn 0 rfl dX5_forget_14) fl_RX5_26 lx_36 rfl dX5_forget_15) (fe_iconst dX5_forget_18) fp_RX5_41 lx_59 rfl dX5_forget_19 rfl
set_option maxRecDepth 20000 in
theorem t_Scene_forget_3 {B C : Nat × FT} : fw_S s_Scene_forget [(0, 38)] 22 (exS (clE m_Sentence_forget [(thE (cE 0) (cE 0))])) (29, [(0, 38)]) B C := fs_callV (t := 0) (fa_cons (fe_getR (fe_aloadn 0 rfl dX5_forget_22) fl_RX5_33 lx_36 rfl dX5_forget_23) fa_nil) C_Sentence_forget lv_RX5_44 lx_63 rfl rfl (by decide) (by decide) dX5_forget_26 rfl
set_option maxRecDepth 20000 in
theorem t_Scene_forget_4 {N B C : Nat × FT} : fw_S s_Scene_forget [(0, 38)] 29 rvS N B C := fs_rv dX5_forget_29
set_option maxRecDepth 20000 in
theorem C_Scene_forget : fw_C LX yX5_forget cX5_forget 1 none 2 [38] (none) m_Scene_forget := fm_v (d := 2) (N := (0, [])) (B := (0, [])) (C := (0, [])) LX_ok (by decide +kernel) (show fw_S s_Scene_forget _ 0 b_Scene_forget _ _ _ from (fs_seq t_Scene_forget_0 (fs_seq t_Scene_forget_1 (fs_seq t_Scene_forget_2 (fs_seq t_Scene_forget_3 t_Scene_forget_4))))) (by decide)
/-! DyerBells$Tape.readRun (this 1 tape) -/
abbrev s_Tape_readRun : SI := (LX, RX9, cX9_readRun, 6, 1, some 0)
set_option maxRecDepth 20000 in
theorem t_Tape_readRun_0 {B C : Nat × FT} : fw_S s_Tape_readRun [(0, 3), (1, 0)] 0 (stS 2 (cE 0)) (2, [(0, 3), (1, 0), (2, 0)]) B C := fs_istn (fe_iconst dX9_readRun_0) dX9_readRun_1 (by decide) rfl
set_option maxRecDepth 20000 in
theorem t_Tape_readRun_1 {B C : Nat × FT} : fw_S s_Tape_readRun [(0, 3), (1, 0), (2, 0)] 2 (stS 3 (cE 0)) (4, [(0, 3), (1, 0), (2, 0), (3, 0)]) B C := fs_istn (fe_iconst dX9_readRun_2) dX9_readRun_3 (by decide) rfl
set_option maxRecDepth 20000 in
theorem t_Tape_readRun_2 {B C : Nat × FT} : fw_S s_Tape_readRun [(0, 3), (1, 0), (2, 0), (3, 0)] 4 (stS 4 (vE 1)) (7, [(0, 3), (1, 0), (2, 0), (3, 0), (4, 0)]) B C := fs_ist (fe_iloadn 1 rfl dX9_readRun_4) dX9_readRun_5 (by decide) rfl
set_option maxRecDepth 20000 in
theorem t_Tape_readRun_3 {B C : Nat × FT} : fw_S s_Tape_readRun [(0, 3), (1, 0), (2, 0), (3, 0), (4, 0)] 7 (pfS 73 (cE 0) (cE 0)) (12, [(0, 3), (1, 0), (2, 0), (3, 0), (4, 0)]) B C := fs_putL (fe_aloadn 0 rfl dX9_readRun_7) (fe_lconst dX9_readRun_8) fp_RX9_60 lx_1 rfl dX9_readRun_9 rfl
set_option maxRecDepth 20000 in
theorem t_Tape_readRun_4 {B C : Nat × FT} : fw_S s_Tape_readRun [(0, 3), (1, 0), (2, 0), (3, 0), (4, 0)] 12 (pfS 72 (cE 0) (cE 0)) (17, [(0, 3), (1, 0), (2, 0), (3, 0), (4, 0)]) B C := fs_put (fe_aloadn 0 rfl dX9_readRun_12) (fe_iconst dX9_readRun_13) fp_RX9_64 lx_1 rfl dX9_readRun_14 rfl
set_option maxRecDepth 20000 in
theorem t_Tape_readRun_5 : fw_B s_Tape_readRun [(0, 3), (1, 0), (2, 0), (3, 0), (4, 0)] 0 17 26 110 (nB (cB 3 (vE 4) (thE (cE 0) (gE 66)))) := (fb_not (fb_icmp_ge (fe_iload 4 rfl dX9_readRun_17) (fe_getI (fe_aloadn 0 rfl dX9_readRun_19) fl_RX9_19 lx_1 rfl dX9_readRun_20) dX9_readRun_23 rfl))
set_option maxRecDepth 20000 in
theorem t_Tape_readRun_6 {B C : Nat × FT} : fw_S s_Tape_readRun [(0, 3), (1, 0), (2, 0), (3, 0), (4, 0)] 26 (stS 5 (ldE 128 940 (thE (cE 0) (cE 0)) (vE 4))) (35, [(0, 3), (1, 0), (2, 0), (3, 0), (4, 0), (5, 0)]) B C := fs_ist (fe_bald (fe_getR (fe_aloadn 0 rfl dX9_readRun_26) fl_RX9_9 lx_1 rfl dX9_readRun_27) (fe_iload 4 rfl dX9_readRun_30) lx_2 dX9_readRun_32) dX9_readRun_33 (by decide) rfl
set_option maxRecDepth 20000 in
theorem t_Tape_readRun_7 : fw_B s_Tape_readRun [(0, 3), (1, 0), (2, 0), (3, 0), (4, 0), (5, 0)] 0 35 49 70 (andB (nB (cB 2 (vE 5) (cE 97))) (nB (cB 4 (vE 5) (cE 122)))) := (fb_and (fb_not (fb_icmp_lt (fe_iload 5 rfl dX9_readRun_35) (fe_bipush dX9_readRun_37) dX9_readRun_39 rfl)) (fb_not (fb_icmp_gt (fe_iload 5 rfl dX9_readRun_42) (fe_bipush dX9_readRun_44) dX9_readRun_46 rfl)))
set_option maxRecDepth 20000 in
theorem t_Tape_readRun_8 {B C : Nat × FT} : fw_S s_Tape_readRun [(0, 3), (1, 0), (2, 0), (3, 0), (4, 0), (5, 0)] 49 (inS 2 1) (52, [(0, 3), (1, 0), (2, 0), (3, 0), (4, 0), (5, 0)]) B C := fs_inc (j := 2) rfl dX9_readRun_49 (by decide) rfl
set_option maxRecDepth 20000 in
theorem t_Tape_readRun_9 {B C : Nat × FT} : fw_S s_Tape_readRun [(0, 3), (1, 0), (2, 0), (3, 0), (4, 0), (5, 0)] 52 (pfS 73 (cE 0) (o2 iorL (o2 shlL (thE (cE 0) (gE 73)) (cE 8)) (o1 i2lI (vE 5)))) (67, [(0, 3), (1, 0), (2, 0), (3, 0), (4, 0)]) B C := fs_putL (fe_aloadn 0 rfl dX9_readRun_52) (fe_lor (fe_lshl (fe_getL (fe_aloadn 0 rfl dX9_readRun_53) fl_RX9_60 lx_1 rfl dX9_readRun_54) (fe_bipush dX9_readRun_57) dX9_readRun_59) (fe_i2l (fe_iload 5 rfl dX9_readRun_60) dX9_readRun_62) dX9_readRun_63) fp_RX9_60 lx_1 rfl dX9_readRun_64 rfl
set_option maxRecDepth 20000 in
theorem t_Tape_readRun_10 : fw_B s_Tape_readRun [(0, 3), (1, 0), (2, 0), (3, 0), (4, 0), (5, 0)] 0 70 84 110 (andB (nB (cB 2 (vE 5) (cE 48))) (nB (cB 4 (vE 5) (cE 57)))) := (fb_and (fb_not (fb_icmp_lt (fe_iload 5 rfl dX9_readRun_70) (fe_bipush dX9_readRun_72) dX9_readRun_74 rfl)) (fb_not (fb_icmp_gt (fe_iload 5 rfl dX9_readRun_77) (fe_bipush dX9_readRun_79) dX9_readRun_81 rfl)))
set_option maxRecDepth 20000 in
theorem t_Tape_readRun_11 {B C : Nat × FT} : fw_S s_Tape_readRun [(0, 3), (1, 0), (2, 0), (3, 0), (4, 0), (5, 0)] 84 (inS 3 1) (87, [(0, 3), (1, 0), (2, 0), (3, 0), (4, 0), (5, 0)]) B C := fs_inc (j := 3) rfl dX9_readRun_84 (by decide) rfl
set_option maxRecDepth 20000 in
theorem t_Tape_readRun_12 {B C : Nat × FT} : fw_S s_Tape_readRun [(0, 3), (1, 0), (2, 0), (3, 0), (4, 0), (5, 0)] 87 (pfS 72 (cE 0) (o2 subI (o2 addI (o2 mulI (thE (cE 0) (gE 72)) (cE 10)) (vE 5)) (cE 48))) (104, [(0, 3), (1, 0), (2, 0), (3, 0), (4, 0)]) B C := fs_put (fe_aloadn 0 rfl dX9_readRun_87) (fe_isub (fe_iadd (fe_imul (fe_getI (fe_aloadn 0 rfl dX9_readRun_88) fl_RX9_64 lx_1 rfl dX9_readRun_89) (fe_bipush dX9_readRun_92) dX9_readRun_94) (fe_iload 5 rfl dX9_readRun_95) dX9_readRun_97) (fe_bipush dX9_readRun_98) dX9_readRun_100) fp_RX9_64 lx_1 rfl dX9_readRun_101 rfl
set_option maxRecDepth 20000 in
theorem t_Tape_readRun_13 {B C : Nat × FT} : fw_S s_Tape_readRun [(0, 3), (1, 0), (2, 0), (3, 0), (4, 0)] 104 (inS 4 1) (107, [(0, 3), (1, 0), (2, 0), (3, 0), (4, 0)]) B C := fs_inc (j := 4) rfl dX9_readRun_104 (by decide) rfl
set_option maxRecDepth 20000 in
theorem t_Tape_readRun_14 {B C : Nat × FT} : fw_S s_Tape_readRun [(0, 3), (1, 0), (2, 0), (3, 0), (4, 0)] 17 (whS (nB (cB 3 (vE 4) (thE (cE 0) (gE 66)))) (sq (stS 5 (ldE 128 940 (thE (cE 0) (cE 0)) (vE 4))) (ifS (andB (nB (cB 2 (vE 5) (cE 97))) (nB (cB 4 (vE 5) (cE 122)))) (sq (inS 2 1) (pfS 73 (cE 0) (o2 iorL (o2 shlL (thE (cE 0) (gE 73)) (cE 8)) (o1 i2lI (vE 5))))) (ifS (andB (nB (cB 2 (vE 5) (cE 48))) (nB (cB 4 (vE 5) (cE 57)))) (sq (inS 3 1) (pfS 72 (cE 0) (o2 subI (o2 addI (o2 mulI (thE (cE 0) (gE 72)) (cE 10)) (vE 5)) (cE 48)))) brS))) (inS 4 1) FU) (110, [(0, 3), (1, 0), (2, 0), (3, 0), (4, 0)]) B C := fs_while t_Tape_readRun_5 (fs_seq t_Tape_readRun_6 (fs_if t_Tape_readRun_7 (fs_goto (fs_seq t_Tape_readRun_8 t_Tape_readRun_9) dX9_readRun_67 rfl) (fs_if t_Tape_readRun_10 (fs_seq t_Tape_readRun_11 t_Tape_readRun_12) (fs_brk0 rfl)))) (fs_goto t_Tape_readRun_13 dX9_readRun_107 rfl)
set_option maxRecDepth 20000 in
theorem t_Tape_readRun_15 {B C : Nat × FT} : fw_S s_Tape_readRun [(0, 3), (1, 0), (2, 0), (3, 0), (4, 0)] 110 (pfS 68 (cE 0) (vE 4)) (116, [(0, 3), (1, 0), (2, 0), (3, 0), (4, 0)]) B C := fs_put (fe_aloadn 0 rfl dX9_readRun_110) (fe_iload 4 rfl dX9_readRun_111) fp_RX9_31 lx_1 rfl dX9_readRun_113 rfl
set_option maxRecDepth 20000 in
theorem t_Tape_readRun_16 : fw_B s_Tape_readRun [(0, 3), (1, 0), (2, 0), (3, 0), (4, 0)] 0 116 126 134 (andB (nB (zB 1 (vE 3))) (nB (cB 4 (vE 2) (cE 6)))) := (fb_and (fb_not (fb_if_ne (fe_iloadn 3 rfl dX9_readRun_116) dX9_readRun_117 rfl)) (fb_not (fb_icmp_gt (fe_iloadn 2 rfl dX9_readRun_120) (fe_bipush dX9_readRun_121) dX9_readRun_123 rfl)))
set_option maxRecDepth 20000 in
theorem t_Tape_readRun_17 {B C : Nat × FT} : fw_S s_Tape_readRun [(0, 3), (1, 0), (2, 0), (3, 0), (4, 0)] 126 (pfS 69 (cE 0) (cE 1)) (131, [(0, 3), (1, 0), (2, 0), (3, 0), (4, 0)]) B C := fs_put (fe_aloadn 0 rfl dX9_readRun_126) (fe_iconst dX9_readRun_127) fp_RX9_49 lx_1 rfl dX9_readRun_128 rfl
set_option maxRecDepth 20000 in
theorem t_Tape_readRun_18 {B C : Nat × FT} : fw_S s_Tape_readRun [(0, 3), (1, 0), (2, 0), (3, 0), (4, 0)] 134 (pfS 69 (cE 0) (kE (andB (nB (zB 1 (vE 2))) (nB (cB 4 (vE 3) (cE 4)))) (cE 2) (cE 4))) (152, [(0, 3), (1, 0), (2, 0), (3, 0), (4, 0)]) B C := fs_put (fe_aloadn 0 rfl dX9_readRun_134) (fe_ternG (fb_and (fb_not (fb_if_ne (fe_iloadn 2 rfl dX9_readRun_135) dX9_readRun_136 rfl)) (fb_not (fb_icmp_gt (fe_iloadn 3 rfl dX9_readRun_139) (fe_iconst dX9_readRun_140) dX9_readRun_141 rfl))) (fe_gt (fe_iconst dX9_readRun_144) dX9_readRun_145 rfl) (fe_iconst dX9_readRun_148)) fp_RX9_49 lx_1 rfl dX9_readRun_149 rfl
set_option maxRecDepth 20000 in
theorem t_Tape_readRun_19 {N B C : Nat × FT} : fw_S s_Tape_readRun [(0, 3), (1, 0), (2, 0), (3, 0), (4, 0)] 152 (rtS (kE (nB (zB 5 (o2 addI (vE 2) (vE 3)))) (cE 1) (cE 0))) N B C := fs_ret (fe_ternG (fb_not (fb_if_le (fe_iadd (fe_iloadn 2 rfl dX9_readRun_152) (fe_iloadn 3 rfl dX9_readRun_153) dX9_readRun_154) dX9_readRun_155 rfl)) (fe_gt (fe_iconst dX9_readRun_158) dX9_readRun_159 rfl) (fe_iconst dX9_readRun_162)) dX9_readRun_163
set_option maxRecDepth 20000 in
theorem C_Tape_readRun : fw_C LX yX9_readRun cX9_readRun 6 (some .boolean) 1 [3, 0] (some 0) m_Tape_readRun := fm_z (d := 1) (N := (0, [])) (B := (0, [])) (C := (0, [])) LX_ok (by decide +kernel) (show fw_S s_Tape_readRun _ 0 b_Tape_readRun _ _ _ from (fs_seq t_Tape_readRun_0 (fs_seq t_Tape_readRun_1 (fs_seq t_Tape_readRun_2 (fs_seq t_Tape_readRun_3 (fs_seq t_Tape_readRun_4 (fs_seq t_Tape_readRun_14 (fs_seq t_Tape_readRun_15 (fs_seq (fs_if t_Tape_readRun_16 (fs_goto t_Tape_readRun_17 dX9_readRun_131 rfl) t_Tape_readRun_18) t_Tape_readRun_19))))))))) (by decide)
/-! DyerBells$Tape.readSign (this 1 tape) -/
abbrev s_Tape_readSign : SI := (LX, RX9, cX9_readSign, 3, 1, none)
set_option maxRecDepth 20000 in
theorem t_Tape_readSign_0 {B C : Nat × FT} : fw_S s_Tape_readSign [(0, 3), (1, 0)] 0 (pfS 72 (cE 0) (ldE 128 940 (thE (cE 0) (cE 0)) (vE 1))) (10, [(0, 3), (1, 0)]) B C := fs_put (fe_aloadn 0 rfl dX9_readSign_0) (fe_bald (fe_getR (fe_aloadn 0 rfl dX9_readSign_1) fl_RX9_9 lx_1 rfl dX9_readSign_2) (fe_iloadn 1 rfl dX9_readSign_5) lx_2 dX9_readSign_6) fp_RX9_64 lx_1 rfl dX9_readSign_7 rfl
set_option maxRecDepth 20000 in
theorem t_Tape_readSign_1 {B C : Nat × FT} : fw_S s_Tape_readSign [(0, 3), (1, 0)] 10 (stS 2 (kE (orB (orB (andB (nB (cB 2 (thE (cE 0) (gE 72)) (cE 59))) (cB 5 (thE (cE 0) (gE 72)) (cE 62))) (cB 0 (thE (cE 0) (gE 72)) (cE 40))) (nB (cB 1 (thE (cE 0) (gE 72)) (cE 41)))) (cE 1) (cE 0))) (52, [(0, 3), (1, 0), (2, 0)]) B C := fs_istn (fe_ternG (fb_or (fb_or (fb_and (fb_not (fb_icmp_lt (fe_getI (fe_aloadn 0 rfl dX9_readSign_10) fl_RX9_64 lx_1 rfl dX9_readSign_11) (fe_bipush dX9_readSign_14) dX9_readSign_16 rfl)) (fb_icmp_le (fe_getI (fe_aloadn 0 rfl dX9_readSign_19) fl_RX9_64 lx_1 rfl dX9_readSign_20) (fe_bipush dX9_readSign_23) dX9_readSign_25 rfl)) (fb_icmp_eq (fe_getI (fe_aloadn 0 rfl dX9_readSign_28) fl_RX9_64 lx_1 rfl dX9_readSign_29) (fe_bipush dX9_readSign_32) dX9_readSign_34 rfl)) (fb_not (fb_icmp_ne (fe_getI (fe_aloadn 0 rfl dX9_readSign_37) fl_RX9_64 lx_1 rfl dX9_readSign_38) (fe_bipush dX9_readSign_41) dX9_readSign_43 rfl))) (fe_gt (fe_iconst dX9_readSign_46) dX9_readSign_47 rfl) (fe_iconst dX9_readSign_50)) dX9_readSign_51 (by decide) rfl
set_option maxRecDepth 20000 in
theorem t_Tape_readSign_2 {B C : Nat × FT} : fw_S s_Tape_readSign [(0, 3), (1, 0), (2, 0)] 52 (pfS 69 (cE 0) (kE (nB (zB 0 (vE 2))) (cE 3) (cE 4))) (65, [(0, 3), (1, 0), (2, 0)]) B C := fs_put (fe_aloadn 0 rfl dX9_readSign_52) (fe_ternG (fb_not (fb_if_eq (fe_iloadn 2 rfl dX9_readSign_53) dX9_readSign_54 rfl)) (fe_gt (fe_iconst dX9_readSign_57) dX9_readSign_58 rfl) (fe_iconst dX9_readSign_61)) fp_RX9_49 lx_1 rfl dX9_readSign_62 rfl
set_option maxRecDepth 20000 in
theorem t_Tape_readSign_3 {B C : Nat × FT} : fw_S s_Tape_readSign [(0, 3), (1, 0), (2, 0)] 65 (pfS 68 (cE 0) (o2 addI (vE 1) (cE 1))) (72, [(0, 3), (1, 0), (2, 0)]) B C := fs_put (fe_aloadn 0 rfl dX9_readSign_65) (fe_iadd (fe_iloadn 1 rfl dX9_readSign_66) (fe_iconst dX9_readSign_67) dX9_readSign_68) fp_RX9_31 lx_1 rfl dX9_readSign_69 rfl
set_option maxRecDepth 20000 in
theorem t_Tape_readSign_4 {N B C : Nat × FT} : fw_S s_Tape_readSign [(0, 3), (1, 0), (2, 0)] 72 rvS N B C := fs_rv dX9_readSign_72
set_option maxRecDepth 20000 in
theorem C_Tape_readSign : fw_C LX yX9_readSign cX9_readSign 3 none 1 [3, 0] (none) m_Tape_readSign := fm_v (d := 1) (N := (0, [])) (B := (0, [])) (C := (0, [])) LX_ok (by decide +kernel) (show fw_S s_Tape_readSign _ 0 b_Tape_readSign _ _ _ from (fs_seq t_Tape_readSign_0 (fs_seq t_Tape_readSign_1 (fs_seq t_Tape_readSign_2 (fs_seq t_Tape_readSign_3 t_Tape_readSign_4))))) (by decide)
/-! DyerBells$Tape.advance (this 1 tape) -/
abbrev s_Tape_advance : SI := (LX, RX9, cX9_advance, 2, 2, none)
set_option maxRecDepth 20000 in
theorem t_Tape_advance_0 : fw_B s_Tape_advance [(0, 3)] 0 0 7 8 (nB (zB 0 (thE (cE 0) (gE 74)))) := (fb_not (fb_if_eq (fe_getI (fe_aloadn 0 rfl dX9_advance_0) fl_RX9_37 lx_1 rfl dX9_advance_1) dX9_advance_4 rfl))
set_option maxRecDepth 20000 in
theorem t_Tape_advance_1 {N B C : Nat × FT} : fw_S s_Tape_advance [(0, 3)] 7 rvS N B C := fs_rv dX9_advance_7
set_option maxRecDepth 20000 in
theorem t_Tape_advance_2 {B C : Nat × FT} : fw_S s_Tape_advance [(0, 3)] 8 (pfS 71 (cE 0) (thE (cE 0) (gE 70))) (16, [(0, 3)]) B C := fs_put (fe_aloadn 0 rfl dX9_advance_8) (fe_getI (fe_aloadn 0 rfl dX9_advance_9) fl_RX9_34 lx_1 rfl dX9_advance_10) fp_RX9_46 lx_1 rfl dX9_advance_13 rfl
set_option maxRecDepth 20000 in
theorem t_Tape_advance_3 {B C : Nat × FT} : fw_S s_Tape_advance [(0, 3)] 16 (stS 1 (thE (cE 0) (gE 68))) (21, [(0, 3), (1, 0)]) B C := fs_istn (fe_getI (fe_aloadn 0 rfl dX9_advance_16) fl_RX9_31 lx_1 rfl dX9_advance_17) dX9_advance_20 (by decide) rfl
set_option maxRecDepth 20000 in
theorem t_Tape_advance_4 : fw_B s_Tape_advance [(0, 3), (1, 0)] 0 21 51 57 (andB (nB (cB 3 (vE 1) (thE (cE 0) (gE 67)))) (orB (cB 0 (ldE 128 940 (thE (cE 0) (cE 0)) (vE 1)) (cE 32)) (nB (cB 1 (ldE 128 940 (thE (cE 0) (cE 0)) (vE 1)) (cE 10))))) := (fb_and (fb_not (fb_icmp_ge (fe_iloadn 1 rfl dX9_advance_21) (fe_getI (fe_aloadn 0 rfl dX9_advance_22) fl_RX9_28 lx_1 rfl dX9_advance_23) dX9_advance_26 rfl)) (fb_or (fb_icmp_eq (fe_bald (fe_getR (fe_aloadn 0 rfl dX9_advance_29) fl_RX9_9 lx_1 rfl dX9_advance_30) (fe_iloadn 1 rfl dX9_advance_33) lx_2 dX9_advance_34) (fe_bipush dX9_advance_35) dX9_advance_37 rfl) (fb_not (fb_icmp_ne (fe_bald (fe_getR (fe_aloadn 0 rfl dX9_advance_40) fl_RX9_9 lx_1 rfl dX9_advance_41) (fe_iloadn 1 rfl dX9_advance_44) lx_2 dX9_advance_45) (fe_bipush dX9_advance_46) dX9_advance_48 rfl))))
set_option maxRecDepth 20000 in
theorem t_Tape_advance_5 {B C : Nat × FT} : fw_S s_Tape_advance [(0, 3), (1, 0)] 51 (inS 1 1) (54, [(0, 3), (1, 0)]) B C := fs_inc (j := 1) rfl dX9_advance_51 (by decide) rfl
set_option maxRecDepth 20000 in
theorem t_Tape_advance_6 {B C : Nat × FT} : fw_S s_Tape_advance [(0, 3), (1, 0)] 21 (whS (andB (nB (cB 3 (vE 1) (thE (cE 0) (gE 67)))) (orB (cB 0 (ldE 128 940 (thE (cE 0) (cE 0)) (vE 1)) (cE 32)) (nB (cB 1 (ldE 128 940 (thE (cE 0) (cE 0)) (vE 1)) (cE 10))))) (inS 1 1) skS FU) (57, [(0, 3), (1, 0)]) B C := fs_while t_Tape_advance_4 (fs_goto t_Tape_advance_5 dX9_advance_54 rfl) (fs_skip rfl)
set_option maxRecDepth 20000 in
theorem t_Tape_advance_7 {B C : Nat × FT} : fw_S s_Tape_advance [(0, 3), (1, 0)] 57 (pfS 70 (cE 0) (o2 minI (vE 1) (thE (cE 0) (gE 67)))) (69, [(0, 3), (1, 0)]) B C := fs_put (fe_aloadn 0 rfl dX9_advance_57) (fe_min (fe_iloadn 1 rfl dX9_advance_58) (fe_getI (fe_aloadn 0 rfl dX9_advance_59) fl_RX9_28 lx_1 rfl dX9_advance_60) mm_RX9_22 (by decide) (by decide) dX9_advance_63) fp_RX9_34 lx_1 rfl dX9_advance_66 rfl
set_option maxRecDepth 20000 in
theorem t_Tape_advance_8 : fw_B s_Tape_advance [(0, 3), (1, 0)] 0 69 77 85 (nB (cB 2 (vE 1) (thE (cE 0) (gE 67)))) := (fb_not (fb_icmp_lt (fe_iloadn 1 rfl dX9_advance_69) (fe_getI (fe_aloadn 0 rfl dX9_advance_70) fl_RX9_28 lx_1 rfl dX9_advance_71) dX9_advance_74 rfl))
set_option maxRecDepth 20000 in
theorem t_Tape_advance_9 {B C : Nat × FT} : fw_S s_Tape_advance [(0, 3), (1, 0)] 77 (pfS 69 (cE 0) (cE 0)) (82, [(0, 3), (1, 0)]) B C := fs_put (fe_aloadn 0 rfl dX9_advance_77) (fe_iconst dX9_advance_78) fp_RX9_49 lx_1 rfl dX9_advance_79 rfl
set_option maxRecDepth 20000 in
theorem t_Tape_advance_10 : fw_B s_Tape_advance [(0, 3), (1, 0)] 0 85 93 98 (nB (zB 1 (clE m_Tape_readRun [(cE 0), (vE 1)]))) := (fb_not (fb_if_ne (fe_callV (fa_cons (fe_aloadn 0 rfl dX9_advance_85) (fa_cons (fe_iloadn 1 rfl dX9_advance_86) fa_nil)) C_Tape_readRun lv_RX9_52 lx_1 rfl rfl (by decide) (by decide) (by decide) dX9_advance_87) dX9_advance_90 rfl))
set_option maxRecDepth 20000 in
theorem t_Tape_advance_11 {B C : Nat × FT} : fw_S s_Tape_advance [(0, 3), (1, 0)] 93 (exS (clE m_Tape_readSign [(cE 0), (vE 1)])) (98, [(0, 3), (1, 0)]) B C := fs_callV (t := 0) (fa_cons (fe_aloadn 0 rfl dX9_advance_93) (fa_cons (fe_iloadn 1 rfl dX9_advance_94) fa_nil)) C_Tape_readSign lv_RX9_56 lx_1 rfl rfl (by decide) (by decide) dX9_advance_95 rfl
set_option maxRecDepth 20000 in
theorem t_Tape_advance_12 {N B C : Nat × FT} : fw_S s_Tape_advance [(0, 3), (1, 0)] 98 rvS N B C := fs_rv dX9_advance_98
set_option maxRecDepth 20000 in
theorem C_Tape_advance : fw_C LX yX9_advance cX9_advance 2 none 2 [3] (none) m_Tape_advance := fm_v (d := 2) (N := (0, [])) (B := (0, [])) (C := (0, [])) LX_ok (by decide +kernel) (show fw_S s_Tape_advance _ 0 b_Tape_advance _ _ _ from (fs_seq (fs_if t_Tape_advance_0 t_Tape_advance_1 (fs_skip rfl)) (fs_seq t_Tape_advance_2 (fs_seq t_Tape_advance_3 (fs_seq t_Tape_advance_6 (fs_seq t_Tape_advance_7 (fs_seq (fs_if t_Tape_advance_8 (fs_goto t_Tape_advance_9 dX9_advance_82 rfl) (fs_if t_Tape_advance_10 t_Tape_advance_11 (fs_skip rfl))) t_Tape_advance_12))))))) (by decide)
/-! DyerBells$Tape.open (this 1 tape) -/
abbrev s_Tape_open : SI := (LX, RX9, cX9_open, 2, 3, none)
set_option maxRecDepth 20000 in
theorem t_Tape_open_0 {B C : Nat × FT} : fw_S s_Tape_open [(0, 3), (1, 0)] 0 (pfS 66 (cE 0) (thE (cE 0) (gE 65))) (8, [(0, 3), (1, 0)]) B C := fs_put (fe_aloadn 0 rfl dX9_open_0) (fe_getI (fe_aloadn 0 rfl dX9_open_1) fl_RX9_15 lx_1 rfl dX9_open_2) fp_RX9_19 lx_1 rfl dX9_open_5 rfl
set_option maxRecDepth 20000 in
theorem t_Tape_open_1 {B C : Nat × FT} : fw_S s_Tape_open [(0, 3), (1, 0)] 8 (pfS 65 (cE 0) (cE 0)) (13, [(0, 3), (1, 0)]) B C := fs_put (fe_aloadn 0 rfl dX9_open_8) (fe_iconst dX9_open_9) fp_RX9_15 lx_1 rfl dX9_open_10 rfl
set_option maxRecDepth 20000 in
theorem t_Tape_open_2 {B C : Nat × FT} : fw_S s_Tape_open [(0, 3), (1, 0)] 13 (pfS 67 (cE 0) (o2 minI (thE (cE 0) (gE 66)) (vE 1))) (25, [(0, 3), (1, 0)]) B C := fs_put (fe_aloadn 0 rfl dX9_open_13) (fe_min (fe_getI (fe_aloadn 0 rfl dX9_open_14) fl_RX9_19 lx_1 rfl dX9_open_15) (fe_iloadn 1 rfl dX9_open_18) mm_RX9_22 (by decide) (by decide) dX9_open_19) fp_RX9_28 lx_1 rfl dX9_open_22 rfl
set_option maxRecDepth 20000 in
theorem t_Tape_open_3 {B C : Nat × FT} : fw_S s_Tape_open [(0, 3), (1, 0)] 25 (pfS 68 (cE 0) (cE 0)) (30, [(0, 3), (1, 0)]) B C := fs_put (fe_aloadn 0 rfl dX9_open_25) (fe_iconst dX9_open_26) fp_RX9_31 lx_1 rfl dX9_open_27 rfl
set_option maxRecDepth 20000 in
theorem t_Tape_open_4 {B C : Nat × FT} : fw_S s_Tape_open [(0, 3), (1, 0)] 30 (pfS 70 (cE 0) (cE 0)) (35, [(0, 3), (1, 0)]) B C := fs_put (fe_aloadn 0 rfl dX9_open_30) (fe_iconst dX9_open_31) fp_RX9_34 lx_1 rfl dX9_open_32 rfl
set_option maxRecDepth 20000 in
theorem t_Tape_open_5 {B C : Nat × FT} : fw_S s_Tape_open [(0, 3), (1, 0)] 35 (pfS 74 (cE 0) (cE 0)) (40, [(0, 3), (1, 0)]) B C := fs_put (fe_aloadn 0 rfl dX9_open_35) (fe_iconst dX9_open_36) fp_RX9_37 lx_1 rfl dX9_open_37 rfl
set_option maxRecDepth 20000 in
theorem t_Tape_open_6 {B C : Nat × FT} : fw_S s_Tape_open [(0, 3), (1, 0)] 40 (pfS 75 (cE 0) (cE 0)) (45, [(0, 3), (1, 0)]) B C := fs_put (fe_aloadn 0 rfl dX9_open_40) (fe_iconst dX9_open_41) fp_RX9_40 lx_1 rfl dX9_open_42 rfl
set_option maxRecDepth 20000 in
theorem t_Tape_open_7 {B C : Nat × FT} : fw_S s_Tape_open [(0, 3), (1, 0)] 45 (exS (clE m_Tape_advance [(cE 0)])) (49, [(0, 3), (1, 0)]) B C := fs_callV (t := 0) (fa_cons (fe_aloadn 0 rfl dX9_open_45) fa_nil) C_Tape_advance lv_RX9_43 lx_1 rfl rfl (by decide) (by decide) dX9_open_46 rfl
set_option maxRecDepth 20000 in
theorem t_Tape_open_8 {N B C : Nat × FT} : fw_S s_Tape_open [(0, 3), (1, 0)] 49 rvS N B C := fs_rv dX9_open_49
set_option maxRecDepth 20000 in
theorem C_Tape_open : fw_C LX yX9_open cX9_open 2 none 3 [3, 0] (none) m_Tape_open := fm_v (d := 3) (N := (0, [])) (B := (0, [])) (C := (0, [])) LX_ok (by decide +kernel) (show fw_S s_Tape_open _ 0 b_Tape_open _ _ _ from (fs_seq t_Tape_open_0 (fs_seq t_Tape_open_1 (fs_seq t_Tape_open_2 (fs_seq t_Tape_open_3 (fs_seq t_Tape_open_4 (fs_seq t_Tape_open_5 (fs_seq t_Tape_open_6 (fs_seq t_Tape_open_7 t_Tape_open_8))))))))) (by decide)
/-! DyerBells$Tape.goesOn (this 1 tape) -/
abbrev s_Tape_goesOn : SI := (LX, RX9, cX9_goesOn, 1, 1, some 0)
set_option maxRecDepth 20000 in
theorem t_Tape_goesOn_0 {N B C : Nat × FT} : fw_S s_Tape_goesOn [(0, 3)] 0 (rtS (kE (andB (nB (zB 1 (thE (cE 0) (gE 74)))) (nB (zB 0 (thE (cE 0) (gE 69))))) (cE 1) (cE 0))) N B C := fs_ret (fe_ternG (fb_and (fb_not (fb_if_ne (fe_getI (fe_aloadn 0 rfl dX9_goesOn_0) fl_RX9_37 lx_1 rfl dX9_goesOn_1) dX9_goesOn_4 rfl)) (fb_not (fb_if_eq (fe_getI (fe_aloadn 0 rfl dX9_goesOn_7) fl_RX9_49 lx_1 rfl dX9_goesOn_8) dX9_goesOn_11 rfl))) (fe_gt (fe_iconst dX9_goesOn_14) dX9_goesOn_15 rfl) (fe_iconst dX9_goesOn_18)) dX9_goesOn_19
set_option maxRecDepth 20000 in
theorem C_Tape_goesOn : fw_C LX yX9_goesOn cX9_goesOn 1 (some .boolean) 1 [3] (some 0) m_Tape_goesOn := fm_z (d := 1) (N := (0, [])) (B := (0, [])) (C := (0, [])) LX_ok (by decide +kernel) (show fw_S s_Tape_goesOn _ 0 b_Tape_goesOn _ _ _ from t_Tape_goesOn_0) (by decide)
/-! DyerBells$Tape.isWord (this 1 tape) -/
abbrev s_Tape_isWord : SI := (LX, RX9, cX9_isWord, 3, 1, some 0)
set_option maxRecDepth 20000 in
theorem t_Tape_isWord_0 {N B C : Nat × FT} : fw_S s_Tape_isWord [(0, 3), (1, 1)] 0 (rtS (kE (andB (andB (nB (zB 1 (thE (cE 0) (gE 74)))) (nB (cB 1 (thE (cE 0) (gE 69)) (cE 1)))) (nB (zB 1 (o2 cmpL (thE (cE 0) (gE 73)) (vE 1))))) (cE 1) (cE 0))) N B C := fs_ret (fe_ternG (fb_and (fb_and (fb_not (fb_if_ne (fe_getI (fe_aloadn 0 rfl dX9_isWord_0) fl_RX9_37 lx_1 rfl dX9_isWord_1) dX9_isWord_4 rfl)) (fb_not (fb_icmp_ne (fe_getI (fe_aloadn 0 rfl dX9_isWord_7) fl_RX9_49 lx_1 rfl dX9_isWord_8) (fe_iconst dX9_isWord_11) dX9_isWord_12 rfl))) (fb_not (fb_if_ne (fe_lcmp (fe_getL (fe_aloadn 0 rfl dX9_isWord_15) fl_RX9_60 lx_1 rfl dX9_isWord_16) (fe_lloadn 1 rfl dX9_isWord_19) dX9_isWord_20) dX9_isWord_21 rfl))) (fe_gt (fe_iconst dX9_isWord_24) dX9_isWord_25 rfl) (fe_iconst dX9_isWord_28)) dX9_isWord_29
set_option maxRecDepth 20000 in
theorem C_Tape_isWord : fw_C LX yX9_isWord cX9_isWord 3 (some .boolean) 1 [3, 1] (some 0) m_Tape_isWord := fm_z (d := 1) (N := (0, [])) (B := (0, [])) (C := (0, [])) LX_ok (by decide +kernel) (show fw_S s_Tape_isWord _ 0 b_Tape_isWord _ _ _ from t_Tape_isWord_0) (by decide)
/-! DyerBells$Tape.refuseAt (this 1 tape) -/
abbrev s_Tape_refuseAt : SI := (LX, RX9, cX9_refuseAt, 3, 1, none)
set_option maxRecDepth 20000 in
theorem t_Tape_refuseAt_0 : fw_B s_Tape_refuseAt [(0, 3), (1, 0), (2, 0)] 0 0 7 17 (nB (zB 1 (thE (cE 0) (gE 74)))) := (fb_not (fb_if_ne (fe_getI (fe_aloadn 0 rfl dX9_refuseAt_0) fl_RX9_37 lx_1 rfl dX9_refuseAt_1) dX9_refuseAt_4 rfl))
set_option maxRecDepth 20000 in
theorem t_Tape_refuseAt_1 {B C : Nat × FT} : fw_S s_Tape_refuseAt [(0, 3), (1, 0), (2, 0)] 7 (pfS 74 (cE 0) (vE 2)) (12, [(0, 3), (1, 0), (2, 0)]) B C := fs_put (fe_aloadn 0 rfl dX9_refuseAt_7) (fe_iloadn 2 rfl dX9_refuseAt_8) fp_RX9_37 lx_1 rfl dX9_refuseAt_9 rfl
set_option maxRecDepth 20000 in
theorem t_Tape_refuseAt_2 {B C : Nat × FT} : fw_S s_Tape_refuseAt [(0, 3), (1, 0), (2, 0)] 12 (pfS 75 (cE 0) (vE 1)) (17, [(0, 3), (1, 0), (2, 0)]) B C := fs_put (fe_aloadn 0 rfl dX9_refuseAt_12) (fe_iloadn 1 rfl dX9_refuseAt_13) fp_RX9_40 lx_1 rfl dX9_refuseAt_14 rfl
set_option maxRecDepth 20000 in
theorem t_Tape_refuseAt_3 {N B C : Nat × FT} : fw_S s_Tape_refuseAt [(0, 3), (1, 0), (2, 0)] 17 rvS N B C := fs_rv dX9_refuseAt_17
set_option maxRecDepth 20000 in
theorem C_Tape_refuseAt : fw_C LX yX9_refuseAt cX9_refuseAt 3 none 1 [3, 0, 0] (none) m_Tape_refuseAt := fm_v (d := 1) (N := (0, [])) (B := (0, [])) (C := (0, [])) LX_ok (by decide +kernel) (show fw_S s_Tape_refuseAt _ 0 b_Tape_refuseAt _ _ _ from (fs_seq (fs_if t_Tape_refuseAt_0 (fs_seq t_Tape_refuseAt_1 t_Tape_refuseAt_2) (fs_skip rfl)) t_Tape_refuseAt_3)) (by decide)
/-! DyerBells$Tape.refuse (this 1 tape) -/
abbrev s_Tape_refuse : SI := (LX, RX9, cX9_refuse, 2, 2, none)
set_option maxRecDepth 20000 in
theorem t_Tape_refuse_0 {B C : Nat × FT} : fw_S s_Tape_refuse [(0, 3), (1, 0)] 0 (exS (clE m_Tape_refuseAt [(cE 0), (thE (cE 0) (gE 70)), (vE 1)])) (9, [(0, 3), (1, 0)]) B C := fs_callV (t := 0) (fa_cons (fe_aloadn 0 rfl dX9_refuse_0) (fa_cons (fe_getI (fe_aloadn 0 rfl dX9_refuse_1) fl_RX9_34 lx_1 rfl dX9_refuse_2) (fa_cons (fe_iloadn 1 rfl dX9_refuse_5) fa_nil))) C_Tape_refuseAt lv_RX9_114 lx_1 rfl rfl (by decide) (by decide) dX9_refuse_6 rfl
set_option maxRecDepth 20000 in
theorem t_Tape_refuse_1 {N B C : Nat × FT} : fw_S s_Tape_refuse [(0, 3), (1, 0)] 9 rvS N B C := fs_rv dX9_refuse_9
set_option maxRecDepth 20000 in
theorem C_Tape_refuse : fw_C LX yX9_refuse cX9_refuse 2 none 2 [3, 0] (none) m_Tape_refuse := fm_v (d := 2) (N := (0, [])) (B := (0, [])) (C := (0, [])) LX_ok (by decide +kernel) (show fw_S s_Tape_refuse _ 0 b_Tape_refuse _ _ _ from (fs_seq t_Tape_refuse_0 t_Tape_refuse_1)) (by decide)
/-! DyerBells$Tape.isRiverWord (this 1 tape) -/
abbrev s_Tape_isRiverWord : SI := (LX, RX9, cX9_isRiverWord, 1, 1, some 0)
set_option maxRecDepth 20000 in
theorem t_Tape_isRiverWord_0 {N B C : Nat × FT} : fw_S s_Tape_isRiverWord [(0, 3)] 0 (rtS (kE (orB (orB (orB (orB (orB (orB (zB 0 (o2 cmpL (thE (cE 0) (gE 73)) (cE 491327153000))) (zB 0 (o2 cmpL (thE (cE 0) (gE 73)) (cE 109330211763570)))) (zB 0 (o2 cmpL (thE (cE 0) (gE 73)) (cE 444351474788)))) (zB 0 (o2 cmpL (thE (cE 0) (gE 73)) (cE 1970496882)))) (zB 0 (o2 cmpL (thE (cE 0) (gE 73)) (cE 1718382455)))) (zB 0 (o2 cmpL (thE (cE 0) (gE 73)) (cE 439905906532)))) (nB (zB 1 (o2 cmpL (thE (cE 0) (gE 73)) (cE 123580744625253))))) (cE 1) (cE 0))) N B C := fs_ret (fe_ternG (fb_or (fb_or (fb_or (fb_or (fb_or (fb_or (fb_if_eq (fe_lcmp (fe_getL (fe_aloadn 0 rfl dX9_isRiverWord_0) fl_RX9_60 lx_1 rfl dX9_isRiverWord_1) (fe_ldc2 dX9_isRiverWord_4 wk_RX9_76) dX9_isRiverWord_7) dX9_isRiverWord_8 rfl) (fb_if_eq (fe_lcmp (fe_getL (fe_aloadn 0 rfl dX9_isRiverWord_11) fl_RX9_60 lx_1 rfl dX9_isRiverWord_12) (fe_ldc2 dX9_isRiverWord_15 wk_RX9_78) dX9_isRiverWord_18) dX9_isRiverWord_19 rfl)) (fb_if_eq (fe_lcmp (fe_getL (fe_aloadn 0 rfl dX9_isRiverWord_22) fl_RX9_60 lx_1 rfl dX9_isRiverWord_23) (fe_ldc2 dX9_isRiverWord_26 wk_RX9_80) dX9_isRiverWord_29) dX9_isRiverWord_30 rfl)) (fb_if_eq (fe_lcmp (fe_getL (fe_aloadn 0 rfl dX9_isRiverWord_33) fl_RX9_60 lx_1 rfl dX9_isRiverWord_34) (fe_ldc2 dX9_isRiverWord_37 wk_RX9_82) dX9_isRiverWord_40) dX9_isRiverWord_41 rfl)) (fb_if_eq (fe_lcmp (fe_getL (fe_aloadn 0 rfl dX9_isRiverWord_44) fl_RX9_60 lx_1 rfl dX9_isRiverWord_45) (fe_ldc2 dX9_isRiverWord_48 wk_RX9_84) dX9_isRiverWord_51) dX9_isRiverWord_52 rfl)) (fb_if_eq (fe_lcmp (fe_getL (fe_aloadn 0 rfl dX9_isRiverWord_55) fl_RX9_60 lx_1 rfl dX9_isRiverWord_56) (fe_ldc2 dX9_isRiverWord_59 wk_RX9_86) dX9_isRiverWord_62) dX9_isRiverWord_63 rfl)) (fb_not (fb_if_ne (fe_lcmp (fe_getL (fe_aloadn 0 rfl dX9_isRiverWord_66) fl_RX9_60 lx_1 rfl dX9_isRiverWord_67) (fe_ldc2 dX9_isRiverWord_70 wk_RX9_88) dX9_isRiverWord_73) dX9_isRiverWord_74 rfl))) (fe_gt (fe_iconst dX9_isRiverWord_77) dX9_isRiverWord_78 rfl) (fe_iconst dX9_isRiverWord_81)) dX9_isRiverWord_82
set_option maxRecDepth 20000 in
theorem C_Tape_isRiverWord : fw_C LX yX9_isRiverWord cX9_isRiverWord 1 (some .boolean) 1 [3] (some 0) m_Tape_isRiverWord := fm_z (d := 1) (N := (0, [])) (B := (0, [])) (C := (0, [])) LX_ok (by decide +kernel) (show fw_S s_Tape_isRiverWord _ 0 b_Tape_isRiverWord _ _ _ from t_Tape_isRiverWord_0) (by decide)
/-! DyerBells$Tape.isSentenceWord (this 1 tape) -/
abbrev s_Tape_isSentenceWord : SI := (LX, RX9, cX9_isSentenceWord, 1, 1, some 0)
set_option maxRecDepth 20000 in
theorem t_Tape_isSentenceWord_0 {N B C : Nat × FT} : fw_S s_Tape_isSentenceWord [(0, 3)] 0 (rtS (kE (orB (orB (orB (orB (orB (orB (orB (orB (zB 0 (o2 cmpL (thE (cE 0) (gE 73)) (cE 28530))) (zB 0 (o2 cmpL (thE (cE 0) (gE 73)) (cE 6385252)))) (zB 0 (o2 cmpL (thE (cE 0) (gE 73)) (cE 7237492)))) (zB 0 (o2 cmpL (thE (cE 0) (gE 73)) (cE 512970877811)))) (zB 0 (o2 cmpL (thE (cE 0) (gE 73)) (cE 114767740888420)))) (zB 0 (o2 cmpL (thE (cE 0) (gE 73)) (cE 495672452197)))) (zB 0 (o2 cmpL (thE (cE 0) (gE 73)) (cE 1752135026)))) (zB 0 (o2 cmpL (thE (cE 0) (gE 73)) (cE 6578553)))) (nB (zB 1 (o2 cmpL (thE (cE 0) (gE 73)) (cE 123563851081060))))) (cE 1) (cE 0))) N B C := fs_ret (fe_ternG (fb_or (fb_or (fb_or (fb_or (fb_or (fb_or (fb_or (fb_or (fb_if_eq (fe_lcmp (fe_getL (fe_aloadn 0 rfl dX9_isSentenceWord_0) fl_RX9_60 lx_1 rfl dX9_isSentenceWord_1) (fe_ldc2 dX9_isSentenceWord_4 wk_RX9_90) dX9_isSentenceWord_7) dX9_isSentenceWord_8 rfl) (fb_if_eq (fe_lcmp (fe_getL (fe_aloadn 0 rfl dX9_isSentenceWord_11) fl_RX9_60 lx_1 rfl dX9_isSentenceWord_12) (fe_ldc2 dX9_isSentenceWord_15 wk_RX9_92) dX9_isSentenceWord_18) dX9_isSentenceWord_19 rfl)) (fb_if_eq (fe_lcmp (fe_getL (fe_aloadn 0 rfl dX9_isSentenceWord_22) fl_RX9_60 lx_1 rfl dX9_isSentenceWord_23) (fe_ldc2 dX9_isSentenceWord_26 wk_RX9_94) dX9_isSentenceWord_29) dX9_isSentenceWord_30 rfl)) (fb_if_eq (fe_lcmp (fe_getL (fe_aloadn 0 rfl dX9_isSentenceWord_33) fl_RX9_60 lx_1 rfl dX9_isSentenceWord_34) (fe_ldc2 dX9_isSentenceWord_37 wk_RX9_96) dX9_isSentenceWord_40) dX9_isSentenceWord_41 rfl)) (fb_if_eq (fe_lcmp (fe_getL (fe_aloadn 0 rfl dX9_isSentenceWord_44) fl_RX9_60 lx_1 rfl dX9_isSentenceWord_45) (fe_ldc2 dX9_isSentenceWord_48 wk_RX9_98) dX9_isSentenceWord_51) dX9_isSentenceWord_52 rfl)) (fb_if_eq (fe_lcmp (fe_getL (fe_aloadn 0 rfl dX9_isSentenceWord_55) fl_RX9_60 lx_1 rfl dX9_isSentenceWord_56) (fe_ldc2 dX9_isSentenceWord_59 wk_RX9_100) dX9_isSentenceWord_62) dX9_isSentenceWord_63 rfl)) (fb_if_eq (fe_lcmp (fe_getL (fe_aloadn 0 rfl dX9_isSentenceWord_66) fl_RX9_60 lx_1 rfl dX9_isSentenceWord_67) (fe_ldc2 dX9_isSentenceWord_70 wk_RX9_102) dX9_isSentenceWord_73) dX9_isSentenceWord_74 rfl)) (fb_if_eq (fe_lcmp (fe_getL (fe_aloadn 0 rfl dX9_isSentenceWord_77) fl_RX9_60 lx_1 rfl dX9_isSentenceWord_78) (fe_ldc2 dX9_isSentenceWord_81 wk_RX9_104) dX9_isSentenceWord_84) dX9_isSentenceWord_85 rfl)) (fb_not (fb_if_ne (fe_lcmp (fe_getL (fe_aloadn 0 rfl dX9_isSentenceWord_88) fl_RX9_60 lx_1 rfl dX9_isSentenceWord_89) (fe_ldc2 dX9_isSentenceWord_92 wk_RX9_106) dX9_isSentenceWord_95) dX9_isSentenceWord_96 rfl))) (fe_gt (fe_iconst dX9_isSentenceWord_99) dX9_isSentenceWord_100 rfl) (fe_iconst dX9_isSentenceWord_103)) dX9_isSentenceWord_104
set_option maxRecDepth 20000 in
theorem C_Tape_isSentenceWord : fw_C LX yX9_isSentenceWord cX9_isSentenceWord 1 (some .boolean) 1 [3] (some 0) m_Tape_isSentenceWord := fm_z (d := 1) (N := (0, [])) (B := (0, [])) (C := (0, [])) LX_ok (by decide +kernel) (show fw_S s_Tape_isSentenceWord _ 0 b_Tape_isSentenceWord _ _ _ from t_Tape_isSentenceWord_0) (by decide)
/-! DyerBells$Tape.isName (this 1 tape) -/
abbrev s_Tape_isName : SI := (LX, RX9, cX9_isName, 1, 2, some 0)
set_option maxRecDepth 20000 in
theorem t_Tape_isName_0 {N B C : Nat × FT} : fw_S s_Tape_isName [(0, 3)] 0 (rtS (kE (andB (andB (andB (nB (cB 1 (thE (cE 0) (gE 69)) (cE 1))) (nB (zB 1 (clE m_Tape_isRiverWord [(cE 0)])))) (nB (zB 0 (o2 cmpL (thE (cE 0) (gE 73)) (cE 1650814060))))) (nB (zB 1 (clE m_Tape_isSentenceWord [(cE 0)])))) (cE 1) (cE 0))) N B C := fs_ret (fe_ternG (fb_and (fb_and (fb_and (fb_not (fb_icmp_ne (fe_getI (fe_aloadn 0 rfl dX9_isName_0) fl_RX9_49 lx_1 rfl dX9_isName_1) (fe_iconst dX9_isName_4) dX9_isName_5 rfl)) (fb_not (fb_if_ne (fe_callV (fa_cons (fe_aloadn 0 rfl dX9_isName_8) fa_nil) C_Tape_isRiverWord lv_RX9_67 lx_1 rfl rfl (by decide) (by decide) (by decide) dX9_isName_9) dX9_isName_12 rfl))) (fb_not (fb_if_eq (fe_lcmp (fe_getL (fe_aloadn 0 rfl dX9_isName_15) fl_RX9_60 lx_1 rfl dX9_isName_16) (fe_ldc2 dX9_isName_19 wk_RX9_71) dX9_isName_22) dX9_isName_23 rfl))) (fb_not (fb_if_ne (fe_callV (fa_cons (fe_aloadn 0 rfl dX9_isName_26) fa_nil) C_Tape_isSentenceWord lv_RX9_73 lx_1 rfl rfl (by decide) (by decide) (by decide) dX9_isName_27) dX9_isName_30 rfl))) (fe_gt (fe_iconst dX9_isName_33) dX9_isName_34 rfl) (fe_iconst dX9_isName_37)) dX9_isName_38
set_option maxRecDepth 20000 in
theorem C_Tape_isName : fw_C LX yX9_isName cX9_isName 1 (some .boolean) 2 [3] (some 0) m_Tape_isName := fm_z (d := 2) (N := (0, [])) (B := (0, [])) (C := (0, [])) LX_ok (by decide +kernel) (show fw_S s_Tape_isName _ 0 b_Tape_isName _ _ _ from t_Tape_isName_0) (by decide)
/-! DyerBells$Names.find (this 38 draft.river.names) -/
abbrev s_Names_find : SI := (LX, RX0, cX0_find, 4, 1, some 0)
set_option maxRecDepth 20000 in
theorem t_Names_find_0 {B C : Nat × FT} : fw_S s_Names_find [(0, 40), (1, 1)] 0 (stS 3 (cE 0)) (2, [(0, 40), (1, 1), (3, 0)]) B C := fs_istn (fe_iconst dX0_find_0) dX0_find_1 (by decide) rfl
set_option maxRecDepth 20000 in
theorem t_Names_find_1 : fw_B s_Names_find [(0, 40), (1, 1), (3, 0)] 0 2 10 29 (nB (cB 3 (vE 3) (thE (cE 0) (gE 2432)))) := (fb_not (fb_icmp_ge (fe_iloadn 2 rfl dX0_find_2) (fe_getI (fe_aloadn 0 rfl dX0_find_3) fl_RX0_22 lx_38 rfl dX0_find_4) dX0_find_7 rfl))
set_option maxRecDepth 20000 in
theorem t_Names_find_2 : fw_B s_Names_find [(0, 40), (1, 1), (3, 0)] 0 10 21 23 (nB (zB 1 (o2 cmpL (ldE 2496 26 (thE (cE 0) (cE 0)) (vE 3)) (vE 1)))) := (fb_not (fb_if_ne (fe_lcmp (fe_lald (fe_getR (fe_aloadn 0 rfl dX0_find_10) fl_RX0_11 lx_38 rfl dX0_find_11) (fe_iloadn 2 rfl dX0_find_14) lx_39 dX0_find_15) (fe_lloadn 1 rfl dX0_find_16) dX0_find_17) dX0_find_18 rfl))
set_option maxRecDepth 20000 in
theorem t_Names_find_3 {N B C : Nat × FT} : fw_S s_Names_find [(0, 40), (1, 1), (3, 0)] 21 (rtS (vE 3)) N B C := fs_ret (fe_iloadn 2 rfl dX0_find_21) dX0_find_22
set_option maxRecDepth 20000 in
theorem t_Names_find_4 {B C : Nat × FT} : fw_S s_Names_find [(0, 40), (1, 1), (3, 0)] 23 (inS 3 1) (26, [(0, 40), (1, 1), (3, 0)]) B C := fs_inc (j := 2) rfl dX0_find_23 (by decide) rfl
set_option maxRecDepth 20000 in
theorem t_Names_find_5 {B C : Nat × FT} : fw_S s_Names_find [(0, 40), (1, 1), (3, 0)] 2 (whS (nB (cB 3 (vE 3) (thE (cE 0) (gE 2432)))) (ifS (nB (zB 1 (o2 cmpL (ldE 2496 26 (thE (cE 0) (cE 0)) (vE 3)) (vE 1)))) (rtS (vE 3)) skS) (inS 3 1) FU) (29, [(0, 40), (1, 1), (3, 0)]) B C := fs_while t_Names_find_1 (fs_if t_Names_find_2 t_Names_find_3 (fs_skip rfl)) (fs_goto t_Names_find_4 dX0_find_26 rfl)
set_option maxRecDepth 20000 in
theorem t_Names_find_6 {N B C : Nat × FT} : fw_S s_Names_find [(0, 40), (1, 1)] 29 (rtS (cE (-1))) N B C := fs_ret (fe_iconst dX0_find_29) dX0_find_30
set_option maxRecDepth 20000 in
theorem C_Names_find : fw_C LX yX0_find cX0_find 4 (some .int) 1 [40, 1] (some 0) m_Names_find := fm_i (d := 1) (N := (0, [])) (B := (0, [])) (C := (0, [])) LX_ok (by decide +kernel) (show fw_S s_Names_find _ 0 b_Names_find _ _ _ from (fs_seq (fs_seq t_Names_find_0 (fs_weak t_Names_find_5 rfl)) t_Names_find_6)) (by decide)
/-! DyerBells$Names.takeNew (this 38 draft.river.names) -/
abbrev s_Names_takeNew : SI := (LX, RX0, cX0_takeNew, 4, 3, none)
set_option maxRecDepth 20000 in
theorem t_Names_takeNew_0 : fw_B s_Names_takeNew [(0, 40), (1, 3), (2, 0), (3, 0)] 0 0 7 15 (nB (zB 1 (clE m_Tape_isName [(cE 0)]))) := (fb_not (fb_if_ne (fe_callV (fa_cons (fe_aloadn 1 rfl dX0_takeNew_0) fa_nil) C_Tape_isName lv_RX0_32 lx_1 rfl rfl (by decide) (by decide) (by decide) dX0_takeNew_1) dX0_takeNew_4 rfl))
set_option maxRecDepth 20000 in
theorem t_Names_takeNew_1 {B C : Nat × FT} : fw_S s_Names_takeNew [(0, 40), (1, 3), (2, 0), (3, 0)] 7 (exS (clE m_Tape_refuse [(cE 0), (cE 1)])) (12, [(0, 40), (1, 3), (2, 0), (3, 0)]) B C := fs_callV (t := 0) (fa_cons (fe_aloadn 1 rfl dX0_takeNew_7) (fa_cons (fe_iconst dX0_takeNew_8) fa_nil)) C_Tape_refuse lv_RX0_38 lx_1 rfl rfl (by decide) (by decide) dX0_takeNew_9 rfl
set_option maxRecDepth 20000 in
theorem t_Names_takeNew_2 : fw_B s_Names_takeNew [(0, 40), (1, 3), (2, 0), (3, 0)] 0 15 36 44 (orB (cB 1 (clE m_Names_find [(cE 0), (thE (cE 0) (gE 73))]) (cE (-1))) (nB (cB 2 (thE (cE 0) (gE 2432)) (cE 26)))) := (fb_or (fb_icmp_ne (fe_callV (fa_cons (fe_aloadn 0 rfl dX0_takeNew_15) (fa_cons (fe_getL (fe_aloadn 1 rfl dX0_takeNew_16) fl_RX0_42 lx_1 rfl dX0_takeNew_17) fa_nil)) C_Names_find lv_RX0_45 lx_38 rfl rfl (by decide) (by decide) (by decide) dX0_takeNew_20) (fe_iconst dX0_takeNew_23) dX0_takeNew_24 rfl) (fb_not (fb_icmp_lt (fe_getI (fe_aloadn 0 rfl dX0_takeNew_27) fl_RX0_22 lx_38 rfl dX0_takeNew_28) (fe_bipush dX0_takeNew_31) dX0_takeNew_33 rfl)))
set_option maxRecDepth 20000 in
theorem t_Names_takeNew_3 {B C : Nat × FT} : fw_S s_Names_takeNew [(0, 40), (1, 3), (2, 0), (3, 0)] 36 (exS (clE m_Tape_refuse [(cE 0), (cE 3)])) (41, [(0, 40), (1, 3), (2, 0), (3, 0)]) B C := fs_callV (t := 0) (fa_cons (fe_aloadn 1 rfl dX0_takeNew_36) (fa_cons (fe_iconst dX0_takeNew_37) fa_nil)) C_Tape_refuse lv_RX0_38 lx_1 rfl rfl (by decide) (by decide) dX0_takeNew_38 rfl
set_option maxRecDepth 20000 in
theorem t_Names_takeNew_4 {B C : Nat × FT} : fw_S s_Names_takeNew [(0, 40), (1, 3), (2, 0), (3, 0)] 44 (asS 2496 26 idI (thE (cE 0) (cE 0)) (thE (cE 0) (gE 2432)) (thE (cE 0) (gE 73))) (57, [(0, 40), (1, 3), (2, 0), (3, 0)]) B C := fs_last (fe_getR (fe_aloadn 0 rfl dX0_takeNew_44) fl_RX0_11 lx_38 rfl dX0_takeNew_45) (fe_getI (fe_aloadn 0 rfl dX0_takeNew_48) fl_RX0_22 lx_38 rfl dX0_takeNew_49) (fe_getL (fe_aloadn 1 rfl dX0_takeNew_52) fl_RX0_42 lx_1 rfl dX0_takeNew_53) lx_39 dX0_takeNew_56 rfl
set_option maxRecDepth 20000 in
theorem t_Names_takeNew_5 {B C : Nat × FT} : fw_S s_Names_takeNew [(0, 40), (1, 3), (2, 0), (3, 0)] 57 (asS 2560 26 idI (thE (cE 0) (cE 0)) (thE (cE 0) (gE 2432)) (vE 2)) (67, [(0, 40), (1, 3), (2, 0), (3, 0)]) B C := fs_iast (fe_getR (fe_aloadn 0 rfl dX0_takeNew_57) fl_RX0_15 lx_38 rfl dX0_takeNew_58) (fe_getI (fe_aloadn 0 rfl dX0_takeNew_61) fl_RX0_22 lx_38 rfl dX0_takeNew_62) (fe_iloadn 2 rfl dX0_takeNew_65) lx_40 dX0_takeNew_66 rfl
set_option maxRecDepth 20000 in
theorem t_Names_takeNew_6 {B C : Nat × FT} : fw_S s_Names_takeNew [(0, 40), (1, 3), (2, 0), (3, 0)] 67 (asS 2624 26 idI (thE (cE 0) (cE 0)) (thE (cE 0) (gE 2432)) (vE 3)) (77, [(0, 40), (1, 3), (2, 0), (3, 0)]) B C := fs_iast (fe_getR (fe_aloadn 0 rfl dX0_takeNew_67) fl_RX0_19 lx_38 rfl dX0_takeNew_68) (fe_getI (fe_aloadn 0 rfl dX0_takeNew_71) fl_RX0_22 lx_38 rfl dX0_takeNew_72) (fe_iloadn 3 rfl dX0_takeNew_75) lx_41 dX0_takeNew_76 rfl
set_option maxRecDepth 20000 in
theorem t_Names_takeNew_7 {B C : Nat × FT} : fw_S s_Names_takeNew [(0, 40), (1, 3), (2, 0), (3, 0)] 77 (poS 2432 addI (cE 0) (cE 1)) (87, [(0, 40), (1, 3), (2, 0), (3, 0)]) B C := fs_po_add (fe_aloadn 0 rfl dX0_takeNew_77) dX0_takeNew_78 dX0_takeNew_79 (fe_iconst dX0_takeNew_82) dX0_takeNew_83 fp_RX0_22 lx_38 rfl dX0_takeNew_84 rfl
set_option maxRecDepth 20000 in
theorem t_Names_takeNew_8 {B C : Nat × FT} : fw_S s_Names_takeNew [(0, 40), (1, 3), (2, 0), (3, 0)] 87 (exS (clE m_Tape_advance [(cE 0)])) (91, [(0, 40), (1, 3), (2, 0), (3, 0)]) B C := fs_callV (t := 0) (fa_cons (fe_aloadn 1 rfl dX0_takeNew_87) fa_nil) C_Tape_advance lv_RX0_49 lx_1 rfl rfl (by decide) (by decide) dX0_takeNew_88 rfl
set_option maxRecDepth 20000 in
theorem t_Names_takeNew_9 {N B C : Nat × FT} : fw_S s_Names_takeNew [(0, 40), (1, 3), (2, 0), (3, 0)] 91 rvS N B C := fs_rv dX0_takeNew_91
set_option maxRecDepth 20000 in
theorem C_Names_takeNew : fw_C LX yX0_takeNew cX0_takeNew 4 none 3 [40, 3, 0, 0] (none) m_Names_takeNew := fm_v (d := 3) (N := (0, [])) (B := (0, [])) (C := (0, [])) LX_ok (by decide +kernel) (show fw_S s_Names_takeNew _ 0 b_Names_takeNew _ _ _ from (fs_seq (fs_if t_Names_takeNew_0 (fs_goto t_Names_takeNew_1 dX0_takeNew_12 rfl) (fs_if t_Names_takeNew_2 (fs_goto t_Names_takeNew_3 dX0_takeNew_41 rfl) (fs_seq t_Names_takeNew_4 (fs_seq t_Names_takeNew_5 (fs_seq t_Names_takeNew_6 (fs_seq t_Names_takeNew_7 t_Names_takeNew_8)))))) t_Names_takeNew_9)) (by decide)
/-! DyerBells$Tape.takeNumber (this 1 tape) -/
abbrev s_Tape_takeNumber : SI := (LX, RX9, cX9_takeNumber, 4, 3, some 0)
set_option maxRecDepth 20000 in
theorem t_Tape_takeNumber_0 : fw_B s_Tape_takeNumber [(0, 3), (1, 0), (2, 0)] 0 0 8 16 (nB (cB 0 (thE (cE 0) (gE 69)) (cE 2))) := (fb_not (fb_icmp_eq (fe_getI (fe_aloadn 0 rfl dX9_takeNumber_0) fl_RX9_49 lx_1 rfl dX9_takeNumber_1) (fe_iconst dX9_takeNumber_4) dX9_takeNumber_5 rfl))
set_option maxRecDepth 20000 in
theorem t_Tape_takeNumber_1 {B C : Nat × FT} : fw_S s_Tape_takeNumber [(0, 3), (1, 0), (2, 0)] 8 (exS (clE m_Tape_refuse [(cE 0), (cE 1)])) (13, [(0, 3), (1, 0), (2, 0)]) B C := fs_callV (t := 0) (fa_cons (fe_aloadn 0 rfl dX9_takeNumber_8) (fa_cons (fe_iconst dX9_takeNumber_9) fa_nil)) C_Tape_refuse lv_RX9_108 lx_1 rfl rfl (by decide) (by decide) dX9_takeNumber_10 rfl
set_option maxRecDepth 20000 in
theorem t_Tape_takeNumber_2 : fw_B s_Tape_takeNumber [(0, 3), (1, 0), (2, 0)] 0 16 32 37 (orB (cB 2 (thE (cE 0) (gE 72)) (vE 1)) (nB (cB 5 (thE (cE 0) (gE 72)) (vE 2)))) := (fb_or (fb_icmp_lt (fe_getI (fe_aloadn 0 rfl dX9_takeNumber_16) fl_RX9_64 lx_1 rfl dX9_takeNumber_17) (fe_iloadn 1 rfl dX9_takeNumber_20) dX9_takeNumber_21 rfl) (fb_not (fb_icmp_le (fe_getI (fe_aloadn 0 rfl dX9_takeNumber_24) fl_RX9_64 lx_1 rfl dX9_takeNumber_25) (fe_iloadn 2 rfl dX9_takeNumber_28) dX9_takeNumber_29 rfl)))
set_option maxRecDepth 20000 in
theorem t_Tape_takeNumber_3 {B C : Nat × FT} : fw_S s_Tape_takeNumber [(0, 3), (1, 0), (2, 0)] 32 (exS (clE m_Tape_refuse [(cE 0), (cE 2)])) (37, [(0, 3), (1, 0), (2, 0)]) B C := fs_callV (t := 0) (fa_cons (fe_aloadn 0 rfl dX9_takeNumber_32) (fa_cons (fe_iconst dX9_takeNumber_33) fa_nil)) C_Tape_refuse lv_RX9_108 lx_1 rfl rfl (by decide) (by decide) dX9_takeNumber_34 rfl
set_option maxRecDepth 20000 in
theorem t_Tape_takeNumber_4 {B C : Nat × FT} : fw_S s_Tape_takeNumber [(0, 3), (1, 0), (2, 0)] 37 (stS 3 (thE (cE 0) (gE 72))) (42, [(0, 3), (1, 0), (2, 0), (3, 0)]) B C := fs_istn (fe_getI (fe_aloadn 0 rfl dX9_takeNumber_37) fl_RX9_64 lx_1 rfl dX9_takeNumber_38) dX9_takeNumber_41 (by decide) rfl
set_option maxRecDepth 20000 in
theorem t_Tape_takeNumber_5 {B C : Nat × FT} : fw_S s_Tape_takeNumber [(0, 3), (1, 0), (2, 0), (3, 0)] 42 (exS (clE m_Tape_advance [(cE 0)])) (46, [(0, 3), (1, 0), (2, 0), (3, 0)]) B C := fs_callV (t := 0) (fa_cons (fe_aloadn 0 rfl dX9_takeNumber_42) fa_nil) C_Tape_advance lv_RX9_43 lx_1 rfl rfl (by decide) (by decide) dX9_takeNumber_43 rfl
set_option maxRecDepth 20000 in
theorem t_Tape_takeNumber_6 {N B C : Nat × FT} : fw_S s_Tape_takeNumber [(0, 3), (1, 0), (2, 0), (3, 0)] 46 (rtS (kE (nB (zB 1 (thE (cE 0) (gE 74)))) (vE 3) (cE 0))) N B C := fs_ret (fe_ternG (fb_not (fb_if_ne (fe_getI (fe_aloadn 0 rfl dX9_takeNumber_46) fl_RX9_37 lx_1 rfl dX9_takeNumber_47) dX9_takeNumber_50 rfl)) (fe_gt (fe_iloadn 3 rfl dX9_takeNumber_53) dX9_takeNumber_54 rfl) (fe_iconst dX9_takeNumber_57)) dX9_takeNumber_58
set_option maxRecDepth 20000 in
theorem C_Tape_takeNumber : fw_C LX yX9_takeNumber cX9_takeNumber 4 (some .int) 3 [3, 0, 0] (some 0) m_Tape_takeNumber := fm_i (d := 3) (N := (0, [])) (B := (0, [])) (C := (0, [])) LX_ok (by decide +kernel) (show fw_S s_Tape_takeNumber _ 0 b_Tape_takeNumber _ _ _ from (fs_seq (fs_if t_Tape_takeNumber_0 (fs_goto t_Tape_takeNumber_1 dX9_takeNumber_13 rfl) (fs_if t_Tape_takeNumber_2 t_Tape_takeNumber_3 (fs_skip rfl))) (fs_seq t_Tape_takeNumber_4 (fs_seq t_Tape_takeNumber_5 t_Tape_takeNumber_6)))) (by decide)
/-! DyerBells$RiverText.readReach -/
abbrev s_RiverText_readReach : SI := (LX, RX4, cX4_readReach, 3, 4, none)
set_option maxRecDepth 20000 in
theorem t_RiverText_readReach_0 {B C : Nat × FT} : fw_S s_RiverText_readReach [(0, 3), (1, 39)] 0 (stS 2 (thE (cE 0) (gE 2369))) (5, [(0, 3), (1, 39), (2, 0)]) B C := fs_istn (fe_getI (fe_aloadn 1 rfl dX4_readReach_0) fl_RX4_67 lx_37 rfl dX4_readReach_1) dX4_readReach_4 (by decide) rfl
set_option maxRecDepth 20000 in
theorem t_RiverText_readReach_1 : fw_B s_RiverText_readReach [(0, 3), (1, 39), (2, 0)] 0 5 11 17 (nB (cB 2 (vE 2) (cE 10))) := (fb_not (fb_icmp_lt (fe_iloadn 2 rfl dX4_readReach_5) (fe_bipush dX4_readReach_6) dX4_readReach_8 rfl))
set_option maxRecDepth 20000 in
theorem t_RiverText_readReach_2 {B C : Nat × FT} : fw_S s_RiverText_readReach [(0, 3), (1, 39), (2, 0)] 11 (exS (clE m_Tape_refuse [(cE 0), (cE 4)])) (16, [(0, 3), (1, 39), (2, 0)]) B C := fs_callV (t := 0) (fa_cons (fe_aloadn 0 rfl dX4_readReach_11) (fa_cons (fe_iconst dX4_readReach_12) fa_nil)) C_Tape_refuse lv_RX4_57 lx_1 rfl rfl (by decide) (by decide) dX4_readReach_13 rfl
set_option maxRecDepth 20000 in
theorem t_RiverText_readReach_3 {N B C : Nat × FT} : fw_S s_RiverText_readReach [(0, 3), (1, 39), (2, 0)] 16 rvS N B C := fs_rv dX4_readReach_16
set_option maxRecDepth 20000 in
theorem t_RiverText_readReach_4 {B C : Nat × FT} : fw_S s_RiverText_readReach [(0, 3), (1, 39), (2, 0)] 17 (exS (clE m_Tape_advance [(cE 0)])) (21, [(0, 3), (1, 39), (2, 0)]) B C := fs_callV (t := 0) (fa_cons (fe_aloadn 0 rfl dX4_readReach_17) fa_nil) C_Tape_advance lv_RX4_73 lx_1 rfl rfl (by decide) (by decide) dX4_readReach_18 rfl
set_option maxRecDepth 20000 in
theorem t_RiverText_readReach_5 {B C : Nat × FT} : fw_S s_RiverText_readReach [(0, 3), (1, 39), (2, 0)] 21 (exS (clE m_Names_takeNew [(thE (cE 0) (cE 0)), (cE 0), (cE 0), (vE 2)])) (31, [(0, 3), (1, 39), (2, 0)]) B C := fs_callV (t := 0) (fa_cons (fe_getR (fe_aloadn 1 rfl dX4_readReach_21) fl_RX4_76 lx_37 rfl dX4_readReach_22) (fa_cons (fe_aloadn 0 rfl dX4_readReach_25) (fa_cons (fe_iconst dX4_readReach_26) (fa_cons (fe_iloadn 2 rfl dX4_readReach_27) fa_nil)))) C_Names_takeNew lv_RX4_82 lx_38 rfl rfl (by decide) (by decide) dX4_readReach_28 rfl
set_option maxRecDepth 20000 in
theorem t_RiverText_readReach_6 {B C : Nat × FT} : fw_S s_RiverText_readReach [(0, 3), (1, 39), (2, 0)] 31 (asS 2688 10 idI (thE (cE 0) (cE 0)) (vE 2) (clE m_Tape_takeNumber [(cE 0), (cE 1), (cE 9999)])) (45, [(0, 3), (1, 39), (2, 0)]) B C := fs_iast (fe_getR (fe_aloadn 1 rfl dX4_readReach_31) fl_RX4_86 lx_37 rfl dX4_readReach_32) (fe_iloadn 2 rfl dX4_readReach_35) (fe_callV (fa_cons (fe_aloadn 0 rfl dX4_readReach_36) (fa_cons (fe_iconst dX4_readReach_37) (fa_cons (fe_sipush dX4_readReach_38) fa_nil))) C_Tape_takeNumber lv_RX4_90 lx_1 rfl rfl (by decide) (by decide) (by decide) dX4_readReach_41) lx_42 dX4_readReach_44 rfl
set_option maxRecDepth 20000 in
theorem t_RiverText_readReach_7 {B C : Nat × FT} : fw_S s_RiverText_readReach [(0, 3), (1, 39), (2, 0)] 45 (asS 2752 10 idI (thE (cE 0) (cE 0)) (vE 2) (clE m_Tape_takeNumber [(cE 0), (cE 0), (cE 500)])) (59, [(0, 3), (1, 39), (2, 0)]) B C := fs_iast (fe_getR (fe_aloadn 1 rfl dX4_readReach_45) fl_RX4_94 lx_37 rfl dX4_readReach_46) (fe_iloadn 2 rfl dX4_readReach_49) (fe_callV (fa_cons (fe_aloadn 0 rfl dX4_readReach_50) (fa_cons (fe_iconst dX4_readReach_51) (fa_cons (fe_sipush dX4_readReach_52) fa_nil))) C_Tape_takeNumber lv_RX4_90 lx_1 rfl rfl (by decide) (by decide) (by decide) dX4_readReach_55) lx_43 dX4_readReach_58 rfl
set_option maxRecDepth 20000 in
theorem t_RiverText_readReach_8 {B C : Nat × FT} : fw_S s_RiverText_readReach [(0, 3), (1, 39), (2, 0)] 59 (pfS 2369 (cE 0) (o2 addI (vE 2) (cE 1))) (66, [(0, 3), (1, 39), (2, 0)]) B C := fs_put (fe_aloadn 1 rfl dX4_readReach_59) (fe_iadd (fe_iloadn 2 rfl dX4_readReach_60) (fe_iconst dX4_readReach_61) dX4_readReach_62) fp_RX4_67 lx_37 rfl dX4_readReach_63 rfl
set_option maxRecDepth 20000 in
theorem t_RiverText_readReach_9 {N B C : Nat × FT} : fw_S s_RiverText_readReach [(0, 3), (1, 39), (2, 0)] 66 rvS N B C := fs_rv dX4_readReach_66
set_option maxRecDepth 20000 in
theorem C_RiverText_readReach : fw_C LX yX4_readReach cX4_readReach 3 none 4 [3, 39] (none) m_RiverText_readReach := fm_v (d := 4) (N := (0, [])) (B := (0, [])) (C := (0, [])) LX_ok (by decide +kernel) (show fw_S s_RiverText_readReach _ 0 b_RiverText_readReach _ _ _ from (fs_seq t_RiverText_readReach_0 (fs_seq (fs_if t_RiverText_readReach_1 (fs_seq t_RiverText_readReach_2 t_RiverText_readReach_3) (fs_skip rfl)) (fs_seq t_RiverText_readReach_4 (fs_seq t_RiverText_readReach_5 (fs_seq t_RiverText_readReach_6 (fs_seq t_RiverText_readReach_7 (fs_seq t_RiverText_readReach_8 t_RiverText_readReach_9)))))))) (by decide)
/-! DyerBells$RiverText.readColour -/
abbrev s_RiverText_readColour : SI := (LX, RX4, cX4_readColour, 3, 4, none)
set_option maxRecDepth 20000 in
theorem t_RiverText_readColour_0 {B C : Nat × FT} : fw_S s_RiverText_readColour [(0, 3), (1, 39)] 0 (stS 2 (thE (cE 0) (gE 2372))) (5, [(0, 3), (1, 39), (2, 0)]) B C := fs_istn (fe_getI (fe_aloadn 1 rfl dX4_readColour_0) fl_RX4_97 lx_37 rfl dX4_readColour_1) dX4_readColour_4 (by decide) rfl
set_option maxRecDepth 20000 in
theorem t_RiverText_readColour_1 : fw_B s_RiverText_readColour [(0, 3), (1, 39), (2, 0)] 0 5 10 16 (nB (cB 2 (vE 2) (cE 4))) := (fb_not (fb_icmp_lt (fe_iloadn 2 rfl dX4_readColour_5) (fe_iconst dX4_readColour_6) dX4_readColour_7 rfl))
set_option maxRecDepth 20000 in
theorem t_RiverText_readColour_2 {B C : Nat × FT} : fw_S s_RiverText_readColour [(0, 3), (1, 39), (2, 0)] 10 (exS (clE m_Tape_refuse [(cE 0), (cE 4)])) (15, [(0, 3), (1, 39), (2, 0)]) B C := fs_callV (t := 0) (fa_cons (fe_aloadn 0 rfl dX4_readColour_10) (fa_cons (fe_iconst dX4_readColour_11) fa_nil)) C_Tape_refuse lv_RX4_57 lx_1 rfl rfl (by decide) (by decide) dX4_readColour_12 rfl
set_option maxRecDepth 20000 in
theorem t_RiverText_readColour_3 {N B C : Nat × FT} : fw_S s_RiverText_readColour [(0, 3), (1, 39), (2, 0)] 15 rvS N B C := fs_rv dX4_readColour_15
set_option maxRecDepth 20000 in
theorem t_RiverText_readColour_4 {B C : Nat × FT} : fw_S s_RiverText_readColour [(0, 3), (1, 39), (2, 0)] 16 (exS (clE m_Tape_advance [(cE 0)])) (20, [(0, 3), (1, 39), (2, 0)]) B C := fs_callV (t := 0) (fa_cons (fe_aloadn 0 rfl dX4_readColour_16) fa_nil) C_Tape_advance lv_RX4_73 lx_1 rfl rfl (by decide) (by decide) dX4_readColour_17 rfl
set_option maxRecDepth 20000 in
theorem t_RiverText_readColour_5 {B C : Nat × FT} : fw_S s_RiverText_readColour [(0, 3), (1, 39), (2, 0)] 20 (exS (clE m_Names_takeNew [(thE (cE 0) (cE 0)), (cE 0), (cE 1), (vE 2)])) (30, [(0, 3), (1, 39), (2, 0)]) B C := fs_callV (t := 0) (fa_cons (fe_getR (fe_aloadn 1 rfl dX4_readColour_20) fl_RX4_76 lx_37 rfl dX4_readColour_21) (fa_cons (fe_aloadn 0 rfl dX4_readColour_24) (fa_cons (fe_iconst dX4_readColour_25) (fa_cons (fe_iloadn 2 rfl dX4_readColour_26) fa_nil)))) C_Names_takeNew lv_RX4_82 lx_38 rfl rfl (by decide) (by decide) dX4_readColour_27 rfl
set_option maxRecDepth 20000 in
theorem t_RiverText_readColour_6 {B C : Nat × FT} : fw_S s_RiverText_readColour [(0, 3), (1, 39), (2, 0)] 30 (pfS 2372 (cE 0) (o2 addI (vE 2) (cE 1))) (37, [(0, 3), (1, 39), (2, 0)]) B C := fs_put (fe_aloadn 1 rfl dX4_readColour_30) (fe_iadd (fe_iloadn 2 rfl dX4_readColour_31) (fe_iconst dX4_readColour_32) dX4_readColour_33) fp_RX4_97 lx_37 rfl dX4_readColour_34 rfl
set_option maxRecDepth 20000 in
theorem t_RiverText_readColour_7 {N B C : Nat × FT} : fw_S s_RiverText_readColour [(0, 3), (1, 39), (2, 0)] 37 rvS N B C := fs_rv dX4_readColour_37
set_option maxRecDepth 20000 in
theorem C_RiverText_readColour : fw_C LX yX4_readColour cX4_readColour 3 none 4 [3, 39] (none) m_RiverText_readColour := fm_v (d := 4) (N := (0, [])) (B := (0, [])) (C := (0, [])) LX_ok (by decide +kernel) (show fw_S s_RiverText_readColour _ 0 b_RiverText_readColour _ _ _ from (fs_seq t_RiverText_readColour_0 (fs_seq (fs_if t_RiverText_readColour_1 (fs_seq t_RiverText_readColour_2 t_RiverText_readColour_3) (fs_skip rfl)) (fs_seq t_RiverText_readColour_4 (fs_seq t_RiverText_readColour_5 (fs_seq t_RiverText_readColour_6 t_RiverText_readColour_7)))))) (by decide)
/-! DyerBells$Names.takeTold (this 38 draft.river.names) -/
abbrev s_Names_takeTold : SI := (LX, RX0, cX0_takeTold, 4, 3, some 0)
set_option maxRecDepth 20000 in
theorem t_Names_takeTold_0 : fw_B s_Names_takeTold [(0, 40), (1, 3), (2, 0)] 0 0 7 14 (nB (zB 1 (clE m_Tape_isName [(cE 0)]))) := (fb_not (fb_if_ne (fe_callV (fa_cons (fe_aloadn 1 rfl dX0_takeTold_0) fa_nil) C_Tape_isName lv_RX0_32 lx_1 rfl rfl (by decide) (by decide) (by decide) dX0_takeTold_1) dX0_takeTold_4 rfl))
set_option maxRecDepth 20000 in
theorem t_Names_takeTold_1 {B C : Nat × FT} : fw_S s_Names_takeTold [(0, 40), (1, 3), (2, 0)] 7 (exS (clE m_Tape_refuse [(cE 0), (cE 1)])) (12, [(0, 40), (1, 3), (2, 0)]) B C := fs_callV (t := 0) (fa_cons (fe_aloadn 1 rfl dX0_takeTold_7) (fa_cons (fe_iconst dX0_takeTold_8) fa_nil)) C_Tape_refuse lv_RX0_38 lx_1 rfl rfl (by decide) (by decide) dX0_takeTold_9 rfl
set_option maxRecDepth 20000 in
theorem t_Names_takeTold_2 {N B C : Nat × FT} : fw_S s_Names_takeTold [(0, 40), (1, 3), (2, 0)] 12 (rtS (cE (-1))) N B C := fs_ret (fe_iconst dX0_takeTold_12) dX0_takeTold_13
set_option maxRecDepth 20000 in
theorem t_Names_takeTold_3 {B C : Nat × FT} : fw_S s_Names_takeTold [(0, 40), (1, 3), (2, 0)] 14 (stS 3 (clE m_Names_find [(cE 0), (thE (cE 0) (gE 73))])) (23, [(0, 40), (1, 3), (2, 0), (3, 0)]) B C := fs_istn (fe_callV (fa_cons (fe_aloadn 0 rfl dX0_takeTold_14) (fa_cons (fe_getL (fe_aloadn 1 rfl dX0_takeTold_15) fl_RX0_42 lx_1 rfl dX0_takeTold_16) fa_nil)) C_Names_find lv_RX0_45 lx_38 rfl rfl (by decide) (by decide) (by decide) dX0_takeTold_19) dX0_takeTold_22 (by decide) rfl
set_option maxRecDepth 20000 in
theorem t_Names_takeTold_4 : fw_B s_Names_takeTold [(0, 40), (1, 3), (2, 0), (3, 0)] 0 23 38 45 (orB (cB 0 (vE 3) (cE (-1))) (nB (cB 0 (ldE 2560 26 (thE (cE 0) (cE 0)) (vE 3)) (vE 2)))) := (fb_or (fb_icmp_eq (fe_iloadn 3 rfl dX0_takeTold_23) (fe_iconst dX0_takeTold_24) dX0_takeTold_25 rfl) (fb_not (fb_icmp_eq (fe_iald (fe_getR (fe_aloadn 0 rfl dX0_takeTold_28) fl_RX0_15 lx_38 rfl dX0_takeTold_29) (fe_iloadn 3 rfl dX0_takeTold_32) lx_40 dX0_takeTold_33) (fe_iloadn 2 rfl dX0_takeTold_34) dX0_takeTold_35 rfl)))
set_option maxRecDepth 20000 in
theorem t_Names_takeTold_5 {B C : Nat × FT} : fw_S s_Names_takeTold [(0, 40), (1, 3), (2, 0), (3, 0)] 38 (exS (clE m_Tape_refuse [(cE 0), (cE 3)])) (43, [(0, 40), (1, 3), (2, 0), (3, 0)]) B C := fs_callV (t := 0) (fa_cons (fe_aloadn 1 rfl dX0_takeTold_38) (fa_cons (fe_iconst dX0_takeTold_39) fa_nil)) C_Tape_refuse lv_RX0_38 lx_1 rfl rfl (by decide) (by decide) dX0_takeTold_40 rfl
set_option maxRecDepth 20000 in
theorem t_Names_takeTold_6 {N B C : Nat × FT} : fw_S s_Names_takeTold [(0, 40), (1, 3), (2, 0), (3, 0)] 43 (rtS (cE (-1))) N B C := fs_ret (fe_iconst dX0_takeTold_43) dX0_takeTold_44
set_option maxRecDepth 20000 in
theorem t_Names_takeTold_7 {B C : Nat × FT} : fw_S s_Names_takeTold [(0, 40), (1, 3), (2, 0), (3, 0)] 45 (exS (clE m_Tape_advance [(cE 0)])) (49, [(0, 40), (1, 3), (2, 0), (3, 0)]) B C := fs_callV (t := 0) (fa_cons (fe_aloadn 1 rfl dX0_takeTold_45) fa_nil) C_Tape_advance lv_RX0_49 lx_1 rfl rfl (by decide) (by decide) dX0_takeTold_46 rfl
set_option maxRecDepth 20000 in
theorem t_Names_takeTold_8 {N B C : Nat × FT} : fw_S s_Names_takeTold [(0, 40), (1, 3), (2, 0), (3, 0)] 49 (rtS (kE (nB (zB 1 (thE (cE 0) (gE 74)))) (ldE 2624 26 (thE (cE 0) (cE 0)) (vE 3)) (cE (-1)))) N B C := fs_ret (fe_ternG (fb_not (fb_if_ne (fe_getI (fe_aloadn 1 rfl dX0_takeTold_49) fl_RX0_52 lx_1 rfl dX0_takeTold_50) dX0_takeTold_53 rfl)) (fe_gt (fe_iald (fe_getR (fe_aloadn 0 rfl dX0_takeTold_56) fl_RX0_19 lx_38 rfl dX0_takeTold_57) (fe_iloadn 3 rfl dX0_takeTold_60) lx_41 dX0_takeTold_61) dX0_takeTold_62 rfl) (fe_iconst dX0_takeTold_65)) dX0_takeTold_66
set_option maxRecDepth 20000 in
theorem C_Names_takeTold : fw_C LX yX0_takeTold cX0_takeTold 4 (some .int) 3 [40, 3, 0] (some 0) m_Names_takeTold := fm_i (d := 3) (N := (0, [])) (B := (0, [])) (C := (0, [])) LX_ok (by decide +kernel) (show fw_S s_Names_takeTold _ 0 b_Names_takeTold _ _ _ from (fs_seq (fs_if t_Names_takeTold_0 (fs_seq t_Names_takeTold_1 t_Names_takeTold_2) (fs_skip rfl)) (fs_seq t_Names_takeTold_3 (fs_seq (fs_if t_Names_takeTold_4 (fs_seq t_Names_takeTold_5 t_Names_takeTold_6) (fs_skip rfl)) (fs_seq t_Names_takeTold_7 t_Names_takeTold_8))))) (by decide)
/-! DyerBells$Tape.isAtSign (this 1 tape) -/
abbrev s_Tape_isAtSign : SI := (LX, RX9, cX9_isAtSign, 2, 1, some 0)
set_option maxRecDepth 20000 in
theorem t_Tape_isAtSign_0 {N B C : Nat × FT} : fw_S s_Tape_isAtSign [(0, 3), (1, 0)] 0 (rtS (kE (andB (andB (nB (zB 1 (thE (cE 0) (gE 74)))) (nB (cB 1 (thE (cE 0) (gE 69)) (cE 3)))) (nB (cB 1 (thE (cE 0) (gE 72)) (vE 1)))) (cE 1) (cE 0))) N B C := fs_ret (fe_ternG (fb_and (fb_and (fb_not (fb_if_ne (fe_getI (fe_aloadn 0 rfl dX9_isAtSign_0) fl_RX9_37 lx_1 rfl dX9_isAtSign_1) dX9_isAtSign_4 rfl)) (fb_not (fb_icmp_ne (fe_getI (fe_aloadn 0 rfl dX9_isAtSign_7) fl_RX9_49 lx_1 rfl dX9_isAtSign_8) (fe_iconst dX9_isAtSign_11) dX9_isAtSign_12 rfl))) (fb_not (fb_icmp_ne (fe_getI (fe_aloadn 0 rfl dX9_isAtSign_15) fl_RX9_64 lx_1 rfl dX9_isAtSign_16) (fe_iloadn 1 rfl dX9_isAtSign_19) dX9_isAtSign_20 rfl))) (fe_gt (fe_iconst dX9_isAtSign_23) dX9_isAtSign_24 rfl) (fe_iconst dX9_isAtSign_27)) dX9_isAtSign_28
set_option maxRecDepth 20000 in
theorem C_Tape_isAtSign : fw_C LX yX9_isAtSign cX9_isAtSign 2 (some .boolean) 1 [3, 0] (some 0) m_Tape_isAtSign := fm_z (d := 1) (N := (0, [])) (B := (0, [])) (C := (0, [])) LX_ok (by decide +kernel) (show fw_S s_Tape_isAtSign _ 0 b_Tape_isAtSign _ _ _ from t_Tape_isAtSign_0) (by decide)
/-! DyerBells$Tape.refuseTaken (this 1 tape) -/
abbrev s_Tape_refuseTaken : SI := (LX, RX9, cX9_refuseTaken, 2, 2, none)
set_option maxRecDepth 20000 in
theorem t_Tape_refuseTaken_0 {B C : Nat × FT} : fw_S s_Tape_refuseTaken [(0, 3), (1, 0)] 0 (exS (clE m_Tape_refuseAt [(cE 0), (thE (cE 0) (gE 71)), (vE 1)])) (9, [(0, 3), (1, 0)]) B C := fs_callV (t := 0) (fa_cons (fe_aloadn 0 rfl dX9_refuseTaken_0) (fa_cons (fe_getI (fe_aloadn 0 rfl dX9_refuseTaken_1) fl_RX9_46 lx_1 rfl dX9_refuseTaken_2) (fa_cons (fe_iloadn 1 rfl dX9_refuseTaken_5) fa_nil))) C_Tape_refuseAt lv_RX9_114 lx_1 rfl rfl (by decide) (by decide) dX9_refuseTaken_6 rfl
set_option maxRecDepth 20000 in
theorem t_Tape_refuseTaken_1 {N B C : Nat × FT} : fw_S s_Tape_refuseTaken [(0, 3), (1, 0)] 9 rvS N B C := fs_rv dX9_refuseTaken_9
set_option maxRecDepth 20000 in
theorem C_Tape_refuseTaken : fw_C LX yX9_refuseTaken cX9_refuseTaken 2 none 2 [3, 0] (none) m_Tape_refuseTaken := fm_v (d := 2) (N := (0, [])) (B := (0, [])) (C := (0, [])) LX_ok (by decide +kernel) (show fw_S s_Tape_refuseTaken _ 0 b_Tape_refuseTaken _ _ _ from (fs_seq t_Tape_refuseTaken_0 t_Tape_refuseTaken_1)) (by decide)
/-! DyerBells$RiverText.readShares -/
abbrev s_RiverText_readShares : SI := (LX, RX4, cX4_readShares, 9, 4, none)
set_option maxRecDepth 20000 in
theorem t_RiverText_readShares_0 {B C : Nat × FT} : fw_S s_RiverText_readShares [(0, 3), (1, 40), (2, 48), (3, 0), (4, 0)] 0 (stS 5 (cE 0)) (3, [(0, 3), (1, 40), (2, 48), (3, 0), (4, 0), (5, 0)]) B C := fs_ist (fe_iconst dX4_readShares_0) dX4_readShares_1 (by decide) rfl
set_option maxRecDepth 20000 in
theorem t_RiverText_readShares_1 {B C : Nat × FT} : fw_S s_RiverText_readShares [(0, 3), (1, 40), (2, 48), (3, 0), (4, 0), (5, 0)] 3 (stS 6 (cE 0)) (6, [(0, 3), (1, 40), (2, 48), (3, 0), (4, 0), (5, 0), (6, 0)]) B C := fs_ist (fe_iconst dX4_readShares_3) dX4_readShares_4 (by decide) rfl
set_option maxRecDepth 20000 in
theorem t_RiverText_readShares_2 : fw_B s_RiverText_readShares [(0, 3), (1, 40), (2, 48), (3, 0), (4, 0), (5, 0), (6, 0)] 0 6 28 101 (andB (andB (nB (cB 4 (vE 6) (cE 4))) (nB (zB 1 (thE (cE 0) (gE 74))))) (nB (zB 1 (clE m_Tape_isAtSign [(cE 0), (cE 59)])))) := (fb_and (fb_and (fb_not (fb_icmp_gt (fe_iload 6 rfl dX4_readShares_6) (fe_iconst dX4_readShares_8) dX4_readShares_9 rfl)) (fb_not (fb_if_ne (fe_getI (fe_aloadn 0 rfl dX4_readShares_12) fl_RX4_139 lx_1 rfl dX4_readShares_13) dX4_readShares_16 rfl))) (fb_not (fb_if_ne (fe_callV (fa_cons (fe_aloadn 0 rfl dX4_readShares_19) (fa_cons (fe_bipush dX4_readShares_20) fa_nil)) C_Tape_isAtSign lv_RX4_113 lx_1 rfl rfl (by decide) (by decide) (by decide) dX4_readShares_22) dX4_readShares_25 rfl)))
set_option maxRecDepth 20000 in
theorem t_RiverText_readShares_3 {B C : Nat × FT} : fw_S s_RiverText_readShares [(0, 3), (1, 40), (2, 48), (3, 0), (4, 0), (5, 0), (6, 0)] 28 (stS 7 (clE m_Names_takeTold [(cE 0), (cE 0), (cE 1)])) (36, [(0, 3), (1, 40), (2, 48), (3, 0), (4, 0), (5, 0), (6, 0), (7, 0)]) B C := fs_ist (fe_callV (fa_cons (fe_aloadn 1 rfl dX4_readShares_28) (fa_cons (fe_aloadn 0 rfl dX4_readShares_29) (fa_cons (fe_iconst dX4_readShares_30) fa_nil))) C_Names_takeTold lv_RX4_106 lx_38 rfl rfl (by decide) (by decide) (by decide) dX4_readShares_31) dX4_readShares_34 (by decide) rfl
set_option maxRecDepth 20000 in
theorem t_RiverText_readShares_4 : fw_B s_RiverText_readShares [(0, 3), (1, 40), (2, 48), (3, 0), (4, 0), (5, 0), (6, 0), (7, 0)] 0 36 51 56 (andB (nB (zB 2 (vE 7))) (nB (zB 0 (o2 andI (o2 shrI (vE 5) (vE 7)) (cE 1))))) := (fb_and (fb_not (fb_if_lt (fe_iload 7 rfl dX4_readShares_36) dX4_readShares_38 rfl)) (fb_not (fb_if_eq (fe_iand (fe_ishr (fe_iload 5 rfl dX4_readShares_41) (fe_iload 7 rfl dX4_readShares_43) dX4_readShares_45) (fe_iconst dX4_readShares_46) dX4_readShares_47) dX4_readShares_48 rfl)))
set_option maxRecDepth 20000 in
theorem t_RiverText_readShares_5 {B C : Nat × FT} : fw_S s_RiverText_readShares [(0, 3), (1, 40), (2, 48), (3, 0), (4, 0), (5, 0), (6, 0), (7, 0)] 51 (exS (clE m_Tape_refuseTaken [(cE 0), (cE 3)])) (56, [(0, 3), (1, 40), (2, 48), (3, 0), (4, 0), (5, 0), (6, 0), (7, 0)]) B C := fs_callV (t := 0) (fa_cons (fe_aloadn 0 rfl dX4_readShares_51) (fa_cons (fe_iconst dX4_readShares_52) fa_nil)) C_Tape_refuseTaken lv_RX4_142 lx_1 rfl rfl (by decide) (by decide) dX4_readShares_53 rfl
set_option maxRecDepth 20000 in
theorem t_RiverText_readShares_6 {B C : Nat × FT} : fw_S s_RiverText_readShares [(0, 3), (1, 40), (2, 48), (3, 0), (4, 0), (5, 0), (6, 0), (7, 0)] 56 (stS 8 (clE m_Tape_takeNumber [(cE 0), (vE 4), (cE 9999)])) (67, [(0, 3), (1, 40), (2, 48), (3, 0), (4, 0), (5, 0), (6, 0), (7, 0), (8, 0)]) B C := fs_ist (fe_callV (fa_cons (fe_aloadn 0 rfl dX4_readShares_56) (fa_cons (fe_iload 4 rfl dX4_readShares_57) (fa_cons (fe_sipush dX4_readShares_59) fa_nil))) C_Tape_takeNumber lv_RX4_90 lx_1 rfl rfl (by decide) (by decide) (by decide) dX4_readShares_62) dX4_readShares_65 (by decide) rfl
set_option maxRecDepth 20000 in
theorem t_RiverText_readShares_7 : fw_B s_RiverText_readShares [(0, 3), (1, 40), (2, 48), (3, 0), (4, 0), (5, 0), (6, 0), (7, 0), (8, 0)] 0 67 78 95 (andB (nB (zB 2 (vE 7))) (nB (cB 3 (vE 7) (cE 4)))) := (fb_and (fb_not (fb_if_lt (fe_iload 7 rfl dX4_readShares_67) dX4_readShares_69 rfl)) (fb_not (fb_icmp_ge (fe_iload 7 rfl dX4_readShares_72) (fe_iconst dX4_readShares_74) dX4_readShares_75 rfl)))
set_option maxRecDepth 20000 in
theorem t_RiverText_readShares_8 {B C : Nat × FT} : fw_S s_RiverText_readShares [(0, 3), (1, 40), (2, 48), (3, 0), (4, 0), (5, 0), (6, 0), (7, 0), (8, 0)] 78 (asS 2944 24 idI (cE 0) (o2 addI (vE 3) (vE 7)) (vE 8)) (86, [(0, 3), (1, 40), (2, 48), (3, 0), (4, 0), (5, 0), (6, 0), (7, 0), (8, 0)]) B C := fs_iast (fe_aloadn 2 rfl dX4_readShares_78) (fe_iadd (fe_iloadn 3 rfl dX4_readShares_79) (fe_iload 7 rfl dX4_readShares_80) dX4_readShares_82) (fe_iload 8 rfl dX4_readShares_83) lx_46 dX4_readShares_85 rfl
set_option maxRecDepth 20000 in
theorem t_RiverText_readShares_9 {B C : Nat × FT} : fw_S s_RiverText_readShares [(0, 3), (1, 40), (2, 48), (3, 0), (4, 0), (5, 0), (6, 0), (7, 0), (8, 0)] 86 (stS 5 (o2 iorI (vE 5) (o2 shlI (cE 1) (vE 7)))) (95, [(0, 3), (1, 40), (2, 48), (3, 0), (4, 0), (5, 0), (6, 0)]) B C := fs_ist (fe_ior (fe_iload 5 rfl dX4_readShares_86) (fe_ishl (fe_iconst dX4_readShares_88) (fe_iload 7 rfl dX4_readShares_89) dX4_readShares_91) dX4_readShares_92) dX4_readShares_93 (by decide) rfl
set_option maxRecDepth 20000 in
theorem t_RiverText_readShares_10 {B C : Nat × FT} : fw_S s_RiverText_readShares [(0, 3), (1, 40), (2, 48), (3, 0), (4, 0), (5, 0), (6, 0)] 95 (inS 6 1) (98, [(0, 3), (1, 40), (2, 48), (3, 0), (4, 0), (5, 0), (6, 0)]) B C := fs_inc (j := 6) rfl dX4_readShares_95 (by decide) rfl
set_option maxRecDepth 20000 in
theorem t_RiverText_readShares_11 {B C : Nat × FT} : fw_S s_RiverText_readShares [(0, 3), (1, 40), (2, 48), (3, 0), (4, 0), (5, 0), (6, 0)] 6 (whS (andB (andB (nB (cB 4 (vE 6) (cE 4))) (nB (zB 1 (thE (cE 0) (gE 74))))) (nB (zB 1 (clE m_Tape_isAtSign [(cE 0), (cE 59)])))) (sq (stS 7 (clE m_Names_takeTold [(cE 0), (cE 0), (cE 1)])) (sq (ifS (andB (nB (zB 2 (vE 7))) (nB (zB 0 (o2 andI (o2 shrI (vE 5) (vE 7)) (cE 1))))) (exS (clE m_Tape_refuseTaken [(cE 0), (cE 3)])) skS) (sq (stS 8 (clE m_Tape_takeNumber [(cE 0), (vE 4), (cE 9999)])) (ifS (andB (nB (zB 2 (vE 7))) (nB (cB 3 (vE 7) (cE 4)))) (sq (asS 2944 24 idI (cE 0) (o2 addI (vE 3) (vE 7)) (vE 8)) (stS 5 (o2 iorI (vE 5) (o2 shlI (cE 1) (vE 7))))) skS)))) (inS 6 1) FU) (101, [(0, 3), (1, 40), (2, 48), (3, 0), (4, 0), (5, 0), (6, 0)]) B C := fs_while t_RiverText_readShares_2 (fs_seq t_RiverText_readShares_3 (fs_seq (fs_if t_RiverText_readShares_4 t_RiverText_readShares_5 (fs_skip rfl)) (fs_seq t_RiverText_readShares_6 (fs_if t_RiverText_readShares_7 (fs_seq t_RiverText_readShares_8 t_RiverText_readShares_9) (fs_skip rfl))))) (fs_goto t_RiverText_readShares_10 dX4_readShares_98 rfl)
set_option maxRecDepth 20000 in
theorem t_RiverText_readShares_12 {N B C : Nat × FT} : fw_S s_RiverText_readShares [(0, 3), (1, 40), (2, 48), (3, 0), (4, 0), (5, 0)] 101 rvS N B C := fs_rv dX4_readShares_101
set_option maxRecDepth 20000 in
theorem C_RiverText_readShares : fw_C LX yX4_readShares cX4_readShares 9 none 4 [3, 40, 48, 0, 0] (none) m_RiverText_readShares := fm_v (d := 4) (N := (0, [])) (B := (0, [])) (C := (0, [])) LX_ok (by decide +kernel) (show fw_S s_RiverText_readShares _ 0 b_RiverText_readShares _ _ _ from (fs_seq t_RiverText_readShares_0 (fs_seq (fs_seq t_RiverText_readShares_1 (fs_weak t_RiverText_readShares_11 rfl)) t_RiverText_readShares_12))) (by decide)
/-! DyerBells$RiverText.readGuild -/
abbrev s_RiverText_readGuild : SI := (LX, RX4, cX4_readGuild, 3, 5, none)
set_option maxRecDepth 20000 in
theorem t_RiverText_readGuild_0 {B C : Nat × FT} : fw_S s_RiverText_readGuild [(0, 3), (1, 39)] 0 (stS 2 (thE (cE 0) (gE 2373))) (5, [(0, 3), (1, 39), (2, 0)]) B C := fs_istn (fe_getI (fe_aloadn 1 rfl dX4_readGuild_0) fl_RX4_100 lx_37 rfl dX4_readGuild_1) dX4_readGuild_4 (by decide) rfl
set_option maxRecDepth 20000 in
theorem t_RiverText_readGuild_1 : fw_B s_RiverText_readGuild [(0, 3), (1, 39), (2, 0)] 0 5 11 17 (nB (cB 2 (vE 2) (cE 6))) := (fb_not (fb_icmp_lt (fe_iloadn 2 rfl dX4_readGuild_5) (fe_bipush dX4_readGuild_6) dX4_readGuild_8 rfl))
set_option maxRecDepth 20000 in
theorem t_RiverText_readGuild_2 {B C : Nat × FT} : fw_S s_RiverText_readGuild [(0, 3), (1, 39), (2, 0)] 11 (exS (clE m_Tape_refuse [(cE 0), (cE 4)])) (16, [(0, 3), (1, 39), (2, 0)]) B C := fs_callV (t := 0) (fa_cons (fe_aloadn 0 rfl dX4_readGuild_11) (fa_cons (fe_iconst dX4_readGuild_12) fa_nil)) C_Tape_refuse lv_RX4_57 lx_1 rfl rfl (by decide) (by decide) dX4_readGuild_13 rfl
set_option maxRecDepth 20000 in
theorem t_RiverText_readGuild_3 {N B C : Nat × FT} : fw_S s_RiverText_readGuild [(0, 3), (1, 39), (2, 0)] 16 rvS N B C := fs_rv dX4_readGuild_16
set_option maxRecDepth 20000 in
theorem t_RiverText_readGuild_4 {B C : Nat × FT} : fw_S s_RiverText_readGuild [(0, 3), (1, 39), (2, 0)] 17 (exS (clE m_Tape_advance [(cE 0)])) (21, [(0, 3), (1, 39), (2, 0)]) B C := fs_callV (t := 0) (fa_cons (fe_aloadn 0 rfl dX4_readGuild_17) fa_nil) C_Tape_advance lv_RX4_73 lx_1 rfl rfl (by decide) (by decide) dX4_readGuild_18 rfl
set_option maxRecDepth 20000 in
theorem t_RiverText_readGuild_5 {B C : Nat × FT} : fw_S s_RiverText_readGuild [(0, 3), (1, 39), (2, 0)] 21 (exS (clE m_Names_takeNew [(thE (cE 0) (cE 0)), (cE 0), (cE 2), (vE 2)])) (31, [(0, 3), (1, 39), (2, 0)]) B C := fs_callV (t := 0) (fa_cons (fe_getR (fe_aloadn 1 rfl dX4_readGuild_21) fl_RX4_76 lx_37 rfl dX4_readGuild_22) (fa_cons (fe_aloadn 0 rfl dX4_readGuild_25) (fa_cons (fe_iconst dX4_readGuild_26) (fa_cons (fe_iloadn 2 rfl dX4_readGuild_27) fa_nil)))) C_Names_takeNew lv_RX4_82 lx_38 rfl rfl (by decide) (by decide) dX4_readGuild_28 rfl
set_option maxRecDepth 20000 in
theorem t_RiverText_readGuild_6 {B C : Nat × FT} : fw_S s_RiverText_readGuild [(0, 3), (1, 39), (2, 0)] 31 (asS 2816 6 idI (thE (cE 0) (cE 0)) (vE 2) (clE m_Names_takeTold [(thE (cE 0) (cE 0)), (cE 0), (cE 0)])) (46, [(0, 3), (1, 39), (2, 0)]) B C := fs_iast (fe_getR (fe_aloadn 1 rfl dX4_readGuild_31) fl_RX4_103 lx_37 rfl dX4_readGuild_32) (fe_iloadn 2 rfl dX4_readGuild_35) (fe_callV (fa_cons (fe_getR (fe_aloadn 1 rfl dX4_readGuild_36) fl_RX4_76 lx_37 rfl dX4_readGuild_37) (fa_cons (fe_aloadn 0 rfl dX4_readGuild_40) (fa_cons (fe_iconst dX4_readGuild_41) fa_nil))) C_Names_takeTold lv_RX4_106 lx_38 rfl rfl (by decide) (by decide) (by decide) dX4_readGuild_42) lx_44 dX4_readGuild_45 rfl
set_option maxRecDepth 20000 in
theorem t_RiverText_readGuild_7 {B C : Nat × FT} : fw_S s_RiverText_readGuild [(0, 3), (1, 39), (2, 0)] 46 (asS 2880 6 idI (thE (cE 0) (cE 0)) (vE 2) (clE m_Tape_takeNumber [(cE 0), (cE 1), (cE 24)])) (59, [(0, 3), (1, 39), (2, 0)]) B C := fs_iast (fe_getR (fe_aloadn 1 rfl dX4_readGuild_46) fl_RX4_110 lx_37 rfl dX4_readGuild_47) (fe_iloadn 2 rfl dX4_readGuild_50) (fe_callV (fa_cons (fe_aloadn 0 rfl dX4_readGuild_51) (fa_cons (fe_iconst dX4_readGuild_52) (fa_cons (fe_bipush dX4_readGuild_53) fa_nil))) C_Tape_takeNumber lv_RX4_90 lx_1 rfl rfl (by decide) (by decide) (by decide) dX4_readGuild_55) lx_45 dX4_readGuild_58 rfl
set_option maxRecDepth 20000 in
theorem t_RiverText_readGuild_8 : fw_B s_RiverText_readGuild [(0, 3), (1, 39), (2, 0)] 0 59 68 73 (nB (zB 0 (clE m_Tape_isAtSign [(cE 0), (cE 59)]))) := (fb_not (fb_if_eq (fe_callV (fa_cons (fe_aloadn 0 rfl dX4_readGuild_59) (fa_cons (fe_bipush dX4_readGuild_60) fa_nil)) C_Tape_isAtSign lv_RX4_113 lx_1 rfl rfl (by decide) (by decide) (by decide) dX4_readGuild_62) dX4_readGuild_65 rfl))
set_option maxRecDepth 20000 in
theorem t_RiverText_readGuild_9 {B C : Nat × FT} : fw_S s_RiverText_readGuild [(0, 3), (1, 39), (2, 0)] 68 (exS (clE m_Tape_refuse [(cE 0), (cE 1)])) (73, [(0, 3), (1, 39), (2, 0)]) B C := fs_callV (t := 0) (fa_cons (fe_aloadn 0 rfl dX4_readGuild_68) (fa_cons (fe_iconst dX4_readGuild_69) fa_nil)) C_Tape_refuse lv_RX4_57 lx_1 rfl rfl (by decide) (by decide) dX4_readGuild_70 rfl
set_option maxRecDepth 20000 in
theorem t_RiverText_readGuild_10 {B C : Nat × FT} : fw_S s_RiverText_readGuild [(0, 3), (1, 39), (2, 0)] 73 (exS (clE m_RiverText_readShares [(cE 0), (thE (cE 0) (cE 0)), (thE (cE 0) (cE 0)), (o2 mulI (vE 2) (cE 4)), (cE 1)])) (89, [(0, 3), (1, 39), (2, 0)]) B C := fs_callS (t := 0) (fa_cons (fe_aloadn 0 rfl dX4_readGuild_73) (fa_cons (fe_getR (fe_aloadn 1 rfl dX4_readGuild_74) fl_RX4_76 lx_37 rfl dX4_readGuild_75) (fa_cons (fe_getR (fe_aloadn 1 rfl dX4_readGuild_78) fl_RX4_117 lx_37 rfl dX4_readGuild_79) (fa_cons (fe_imul (fe_iloadn 2 rfl dX4_readGuild_82) (fe_iconst dX4_readGuild_83) dX4_readGuild_84) (fa_cons (fe_iconst dX4_readGuild_85) fa_nil))))) C_RiverText_readShares ls_RX4_120 rfl (by decide) (by decide) dX4_readGuild_86 rfl
set_option maxRecDepth 20000 in
theorem t_RiverText_readGuild_11 {B C : Nat × FT} : fw_S s_RiverText_readGuild [(0, 3), (1, 39), (2, 0)] 89 (pfS 2373 (cE 0) (o2 addI (vE 2) (cE 1))) (96, [(0, 3), (1, 39), (2, 0)]) B C := fs_put (fe_aloadn 1 rfl dX4_readGuild_89) (fe_iadd (fe_iloadn 2 rfl dX4_readGuild_90) (fe_iconst dX4_readGuild_91) dX4_readGuild_92) fp_RX4_100 lx_37 rfl dX4_readGuild_93 rfl
set_option maxRecDepth 20000 in
theorem t_RiverText_readGuild_12 {N B C : Nat × FT} : fw_S s_RiverText_readGuild [(0, 3), (1, 39), (2, 0)] 96 rvS N B C := fs_rv dX4_readGuild_96
set_option maxRecDepth 20000 in
theorem C_RiverText_readGuild : fw_C LX yX4_readGuild cX4_readGuild 3 none 5 [3, 39] (none) m_RiverText_readGuild := fm_v (d := 5) (N := (0, [])) (B := (0, [])) (C := (0, [])) LX_ok (by decide +kernel) (show fw_S s_RiverText_readGuild _ 0 b_RiverText_readGuild _ _ _ from (fs_seq t_RiverText_readGuild_0 (fs_seq (fs_if t_RiverText_readGuild_1 (fs_seq t_RiverText_readGuild_2 t_RiverText_readGuild_3) (fs_skip rfl)) (fs_seq t_RiverText_readGuild_4 (fs_seq t_RiverText_readGuild_5 (fs_seq t_RiverText_readGuild_6 (fs_seq t_RiverText_readGuild_7 (fs_seq (fs_if t_RiverText_readGuild_8 t_RiverText_readGuild_9 (fs_skip rfl)) (fs_seq t_RiverText_readGuild_10 (fs_seq t_RiverText_readGuild_11 t_RiverText_readGuild_12)))))))))) (by decide)
/-! DyerBells$RiverText.readShares -/
abbrev s_RiverText_readShares_2 : SI := (LX, RX4, cX4_readShares, 9, 4, none)
set_option maxRecDepth 20000 in
theorem t_RiverText_readShares_2_0 {B C : Nat × FT} : fw_S s_RiverText_readShares_2 [(0, 3), (1, 40), (2, 52), (3, 0), (4, 0)] 0 (stS 5 (cE 0)) (3, [(0, 3), (1, 40), (2, 52), (3, 0), (4, 0), (5, 0)]) B C := fs_ist (fe_iconst dX4_readShares_0) dX4_readShares_1 (by decide) rfl
set_option maxRecDepth 20000 in
theorem t_RiverText_readShares_2_1 {B C : Nat × FT} : fw_S s_RiverText_readShares_2 [(0, 3), (1, 40), (2, 52), (3, 0), (4, 0), (5, 0)] 3 (stS 6 (cE 0)) (6, [(0, 3), (1, 40), (2, 52), (3, 0), (4, 0), (5, 0), (6, 0)]) B C := fs_ist (fe_iconst dX4_readShares_3) dX4_readShares_4 (by decide) rfl
set_option maxRecDepth 20000 in
theorem t_RiverText_readShares_2_2 : fw_B s_RiverText_readShares_2 [(0, 3), (1, 40), (2, 52), (3, 0), (4, 0), (5, 0), (6, 0)] 0 6 28 101 (andB (andB (nB (cB 4 (vE 6) (cE 4))) (nB (zB 1 (thE (cE 0) (gE 74))))) (nB (zB 1 (clE m_Tape_isAtSign [(cE 0), (cE 59)])))) := (fb_and (fb_and (fb_not (fb_icmp_gt (fe_iload 6 rfl dX4_readShares_6) (fe_iconst dX4_readShares_8) dX4_readShares_9 rfl)) (fb_not (fb_if_ne (fe_getI (fe_aloadn 0 rfl dX4_readShares_12) fl_RX4_139 lx_1 rfl dX4_readShares_13) dX4_readShares_16 rfl))) (fb_not (fb_if_ne (fe_callV (fa_cons (fe_aloadn 0 rfl dX4_readShares_19) (fa_cons (fe_bipush dX4_readShares_20) fa_nil)) C_Tape_isAtSign lv_RX4_113 lx_1 rfl rfl (by decide) (by decide) (by decide) dX4_readShares_22) dX4_readShares_25 rfl)))
set_option maxRecDepth 20000 in
theorem t_RiverText_readShares_2_3 {B C : Nat × FT} : fw_S s_RiverText_readShares_2 [(0, 3), (1, 40), (2, 52), (3, 0), (4, 0), (5, 0), (6, 0)] 28 (stS 7 (clE m_Names_takeTold [(cE 0), (cE 0), (cE 1)])) (36, [(0, 3), (1, 40), (2, 52), (3, 0), (4, 0), (5, 0), (6, 0), (7, 0)]) B C := fs_ist (fe_callV (fa_cons (fe_aloadn 1 rfl dX4_readShares_28) (fa_cons (fe_aloadn 0 rfl dX4_readShares_29) (fa_cons (fe_iconst dX4_readShares_30) fa_nil))) C_Names_takeTold lv_RX4_106 lx_38 rfl rfl (by decide) (by decide) (by decide) dX4_readShares_31) dX4_readShares_34 (by decide) rfl
set_option maxRecDepth 20000 in
theorem t_RiverText_readShares_2_4 : fw_B s_RiverText_readShares_2 [(0, 3), (1, 40), (2, 52), (3, 0), (4, 0), (5, 0), (6, 0), (7, 0)] 0 36 51 56 (andB (nB (zB 2 (vE 7))) (nB (zB 0 (o2 andI (o2 shrI (vE 5) (vE 7)) (cE 1))))) := (fb_and (fb_not (fb_if_lt (fe_iload 7 rfl dX4_readShares_36) dX4_readShares_38 rfl)) (fb_not (fb_if_eq (fe_iand (fe_ishr (fe_iload 5 rfl dX4_readShares_41) (fe_iload 7 rfl dX4_readShares_43) dX4_readShares_45) (fe_iconst dX4_readShares_46) dX4_readShares_47) dX4_readShares_48 rfl)))
set_option maxRecDepth 20000 in
theorem t_RiverText_readShares_2_5 {B C : Nat × FT} : fw_S s_RiverText_readShares_2 [(0, 3), (1, 40), (2, 52), (3, 0), (4, 0), (5, 0), (6, 0), (7, 0)] 51 (exS (clE m_Tape_refuseTaken [(cE 0), (cE 3)])) (56, [(0, 3), (1, 40), (2, 52), (3, 0), (4, 0), (5, 0), (6, 0), (7, 0)]) B C := fs_callV (t := 0) (fa_cons (fe_aloadn 0 rfl dX4_readShares_51) (fa_cons (fe_iconst dX4_readShares_52) fa_nil)) C_Tape_refuseTaken lv_RX4_142 lx_1 rfl rfl (by decide) (by decide) dX4_readShares_53 rfl
set_option maxRecDepth 20000 in
theorem t_RiverText_readShares_2_6 {B C : Nat × FT} : fw_S s_RiverText_readShares_2 [(0, 3), (1, 40), (2, 52), (3, 0), (4, 0), (5, 0), (6, 0), (7, 0)] 56 (stS 8 (clE m_Tape_takeNumber [(cE 0), (vE 4), (cE 9999)])) (67, [(0, 3), (1, 40), (2, 52), (3, 0), (4, 0), (5, 0), (6, 0), (7, 0), (8, 0)]) B C := fs_ist (fe_callV (fa_cons (fe_aloadn 0 rfl dX4_readShares_56) (fa_cons (fe_iload 4 rfl dX4_readShares_57) (fa_cons (fe_sipush dX4_readShares_59) fa_nil))) C_Tape_takeNumber lv_RX4_90 lx_1 rfl rfl (by decide) (by decide) (by decide) dX4_readShares_62) dX4_readShares_65 (by decide) rfl
set_option maxRecDepth 20000 in
theorem t_RiverText_readShares_2_7 : fw_B s_RiverText_readShares_2 [(0, 3), (1, 40), (2, 52), (3, 0), (4, 0), (5, 0), (6, 0), (7, 0), (8, 0)] 0 67 78 95 (andB (nB (zB 2 (vE 7))) (nB (cB 3 (vE 7) (cE 4)))) := (fb_and (fb_not (fb_if_lt (fe_iload 7 rfl dX4_readShares_67) dX4_readShares_69 rfl)) (fb_not (fb_icmp_ge (fe_iload 7 rfl dX4_readShares_72) (fe_iconst dX4_readShares_74) dX4_readShares_75 rfl)))
set_option maxRecDepth 20000 in
theorem t_RiverText_readShares_2_8 {B C : Nat × FT} : fw_S s_RiverText_readShares_2 [(0, 3), (1, 40), (2, 52), (3, 0), (4, 0), (5, 0), (6, 0), (7, 0), (8, 0)] 78 (asS 3200 24 idI (cE 0) (o2 addI (vE 3) (vE 7)) (vE 8)) (86, [(0, 3), (1, 40), (2, 52), (3, 0), (4, 0), (5, 0), (6, 0), (7, 0), (8, 0)]) B C := fs_iast (fe_aloadn 2 rfl dX4_readShares_78) (fe_iadd (fe_iloadn 3 rfl dX4_readShares_79) (fe_iload 7 rfl dX4_readShares_80) dX4_readShares_82) (fe_iload 8 rfl dX4_readShares_83) lx_50 dX4_readShares_85 rfl
set_option maxRecDepth 20000 in
theorem t_RiverText_readShares_2_9 {B C : Nat × FT} : fw_S s_RiverText_readShares_2 [(0, 3), (1, 40), (2, 52), (3, 0), (4, 0), (5, 0), (6, 0), (7, 0), (8, 0)] 86 (stS 5 (o2 iorI (vE 5) (o2 shlI (cE 1) (vE 7)))) (95, [(0, 3), (1, 40), (2, 52), (3, 0), (4, 0), (5, 0), (6, 0)]) B C := fs_ist (fe_ior (fe_iload 5 rfl dX4_readShares_86) (fe_ishl (fe_iconst dX4_readShares_88) (fe_iload 7 rfl dX4_readShares_89) dX4_readShares_91) dX4_readShares_92) dX4_readShares_93 (by decide) rfl
set_option maxRecDepth 20000 in
theorem t_RiverText_readShares_2_10 {B C : Nat × FT} : fw_S s_RiverText_readShares_2 [(0, 3), (1, 40), (2, 52), (3, 0), (4, 0), (5, 0), (6, 0)] 95 (inS 6 1) (98, [(0, 3), (1, 40), (2, 52), (3, 0), (4, 0), (5, 0), (6, 0)]) B C := fs_inc (j := 6) rfl dX4_readShares_95 (by decide) rfl
set_option maxRecDepth 20000 in
theorem t_RiverText_readShares_2_11 {B C : Nat × FT} : fw_S s_RiverText_readShares_2 [(0, 3), (1, 40), (2, 52), (3, 0), (4, 0), (5, 0), (6, 0)] 6 (whS (andB (andB (nB (cB 4 (vE 6) (cE 4))) (nB (zB 1 (thE (cE 0) (gE 74))))) (nB (zB 1 (clE m_Tape_isAtSign [(cE 0), (cE 59)])))) (sq (stS 7 (clE m_Names_takeTold [(cE 0), (cE 0), (cE 1)])) (sq (ifS (andB (nB (zB 2 (vE 7))) (nB (zB 0 (o2 andI (o2 shrI (vE 5) (vE 7)) (cE 1))))) (exS (clE m_Tape_refuseTaken [(cE 0), (cE 3)])) skS) (sq (stS 8 (clE m_Tape_takeNumber [(cE 0), (vE 4), (cE 9999)])) (ifS (andB (nB (zB 2 (vE 7))) (nB (cB 3 (vE 7) (cE 4)))) (sq (asS 3200 24 idI (cE 0) (o2 addI (vE 3) (vE 7)) (vE 8)) (stS 5 (o2 iorI (vE 5) (o2 shlI (cE 1) (vE 7))))) skS)))) (inS 6 1) FU) (101, [(0, 3), (1, 40), (2, 52), (3, 0), (4, 0), (5, 0), (6, 0)]) B C := fs_while t_RiverText_readShares_2_2 (fs_seq t_RiverText_readShares_2_3 (fs_seq (fs_if t_RiverText_readShares_2_4 t_RiverText_readShares_2_5 (fs_skip rfl)) (fs_seq t_RiverText_readShares_2_6 (fs_if t_RiverText_readShares_2_7 (fs_seq t_RiverText_readShares_2_8 t_RiverText_readShares_2_9) (fs_skip rfl))))) (fs_goto t_RiverText_readShares_2_10 dX4_readShares_98 rfl)
set_option maxRecDepth 20000 in
theorem t_RiverText_readShares_2_12 {N B C : Nat × FT} : fw_S s_RiverText_readShares_2 [(0, 3), (1, 40), (2, 52), (3, 0), (4, 0), (5, 0)] 101 rvS N B C := fs_rv dX4_readShares_101
set_option maxRecDepth 20000 in
theorem C_RiverText_readShares_2 : fw_C LX yX4_readShares cX4_readShares 9 none 4 [3, 40, 52, 0, 0] (none) m_RiverText_readShares_2 := fm_v (d := 4) (N := (0, [])) (B := (0, [])) (C := (0, [])) LX_ok (by decide +kernel) (show fw_S s_RiverText_readShares_2 _ 0 b_RiverText_readShares_2 _ _ _ from (fs_seq t_RiverText_readShares_2_0 (fs_seq (fs_seq t_RiverText_readShares_2_1 (fs_weak t_RiverText_readShares_2_11 rfl)) t_RiverText_readShares_2_12))) (by decide)
/-! DyerBells$RiverText.readUser -/
abbrev s_RiverText_readUser : SI := (LX, RX4, cX4_readUser, 4, 5, none)
set_option maxRecDepth 20000 in
theorem t_RiverText_readUser_0 {B C : Nat × FT} : fw_S s_RiverText_readUser [(0, 3), (1, 39)] 0 (stS 2 (thE (cE 0) (gE 2377))) (5, [(0, 3), (1, 39), (2, 0)]) B C := fs_istn (fe_getI (fe_aloadn 1 rfl dX4_readUser_0) fl_RX4_124 lx_37 rfl dX4_readUser_1) dX4_readUser_4 (by decide) rfl
set_option maxRecDepth 20000 in
theorem t_RiverText_readUser_1 : fw_B s_RiverText_readUser [(0, 3), (1, 39), (2, 0)] 0 5 11 17 (nB (cB 2 (vE 2) (cE 6))) := (fb_not (fb_icmp_lt (fe_iloadn 2 rfl dX4_readUser_5) (fe_bipush dX4_readUser_6) dX4_readUser_8 rfl))
set_option maxRecDepth 20000 in
theorem t_RiverText_readUser_2 {B C : Nat × FT} : fw_S s_RiverText_readUser [(0, 3), (1, 39), (2, 0)] 11 (exS (clE m_Tape_refuse [(cE 0), (cE 4)])) (16, [(0, 3), (1, 39), (2, 0)]) B C := fs_callV (t := 0) (fa_cons (fe_aloadn 0 rfl dX4_readUser_11) (fa_cons (fe_iconst dX4_readUser_12) fa_nil)) C_Tape_refuse lv_RX4_57 lx_1 rfl rfl (by decide) (by decide) dX4_readUser_13 rfl
set_option maxRecDepth 20000 in
theorem t_RiverText_readUser_3 {N B C : Nat × FT} : fw_S s_RiverText_readUser [(0, 3), (1, 39), (2, 0)] 16 rvS N B C := fs_rv dX4_readUser_16
set_option maxRecDepth 20000 in
theorem t_RiverText_readUser_4 {B C : Nat × FT} : fw_S s_RiverText_readUser [(0, 3), (1, 39), (2, 0)] 17 (exS (clE m_Tape_advance [(cE 0)])) (21, [(0, 3), (1, 39), (2, 0)]) B C := fs_callV (t := 0) (fa_cons (fe_aloadn 0 rfl dX4_readUser_17) fa_nil) C_Tape_advance lv_RX4_73 lx_1 rfl rfl (by decide) (by decide) dX4_readUser_18 rfl
set_option maxRecDepth 20000 in
theorem t_RiverText_readUser_5 {B C : Nat × FT} : fw_S s_RiverText_readUser [(0, 3), (1, 39), (2, 0)] 21 (exS (clE m_Names_takeNew [(thE (cE 0) (cE 0)), (cE 0), (cE 3), (vE 2)])) (31, [(0, 3), (1, 39), (2, 0)]) B C := fs_callV (t := 0) (fa_cons (fe_getR (fe_aloadn 1 rfl dX4_readUser_21) fl_RX4_76 lx_37 rfl dX4_readUser_22) (fa_cons (fe_aloadn 0 rfl dX4_readUser_25) (fa_cons (fe_iconst dX4_readUser_26) (fa_cons (fe_iloadn 2 rfl dX4_readUser_27) fa_nil)))) C_Names_takeNew lv_RX4_82 lx_38 rfl rfl (by decide) (by decide) dX4_readUser_28 rfl
set_option maxRecDepth 20000 in
theorem t_RiverText_readUser_6 {B C : Nat × FT} : fw_S s_RiverText_readUser [(0, 3), (1, 39), (2, 0)] 31 (asS 3008 6 idI (thE (cE 0) (cE 0)) (vE 2) (clE m_Names_takeTold [(thE (cE 0) (cE 0)), (cE 0), (cE 0)])) (46, [(0, 3), (1, 39), (2, 0)]) B C := fs_iast (fe_getR (fe_aloadn 1 rfl dX4_readUser_31) fl_RX4_127 lx_37 rfl dX4_readUser_32) (fe_iloadn 2 rfl dX4_readUser_35) (fe_callV (fa_cons (fe_getR (fe_aloadn 1 rfl dX4_readUser_36) fl_RX4_76 lx_37 rfl dX4_readUser_37) (fa_cons (fe_aloadn 0 rfl dX4_readUser_40) (fa_cons (fe_iconst dX4_readUser_41) fa_nil))) C_Names_takeTold lv_RX4_106 lx_38 rfl rfl (by decide) (by decide) (by decide) dX4_readUser_42) lx_47 dX4_readUser_45 rfl
set_option maxRecDepth 20000 in
theorem t_RiverText_readUser_7 {B C : Nat × FT} : fw_S s_RiverText_readUser [(0, 3), (1, 39), (2, 0)] 46 (stS 3 (clE m_Tape_takeNumber [(cE 0), (cE 0), (cE 23)])) (54, [(0, 3), (1, 39), (2, 0), (3, 0)]) B C := fs_istn (fe_callV (fa_cons (fe_aloadn 0 rfl dX4_readUser_46) (fa_cons (fe_iconst dX4_readUser_47) (fa_cons (fe_bipush dX4_readUser_48) fa_nil))) C_Tape_takeNumber lv_RX4_90 lx_1 rfl rfl (by decide) (by decide) (by decide) dX4_readUser_50) dX4_readUser_53 (by decide) rfl
set_option maxRecDepth 20000 in
theorem t_RiverText_readUser_8 {B C : Nat × FT} : fw_S s_RiverText_readUser [(0, 3), (1, 39), (2, 0), (3, 0)] 54 (asS 3072 6 idI (thE (cE 0) (cE 0)) (vE 2) (vE 3)) (61, [(0, 3), (1, 39), (2, 0), (3, 0)]) B C := fs_iast (fe_getR (fe_aloadn 1 rfl dX4_readUser_54) fl_RX4_130 lx_37 rfl dX4_readUser_55) (fe_iloadn 2 rfl dX4_readUser_58) (fe_iloadn 3 rfl dX4_readUser_59) lx_48 dX4_readUser_60 rfl
set_option maxRecDepth 20000 in
theorem t_RiverText_readUser_9 {B C : Nat × FT} : fw_S s_RiverText_readUser [(0, 3), (1, 39), (2, 0), (3, 0)] 61 (asS 3136 6 idI (thE (cE 0) (cE 0)) (vE 2) (clE m_Tape_takeNumber [(cE 0), (o2 addI (vE 3) (cE 1)), (cE 24)])) (76, [(0, 3), (1, 39), (2, 0), (3, 0)]) B C := fs_iast (fe_getR (fe_aloadn 1 rfl dX4_readUser_61) fl_RX4_133 lx_37 rfl dX4_readUser_62) (fe_iloadn 2 rfl dX4_readUser_65) (fe_callV (fa_cons (fe_aloadn 0 rfl dX4_readUser_66) (fa_cons (fe_iadd (fe_iloadn 3 rfl dX4_readUser_67) (fe_iconst dX4_readUser_68) dX4_readUser_69) (fa_cons (fe_bipush dX4_readUser_70) fa_nil))) C_Tape_takeNumber lv_RX4_90 lx_1 rfl rfl (by decide) (by decide) (by decide) dX4_readUser_72) lx_49 dX4_readUser_75 rfl
set_option maxRecDepth 20000 in
theorem t_RiverText_readUser_10 {B C : Nat × FT} : fw_S s_RiverText_readUser [(0, 3), (1, 39), (2, 0), (3, 0)] 76 (exS (clE m_RiverText_readShares_2 [(cE 0), (thE (cE 0) (cE 0)), (thE (cE 0) (cE 0)), (o2 mulI (vE 2) (cE 4)), (cE 0)])) (92, [(0, 3), (1, 39), (2, 0), (3, 0)]) B C := fs_callS (t := 0) (fa_cons (fe_aloadn 0 rfl dX4_readUser_76) (fa_cons (fe_getR (fe_aloadn 1 rfl dX4_readUser_77) fl_RX4_76 lx_37 rfl dX4_readUser_78) (fa_cons (fe_getR (fe_aloadn 1 rfl dX4_readUser_81) fl_RX4_136 lx_37 rfl dX4_readUser_82) (fa_cons (fe_imul (fe_iloadn 2 rfl dX4_readUser_85) (fe_iconst dX4_readUser_86) dX4_readUser_87) (fa_cons (fe_iconst dX4_readUser_88) fa_nil))))) C_RiverText_readShares_2 ls_RX4_120 rfl (by decide) (by decide) dX4_readUser_89 rfl
set_option maxRecDepth 20000 in
theorem t_RiverText_readUser_11 {B C : Nat × FT} : fw_S s_RiverText_readUser [(0, 3), (1, 39), (2, 0), (3, 0)] 92 (pfS 2377 (cE 0) (o2 addI (vE 2) (cE 1))) (99, [(0, 3), (1, 39), (2, 0), (3, 0)]) B C := fs_put (fe_aloadn 1 rfl dX4_readUser_92) (fe_iadd (fe_iloadn 2 rfl dX4_readUser_93) (fe_iconst dX4_readUser_94) dX4_readUser_95) fp_RX4_124 lx_37 rfl dX4_readUser_96 rfl
set_option maxRecDepth 20000 in
theorem t_RiverText_readUser_12 {N B C : Nat × FT} : fw_S s_RiverText_readUser [(0, 3), (1, 39), (2, 0), (3, 0)] 99 rvS N B C := fs_rv dX4_readUser_99
set_option maxRecDepth 20000 in
theorem C_RiverText_readUser : fw_C LX yX4_readUser cX4_readUser 4 none 5 [3, 39] (none) m_RiverText_readUser := fm_v (d := 5) (N := (0, [])) (B := (0, [])) (C := (0, [])) LX_ok (by decide +kernel) (show fw_S s_RiverText_readUser _ 0 b_RiverText_readUser _ _ _ from (fs_seq t_RiverText_readUser_0 (fs_seq (fs_if t_RiverText_readUser_1 (fs_seq t_RiverText_readUser_2 t_RiverText_readUser_3) (fs_skip rfl)) (fs_seq t_RiverText_readUser_4 (fs_seq t_RiverText_readUser_5 (fs_seq t_RiverText_readUser_6 (fs_seq t_RiverText_readUser_7 (fs_seq t_RiverText_readUser_8 (fs_seq t_RiverText_readUser_9 (fs_seq t_RiverText_readUser_10 (fs_seq t_RiverText_readUser_11 t_RiverText_readUser_12))))))))))) (by decide)
/-! DyerBells$RiverText.readFlow -/
abbrev s_RiverText_readFlow : SI := (LX, RX4, cX4_readFlow, 3, 4, none)
set_option maxRecDepth 20000 in
theorem t_RiverText_readFlow_0 {B C : Nat × FT} : fw_S s_RiverText_readFlow [(0, 3), (1, 39)] 0 (exS (clE m_Tape_advance [(cE 0)])) (4, [(0, 3), (1, 39)]) B C := fs_callV (t := 0) (fa_cons (fe_aloadn 0 rfl dX4_readFlow_0) fa_nil) C_Tape_advance lv_RX4_73 lx_1 rfl rfl (by decide) (by decide) dX4_readFlow_1 rfl
set_option maxRecDepth 20000 in
theorem t_RiverText_readFlow_1 {B C : Nat × FT} : fw_S s_RiverText_readFlow [(0, 3), (1, 39)] 4 (stS 2 (clE m_Tape_takeNumber [(cE 0), (cE 0), (cE 6)])) (12, [(0, 3), (1, 39), (2, 0)]) B C := fs_istn (fe_callV (fa_cons (fe_aloadn 0 rfl dX4_readFlow_4) (fa_cons (fe_iconst dX4_readFlow_5) (fa_cons (fe_bipush dX4_readFlow_6) fa_nil))) C_Tape_takeNumber lv_RX4_90 lx_1 rfl rfl (by decide) (by decide) (by decide) dX4_readFlow_8) dX4_readFlow_11 (by decide) rfl
set_option maxRecDepth 20000 in
theorem t_RiverText_readFlow_2 : fw_B s_RiverText_readFlow [(0, 3), (1, 39), (2, 0)] 0 12 22 27 (nB (cB 0 (ldE 3264 7 (thE (cE 0) (cE 0)) (vE 2)) (cE (-1)))) := (fb_not (fb_icmp_eq (fe_iald (fe_getR (fe_aloadn 1 rfl dX4_readFlow_12) fl_RX4_145 lx_37 rfl dX4_readFlow_13) (fe_iloadn 2 rfl dX4_readFlow_16) lx_51 dX4_readFlow_17) (fe_iconst dX4_readFlow_18) dX4_readFlow_19 rfl))
set_option maxRecDepth 20000 in
theorem t_RiverText_readFlow_3 {B C : Nat × FT} : fw_S s_RiverText_readFlow [(0, 3), (1, 39), (2, 0)] 22 (exS (clE m_Tape_refuseTaken [(cE 0), (cE 3)])) (27, [(0, 3), (1, 39), (2, 0)]) B C := fs_callV (t := 0) (fa_cons (fe_aloadn 0 rfl dX4_readFlow_22) (fa_cons (fe_iconst dX4_readFlow_23) fa_nil)) C_Tape_refuseTaken lv_RX4_142 lx_1 rfl rfl (by decide) (by decide) dX4_readFlow_24 rfl
set_option maxRecDepth 20000 in
theorem t_RiverText_readFlow_4 {B C : Nat × FT} : fw_S s_RiverText_readFlow [(0, 3), (1, 39), (2, 0)] 27 (asS 3264 7 idI (thE (cE 0) (cE 0)) (vE 2) (clE m_Tape_takeNumber [(cE 0), (cE 0), (cE 9999)])) (41, [(0, 3), (1, 39), (2, 0)]) B C := fs_iast (fe_getR (fe_aloadn 1 rfl dX4_readFlow_27) fl_RX4_145 lx_37 rfl dX4_readFlow_28) (fe_iloadn 2 rfl dX4_readFlow_31) (fe_callV (fa_cons (fe_aloadn 0 rfl dX4_readFlow_32) (fa_cons (fe_iconst dX4_readFlow_33) (fa_cons (fe_sipush dX4_readFlow_34) fa_nil))) C_Tape_takeNumber lv_RX4_90 lx_1 rfl rfl (by decide) (by decide) (by decide) dX4_readFlow_37) lx_51 dX4_readFlow_40 rfl
set_option maxRecDepth 20000 in
theorem t_RiverText_readFlow_5 {N B C : Nat × FT} : fw_S s_RiverText_readFlow [(0, 3), (1, 39), (2, 0)] 41 rvS N B C := fs_rv dX4_readFlow_41
set_option maxRecDepth 20000 in
theorem C_RiverText_readFlow : fw_C LX yX4_readFlow cX4_readFlow 3 none 4 [3, 39] (none) m_RiverText_readFlow := fm_v (d := 4) (N := (0, [])) (B := (0, [])) (C := (0, [])) LX_ok (by decide +kernel) (show fw_S s_RiverText_readFlow _ 0 b_RiverText_readFlow _ _ _ from (fs_seq t_RiverText_readFlow_0 (fs_seq t_RiverText_readFlow_1 (fs_seq (fs_if t_RiverText_readFlow_2 t_RiverText_readFlow_3 (fs_skip rfl)) (fs_seq t_RiverText_readFlow_4 t_RiverText_readFlow_5))))) (by decide)
/-! DyerBells$RiverText.readFlood -/
abbrev s_RiverText_readFlood : SI := (LX, RX4, cX4_readFlood, 2, 4, none)
set_option maxRecDepth 20000 in
theorem t_RiverText_readFlood_0 : fw_B s_RiverText_readFlood [(0, 3), (1, 39)] 0 0 8 14 (nB (cB 0 (thE (cE 0) (gE 2383)) (cE (-1)))) := (fb_not (fb_icmp_eq (fe_getI (fe_aloadn 1 rfl dX4_readFlood_0) fl_RX4_148 lx_37 rfl dX4_readFlood_1) (fe_iconst dX4_readFlood_4) dX4_readFlood_5 rfl))
set_option maxRecDepth 20000 in
theorem t_RiverText_readFlood_1 {B C : Nat × FT} : fw_S s_RiverText_readFlood [(0, 3), (1, 39)] 8 (exS (clE m_Tape_refuse [(cE 0), (cE 3)])) (13, [(0, 3), (1, 39)]) B C := fs_callV (t := 0) (fa_cons (fe_aloadn 0 rfl dX4_readFlood_8) (fa_cons (fe_iconst dX4_readFlood_9) fa_nil)) C_Tape_refuse lv_RX4_57 lx_1 rfl rfl (by decide) (by decide) dX4_readFlood_10 rfl
set_option maxRecDepth 20000 in
theorem t_RiverText_readFlood_2 {N B C : Nat × FT} : fw_S s_RiverText_readFlood [(0, 3), (1, 39)] 13 rvS N B C := fs_rv dX4_readFlood_13
set_option maxRecDepth 20000 in
theorem t_RiverText_readFlood_3 {B C : Nat × FT} : fw_S s_RiverText_readFlood [(0, 3), (1, 39)] 14 (exS (clE m_Tape_advance [(cE 0)])) (18, [(0, 3), (1, 39)]) B C := fs_callV (t := 0) (fa_cons (fe_aloadn 0 rfl dX4_readFlood_14) fa_nil) C_Tape_advance lv_RX4_73 lx_1 rfl rfl (by decide) (by decide) dX4_readFlood_15 rfl
set_option maxRecDepth 20000 in
theorem t_RiverText_readFlood_4 {B C : Nat × FT} : fw_S s_RiverText_readFlood [(0, 3), (1, 39)] 18 (pfS 2383 (cE 0) (clE m_Tape_takeNumber [(cE 0), (cE 1), (cE 9999)])) (30, [(0, 3), (1, 39)]) B C := fs_put (fe_aloadn 1 rfl dX4_readFlood_18) (fe_callV (fa_cons (fe_aloadn 0 rfl dX4_readFlood_19) (fa_cons (fe_iconst dX4_readFlood_20) (fa_cons (fe_sipush dX4_readFlood_21) fa_nil))) C_Tape_takeNumber lv_RX4_90 lx_1 rfl rfl (by decide) (by decide) (by decide) dX4_readFlood_24) fp_RX4_148 lx_37 rfl dX4_readFlood_27 rfl
set_option maxRecDepth 20000 in
theorem t_RiverText_readFlood_5 {N B C : Nat × FT} : fw_S s_RiverText_readFlood [(0, 3), (1, 39)] 30 rvS N B C := fs_rv dX4_readFlood_30
set_option maxRecDepth 20000 in
theorem C_RiverText_readFlood : fw_C LX yX4_readFlood cX4_readFlood 2 none 4 [3, 39] (none) m_RiverText_readFlood := fm_v (d := 4) (N := (0, [])) (B := (0, [])) (C := (0, [])) LX_ok (by decide +kernel) (show fw_S s_RiverText_readFlood _ 0 b_RiverText_readFlood _ _ _ from (fs_seq (fs_if t_RiverText_readFlood_0 (fs_seq t_RiverText_readFlood_1 t_RiverText_readFlood_2) (fs_skip rfl)) (fs_seq t_RiverText_readFlood_3 (fs_seq t_RiverText_readFlood_4 t_RiverText_readFlood_5)))) (by decide)
/-! DyerBells$River.hasPebble (this 37 draft.river) -/
abbrev s_River_hasPebble : SI := (LX, RX3, cX3_hasPebble, 4, 1, some 0)
set_option maxRecDepth 20000 in
theorem t_River_hasPebble_0 {B C : Nat × FT} : fw_S s_River_hasPebble [(0, 39), (1, 0), (2, 0)] 0 (stS 3 (cE 0)) (2, [(0, 39), (1, 0), (2, 0), (3, 0)]) B C := fs_istn (fe_iconst dX3_hasPebble_0) dX3_hasPebble_1 (by decide) rfl
set_option maxRecDepth 20000 in
theorem t_River_hasPebble_1 : fw_B s_River_hasPebble [(0, 39), (1, 0), (2, 0), (3, 0)] 0 2 10 38 (nB (cB 3 (vE 3) (thE (cE 0) (gE 2384)))) := (fb_not (fb_icmp_ge (fe_iloadn 3 rfl dX3_hasPebble_2) (fe_getI (fe_aloadn 0 rfl dX3_hasPebble_3) fl_RX3_76 lx_37 rfl dX3_hasPebble_4) dX3_hasPebble_7 rfl))
set_option maxRecDepth 20000 in
theorem t_River_hasPebble_2 : fw_B s_River_hasPebble [(0, 39), (1, 0), (2, 0), (3, 0)] 0 10 30 32 (andB (nB (cB 1 (ldE 3328 12 (thE (cE 0) (cE 0)) (vE 3)) (vE 1))) (nB (cB 1 (ldE 3392 12 (thE (cE 0) (cE 0)) (vE 3)) (vE 2)))) := (fb_and (fb_not (fb_icmp_ne (fe_iald (fe_getR (fe_aloadn 0 rfl dX3_hasPebble_10) fl_RX3_53 lx_37 rfl dX3_hasPebble_11) (fe_iloadn 3 rfl dX3_hasPebble_14) lx_52 dX3_hasPebble_15) (fe_iloadn 1 rfl dX3_hasPebble_16) dX3_hasPebble_17 rfl)) (fb_not (fb_icmp_ne (fe_iald (fe_getR (fe_aloadn 0 rfl dX3_hasPebble_20) fl_RX3_56 lx_37 rfl dX3_hasPebble_21) (fe_iloadn 3 rfl dX3_hasPebble_24) lx_53 dX3_hasPebble_25) (fe_iloadn 2 rfl dX3_hasPebble_26) dX3_hasPebble_27 rfl)))
set_option maxRecDepth 20000 in
theorem t_River_hasPebble_3 {N B C : Nat × FT} : fw_S s_River_hasPebble [(0, 39), (1, 0), (2, 0), (3, 0)] 30 (rtS (cE 1)) N B C := fs_ret (fe_iconst dX3_hasPebble_30) dX3_hasPebble_31
set_option maxRecDepth 20000 in
theorem t_River_hasPebble_4 {B C : Nat × FT} : fw_S s_River_hasPebble [(0, 39), (1, 0), (2, 0), (3, 0)] 32 (inS 3 1) (35, [(0, 39), (1, 0), (2, 0), (3, 0)]) B C := fs_inc (j := 3) rfl dX3_hasPebble_32 (by decide) rfl
set_option maxRecDepth 20000 in
theorem t_River_hasPebble_5 {B C : Nat × FT} : fw_S s_River_hasPebble [(0, 39), (1, 0), (2, 0), (3, 0)] 2 (whS (nB (cB 3 (vE 3) (thE (cE 0) (gE 2384)))) (ifS (andB (nB (cB 1 (ldE 3328 12 (thE (cE 0) (cE 0)) (vE 3)) (vE 1))) (nB (cB 1 (ldE 3392 12 (thE (cE 0) (cE 0)) (vE 3)) (vE 2)))) (rtS (cE 1)) skS) (inS 3 1) FU) (38, [(0, 39), (1, 0), (2, 0), (3, 0)]) B C := fs_while t_River_hasPebble_1 (fs_if t_River_hasPebble_2 t_River_hasPebble_3 (fs_skip rfl)) (fs_goto t_River_hasPebble_4 dX3_hasPebble_35 rfl)
set_option maxRecDepth 20000 in
theorem t_River_hasPebble_6 {N B C : Nat × FT} : fw_S s_River_hasPebble [(0, 39), (1, 0), (2, 0)] 38 (rtS (cE 0)) N B C := fs_ret (fe_iconst dX3_hasPebble_38) dX3_hasPebble_39
set_option maxRecDepth 20000 in
theorem C_River_hasPebble : fw_C LX yX3_hasPebble cX3_hasPebble 4 (some .boolean) 1 [39, 0, 0] (some 0) m_River_hasPebble := fm_z (d := 1) (N := (0, [])) (B := (0, [])) (C := (0, [])) LX_ok (by decide +kernel) (show fw_S s_River_hasPebble _ 0 b_River_hasPebble _ _ _ from (fs_seq (fs_seq t_River_hasPebble_0 (fs_weak t_River_hasPebble_5 rfl)) t_River_hasPebble_6)) (by decide)
/-! DyerBells$RiverText.readPebble -/
abbrev s_RiverText_readPebble : SI := (LX, RX4, cX4_readPebble, 5, 4, none)
set_option maxRecDepth 20000 in
theorem t_RiverText_readPebble_0 {B C : Nat × FT} : fw_S s_RiverText_readPebble [(0, 3), (1, 39)] 0 (stS 2 (thE (cE 0) (gE 2384))) (5, [(0, 3), (1, 39), (2, 0)]) B C := fs_istn (fe_getI (fe_aloadn 1 rfl dX4_readPebble_0) fl_RX4_151 lx_37 rfl dX4_readPebble_1) dX4_readPebble_4 (by decide) rfl
set_option maxRecDepth 20000 in
theorem t_RiverText_readPebble_1 : fw_B s_RiverText_readPebble [(0, 3), (1, 39), (2, 0)] 0 5 11 17 (nB (cB 2 (vE 2) (cE 12))) := (fb_not (fb_icmp_lt (fe_iloadn 2 rfl dX4_readPebble_5) (fe_bipush dX4_readPebble_6) dX4_readPebble_8 rfl))
set_option maxRecDepth 20000 in
theorem t_RiverText_readPebble_2 {B C : Nat × FT} : fw_S s_RiverText_readPebble [(0, 3), (1, 39), (2, 0)] 11 (exS (clE m_Tape_refuse [(cE 0), (cE 4)])) (16, [(0, 3), (1, 39), (2, 0)]) B C := fs_callV (t := 0) (fa_cons (fe_aloadn 0 rfl dX4_readPebble_11) (fa_cons (fe_iconst dX4_readPebble_12) fa_nil)) C_Tape_refuse lv_RX4_57 lx_1 rfl rfl (by decide) (by decide) dX4_readPebble_13 rfl
set_option maxRecDepth 20000 in
theorem t_RiverText_readPebble_3 {N B C : Nat × FT} : fw_S s_RiverText_readPebble [(0, 3), (1, 39), (2, 0)] 16 rvS N B C := fs_rv dX4_readPebble_16
set_option maxRecDepth 20000 in
theorem t_RiverText_readPebble_4 {B C : Nat × FT} : fw_S s_RiverText_readPebble [(0, 3), (1, 39), (2, 0)] 17 (exS (clE m_Tape_advance [(cE 0)])) (21, [(0, 3), (1, 39), (2, 0)]) B C := fs_callV (t := 0) (fa_cons (fe_aloadn 0 rfl dX4_readPebble_17) fa_nil) C_Tape_advance lv_RX4_73 lx_1 rfl rfl (by decide) (by decide) dX4_readPebble_18 rfl
set_option maxRecDepth 20000 in
theorem t_RiverText_readPebble_5 {B C : Nat × FT} : fw_S s_RiverText_readPebble [(0, 3), (1, 39), (2, 0)] 21 (stS 3 (clE m_Names_takeTold [(thE (cE 0) (cE 0)), (cE 0), (cE 1)])) (31, [(0, 3), (1, 39), (2, 0), (3, 0)]) B C := fs_istn (fe_callV (fa_cons (fe_getR (fe_aloadn 1 rfl dX4_readPebble_21) fl_RX4_76 lx_37 rfl dX4_readPebble_22) (fa_cons (fe_aloadn 0 rfl dX4_readPebble_25) (fa_cons (fe_iconst dX4_readPebble_26) fa_nil))) C_Names_takeTold lv_RX4_106 lx_38 rfl rfl (by decide) (by decide) (by decide) dX4_readPebble_27) dX4_readPebble_30 (by decide) rfl
set_option maxRecDepth 20000 in
theorem t_RiverText_readPebble_6 {B C : Nat × FT} : fw_S s_RiverText_readPebble [(0, 3), (1, 39), (2, 0), (3, 0)] 31 (stS 4 (clE m_Tape_takeNumber [(cE 0), (cE 1), (cE 9999)])) (41, [(0, 3), (1, 39), (2, 0), (3, 0), (4, 0)]) B C := fs_ist (fe_callV (fa_cons (fe_aloadn 0 rfl dX4_readPebble_31) (fa_cons (fe_iconst dX4_readPebble_32) (fa_cons (fe_sipush dX4_readPebble_33) fa_nil))) C_Tape_takeNumber lv_RX4_90 lx_1 rfl rfl (by decide) (by decide) (by decide) dX4_readPebble_36) dX4_readPebble_39 (by decide) rfl
set_option maxRecDepth 20000 in
theorem t_RiverText_readPebble_7 : fw_B s_RiverText_readPebble [(0, 3), (1, 39), (2, 0), (3, 0), (4, 0)] 0 41 51 56 (nB (zB 0 (clE m_River_hasPebble [(cE 0), (vE 3), (vE 4)]))) := (fb_not (fb_if_eq (fe_callV (fa_cons (fe_aloadn 1 rfl dX4_readPebble_41) (fa_cons (fe_iloadn 3 rfl dX4_readPebble_42) (fa_cons (fe_iload 4 rfl dX4_readPebble_43) fa_nil))) C_River_hasPebble lv_RX4_154 lx_37 rfl rfl (by decide) (by decide) (by decide) dX4_readPebble_45) dX4_readPebble_48 rfl))
set_option maxRecDepth 20000 in
theorem t_RiverText_readPebble_8 {B C : Nat × FT} : fw_S s_RiverText_readPebble [(0, 3), (1, 39), (2, 0), (3, 0), (4, 0)] 51 (exS (clE m_Tape_refuseTaken [(cE 0), (cE 3)])) (56, [(0, 3), (1, 39), (2, 0), (3, 0), (4, 0)]) B C := fs_callV (t := 0) (fa_cons (fe_aloadn 0 rfl dX4_readPebble_51) (fa_cons (fe_iconst dX4_readPebble_52) fa_nil)) C_Tape_refuseTaken lv_RX4_142 lx_1 rfl rfl (by decide) (by decide) dX4_readPebble_53 rfl
set_option maxRecDepth 20000 in
theorem t_RiverText_readPebble_9 {B C : Nat × FT} : fw_S s_RiverText_readPebble [(0, 3), (1, 39), (2, 0), (3, 0), (4, 0)] 56 (asS 3328 12 idI (thE (cE 0) (cE 0)) (vE 2) (vE 3)) (63, [(0, 3), (1, 39), (2, 0), (3, 0), (4, 0)]) B C := fs_iast (fe_getR (fe_aloadn 1 rfl dX4_readPebble_56) fl_RX4_158 lx_37 rfl dX4_readPebble_57) (fe_iloadn 2 rfl dX4_readPebble_60) (fe_iloadn 3 rfl dX4_readPebble_61) lx_52 dX4_readPebble_62 rfl
set_option maxRecDepth 20000 in
theorem t_RiverText_readPebble_10 {B C : Nat × FT} : fw_S s_RiverText_readPebble [(0, 3), (1, 39), (2, 0), (3, 0), (4, 0)] 63 (asS 3392 12 idI (thE (cE 0) (cE 0)) (vE 2) (vE 4)) (71, [(0, 3), (1, 39), (2, 0), (3, 0), (4, 0)]) B C := fs_iast (fe_getR (fe_aloadn 1 rfl dX4_readPebble_63) fl_RX4_161 lx_37 rfl dX4_readPebble_64) (fe_iloadn 2 rfl dX4_readPebble_67) (fe_iload 4 rfl dX4_readPebble_68) lx_53 dX4_readPebble_70 rfl
set_option maxRecDepth 20000 in
theorem t_RiverText_readPebble_11 {B C : Nat × FT} : fw_S s_RiverText_readPebble [(0, 3), (1, 39), (2, 0), (3, 0), (4, 0)] 71 (asS 3456 12 idI (thE (cE 0) (cE 0)) (vE 2) (clE m_Tape_takeNumber [(cE 0), (cE 0), (cE 999)])) (85, [(0, 3), (1, 39), (2, 0), (3, 0), (4, 0)]) B C := fs_iast (fe_getR (fe_aloadn 1 rfl dX4_readPebble_71) fl_RX4_164 lx_37 rfl dX4_readPebble_72) (fe_iloadn 2 rfl dX4_readPebble_75) (fe_callV (fa_cons (fe_aloadn 0 rfl dX4_readPebble_76) (fa_cons (fe_iconst dX4_readPebble_77) (fa_cons (fe_sipush dX4_readPebble_78) fa_nil))) C_Tape_takeNumber lv_RX4_90 lx_1 rfl rfl (by decide) (by decide) (by decide) dX4_readPebble_81) lx_54 dX4_readPebble_84 rfl
set_option maxRecDepth 20000 in
theorem t_RiverText_readPebble_12 {B C : Nat × FT} : fw_S s_RiverText_readPebble [(0, 3), (1, 39), (2, 0), (3, 0), (4, 0)] 85 (pfS 2384 (cE 0) (o2 addI (vE 2) (cE 1))) (92, [(0, 3), (1, 39), (2, 0), (3, 0), (4, 0)]) B C := fs_put (fe_aloadn 1 rfl dX4_readPebble_85) (fe_iadd (fe_iloadn 2 rfl dX4_readPebble_86) (fe_iconst dX4_readPebble_87) dX4_readPebble_88) fp_RX4_151 lx_37 rfl dX4_readPebble_89 rfl
set_option maxRecDepth 20000 in
theorem t_RiverText_readPebble_13 {N B C : Nat × FT} : fw_S s_RiverText_readPebble [(0, 3), (1, 39), (2, 0), (3, 0), (4, 0)] 92 rvS N B C := fs_rv dX4_readPebble_92
set_option maxRecDepth 20000 in
theorem C_RiverText_readPebble : fw_C LX yX4_readPebble cX4_readPebble 5 none 4 [3, 39] (none) m_RiverText_readPebble := fm_v (d := 4) (N := (0, [])) (B := (0, [])) (C := (0, [])) LX_ok (by decide +kernel) (show fw_S s_RiverText_readPebble _ 0 b_RiverText_readPebble _ _ _ from (fs_seq t_RiverText_readPebble_0 (fs_seq (fs_if t_RiverText_readPebble_1 (fs_seq t_RiverText_readPebble_2 t_RiverText_readPebble_3) (fs_skip rfl)) (fs_seq t_RiverText_readPebble_4 (fs_seq t_RiverText_readPebble_5 (fs_seq t_RiverText_readPebble_6 (fs_seq (fs_if t_RiverText_readPebble_7 t_RiverText_readPebble_8 (fs_skip rfl)) (fs_seq t_RiverText_readPebble_9 (fs_seq t_RiverText_readPebble_10 (fs_seq t_RiverText_readPebble_11 (fs_seq t_RiverText_readPebble_12 t_RiverText_readPebble_13))))))))))) (by decide)
/-! DyerBells$Tape.takeSign (this 1 tape) -/
abbrev s_Tape_takeSign : SI := (LX, RX9, cX9_takeSign, 2, 3, none)
set_option maxRecDepth 20000 in
theorem t_Tape_takeSign_0 : fw_B s_Tape_takeSign [(0, 3), (1, 0)] 0 0 8 13 (nB (zB 1 (clE m_Tape_isAtSign [(cE 0), (vE 1)]))) := (fb_not (fb_if_ne (fe_callV (fa_cons (fe_aloadn 0 rfl dX9_takeSign_0) (fa_cons (fe_iloadn 1 rfl dX9_takeSign_1) fa_nil)) C_Tape_isAtSign lv_RX9_111 lx_1 rfl rfl (by decide) (by decide) (by decide) dX9_takeSign_2) dX9_takeSign_5 rfl))
set_option maxRecDepth 20000 in
theorem t_Tape_takeSign_1 {B C : Nat × FT} : fw_S s_Tape_takeSign [(0, 3), (1, 0)] 8 (exS (clE m_Tape_refuse [(cE 0), (cE 1)])) (13, [(0, 3), (1, 0)]) B C := fs_callV (t := 0) (fa_cons (fe_aloadn 0 rfl dX9_takeSign_8) (fa_cons (fe_iconst dX9_takeSign_9) fa_nil)) C_Tape_refuse lv_RX9_108 lx_1 rfl rfl (by decide) (by decide) dX9_takeSign_10 rfl
set_option maxRecDepth 20000 in
theorem t_Tape_takeSign_2 {B C : Nat × FT} : fw_S s_Tape_takeSign [(0, 3), (1, 0)] 13 (exS (clE m_Tape_advance [(cE 0)])) (17, [(0, 3), (1, 0)]) B C := fs_callV (t := 0) (fa_cons (fe_aloadn 0 rfl dX9_takeSign_13) fa_nil) C_Tape_advance lv_RX9_43 lx_1 rfl rfl (by decide) (by decide) dX9_takeSign_14 rfl
set_option maxRecDepth 20000 in
theorem t_Tape_takeSign_3 {N B C : Nat × FT} : fw_S s_Tape_takeSign [(0, 3), (1, 0)] 17 rvS N B C := fs_rv dX9_takeSign_17
set_option maxRecDepth 20000 in
theorem C_Tape_takeSign : fw_C LX yX9_takeSign cX9_takeSign 2 none 3 [3, 0] (none) m_Tape_takeSign := fm_v (d := 3) (N := (0, [])) (B := (0, [])) (C := (0, [])) LX_ok (by decide +kernel) (show fw_S s_Tape_takeSign _ 0 b_Tape_takeSign _ _ _ from (fs_seq (fs_if t_Tape_takeSign_0 t_Tape_takeSign_1 (fs_skip rfl)) (fs_seq t_Tape_takeSign_2 t_Tape_takeSign_3))) (by decide)
/-! DyerBells$Tape.close (this 1 tape) -/
abbrev s_Tape_close : SI := (LX, RX9, cX9_close, 1, 3, none)
set_option maxRecDepth 20000 in
theorem t_Tape_close_0 : fw_B s_Tape_close [(0, 3)] 0 0 18 23 (orB (zB 1 (thE (cE 0) (gE 69))) (nB (cB 5 (thE (cE 0) (gE 66)) (thE (cE 0) (gE 67))))) := (fb_or (fb_if_ne (fe_getI (fe_aloadn 0 rfl dX9_close_0) fl_RX9_49 lx_1 rfl dX9_close_1) dX9_close_4 rfl) (fb_not (fb_icmp_le (fe_getI (fe_aloadn 0 rfl dX9_close_7) fl_RX9_19 lx_1 rfl dX9_close_8) (fe_getI (fe_aloadn 0 rfl dX9_close_11) fl_RX9_28 lx_1 rfl dX9_close_12) dX9_close_15 rfl)))
set_option maxRecDepth 20000 in
theorem t_Tape_close_1 {B C : Nat × FT} : fw_S s_Tape_close [(0, 3)] 18 (exS (clE m_Tape_refuse [(cE 0), (cE 1)])) (23, [(0, 3)]) B C := fs_callV (t := 0) (fa_cons (fe_aloadn 0 rfl dX9_close_18) (fa_cons (fe_iconst dX9_close_19) fa_nil)) C_Tape_refuse lv_RX9_108 lx_1 rfl rfl (by decide) (by decide) dX9_close_20 rfl
set_option maxRecDepth 20000 in
theorem t_Tape_close_2 {N B C : Nat × FT} : fw_S s_Tape_close [(0, 3)] 23 rvS N B C := fs_rv dX9_close_23
set_option maxRecDepth 20000 in
theorem C_Tape_close : fw_C LX yX9_close cX9_close 1 none 3 [3] (none) m_Tape_close := fm_v (d := 3) (N := (0, [])) (B := (0, [])) (C := (0, [])) LX_ok (by decide +kernel) (show fw_S s_Tape_close _ 0 b_Tape_close _ _ _ from (fs_seq (fs_if t_Tape_close_0 t_Tape_close_1 (fs_skip rfl)) t_Tape_close_2)) (by decide)
/-! DyerBells$RiverText.readLines -/
abbrev s_RiverText_readLines : SI := (LX, RX4, cX4_readLines, 3, 6, some 0)
set_option maxRecDepth 20000 in
theorem t_RiverText_readLines_0 {B C : Nat × FT} : fw_S s_RiverText_readLines [(0, 3), (1, 39)] 0 (stS 2 (cE 0)) (2, [(0, 3), (1, 39), (2, 0)]) B C := fs_istn (fe_iconst dX4_readLines_0) dX4_readLines_1 (by decide) rfl
set_option maxRecDepth 20000 in
theorem t_RiverText_readLines_1 : fw_B s_RiverText_readLines [(0, 3), (1, 39), (2, 0)] 0 2 16 159 (andB (nB (cB 3 (vE 2) (cE 900))) (nB (zB 0 (clE m_Tape_goesOn [(cE 0)])))) := (fb_and (fb_not (fb_icmp_ge (fe_iloadn 2 rfl dX4_readLines_2) (fe_sipush dX4_readLines_3) dX4_readLines_6 rfl)) (fb_not (fb_if_eq (fe_callV (fa_cons (fe_aloadn 0 rfl dX4_readLines_9) fa_nil) C_Tape_goesOn lv_RX4_9 lx_1 rfl rfl (by decide) (by decide) (by decide) dX4_readLines_10) dX4_readLines_13 rfl)))
set_option maxRecDepth 20000 in
theorem t_RiverText_readLines_2 : fw_B s_RiverText_readLines [(0, 3), (1, 39), (2, 0)] 0 16 26 34 (nB (zB 0 (clE m_Tape_isWord [(cE 0), (cE 491327153000)]))) := (fb_not (fb_if_eq (fe_callV (fa_cons (fe_aloadn 0 rfl dX4_readLines_16) (fa_cons (fe_ldc2 dX4_readLines_17 wk_RX4_15) fa_nil)) C_Tape_isWord lv_RX4_17 lx_1 rfl rfl (by decide) (by decide) (by decide) dX4_readLines_20) dX4_readLines_23 rfl))
set_option maxRecDepth 20000 in
theorem t_RiverText_readLines_3 {B C : Nat × FT} : fw_S s_RiverText_readLines [(0, 3), (1, 39), (2, 0)] 26 (exS (clE m_RiverText_readReach [(cE 0), (cE 0)])) (31, [(0, 3), (1, 39), (2, 0)]) B C := fs_callS (t := 0) (fa_cons (fe_aloadn 0 rfl dX4_readLines_26) (fa_cons (fe_aloadn 1 rfl dX4_readLines_27) fa_nil)) C_RiverText_readReach ls_RX4_21 rfl (by decide) (by decide) dX4_readLines_28 rfl
set_option maxRecDepth 20000 in
theorem t_RiverText_readLines_4 : fw_B s_RiverText_readLines [(0, 3), (1, 39), (2, 0)] 0 34 44 52 (nB (zB 0 (clE m_Tape_isWord [(cE 0), (cE 109330211763570)]))) := (fb_not (fb_if_eq (fe_callV (fa_cons (fe_aloadn 0 rfl dX4_readLines_34) (fa_cons (fe_ldc2 dX4_readLines_35 wk_RX4_27) fa_nil)) C_Tape_isWord lv_RX4_17 lx_1 rfl rfl (by decide) (by decide) (by decide) dX4_readLines_38) dX4_readLines_41 rfl))
set_option maxRecDepth 20000 in
theorem t_RiverText_readLines_5 {B C : Nat × FT} : fw_S s_RiverText_readLines [(0, 3), (1, 39), (2, 0)] 44 (exS (clE m_RiverText_readColour [(cE 0), (cE 0)])) (49, [(0, 3), (1, 39), (2, 0)]) B C := fs_callS (t := 0) (fa_cons (fe_aloadn 0 rfl dX4_readLines_44) (fa_cons (fe_aloadn 1 rfl dX4_readLines_45) fa_nil)) C_RiverText_readColour ls_RX4_29 rfl (by decide) (by decide) dX4_readLines_46 rfl
set_option maxRecDepth 20000 in
theorem t_RiverText_readLines_6 : fw_B s_RiverText_readLines [(0, 3), (1, 39), (2, 0)] 0 52 62 70 (nB (zB 0 (clE m_Tape_isWord [(cE 0), (cE 444351474788)]))) := (fb_not (fb_if_eq (fe_callV (fa_cons (fe_aloadn 0 rfl dX4_readLines_52) (fa_cons (fe_ldc2 dX4_readLines_53 wk_RX4_32) fa_nil)) C_Tape_isWord lv_RX4_17 lx_1 rfl rfl (by decide) (by decide) (by decide) dX4_readLines_56) dX4_readLines_59 rfl))
set_option maxRecDepth 20000 in
theorem t_RiverText_readLines_7 {B C : Nat × FT} : fw_S s_RiverText_readLines [(0, 3), (1, 39), (2, 0)] 62 (exS (clE m_RiverText_readGuild [(cE 0), (cE 0)])) (67, [(0, 3), (1, 39), (2, 0)]) B C := fs_callS (t := 0) (fa_cons (fe_aloadn 0 rfl dX4_readLines_62) (fa_cons (fe_aloadn 1 rfl dX4_readLines_63) fa_nil)) C_RiverText_readGuild ls_RX4_34 rfl (by decide) (by decide) dX4_readLines_64 rfl
set_option maxRecDepth 20000 in
theorem t_RiverText_readLines_8 : fw_B s_RiverText_readLines [(0, 3), (1, 39), (2, 0)] 0 70 80 88 (nB (zB 0 (clE m_Tape_isWord [(cE 0), (cE 1970496882)]))) := (fb_not (fb_if_eq (fe_callV (fa_cons (fe_aloadn 0 rfl dX4_readLines_70) (fa_cons (fe_ldc2 dX4_readLines_71 wk_RX4_37) fa_nil)) C_Tape_isWord lv_RX4_17 lx_1 rfl rfl (by decide) (by decide) (by decide) dX4_readLines_74) dX4_readLines_77 rfl))
set_option maxRecDepth 20000 in
theorem t_RiverText_readLines_9 {B C : Nat × FT} : fw_S s_RiverText_readLines [(0, 3), (1, 39), (2, 0)] 80 (exS (clE m_RiverText_readUser [(cE 0), (cE 0)])) (85, [(0, 3), (1, 39), (2, 0)]) B C := fs_callS (t := 0) (fa_cons (fe_aloadn 0 rfl dX4_readLines_80) (fa_cons (fe_aloadn 1 rfl dX4_readLines_81) fa_nil)) C_RiverText_readUser ls_RX4_39 rfl (by decide) (by decide) dX4_readLines_82 rfl
set_option maxRecDepth 20000 in
theorem t_RiverText_readLines_10 : fw_B s_RiverText_readLines [(0, 3), (1, 39), (2, 0)] 0 88 98 106 (nB (zB 0 (clE m_Tape_isWord [(cE 0), (cE 1718382455)]))) := (fb_not (fb_if_eq (fe_callV (fa_cons (fe_aloadn 0 rfl dX4_readLines_88) (fa_cons (fe_ldc2 dX4_readLines_89 wk_RX4_42) fa_nil)) C_Tape_isWord lv_RX4_17 lx_1 rfl rfl (by decide) (by decide) (by decide) dX4_readLines_92) dX4_readLines_95 rfl))
set_option maxRecDepth 20000 in
theorem t_RiverText_readLines_11 {B C : Nat × FT} : fw_S s_RiverText_readLines [(0, 3), (1, 39), (2, 0)] 98 (exS (clE m_RiverText_readFlow [(cE 0), (cE 0)])) (103, [(0, 3), (1, 39), (2, 0)]) B C := fs_callS (t := 0) (fa_cons (fe_aloadn 0 rfl dX4_readLines_98) (fa_cons (fe_aloadn 1 rfl dX4_readLines_99) fa_nil)) C_RiverText_readFlow ls_RX4_44 rfl (by decide) (by decide) dX4_readLines_100 rfl
set_option maxRecDepth 20000 in
theorem t_RiverText_readLines_12 : fw_B s_RiverText_readLines [(0, 3), (1, 39), (2, 0)] 0 106 116 124 (nB (zB 0 (clE m_Tape_isWord [(cE 0), (cE 439905906532)]))) := (fb_not (fb_if_eq (fe_callV (fa_cons (fe_aloadn 0 rfl dX4_readLines_106) (fa_cons (fe_ldc2 dX4_readLines_107 wk_RX4_47) fa_nil)) C_Tape_isWord lv_RX4_17 lx_1 rfl rfl (by decide) (by decide) (by decide) dX4_readLines_110) dX4_readLines_113 rfl))
set_option maxRecDepth 20000 in
theorem t_RiverText_readLines_13 {B C : Nat × FT} : fw_S s_RiverText_readLines [(0, 3), (1, 39), (2, 0)] 116 (exS (clE m_RiverText_readFlood [(cE 0), (cE 0)])) (121, [(0, 3), (1, 39), (2, 0)]) B C := fs_callS (t := 0) (fa_cons (fe_aloadn 0 rfl dX4_readLines_116) (fa_cons (fe_aloadn 1 rfl dX4_readLines_117) fa_nil)) C_RiverText_readFlood ls_RX4_49 rfl (by decide) (by decide) dX4_readLines_118 rfl
set_option maxRecDepth 20000 in
theorem t_RiverText_readLines_14 : fw_B s_RiverText_readLines [(0, 3), (1, 39), (2, 0)] 0 124 134 142 (nB (zB 0 (clE m_Tape_isWord [(cE 0), (cE 123580744625253)]))) := (fb_not (fb_if_eq (fe_callV (fa_cons (fe_aloadn 0 rfl dX4_readLines_124) (fa_cons (fe_ldc2 dX4_readLines_125 wk_RX4_52) fa_nil)) C_Tape_isWord lv_RX4_17 lx_1 rfl rfl (by decide) (by decide) (by decide) dX4_readLines_128) dX4_readLines_131 rfl))
set_option maxRecDepth 20000 in
theorem t_RiverText_readLines_15 {B C : Nat × FT} : fw_S s_RiverText_readLines [(0, 3), (1, 39), (2, 0)] 134 (exS (clE m_RiverText_readPebble [(cE 0), (cE 0)])) (139, [(0, 3), (1, 39), (2, 0)]) B C := fs_callS (t := 0) (fa_cons (fe_aloadn 0 rfl dX4_readLines_134) (fa_cons (fe_aloadn 1 rfl dX4_readLines_135) fa_nil)) C_RiverText_readPebble ls_RX4_54 rfl (by decide) (by decide) dX4_readLines_136 rfl
set_option maxRecDepth 20000 in
theorem t_RiverText_readLines_16 {B C : Nat × FT} : fw_S s_RiverText_readLines [(0, 3), (1, 39), (2, 0)] 142 (exS (clE m_Tape_refuse [(cE 0), (cE 1)])) (147, [(0, 3), (1, 39), (2, 0)]) B C := fs_callV (t := 0) (fa_cons (fe_aloadn 0 rfl dX4_readLines_142) (fa_cons (fe_iconst dX4_readLines_143) fa_nil)) C_Tape_refuse lv_RX4_57 lx_1 rfl rfl (by decide) (by decide) dX4_readLines_144 rfl
set_option maxRecDepth 20000 in
theorem t_RiverText_readLines_17 {B C : Nat × FT} : fw_S s_RiverText_readLines [(0, 3), (1, 39), (2, 0)] 147 (exS (clE m_Tape_takeSign [(cE 0), (cE 59)])) (153, [(0, 3), (1, 39), (2, 0)]) B C := fs_callV (t := 0) (fa_cons (fe_aloadn 0 rfl dX4_readLines_147) (fa_cons (fe_bipush dX4_readLines_148) fa_nil)) C_Tape_takeSign lv_RX4_61 lx_1 rfl rfl (by decide) (by decide) dX4_readLines_150 rfl
set_option maxRecDepth 20000 in
theorem t_RiverText_readLines_18 {B C : Nat × FT} : fw_S s_RiverText_readLines [(0, 3), (1, 39), (2, 0)] 153 (inS 2 1) (156, [(0, 3), (1, 39), (2, 0)]) B C := fs_inc (j := 2) rfl dX4_readLines_153 (by decide) rfl
set_option maxRecDepth 20000 in
theorem t_RiverText_readLines_19 {B C : Nat × FT} : fw_S s_RiverText_readLines [(0, 3), (1, 39), (2, 0)] 2 (whS (andB (nB (cB 3 (vE 2) (cE 900))) (nB (zB 0 (clE m_Tape_goesOn [(cE 0)])))) (sq (ifS (nB (zB 0 (clE m_Tape_isWord [(cE 0), (cE 491327153000)]))) (exS (clE m_RiverText_readReach [(cE 0), (cE 0)])) (ifS (nB (zB 0 (clE m_Tape_isWord [(cE 0), (cE 109330211763570)]))) (exS (clE m_RiverText_readColour [(cE 0), (cE 0)])) (ifS (nB (zB 0 (clE m_Tape_isWord [(cE 0), (cE 444351474788)]))) (exS (clE m_RiverText_readGuild [(cE 0), (cE 0)])) (ifS (nB (zB 0 (clE m_Tape_isWord [(cE 0), (cE 1970496882)]))) (exS (clE m_RiverText_readUser [(cE 0), (cE 0)])) (ifS (nB (zB 0 (clE m_Tape_isWord [(cE 0), (cE 1718382455)]))) (exS (clE m_RiverText_readFlow [(cE 0), (cE 0)])) (ifS (nB (zB 0 (clE m_Tape_isWord [(cE 0), (cE 439905906532)]))) (exS (clE m_RiverText_readFlood [(cE 0), (cE 0)])) (ifS (nB (zB 0 (clE m_Tape_isWord [(cE 0), (cE 123580744625253)]))) (exS (clE m_RiverText_readPebble [(cE 0), (cE 0)])) (exS (clE m_Tape_refuse [(cE 0), (cE 1)]))))))))) (sq (exS (clE m_Tape_takeSign [(cE 0), (cE 59)])) (inS 2 1))) skS FU) (159, [(0, 3), (1, 39), (2, 0)]) B C := fs_while t_RiverText_readLines_1 (fs_goto (fs_seq (fs_if t_RiverText_readLines_2 (fs_goto t_RiverText_readLines_3 dX4_readLines_31 rfl) (fs_if t_RiverText_readLines_4 (fs_goto t_RiverText_readLines_5 dX4_readLines_49 rfl) (fs_if t_RiverText_readLines_6 (fs_goto t_RiverText_readLines_7 dX4_readLines_67 rfl) (fs_if t_RiverText_readLines_8 (fs_goto t_RiverText_readLines_9 dX4_readLines_85 rfl) (fs_if t_RiverText_readLines_10 (fs_goto t_RiverText_readLines_11 dX4_readLines_103 rfl) (fs_if t_RiverText_readLines_12 (fs_goto t_RiverText_readLines_13 dX4_readLines_121 rfl) (fs_if t_RiverText_readLines_14 (fs_goto t_RiverText_readLines_15 dX4_readLines_139 rfl) t_RiverText_readLines_16))))))) (fs_seq t_RiverText_readLines_17 t_RiverText_readLines_18)) dX4_readLines_156 rfl) (fs_skip rfl)
set_option maxRecDepth 20000 in
theorem t_RiverText_readLines_20 {B C : Nat × FT} : fw_S s_RiverText_readLines [(0, 3), (1, 39), (2, 0)] 159 (exS (clE m_Tape_close [(cE 0)])) (163, [(0, 3), (1, 39), (2, 0)]) B C := fs_callV (t := 0) (fa_cons (fe_aloadn 0 rfl dX4_readLines_159) fa_nil) C_Tape_close lv_RX4_64 lx_1 rfl rfl (by decide) (by decide) dX4_readLines_160 rfl
set_option maxRecDepth 20000 in
theorem t_RiverText_readLines_21 {N B C : Nat × FT} : fw_S s_RiverText_readLines [(0, 3), (1, 39), (2, 0)] 163 (rtS (vE 2)) N B C := fs_ret (fe_iloadn 2 rfl dX4_readLines_163) dX4_readLines_164
set_option maxRecDepth 20000 in
theorem C_RiverText_readLines : fw_C LX yX4_readLines cX4_readLines 3 (some .int) 6 [3, 39] (some 0) m_RiverText_readLines := fm_i (d := 6) (N := (0, [])) (B := (0, [])) (C := (0, [])) LX_ok (by decide +kernel) (show fw_S s_RiverText_readLines _ 0 b_RiverText_readLines _ _ _ from (fs_seq t_RiverText_readLines_0 (fs_seq t_RiverText_readLines_19 (fs_seq t_RiverText_readLines_20 t_RiverText_readLines_21)))) (by decide)
/-! DyerBells.isRefused (this 0 ) -/
abbrev s_D_isRefused : SI := (LX, RX11, cX11_isRefused, 1, 1, some 0)
set_option maxRecDepth 20000 in
theorem t_D_isRefused_0 {B C : Nat × FT} : fw_S s_D_isRefused [(0, 2)] 0 (pfS 1 (cE 0) (thE (thE (cE 0) (cE 0)) (gE 74))) (11, [(0, 2)]) B C := fs_put (fe_aloadn 0 rfl dX11_isRefused_0) (fe_getI (fe_getR (fe_aloadn 0 rfl dX11_isRefused_1) fl_RX11_12 lx_0 rfl dX11_isRefused_2) fl_RX11_361 lx_1 rfl dX11_isRefused_5) fp_RX11_98 lx_0 rfl dX11_isRefused_8 rfl
set_option maxRecDepth 20000 in
theorem t_D_isRefused_1 {N B C : Nat × FT} : fw_S s_D_isRefused [(0, 2)] 11 (rtS (kE (nB (zB 0 (thE (cE 0) (gE 1)))) (cE 1) (cE 0))) N B C := fs_ret (fe_ternG (fb_not (fb_if_eq (fe_getI (fe_aloadn 0 rfl dX11_isRefused_11) fl_RX11_98 lx_0 rfl dX11_isRefused_12) dX11_isRefused_15 rfl)) (fe_gt (fe_iconst dX11_isRefused_18) dX11_isRefused_19 rfl) (fe_iconst dX11_isRefused_22)) dX11_isRefused_23
set_option maxRecDepth 20000 in
theorem C_D_isRefused : fw_C LX yX11_isRefused cX11_isRefused 1 (some .boolean) 1 [2] (some 0) m_D_isRefused := fm_z (d := 1) (N := (0, [])) (B := (0, [])) (C := (0, [])) LX_ok (by decide +kernel) (show fw_S s_D_isRefused _ 0 b_D_isRefused _ _ _ from (fs_seq t_D_isRefused_0 t_D_isRefused_1)) (by decide)
/-! DyerBells$Names.copyFrom (this 5 now.river.names) -/
abbrev s_Names_copyFrom : SI := (LX, RX0, cX0_copyFrom, 2, 1, none)
set_option maxRecDepth 20000 in
theorem t_Names_copyFrom_0 {B C : Nat × FT} : fw_S s_Names_copyFrom [(0, 7), (1, 40)] 0 (pfS 320 (cE 0) (thE (cE 0) (gE 2432))) (8, [(0, 7), (1, 40)]) B C := fs_put (fe_aloadn 0 rfl dX0_copyFrom_0) (fe_getI (fe_aloadn 1 rfl dX0_copyFrom_1) fl_RX0_22 lx_38 rfl dX0_copyFrom_2) fp_RX0_22 lx_5 rfl dX0_copyFrom_5 rfl
set_option maxRecDepth 20000 in
theorem t_Names_copyFrom_1 {B C : Nat × FT} : fw_S s_Names_copyFrom [(0, 7), (1, 40)] 8 (cpS 2496 26 384 26 [(thE (cE 0) (cE 0)), (cE 0), (thE (cE 0) (cE 0)), (cE 0), (cE 26)]) (23, [(0, 7), (1, 40)]) B C := fs_cpyL (fa_cons (fe_getR (fe_aloadn 1 rfl dX0_copyFrom_8) fl_RX0_11 lx_38 rfl dX0_copyFrom_9) (fa_cons (fe_iconst dX0_copyFrom_12) (fa_cons (fe_getR (fe_aloadn 0 rfl dX0_copyFrom_13) fl_RX0_11 lx_5 rfl dX0_copyFrom_14) (fa_cons (fe_iconst dX0_copyFrom_17) (fa_cons (fe_bipush dX0_copyFrom_18) fa_nil))))) lx_39 lx_6 ac_RX0_26 (by decide) dX0_copyFrom_20 rfl
set_option maxRecDepth 20000 in
theorem t_Names_copyFrom_2 {B C : Nat × FT} : fw_S s_Names_copyFrom [(0, 7), (1, 40)] 23 (cpS 2560 26 448 26 [(thE (cE 0) (cE 0)), (cE 0), (thE (cE 0) (cE 0)), (cE 0), (cE 26)]) (38, [(0, 7), (1, 40)]) B C := fs_cpy (fa_cons (fe_getR (fe_aloadn 1 rfl dX0_copyFrom_23) fl_RX0_15 lx_38 rfl dX0_copyFrom_24) (fa_cons (fe_iconst dX0_copyFrom_27) (fa_cons (fe_getR (fe_aloadn 0 rfl dX0_copyFrom_28) fl_RX0_15 lx_5 rfl dX0_copyFrom_29) (fa_cons (fe_iconst dX0_copyFrom_32) (fa_cons (fe_bipush dX0_copyFrom_33) fa_nil))))) lx_40 lx_7 ac_RX0_26 (by decide) dX0_copyFrom_35 rfl
set_option maxRecDepth 20000 in
theorem t_Names_copyFrom_3 {B C : Nat × FT} : fw_S s_Names_copyFrom [(0, 7), (1, 40)] 38 (cpS 2624 26 512 26 [(thE (cE 0) (cE 0)), (cE 0), (thE (cE 0) (cE 0)), (cE 0), (cE 26)]) (53, [(0, 7), (1, 40)]) B C := fs_cpy (fa_cons (fe_getR (fe_aloadn 1 rfl dX0_copyFrom_38) fl_RX0_19 lx_38 rfl dX0_copyFrom_39) (fa_cons (fe_iconst dX0_copyFrom_42) (fa_cons (fe_getR (fe_aloadn 0 rfl dX0_copyFrom_43) fl_RX0_19 lx_5 rfl dX0_copyFrom_44) (fa_cons (fe_iconst dX0_copyFrom_47) (fa_cons (fe_bipush dX0_copyFrom_48) fa_nil))))) lx_41 lx_8 ac_RX0_26 (by decide) dX0_copyFrom_50 rfl
set_option maxRecDepth 20000 in
theorem t_Names_copyFrom_4 {N B C : Nat × FT} : fw_S s_Names_copyFrom [(0, 7), (1, 40)] 53 rvS N B C := fs_rv dX0_copyFrom_53
set_option maxRecDepth 20000 in
theorem C_Names_copyFrom : fw_C LX yX0_copyFrom cX0_copyFrom 2 none 1 [7, 40] (none) m_Names_copyFrom := fm_v (d := 1) (N := (0, [])) (B := (0, [])) (C := (0, [])) LX_ok (by decide +kernel) (show fw_S s_Names_copyFrom _ 0 b_Names_copyFrom _ _ _ from (fs_seq t_Names_copyFrom_0 (fs_seq t_Names_copyFrom_1 (fs_seq t_Names_copyFrom_2 (fs_seq t_Names_copyFrom_3 t_Names_copyFrom_4))))) (by decide)
