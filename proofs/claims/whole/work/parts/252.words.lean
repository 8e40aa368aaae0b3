theorem in_X11 : ∀ w ∈ u_ws RX11 TX11 17, w ∈ lw_tb := by
  have h : ((u_ws RX11 TX11 17).all fun w => decide (w ∈ lw_tbl) && goodWord w) = true := by decide +kernel
  intro w hw
  have h1 := List.all_eq_true.mp h w hw
  simp only [Bool.and_eq_true, decide_eq_true_eq] at h1
  exact lw_tb_of h1.1 h1.2
set_option maxRecDepth 20000 in
theorem wf_RX11_12 : Cond.fieldLink RX11 12 (TX11 0).1 (TX11 0).2.1 (TX11 0).2.2.1 ∈ lw_tb := tb_at 391 rfl rfl
theorem fl_RX11_12 : fw_fl RX11 12 9 0 := ⟨RX11, TX11, 17, rfl, in_X11, by decide, wf_RX11_12⟩
theorem in_X9 : ∀ w ∈ u_ws RX9 TX9 12, w ∈ lw_tb := by
  have h : ((u_ws RX9 TX9 12).all fun w => decide (w ∈ lw_tbl) && goodWord w) = true := by decide +kernel
  intro w hw
  have h1 := List.all_eq_true.mp h w hw
  simp only [Bool.and_eq_true, decide_eq_true_eq] at h1
  exact lw_tb_of h1.1 h1.2
set_option maxRecDepth 20000 in
theorem wf_RX11_63 : Cond.fieldLink RX11 63 (TX9 1).1 (TX9 1).2.1 (TX9 1).2.2.1 ∈ lw_tb := tb_at 36 rfl rfl
theorem fl_RX11_63 : fw_fl RX11 63 7 1 := ⟨RX9, TX9, 12, rfl, in_X9, by decide, wf_RX11_63⟩
set_option maxRecDepth 20000 in
theorem wf_RX9_15 : Cond.fieldLink RX9 15 (TX9 1).1 (TX9 1).2.1 (TX9 1).2.2.1 ∈ lw_tb := tb_at 37 rfl rfl
theorem fl_RX9_15 : fw_fl RX9 15 7 1 := ⟨RX9, TX9, 12, rfl, in_X9, by decide, wf_RX9_15⟩
set_option maxRecDepth 20000 in
theorem wf_RX9_9 : Cond.fieldLink RX9 9 (TX9 0).1 (TX9 0).2.1 (TX9 0).2.2.1 ∈ lw_tb := tb_at 35 rfl rfl
theorem fl_RX9_9 : fw_fl RX9 9 7 0 := ⟨RX9, TX9, 12, rfl, in_X9, by decide, wf_RX9_9⟩
theorem fp_RX9_15 : fw_fp RX9 15 7 1 .int := ⟨RX9, TX9, 12, tyX9, rfl, in_X9, by decide, wf_RX9_15, tyX9_ok, nmX9, rfl, rfl⟩
set_option maxRecDepth 20000 in
theorem wl_RX11_67 : Cond.methodLink RX11 67 yX9_put ∈ lw_tb := tb_at 447 rfl rfl
set_option maxRecDepth 20000 in
theorem wi_X9_put : Cond.instanceMethod yX9_put ∈ lw_tb := tb_at 448 rfl rfl
set_option maxRecDepth 20000 in
theorem wx_X9_put : Cond.selects yX9_put.cls yX9_put yX9_put ∈ lw_tb := tb_at 449 rfl rfl
set_option maxRecDepth 20000 in
theorem wn_RX9 : Cond.initialized RX9 ∈ lw_tb := tb_at 2 rfl rfl
set_option maxRecDepth 20000 in
theorem wc_X9_put : Cond.code yX9_put cX9_put 3 none ∈ lw_tb := tb_at 450 rfl rfl
theorem lv_RX11_67 : fw_lv RX11 67 yX9_put cX9_put 3 none 1 := fw_lv_mk wl_RX11_67 wi_X9_put wx_X9_put wn_RX9 wc_X9_put ⟨by decide +kernel, by decide +kernel, by decide +kernel⟩
theorem fp_RX11_63 : fw_fp RX11 63 7 1 .int := ⟨RX9, TX9, 12, tyX9, rfl, in_X9, by decide, wf_RX11_63, tyX9_ok, nmX9, rfl, rfl⟩
set_option maxRecDepth 20000 in
theorem wf_RX11_23 : Cond.fieldLink RX11 23 (TX11 3).1 (TX11 3).2.1 (TX11 3).2.2.1 ∈ lw_tb := tb_at 394 rfl rfl
theorem fl_RX11_23 : fw_fl RX11 23 9 3 := ⟨RX11, TX11, 17, rfl, in_X11, by decide, wf_RX11_23⟩
theorem in_X5 : ∀ w ∈ u_ws RX5 TX5 4, w ∈ lw_tb := by
  have h : ((u_ws RX5 TX5 4).all fun w => decide (w ∈ lw_tbl) && goodWord w) = true := by decide +kernel
  intro w hw
  have h1 := List.all_eq_true.mp h w hw
  simp only [Bool.and_eq_true, decide_eq_true_eq] at h1
  exact lw_tb_of h1.1 h1.2
set_option maxRecDepth 20000 in
theorem wf_RX5_10 : Cond.fieldLink RX5 10 (TX5 0).1 (TX5 0).2.1 (TX5 0).2.2.1 ∈ lw_tb := tb_at 304 rfl rfl
theorem fl_RX5_10 : fw_fl RX5 10 4 0 := ⟨RX5, TX5, 4, rfl, in_X5, by decide, wf_RX5_10⟩
theorem in_X3 : ∀ w ∈ u_ws RX3 TX3 20, w ∈ lw_tb := by
  have h : ((u_ws RX3 TX3 20).all fun w => decide (w ∈ lw_tbl) && goodWord w) = true := by decide +kernel
  intro w hw
  have h1 := List.all_eq_true.mp h w hw
  simp only [Bool.and_eq_true, decide_eq_true_eq] at h1
  exact lw_tb_of h1.1 h1.2
set_option maxRecDepth 20000 in
theorem wf_RX3_12 : Cond.fieldLink RX3 12 (TX3 0).1 (TX3 0).2.1 (TX3 0).2.2.1 ∈ lw_tb := tb_at 114 rfl rfl
theorem fl_RX3_12 : fw_fl RX3 12 3 0 := ⟨RX3, TX3, 20, rfl, in_X3, by decide, wf_RX3_12⟩
theorem in_X0 : ∀ w ∈ u_ws RX0 TX0 4, w ∈ lw_tb := by
  have h : ((u_ws RX0 TX0 4).all fun w => decide (w ∈ lw_tbl) && goodWord w) = true := by decide +kernel
  intro w hw
  have h1 := List.all_eq_true.mp h w hw
  simp only [Bool.and_eq_true, decide_eq_true_eq] at h1
  exact lw_tb_of h1.1 h1.2
set_option maxRecDepth 20000 in
theorem wf_RX3_62 : Cond.fieldLink RX3 62 (TX0 0).1 (TX0 0).2.1 (TX0 0).2.2.1 ∈ lw_tb := tb_at 99 rfl rfl
theorem fl_RX3_62 : fw_fl RX3 62 0 0 := ⟨RX0, TX0, 4, rfl, in_X0, by decide, wf_RX3_62⟩
theorem fp_RX3_62 : fw_fp RX3 62 0 0 .int := ⟨RX0, TX0, 4, tyX0, rfl, in_X0, by decide, wf_RX3_62, tyX0_ok, nmX0, rfl, rfl⟩
set_option maxRecDepth 20000 in
theorem wf_RX3_64 : Cond.fieldLink RX3 64 (TX3 1).1 (TX3 1).2.1 (TX3 1).2.2.1 ∈ lw_tb := tb_at 117 rfl rfl
theorem fl_RX3_64 : fw_fl RX3 64 3 1 := ⟨RX3, TX3, 20, rfl, in_X3, by decide, wf_RX3_64⟩
theorem fp_RX3_64 : fw_fp RX3 64 3 1 .int := ⟨RX3, TX3, 20, tyX3, rfl, in_X3, by decide, wf_RX3_64, tyX3_ok, nmX3, rfl, rfl⟩
set_option maxRecDepth 20000 in
theorem wf_RX3_67 : Cond.fieldLink RX3 67 (TX3 4).1 (TX3 4).2.1 (TX3 4).2.2.1 ∈ lw_tb := tb_at 130 rfl rfl
theorem fl_RX3_67 : fw_fl RX3 67 3 4 := ⟨RX3, TX3, 20, rfl, in_X3, by decide, wf_RX3_67⟩
theorem fp_RX3_67 : fw_fp RX3 67 3 4 .int := ⟨RX3, TX3, 20, tyX3, rfl, in_X3, by decide, wf_RX3_67, tyX3_ok, nmX3, rfl, rfl⟩
set_option maxRecDepth 20000 in
theorem wf_RX3_70 : Cond.fieldLink RX3 70 (TX3 5).1 (TX3 5).2.1 (TX3 5).2.2.1 ∈ lw_tb := tb_at 135 rfl rfl
theorem fl_RX3_70 : fw_fl RX3 70 3 5 := ⟨RX3, TX3, 20, rfl, in_X3, by decide, wf_RX3_70⟩
theorem fp_RX3_70 : fw_fp RX3 70 3 5 .int := ⟨RX3, TX3, 20, tyX3, rfl, in_X3, by decide, wf_RX3_70, tyX3_ok, nmX3, rfl, rfl⟩
set_option maxRecDepth 20000 in
theorem wf_RX3_73 : Cond.fieldLink RX3 73 (TX3 9).1 (TX3 9).2.1 (TX3 9).2.2.1 ∈ lw_tb := tb_at 152 rfl rfl
theorem fl_RX3_73 : fw_fl RX3 73 3 9 := ⟨RX3, TX3, 20, rfl, in_X3, by decide, wf_RX3_73⟩
theorem fp_RX3_73 : fw_fp RX3 73 3 9 .int := ⟨RX3, TX3, 20, tyX3, rfl, in_X3, by decide, wf_RX3_73, tyX3_ok, nmX3, rfl, rfl⟩
set_option maxRecDepth 20000 in
theorem wf_RX3_76 : Cond.fieldLink RX3 76 (TX3 16).1 (TX3 16).2.1 (TX3 16).2.2.1 ∈ lw_tb := tb_at 176 rfl rfl
theorem fl_RX3_76 : fw_fl RX3 76 3 16 := ⟨RX3, TX3, 20, rfl, in_X3, by decide, wf_RX3_76⟩
theorem fp_RX3_76 : fw_fp RX3 76 3 16 .int := ⟨RX3, TX3, 20, tyX3, rfl, in_X3, by decide, wf_RX3_76, tyX3_ok, nmX3, rfl, rfl⟩
set_option maxRecDepth 20000 in
theorem wf_RX3_49 : Cond.fieldLink RX3 49 (TX3 15).1 (TX3 15).2.1 (TX3 15).2.2.1 ∈ lw_tb := tb_at 174 rfl rfl
theorem fl_RX3_49 : fw_fl RX3 49 3 15 := ⟨RX3, TX3, 20, rfl, in_X3, by decide, wf_RX3_49⟩
theorem fp_RX3_49 : fw_fp RX3 49 3 15 .int := ⟨RX3, TX3, 20, tyX3, rfl, in_X3, by decide, wf_RX3_49, tyX3_ok, nmX3, rfl, rfl⟩
set_option maxRecDepth 20000 in
theorem wf_RX3_46 : Cond.fieldLink RX3 46 (TX3 14).1 (TX3 14).2.1 (TX3 14).2.2.1 ∈ lw_tb := tb_at 172 rfl rfl
theorem fl_RX3_46 : fw_fl RX3 46 3 14 := ⟨RX3, TX3, 20, rfl, in_X3, by decide, wf_RX3_46⟩
set_option maxRecDepth 20000 in
theorem wf_RX3_31 : Cond.fieldLink RX3 31 (TX3 8).1 (TX3 8).2.1 (TX3 8).2.2.1 ∈ lw_tb := tb_at 147 rfl rfl
theorem fl_RX3_31 : fw_fl RX3 31 3 8 := ⟨RX3, TX3, 20, rfl, in_X3, by decide, wf_RX3_31⟩
set_option maxRecDepth 20000 in
theorem wf_RX3_43 : Cond.fieldLink RX3 43 (TX3 13).1 (TX3 13).2.1 (TX3 13).2.2.1 ∈ lw_tb := tb_at 168 rfl rfl
theorem fl_RX3_43 : fw_fl RX3 43 3 13 := ⟨RX3, TX3, 20, rfl, in_X3, by decide, wf_RX3_43⟩
set_option maxRecDepth 20000 in
theorem wl_RX5_37 : Cond.methodLink RX5 37 yX3_forget ∈ lw_tb := tb_at 463 rfl rfl
set_option maxRecDepth 20000 in
theorem wi_X3_forget : Cond.instanceMethod yX3_forget ∈ lw_tb := tb_at 464 rfl rfl
set_option maxRecDepth 20000 in
theorem wx_X3_forget : Cond.selects yX3_forget.cls yX3_forget yX3_forget ∈ lw_tb := tb_at 465 rfl rfl
set_option maxRecDepth 20000 in
theorem wn_RX3 : Cond.initialized RX3 ∈ lw_tb := tb_at 4 rfl rfl
set_option maxRecDepth 20000 in
theorem wc_X3_forget : Cond.code yX3_forget cX3_forget 2 none ∈ lw_tb := tb_at 466 rfl rfl
theorem lv_RX5_37 : fw_lv RX5 37 yX3_forget cX3_forget 2 none 0 := fw_lv_mk wl_RX5_37 wi_X3_forget wx_X3_forget wn_RX3 wc_X3_forget ⟨by decide +kernel, by decide +kernel, by decide +kernel⟩
set_option maxRecDepth 20000 in
theorem wf_RX5_19 : Cond.fieldLink RX5 19 (TX5 1).1 (TX5 1).2.1 (TX5 1).2.2.1 ∈ lw_tb := tb_at 306 rfl rfl
theorem fl_RX5_19 : fw_fl RX5 19 4 1 := ⟨RX5, TX5, 4, rfl, in_X5, by decide, wf_RX5_19⟩
theorem in_X1 : ∀ w ∈ u_ws RX1 TX1 4, w ∈ lw_tb := by
  have h : ((u_ws RX1 TX1 4).all fun w => decide (w ∈ lw_tbl) && goodWord w) = true := by decide +kernel
  intro w hw
  have h1 := List.all_eq_true.mp h w hw
  simp only [Bool.and_eq_true, decide_eq_true_eq] at h1
  exact lw_tb_of h1.1 h1.2
set_option maxRecDepth 20000 in
theorem wf_RX1_21 : Cond.fieldLink RX1 21 (TX1 0).1 (TX1 0).2.1 (TX1 0).2.2.1 ∈ lw_tb := tb_at 232 rfl rfl
theorem fl_RX1_21 : fw_fl RX1 21 1 0 := ⟨RX1, TX1, 4, rfl, in_X1, by decide, wf_RX1_21⟩
theorem fp_RX1_21 : fw_fp RX1 21 1 0 .int := ⟨RX1, TX1, 4, tyX1, rfl, in_X1, by decide, wf_RX1_21, tyX1_ok, nmX1, rfl, rfl⟩
set_option maxRecDepth 20000 in
theorem wl_RX5_40 : Cond.methodLink RX5 40 yX1_forget ∈ lw_tb := tb_at 467 rfl rfl
set_option maxRecDepth 20000 in
theorem wi_X1_forget : Cond.instanceMethod yX1_forget ∈ lw_tb := tb_at 468 rfl rfl
set_option maxRecDepth 20000 in
theorem wx_X1_forget : Cond.selects yX1_forget.cls yX1_forget yX1_forget ∈ lw_tb := tb_at 469 rfl rfl
set_option maxRecDepth 20000 in
theorem wn_RX1 : Cond.initialized RX1 ∈ lw_tb := tb_at 6 rfl rfl
set_option maxRecDepth 20000 in
theorem wc_X1_forget : Cond.code yX1_forget cX1_forget 1 none ∈ lw_tb := tb_at 470 rfl rfl
theorem lv_RX5_40 : fw_lv RX5 40 yX1_forget cX1_forget 1 none 0 := fw_lv_mk wl_RX5_40 wi_X1_forget wx_X1_forget wn_RX1 wc_X1_forget ⟨by decide +kernel, by decide +kernel, by decide +kernel⟩
set_option maxRecDepth 20000 in
theorem wf_RX5_26 : Cond.fieldLink RX5 26 (TX5 2).1 (TX5 2).2.1 (TX5 2).2.2.1 ∈ lw_tb := tb_at 308 rfl rfl
theorem fl_RX5_26 : fw_fl RX5 26 4 2 := ⟨RX5, TX5, 4, rfl, in_X5, by decide, wf_RX5_26⟩
theorem in_X8 : ∀ w ∈ u_ws RX8 TX8 4, w ∈ lw_tb := by
  have h : ((u_ws RX8 TX8 4).all fun w => decide (w ∈ lw_tbl) && goodWord w) = true := by decide +kernel
  intro w hw
  have h1 := List.all_eq_true.mp h w hw
  simp only [Bool.and_eq_true, decide_eq_true_eq] at h1
  exact lw_tb_of h1.1 h1.2
set_option maxRecDepth 20000 in
theorem wf_RX5_41 : Cond.fieldLink RX5 41 (TX8 0).1 (TX8 0).2.1 (TX8 0).2.2.1 ∈ lw_tb := tb_at 260 rfl rfl
theorem fl_RX5_41 : fw_fl RX5 41 6 0 := ⟨RX8, TX8, 4, rfl, in_X8, by decide, wf_RX5_41⟩
theorem fp_RX5_41 : fw_fp RX5 41 6 0 .int := ⟨RX8, TX8, 4, tyX8, rfl, in_X8, by decide, wf_RX5_41, tyX8_ok, nmX8, rfl, rfl⟩
set_option maxRecDepth 20000 in
theorem wf_RX5_33 : Cond.fieldLink RX5 33 (TX5 3).1 (TX5 3).2.1 (TX5 3).2.2.1 ∈ lw_tb := tb_at 310 rfl rfl
theorem fl_RX5_33 : fw_fl RX5 33 4 3 := ⟨RX5, TX5, 4, rfl, in_X5, by decide, wf_RX5_33⟩
theorem in_X6 : ∀ w ∈ u_ws RX6 TX6 7, w ∈ lw_tb := by
  have h : ((u_ws RX6 TX6 7).all fun w => decide (w ∈ lw_tbl) && goodWord w) = true := by decide +kernel
  intro w hw
  have h1 := List.all_eq_true.mp h w hw
  simp only [Bool.and_eq_true, decide_eq_true_eq] at h1
  exact lw_tb_of h1.1 h1.2
set_option maxRecDepth 20000 in
theorem wf_RX6_27 : Cond.fieldLink RX6 27 (TX6 0).1 (TX6 0).2.1 (TX6 0).2.2.1 ∈ lw_tb := tb_at 280 rfl rfl
theorem fl_RX6_27 : fw_fl RX6 27 5 0 := ⟨RX6, TX6, 7, rfl, in_X6, by decide, wf_RX6_27⟩
theorem fp_RX6_27 : fw_fp RX6 27 5 0 .int := ⟨RX6, TX6, 7, tyX6, rfl, in_X6, by decide, wf_RX6_27, tyX6_ok, nmX6, rfl, rfl⟩
set_option maxRecDepth 20000 in
theorem wf_RX6_31 : Cond.fieldLink RX6 31 (TX6 1).1 (TX6 1).2.1 (TX6 1).2.2.1 ∈ lw_tb := tb_at 283 rfl rfl
theorem fl_RX6_31 : fw_fl RX6 31 5 1 := ⟨RX6, TX6, 7, rfl, in_X6, by decide, wf_RX6_31⟩
theorem fp_RX6_31 : fw_fp RX6 31 5 1 .int := ⟨RX6, TX6, 7, tyX6, rfl, in_X6, by decide, wf_RX6_31, tyX6_ok, nmX6, rfl, rfl⟩
set_option maxRecDepth 20000 in
theorem wl_RX5_44 : Cond.methodLink RX5 44 yX6_forget ∈ lw_tb := tb_at 471 rfl rfl
set_option maxRecDepth 20000 in
theorem wi_X6_forget : Cond.instanceMethod yX6_forget ∈ lw_tb := tb_at 472 rfl rfl
set_option maxRecDepth 20000 in
theorem wx_X6_forget : Cond.selects yX6_forget.cls yX6_forget yX6_forget ∈ lw_tb := tb_at 473 rfl rfl
set_option maxRecDepth 20000 in
theorem wn_RX6 : Cond.initialized RX6 ∈ lw_tb := tb_at 8 rfl rfl
set_option maxRecDepth 20000 in
theorem wc_X6_forget : Cond.code yX6_forget cX6_forget 1 none ∈ lw_tb := tb_at 474 rfl rfl
theorem lv_RX5_44 : fw_lv RX5 44 yX6_forget cX6_forget 1 none 0 := fw_lv_mk wl_RX5_44 wi_X6_forget wx_X6_forget wn_RX6 wc_X6_forget ⟨by decide +kernel, by decide +kernel, by decide +kernel⟩
set_option maxRecDepth 20000 in
theorem wl_RX11_71 : Cond.methodLink RX11 71 yX5_forget ∈ lw_tb := tb_at 459 rfl rfl
set_option maxRecDepth 20000 in
theorem wi_X5_forget : Cond.instanceMethod yX5_forget ∈ lw_tb := tb_at 460 rfl rfl
set_option maxRecDepth 20000 in
theorem wx_X5_forget : Cond.selects yX5_forget.cls yX5_forget yX5_forget ∈ lw_tb := tb_at 461 rfl rfl
set_option maxRecDepth 20000 in
theorem wn_RX5 : Cond.initialized RX5 ∈ lw_tb := tb_at 3 rfl rfl
set_option maxRecDepth 20000 in
theorem wc_X5_forget : Cond.code yX5_forget cX5_forget 1 none ∈ lw_tb := tb_at 462 rfl rfl
theorem lv_RX11_71 : fw_lv RX11 71 yX5_forget cX5_forget 1 none 0 := fw_lv_mk wl_RX11_71 wi_X5_forget wx_X5_forget wn_RX5 wc_X5_forget ⟨by decide +kernel, by decide +kernel, by decide +kernel⟩
set_option maxRecDepth 20000 in
theorem wf_RX9_19 : Cond.fieldLink RX9 19 (TX9 2).1 (TX9 2).2.1 (TX9 2).2.2.1 ∈ lw_tb := tb_at 38 rfl rfl
theorem fl_RX9_19 : fw_fl RX9 19 7 2 := ⟨RX9, TX9, 12, rfl, in_X9, by decide, wf_RX9_19⟩
theorem fp_RX9_19 : fw_fp RX9 19 7 2 .int := ⟨RX9, TX9, 12, tyX9, rfl, in_X9, by decide, wf_RX9_19, tyX9_ok, nmX9, rfl, rfl⟩
set_option maxRecDepth 20000 in
theorem wl_RX9_22 : Cond.methodLink RX9 22 Lib.Math.min.name ∈ lw_tb := tb_at 479 rfl rfl
set_option maxRecDepth 20000 in
theorem ws_math_min : Cond.static Lib.Math.min.name ∈ lw_tb := tb_at 480 rfl rfl
set_option maxRecDepth 20000 in
theorem wn_math : Cond.initialized "java/lang/Math" ∈ lw_tb := tb_at 12 rfl rfl
set_option maxRecDepth 20000 in
theorem wc_math_min : Cond.code Lib.Math.min.name Lib.Math.min.code 2 (some .int) ∈ lw_tb := tb_at 481 rfl rfl
theorem mm_RX9_22 : fw_mn RX9 22 := ⟨wl_RX9_22, ws_math_min, wn_math, wc_math_min⟩
set_option maxRecDepth 20000 in
theorem wf_RX9_28 : Cond.fieldLink RX9 28 (TX9 3).1 (TX9 3).2.1 (TX9 3).2.2.1 ∈ lw_tb := tb_at 39 rfl rfl
theorem fl_RX9_28 : fw_fl RX9 28 7 3 := ⟨RX9, TX9, 12, rfl, in_X9, by decide, wf_RX9_28⟩
theorem fp_RX9_28 : fw_fp RX9 28 7 3 .int := ⟨RX9, TX9, 12, tyX9, rfl, in_X9, by decide, wf_RX9_28, tyX9_ok, nmX9, rfl, rfl⟩
set_option maxRecDepth 20000 in
theorem wf_RX9_31 : Cond.fieldLink RX9 31 (TX9 4).1 (TX9 4).2.1 (TX9 4).2.2.1 ∈ lw_tb := tb_at 40 rfl rfl
theorem fl_RX9_31 : fw_fl RX9 31 7 4 := ⟨RX9, TX9, 12, rfl, in_X9, by decide, wf_RX9_31⟩
theorem fp_RX9_31 : fw_fp RX9 31 7 4 .int := ⟨RX9, TX9, 12, tyX9, rfl, in_X9, by decide, wf_RX9_31, tyX9_ok, nmX9, rfl, rfl⟩
set_option maxRecDepth 20000 in
theorem wf_RX9_34 : Cond.fieldLink RX9 34 (TX9 6).1 (TX9 6).2.1 (TX9 6).2.2.1 ∈ lw_tb := tb_at 42 rfl rfl
theorem fl_RX9_34 : fw_fl RX9 34 7 6 := ⟨RX9, TX9, 12, rfl, in_X9, by decide, wf_RX9_34⟩
theorem fp_RX9_34 : fw_fp RX9 34 7 6 .int := ⟨RX9, TX9, 12, tyX9, rfl, in_X9, by decide, wf_RX9_34, tyX9_ok, nmX9, rfl, rfl⟩
set_option maxRecDepth 20000 in
theorem wf_RX9_37 : Cond.fieldLink RX9 37 (TX9 10).1 (TX9 10).2.1 (TX9 10).2.2.1 ∈ lw_tb := tb_at 47 rfl rfl
theorem fl_RX9_37 : fw_fl RX9 37 7 10 := ⟨RX9, TX9, 12, rfl, in_X9, by decide, wf_RX9_37⟩
theorem fp_RX9_37 : fw_fp RX9 37 7 10 .int := ⟨RX9, TX9, 12, tyX9, rfl, in_X9, by decide, wf_RX9_37, tyX9_ok, nmX9, rfl, rfl⟩
set_option maxRecDepth 20000 in
theorem wf_RX9_40 : Cond.fieldLink RX9 40 (TX9 11).1 (TX9 11).2.1 (TX9 11).2.2.1 ∈ lw_tb := tb_at 52 rfl rfl
theorem fl_RX9_40 : fw_fl RX9 40 7 11 := ⟨RX9, TX9, 12, rfl, in_X9, by decide, wf_RX9_40⟩
theorem fp_RX9_40 : fw_fp RX9 40 7 11 .int := ⟨RX9, TX9, 12, tyX9, rfl, in_X9, by decide, wf_RX9_40, tyX9_ok, nmX9, rfl, rfl⟩
set_option maxRecDepth 20000 in
theorem wf_RX9_46 : Cond.fieldLink RX9 46 (TX9 7).1 (TX9 7).2.1 (TX9 7).2.2.1 ∈ lw_tb := tb_at 43 rfl rfl
theorem fl_RX9_46 : fw_fl RX9 46 7 7 := ⟨RX9, TX9, 12, rfl, in_X9, by decide, wf_RX9_46⟩
theorem fp_RX9_46 : fw_fp RX9 46 7 7 .int := ⟨RX9, TX9, 12, tyX9, rfl, in_X9, by decide, wf_RX9_46, tyX9_ok, nmX9, rfl, rfl⟩
set_option maxRecDepth 20000 in
theorem wf_RX9_49 : Cond.fieldLink RX9 49 (TX9 5).1 (TX9 5).2.1 (TX9 5).2.2.1 ∈ lw_tb := tb_at 41 rfl rfl
theorem fl_RX9_49 : fw_fl RX9 49 7 5 := ⟨RX9, TX9, 12, rfl, in_X9, by decide, wf_RX9_49⟩
theorem fp_RX9_49 : fw_fp RX9 49 7 5 .int := ⟨RX9, TX9, 12, tyX9, rfl, in_X9, by decide, wf_RX9_49, tyX9_ok, nmX9, rfl, rfl⟩
set_option maxRecDepth 20000 in
theorem wf_RX9_60 : Cond.fieldLink RX9 60 (TX9 9).1 (TX9 9).2.1 (TX9 9).2.2.1 ∈ lw_tb := tb_at 46 rfl rfl
theorem fl_RX9_60 : fw_fl RX9 60 7 9 := ⟨RX9, TX9, 12, rfl, in_X9, by decide, wf_RX9_60⟩
theorem fp_RX9_60 : fw_fp RX9 60 7 9 .long := ⟨RX9, TX9, 12, tyX9, rfl, in_X9, by decide, wf_RX9_60, tyX9_ok, nmX9, rfl, rfl⟩
set_option maxRecDepth 20000 in
theorem wf_RX9_64 : Cond.fieldLink RX9 64 (TX9 8).1 (TX9 8).2.1 (TX9 8).2.2.1 ∈ lw_tb := tb_at 44 rfl rfl
theorem fl_RX9_64 : fw_fl RX9 64 7 8 := ⟨RX9, TX9, 12, rfl, in_X9, by decide, wf_RX9_64⟩
theorem fp_RX9_64 : fw_fp RX9 64 7 8 .int := ⟨RX9, TX9, 12, tyX9, rfl, in_X9, by decide, wf_RX9_64, tyX9_ok, nmX9, rfl, rfl⟩
set_option maxRecDepth 20000 in
theorem wl_RX9_52 : Cond.methodLink RX9 52 yX9_readRun ∈ lw_tb := tb_at 486 rfl rfl
set_option maxRecDepth 20000 in
theorem wi_X9_readRun : Cond.instanceMethod yX9_readRun ∈ lw_tb := tb_at 488 rfl rfl
theorem wx_X9_readRun : Cond.selects yX9_readRun.cls yX9_readRun yX9_readRun ∈ lw_tb := tb_sel 0 (by decide +kernel) rfl
set_option maxRecDepth 20000 in
theorem wc_X9_readRun : Cond.code yX9_readRun cX9_readRun 6 (some .boolean) ∈ lw_tb := tb_at 489 rfl rfl
theorem lv_RX9_52 : fw_lv RX9 52 yX9_readRun cX9_readRun 6 (some .boolean) 1 := fw_lv_mk wl_RX9_52 wi_X9_readRun wx_X9_readRun wn_RX9 wc_X9_readRun ⟨by decide +kernel, by decide +kernel, by decide +kernel⟩
set_option maxRecDepth 20000 in
theorem wl_RX9_56 : Cond.methodLink RX9 56 yX9_readSign ∈ lw_tb := tb_at 490 rfl rfl
set_option maxRecDepth 20000 in
theorem wi_X9_readSign : Cond.instanceMethod yX9_readSign ∈ lw_tb := tb_at 492 rfl rfl
theorem wx_X9_readSign : Cond.selects yX9_readSign.cls yX9_readSign yX9_readSign ∈ lw_tb := tb_sel 1 (by decide +kernel) rfl
set_option maxRecDepth 20000 in
theorem wc_X9_readSign : Cond.code yX9_readSign cX9_readSign 3 none ∈ lw_tb := tb_at 493 rfl rfl
theorem lv_RX9_56 : fw_lv RX9 56 yX9_readSign cX9_readSign 3 none 1 := fw_lv_mk wl_RX9_56 wi_X9_readSign wx_X9_readSign wn_RX9 wc_X9_readSign ⟨by decide +kernel, by decide +kernel, by decide +kernel⟩
set_option maxRecDepth 20000 in
theorem wl_RX9_43 : Cond.methodLink RX9 43 yX9_advance ∈ lw_tb := tb_at 482 rfl rfl
set_option maxRecDepth 20000 in
theorem wi_X9_advance : Cond.instanceMethod yX9_advance ∈ lw_tb := tb_at 483 rfl rfl
set_option maxRecDepth 20000 in
theorem wx_X9_advance : Cond.selects yX9_advance.cls yX9_advance yX9_advance ∈ lw_tb := tb_at 484 rfl rfl
set_option maxRecDepth 20000 in
theorem wc_X9_advance : Cond.code yX9_advance cX9_advance 2 none ∈ lw_tb := tb_at 485 rfl rfl
theorem lv_RX9_43 : fw_lv RX9 43 yX9_advance cX9_advance 2 none 0 := fw_lv_mk wl_RX9_43 wi_X9_advance wx_X9_advance wn_RX9 wc_X9_advance ⟨by decide +kernel, by decide +kernel, by decide +kernel⟩
set_option maxRecDepth 20000 in
theorem wl_RX11_74 : Cond.methodLink RX11 74 yX9_open ∈ lw_tb := tb_at 475 rfl rfl
set_option maxRecDepth 20000 in
theorem wi_X9_open : Cond.instanceMethod yX9_open ∈ lw_tb := tb_at 476 rfl rfl
set_option maxRecDepth 20000 in
theorem wx_X9_open : Cond.selects yX9_open.cls yX9_open yX9_open ∈ lw_tb := tb_at 477 rfl rfl
set_option maxRecDepth 20000 in
theorem wc_X9_open : Cond.code yX9_open cX9_open 2 none ∈ lw_tb := tb_at 478 rfl rfl
theorem lv_RX11_74 : fw_lv RX11 74 yX9_open cX9_open 2 none 1 := fw_lv_mk wl_RX11_74 wi_X9_open wx_X9_open wn_RX9 wc_X9_open ⟨by decide +kernel, by decide +kernel, by decide +kernel⟩
set_option maxRecDepth 20000 in
theorem wf_RX11_77 : Cond.fieldLink RX11 77 (TX5 0).1 (TX5 0).2.1 (TX5 0).2.2.1 ∈ lw_tb := tb_at 305 rfl rfl
theorem fl_RX11_77 : fw_fl RX11 77 4 0 := ⟨RX5, TX5, 4, rfl, in_X5, by decide, wf_RX11_77⟩
set_option maxRecDepth 20000 in
theorem wl_RX4_9 : Cond.methodLink RX4 9 yX9_goesOn ∈ lw_tb := tb_at 497 rfl rfl
set_option maxRecDepth 20000 in
theorem wi_X9_goesOn : Cond.instanceMethod yX9_goesOn ∈ lw_tb := tb_at 498 rfl rfl
set_option maxRecDepth 20000 in
theorem wx_X9_goesOn : Cond.selects yX9_goesOn.cls yX9_goesOn yX9_goesOn ∈ lw_tb := tb_at 499 rfl rfl
set_option maxRecDepth 20000 in
theorem wc_X9_goesOn : Cond.code yX9_goesOn cX9_goesOn 1 (some .boolean) ∈ lw_tb := tb_at 500 rfl rfl
theorem lv_RX4_9 : fw_lv RX4 9 yX9_goesOn cX9_goesOn 1 (some .boolean) 0 := fw_lv_mk wl_RX4_9 wi_X9_goesOn wx_X9_goesOn wn_RX9 wc_X9_goesOn ⟨by decide +kernel, by decide +kernel, by decide +kernel⟩
set_option maxRecDepth 20000 in
theorem wk_RX4_15 : Cond.constantLong RX4 15 (Int64.ofInt 491327153000) ∈ lw_tb := tb_at 501 rfl rfl
set_option maxRecDepth 20000 in
theorem wl_RX4_17 : Cond.methodLink RX4 17 yX9_isWord ∈ lw_tb := tb_at 502 rfl rfl
set_option maxRecDepth 20000 in
theorem wi_X9_isWord : Cond.instanceMethod yX9_isWord ∈ lw_tb := tb_at 503 rfl rfl
set_option maxRecDepth 20000 in
theorem wx_X9_isWord : Cond.selects yX9_isWord.cls yX9_isWord yX9_isWord ∈ lw_tb := tb_at 504 rfl rfl
set_option maxRecDepth 20000 in
theorem wc_X9_isWord : Cond.code yX9_isWord cX9_isWord 3 (some .boolean) ∈ lw_tb := tb_at 505 rfl rfl
theorem lv_RX4_17 : fw_lv RX4 17 yX9_isWord cX9_isWord 3 (some .boolean) 1 := fw_lv_mk wl_RX4_17 wi_X9_isWord wx_X9_isWord wn_RX9 wc_X9_isWord ⟨by decide +kernel, by decide +kernel, by decide +kernel⟩
set_option maxRecDepth 20000 in
theorem wf_RX4_67 : Cond.fieldLink RX4 67 (TX3 1).1 (TX3 1).2.1 (TX3 1).2.2.1 ∈ lw_tb := tb_at 118 rfl rfl
theorem fl_RX4_67 : fw_fl RX4 67 3 1 := ⟨RX3, TX3, 20, rfl, in_X3, by decide, wf_RX4_67⟩
set_option maxRecDepth 20000 in
theorem wl_RX9_114 : Cond.methodLink RX9 114 yX9_refuseAt ∈ lw_tb := tb_at 513 rfl rfl
set_option maxRecDepth 20000 in
theorem wi_X9_refuseAt : Cond.instanceMethod yX9_refuseAt ∈ lw_tb := tb_at 515 rfl rfl
theorem wx_X9_refuseAt : Cond.selects yX9_refuseAt.cls yX9_refuseAt yX9_refuseAt ∈ lw_tb := tb_sel 2 (by decide +kernel) rfl
set_option maxRecDepth 20000 in
theorem wc_X9_refuseAt : Cond.code yX9_refuseAt cX9_refuseAt 3 none ∈ lw_tb := tb_at 516 rfl rfl
theorem lv_RX9_114 : fw_lv RX9 114 yX9_refuseAt cX9_refuseAt 3 none 2 := fw_lv_mk wl_RX9_114 wi_X9_refuseAt wx_X9_refuseAt wn_RX9 wc_X9_refuseAt ⟨by decide +kernel, by decide +kernel, by decide +kernel⟩
set_option maxRecDepth 20000 in
theorem wl_RX4_57 : Cond.methodLink RX4 57 yX9_refuse ∈ lw_tb := tb_at 509 rfl rfl
set_option maxRecDepth 20000 in
theorem wi_X9_refuse : Cond.instanceMethod yX9_refuse ∈ lw_tb := tb_at 510 rfl rfl
set_option maxRecDepth 20000 in
theorem wx_X9_refuse : Cond.selects yX9_refuse.cls yX9_refuse yX9_refuse ∈ lw_tb := tb_at 511 rfl rfl
set_option maxRecDepth 20000 in
theorem wc_X9_refuse : Cond.code yX9_refuse cX9_refuse 2 none ∈ lw_tb := tb_at 512 rfl rfl
theorem lv_RX4_57 : fw_lv RX4 57 yX9_refuse cX9_refuse 2 none 1 := fw_lv_mk wl_RX4_57 wi_X9_refuse wx_X9_refuse wn_RX9 wc_X9_refuse ⟨by decide +kernel, by decide +kernel, by decide +kernel⟩
set_option maxRecDepth 20000 in
theorem wl_RX4_73 : Cond.methodLink RX4 73 yX9_advance ∈ lw_tb := tb_at 517 rfl rfl
theorem lv_RX4_73 : fw_lv RX4 73 yX9_advance cX9_advance 2 none 0 := fw_lv_mk wl_RX4_73 wi_X9_advance wx_X9_advance wn_RX9 wc_X9_advance ⟨by decide +kernel, by decide +kernel, by decide +kernel⟩
set_option maxRecDepth 20000 in
theorem wf_RX4_76 : Cond.fieldLink RX4 76 (TX3 0).1 (TX3 0).2.1 (TX3 0).2.2.1 ∈ lw_tb := tb_at 115 rfl rfl
theorem fl_RX4_76 : fw_fl RX4 76 3 0 := ⟨RX3, TX3, 20, rfl, in_X3, by decide, wf_RX4_76⟩
set_option maxRecDepth 20000 in
theorem wk_RX9_76 : Cond.constantLong RX9 76 (Int64.ofInt 491327153000) ∈ lw_tb := tb_at 530 rfl rfl
set_option maxRecDepth 20000 in
theorem wk_RX9_78 : Cond.constantLong RX9 78 (Int64.ofInt 109330211763570) ∈ lw_tb := tb_at 531 rfl rfl
set_option maxRecDepth 20000 in
theorem wk_RX9_80 : Cond.constantLong RX9 80 (Int64.ofInt 444351474788) ∈ lw_tb := tb_at 532 rfl rfl
set_option maxRecDepth 20000 in
theorem wk_RX9_82 : Cond.constantLong RX9 82 (Int64.ofInt 1970496882) ∈ lw_tb := tb_at 533 rfl rfl
set_option maxRecDepth 20000 in
theorem wk_RX9_84 : Cond.constantLong RX9 84 (Int64.ofInt 1718382455) ∈ lw_tb := tb_at 534 rfl rfl
set_option maxRecDepth 20000 in
theorem wk_RX9_86 : Cond.constantLong RX9 86 (Int64.ofInt 439905906532) ∈ lw_tb := tb_at 535 rfl rfl
set_option maxRecDepth 20000 in
theorem wk_RX9_88 : Cond.constantLong RX9 88 (Int64.ofInt 123580744625253) ∈ lw_tb := tb_at 536 rfl rfl
set_option maxRecDepth 20000 in
theorem wl_RX9_67 : Cond.methodLink RX9 67 yX9_isRiverWord ∈ lw_tb := tb_at 526 rfl rfl
set_option maxRecDepth 20000 in
theorem wi_X9_isRiverWord : Cond.instanceMethod yX9_isRiverWord ∈ lw_tb := tb_at 528 rfl rfl
theorem wx_X9_isRiverWord : Cond.selects yX9_isRiverWord.cls yX9_isRiverWord yX9_isRiverWord ∈ lw_tb := tb_sel 3 (by decide +kernel) rfl
set_option maxRecDepth 20000 in
theorem wc_X9_isRiverWord : Cond.code yX9_isRiverWord cX9_isRiverWord 1 (some .boolean) ∈ lw_tb := tb_at 529 rfl rfl
theorem lv_RX9_67 : fw_lv RX9 67 yX9_isRiverWord cX9_isRiverWord 1 (some .boolean) 0 := fw_lv_mk wl_RX9_67 wi_X9_isRiverWord wx_X9_isRiverWord wn_RX9 wc_X9_isRiverWord ⟨by decide +kernel, by decide +kernel, by decide +kernel⟩
set_option maxRecDepth 20000 in
theorem wk_RX9_71 : Cond.constantLong RX9 71 (Int64.ofInt 1650814060) ∈ lw_tb := tb_at 537 rfl rfl
set_option maxRecDepth 20000 in
theorem wk_RX9_90 : Cond.constantLong RX9 90 (Int64.ofInt 28530) ∈ lw_tb := tb_at 542 rfl rfl
set_option maxRecDepth 20000 in
theorem wk_RX9_92 : Cond.constantLong RX9 92 (Int64.ofInt 6385252) ∈ lw_tb := tb_at 543 rfl rfl
set_option maxRecDepth 20000 in
theorem wk_RX9_94 : Cond.constantLong RX9 94 (Int64.ofInt 7237492) ∈ lw_tb := tb_at 544 rfl rfl
set_option maxRecDepth 20000 in
theorem wk_RX9_96 : Cond.constantLong RX9 96 (Int64.ofInt 512970877811) ∈ lw_tb := tb_at 545 rfl rfl
set_option maxRecDepth 20000 in
theorem wk_RX9_98 : Cond.constantLong RX9 98 (Int64.ofInt 114767740888420) ∈ lw_tb := tb_at 546 rfl rfl
set_option maxRecDepth 20000 in
theorem wk_RX9_100 : Cond.constantLong RX9 100 (Int64.ofInt 495672452197) ∈ lw_tb := tb_at 547 rfl rfl
set_option maxRecDepth 20000 in
theorem wk_RX9_102 : Cond.constantLong RX9 102 (Int64.ofInt 1752135026) ∈ lw_tb := tb_at 548 rfl rfl
set_option maxRecDepth 20000 in
theorem wk_RX9_104 : Cond.constantLong RX9 104 (Int64.ofInt 6578553) ∈ lw_tb := tb_at 549 rfl rfl
set_option maxRecDepth 20000 in
theorem wk_RX9_106 : Cond.constantLong RX9 106 (Int64.ofInt 123563851081060) ∈ lw_tb := tb_at 550 rfl rfl
set_option maxRecDepth 20000 in
theorem wl_RX9_73 : Cond.methodLink RX9 73 yX9_isSentenceWord ∈ lw_tb := tb_at 538 rfl rfl
set_option maxRecDepth 20000 in
theorem wi_X9_isSentenceWord : Cond.instanceMethod yX9_isSentenceWord ∈ lw_tb := tb_at 540 rfl rfl
theorem wx_X9_isSentenceWord : Cond.selects yX9_isSentenceWord.cls yX9_isSentenceWord yX9_isSentenceWord ∈ lw_tb := tb_sel 4 (by decide +kernel) rfl
set_option maxRecDepth 20000 in
theorem wc_X9_isSentenceWord : Cond.code yX9_isSentenceWord cX9_isSentenceWord 1 (some .boolean) ∈ lw_tb := tb_at 541 rfl rfl
theorem lv_RX9_73 : fw_lv RX9 73 yX9_isSentenceWord cX9_isSentenceWord 1 (some .boolean) 0 := fw_lv_mk wl_RX9_73 wi_X9_isSentenceWord wx_X9_isSentenceWord wn_RX9 wc_X9_isSentenceWord ⟨by decide +kernel, by decide +kernel, by decide +kernel⟩
set_option maxRecDepth 20000 in
theorem wl_RX0_32 : Cond.methodLink RX0 32 yX9_isName ∈ lw_tb := tb_at 522 rfl rfl
set_option maxRecDepth 20000 in
theorem wi_X9_isName : Cond.instanceMethod yX9_isName ∈ lw_tb := tb_at 523 rfl rfl
set_option maxRecDepth 20000 in
theorem wx_X9_isName : Cond.selects yX9_isName.cls yX9_isName yX9_isName ∈ lw_tb := tb_at 524 rfl rfl
set_option maxRecDepth 20000 in
theorem wc_X9_isName : Cond.code yX9_isName cX9_isName 1 (some .boolean) ∈ lw_tb := tb_at 525 rfl rfl
theorem lv_RX0_32 : fw_lv RX0 32 yX9_isName cX9_isName 1 (some .boolean) 0 := fw_lv_mk wl_RX0_32 wi_X9_isName wx_X9_isName wn_RX9 wc_X9_isName ⟨by decide +kernel, by decide +kernel, by decide +kernel⟩
set_option maxRecDepth 20000 in
theorem wl_RX0_38 : Cond.methodLink RX0 38 yX9_refuse ∈ lw_tb := tb_at 551 rfl rfl
theorem lv_RX0_38 : fw_lv RX0 38 yX9_refuse cX9_refuse 2 none 1 := fw_lv_mk wl_RX0_38 wi_X9_refuse wx_X9_refuse wn_RX9 wc_X9_refuse ⟨by decide +kernel, by decide +kernel, by decide +kernel⟩
set_option maxRecDepth 20000 in
theorem wf_RX0_42 : Cond.fieldLink RX0 42 (TX9 9).1 (TX9 9).2.1 (TX9 9).2.2.1 ∈ lw_tb := tb_at 45 rfl rfl
theorem fl_RX0_42 : fw_fl RX0 42 7 9 := ⟨RX9, TX9, 12, rfl, in_X9, by decide, wf_RX0_42⟩
set_option maxRecDepth 20000 in
theorem wf_RX0_22 : Cond.fieldLink RX0 22 (TX0 0).1 (TX0 0).2.1 (TX0 0).2.2.1 ∈ lw_tb := tb_at 98 rfl rfl
theorem fl_RX0_22 : fw_fl RX0 22 0 0 := ⟨RX0, TX0, 4, rfl, in_X0, by decide, wf_RX0_22⟩
set_option maxRecDepth 20000 in
theorem wf_RX0_11 : Cond.fieldLink RX0 11 (TX0 1).1 (TX0 1).2.1 (TX0 1).2.2.1 ∈ lw_tb := tb_at 100 rfl rfl
theorem fl_RX0_11 : fw_fl RX0 11 0 1 := ⟨RX0, TX0, 4, rfl, in_X0, by decide, wf_RX0_11⟩
set_option maxRecDepth 20000 in
theorem wl_RX0_45 : Cond.methodLink RX0 45 yX0_find ∈ lw_tb := tb_at 552 rfl rfl
set_option maxRecDepth 20000 in
theorem wi_X0_find : Cond.instanceMethod yX0_find ∈ lw_tb := tb_at 554 rfl rfl
theorem wx_X0_find : Cond.selects yX0_find.cls yX0_find yX0_find ∈ lw_tb := tb_sel 5 (by decide +kernel) rfl
set_option maxRecDepth 20000 in
theorem wn_RX0 : Cond.initialized RX0 ∈ lw_tb := tb_at 5 rfl rfl
set_option maxRecDepth 20000 in
theorem wc_X0_find : Cond.code yX0_find cX0_find 4 (some .int) ∈ lw_tb := tb_at 555 rfl rfl
theorem lv_RX0_45 : fw_lv RX0 45 yX0_find cX0_find 4 (some .int) 1 := fw_lv_mk wl_RX0_45 wi_X0_find wx_X0_find wn_RX0 wc_X0_find ⟨by decide +kernel, by decide +kernel, by decide +kernel⟩
set_option maxRecDepth 20000 in
theorem wf_RX0_15 : Cond.fieldLink RX0 15 (TX0 2).1 (TX0 2).2.1 (TX0 2).2.2.1 ∈ lw_tb := tb_at 101 rfl rfl
theorem fl_RX0_15 : fw_fl RX0 15 0 2 := ⟨RX0, TX0, 4, rfl, in_X0, by decide, wf_RX0_15⟩
set_option maxRecDepth 20000 in
theorem wf_RX0_19 : Cond.fieldLink RX0 19 (TX0 3).1 (TX0 3).2.1 (TX0 3).2.2.1 ∈ lw_tb := tb_at 102 rfl rfl
theorem fl_RX0_19 : fw_fl RX0 19 0 3 := ⟨RX0, TX0, 4, rfl, in_X0, by decide, wf_RX0_19⟩
theorem fp_RX0_22 : fw_fp RX0 22 0 0 .int := ⟨RX0, TX0, 4, tyX0, rfl, in_X0, by decide, wf_RX0_22, tyX0_ok, nmX0, rfl, rfl⟩
set_option maxRecDepth 20000 in
theorem wl_RX0_49 : Cond.methodLink RX0 49 yX9_advance ∈ lw_tb := tb_at 556 rfl rfl
theorem lv_RX0_49 : fw_lv RX0 49 yX9_advance cX9_advance 2 none 0 := fw_lv_mk wl_RX0_49 wi_X9_advance wx_X9_advance wn_RX9 wc_X9_advance ⟨by decide +kernel, by decide +kernel, by decide +kernel⟩
set_option maxRecDepth 20000 in
theorem wl_RX4_82 : Cond.methodLink RX4 82 yX0_takeNew ∈ lw_tb := tb_at 518 rfl rfl
set_option maxRecDepth 20000 in
theorem wi_X0_takeNew : Cond.instanceMethod yX0_takeNew ∈ lw_tb := tb_at 519 rfl rfl
set_option maxRecDepth 20000 in
theorem wx_X0_takeNew : Cond.selects yX0_takeNew.cls yX0_takeNew yX0_takeNew ∈ lw_tb := tb_at 520 rfl rfl
set_option maxRecDepth 20000 in
theorem wc_X0_takeNew : Cond.code yX0_takeNew cX0_takeNew 4 none ∈ lw_tb := tb_at 521 rfl rfl
theorem lv_RX4_82 : fw_lv RX4 82 yX0_takeNew cX0_takeNew 4 none 3 := fw_lv_mk wl_RX4_82 wi_X0_takeNew wx_X0_takeNew wn_RX0 wc_X0_takeNew ⟨by decide +kernel, by decide +kernel, by decide +kernel⟩
set_option maxRecDepth 20000 in
theorem wf_RX4_86 : Cond.fieldLink RX4 86 (TX3 2).1 (TX3 2).2.1 (TX3 2).2.2.1 ∈ lw_tb := tb_at 123 rfl rfl
theorem fl_RX4_86 : fw_fl RX4 86 3 2 := ⟨RX3, TX3, 20, rfl, in_X3, by decide, wf_RX4_86⟩
set_option maxRecDepth 20000 in
theorem wl_RX9_108 : Cond.methodLink RX9 108 yX9_refuse ∈ lw_tb := tb_at 561 rfl rfl
theorem lv_RX9_108 : fw_lv RX9 108 yX9_refuse cX9_refuse 2 none 1 := fw_lv_mk wl_RX9_108 wi_X9_refuse wx_X9_refuse wn_RX9 wc_X9_refuse ⟨by decide +kernel, by decide +kernel, by decide +kernel⟩
set_option maxRecDepth 20000 in
theorem wl_RX4_90 : Cond.methodLink RX4 90 yX9_takeNumber ∈ lw_tb := tb_at 557 rfl rfl
set_option maxRecDepth 20000 in
theorem wi_X9_takeNumber : Cond.instanceMethod yX9_takeNumber ∈ lw_tb := tb_at 558 rfl rfl
set_option maxRecDepth 20000 in
theorem wx_X9_takeNumber : Cond.selects yX9_takeNumber.cls yX9_takeNumber yX9_takeNumber ∈ lw_tb := tb_at 559 rfl rfl
set_option maxRecDepth 20000 in
theorem wc_X9_takeNumber : Cond.code yX9_takeNumber cX9_takeNumber 4 (some .int) ∈ lw_tb := tb_at 560 rfl rfl
theorem lv_RX4_90 : fw_lv RX4 90 yX9_takeNumber cX9_takeNumber 4 (some .int) 2 := fw_lv_mk wl_RX4_90 wi_X9_takeNumber wx_X9_takeNumber wn_RX9 wc_X9_takeNumber ⟨by decide +kernel, by decide +kernel, by decide +kernel⟩
set_option maxRecDepth 20000 in
theorem wf_RX4_94 : Cond.fieldLink RX4 94 (TX3 3).1 (TX3 3).2.1 (TX3 3).2.2.1 ∈ lw_tb := tb_at 127 rfl rfl
theorem fl_RX4_94 : fw_fl RX4 94 3 3 := ⟨RX3, TX3, 20, rfl, in_X3, by decide, wf_RX4_94⟩
theorem fp_RX4_67 : fw_fp RX4 67 3 1 .int := ⟨RX3, TX3, 20, tyX3, rfl, in_X3, by decide, wf_RX4_67, tyX3_ok, nmX3, rfl, rfl⟩
set_option maxRecDepth 20000 in
theorem wn_RX4 : Cond.initialized RX4 ∈ lw_tb := tb_at 13 rfl rfl
set_option maxRecDepth 20000 in
theorem ws_X4_readReach : Cond.static yX4_readReach ∈ lw_tb := tb_at 507 rfl rfl
set_option maxRecDepth 20000 in
theorem wc_X4_readReach : Cond.code yX4_readReach cX4_readReach 3 none ∈ lw_tb := tb_at 508 rfl rfl
set_option maxRecDepth 20000 in
theorem wl_RX4_21 : Cond.methodLink RX4 21 yX4_readReach ∈ lw_tb := tb_at 506 rfl rfl
theorem ls_RX4_21 : fw_ls RX4 21 yX4_readReach cX4_readReach 3 none 2 := fw_ls_mk wl_RX4_21 ws_X4_readReach wn_RX4 wc_X4_readReach ⟨by decide +kernel, by decide +kernel, by decide +kernel⟩
set_option maxRecDepth 20000 in
theorem wk_RX4_27 : Cond.constantLong RX4 27 (Int64.ofInt 109330211763570) ∈ lw_tb := tb_at 562 rfl rfl
set_option maxRecDepth 20000 in
theorem wf_RX4_97 : Cond.fieldLink RX4 97 (TX3 4).1 (TX3 4).2.1 (TX3 4).2.2.1 ∈ lw_tb := tb_at 131 rfl rfl
theorem fl_RX4_97 : fw_fl RX4 97 3 4 := ⟨RX3, TX3, 20, rfl, in_X3, by decide, wf_RX4_97⟩
theorem fp_RX4_97 : fw_fp RX4 97 3 4 .int := ⟨RX3, TX3, 20, tyX3, rfl, in_X3, by decide, wf_RX4_97, tyX3_ok, nmX3, rfl, rfl⟩
set_option maxRecDepth 20000 in
theorem ws_X4_readColour : Cond.static yX4_readColour ∈ lw_tb := tb_at 564 rfl rfl
set_option maxRecDepth 20000 in
theorem wc_X4_readColour : Cond.code yX4_readColour cX4_readColour 3 none ∈ lw_tb := tb_at 565 rfl rfl
set_option maxRecDepth 20000 in
theorem wl_RX4_29 : Cond.methodLink RX4 29 yX4_readColour ∈ lw_tb := tb_at 563 rfl rfl
theorem ls_RX4_29 : fw_ls RX4 29 yX4_readColour cX4_readColour 3 none 2 := fw_ls_mk wl_RX4_29 ws_X4_readColour wn_RX4 wc_X4_readColour ⟨by decide +kernel, by decide +kernel, by decide +kernel⟩
set_option maxRecDepth 20000 in
theorem wk_RX4_32 : Cond.constantLong RX4 32 (Int64.ofInt 444351474788) ∈ lw_tb := tb_at 566 rfl rfl
set_option maxRecDepth 20000 in
theorem wf_RX4_100 : Cond.fieldLink RX4 100 (TX3 5).1 (TX3 5).2.1 (TX3 5).2.2.1 ∈ lw_tb := tb_at 136 rfl rfl
theorem fl_RX4_100 : fw_fl RX4 100 3 5 := ⟨RX3, TX3, 20, rfl, in_X3, by decide, wf_RX4_100⟩
set_option maxRecDepth 20000 in
theorem wf_RX4_103 : Cond.fieldLink RX4 103 (TX3 6).1 (TX3 6).2.1 (TX3 6).2.2.1 ∈ lw_tb := tb_at 141 rfl rfl
theorem fl_RX4_103 : fw_fl RX4 103 3 6 := ⟨RX3, TX3, 20, rfl, in_X3, by decide, wf_RX4_103⟩
set_option maxRecDepth 20000 in
theorem wf_RX0_52 : Cond.fieldLink RX0 52 (TX9 10).1 (TX9 10).2.1 (TX9 10).2.2.1 ∈ lw_tb := tb_at 48 rfl rfl
theorem fl_RX0_52 : fw_fl RX0 52 7 10 := ⟨RX9, TX9, 12, rfl, in_X9, by decide, wf_RX0_52⟩
set_option maxRecDepth 20000 in
theorem wl_RX4_106 : Cond.methodLink RX4 106 yX0_takeTold ∈ lw_tb := tb_at 570 rfl rfl
set_option maxRecDepth 20000 in
theorem wi_X0_takeTold : Cond.instanceMethod yX0_takeTold ∈ lw_tb := tb_at 571 rfl rfl
set_option maxRecDepth 20000 in
theorem wx_X0_takeTold : Cond.selects yX0_takeTold.cls yX0_takeTold yX0_takeTold ∈ lw_tb := tb_at 572 rfl rfl
set_option maxRecDepth 20000 in
theorem wc_X0_takeTold : Cond.code yX0_takeTold cX0_takeTold 4 (some .int) ∈ lw_tb := tb_at 573 rfl rfl
theorem lv_RX4_106 : fw_lv RX4 106 yX0_takeTold cX0_takeTold 4 (some .int) 2 := fw_lv_mk wl_RX4_106 wi_X0_takeTold wx_X0_takeTold wn_RX0 wc_X0_takeTold ⟨by decide +kernel, by decide +kernel, by decide +kernel⟩
set_option maxRecDepth 20000 in
theorem wf_RX4_110 : Cond.fieldLink RX4 110 (TX3 7).1 (TX3 7).2.1 (TX3 7).2.2.1 ∈ lw_tb := tb_at 145 rfl rfl
theorem fl_RX4_110 : fw_fl RX4 110 3 7 := ⟨RX3, TX3, 20, rfl, in_X3, by decide, wf_RX4_110⟩
set_option maxRecDepth 20000 in
theorem wl_RX4_113 : Cond.methodLink RX4 113 yX9_isAtSign ∈ lw_tb := tb_at 574 rfl rfl
set_option maxRecDepth 20000 in
theorem wi_X9_isAtSign : Cond.instanceMethod yX9_isAtSign ∈ lw_tb := tb_at 575 rfl rfl
set_option maxRecDepth 20000 in
theorem wx_X9_isAtSign : Cond.selects yX9_isAtSign.cls yX9_isAtSign yX9_isAtSign ∈ lw_tb := tb_at 576 rfl rfl
set_option maxRecDepth 20000 in
theorem wc_X9_isAtSign : Cond.code yX9_isAtSign cX9_isAtSign 2 (some .boolean) ∈ lw_tb := tb_at 577 rfl rfl
theorem lv_RX4_113 : fw_lv RX4 113 yX9_isAtSign cX9_isAtSign 2 (some .boolean) 1 := fw_lv_mk wl_RX4_113 wi_X9_isAtSign wx_X9_isAtSign wn_RX9 wc_X9_isAtSign ⟨by decide +kernel, by decide +kernel, by decide +kernel⟩
set_option maxRecDepth 20000 in
theorem wf_RX4_117 : Cond.fieldLink RX4 117 (TX3 8).1 (TX3 8).2.1 (TX3 8).2.2.1 ∈ lw_tb := tb_at 148 rfl rfl
theorem fl_RX4_117 : fw_fl RX4 117 3 8 := ⟨RX3, TX3, 20, rfl, in_X3, by decide, wf_RX4_117⟩
set_option maxRecDepth 20000 in
theorem wf_RX4_139 : Cond.fieldLink RX4 139 (TX9 10).1 (TX9 10).2.1 (TX9 10).2.2.1 ∈ lw_tb := tb_at 49 rfl rfl
theorem fl_RX4_139 : fw_fl RX4 139 7 10 := ⟨RX9, TX9, 12, rfl, in_X9, by decide, wf_RX4_139⟩
set_option maxRecDepth 20000 in
theorem wl_RX4_142 : Cond.methodLink RX4 142 yX9_refuseTaken ∈ lw_tb := tb_at 581 rfl rfl
set_option maxRecDepth 20000 in
theorem wi_X9_refuseTaken : Cond.instanceMethod yX9_refuseTaken ∈ lw_tb := tb_at 582 rfl rfl
set_option maxRecDepth 20000 in
theorem wx_X9_refuseTaken : Cond.selects yX9_refuseTaken.cls yX9_refuseTaken yX9_refuseTaken ∈ lw_tb := tb_at 583 rfl rfl
set_option maxRecDepth 20000 in
theorem wc_X9_refuseTaken : Cond.code yX9_refuseTaken cX9_refuseTaken 2 none ∈ lw_tb := tb_at 584 rfl rfl
theorem lv_RX4_142 : fw_lv RX4 142 yX9_refuseTaken cX9_refuseTaken 2 none 1 := fw_lv_mk wl_RX4_142 wi_X9_refuseTaken wx_X9_refuseTaken wn_RX9 wc_X9_refuseTaken ⟨by decide +kernel, by decide +kernel, by decide +kernel⟩
set_option maxRecDepth 20000 in
theorem ws_X4_readShares : Cond.static yX4_readShares ∈ lw_tb := tb_at 579 rfl rfl
set_option maxRecDepth 20000 in
theorem wc_X4_readShares : Cond.code yX4_readShares cX4_readShares 9 none ∈ lw_tb := tb_at 580 rfl rfl
set_option maxRecDepth 20000 in
theorem wl_RX4_120 : Cond.methodLink RX4 120 yX4_readShares ∈ lw_tb := tb_at 578 rfl rfl
theorem ls_RX4_120 : fw_ls RX4 120 yX4_readShares cX4_readShares 9 none 5 := fw_ls_mk wl_RX4_120 ws_X4_readShares wn_RX4 wc_X4_readShares ⟨by decide +kernel, by decide +kernel, by decide +kernel⟩
theorem fp_RX4_100 : fw_fp RX4 100 3 5 .int := ⟨RX3, TX3, 20, tyX3, rfl, in_X3, by decide, wf_RX4_100, tyX3_ok, nmX3, rfl, rfl⟩
set_option maxRecDepth 20000 in
theorem ws_X4_readGuild : Cond.static yX4_readGuild ∈ lw_tb := tb_at 568 rfl rfl
set_option maxRecDepth 20000 in
theorem wc_X4_readGuild : Cond.code yX4_readGuild cX4_readGuild 3 none ∈ lw_tb := tb_at 569 rfl rfl
set_option maxRecDepth 20000 in
theorem wl_RX4_34 : Cond.methodLink RX4 34 yX4_readGuild ∈ lw_tb := tb_at 567 rfl rfl
theorem ls_RX4_34 : fw_ls RX4 34 yX4_readGuild cX4_readGuild 3 none 2 := fw_ls_mk wl_RX4_34 ws_X4_readGuild wn_RX4 wc_X4_readGuild ⟨by decide +kernel, by decide +kernel, by decide +kernel⟩
set_option maxRecDepth 20000 in
theorem wk_RX4_37 : Cond.constantLong RX4 37 (Int64.ofInt 1970496882) ∈ lw_tb := tb_at 585 rfl rfl
set_option maxRecDepth 20000 in
theorem wf_RX4_124 : Cond.fieldLink RX4 124 (TX3 9).1 (TX3 9).2.1 (TX3 9).2.2.1 ∈ lw_tb := tb_at 153 rfl rfl
theorem fl_RX4_124 : fw_fl RX4 124 3 9 := ⟨RX3, TX3, 20, rfl, in_X3, by decide, wf_RX4_124⟩
set_option maxRecDepth 20000 in
theorem wf_RX4_127 : Cond.fieldLink RX4 127 (TX3 10).1 (TX3 10).2.1 (TX3 10).2.2.1 ∈ lw_tb := tb_at 157 rfl rfl
theorem fl_RX4_127 : fw_fl RX4 127 3 10 := ⟨RX3, TX3, 20, rfl, in_X3, by decide, wf_RX4_127⟩
set_option maxRecDepth 20000 in
theorem wf_RX4_130 : Cond.fieldLink RX4 130 (TX3 11).1 (TX3 11).2.1 (TX3 11).2.2.1 ∈ lw_tb := tb_at 161 rfl rfl
theorem fl_RX4_130 : fw_fl RX4 130 3 11 := ⟨RX3, TX3, 20, rfl, in_X3, by decide, wf_RX4_130⟩
set_option maxRecDepth 20000 in
theorem wf_RX4_133 : Cond.fieldLink RX4 133 (TX3 12).1 (TX3 12).2.1 (TX3 12).2.2.1 ∈ lw_tb := tb_at 165 rfl rfl
theorem fl_RX4_133 : fw_fl RX4 133 3 12 := ⟨RX3, TX3, 20, rfl, in_X3, by decide, wf_RX4_133⟩
set_option maxRecDepth 20000 in
theorem wf_RX4_136 : Cond.fieldLink RX4 136 (TX3 13).1 (TX3 13).2.1 (TX3 13).2.2.1 ∈ lw_tb := tb_at 169 rfl rfl
theorem fl_RX4_136 : fw_fl RX4 136 3 13 := ⟨RX3, TX3, 20, rfl, in_X3, by decide, wf_RX4_136⟩
theorem fp_RX4_124 : fw_fp RX4 124 3 9 .int := ⟨RX3, TX3, 20, tyX3, rfl, in_X3, by decide, wf_RX4_124, tyX3_ok, nmX3, rfl, rfl⟩
set_option maxRecDepth 20000 in
theorem ws_X4_readUser : Cond.static yX4_readUser ∈ lw_tb := tb_at 587 rfl rfl
set_option maxRecDepth 20000 in
theorem wc_X4_readUser : Cond.code yX4_readUser cX4_readUser 4 none ∈ lw_tb := tb_at 588 rfl rfl
set_option maxRecDepth 20000 in
theorem wl_RX4_39 : Cond.methodLink RX4 39 yX4_readUser ∈ lw_tb := tb_at 586 rfl rfl
theorem ls_RX4_39 : fw_ls RX4 39 yX4_readUser cX4_readUser 4 none 2 := fw_ls_mk wl_RX4_39 ws_X4_readUser wn_RX4 wc_X4_readUser ⟨by decide +kernel, by decide +kernel, by decide +kernel⟩
set_option maxRecDepth 20000 in
theorem wk_RX4_42 : Cond.constantLong RX4 42 (Int64.ofInt 1718382455) ∈ lw_tb := tb_at 589 rfl rfl
set_option maxRecDepth 20000 in
theorem wf_RX4_145 : Cond.fieldLink RX4 145 (TX3 14).1 (TX3 14).2.1 (TX3 14).2.2.1 ∈ lw_tb := tb_at 173 rfl rfl
theorem fl_RX4_145 : fw_fl RX4 145 3 14 := ⟨RX3, TX3, 20, rfl, in_X3, by decide, wf_RX4_145⟩
set_option maxRecDepth 20000 in
theorem ws_X4_readFlow : Cond.static yX4_readFlow ∈ lw_tb := tb_at 591 rfl rfl
set_option maxRecDepth 20000 in
theorem wc_X4_readFlow : Cond.code yX4_readFlow cX4_readFlow 3 none ∈ lw_tb := tb_at 592 rfl rfl
set_option maxRecDepth 20000 in
theorem wl_RX4_44 : Cond.methodLink RX4 44 yX4_readFlow ∈ lw_tb := tb_at 590 rfl rfl
theorem ls_RX4_44 : fw_ls RX4 44 yX4_readFlow cX4_readFlow 3 none 2 := fw_ls_mk wl_RX4_44 ws_X4_readFlow wn_RX4 wc_X4_readFlow ⟨by decide +kernel, by decide +kernel, by decide +kernel⟩
set_option maxRecDepth 20000 in
theorem wk_RX4_47 : Cond.constantLong RX4 47 (Int64.ofInt 439905906532) ∈ lw_tb := tb_at 593 rfl rfl
set_option maxRecDepth 20000 in
theorem wf_RX4_148 : Cond.fieldLink RX4 148 (TX3 15).1 (TX3 15).2.1 (TX3 15).2.2.1 ∈ lw_tb := tb_at 175 rfl rfl
theorem fl_RX4_148 : fw_fl RX4 148 3 15 := ⟨RX3, TX3, 20, rfl, in_X3, by decide, wf_RX4_148⟩
theorem fp_RX4_148 : fw_fp RX4 148 3 15 .int := ⟨RX3, TX3, 20, tyX3, rfl, in_X3, by decide, wf_RX4_148, tyX3_ok, nmX3, rfl, rfl⟩
set_option maxRecDepth 20000 in
theorem ws_X4_readFlood : Cond.static yX4_readFlood ∈ lw_tb := tb_at 595 rfl rfl
set_option maxRecDepth 20000 in
theorem wc_X4_readFlood : Cond.code yX4_readFlood cX4_readFlood 2 none ∈ lw_tb := tb_at 596 rfl rfl
set_option maxRecDepth 20000 in
theorem wl_RX4_49 : Cond.methodLink RX4 49 yX4_readFlood ∈ lw_tb := tb_at 594 rfl rfl
theorem ls_RX4_49 : fw_ls RX4 49 yX4_readFlood cX4_readFlood 2 none 2 := fw_ls_mk wl_RX4_49 ws_X4_readFlood wn_RX4 wc_X4_readFlood ⟨by decide +kernel, by decide +kernel, by decide +kernel⟩
set_option maxRecDepth 20000 in
theorem wk_RX4_52 : Cond.constantLong RX4 52 (Int64.ofInt 123580744625253) ∈ lw_tb := tb_at 597 rfl rfl
set_option maxRecDepth 20000 in
theorem wf_RX4_151 : Cond.fieldLink RX4 151 (TX3 16).1 (TX3 16).2.1 (TX3 16).2.2.1 ∈ lw_tb := tb_at 177 rfl rfl
theorem fl_RX4_151 : fw_fl RX4 151 3 16 := ⟨RX3, TX3, 20, rfl, in_X3, by decide, wf_RX4_151⟩
set_option maxRecDepth 20000 in
theorem wf_RX3_53 : Cond.fieldLink RX3 53 (TX3 17).1 (TX3 17).2.1 (TX3 17).2.2.1 ∈ lw_tb := tb_at 179 rfl rfl
theorem fl_RX3_53 : fw_fl RX3 53 3 17 := ⟨RX3, TX3, 20, rfl, in_X3, by decide, wf_RX3_53⟩
set_option maxRecDepth 20000 in
theorem wf_RX3_56 : Cond.fieldLink RX3 56 (TX3 18).1 (TX3 18).2.1 (TX3 18).2.2.1 ∈ lw_tb := tb_at 181 rfl rfl
theorem fl_RX3_56 : fw_fl RX3 56 3 18 := ⟨RX3, TX3, 20, rfl, in_X3, by decide, wf_RX3_56⟩
set_option maxRecDepth 20000 in
theorem wl_RX4_154 : Cond.methodLink RX4 154 yX3_hasPebble ∈ lw_tb := tb_at 601 rfl rfl
set_option maxRecDepth 20000 in
theorem wi_X3_hasPebble : Cond.instanceMethod yX3_hasPebble ∈ lw_tb := tb_at 602 rfl rfl
set_option maxRecDepth 20000 in
theorem wx_X3_hasPebble : Cond.selects yX3_hasPebble.cls yX3_hasPebble yX3_hasPebble ∈ lw_tb := tb_at 603 rfl rfl
set_option maxRecDepth 20000 in
theorem wc_X3_hasPebble : Cond.code yX3_hasPebble cX3_hasPebble 4 (some .boolean) ∈ lw_tb := tb_at 604 rfl rfl
theorem lv_RX4_154 : fw_lv RX4 154 yX3_hasPebble cX3_hasPebble 4 (some .boolean) 2 := fw_lv_mk wl_RX4_154 wi_X3_hasPebble wx_X3_hasPebble wn_RX3 wc_X3_hasPebble ⟨by decide +kernel, by decide +kernel, by decide +kernel⟩
set_option maxRecDepth 20000 in
theorem wf_RX4_158 : Cond.fieldLink RX4 158 (TX3 17).1 (TX3 17).2.1 (TX3 17).2.2.1 ∈ lw_tb := tb_at 180 rfl rfl
theorem fl_RX4_158 : fw_fl RX4 158 3 17 := ⟨RX3, TX3, 20, rfl, in_X3, by decide, wf_RX4_158⟩
set_option maxRecDepth 20000 in
theorem wf_RX4_161 : Cond.fieldLink RX4 161 (TX3 18).1 (TX3 18).2.1 (TX3 18).2.2.1 ∈ lw_tb := tb_at 182 rfl rfl
theorem fl_RX4_161 : fw_fl RX4 161 3 18 := ⟨RX3, TX3, 20, rfl, in_X3, by decide, wf_RX4_161⟩
set_option maxRecDepth 20000 in
theorem wf_RX4_164 : Cond.fieldLink RX4 164 (TX3 19).1 (TX3 19).2.1 (TX3 19).2.2.1 ∈ lw_tb := tb_at 184 rfl rfl
theorem fl_RX4_164 : fw_fl RX4 164 3 19 := ⟨RX3, TX3, 20, rfl, in_X3, by decide, wf_RX4_164⟩
theorem fp_RX4_151 : fw_fp RX4 151 3 16 .int := ⟨RX3, TX3, 20, tyX3, rfl, in_X3, by decide, wf_RX4_151, tyX3_ok, nmX3, rfl, rfl⟩
set_option maxRecDepth 20000 in
theorem ws_X4_readPebble : Cond.static yX4_readPebble ∈ lw_tb := tb_at 599 rfl rfl
set_option maxRecDepth 20000 in
theorem wc_X4_readPebble : Cond.code yX4_readPebble cX4_readPebble 5 none ∈ lw_tb := tb_at 600 rfl rfl
set_option maxRecDepth 20000 in
theorem wl_RX4_54 : Cond.methodLink RX4 54 yX4_readPebble ∈ lw_tb := tb_at 598 rfl rfl
theorem ls_RX4_54 : fw_ls RX4 54 yX4_readPebble cX4_readPebble 5 none 2 := fw_ls_mk wl_RX4_54 ws_X4_readPebble wn_RX4 wc_X4_readPebble ⟨by decide +kernel, by decide +kernel, by decide +kernel⟩
set_option maxRecDepth 20000 in
theorem wl_RX9_111 : Cond.methodLink RX9 111 yX9_isAtSign ∈ lw_tb := tb_at 609 rfl rfl
theorem lv_RX9_111 : fw_lv RX9 111 yX9_isAtSign cX9_isAtSign 2 (some .boolean) 1 := fw_lv_mk wl_RX9_111 wi_X9_isAtSign wx_X9_isAtSign wn_RX9 wc_X9_isAtSign ⟨by decide +kernel, by decide +kernel, by decide +kernel⟩
set_option maxRecDepth 20000 in
theorem wl_RX4_61 : Cond.methodLink RX4 61 yX9_takeSign ∈ lw_tb := tb_at 605 rfl rfl
set_option maxRecDepth 20000 in
theorem wi_X9_takeSign : Cond.instanceMethod yX9_takeSign ∈ lw_tb := tb_at 606 rfl rfl
set_option maxRecDepth 20000 in
theorem wx_X9_takeSign : Cond.selects yX9_takeSign.cls yX9_takeSign yX9_takeSign ∈ lw_tb := tb_at 607 rfl rfl
set_option maxRecDepth 20000 in
theorem wc_X9_takeSign : Cond.code yX9_takeSign cX9_takeSign 2 none ∈ lw_tb := tb_at 608 rfl rfl
theorem lv_RX4_61 : fw_lv RX4 61 yX9_takeSign cX9_takeSign 2 none 1 := fw_lv_mk wl_RX4_61 wi_X9_takeSign wx_X9_takeSign wn_RX9 wc_X9_takeSign ⟨by decide +kernel, by decide +kernel, by decide +kernel⟩
set_option maxRecDepth 20000 in
theorem wl_RX4_64 : Cond.methodLink RX4 64 yX9_close ∈ lw_tb := tb_at 610 rfl rfl
set_option maxRecDepth 20000 in
theorem wi_X9_close : Cond.instanceMethod yX9_close ∈ lw_tb := tb_at 611 rfl rfl
set_option maxRecDepth 20000 in
theorem wx_X9_close : Cond.selects yX9_close.cls yX9_close yX9_close ∈ lw_tb := tb_at 612 rfl rfl
set_option maxRecDepth 20000 in
theorem wc_X9_close : Cond.code yX9_close cX9_close 1 none ∈ lw_tb := tb_at 613 rfl rfl
theorem lv_RX4_64 : fw_lv RX4 64 yX9_close cX9_close 1 none 0 := fw_lv_mk wl_RX4_64 wi_X9_close wx_X9_close wn_RX9 wc_X9_close ⟨by decide +kernel, by decide +kernel, by decide +kernel⟩
set_option maxRecDepth 20000 in
theorem ws_X4_readLines : Cond.static yX4_readLines ∈ lw_tb := tb_at 495 rfl rfl
set_option maxRecDepth 20000 in
theorem wc_X4_readLines : Cond.code yX4_readLines cX4_readLines 3 (some .int) ∈ lw_tb := tb_at 496 rfl rfl
set_option maxRecDepth 20000 in
theorem wl_RX11_81 : Cond.methodLink RX11 81 yX4_readLines ∈ lw_tb := tb_at 494 rfl rfl
theorem ls_RX11_81 : fw_ls RX11 81 yX4_readLines cX4_readLines 3 (some .int) 2 := fw_ls_mk wl_RX11_81 ws_X4_readLines wn_RX4 wc_X4_readLines ⟨by decide +kernel, by decide +kernel, by decide +kernel⟩
set_option maxRecDepth 20000 in
theorem wf_RX11_361 : Cond.fieldLink RX11 361 (TX9 10).1 (TX9 10).2.1 (TX9 10).2.2.1 ∈ lw_tb := tb_at 51 rfl rfl
theorem fl_RX11_361 : fw_fl RX11 361 7 10 := ⟨RX9, TX9, 12, rfl, in_X9, by decide, wf_RX11_361⟩
set_option maxRecDepth 20000 in
theorem wf_RX11_98 : Cond.fieldLink RX11 98 (TX11 1).1 (TX11 1).2.1 (TX11 1).2.2.1 ∈ lw_tb := tb_at 392 rfl rfl
theorem fl_RX11_98 : fw_fl RX11 98 9 1 := ⟨RX11, TX11, 17, rfl, in_X11, by decide, wf_RX11_98⟩
theorem fp_RX11_98 : fw_fp RX11 98 9 1 .int := ⟨RX11, TX11, 17, tyX11, rfl, in_X11, by decide, wf_RX11_98, tyX11_ok, nmX11, rfl, rfl⟩
set_option maxRecDepth 20000 in
theorem wl_RX11_87 : Cond.methodLink RX11 87 yX11_isRefused ∈ lw_tb := tb_at 614 rfl rfl
set_option maxRecDepth 20000 in
theorem wi_X11_isRefused : Cond.instanceMethod yX11_isRefused ∈ lw_tb := tb_at 616 rfl rfl
theorem wx_X11_isRefused : Cond.selects yX11_isRefused.cls yX11_isRefused yX11_isRefused ∈ lw_tb := tb_sel 6 (by decide +kernel) rfl
set_option maxRecDepth 20000 in
theorem wn_RX11 : Cond.initialized RX11 ∈ lw_tb := tb_at 1 rfl rfl
set_option maxRecDepth 20000 in
theorem wc_X11_isRefused : Cond.code yX11_isRefused cX11_isRefused 1 (some .boolean) ∈ lw_tb := tb_at 617 rfl rfl
theorem lv_RX11_87 : fw_lv RX11 87 yX11_isRefused cX11_isRefused 1 (some .boolean) 0 := fw_lv_mk wl_RX11_87 wi_X11_isRefused wx_X11_isRefused wn_RX11 wc_X11_isRefused ⟨by decide +kernel, by decide +kernel, by decide +kernel⟩
set_option maxRecDepth 20000 in
theorem wf_RX11_91 : Cond.fieldLink RX11 91 (TX9 11).1 (TX9 11).2.1 (TX9 11).2.2.1 ∈ lw_tb := tb_at 53 rfl rfl
theorem fl_RX11_91 : fw_fl RX11 91 7 11 := ⟨RX9, TX9, 12, rfl, in_X9, by decide, wf_RX11_91⟩
set_option maxRecDepth 20000 in
theorem wf_RX11_19 : Cond.fieldLink RX11 19 (TX11 2).1 (TX11 2).2.1 (TX11 2).2.2.1 ∈ lw_tb := tb_at 393 rfl rfl
theorem fl_RX11_19 : fw_fl RX11 19 9 2 := ⟨RX11, TX11, 17, rfl, in_X11, by decide, wf_RX11_19⟩
set_option maxRecDepth 20000 in
theorem wl_RX0_26 : Cond.methodLink RX0 26 arraycopyName ∈ lw_tb := tb_at 630 rfl rfl
set_option maxRecDepth 20000 in
theorem wa_nat : Cond.native arraycopyName ∈ lw_tb := tb_at 632 rfl rfl
set_option maxRecDepth 20000 in
theorem wa_st : Cond.static arraycopyName ∈ lw_tb := tb_at 631 rfl rfl
set_option maxRecDepth 20000 in
theorem wn_sys : Cond.initialized "java/lang/System" ∈ lw_tb := tb_at 14 rfl rfl
theorem ac_RX0_26 : fw_ac RX0 26 := ⟨wl_RX0_26, wa_nat, wa_st, wn_sys⟩
set_option maxRecDepth 20000 in
theorem wl_RX3_79 : Cond.methodLink RX3 79 yX0_copyFrom ∈ lw_tb := tb_at 626 rfl rfl
set_option maxRecDepth 20000 in
theorem wi_X0_copyFrom : Cond.instanceMethod yX0_copyFrom ∈ lw_tb := tb_at 627 rfl rfl
set_option maxRecDepth 20000 in
theorem wx_X0_copyFrom : Cond.selects yX0_copyFrom.cls yX0_copyFrom yX0_copyFrom ∈ lw_tb := tb_at 628 rfl rfl
set_option maxRecDepth 20000 in
theorem wc_X0_copyFrom : Cond.code yX0_copyFrom cX0_copyFrom 2 none ∈ lw_tb := tb_at 629 rfl rfl
theorem lv_RX3_79 : fw_lv RX3 79 yX0_copyFrom cX0_copyFrom 2 none 1 := fw_lv_mk wl_RX3_79 wi_X0_copyFrom wx_X0_copyFrom wn_RX0 wc_X0_copyFrom ⟨by decide +kernel, by decide +kernel, by decide +kernel⟩
set_option maxRecDepth 20000 in
theorem wf_RX3_18 : Cond.fieldLink RX3 18 (TX3 2).1 (TX3 2).2.1 (TX3 2).2.2.1 ∈ lw_tb := tb_at 121 rfl rfl
theorem fl_RX3_18 : fw_fl RX3 18 3 2 := ⟨RX3, TX3, 20, rfl, in_X3, by decide, wf_RX3_18⟩
set_option maxRecDepth 20000 in
theorem wl_RX3_83 : Cond.methodLink RX3 83 arraycopyName ∈ lw_tb := tb_at 633 rfl rfl
theorem ac_RX3_83 : fw_ac RX3 83 := ⟨wl_RX3_83, wa_nat, wa_st, wn_sys⟩
set_option maxRecDepth 20000 in
theorem wf_RX3_22 : Cond.fieldLink RX3 22 (TX3 3).1 (TX3 3).2.1 (TX3 3).2.2.1 ∈ lw_tb := tb_at 126 rfl rfl
theorem fl_RX3_22 : fw_fl RX3 22 3 3 := ⟨RX3, TX3, 20, rfl, in_X3, by decide, wf_RX3_22⟩
set_option maxRecDepth 20000 in
theorem wf_RX3_25 : Cond.fieldLink RX3 25 (TX3 6).1 (TX3 6).2.1 (TX3 6).2.2.1 ∈ lw_tb := tb_at 140 rfl rfl
theorem fl_RX3_25 : fw_fl RX3 25 3 6 := ⟨RX3, TX3, 20, rfl, in_X3, by decide, wf_RX3_25⟩
set_option maxRecDepth 20000 in
theorem wf_RX3_28 : Cond.fieldLink RX3 28 (TX3 7).1 (TX3 7).2.1 (TX3 7).2.2.1 ∈ lw_tb := tb_at 144 rfl rfl
theorem fl_RX3_28 : fw_fl RX3 28 3 7 := ⟨RX3, TX3, 20, rfl, in_X3, by decide, wf_RX3_28⟩
set_option maxRecDepth 20000 in
theorem wf_RX3_34 : Cond.fieldLink RX3 34 (TX3 10).1 (TX3 10).2.1 (TX3 10).2.2.1 ∈ lw_tb := tb_at 156 rfl rfl
theorem fl_RX3_34 : fw_fl RX3 34 3 10 := ⟨RX3, TX3, 20, rfl, in_X3, by decide, wf_RX3_34⟩
set_option maxRecDepth 20000 in
theorem wf_RX3_37 : Cond.fieldLink RX3 37 (TX3 11).1 (TX3 11).2.1 (TX3 11).2.2.1 ∈ lw_tb := tb_at 160 rfl rfl
theorem fl_RX3_37 : fw_fl RX3 37 3 11 := ⟨RX3, TX3, 20, rfl, in_X3, by decide, wf_RX3_37⟩
set_option maxRecDepth 20000 in
theorem wf_RX3_40 : Cond.fieldLink RX3 40 (TX3 12).1 (TX3 12).2.1 (TX3 12).2.2.1 ∈ lw_tb := tb_at 164 rfl rfl
theorem fl_RX3_40 : fw_fl RX3 40 3 12 := ⟨RX3, TX3, 20, rfl, in_X3, by decide, wf_RX3_40⟩
set_option maxRecDepth 20000 in
theorem wf_RX3_59 : Cond.fieldLink RX3 59 (TX3 19).1 (TX3 19).2.1 (TX3 19).2.2.1 ∈ lw_tb := tb_at 183 rfl rfl
theorem fl_RX3_59 : fw_fl RX3 59 3 19 := ⟨RX3, TX3, 20, rfl, in_X3, by decide, wf_RX3_59⟩
set_option maxRecDepth 20000 in
theorem wl_RX5_45 : Cond.methodLink RX5 45 yX3_copyFrom ∈ lw_tb := tb_at 622 rfl rfl
set_option maxRecDepth 20000 in
theorem wi_X3_copyFrom : Cond.instanceMethod yX3_copyFrom ∈ lw_tb := tb_at 623 rfl rfl
set_option maxRecDepth 20000 in
theorem wx_X3_copyFrom : Cond.selects yX3_copyFrom.cls yX3_copyFrom yX3_copyFrom ∈ lw_tb := tb_at 624 rfl rfl
set_option maxRecDepth 20000 in
theorem wc_X3_copyFrom : Cond.code yX3_copyFrom cX3_copyFrom 2 none ∈ lw_tb := tb_at 625 rfl rfl
theorem lv_RX5_45 : fw_lv RX5 45 yX3_copyFrom cX3_copyFrom 2 none 1 := fw_lv_mk wl_RX5_45 wi_X3_copyFrom wx_X3_copyFrom wn_RX3 wc_X3_copyFrom ⟨by decide +kernel, by decide +kernel, by decide +kernel⟩
set_option maxRecDepth 20000 in
theorem wf_RX1_9 : Cond.fieldLink RX1 9 (TX1 1).1 (TX1 1).2.1 (TX1 1).2.2.1 ∈ lw_tb := tb_at 235 rfl rfl
theorem fl_RX1_9 : fw_fl RX1 9 1 1 := ⟨RX1, TX1, 4, rfl, in_X1, by decide, wf_RX1_9⟩
set_option maxRecDepth 20000 in
theorem wl_RX1_25 : Cond.methodLink RX1 25 arraycopyName ∈ lw_tb := tb_at 638 rfl rfl
theorem ac_RX1_25 : fw_ac RX1 25 := ⟨wl_RX1_25, wa_nat, wa_st, wn_sys⟩
set_option maxRecDepth 20000 in
theorem wf_RX1_15 : Cond.fieldLink RX1 15 (TX1 2).1 (TX1 2).2.1 (TX1 2).2.2.1 ∈ lw_tb := tb_at 238 rfl rfl
theorem fl_RX1_15 : fw_fl RX1 15 1 2 := ⟨RX1, TX1, 4, rfl, in_X1, by decide, wf_RX1_15⟩
set_option maxRecDepth 20000 in
theorem wf_RX1_18 : Cond.fieldLink RX1 18 (TX1 3).1 (TX1 3).2.1 (TX1 3).2.2.1 ∈ lw_tb := tb_at 241 rfl rfl
theorem fl_RX1_18 : fw_fl RX1 18 1 3 := ⟨RX1, TX1, 4, rfl, in_X1, by decide, wf_RX1_18⟩
set_option maxRecDepth 20000 in
theorem wl_RX5_49 : Cond.methodLink RX5 49 yX1_copyFrom ∈ lw_tb := tb_at 634 rfl rfl
set_option maxRecDepth 20000 in
theorem wi_X1_copyFrom : Cond.instanceMethod yX1_copyFrom ∈ lw_tb := tb_at 635 rfl rfl
set_option maxRecDepth 20000 in
theorem wx_X1_copyFrom : Cond.selects yX1_copyFrom.cls yX1_copyFrom yX1_copyFrom ∈ lw_tb := tb_at 636 rfl rfl
set_option maxRecDepth 20000 in
theorem wc_X1_copyFrom : Cond.code yX1_copyFrom cX1_copyFrom 2 none ∈ lw_tb := tb_at 637 rfl rfl
theorem lv_RX5_49 : fw_lv RX5 49 yX1_copyFrom cX1_copyFrom 2 none 1 := fw_lv_mk wl_RX5_49 wi_X1_copyFrom wx_X1_copyFrom wn_RX1 wc_X1_copyFrom ⟨by decide +kernel, by decide +kernel, by decide +kernel⟩
set_option maxRecDepth 20000 in
theorem wf_RX8_21 : Cond.fieldLink RX8 21 (TX8 0).1 (TX8 0).2.1 (TX8 0).2.2.1 ∈ lw_tb := tb_at 259 rfl rfl
theorem fl_RX8_21 : fw_fl RX8 21 6 0 := ⟨RX8, TX8, 4, rfl, in_X8, by decide, wf_RX8_21⟩
theorem fp_RX8_21 : fw_fp RX8 21 6 0 .int := ⟨RX8, TX8, 4, tyX8, rfl, in_X8, by decide, wf_RX8_21, tyX8_ok, nmX8, rfl, rfl⟩
set_option maxRecDepth 20000 in
theorem wf_RX8_9 : Cond.fieldLink RX8 9 (TX8 1).1 (TX8 1).2.1 (TX8 1).2.2.1 ∈ lw_tb := tb_at 262 rfl rfl
theorem fl_RX8_9 : fw_fl RX8 9 6 1 := ⟨RX8, TX8, 4, rfl, in_X8, by decide, wf_RX8_9⟩
set_option maxRecDepth 20000 in
theorem wl_RX8_25 : Cond.methodLink RX8 25 arraycopyName ∈ lw_tb := tb_at 643 rfl rfl
theorem ac_RX8_25 : fw_ac RX8 25 := ⟨wl_RX8_25, wa_nat, wa_st, wn_sys⟩
set_option maxRecDepth 20000 in
theorem wf_RX8_15 : Cond.fieldLink RX8 15 (TX8 2).1 (TX8 2).2.1 (TX8 2).2.2.1 ∈ lw_tb := tb_at 263 rfl rfl
theorem fl_RX8_15 : fw_fl RX8 15 6 2 := ⟨RX8, TX8, 4, rfl, in_X8, by decide, wf_RX8_15⟩
set_option maxRecDepth 20000 in
theorem wf_RX8_18 : Cond.fieldLink RX8 18 (TX8 3).1 (TX8 3).2.1 (TX8 3).2.2.1 ∈ lw_tb := tb_at 264 rfl rfl
theorem fl_RX8_18 : fw_fl RX8 18 6 3 := ⟨RX8, TX8, 4, rfl, in_X8, by decide, wf_RX8_18⟩
set_option maxRecDepth 20000 in
theorem wl_RX5_52 : Cond.methodLink RX5 52 yX8_copyFrom ∈ lw_tb := tb_at 639 rfl rfl
set_option maxRecDepth 20000 in
theorem wi_X8_copyFrom : Cond.instanceMethod yX8_copyFrom ∈ lw_tb := tb_at 640 rfl rfl
set_option maxRecDepth 20000 in
theorem wx_X8_copyFrom : Cond.selects yX8_copyFrom.cls yX8_copyFrom yX8_copyFrom ∈ lw_tb := tb_at 641 rfl rfl
set_option maxRecDepth 20000 in
theorem wn_RX8 : Cond.initialized RX8 ∈ lw_tb := tb_at 7 rfl rfl
set_option maxRecDepth 20000 in
theorem wc_X8_copyFrom : Cond.code yX8_copyFrom cX8_copyFrom 2 none ∈ lw_tb := tb_at 642 rfl rfl
theorem lv_RX5_52 : fw_lv RX5 52 yX8_copyFrom cX8_copyFrom 2 none 1 := fw_lv_mk wl_RX5_52 wi_X8_copyFrom wx_X8_copyFrom wn_RX8 wc_X8_copyFrom ⟨by decide +kernel, by decide +kernel, by decide +kernel⟩
set_option maxRecDepth 20000 in
theorem wf_RX6_11 : Cond.fieldLink RX6 11 (TX6 2).1 (TX6 2).2.1 (TX6 2).2.2.1 ∈ lw_tb := tb_at 284 rfl rfl
theorem fl_RX6_11 : fw_fl RX6 11 5 2 := ⟨RX6, TX6, 7, rfl, in_X6, by decide, wf_RX6_11⟩
set_option maxRecDepth 20000 in
theorem wl_RX6_34 : Cond.methodLink RX6 34 arraycopyName ∈ lw_tb := tb_at 648 rfl rfl
theorem ac_RX6_34 : fw_ac RX6 34 := ⟨wl_RX6_34, wa_nat, wa_st, wn_sys⟩
set_option maxRecDepth 20000 in
theorem wf_RX6_15 : Cond.fieldLink RX6 15 (TX6 3).1 (TX6 3).2.1 (TX6 3).2.2.1 ∈ lw_tb := tb_at 285 rfl rfl
theorem fl_RX6_15 : fw_fl RX6 15 5 3 := ⟨RX6, TX6, 7, rfl, in_X6, by decide, wf_RX6_15⟩
set_option maxRecDepth 20000 in
theorem wf_RX6_18 : Cond.fieldLink RX6 18 (TX6 4).1 (TX6 4).2.1 (TX6 4).2.2.1 ∈ lw_tb := tb_at 286 rfl rfl
theorem fl_RX6_18 : fw_fl RX6 18 5 4 := ⟨RX6, TX6, 7, rfl, in_X6, by decide, wf_RX6_18⟩
set_option maxRecDepth 20000 in
theorem wf_RX6_21 : Cond.fieldLink RX6 21 (TX6 5).1 (TX6 5).2.1 (TX6 5).2.2.1 ∈ lw_tb := tb_at 287 rfl rfl
theorem fl_RX6_21 : fw_fl RX6 21 5 5 := ⟨RX6, TX6, 7, rfl, in_X6, by decide, wf_RX6_21⟩
set_option maxRecDepth 20000 in
theorem wf_RX6_24 : Cond.fieldLink RX6 24 (TX6 6).1 (TX6 6).2.1 (TX6 6).2.2.1 ∈ lw_tb := tb_at 288 rfl rfl
theorem fl_RX6_24 : fw_fl RX6 24 5 6 := ⟨RX6, TX6, 7, rfl, in_X6, by decide, wf_RX6_24⟩
set_option maxRecDepth 20000 in
theorem wl_RX5_55 : Cond.methodLink RX5 55 yX6_copyFrom ∈ lw_tb := tb_at 644 rfl rfl
set_option maxRecDepth 20000 in
theorem wi_X6_copyFrom : Cond.instanceMethod yX6_copyFrom ∈ lw_tb := tb_at 645 rfl rfl
set_option maxRecDepth 20000 in
theorem wx_X6_copyFrom : Cond.selects yX6_copyFrom.cls yX6_copyFrom yX6_copyFrom ∈ lw_tb := tb_at 646 rfl rfl
set_option maxRecDepth 20000 in
theorem wc_X6_copyFrom : Cond.code yX6_copyFrom cX6_copyFrom 2 none ∈ lw_tb := tb_at 647 rfl rfl
theorem lv_RX5_55 : fw_lv RX5 55 yX6_copyFrom cX6_copyFrom 2 none 1 := fw_lv_mk wl_RX5_55 wi_X6_copyFrom wx_X6_copyFrom wn_RX6 wc_X6_copyFrom ⟨by decide +kernel, by decide +kernel, by decide +kernel⟩
set_option maxRecDepth 20000 in
theorem wl_RX11_94 : Cond.methodLink RX11 94 yX5_copyFrom ∈ lw_tb := tb_at 618 rfl rfl
set_option maxRecDepth 20000 in
theorem wi_X5_copyFrom : Cond.instanceMethod yX5_copyFrom ∈ lw_tb := tb_at 619 rfl rfl
set_option maxRecDepth 20000 in
theorem wx_X5_copyFrom : Cond.selects yX5_copyFrom.cls yX5_copyFrom yX5_copyFrom ∈ lw_tb := tb_at 620 rfl rfl
set_option maxRecDepth 20000 in
theorem wc_X5_copyFrom : Cond.code yX5_copyFrom cX5_copyFrom 2 none ∈ lw_tb := tb_at 621 rfl rfl
theorem lv_RX11_94 : fw_lv RX11 94 yX5_copyFrom cX5_copyFrom 2 none 1 := fw_lv_mk wl_RX11_94 wi_X5_copyFrom wx_X5_copyFrom wn_RX5 wc_X5_copyFrom ⟨by decide +kernel, by decide +kernel, by decide +kernel⟩
set_option maxRecDepth 20000 in
theorem wf_RX11_46 : Cond.fieldLink RX11 46 (TX11 10).1 (TX11 10).2.1 (TX11 10).2.2.1 ∈ lw_tb := tb_at 401 rfl rfl
theorem fl_RX11_46 : fw_fl RX11 46 9 10 := ⟨RX11, TX11, 17, rfl, in_X11, by decide, wf_RX11_46⟩
theorem fp_RX11_46 : fw_fp RX11 46 9 10 .boolean := ⟨RX11, TX11, 17, tyX11, rfl, in_X11, by decide, wf_RX11_46, tyX11_ok, nmX11, rfl, rfl⟩
set_option maxRecDepth 20000 in
theorem wf_RX11_352 : Cond.fieldLink RX11 352 (TX3 1).1 (TX3 1).2.1 (TX3 1).2.2.1 ∈ lw_tb := tb_at 120 rfl rfl
theorem fl_RX11_352 : fw_fl RX11 352 3 1 := ⟨RX3, TX3, 20, rfl, in_X3, by decide, wf_RX11_352⟩
set_option maxRecDepth 20000 in
theorem wl_RX11_101 : Cond.methodLink RX11 101 yX11_isReach ∈ lw_tb := tb_at 702 rfl rfl
set_option maxRecDepth 20000 in
theorem wi_X11_isReach : Cond.instanceMethod yX11_isReach ∈ lw_tb := tb_at 704 rfl rfl
theorem wx_X11_isReach : Cond.selects yX11_isReach.cls yX11_isReach yX11_isReach ∈ lw_tb := tb_sel 10 (by decide +kernel) rfl
set_option maxRecDepth 20000 in
theorem wc_X11_isReach : Cond.code yX11_isReach cX11_isReach 2 (some .boolean) ∈ lw_tb := tb_at 705 rfl rfl
theorem lv_RX11_101 : fw_lv RX11 101 yX11_isReach cX11_isReach 2 (some .boolean) 1 := fw_lv_mk wl_RX11_101 wi_X11_isReach wx_X11_isReach wn_RX11 wc_X11_isReach ⟨by decide +kernel, by decide +kernel, by decide +kernel⟩
set_option maxRecDepth 20000 in
theorem wf_RX11_108 : Cond.fieldLink RX11 108 (TX3 2).1 (TX3 2).2.1 (TX3 2).2.2.1 ∈ lw_tb := tb_at 125 rfl rfl
theorem fl_RX11_108 : fw_fl RX11 108 3 2 := ⟨RX3, TX3, 20, rfl, in_X3, by decide, wf_RX11_108⟩
set_option maxRecDepth 20000 in
theorem wf_RX11_113 : Cond.fieldLink RX11 113 (TX3 3).1 (TX3 3).2.1 (TX3 3).2.2.1 ∈ lw_tb := tb_at 128 rfl rfl
theorem fl_RX11_113 : fw_fl RX11 113 3 3 := ⟨RX3, TX3, 20, rfl, in_X3, by decide, wf_RX11_113⟩
set_option maxRecDepth 20000 in
theorem wf_RX11_302 : Cond.fieldLink RX11 302 (TX3 5).1 (TX3 5).2.1 (TX3 5).2.2.1 ∈ lw_tb := tb_at 139 rfl rfl
theorem fl_RX11_302 : fw_fl RX11 302 3 5 := ⟨RX3, TX3, 20, rfl, in_X3, by decide, wf_RX11_302⟩
set_option maxRecDepth 20000 in
theorem wl_RX11_116 : Cond.methodLink RX11 116 yX11_isGuild ∈ lw_tb := tb_at 689 rfl rfl
set_option maxRecDepth 20000 in
theorem wi_X11_isGuild : Cond.instanceMethod yX11_isGuild ∈ lw_tb := tb_at 691 rfl rfl
theorem wx_X11_isGuild : Cond.selects yX11_isGuild.cls yX11_isGuild yX11_isGuild ∈ lw_tb := tb_sel 9 (by decide +kernel) rfl
set_option maxRecDepth 20000 in
theorem wc_X11_isGuild : Cond.code yX11_isGuild cX11_isGuild 2 (some .boolean) ∈ lw_tb := tb_at 692 rfl rfl
theorem lv_RX11_116 : fw_lv RX11 116 yX11_isGuild cX11_isGuild 2 (some .boolean) 1 := fw_lv_mk wl_RX11_116 wi_X11_isGuild wx_X11_isGuild wn_RX11 wc_X11_isGuild ⟨by decide +kernel, by decide +kernel, by decide +kernel⟩
set_option maxRecDepth 20000 in
theorem wf_RX11_119 : Cond.fieldLink RX11 119 (TX3 4).1 (TX3 4).2.1 (TX3 4).2.2.1 ∈ lw_tb := tb_at 133 rfl rfl
theorem fl_RX11_119 : fw_fl RX11 119 3 4 := ⟨RX3, TX3, 20, rfl, in_X3, by decide, wf_RX11_119⟩
set_option maxRecDepth 20000 in
theorem wf_RX11_122 : Cond.fieldLink RX11 122 (TX3 6).1 (TX3 6).2.1 (TX3 6).2.2.1 ∈ lw_tb := tb_at 142 rfl rfl
theorem fl_RX11_122 : fw_fl RX11 122 3 6 := ⟨RX3, TX3, 20, rfl, in_X3, by decide, wf_RX11_122⟩
set_option maxRecDepth 20000 in
theorem wf_RX11_125 : Cond.fieldLink RX11 125 (TX3 7).1 (TX3 7).2.1 (TX3 7).2.2.1 ∈ lw_tb := tb_at 146 rfl rfl
theorem fl_RX11_125 : fw_fl RX11 125 3 7 := ⟨RX3, TX3, 20, rfl, in_X3, by decide, wf_RX11_125⟩
set_option maxRecDepth 20000 in
theorem wf_RX11_128 : Cond.fieldLink RX11 128 (TX3 8).1 (TX3 8).2.1 (TX3 8).2.2.1 ∈ lw_tb := tb_at 150 rfl rfl
theorem fl_RX11_128 : fw_fl RX11 128 3 8 := ⟨RX3, TX3, 20, rfl, in_X3, by decide, wf_RX11_128⟩
set_option maxRecDepth 20000 in
theorem wf_RX11_355 : Cond.fieldLink RX11 355 (TX3 9).1 (TX3 9).2.1 (TX3 9).2.2.1 ∈ lw_tb := tb_at 155 rfl rfl
theorem fl_RX11_355 : fw_fl RX11 355 3 9 := ⟨RX3, TX3, 20, rfl, in_X3, by decide, wf_RX11_355⟩
set_option maxRecDepth 20000 in
theorem wl_RX11_131 : Cond.methodLink RX11 131 yX11_isUser ∈ lw_tb := tb_at 830 rfl rfl
set_option maxRecDepth 20000 in
theorem wi_X11_isUser : Cond.instanceMethod yX11_isUser ∈ lw_tb := tb_at 832 rfl rfl
theorem wx_X11_isUser : Cond.selects yX11_isUser.cls yX11_isUser yX11_isUser ∈ lw_tb := tb_sel 18 (by decide +kernel) rfl
set_option maxRecDepth 20000 in
theorem wc_X11_isUser : Cond.code yX11_isUser cX11_isUser 2 (some .boolean) ∈ lw_tb := tb_at 833 rfl rfl
theorem lv_RX11_131 : fw_lv RX11 131 yX11_isUser cX11_isUser 2 (some .boolean) 1 := fw_lv_mk wl_RX11_131 wi_X11_isUser wx_X11_isUser wn_RX11 wc_X11_isUser ⟨by decide +kernel, by decide +kernel, by decide +kernel⟩
set_option maxRecDepth 20000 in
theorem wf_RX11_134 : Cond.fieldLink RX11 134 (TX3 10).1 (TX3 10).2.1 (TX3 10).2.2.1 ∈ lw_tb := tb_at 158 rfl rfl
theorem fl_RX11_134 : fw_fl RX11 134 3 10 := ⟨RX3, TX3, 20, rfl, in_X3, by decide, wf_RX11_134⟩
set_option maxRecDepth 20000 in
theorem wf_RX11_137 : Cond.fieldLink RX11 137 (TX3 11).1 (TX3 11).2.1 (TX3 11).2.2.1 ∈ lw_tb := tb_at 162 rfl rfl
theorem fl_RX11_137 : fw_fl RX11 137 3 11 := ⟨RX3, TX3, 20, rfl, in_X3, by decide, wf_RX11_137⟩
set_option maxRecDepth 20000 in
theorem wf_RX11_140 : Cond.fieldLink RX11 140 (TX3 12).1 (TX3 12).2.1 (TX3 12).2.2.1 ∈ lw_tb := tb_at 166 rfl rfl
theorem fl_RX11_140 : fw_fl RX11 140 3 12 := ⟨RX3, TX3, 20, rfl, in_X3, by decide, wf_RX11_140⟩
set_option maxRecDepth 20000 in
theorem wf_RX11_143 : Cond.fieldLink RX11 143 (TX3 13).1 (TX3 13).2.1 (TX3 13).2.2.1 ∈ lw_tb := tb_at 170 rfl rfl
theorem fl_RX11_143 : fw_fl RX11 143 3 13 := ⟨RX3, TX3, 20, rfl, in_X3, by decide, wf_RX11_143⟩
set_option maxRecDepth 20000 in
theorem wl_RX11_146 : Cond.methodLink RX11 146 yX3_flowOn ∈ lw_tb := tb_at 980 rfl rfl
set_option maxRecDepth 20000 in
theorem wi_X3_flowOn : Cond.instanceMethod yX3_flowOn ∈ lw_tb := tb_at 724 rfl rfl
set_option maxRecDepth 20000 in
theorem wx_X3_flowOn : Cond.selects yX3_flowOn.cls yX3_flowOn yX3_flowOn ∈ lw_tb := tb_at 725 rfl rfl
set_option maxRecDepth 20000 in
theorem wc_X3_flowOn : Cond.code yX3_flowOn cX3_flowOn 2 (some .int) ∈ lw_tb := tb_at 726 rfl rfl
theorem lv_RX11_146 : fw_lv RX11 146 yX3_flowOn cX3_flowOn 2 (some .int) 1 := fw_lv_mk wl_RX11_146 wi_X3_flowOn wx_X3_flowOn wn_RX3 wc_X3_flowOn ⟨by decide +kernel, by decide +kernel, by decide +kernel⟩
set_option maxRecDepth 20000 in
theorem wf_RX11_150 : Cond.fieldLink RX11 150 (TX5 1).1 (TX5 1).2.1 (TX5 1).2.2.1 ∈ lw_tb := tb_at 307 rfl rfl
theorem fl_RX11_150 : fw_fl RX11 150 4 1 := ⟨RX5, TX5, 4, rfl, in_X5, by decide, wf_RX11_150⟩
set_option maxRecDepth 20000 in
theorem wl_RX11_154 : Cond.methodLink RX11 154 yX1_forget ∈ lw_tb := tb_at 657 rfl rfl
theorem lv_RX11_154 : fw_lv RX11 154 yX1_forget cX1_forget 1 none 0 := fw_lv_mk wl_RX11_154 wi_X1_forget wx_X1_forget wn_RX1 wc_X1_forget ⟨by decide +kernel, by decide +kernel, by decide +kernel⟩
set_option maxRecDepth 20000 in
theorem wf_RX11_157 : Cond.fieldLink RX11 157 (TX3 0).1 (TX3 0).2.1 (TX3 0).2.2.1 ∈ lw_tb := tb_at 116 rfl rfl
theorem fl_RX11_157 : fw_fl RX11 157 3 0 := ⟨RX3, TX3, 20, rfl, in_X3, by decide, wf_RX11_157⟩
set_option maxRecDepth 20000 in
theorem wl_RX1_31 : Cond.methodLink RX1 31 yX9_goesOn ∈ lw_tb := tb_at 662 rfl rfl
theorem lv_RX1_31 : fw_lv RX1 31 yX9_goesOn cX9_goesOn 1 (some .boolean) 0 := fw_lv_mk wl_RX1_31 wi_X9_goesOn wx_X9_goesOn wn_RX9 wc_X9_goesOn ⟨by decide +kernel, by decide +kernel, by decide +kernel⟩
set_option maxRecDepth 20000 in
theorem wk_RX1_44 : Cond.constantLong RX1 44 (Int64.ofInt 1650814060) ∈ lw_tb := tb_at 667 rfl rfl
set_option maxRecDepth 20000 in
theorem wl_RX1_46 : Cond.methodLink RX1 46 yX9_isWord ∈ lw_tb := tb_at 668 rfl rfl
theorem lv_RX1_46 : fw_lv RX1 46 yX9_isWord cX9_isWord 3 (some .boolean) 1 := fw_lv_mk wl_RX1_46 wi_X9_isWord wx_X9_isWord wn_RX9 wc_X9_isWord ⟨by decide +kernel, by decide +kernel, by decide +kernel⟩
set_option maxRecDepth 20000 in
theorem wl_RX1_50 : Cond.methodLink RX1 50 yX9_refuse ∈ lw_tb := tb_at 669 rfl rfl
theorem lv_RX1_50 : fw_lv RX1 50 yX9_refuse cX9_refuse 2 none 1 := fw_lv_mk wl_RX1_50 wi_X9_refuse wx_X9_refuse wn_RX9 wc_X9_refuse ⟨by decide +kernel, by decide +kernel, by decide +kernel⟩
set_option maxRecDepth 20000 in
theorem wl_RX1_54 : Cond.methodLink RX1 54 yX9_advance ∈ lw_tb := tb_at 670 rfl rfl
theorem lv_RX1_54 : fw_lv RX1 54 yX9_advance cX9_advance 2 none 0 := fw_lv_mk wl_RX1_54 wi_X9_advance wx_X9_advance wn_RX9 wc_X9_advance ⟨by decide +kernel, by decide +kernel, by decide +kernel⟩
set_option maxRecDepth 20000 in
theorem wl_RX1_57 : Cond.methodLink RX1 57 yX9_takeNumber ∈ lw_tb := tb_at 671 rfl rfl
theorem lv_RX1_57 : fw_lv RX1 57 yX9_takeNumber cX9_takeNumber 4 (some .int) 2 := fw_lv_mk wl_RX1_57 wi_X9_takeNumber wx_X9_takeNumber wn_RX9 wc_X9_takeNumber ⟨by decide +kernel, by decide +kernel, by decide +kernel⟩
set_option maxRecDepth 20000 in
theorem wl_RX1_63 : Cond.methodLink RX1 63 yX0_takeTold ∈ lw_tb := tb_at 672 rfl rfl
theorem lv_RX1_63 : fw_lv RX1 63 yX0_takeTold cX0_takeTold 4 (some .int) 2 := fw_lv_mk wl_RX1_63 wi_X0_takeTold wx_X0_takeTold wn_RX0 wc_X0_takeTold ⟨by decide +kernel, by decide +kernel, by decide +kernel⟩
set_option maxRecDepth 20000 in
theorem wl_RX1_67 : Cond.methodLink RX1 67 Lib.Math.min.name ∈ lw_tb := tb_at 673 rfl rfl
theorem mm_RX1_67 : fw_mn RX1 67 := ⟨wl_RX1_67, ws_math_min, wn_math, wc_math_min⟩
set_option maxRecDepth 20000 in
theorem wl_RX1_72 : Cond.methodLink RX1 72 yX9_takeSign ∈ lw_tb := tb_at 674 rfl rfl
theorem lv_RX1_72 : fw_lv RX1 72 yX9_takeSign cX9_takeSign 2 none 1 := fw_lv_mk wl_RX1_72 wi_X9_takeSign wx_X9_takeSign wn_RX9 wc_X9_takeSign ⟨by decide +kernel, by decide +kernel, by decide +kernel⟩
set_option maxRecDepth 20000 in
theorem wf_RX1_75 : Cond.fieldLink RX1 75 (TX9 10).1 (TX9 10).2.1 (TX9 10).2.2.1 ∈ lw_tb := tb_at 50 rfl rfl
theorem fl_RX1_75 : fw_fl RX1 75 7 10 := ⟨RX9, TX9, 12, rfl, in_X9, by decide, wf_RX1_75⟩
set_option maxRecDepth 20000 in
theorem wl_RX1_78 : Cond.methodLink RX1 78 yX1_add ∈ lw_tb := tb_at 675 rfl rfl
set_option maxRecDepth 20000 in
theorem wi_X1_add : Cond.instanceMethod yX1_add ∈ lw_tb := tb_at 676 rfl rfl
set_option maxRecDepth 20000 in
theorem wx_X1_add : Cond.selects yX1_add.cls yX1_add yX1_add ∈ lw_tb := tb_at 677 rfl rfl
set_option maxRecDepth 20000 in
theorem wc_X1_add : Cond.code yX1_add cX1_add 4 none ∈ lw_tb := tb_at 678 rfl rfl
theorem lv_RX1_78 : fw_lv RX1 78 yX1_add cX1_add 4 none 3 := fw_lv_mk wl_RX1_78 wi_X1_add wx_X1_add wn_RX1 wc_X1_add ⟨by decide +kernel, by decide +kernel, by decide +kernel⟩
set_option maxRecDepth 20000 in
theorem wl_RX1_37 : Cond.methodLink RX1 37 yX1_readBell ∈ lw_tb := tb_at 663 rfl rfl
set_option maxRecDepth 20000 in
theorem wi_X1_readBell : Cond.instanceMethod yX1_readBell ∈ lw_tb := tb_at 665 rfl rfl
theorem wx_X1_readBell : Cond.selects yX1_readBell.cls yX1_readBell yX1_readBell ∈ lw_tb := tb_sel 7 (by decide +kernel) rfl
set_option maxRecDepth 20000 in
theorem wc_X1_readBell : Cond.code yX1_readBell cX1_readBell 7 none ∈ lw_tb := tb_at 666 rfl rfl
theorem lv_RX1_37 : fw_lv RX1 37 yX1_readBell cX1_readBell 7 none 2 := fw_lv_mk wl_RX1_37 wi_X1_readBell wx_X1_readBell wn_RX1 wc_X1_readBell ⟨by decide +kernel, by decide +kernel, by decide +kernel⟩
set_option maxRecDepth 20000 in
theorem wl_RX1_41 : Cond.methodLink RX1 41 yX9_close ∈ lw_tb := tb_at 679 rfl rfl
theorem lv_RX1_41 : fw_lv RX1 41 yX9_close cX9_close 1 none 0 := fw_lv_mk wl_RX1_41 wi_X9_close wx_X9_close wn_RX9 wc_X9_close ⟨by decide +kernel, by decide +kernel, by decide +kernel⟩
set_option maxRecDepth 20000 in
theorem wl_RX11_161 : Cond.methodLink RX11 161 yX1_readBells ∈ lw_tb := tb_at 658 rfl rfl
set_option maxRecDepth 20000 in
theorem wi_X1_readBells : Cond.instanceMethod yX1_readBells ∈ lw_tb := tb_at 659 rfl rfl
set_option maxRecDepth 20000 in
theorem wx_X1_readBells : Cond.selects yX1_readBells.cls yX1_readBells yX1_readBells ∈ lw_tb := tb_at 660 rfl rfl
set_option maxRecDepth 20000 in
theorem wc_X1_readBells : Cond.code yX1_readBells cX1_readBells 4 none ∈ lw_tb := tb_at 661 rfl rfl
theorem lv_RX11_161 : fw_lv RX11 161 yX1_readBells cX1_readBells 4 none 2 := fw_lv_mk wl_RX11_161 wi_X1_readBells wx_X1_readBells wn_RX1 wc_X1_readBells ⟨by decide +kernel, by decide +kernel, by decide +kernel⟩
set_option maxRecDepth 20000 in
theorem wl_RX11_165 : Cond.methodLink RX11 165 yX1_copyFrom ∈ lw_tb := tb_at 680 rfl rfl
theorem lv_RX11_165 : fw_lv RX11 165 yX1_copyFrom cX1_copyFrom 2 none 1 := fw_lv_mk wl_RX11_165 wi_X1_copyFrom wx_X1_copyFrom wn_RX1 wc_X1_copyFrom ⟨by decide +kernel, by decide +kernel, by decide +kernel⟩
set_option maxRecDepth 20000 in
theorem wf_RX11_168 : Cond.fieldLink RX11 168 (TX1 0).1 (TX1 0).2.1 (TX1 0).2.2.1 ∈ lw_tb := tb_at 234 rfl rfl
theorem fl_RX11_168 : fw_fl RX11 168 1 0 := ⟨RX1, TX1, 4, rfl, in_X1, by decide, wf_RX11_168⟩
set_option maxRecDepth 20000 in
theorem wl_RX11_171 : Cond.methodLink RX11 171 yX11_isHour ∈ lw_tb := tb_at 685 rfl rfl
set_option maxRecDepth 20000 in
theorem wi_X11_isHour : Cond.instanceMethod yX11_isHour ∈ lw_tb := tb_at 687 rfl rfl
theorem wx_X11_isHour : Cond.selects yX11_isHour.cls yX11_isHour yX11_isHour ∈ lw_tb := tb_sel 8 (by decide +kernel) rfl
set_option maxRecDepth 20000 in
theorem wc_X11_isHour : Cond.code yX11_isHour cX11_isHour 2 (some .boolean) ∈ lw_tb := tb_at 688 rfl rfl
theorem lv_RX11_171 : fw_lv RX11 171 yX11_isHour cX11_isHour 2 (some .boolean) 1 := fw_lv_mk wl_RX11_171 wi_X11_isHour wx_X11_isHour wn_RX11 wc_X11_isHour ⟨by decide +kernel, by decide +kernel, by decide +kernel⟩
set_option maxRecDepth 20000 in
theorem wl_RX11_174 : Cond.methodLink RX11 174 yX1_add ∈ lw_tb := tb_at 693 rfl rfl
theorem lv_RX11_174 : fw_lv RX11 174 yX1_add cX1_add 4 none 3 := fw_lv_mk wl_RX11_174 wi_X1_add wx_X1_add wn_RX1 wc_X1_add ⟨by decide +kernel, by decide +kernel, by decide +kernel⟩
theorem fp_RX11_168 : fw_fp RX11 168 1 0 .int := ⟨RX1, TX1, 4, tyX1, rfl, in_X1, by decide, wf_RX11_168, tyX1_ok, nmX1, rfl, rfl⟩
set_option maxRecDepth 20000 in
theorem wl_RX11_178 : Cond.methodLink RX11 178 yX11_isBell ∈ lw_tb := tb_at 925 rfl rfl
set_option maxRecDepth 20000 in
theorem wi_X11_isBell : Cond.instanceMethod yX11_isBell ∈ lw_tb := tb_at 927 rfl rfl
theorem wx_X11_isBell : Cond.selects yX11_isBell.cls yX11_isBell yX11_isBell ∈ lw_tb := tb_sel 25 (by decide +kernel) rfl
set_option maxRecDepth 20000 in
theorem wc_X11_isBell : Cond.code yX11_isBell cX11_isBell 2 (some .boolean) ∈ lw_tb := tb_at 928 rfl rfl
theorem lv_RX11_178 : fw_lv RX11 178 yX11_isBell cX11_isBell 2 (some .boolean) 1 := fw_lv_mk wl_RX11_178 wi_X11_isBell wx_X11_isBell wn_RX11 wc_X11_isBell ⟨by decide +kernel, by decide +kernel, by decide +kernel⟩
set_option maxRecDepth 20000 in
theorem wf_RX11_181 : Cond.fieldLink RX11 181 (TX1 1).1 (TX1 1).2.1 (TX1 1).2.2.1 ∈ lw_tb := tb_at 237 rfl rfl
theorem fl_RX11_181 : fw_fl RX11 181 1 1 := ⟨RX1, TX1, 4, rfl, in_X1, by decide, wf_RX11_181⟩
set_option maxRecDepth 20000 in
theorem wf_RX11_184 : Cond.fieldLink RX11 184 (TX1 2).1 (TX1 2).2.1 (TX1 2).2.2.1 ∈ lw_tb := tb_at 240 rfl rfl
theorem fl_RX11_184 : fw_fl RX11 184 1 2 := ⟨RX1, TX1, 4, rfl, in_X1, by decide, wf_RX11_184⟩
set_option maxRecDepth 20000 in
theorem wf_RX11_187 : Cond.fieldLink RX11 187 (TX1 3).1 (TX1 3).2.1 (TX1 3).2.2.1 ∈ lw_tb := tb_at 243 rfl rfl
theorem fl_RX11_187 : fw_fl RX11 187 1 3 := ⟨RX1, TX1, 4, rfl, in_X1, by decide, wf_RX11_187⟩
set_option maxRecDepth 20000 in
theorem wl_RX11_190 : Cond.methodLink RX11 190 yX11_isColour ∈ lw_tb := tb_at 706 rfl rfl
set_option maxRecDepth 20000 in
theorem wi_X11_isColour : Cond.instanceMethod yX11_isColour ∈ lw_tb := tb_at 708 rfl rfl
theorem wx_X11_isColour : Cond.selects yX11_isColour.cls yX11_isColour yX11_isColour ∈ lw_tb := tb_sel 11 (by decide +kernel) rfl
set_option maxRecDepth 20000 in
theorem wc_X11_isColour : Cond.code yX11_isColour cX11_isColour 2 (some .boolean) ∈ lw_tb := tb_at 709 rfl rfl
theorem lv_RX11_190 : fw_lv RX11 190 yX11_isColour cX11_isColour 2 (some .boolean) 1 := fw_lv_mk wl_RX11_190 wi_X11_isColour wx_X11_isColour wn_RX11 wc_X11_isColour ⟨by decide +kernel, by decide +kernel, by decide +kernel⟩
set_option maxRecDepth 20000 in
theorem wf_RX11_35 : Cond.fieldLink RX11 35 (TX11 8).1 (TX11 8).2.1 (TX11 8).2.2.1 ∈ lw_tb := tb_at 399 rfl rfl
theorem fl_RX11_35 : fw_fl RX11 35 9 8 := ⟨RX11, TX11, 17, rfl, in_X11, by decide, wf_RX11_35⟩
set_option maxRecDepth 20000 in
theorem wf_RX10_56 : Cond.fieldLink RX10 56 (TX3 2).1 (TX3 2).2.1 (TX3 2).2.2.1 ∈ lw_tb := tb_at 122 rfl rfl
theorem fl_RX10_56 : fw_fl RX10 56 3 2 := ⟨RX3, TX3, 20, rfl, in_X3, by decide, wf_RX10_56⟩
theorem in_X10 : ∀ w ∈ u_ws RX10 TX10 6, w ∈ lw_tb := by
  have h : ((u_ws RX10 TX10 6).all fun w => decide (w ∈ lw_tbl) && goodWord w) = true := by decide +kernel
  intro w hw
  have h1 := List.all_eq_true.mp h w hw
  simp only [Bool.and_eq_true, decide_eq_true_eq] at h1
  exact lw_tb_of h1.1 h1.2
set_option maxRecDepth 20000 in
theorem wf_RX10_9 : Cond.fieldLink RX10 9 (TX10 0).1 (TX10 0).2.1 (TX10 0).2.2.1 ∈ lw_tb := tb_at 327 rfl rfl
theorem fl_RX10_9 : fw_fl RX10 9 8 0 := ⟨RX10, TX10, 6, rfl, in_X10, by decide, wf_RX10_9⟩
set_option maxRecDepth 20000 in
theorem wl_RX10_59 : Cond.methodLink RX10 59 arraycopyName ∈ lw_tb := tb_at 722 rfl rfl
theorem ac_RX10_59 : fw_ac RX10 59 := ⟨wl_RX10_59, wa_nat, wa_st, wn_sys⟩
set_option maxRecDepth 20000 in
theorem wf_RX10_15 : Cond.fieldLink RX10 15 (TX10 1).1 (TX10 1).2.1 (TX10 1).2.2.1 ∈ lw_tb := tb_at 329 rfl rfl
theorem fl_RX10_15 : fw_fl RX10 15 8 1 := ⟨RX10, TX10, 6, rfl, in_X10, by decide, wf_RX10_15⟩
set_option maxRecDepth 20000 in
theorem wl_RX10_65 : Cond.methodLink RX10 65 yX3_flowOn ∈ lw_tb := tb_at 723 rfl rfl
theorem lv_RX10_65 : fw_lv RX10 65 yX3_flowOn cX3_flowOn 2 (some .int) 1 := fw_lv_mk wl_RX10_65 wi_X3_flowOn wx_X3_flowOn wn_RX3 wc_X3_flowOn ⟨by decide +kernel, by decide +kernel, by decide +kernel⟩
set_option maxRecDepth 20000 in
theorem wl_RX10_30 : Cond.methodLink RX10 30 yX10_takeFrom ∈ lw_tb := tb_at 718 rfl rfl
set_option maxRecDepth 20000 in
theorem wi_X10_takeFrom : Cond.instanceMethod yX10_takeFrom ∈ lw_tb := tb_at 719 rfl rfl
set_option maxRecDepth 20000 in
theorem wx_X10_takeFrom : Cond.selects yX10_takeFrom.cls yX10_takeFrom yX10_takeFrom ∈ lw_tb := tb_at 720 rfl rfl
set_option maxRecDepth 20000 in
theorem wn_RX10 : Cond.initialized RX10 ∈ lw_tb := tb_at 9 rfl rfl
set_option maxRecDepth 20000 in
theorem wc_X10_takeFrom : Cond.code yX10_takeFrom cX10_takeFrom 3 none ∈ lw_tb := tb_at 721 rfl rfl
theorem lv_RX10_30 : fw_lv RX10 30 yX10_takeFrom cX10_takeFrom 3 none 1 := fw_lv_mk wl_RX10_30 wi_X10_takeFrom wx_X10_takeFrom wn_RX10 wc_X10_takeFrom ⟨by decide +kernel, by decide +kernel, by decide +kernel⟩
set_option maxRecDepth 20000 in
theorem wf_RX10_18 : Cond.fieldLink RX10 18 (TX10 2).1 (TX10 2).2.1 (TX10 2).2.2.1 ∈ lw_tb := tb_at 331 rfl rfl
theorem fl_RX10_18 : fw_fl RX10 18 8 2 := ⟨RX10, TX10, 6, rfl, in_X10, by decide, wf_RX10_18⟩
set_option maxRecDepth 20000 in
theorem wl_RX10_34 : Cond.methodLink RX10 34 yX10_rest ∈ lw_tb := tb_at 727 rfl rfl
set_option maxRecDepth 20000 in
theorem wi_X10_rest : Cond.instanceMethod yX10_rest ∈ lw_tb := tb_at 728 rfl rfl
set_option maxRecDepth 20000 in
theorem wx_X10_rest : Cond.selects yX10_rest.cls yX10_rest yX10_rest ∈ lw_tb := tb_at 729 rfl rfl
set_option maxRecDepth 20000 in
theorem wc_X10_rest : Cond.code yX10_rest cX10_rest 2 none ∈ lw_tb := tb_at 730 rfl rfl
theorem lv_RX10_34 : fw_lv RX10 34 yX10_rest cX10_rest 2 none 0 := fw_lv_mk wl_RX10_34 wi_X10_rest wx_X10_rest wn_RX10 wc_X10_rest ⟨by decide +kernel, by decide +kernel, by decide +kernel⟩
set_option maxRecDepth 20000 in
theorem wf_RX10_37 : Cond.fieldLink RX10 37 (TX1 0).1 (TX1 0).2.1 (TX1 0).2.2.1 ∈ lw_tb := tb_at 233 rfl rfl
theorem fl_RX10_37 : fw_fl RX10 37 1 0 := ⟨RX1, TX1, 4, rfl, in_X1, by decide, wf_RX10_37⟩
set_option maxRecDepth 20000 in
theorem wf_RX10_43 : Cond.fieldLink RX10 43 (TX1 2).1 (TX1 2).2.1 (TX1 2).2.2.1 ∈ lw_tb := tb_at 239 rfl rfl
theorem fl_RX10_43 : fw_fl RX10 43 1 2 := ⟨RX1, TX1, 4, rfl, in_X1, by decide, wf_RX10_43⟩
set_option maxRecDepth 20000 in
theorem wf_RX10_46 : Cond.fieldLink RX10 46 (TX1 1).1 (TX1 1).2.1 (TX1 1).2.2.1 ∈ lw_tb := tb_at 236 rfl rfl
theorem fl_RX10_46 : fw_fl RX10 46 1 1 := ⟨RX1, TX1, 4, rfl, in_X1, by decide, wf_RX10_46⟩
set_option maxRecDepth 20000 in
theorem wf_RX10_49 : Cond.fieldLink RX10 49 (TX1 3).1 (TX1 3).2.1 (TX1 3).2.2.1 ∈ lw_tb := tb_at 242 rfl rfl
theorem fl_RX10_49 : fw_fl RX10 49 1 3 := ⟨RX1, TX1, 4, rfl, in_X1, by decide, wf_RX10_49⟩
set_option maxRecDepth 20000 in
theorem wl_RX10_69 : Cond.methodLink RX10 69 Lib.Math.max.name ∈ lw_tb := tb_at 735 rfl rfl
set_option maxRecDepth 20000 in
theorem ws_math_max : Cond.static Lib.Math.max.name ∈ lw_tb := tb_at 736 rfl rfl
set_option maxRecDepth 20000 in
theorem wc_math_max : Cond.code Lib.Math.max.name Lib.Math.max.code 2 (some .int) ∈ lw_tb := tb_at 737 rfl rfl
theorem mm_RX10_69 : fw_mx RX10 69 := ⟨wl_RX10_69, ws_math_max, wn_math, wc_math_max⟩
set_option maxRecDepth 20000 in
theorem wl_RX10_52 : Cond.methodLink RX10 52 yX10_setWork ∈ lw_tb := tb_at 731 rfl rfl
set_option maxRecDepth 20000 in
theorem wi_X10_setWork : Cond.instanceMethod yX10_setWork ∈ lw_tb := tb_at 732 rfl rfl
set_option maxRecDepth 20000 in
theorem wx_X10_setWork : Cond.selects yX10_setWork.cls yX10_setWork yX10_setWork ∈ lw_tb := tb_at 733 rfl rfl
set_option maxRecDepth 20000 in
theorem wc_X10_setWork : Cond.code yX10_setWork cX10_setWork 5 none ∈ lw_tb := tb_at 734 rfl rfl
theorem lv_RX10_52 : fw_lv RX10 52 yX10_setWork cX10_setWork 5 none 3 := fw_lv_mk wl_RX10_52 wi_X10_setWork wx_X10_setWork wn_RX10 wc_X10_setWork ⟨by decide +kernel, by decide +kernel, by decide +kernel⟩
set_option maxRecDepth 20000 in
theorem wl_RX11_234 : Cond.methodLink RX11 234 yX10_prepare ∈ lw_tb := tb_at 714 rfl rfl
set_option maxRecDepth 20000 in
theorem wi_X10_prepare : Cond.instanceMethod yX10_prepare ∈ lw_tb := tb_at 715 rfl rfl
set_option maxRecDepth 20000 in
theorem wx_X10_prepare : Cond.selects yX10_prepare.cls yX10_prepare yX10_prepare ∈ lw_tb := tb_at 716 rfl rfl
set_option maxRecDepth 20000 in
theorem wc_X10_prepare : Cond.code yX10_prepare cX10_prepare 4 none ∈ lw_tb := tb_at 717 rfl rfl
theorem lv_RX11_234 : fw_lv RX11 234 yX10_prepare cX10_prepare 4 none 2 := fw_lv_mk wl_RX11_234 wi_X10_prepare wx_X10_prepare wn_RX10 wc_X10_prepare ⟨by decide +kernel, by decide +kernel, by decide +kernel⟩
set_option maxRecDepth 20000 in
theorem wf_RX10_21 : Cond.fieldLink RX10 21 (TX10 3).1 (TX10 3).2.1 (TX10 3).2.2.1 ∈ lw_tb := tb_at 334 rfl rfl
theorem fl_RX10_21 : fw_fl RX10 21 8 3 := ⟨RX10, TX10, 6, rfl, in_X10, by decide, wf_RX10_21⟩
set_option maxRecDepth 20000 in
theorem wf_RX10_24 : Cond.fieldLink RX10 24 (TX10 4).1 (TX10 4).2.1 (TX10 4).2.2.1 ∈ lw_tb := tb_at 337 rfl rfl
theorem fl_RX10_24 : fw_fl RX10 24 8 4 := ⟨RX10, TX10, 6, rfl, in_X10, by decide, wf_RX10_24⟩
set_option maxRecDepth 20000 in
theorem wl_RX11_241 : Cond.methodLink RX11 241 yX10_empty ∈ lw_tb := tb_at 738 rfl rfl
set_option maxRecDepth 20000 in
theorem wi_X10_empty : Cond.instanceMethod yX10_empty ∈ lw_tb := tb_at 739 rfl rfl
set_option maxRecDepth 20000 in
theorem wx_X10_empty : Cond.selects yX10_empty.cls yX10_empty yX10_empty ∈ lw_tb := tb_at 740 rfl rfl
set_option maxRecDepth 20000 in
theorem wc_X10_empty : Cond.code yX10_empty cX10_empty 2 none ∈ lw_tb := tb_at 741 rfl rfl
theorem lv_RX11_241 : fw_lv RX11 241 yX10_empty cX10_empty 2 none 0 := fw_lv_mk wl_RX11_241 wi_X10_empty wx_X10_empty wn_RX10 wc_X10_empty ⟨by decide +kernel, by decide +kernel, by decide +kernel⟩
set_option maxRecDepth 20000 in
theorem wf_RX10_95 : Cond.fieldLink RX10 95 (TX3 5).1 (TX3 5).2.1 (TX3 5).2.2.1 ∈ lw_tb := tb_at 138 rfl rfl
theorem fl_RX10_95 : fw_fl RX10 95 3 5 := ⟨RX3, TX3, 20, rfl, in_X3, by decide, wf_RX10_95⟩
set_option maxRecDepth 20000 in
theorem wf_RX10_98 : Cond.fieldLink RX10 98 (TX3 4).1 (TX3 4).2.1 (TX3 4).2.2.1 ∈ lw_tb := tb_at 134 rfl rfl
theorem fl_RX10_98 : fw_fl RX10 98 3 4 := ⟨RX3, TX3, 20, rfl, in_X3, by decide, wf_RX10_98⟩
set_option maxRecDepth 20000 in
theorem wf_RX10_101 : Cond.fieldLink RX10 101 (TX3 6).1 (TX3 6).2.1 (TX3 6).2.2.1 ∈ lw_tb := tb_at 143 rfl rfl
theorem fl_RX10_101 : fw_fl RX10 101 3 6 := ⟨RX3, TX3, 20, rfl, in_X3, by decide, wf_RX10_101⟩
set_option maxRecDepth 20000 in
theorem wf_RX10_104 : Cond.fieldLink RX10 104 (TX3 8).1 (TX3 8).2.1 (TX3 8).2.2.1 ∈ lw_tb := tb_at 151 rfl rfl
theorem fl_RX10_104 : fw_fl RX10 104 3 8 := ⟨RX3, TX3, 20, rfl, in_X3, by decide, wf_RX10_104⟩
set_option maxRecDepth 20000 in
theorem wl_RX10_78 : Cond.methodLink RX10 78 yX10_pour ∈ lw_tb := tb_at 746 rfl rfl
set_option maxRecDepth 20000 in
theorem wi_X10_pour : Cond.instanceMethod yX10_pour ∈ lw_tb := tb_at 748 rfl rfl
theorem wx_X10_pour : Cond.selects yX10_pour.cls yX10_pour yX10_pour ∈ lw_tb := tb_sel 13 (by decide +kernel) rfl
set_option maxRecDepth 20000 in
theorem wc_X10_pour : Cond.code yX10_pour cX10_pour 5 none ∈ lw_tb := tb_at 749 rfl rfl
theorem lv_RX10_78 : fw_lv RX10 78 yX10_pour cX10_pour 5 none 2 := fw_lv_mk wl_RX10_78 wi_X10_pour wx_X10_pour wn_RX10 wc_X10_pour ⟨by decide +kernel, by decide +kernel, by decide +kernel⟩
set_option maxRecDepth 20000 in
theorem wl_RX10_82 : Cond.methodLink RX10 82 yX3_floodFrom ∈ lw_tb := tb_at 750 rfl rfl
set_option maxRecDepth 20000 in
theorem wi_X3_floodFrom : Cond.instanceMethod yX3_floodFrom ∈ lw_tb := tb_at 751 rfl rfl
set_option maxRecDepth 20000 in
theorem wx_X3_floodFrom : Cond.selects yX3_floodFrom.cls yX3_floodFrom yX3_floodFrom ∈ lw_tb := tb_at 752 rfl rfl
set_option maxRecDepth 20000 in
theorem wc_X3_floodFrom : Cond.code yX3_floodFrom cX3_floodFrom 1 (some .int) ∈ lw_tb := tb_at 753 rfl rfl
theorem lv_RX10_82 : fw_lv RX10 82 yX3_floodFrom cX3_floodFrom 1 (some .int) 0 := fw_lv_mk wl_RX10_82 wi_X3_floodFrom wx_X3_floodFrom wn_RX3 wc_X3_floodFrom ⟨by decide +kernel, by decide +kernel, by decide +kernel⟩
set_option maxRecDepth 20000 in
theorem wf_RX10_107 : Cond.fieldLink RX10 107 (TX3 1).1 (TX3 1).2.1 (TX3 1).2.2.1 ∈ lw_tb := tb_at 119 rfl rfl
theorem fl_RX10_107 : fw_fl RX10 107 3 1 := ⟨RX3, TX3, 20, rfl, in_X3, by decide, wf_RX10_107⟩
set_option maxRecDepth 20000 in
theorem wl_RX10_86 : Cond.methodLink RX10 86 yX10_washUp ∈ lw_tb := tb_at 754 rfl rfl
set_option maxRecDepth 20000 in
theorem wi_X10_washUp : Cond.instanceMethod yX10_washUp ∈ lw_tb := tb_at 756 rfl rfl
theorem wx_X10_washUp : Cond.selects yX10_washUp.cls yX10_washUp yX10_washUp ∈ lw_tb := tb_sel 14 (by decide +kernel) rfl
set_option maxRecDepth 20000 in
theorem wc_X10_washUp : Cond.code yX10_washUp cX10_washUp 4 none ∈ lw_tb := tb_at 757 rfl rfl
theorem lv_RX10_86 : fw_lv RX10 86 yX10_washUp cX10_washUp 4 none 1 := fw_lv_mk wl_RX10_86 wi_X10_washUp wx_X10_washUp wn_RX10 wc_X10_washUp ⟨by decide +kernel, by decide +kernel, by decide +kernel⟩
set_option maxRecDepth 20000 in
theorem wf_RX10_27 : Cond.fieldLink RX10 27 (TX10 5).1 (TX10 5).2.1 (TX10 5).2.2.1 ∈ lw_tb := tb_at 339 rfl rfl
theorem fl_RX10_27 : fw_fl RX10 27 8 5 := ⟨RX10, TX10, 6, rfl, in_X10, by decide, wf_RX10_27⟩
set_option maxRecDepth 20000 in
theorem wl_RX10_110 : Cond.methodLink RX10 110 Lib.Math.min.name ∈ lw_tb := tb_at 762 rfl rfl
theorem mm_RX10_110 : fw_mn RX10 110 := ⟨wl_RX10_110, ws_math_min, wn_math, wc_math_min⟩
set_option maxRecDepth 20000 in
theorem ws_X10_partOf : Cond.static yX10_partOf ∈ lw_tb := tb_at 764 rfl rfl
set_option maxRecDepth 20000 in
theorem wc_X10_partOf : Cond.code yX10_partOf cX10_partOf 3 (some .int) ∈ lw_tb := tb_at 765 rfl rfl
set_option maxRecDepth 20000 in
theorem wl_RX10_113 : Cond.methodLink RX10 113 yX10_partOf ∈ lw_tb := tb_at 763 rfl rfl
theorem ls_RX10_113 : fw_ls RX10 113 yX10_partOf cX10_partOf 3 (some .int) 3 := fw_ls_mk wl_RX10_113 ws_X10_partOf wn_RX10 wc_X10_partOf ⟨by decide +kernel, by decide +kernel, by decide +kernel⟩
set_option maxRecDepth 20000 in
theorem wl_RX10_89 : Cond.methodLink RX10 89 yX10_carry ∈ lw_tb := tb_at 758 rfl rfl
set_option maxRecDepth 20000 in
theorem wi_X10_carry : Cond.instanceMethod yX10_carry ∈ lw_tb := tb_at 760 rfl rfl
theorem wx_X10_carry : Cond.selects yX10_carry.cls yX10_carry yX10_carry ∈ lw_tb := tb_sel 15 (by decide +kernel) rfl
set_option maxRecDepth 20000 in
theorem wc_X10_carry : Cond.code yX10_carry cX10_carry 7 none ∈ lw_tb := tb_at 761 rfl rfl
theorem lv_RX10_89 : fw_lv RX10 89 yX10_carry cX10_carry 7 none 2 := fw_lv_mk wl_RX10_89 wi_X10_carry wx_X10_carry wn_RX10 wc_X10_carry ⟨by decide +kernel, by decide +kernel, by decide +kernel⟩
set_option maxRecDepth 20000 in
theorem wf_RX10_117 : Cond.fieldLink RX10 117 (TX3 3).1 (TX3 3).2.1 (TX3 3).2.2.1 ∈ lw_tb := tb_at 129 rfl rfl
theorem fl_RX10_117 : fw_fl RX10 117 3 3 := ⟨RX3, TX3, 20, rfl, in_X3, by decide, wf_RX10_117⟩
set_option maxRecDepth 20000 in
theorem wl_RX10_92 : Cond.methodLink RX10 92 yX10_sink ∈ lw_tb := tb_at 766 rfl rfl
set_option maxRecDepth 20000 in
theorem wi_X10_sink : Cond.instanceMethod yX10_sink ∈ lw_tb := tb_at 768 rfl rfl
theorem wx_X10_sink : Cond.selects yX10_sink.cls yX10_sink yX10_sink ∈ lw_tb := tb_sel 16 (by decide +kernel) rfl
set_option maxRecDepth 20000 in
theorem wc_X10_sink : Cond.code yX10_sink cX10_sink 6 none ∈ lw_tb := tb_at 769 rfl rfl
theorem lv_RX10_92 : fw_lv RX10 92 yX10_sink cX10_sink 6 none 1 := fw_lv_mk wl_RX10_92 wi_X10_sink wx_X10_sink wn_RX10 wc_X10_sink ⟨by decide +kernel, by decide +kernel, by decide +kernel⟩
set_option maxRecDepth 20000 in
theorem wl_RX11_244 : Cond.methodLink RX11 244 yX10_pass ∈ lw_tb := tb_at 742 rfl rfl
set_option maxRecDepth 20000 in
theorem wi_X10_pass : Cond.instanceMethod yX10_pass ∈ lw_tb := tb_at 743 rfl rfl
set_option maxRecDepth 20000 in
theorem wx_X10_pass : Cond.selects yX10_pass.cls yX10_pass yX10_pass ∈ lw_tb := tb_at 744 rfl rfl
set_option maxRecDepth 20000 in
theorem wc_X10_pass : Cond.code yX10_pass cX10_pass 4 none ∈ lw_tb := tb_at 745 rfl rfl
theorem lv_RX11_244 : fw_lv RX11 244 yX10_pass cX10_pass 4 none 2 := fw_lv_mk wl_RX11_244 wi_X10_pass wx_X10_pass wn_RX10 wc_X10_pass ⟨by decide +kernel, by decide +kernel, by decide +kernel⟩
set_option maxRecDepth 20000 in
theorem wf_RX11_42 : Cond.fieldLink RX11 42 (TX11 9).1 (TX11 9).2.1 (TX11 9).2.2.1 ∈ lw_tb := tb_at 400 rfl rfl
theorem fl_RX11_42 : fw_fl RX11 42 9 9 := ⟨RX11, TX11, 17, rfl, in_X11, by decide, wf_RX11_42⟩
set_option maxRecDepth 20000 in
theorem wf_RX2_30 : Cond.fieldLink RX2 30 (TX10 3).1 (TX10 3).2.1 (TX10 3).2.2.1 ∈ lw_tb := tb_at 335 rfl rfl
theorem fl_RX2_30 : fw_fl RX2 30 8 3 := ⟨RX10, TX10, 6, rfl, in_X10, by decide, wf_RX2_30⟩
theorem in_X2 : ∀ w ∈ u_ws RX2 TX2 6, w ∈ lw_tb := by
  have h : ((u_ws RX2 TX2 6).all fun w => decide (w ∈ lw_tbl) && goodWord w) = true := by decide +kernel
  intro w hw
  have h1 := List.all_eq_true.mp h w hw
  simp only [Bool.and_eq_true, decide_eq_true_eq] at h1
  exact lw_tb_of h1.1 h1.2
set_option maxRecDepth 20000 in
theorem wf_RX2_9 : Cond.fieldLink RX2 9 (TX2 0).1 (TX2 0).2.1 (TX2 0).2.2.1 ∈ lw_tb := tb_at 361 rfl rfl
theorem fl_RX2_9 : fw_fl RX2 9 2 0 := ⟨RX2, TX2, 6, rfl, in_X2, by decide, wf_RX2_9⟩
set_option maxRecDepth 20000 in
theorem wl_RX2_33 : Cond.methodLink RX2 33 arraycopyName ∈ lw_tb := tb_at 774 rfl rfl
theorem ac_RX2_33 : fw_ac RX2 33 := ⟨wl_RX2_33, wa_nat, wa_st, wn_sys⟩
set_option maxRecDepth 20000 in
theorem wf_RX2_39 : Cond.fieldLink RX2 39 (TX10 4).1 (TX10 4).2.1 (TX10 4).2.2.1 ∈ lw_tb := tb_at 338 rfl rfl
theorem fl_RX2_39 : fw_fl RX2 39 8 4 := ⟨RX10, TX10, 6, rfl, in_X10, by decide, wf_RX2_39⟩
set_option maxRecDepth 20000 in
theorem wf_RX2_15 : Cond.fieldLink RX2 15 (TX2 1).1 (TX2 1).2.1 (TX2 1).2.2.1 ∈ lw_tb := tb_at 364 rfl rfl
theorem fl_RX2_15 : fw_fl RX2 15 2 1 := ⟨RX2, TX2, 6, rfl, in_X2, by decide, wf_RX2_15⟩
set_option maxRecDepth 20000 in
theorem wf_RX2_40 : Cond.fieldLink RX2 40 (TX10 5).1 (TX10 5).2.1 (TX10 5).2.2.1 ∈ lw_tb := tb_at 340 rfl rfl
theorem fl_RX2_40 : fw_fl RX2 40 8 5 := ⟨RX10, TX10, 6, rfl, in_X10, by decide, wf_RX2_40⟩
set_option maxRecDepth 20000 in
theorem wf_RX2_18 : Cond.fieldLink RX2 18 (TX2 2).1 (TX2 2).2.1 (TX2 2).2.2.1 ∈ lw_tb := tb_at 367 rfl rfl
theorem fl_RX2_18 : fw_fl RX2 18 2 2 := ⟨RX2, TX2, 6, rfl, in_X2, by decide, wf_RX2_18⟩
set_option maxRecDepth 20000 in
theorem wf_RX2_21 : Cond.fieldLink RX2 21 (TX2 3).1 (TX2 3).2.1 (TX2 3).2.2.1 ∈ lw_tb := tb_at 370 rfl rfl
theorem fl_RX2_21 : fw_fl RX2 21 2 3 := ⟨RX2, TX2, 6, rfl, in_X2, by decide, wf_RX2_21⟩
set_option maxRecDepth 20000 in
theorem wf_RX2_41 : Cond.fieldLink RX2 41 (TX10 2).1 (TX10 2).2.1 (TX10 2).2.2.1 ∈ lw_tb := tb_at 332 rfl rfl
theorem fl_RX2_41 : fw_fl RX2 41 8 2 := ⟨RX10, TX10, 6, rfl, in_X10, by decide, wf_RX2_41⟩
set_option maxRecDepth 20000 in
theorem wf_RX2_24 : Cond.fieldLink RX2 24 (TX2 4).1 (TX2 4).2.1 (TX2 4).2.2.1 ∈ lw_tb := tb_at 374 rfl rfl
theorem fl_RX2_24 : fw_fl RX2 24 2 4 := ⟨RX2, TX2, 6, rfl, in_X2, by decide, wf_RX2_24⟩
set_option maxRecDepth 20000 in
theorem wf_RX10_120 : Cond.fieldLink RX10 120 (TX3 9).1 (TX3 9).2.1 (TX3 9).2.2.1 ∈ lw_tb := tb_at 154 rfl rfl
theorem fl_RX10_120 : fw_fl RX10 120 3 9 := ⟨RX3, TX3, 20, rfl, in_X3, by decide, wf_RX10_120⟩
set_option maxRecDepth 20000 in
theorem wf_RX10_123 : Cond.fieldLink RX10 123 (TX3 11).1 (TX3 11).2.1 (TX3 11).2.2.1 ∈ lw_tb := tb_at 163 rfl rfl
theorem fl_RX10_123 : fw_fl RX10 123 3 11 := ⟨RX3, TX3, 20, rfl, in_X3, by decide, wf_RX10_123⟩
set_option maxRecDepth 20000 in
theorem wf_RX10_126 : Cond.fieldLink RX10 126 (TX3 12).1 (TX3 12).2.1 (TX3 12).2.2.1 ∈ lw_tb := tb_at 167 rfl rfl
theorem fl_RX10_126 : fw_fl RX10 126 3 12 := ⟨RX3, TX3, 20, rfl, in_X3, by decide, wf_RX10_126⟩
set_option maxRecDepth 20000 in
theorem wf_RX10_133 : Cond.fieldLink RX10 133 (TX3 10).1 (TX3 10).2.1 (TX3 10).2.2.1 ∈ lw_tb := tb_at 159 rfl rfl
theorem fl_RX10_133 : fw_fl RX10 133 3 10 := ⟨RX3, TX3, 20, rfl, in_X3, by decide, wf_RX10_133⟩
set_option maxRecDepth 20000 in
theorem wf_RX10_136 : Cond.fieldLink RX10 136 (TX3 13).1 (TX3 13).2.1 (TX3 13).2.2.1 ∈ lw_tb := tb_at 171 rfl rfl
theorem fl_RX10_136 : fw_fl RX10 136 3 13 := ⟨RX3, TX3, 20, rfl, in_X3, by decide, wf_RX10_136⟩
set_option maxRecDepth 20000 in
theorem ws_X11_shadeOf : Cond.static yX11_shadeOf ∈ lw_tb := tb_at 784 rfl rfl
set_option maxRecDepth 20000 in
theorem wc_X11_shadeOf : Cond.code yX11_shadeOf cX11_shadeOf 2 (some .int) ∈ lw_tb := tb_at 785 rfl rfl
set_option maxRecDepth 20000 in
theorem ln_RX10_139 : fw_ln RX10 139 yX11_shadeOf "DyerBells" cX11_shadeOf 2 (some .int) 2 := ⟨tbl_at 783 rfl, ws_X11_shadeOf, wn_RX11, wc_X11_shadeOf, by decide +kernel, by decide +kernel, by decide +kernel⟩
set_option maxRecDepth 20000 in
theorem wl_RX10_129 : Cond.methodLink RX10 129 yX10_suffers ∈ lw_tb := tb_at 779 rfl rfl
set_option maxRecDepth 20000 in
theorem wi_X10_suffers : Cond.instanceMethod yX10_suffers ∈ lw_tb := tb_at 781 rfl rfl
theorem wx_X10_suffers : Cond.selects yX10_suffers.cls yX10_suffers yX10_suffers ∈ lw_tb := tb_sel 17 (by decide +kernel) rfl
set_option maxRecDepth 20000 in
theorem wc_X10_suffers : Cond.code yX10_suffers cX10_suffers 6 (some .boolean) ∈ lw_tb := tb_at 782 rfl rfl
theorem lv_RX10_129 : fw_lv RX10 129 yX10_suffers cX10_suffers 6 (some .boolean) 2 := fw_lv_mk wl_RX10_129 wi_X10_suffers wx_X10_suffers wn_RX10 wc_X10_suffers ⟨by decide +kernel, by decide +kernel, by decide +kernel⟩
set_option maxRecDepth 20000 in
theorem wl_RX2_42 : Cond.methodLink RX2 42 yX10_harmedBehind ∈ lw_tb := tb_at 775 rfl rfl
set_option maxRecDepth 20000 in
theorem wi_X10_harmedBehind : Cond.instanceMethod yX10_harmedBehind ∈ lw_tb := tb_at 776 rfl rfl
set_option maxRecDepth 20000 in
theorem wx_X10_harmedBehind : Cond.selects yX10_harmedBehind.cls yX10_harmedBehind yX10_harmedBehind ∈ lw_tb := tb_at 777 rfl rfl
set_option maxRecDepth 20000 in
theorem wc_X10_harmedBehind : Cond.code yX10_harmedBehind cX10_harmedBehind 6 (some .int) ∈ lw_tb := tb_at 778 rfl rfl
theorem lv_RX2_42 : fw_lv RX2 42 yX10_harmedBehind cX10_harmedBehind 6 (some .int) 2 := fw_lv_mk wl_RX2_42 wi_X10_harmedBehind wx_X10_harmedBehind wn_RX10 wc_X10_harmedBehind ⟨by decide +kernel, by decide +kernel, by decide +kernel⟩
set_option maxRecDepth 20000 in
theorem wf_RX2_27 : Cond.fieldLink RX2 27 (TX2 5).1 (TX2 5).2.1 (TX2 5).2.2.1 ∈ lw_tb := tb_at 375 rfl rfl
theorem fl_RX2_27 : fw_fl RX2 27 2 5 := ⟨RX2, TX2, 6, rfl, in_X2, by decide, wf_RX2_27⟩
set_option maxRecDepth 20000 in
theorem wk_RJ6_265 : Cond.constant RJ6 265 (Int32.ofInt 1431655765) ∈ lw_tb := tb_at 789 rfl rfl
set_option maxRecDepth 20000 in
theorem wk_RJ6_266 : Cond.constant RJ6 266 (Int32.ofInt 858993459) ∈ lw_tb := tb_at 790 rfl rfl
set_option maxRecDepth 20000 in
theorem wk_RJ6_267 : Cond.constant RJ6 267 (Int32.ofInt 252645135) ∈ lw_tb := tb_at 791 rfl rfl
set_option maxRecDepth 20000 in
theorem wn_RJ6 : Cond.initialized RJ6 ∈ lw_tb := tb_at 19 rfl rfl
set_option maxRecDepth 20000 in
theorem ws_J6_bitCount_0f7a4 : Cond.static yJ6_bitCount_0f7a4 ∈ lw_tb := tb_at 787 rfl rfl
set_option maxRecDepth 20000 in
theorem wc_J6_bitCount_0f7a4 : Cond.code yJ6_bitCount_0f7a4 cJ6_bitCount_0f7a4 1 (some .int) ∈ lw_tb := tb_at 788 rfl rfl
set_option maxRecDepth 20000 in
theorem wl_RX2_46 : Cond.methodLink RX2 46 yJ6_bitCount_0f7a4 ∈ lw_tb := tb_at 786 rfl rfl
theorem ls_RX2_46 : fw_ls RX2 46 yJ6_bitCount_0f7a4 cJ6_bitCount_0f7a4 1 (some .int) 1 := fw_ls_mk wl_RX2_46 ws_J6_bitCount_0f7a4 wn_RJ6 wc_J6_bitCount_0f7a4 ⟨by decide +kernel, by decide +kernel, by decide +kernel⟩
set_option maxRecDepth 20000 in
theorem wl_RX11_364 : Cond.methodLink RX11 364 yX2_keep ∈ lw_tb := tb_at 770 rfl rfl
set_option maxRecDepth 20000 in
theorem wi_X2_keep : Cond.instanceMethod yX2_keep ∈ lw_tb := tb_at 771 rfl rfl
set_option maxRecDepth 20000 in
theorem wx_X2_keep : Cond.selects yX2_keep.cls yX2_keep yX2_keep ∈ lw_tb := tb_at 772 rfl rfl
set_option maxRecDepth 20000 in
theorem wn_RX2 : Cond.initialized RX2 ∈ lw_tb := tb_at 10 rfl rfl
set_option maxRecDepth 20000 in
theorem wc_X2_keep : Cond.code yX2_keep cX2_keep 4 none ∈ lw_tb := tb_at 773 rfl rfl
theorem lv_RX11_364 : fw_lv RX11 364 yX2_keep cX2_keep 4 none 3 := fw_lv_mk wl_RX11_364 wi_X2_keep wx_X2_keep wn_RX2 wc_X2_keep ⟨by decide +kernel, by decide +kernel, by decide +kernel⟩
set_option maxRecDepth 20000 in
theorem wl_RX11_193 : Cond.methodLink RX11 193 yX11_past ∈ lw_tb := tb_at 710 rfl rfl
set_option maxRecDepth 20000 in
theorem wi_X11_past : Cond.instanceMethod yX11_past ∈ lw_tb := tb_at 712 rfl rfl
theorem wx_X11_past : Cond.selects yX11_past.cls yX11_past yX11_past ∈ lw_tb := tb_sel 12 (by decide +kernel) rfl
set_option maxRecDepth 20000 in
theorem wc_X11_past : Cond.code yX11_past cX11_past 2 (some (.object "DyerBells$Past")) ∈ lw_tb := tb_at 713 rfl rfl
theorem lv_RX11_193 : fw_lv RX11 193 yX11_past cX11_past 2 (some (.object "DyerBells$Past")) 0 := fw_lv_mk wl_RX11_193 wi_X11_past wx_X11_past wn_RX11 wc_X11_past ⟨by decide +kernel, by decide +kernel, by decide +kernel⟩
set_option maxRecDepth 20000 in
theorem wf_RX11_196 : Cond.fieldLink RX11 196 (TX2 0).1 (TX2 0).2.1 (TX2 0).2.2.1 ∈ lw_tb := tb_at 362 rfl rfl
theorem fl_RX11_196 : fw_fl RX11 196 2 0 := ⟨RX2, TX2, 6, rfl, in_X2, by decide, wf_RX11_196⟩
set_option maxRecDepth 20000 in
theorem wf_RX11_199 : Cond.fieldLink RX11 199 (TX2 1).1 (TX2 1).2.1 (TX2 1).2.2.1 ∈ lw_tb := tb_at 365 rfl rfl
theorem fl_RX11_199 : fw_fl RX11 199 2 1 := ⟨RX2, TX2, 6, rfl, in_X2, by decide, wf_RX11_199⟩
set_option maxRecDepth 20000 in
theorem wl_RX11_202 : Cond.methodLink RX11 202 yX11_shadeOf ∈ lw_tb := tb_at 792 rfl rfl
theorem ls_RX11_202 : fw_ls RX11 202 yX11_shadeOf cX11_shadeOf 2 (some .int) 2 := fw_ls_mk wl_RX11_202 ws_X11_shadeOf wn_RX11 wc_X11_shadeOf ⟨by decide +kernel, by decide +kernel, by decide +kernel⟩
set_option maxRecDepth 20000 in
theorem wf_RX11_206 : Cond.fieldLink RX11 206 (TX2 2).1 (TX2 2).2.1 (TX2 2).2.2.1 ∈ lw_tb := tb_at 369 rfl rfl
theorem fl_RX11_206 : fw_fl RX11 206 2 2 := ⟨RX2, TX2, 6, rfl, in_X2, by decide, wf_RX11_206⟩
set_option maxRecDepth 20000 in
theorem wf_RX2_65 : Cond.fieldLink RX2 65 (TX3 5).1 (TX3 5).2.1 (TX3 5).2.2.1 ∈ lw_tb := tb_at 137 rfl rfl
theorem fl_RX2_65 : fw_fl RX2 65 3 5 := ⟨RX3, TX3, 20, rfl, in_X3, by decide, wf_RX2_65⟩
set_option maxRecDepth 20000 in
theorem wf_RX2_68 : Cond.fieldLink RX2 68 (TX3 8).1 (TX3 8).2.1 (TX3 8).2.2.1 ∈ lw_tb := tb_at 149 rfl rfl
theorem fl_RX2_68 : fw_fl RX2 68 3 8 := ⟨RX3, TX3, 20, rfl, in_X3, by decide, wf_RX2_68⟩
set_option maxRecDepth 20000 in
theorem wl_RX11_209 : Cond.methodLink RX11 209 yX2_sumPut ∈ lw_tb := tb_at 801 rfl rfl
set_option maxRecDepth 20000 in
theorem wi_X2_sumPut : Cond.instanceMethod yX2_sumPut ∈ lw_tb := tb_at 802 rfl rfl
set_option maxRecDepth 20000 in
theorem wx_X2_sumPut : Cond.selects yX2_sumPut.cls yX2_sumPut yX2_sumPut ∈ lw_tb := tb_at 803 rfl rfl
set_option maxRecDepth 20000 in
theorem wc_X2_sumPut : Cond.code yX2_sumPut cX2_sumPut 6 (some .int) ∈ lw_tb := tb_at 804 rfl rfl
theorem lv_RX11_209 : fw_lv RX11 209 yX2_sumPut cX2_sumPut 6 (some .int) 2 := fw_lv_mk wl_RX11_209 wi_X2_sumPut wx_X2_sumPut wn_RX2 wc_X2_sumPut ⟨by decide +kernel, by decide +kernel, by decide +kernel⟩
set_option maxRecDepth 20000 in
theorem wl_RX11_213 : Cond.methodLink RX11 213 yX2_sumPassed ∈ lw_tb := tb_at 805 rfl rfl
set_option maxRecDepth 20000 in
theorem wi_X2_sumPassed : Cond.instanceMethod yX2_sumPassed ∈ lw_tb := tb_at 806 rfl rfl
set_option maxRecDepth 20000 in
theorem wx_X2_sumPassed : Cond.selects yX2_sumPassed.cls yX2_sumPassed yX2_sumPassed ∈ lw_tb := tb_at 807 rfl rfl
set_option maxRecDepth 20000 in
theorem wc_X2_sumPassed : Cond.code yX2_sumPassed cX2_sumPassed 4 (some .int) ∈ lw_tb := tb_at 808 rfl rfl
theorem lv_RX11_213 : fw_lv RX11 213 yX2_sumPassed cX2_sumPassed 4 (some .int) 1 := fw_lv_mk wl_RX11_213 wi_X2_sumPassed wx_X2_sumPassed wn_RX2 wc_X2_sumPassed ⟨by decide +kernel, by decide +kernel, by decide +kernel⟩
set_option maxRecDepth 20000 in
theorem wl_RX11_216 : Cond.methodLink RX11 216 yX2_sumLast ∈ lw_tb := tb_at 809 rfl rfl
set_option maxRecDepth 20000 in
theorem wi_X2_sumLast : Cond.instanceMethod yX2_sumLast ∈ lw_tb := tb_at 810 rfl rfl
set_option maxRecDepth 20000 in
theorem wx_X2_sumLast : Cond.selects yX2_sumLast.cls yX2_sumLast yX2_sumLast ∈ lw_tb := tb_at 811 rfl rfl
set_option maxRecDepth 20000 in
theorem wc_X2_sumLast : Cond.code yX2_sumLast cX2_sumLast 6 (some .int) ∈ lw_tb := tb_at 812 rfl rfl
theorem lv_RX11_216 : fw_lv RX11 216 yX2_sumLast cX2_sumLast 6 (some .int) 2 := fw_lv_mk wl_RX11_216 wi_X2_sumLast wx_X2_sumLast wn_RX2 wc_X2_sumLast ⟨by decide +kernel, by decide +kernel, by decide +kernel⟩
set_option maxRecDepth 20000 in
theorem wf_RX2_52 : Cond.fieldLink RX2 52 (TX3 2).1 (TX3 2).2.1 (TX3 2).2.2.1 ∈ lw_tb := tb_at 124 rfl rfl
theorem fl_RX2_52 : fw_fl RX2 52 3 2 := ⟨RX3, TX3, 20, rfl, in_X3, by decide, wf_RX2_52⟩
set_option maxRecDepth 20000 in
theorem ln_RX2_57 : fw_ln RX2 57 yX11_shadeOf "DyerBells" cX11_shadeOf 2 (some .int) 2 := ⟨tbl_at 821 rfl, ws_X11_shadeOf, wn_RX11, wc_X11_shadeOf, by decide +kernel, by decide +kernel, by decide +kernel⟩
set_option maxRecDepth 20000 in
theorem wl_RX11_220 : Cond.methodLink RX11 220 yX2_shadeAt ∈ lw_tb := tb_at 817 rfl rfl
set_option maxRecDepth 20000 in
theorem wi_X2_shadeAt : Cond.instanceMethod yX2_shadeAt ∈ lw_tb := tb_at 818 rfl rfl
set_option maxRecDepth 20000 in
theorem wx_X2_shadeAt : Cond.selects yX2_shadeAt.cls yX2_shadeAt yX2_shadeAt ∈ lw_tb := tb_at 819 rfl rfl
set_option maxRecDepth 20000 in
theorem wc_X2_shadeAt : Cond.code yX2_shadeAt cX2_shadeAt 5 (some .int) ∈ lw_tb := tb_at 820 rfl rfl
theorem lv_RX11_220 : fw_lv RX11 220 yX2_shadeAt cX2_shadeAt 5 (some .int) 4 := fw_lv_mk wl_RX11_220 wi_X2_shadeAt wx_X2_shadeAt wn_RX2 wc_X2_shadeAt ⟨by decide +kernel, by decide +kernel, by decide +kernel⟩
set_option maxRecDepth 20000 in
theorem wl_RX11_224 : Cond.methodLink RX11 224 yX3_fineOf ∈ lw_tb := tb_at 822 rfl rfl
set_option maxRecDepth 20000 in
theorem wi_X3_fineOf : Cond.instanceMethod yX3_fineOf ∈ lw_tb := tb_at 823 rfl rfl
set_option maxRecDepth 20000 in
theorem wx_X3_fineOf : Cond.selects yX3_fineOf.cls yX3_fineOf yX3_fineOf ∈ lw_tb := tb_at 824 rfl rfl
set_option maxRecDepth 20000 in
theorem wc_X3_fineOf : Cond.code yX3_fineOf cX3_fineOf 6 (some .int) ∈ lw_tb := tb_at 825 rfl rfl
theorem lv_RX11_224 : fw_lv RX11 224 yX3_fineOf cX3_fineOf 6 (some .int) 2 := fw_lv_mk wl_RX11_224 wi_X3_fineOf wx_X3_fineOf wn_RX3 wc_X3_fineOf ⟨by decide +kernel, by decide +kernel, by decide +kernel⟩
set_option maxRecDepth 20000 in
theorem wl_RX11_227 : Cond.methodLink RX11 227 yX2_isHarmed ∈ lw_tb := tb_at 834 rfl rfl
set_option maxRecDepth 20000 in
theorem wi_X2_isHarmed : Cond.instanceMethod yX2_isHarmed ∈ lw_tb := tb_at 835 rfl rfl
set_option maxRecDepth 20000 in
theorem wx_X2_isHarmed : Cond.selects yX2_isHarmed.cls yX2_isHarmed yX2_isHarmed ∈ lw_tb := tb_at 836 rfl rfl
set_option maxRecDepth 20000 in
theorem wc_X2_isHarmed : Cond.code yX2_isHarmed cX2_isHarmed 3 (some .boolean) ∈ lw_tb := tb_at 837 rfl rfl
theorem lv_RX11_227 : fw_lv RX11 227 yX2_isHarmed cX2_isHarmed 3 (some .boolean) 2 := fw_lv_mk wl_RX11_227 wi_X2_isHarmed wx_X2_isHarmed wn_RX2 wc_X2_isHarmed ⟨by decide +kernel, by decide +kernel, by decide +kernel⟩
set_option maxRecDepth 20000 in
theorem wf_RX11_231 : Cond.fieldLink RX11 231 (TX2 5).1 (TX2 5).2.1 (TX2 5).2.2.1 ∈ lw_tb := tb_at 377 rfl rfl
theorem fl_RX11_231 : fw_fl RX11 231 2 5 := ⟨RX2, TX2, 6, rfl, in_X2, by decide, wf_RX11_231⟩
set_option maxRecDepth 20000 in
theorem wf_RX11_238 : Cond.fieldLink RX11 238 (TX10 2).1 (TX10 2).2.1 (TX10 2).2.2.1 ∈ lw_tb := tb_at 333 rfl rfl
theorem fl_RX11_238 : fw_fl RX11 238 8 2 := ⟨RX10, TX10, 6, rfl, in_X10, by decide, wf_RX11_238⟩
set_option maxRecDepth 20000 in
theorem wl_RX11_248 : Cond.methodLink RX11 248 yX10_harmedBehind ∈ lw_tb := tb_at 846 rfl rfl
theorem lv_RX11_248 : fw_lv RX11 248 yX10_harmedBehind cX10_harmedBehind 6 (some .int) 2 := fw_lv_mk wl_RX11_248 wi_X10_harmedBehind wx_X10_harmedBehind wn_RX10 wc_X10_harmedBehind ⟨by decide +kernel, by decide +kernel, by decide +kernel⟩
set_option maxRecDepth 20000 in
theorem wf_RX11_251 : Cond.fieldLink RX11 251 (TX2 3).1 (TX2 3).2.1 (TX2 3).2.2.1 ∈ lw_tb := tb_at 373 rfl rfl
theorem fl_RX11_251 : fw_fl RX11 251 2 3 := ⟨RX2, TX2, 6, rfl, in_X2, by decide, wf_RX11_251⟩
set_option maxRecDepth 20000 in
theorem wl_RX11_252 : Cond.methodLink RX11 252 Lib.Math.max.name ∈ lw_tb := tb_at 851 rfl rfl
theorem mm_RX11_252 : fw_mx RX11 252 := ⟨wl_RX11_252, ws_math_max, wn_math, wc_math_max⟩
set_option maxRecDepth 20000 in
theorem wl_RX11_257 : Cond.methodLink RX11 257 yX10_takeFrom ∈ lw_tb := tb_at 856 rfl rfl
theorem lv_RX11_257 : fw_lv RX11 257 yX10_takeFrom cX10_takeFrom 3 none 1 := fw_lv_mk wl_RX11_257 wi_X10_takeFrom wx_X10_takeFrom wn_RX10 wc_X10_takeFrom ⟨by decide +kernel, by decide +kernel, by decide +kernel⟩
set_option maxRecDepth 20000 in
theorem wl_RX11_261 : Cond.methodLink RX11 261 yX10_rest ∈ lw_tb := tb_at 857 rfl rfl
theorem lv_RX11_261 : fw_lv RX11 261 yX10_rest cX10_rest 2 none 0 := fw_lv_mk wl_RX11_261 wi_X10_rest wx_X10_rest wn_RX10 wc_X10_rest ⟨by decide +kernel, by decide +kernel, by decide +kernel⟩
set_option maxRecDepth 20000 in
theorem wf_RX11_264 : Cond.fieldLink RX11 264 (TX10 3).1 (TX10 3).2.1 (TX10 3).2.2.1 ∈ lw_tb := tb_at 336 rfl rfl
theorem fl_RX11_264 : fw_fl RX11 264 8 3 := ⟨RX10, TX10, 6, rfl, in_X10, by decide, wf_RX11_264⟩
set_option maxRecDepth 20000 in
theorem wf_RX11_265 : Cond.fieldLink RX11 265 (TX10 5).1 (TX10 5).2.1 (TX10 5).2.2.1 ∈ lw_tb := tb_at 341 rfl rfl
theorem fl_RX11_265 : fw_fl RX11 265 8 5 := ⟨RX10, TX10, 6, rfl, in_X10, by decide, wf_RX11_265⟩
set_option maxRecDepth 20000 in
theorem wl_RX11_368 : Cond.methodLink RX11 368 yX9_byteAt ∈ lw_tb := tb_at 866 rfl rfl
set_option maxRecDepth 20000 in
theorem wi_X9_byteAt : Cond.instanceMethod yX9_byteAt ∈ lw_tb := tb_at 867 rfl rfl
set_option maxRecDepth 20000 in
theorem wx_X9_byteAt : Cond.selects yX9_byteAt.cls yX9_byteAt yX9_byteAt ∈ lw_tb := tb_at 868 rfl rfl
set_option maxRecDepth 20000 in
theorem wc_X9_byteAt : Cond.code yX9_byteAt cX9_byteAt 2 (some .int) ∈ lw_tb := tb_at 869 rfl rfl
theorem lv_RX11_368 : fw_lv RX11 368 yX9_byteAt cX9_byteAt 2 (some .int) 1 := fw_lv_mk wl_RX11_368 wi_X9_byteAt wx_X9_byteAt wn_RX9 wc_X9_byteAt ⟨by decide +kernel, by decide +kernel, by decide +kernel⟩
set_option maxRecDepth 20000 in
theorem wf_RX11_50 : Cond.fieldLink RX11 50 (TX11 11).1 (TX11 11).2.1 (TX11 11).2.2.1 ∈ lw_tb := tb_at 402 rfl rfl
theorem fl_RX11_50 : fw_fl RX11 50 9 11 := ⟨RX11, TX11, 17, rfl, in_X11, by decide, wf_RX11_50⟩
set_option maxRecDepth 20000 in
theorem wl_RX11_266 : Cond.methodLink RX11 266 yX11_chooseGuilds ∈ lw_tb := tb_at 862 rfl rfl
set_option maxRecDepth 20000 in
theorem wi_X11_chooseGuilds : Cond.instanceMethod yX11_chooseGuilds ∈ lw_tb := tb_at 864 rfl rfl
theorem wx_X11_chooseGuilds : Cond.selects yX11_chooseGuilds.cls yX11_chooseGuilds yX11_chooseGuilds ∈ lw_tb := tb_sel 19 (by decide +kernel) rfl
set_option maxRecDepth 20000 in
theorem wc_X11_chooseGuilds : Cond.code yX11_chooseGuilds cX11_chooseGuilds 5 (some .boolean) ∈ lw_tb := tb_at 865 rfl rfl
theorem lv_RX11_266 : fw_lv RX11 266 yX11_chooseGuilds cX11_chooseGuilds 5 (some .boolean) 1 := fw_lv_mk wl_RX11_266 wi_X11_chooseGuilds wx_X11_chooseGuilds wn_RX11 wc_X11_chooseGuilds ⟨by decide +kernel, by decide +kernel, by decide +kernel⟩
set_option maxRecDepth 20000 in
theorem wf_RX11_54 : Cond.fieldLink RX11 54 (TX11 12).1 (TX11 12).2.1 (TX11 12).2.2.1 ∈ lw_tb := tb_at 403 rfl rfl
theorem fl_RX11_54 : fw_fl RX11 54 9 12 := ⟨RX11, TX11, 17, rfl, in_X11, by decide, wf_RX11_54⟩
set_option maxRecDepth 20000 in
theorem wl_RX11_371 : Cond.methodLink RX11 371 yX10_setWork ∈ lw_tb := tb_at 874 rfl rfl
theorem lv_RX11_371 : fw_lv RX11 371 yX10_setWork cX10_setWork 5 none 3 := fw_lv_mk wl_RX11_371 wi_X10_setWork wx_X10_setWork wn_RX10 wc_X10_setWork ⟨by decide +kernel, by decide +kernel, by decide +kernel⟩
set_option maxRecDepth 20000 in
theorem wl_RX11_282 : Cond.methodLink RX11 282 Lib.Math.min.name ∈ lw_tb := tb_at 879 rfl rfl
theorem mm_RX11_282 : fw_mn RX11 282 := ⟨wl_RX11_282, ws_math_min, wn_math, wc_math_min⟩
set_option maxRecDepth 20000 in
theorem wl_RX11_374 : Cond.methodLink RX11 374 yX11_firstTried ∈ lw_tb := tb_at 875 rfl rfl
set_option maxRecDepth 20000 in
theorem wi_X11_firstTried : Cond.instanceMethod yX11_firstTried ∈ lw_tb := tb_at 877 rfl rfl
theorem wx_X11_firstTried : Cond.selects yX11_firstTried.cls yX11_firstTried yX11_firstTried ∈ lw_tb := tb_sel 21 (by decide +kernel) rfl
set_option maxRecDepth 20000 in
theorem wc_X11_firstTried : Cond.code yX11_firstTried cX11_firstTried 5 (some .int) ∈ lw_tb := tb_at 878 rfl rfl
theorem lv_RX11_374 : fw_lv RX11 374 yX11_firstTried cX11_firstTried 5 (some .int) 2 := fw_lv_mk wl_RX11_374 wi_X11_firstTried wx_X11_firstTried wn_RX11 wc_X11_firstTried ⟨by decide +kernel, by decide +kernel, by decide +kernel⟩
set_option maxRecDepth 20000 in
theorem wl_RX10_142 : Cond.methodLink RX10 142 yX10_empty ∈ lw_tb := tb_at 888 rfl rfl
theorem lv_RX10_142 : fw_lv RX10 142 yX10_empty cX10_empty 2 none 0 := fw_lv_mk wl_RX10_142 wi_X10_empty wx_X10_empty wn_RX10 wc_X10_empty ⟨by decide +kernel, by decide +kernel, by decide +kernel⟩
set_option maxRecDepth 20000 in
theorem wf_RX10_177 : Cond.fieldLink RX10 177 (TX2 0).1 (TX2 0).2.1 (TX2 0).2.2.1 ∈ lw_tb := tb_at 363 rfl rfl
theorem fl_RX10_177 : fw_fl RX10 177 2 0 := ⟨RX2, TX2, 6, rfl, in_X2, by decide, wf_RX10_177⟩
set_option maxRecDepth 20000 in
theorem wf_RX10_178 : Cond.fieldLink RX10 178 (TX2 1).1 (TX2 1).2.1 (TX2 1).2.2.1 ∈ lw_tb := tb_at 366 rfl rfl
theorem fl_RX10_178 : fw_fl RX10 178 2 1 := ⟨RX2, TX2, 6, rfl, in_X2, by decide, wf_RX10_178⟩
set_option maxRecDepth 20000 in
theorem wl_RX10_149 : Cond.methodLink RX10 149 yX10_beginBehind ∈ lw_tb := tb_at 884 rfl rfl
set_option maxRecDepth 20000 in
theorem wi_X10_beginBehind : Cond.instanceMethod yX10_beginBehind ∈ lw_tb := tb_at 886 rfl rfl
theorem wx_X10_beginBehind : Cond.selects yX10_beginBehind.cls yX10_beginBehind yX10_beginBehind ∈ lw_tb := tb_sel 22 (by decide +kernel) rfl
set_option maxRecDepth 20000 in
theorem wc_X10_beginBehind : Cond.code yX10_beginBehind cX10_beginBehind 3 none ∈ lw_tb := tb_at 887 rfl rfl
theorem lv_RX10_149 : fw_lv RX10 149 yX10_beginBehind cX10_beginBehind 3 none 2 := fw_lv_mk wl_RX10_149 wi_X10_beginBehind wx_X10_beginBehind wn_RX10 wc_X10_beginBehind ⟨by decide +kernel, by decide +kernel, by decide +kernel⟩
set_option maxRecDepth 20000 in
theorem wf_RX10_153 : Cond.fieldLink RX10 153 (TX2 5).1 (TX2 5).2.1 (TX2 5).2.2.1 ∈ lw_tb := tb_at 376 rfl rfl
theorem fl_RX10_153 : fw_fl RX10 153 2 5 := ⟨RX2, TX2, 6, rfl, in_X2, by decide, wf_RX10_153⟩
set_option maxRecDepth 20000 in
theorem wl_RX10_156 : Cond.methodLink RX10 156 yX10_pass ∈ lw_tb := tb_at 893 rfl rfl
theorem lv_RX10_156 : fw_lv RX10 156 yX10_pass cX10_pass 4 none 2 := fw_lv_mk wl_RX10_156 wi_X10_pass wx_X10_pass wn_RX10 wc_X10_pass ⟨by decide +kernel, by decide +kernel, by decide +kernel⟩
set_option maxRecDepth 20000 in
theorem wl_RX10_159 : Cond.methodLink RX10 159 yX10_harmedBehind ∈ lw_tb := tb_at 894 rfl rfl
theorem lv_RX10_159 : fw_lv RX10 159 yX10_harmedBehind cX10_harmedBehind 6 (some .int) 2 := fw_lv_mk wl_RX10_159 wi_X10_harmedBehind wx_X10_harmedBehind wn_RX10 wc_X10_harmedBehind ⟨by decide +kernel, by decide +kernel, by decide +kernel⟩
set_option maxRecDepth 20000 in
theorem wl_RX10_163 : Cond.methodLink RX10 163 yJ6_bitCount_0f7a4 ∈ lw_tb := tb_at 895 rfl rfl
theorem ls_RX10_163 : fw_ls RX10 163 yJ6_bitCount_0f7a4 cJ6_bitCount_0f7a4 1 (some .int) 1 := fw_ls_mk wl_RX10_163 ws_J6_bitCount_0f7a4 wn_RJ6 wc_J6_bitCount_0f7a4 ⟨by decide +kernel, by decide +kernel, by decide +kernel⟩
set_option maxRecDepth 20000 in
theorem wl_RX10_145 : Cond.methodLink RX10 145 yX10_addHarm ∈ lw_tb := tb_at 889 rfl rfl
set_option maxRecDepth 20000 in
theorem wi_X10_addHarm : Cond.instanceMethod yX10_addHarm ∈ lw_tb := tb_at 891 rfl rfl
theorem wx_X10_addHarm : Cond.selects yX10_addHarm.cls yX10_addHarm yX10_addHarm ∈ lw_tb := tb_sel 23 (by decide +kernel) rfl
set_option maxRecDepth 20000 in
theorem wc_X10_addHarm : Cond.code yX10_addHarm cX10_addHarm 7 (some .int) ∈ lw_tb := tb_at 892 rfl rfl
theorem lv_RX10_145 : fw_lv RX10 145 yX10_addHarm cX10_addHarm 7 (some .int) 4 := fw_lv_mk wl_RX10_145 wi_X10_addHarm wx_X10_addHarm wn_RX10 wc_X10_addHarm ⟨by decide +kernel, by decide +kernel, by decide +kernel⟩
set_option maxRecDepth 20000 in
theorem wl_RX11_285 : Cond.methodLink RX11 285 yX10_harmFrom ∈ lw_tb := tb_at 880 rfl rfl
set_option maxRecDepth 20000 in
theorem wi_X10_harmFrom : Cond.instanceMethod yX10_harmFrom ∈ lw_tb := tb_at 881 rfl rfl
set_option maxRecDepth 20000 in
theorem wx_X10_harmFrom : Cond.selects yX10_harmFrom.cls yX10_harmFrom yX10_harmFrom ∈ lw_tb := tb_at 882 rfl rfl
set_option maxRecDepth 20000 in
theorem wc_X10_harmFrom : Cond.code yX10_harmFrom cX10_harmFrom 5 (some .int) ∈ lw_tb := tb_at 883 rfl rfl
theorem lv_RX11_285 : fw_lv RX11 285 yX10_harmFrom cX10_harmFrom 5 (some .int) 4 := fw_lv_mk wl_RX11_285 wi_X10_harmFrom wx_X10_harmFrom wn_RX10 wc_X10_harmFrom ⟨by decide +kernel, by decide +kernel, by decide +kernel⟩
set_option maxRecDepth 20000 in
theorem wl_RX11_269 : Cond.methodLink RX11 269 yX11_tryDays ∈ lw_tb := tb_at 870 rfl rfl
set_option maxRecDepth 20000 in
theorem wi_X11_tryDays : Cond.instanceMethod yX11_tryDays ∈ lw_tb := tb_at 872 rfl rfl
theorem wx_X11_tryDays : Cond.selects yX11_tryDays.cls yX11_tryDays yX11_tryDays ∈ lw_tb := tb_sel 20 (by decide +kernel) rfl
set_option maxRecDepth 20000 in
theorem wc_X11_tryDays : Cond.code yX11_tryDays cX11_tryDays 10 (some .int) ∈ lw_tb := tb_at 873 rfl rfl
theorem lv_RX11_269 : fw_lv RX11 269 yX11_tryDays cX11_tryDays 10 (some .int) 4 := fw_lv_mk wl_RX11_269 wi_X11_tryDays wx_X11_tryDays wn_RX11 wc_X11_tryDays ⟨by decide +kernel, by decide +kernel, by decide +kernel⟩
set_option maxRecDepth 20000 in
theorem wf_RX11_57 : Cond.fieldLink RX11 57 (TX11 13).1 (TX11 13).2.1 (TX11 13).2.2.1 ∈ lw_tb := tb_at 404 rfl rfl
theorem fl_RX11_57 : fw_fl RX11 57 9 13 := ⟨RX11, TX11, 17, rfl, in_X11, by decide, wf_RX11_57⟩
set_option maxRecDepth 20000 in
theorem wl_RX11_377 : Cond.methodLink RX11 377 arraycopyName ∈ lw_tb := tb_at 896 rfl rfl
theorem ac_RX11_377 : fw_ac RX11 377 := ⟨wl_RX11_377, wa_nat, wa_st, wn_sys⟩
set_option maxRecDepth 20000 in
theorem wf_RX10_75 : Cond.fieldLink RX10 75 (TX2 3).1 (TX2 3).2.1 (TX2 3).2.2.1 ∈ lw_tb := tb_at 372 rfl rfl
theorem fl_RX10_75 : fw_fl RX10 75 2 3 := ⟨RX2, TX2, 6, rfl, in_X2, by decide, wf_RX10_75⟩
set_option maxRecDepth 20000 in
theorem wl_RX11_383 : Cond.methodLink RX11 383 yX10_resetWork ∈ lw_tb := tb_at 897 rfl rfl
set_option maxRecDepth 20000 in
theorem wi_X10_resetWork : Cond.instanceMethod yX10_resetWork ∈ lw_tb := tb_at 898 rfl rfl
set_option maxRecDepth 20000 in
theorem wx_X10_resetWork : Cond.selects yX10_resetWork.cls yX10_resetWork yX10_resetWork ∈ lw_tb := tb_at 899 rfl rfl
set_option maxRecDepth 20000 in
theorem wc_X10_resetWork : Cond.code yX10_resetWork cX10_resetWork 6 none ∈ lw_tb := tb_at 900 rfl rfl
theorem lv_RX11_383 : fw_lv RX11 383 yX10_resetWork cX10_resetWork 6 none 4 := fw_lv_mk wl_RX11_383 wi_X10_resetWork wx_X10_resetWork wn_RX10 wc_X10_resetWork ⟨by decide +kernel, by decide +kernel, by decide +kernel⟩
set_option maxRecDepth 20000 in
theorem wf_RX11_273 : Cond.fieldLink RX11 273 (TX11 14).1 (TX11 14).2.1 (TX11 14).2.2.1 ∈ lw_tb := tb_at 405 rfl rfl
theorem fl_RX11_273 : fw_fl RX11 273 9 14 := ⟨RX11, TX11, 17, rfl, in_X11, by decide, wf_RX11_273⟩
theorem fp_RX11_273 : fw_fp RX11 273 9 14 .int := ⟨RX11, TX11, 17, tyX11, rfl, in_X11, by decide, wf_RX11_273, tyX11_ok, nmX11, rfl, rfl⟩
set_option maxRecDepth 20000 in
theorem wf_RX11_276 : Cond.fieldLink RX11 276 (TX11 15).1 (TX11 15).2.1 (TX11 15).2.2.1 ∈ lw_tb := tb_at 406 rfl rfl
theorem fl_RX11_276 : fw_fl RX11 276 9 15 := ⟨RX11, TX11, 17, rfl, in_X11, by decide, wf_RX11_276⟩
theorem fp_RX11_276 : fw_fp RX11 276 9 15 .int := ⟨RX11, TX11, 17, tyX11, rfl, in_X11, by decide, wf_RX11_276, tyX11_ok, nmX11, rfl, rfl⟩
set_option maxRecDepth 20000 in
theorem wl_RX11_387 : Cond.methodLink RX11 387 yX1_swapGuilds ∈ lw_tb := tb_at 913 rfl rfl
set_option maxRecDepth 20000 in
theorem wi_X1_swapGuilds : Cond.instanceMethod yX1_swapGuilds ∈ lw_tb := tb_at 914 rfl rfl
set_option maxRecDepth 20000 in
theorem wx_X1_swapGuilds : Cond.selects yX1_swapGuilds.cls yX1_swapGuilds yX1_swapGuilds ∈ lw_tb := tb_at 915 rfl rfl
set_option maxRecDepth 20000 in
theorem wc_X1_swapGuilds : Cond.code yX1_swapGuilds cX1_swapGuilds 4 none ∈ lw_tb := tb_at 916 rfl rfl
theorem lv_RX11_387 : fw_lv RX11 387 yX1_swapGuilds cX1_swapGuilds 4 none 2 := fw_lv_mk wl_RX11_387 wi_X1_swapGuilds wx_X1_swapGuilds wn_RX1 wc_X1_swapGuilds ⟨by decide +kernel, by decide +kernel, by decide +kernel⟩
set_option maxRecDepth 20000 in
theorem wl_RX11_279 : Cond.methodLink RX11 279 yX11_exchangeFirst ∈ lw_tb := tb_at 909 rfl rfl
set_option maxRecDepth 20000 in
theorem wi_X11_exchangeFirst : Cond.instanceMethod yX11_exchangeFirst ∈ lw_tb := tb_at 911 rfl rfl
theorem wx_X11_exchangeFirst : Cond.selects yX11_exchangeFirst.cls yX11_exchangeFirst yX11_exchangeFirst ∈ lw_tb := tb_sel 24 (by decide +kernel) rfl
set_option maxRecDepth 20000 in
theorem wc_X11_exchangeFirst : Cond.code yX11_exchangeFirst cX11_exchangeFirst 7 (some .int) ∈ lw_tb := tb_at 912 rfl rfl
theorem lv_RX11_279 : fw_lv RX11 279 yX11_exchangeFirst cX11_exchangeFirst 7 (some .int) 1 := fw_lv_mk wl_RX11_279 wi_X11_exchangeFirst wx_X11_exchangeFirst wn_RX11 wc_X11_exchangeFirst ⟨by decide +kernel, by decide +kernel, by decide +kernel⟩
set_option maxRecDepth 20000 in
theorem wf_RX11_289 : Cond.fieldLink RX11 289 (TX5 2).1 (TX5 2).2.1 (TX5 2).2.2.1 ∈ lw_tb := tb_at 309 rfl rfl
theorem fl_RX11_289 : fw_fl RX11 289 4 2 := ⟨RX5, TX5, 4, rfl, in_X5, by decide, wf_RX11_289⟩
set_option maxRecDepth 20000 in
theorem wf_RX11_293 : Cond.fieldLink RX11 293 (TX8 0).1 (TX8 0).2.1 (TX8 0).2.2.1 ∈ lw_tb := tb_at 261 rfl rfl
theorem fl_RX11_293 : fw_fl RX11 293 6 0 := ⟨RX8, TX8, 4, rfl, in_X8, by decide, wf_RX11_293⟩
set_option maxRecDepth 20000 in
theorem wl_RX11_297 : Cond.methodLink RX11 297 yX8_add ∈ lw_tb := tb_at 933 rfl rfl
set_option maxRecDepth 20000 in
theorem wi_X8_add : Cond.instanceMethod yX8_add ∈ lw_tb := tb_at 934 rfl rfl
set_option maxRecDepth 20000 in
theorem wx_X8_add : Cond.selects yX8_add.cls yX8_add yX8_add ∈ lw_tb := tb_at 935 rfl rfl
set_option maxRecDepth 20000 in
theorem wc_X8_add : Cond.code yX8_add cX8_add 4 none ∈ lw_tb := tb_at 936 rfl rfl
theorem lv_RX11_297 : fw_lv RX11 297 yX8_add cX8_add 4 none 3 := fw_lv_mk wl_RX11_297 wi_X8_add wx_X8_add wn_RX8 wc_X8_add ⟨by decide +kernel, by decide +kernel, by decide +kernel⟩
set_option maxRecDepth 20000 in
theorem wf_RX8_37 : Cond.fieldLink RX8 37 (TX2 2).1 (TX2 2).2.1 (TX2 2).2.2.1 ∈ lw_tb := tb_at 368 rfl rfl
theorem fl_RX8_37 : fw_fl RX8 37 2 2 := ⟨RX2, TX2, 6, rfl, in_X2, by decide, wf_RX8_37⟩
set_option maxRecDepth 20000 in
theorem wl_RX8_42 : Cond.methodLink RX8 42 Lib.Math.min.name ∈ lw_tb := tb_at 945 rfl rfl
theorem mm_RX8_42 : fw_mn RX8 42 := ⟨wl_RX8_42, ws_math_min, wn_math, wc_math_min⟩
set_option maxRecDepth 20000 in
theorem wl_RX11_298 : Cond.methodLink RX11 298 yX8_firstUnlike ∈ lw_tb := tb_at 941 rfl rfl
set_option maxRecDepth 20000 in
theorem wi_X8_firstUnlike : Cond.instanceMethod yX8_firstUnlike ∈ lw_tb := tb_at 942 rfl rfl
set_option maxRecDepth 20000 in
theorem wx_X8_firstUnlike : Cond.selects yX8_firstUnlike.cls yX8_firstUnlike yX8_firstUnlike ∈ lw_tb := tb_at 943 rfl rfl
set_option maxRecDepth 20000 in
theorem wc_X8_firstUnlike : Cond.code yX8_firstUnlike cX8_firstUnlike 4 (some .int) ∈ lw_tb := tb_at 944 rfl rfl
theorem lv_RX11_298 : fw_lv RX11 298 yX8_firstUnlike cX8_firstUnlike 4 (some .int) 1 := fw_lv_mk wl_RX11_298 wi_X8_firstUnlike wx_X8_firstUnlike wn_RX8 wc_X8_firstUnlike ⟨by decide +kernel, by decide +kernel, by decide +kernel⟩
set_option maxRecDepth 20000 in
theorem wl_RX8_31 : Cond.methodLink RX8 31 Lib.Math.max.name ∈ lw_tb := tb_at 958 rfl rfl
theorem mm_RX8_31 : fw_mx RX8 31 := ⟨wl_RX8_31, ws_math_max, wn_math, wc_math_max⟩
set_option maxRecDepth 20000 in
theorem wl_RX10_168 : Cond.methodLink RX10 168 yX8_lastHour ∈ lw_tb := tb_at 954 rfl rfl
set_option maxRecDepth 20000 in
theorem wi_X8_lastHour : Cond.instanceMethod yX8_lastHour ∈ lw_tb := tb_at 955 rfl rfl
set_option maxRecDepth 20000 in
theorem wx_X8_lastHour : Cond.selects yX8_lastHour.cls yX8_lastHour yX8_lastHour ∈ lw_tb := tb_at 956 rfl rfl
set_option maxRecDepth 20000 in
theorem wc_X8_lastHour : Cond.code yX8_lastHour cX8_lastHour 3 (some .int) ∈ lw_tb := tb_at 957 rfl rfl
theorem lv_RX10_168 : fw_lv RX10 168 yX8_lastHour cX8_lastHour 3 (some .int) 0 := fw_lv_mk wl_RX10_168 wi_X8_lastHour wx_X8_lastHour wn_RX8 wc_X8_lastHour ⟨by decide +kernel, by decide +kernel, by decide +kernel⟩
set_option maxRecDepth 20000 in
theorem wl_RX10_173 : Cond.methodLink RX10 173 yX8_agree ∈ lw_tb := tb_at 959 rfl rfl
set_option maxRecDepth 20000 in
theorem wi_X8_agree : Cond.instanceMethod yX8_agree ∈ lw_tb := tb_at 960 rfl rfl
set_option maxRecDepth 20000 in
theorem wx_X8_agree : Cond.selects yX8_agree.cls yX8_agree yX8_agree ∈ lw_tb := tb_at 961 rfl rfl
set_option maxRecDepth 20000 in
theorem wc_X8_agree : Cond.code yX8_agree cX8_agree 4 (some .boolean) ∈ lw_tb := tb_at 962 rfl rfl
theorem lv_RX10_173 : fw_lv RX10 173 yX8_agree cX8_agree 4 (some .boolean) 2 := fw_lv_mk wl_RX10_173 wi_X8_agree wx_X8_agree wn_RX8 wc_X8_agree ⟨by decide +kernel, by decide +kernel, by decide +kernel⟩
set_option maxRecDepth 20000 in
theorem wl_RX11_391 : Cond.methodLink RX11 391 yX10_agreesFrom ∈ lw_tb := tb_at 950 rfl rfl
set_option maxRecDepth 20000 in
theorem wi_X10_agreesFrom : Cond.instanceMethod yX10_agreesFrom ∈ lw_tb := tb_at 951 rfl rfl
set_option maxRecDepth 20000 in
theorem wx_X10_agreesFrom : Cond.selects yX10_agreesFrom.cls yX10_agreesFrom yX10_agreesFrom ∈ lw_tb := tb_at 952 rfl rfl
set_option maxRecDepth 20000 in
theorem wc_X10_agreesFrom : Cond.code yX10_agreesFrom cX10_agreesFrom 7 (some .boolean) ∈ lw_tb := tb_at 953 rfl rfl
theorem lv_RX11_391 : fw_lv RX11 391 yX10_agreesFrom cX10_agreesFrom 7 (some .boolean) 4 := fw_lv_mk wl_RX11_391 wi_X10_agreesFrom wx_X10_agreesFrom wn_RX10 wc_X10_agreesFrom ⟨by decide +kernel, by decide +kernel, by decide +kernel⟩
set_option maxRecDepth 20000 in
theorem wf_RX11_60 : Cond.fieldLink RX11 60 (TX11 16).1 (TX11 16).2.1 (TX11 16).2.2.1 ∈ lw_tb := tb_at 407 rfl rfl
theorem fl_RX11_60 : fw_fl RX11 60 9 16 := ⟨RX11, TX11, 17, rfl, in_X11, by decide, wf_RX11_60⟩
set_option maxRecDepth 20000 in
theorem wl_RX11_305 : Cond.methodLink RX11 305 yX11_tryNights ∈ lw_tb := tb_at 946 rfl rfl
set_option maxRecDepth 20000 in
theorem wi_X11_tryNights : Cond.instanceMethod yX11_tryNights ∈ lw_tb := tb_at 948 rfl rfl
theorem wx_X11_tryNights : Cond.selects yX11_tryNights.cls yX11_tryNights yX11_tryNights ∈ lw_tb := tb_sel 26 (by decide +kernel) rfl
set_option maxRecDepth 20000 in
theorem wc_X11_tryNights : Cond.code yX11_tryNights cX11_tryNights 7 (some .int) ∈ lw_tb := tb_at 949 rfl rfl
theorem lv_RX11_305 : fw_lv RX11 305 yX11_tryNights cX11_tryNights 7 (some .int) 3 := fw_lv_mk wl_RX11_305 wi_X11_tryNights wx_X11_tryNights wn_RX11 wc_X11_tryNights ⟨by decide +kernel, by decide +kernel, by decide +kernel⟩
set_option maxRecDepth 20000 in
theorem wf_RX11_309 : Cond.fieldLink RX11 309 (TX10 0).1 (TX10 0).2.1 (TX10 0).2.2.1 ∈ lw_tb := tb_at 328 rfl rfl
theorem fl_RX11_309 : fw_fl RX11 309 8 0 := ⟨RX10, TX10, 6, rfl, in_X10, by decide, wf_RX11_309⟩
set_option maxRecDepth 20000 in
theorem wl_RX11_310 : Cond.methodLink RX11 310 yX10_harmOfAll ∈ lw_tb := tb_at 971 rfl rfl
set_option maxRecDepth 20000 in
theorem wi_X10_harmOfAll : Cond.instanceMethod yX10_harmOfAll ∈ lw_tb := tb_at 972 rfl rfl
set_option maxRecDepth 20000 in
theorem wx_X10_harmOfAll : Cond.selects yX10_harmOfAll.cls yX10_harmOfAll yX10_harmOfAll ∈ lw_tb := tb_at 973 rfl rfl
set_option maxRecDepth 20000 in
theorem wc_X10_harmOfAll : Cond.code yX10_harmOfAll cX10_harmOfAll 3 (some .int) ∈ lw_tb := tb_at 974 rfl rfl
theorem lv_RX11_310 : fw_lv RX11 310 yX10_harmOfAll cX10_harmOfAll 3 (some .int) 2 := fw_lv_mk wl_RX11_310 wi_X10_harmOfAll wx_X10_harmOfAll wn_RX10 wc_X10_harmOfAll ⟨by decide +kernel, by decide +kernel, by decide +kernel⟩
set_option maxRecDepth 20000 in
theorem wk_RX11_313 : Cond.constant RX11 313 (Int32.ofInt 1103515245) ∈ lw_tb := tb_at 979 rfl rfl
set_option maxRecDepth 20000 in
theorem wf_RX11_314 : Cond.fieldLink RX11 314 (TX10 1).1 (TX10 1).2.1 (TX10 1).2.2.1 ∈ lw_tb := tb_at 330 rfl rfl
theorem fl_RX11_314 : fw_fl RX11 314 8 1 := ⟨RX10, TX10, 6, rfl, in_X10, by decide, wf_RX11_314⟩
set_option maxRecDepth 20000 in
theorem ws_X11_rainedFlow : Cond.static yX11_rainedFlow ∈ lw_tb := tb_at 982 rfl rfl
set_option maxRecDepth 20000 in
theorem wc_X11_rainedFlow : Cond.code yX11_rainedFlow cX11_rainedFlow 2 (some .int) ∈ lw_tb := tb_at 983 rfl rfl
set_option maxRecDepth 20000 in
theorem wl_RX11_317 : Cond.methodLink RX11 317 yX11_rainedFlow ∈ lw_tb := tb_at 981 rfl rfl
theorem ls_RX11_317 : fw_ls RX11 317 yX11_rainedFlow cX11_rainedFlow 2 (some .int) 2 := fw_ls_mk wl_RX11_317 ws_X11_rainedFlow wn_RX11 wc_X11_rainedFlow ⟨by decide +kernel, by decide +kernel, by decide +kernel⟩
set_option maxRecDepth 20000 in
theorem wf_RX11_320 : Cond.fieldLink RX11 320 (TX5 3).1 (TX5 3).2.1 (TX5 3).2.2.1 ∈ lw_tb := tb_at 311 rfl rfl
theorem fl_RX11_320 : fw_fl RX11 320 4 3 := ⟨RX5, TX5, 4, rfl, in_X5, by decide, wf_RX11_320⟩
set_option maxRecDepth 20000 in
theorem wl_RX11_324 : Cond.methodLink RX11 324 yX6_forget ∈ lw_tb := tb_at 988 rfl rfl
theorem lv_RX11_324 : fw_lv RX11 324 yX6_forget cX6_forget 1 none 0 := fw_lv_mk wl_RX11_324 wi_X6_forget wx_X6_forget wn_RX6 wc_X6_forget ⟨by decide +kernel, by decide +kernel, by decide +kernel⟩
set_option maxRecDepth 20000 in
theorem wn_RX7 : Cond.initialized RX7 ∈ lw_tb := tb_at 20 rfl rfl
set_option maxRecDepth 20000 in
theorem ws_X7_readAll : Cond.static yX7_readAll ∈ lw_tb := tb_at 993 rfl rfl
set_option maxRecDepth 20000 in
theorem wc_X7_readAll : Cond.code yX7_readAll cX7_readAll 5 none ∈ lw_tb := tb_at 994 rfl rfl
set_option maxRecDepth 20000 in
theorem wl_RX7_9 : Cond.methodLink RX7 9 yX7_readAll ∈ lw_tb := tb_at 992 rfl rfl
theorem ls_RX7_9 : fw_ls RX7 9 yX7_readAll cX7_readAll 5 none 4 := fw_ls_mk wl_RX7_9 ws_X7_readAll wn_RX7 wc_X7_readAll ⟨by decide +kernel, by decide +kernel, by decide +kernel⟩
set_option maxRecDepth 20000 in
theorem wk_RX7_19 : Cond.constantLong RX7 19 (Int64.ofInt 28530) ∈ lw_tb := tb_at 1031 rfl rfl
set_option maxRecDepth 20000 in
theorem wl_RX7_21 : Cond.methodLink RX7 21 yX9_isWord ∈ lw_tb := tb_at 999 rfl rfl
theorem lv_RX7_21 : fw_lv RX7 21 yX9_isWord cX9_isWord 3 (some .boolean) 1 := fw_lv_mk wl_RX7_21 wi_X9_isWord wx_X9_isWord wn_RX9 wc_X9_isWord ⟨by decide +kernel, by decide +kernel, by decide +kernel⟩
set_option maxRecDepth 20000 in
theorem wl_RX7_25 : Cond.methodLink RX7 25 yX9_advance ∈ lw_tb := tb_at 1011 rfl rfl
theorem lv_RX7_25 : fw_lv RX7 25 yX9_advance cX9_advance 2 none 0 := fw_lv_mk wl_RX7_25 wi_X9_advance wx_X9_advance wn_RX9 wc_X9_advance ⟨by decide +kernel, by decide +kernel, by decide +kernel⟩
set_option maxRecDepth 20000 in
theorem wl_RX7_28 : Cond.methodLink RX7 28 yX6_addStep ∈ lw_tb := tb_at 1012 rfl rfl
set_option maxRecDepth 20000 in
theorem wi_X6_addStep : Cond.instanceMethod yX6_addStep ∈ lw_tb := tb_at 1013 rfl rfl
set_option maxRecDepth 20000 in
theorem wx_X6_addStep : Cond.selects yX6_addStep.cls yX6_addStep yX6_addStep ∈ lw_tb := tb_at 1014 rfl rfl
set_option maxRecDepth 20000 in
theorem wc_X6_addStep : Cond.code yX6_addStep cX6_addStep 6 none ∈ lw_tb := tb_at 1015 rfl rfl
theorem lv_RX7_28 : fw_lv RX7 28 yX6_addStep cX6_addStep 6 none 5 := fw_lv_mk wl_RX7_28 wi_X6_addStep wx_X6_addStep wn_RX6 wc_X6_addStep ⟨by decide +kernel, by decide +kernel, by decide +kernel⟩
set_option maxRecDepth 20000 in
theorem ws_X7_readOne : Cond.static yX7_readOne ∈ lw_tb := tb_at 996 rfl rfl
set_option maxRecDepth 20000 in
theorem wc_X7_readOne : Cond.code yX7_readOne cX7_readOne 6 none ∈ lw_tb := tb_at 997 rfl rfl
set_option maxRecDepth 20000 in
theorem wl_RX7_32 : Cond.methodLink RX7 32 yX7_readOne ∈ lw_tb := tb_at 995 rfl rfl
theorem ls_RX7_32 : fw_ls RX7 32 yX7_readOne cX7_readOne 6 none 4 := fw_ls_mk wl_RX7_32 ws_X7_readOne wn_RX7 wc_X7_readOne ⟨by decide +kernel, by decide +kernel, by decide +kernel⟩
set_option maxRecDepth 20000 in
theorem wk_RX7_35 : Cond.constantLong RX7 35 (Int64.ofInt 6385252) ∈ lw_tb := tb_at 1030 rfl rfl
set_option maxRecDepth 20000 in
theorem wk_RX7_37 : Cond.constantLong RX7 37 (Int64.ofInt 7237492) ∈ lw_tb := tb_at 998 rfl rfl
set_option maxRecDepth 20000 in
theorem wl_RX7_39 : Cond.methodLink RX7 39 yX9_isAtSign ∈ lw_tb := tb_at 1000 rfl rfl
theorem lv_RX7_39 : fw_lv RX7 39 yX9_isAtSign cX9_isAtSign 2 (some .boolean) 1 := fw_lv_mk wl_RX7_39 wi_X9_isAtSign wx_X9_isAtSign wn_RX9 wc_X9_isAtSign ⟨by decide +kernel, by decide +kernel, by decide +kernel⟩
set_option maxRecDepth 20000 in
theorem wk_RX7_65 : Cond.constantLong RX7 65 (Int64.ofInt 512970877811) ∈ lw_tb := tb_at 1004 rfl rfl
set_option maxRecDepth 20000 in
theorem wk_RX7_67 : Cond.constantLong RX7 67 (Int64.ofInt 114767740888420) ∈ lw_tb := tb_at 1005 rfl rfl
set_option maxRecDepth 20000 in
theorem wk_RX7_69 : Cond.constantLong RX7 69 (Int64.ofInt 495672452197) ∈ lw_tb := tb_at 1006 rfl rfl
set_option maxRecDepth 20000 in
theorem wk_RX7_71 : Cond.constantLong RX7 71 (Int64.ofInt 1752135026) ∈ lw_tb := tb_at 1007 rfl rfl
set_option maxRecDepth 20000 in
theorem wk_RX7_73 : Cond.constantLong RX7 73 (Int64.ofInt 6578553) ∈ lw_tb := tb_at 1008 rfl rfl
set_option maxRecDepth 20000 in
theorem wk_RX7_75 : Cond.constantLong RX7 75 (Int64.ofInt 123563851081060) ∈ lw_tb := tb_at 1009 rfl rfl
set_option maxRecDepth 20000 in
theorem ws_X7_beginsPlain : Cond.static yX7_beginsPlain ∈ lw_tb := tb_at 1002 rfl rfl
set_option maxRecDepth 20000 in
theorem wc_X7_beginsPlain : Cond.code yX7_beginsPlain cX7_beginsPlain 1 (some .boolean) ∈ lw_tb := tb_at 1003 rfl rfl
set_option maxRecDepth 20000 in
theorem wl_RX7_43 : Cond.methodLink RX7 43 yX7_beginsPlain ∈ lw_tb := tb_at 1001 rfl rfl
theorem ls_RX7_43 : fw_ls RX7 43 yX7_beginsPlain cX7_beginsPlain 1 (some .boolean) 1 := fw_ls_mk wl_RX7_43 ws_X7_beginsPlain wn_RX7 wc_X7_beginsPlain ⟨by decide +kernel, by decide +kernel, by decide +kernel⟩
set_option maxRecDepth 20000 in
theorem wl_RX7_47 : Cond.methodLink RX7 47 yX9_refuse ∈ lw_tb := tb_at 1010 rfl rfl
theorem lv_RX7_47 : fw_lv RX7 47 yX9_refuse cX9_refuse 2 none 1 := fw_lv_mk wl_RX7_47 wi_X9_refuse wx_X9_refuse wn_RX9 wc_X9_refuse ⟨by decide +kernel, by decide +kernel, by decide +kernel⟩
set_option maxRecDepth 20000 in
theorem wf_RX7_51 : Cond.fieldLink RX7 51 (TX6 0).1 (TX6 0).2.1 (TX6 0).2.2.1 ∈ lw_tb := tb_at 281 rfl rfl
theorem fl_RX7_51 : fw_fl RX7 51 5 0 := ⟨RX6, TX6, 7, rfl, in_X6, by decide, wf_RX7_51⟩
theorem fp_RX7_51 : fw_fp RX7 51 5 0 .int := ⟨RX6, TX6, 7, tyX6, rfl, in_X6, by decide, wf_RX7_51, tyX6_ok, nmX6, rfl, rfl⟩
set_option maxRecDepth 20000 in
theorem ws_X7_readCond : Cond.static yX7_readCond ∈ lw_tb := tb_at 990 rfl rfl
set_option maxRecDepth 20000 in
theorem wc_X7_readCond : Cond.code yX7_readCond cX7_readCond 5 none ∈ lw_tb := tb_at 991 rfl rfl
set_option maxRecDepth 20000 in
theorem wl_RX7_55 : Cond.methodLink RX7 55 yX7_readCond ∈ lw_tb := tb_at 1016 rfl rfl
theorem ls_RX7_55 : fw_ls RX7 55 yX7_readCond cX7_readCond 5 none 4 := fw_ls_mk wl_RX7_55 ws_X7_readCond wn_RX7 wc_X7_readCond ⟨by decide +kernel, by decide +kernel, by decide +kernel⟩
set_option maxRecDepth 20000 in
theorem wl_RX7_58 : Cond.methodLink RX7 58 yX9_takeSign ∈ lw_tb := tb_at 1017 rfl rfl
theorem lv_RX7_58 : fw_lv RX7 58 yX9_takeSign cX9_takeSign 2 none 1 := fw_lv_mk wl_RX7_58 wi_X9_takeSign wx_X9_takeSign wn_RX9 wc_X9_takeSign ⟨by decide +kernel, by decide +kernel, by decide +kernel⟩
set_option maxRecDepth 20000 in
theorem wl_RX7_79 : Cond.methodLink RX7 79 yX0_takeTold ∈ lw_tb := tb_at 1021 rfl rfl
theorem lv_RX7_79 : fw_lv RX7 79 yX0_takeTold cX0_takeTold 4 (some .int) 2 := fw_lv_mk wl_RX7_79 wi_X0_takeTold wx_X0_takeTold wn_RX0 wc_X0_takeTold ⟨by decide +kernel, by decide +kernel, by decide +kernel⟩
set_option maxRecDepth 20000 in
theorem wl_RX7_87 : Cond.methodLink RX7 87 yX9_takeComparison ∈ lw_tb := tb_at 1025 rfl rfl
set_option maxRecDepth 20000 in
theorem wi_X9_takeComparison : Cond.instanceMethod yX9_takeComparison ∈ lw_tb := tb_at 1026 rfl rfl
set_option maxRecDepth 20000 in
theorem wx_X9_takeComparison : Cond.selects yX9_takeComparison.cls yX9_takeComparison yX9_takeComparison ∈ lw_tb := tb_at 1027 rfl rfl
set_option maxRecDepth 20000 in
theorem wc_X9_takeComparison : Cond.code yX9_takeComparison cX9_takeComparison 2 (some .int) ∈ lw_tb := tb_at 1028 rfl rfl
theorem lv_RX7_87 : fw_lv RX7 87 yX9_takeComparison cX9_takeComparison 2 (some .int) 0 := fw_lv_mk wl_RX7_87 wi_X9_takeComparison wx_X9_takeComparison wn_RX9 wc_X9_takeComparison ⟨by decide +kernel, by decide +kernel, by decide +kernel⟩
set_option maxRecDepth 20000 in
theorem wl_RX7_91 : Cond.methodLink RX7 91 yX9_takeNumber ∈ lw_tb := tb_at 1029 rfl rfl
theorem lv_RX7_91 : fw_lv RX7 91 yX9_takeNumber cX9_takeNumber 4 (some .int) 2 := fw_lv_mk wl_RX7_91 wi_X9_takeNumber wx_X9_takeNumber wn_RX9 wc_X9_takeNumber ⟨by decide +kernel, by decide +kernel, by decide +kernel⟩
set_option maxRecDepth 20000 in
theorem ws_X7_readComparison : Cond.static yX7_readComparison ∈ lw_tb := tb_at 1023 rfl rfl
set_option maxRecDepth 20000 in
theorem wc_X7_readComparison : Cond.code yX7_readComparison cX7_readComparison 6 none ∈ lw_tb := tb_at 1024 rfl rfl
set_option maxRecDepth 20000 in
theorem wl_RX7_83 : Cond.methodLink RX7 83 yX7_readComparison ∈ lw_tb := tb_at 1022 rfl rfl
theorem ls_RX7_83 : fw_ls RX7 83 yX7_readComparison cX7_readComparison 6 none 5 := fw_ls_mk wl_RX7_83 ws_X7_readComparison wn_RX7 wc_X7_readComparison ⟨by decide +kernel, by decide +kernel, by decide +kernel⟩
set_option maxRecDepth 20000 in
theorem ws_X7_readPlain : Cond.static yX7_readPlain ∈ lw_tb := tb_at 1019 rfl rfl
set_option maxRecDepth 20000 in
theorem wc_X7_readPlain : Cond.code yX7_readPlain cX7_readPlain 5 none ∈ lw_tb := tb_at 1020 rfl rfl
set_option maxRecDepth 20000 in
theorem wl_RX7_61 : Cond.methodLink RX7 61 yX7_readPlain ∈ lw_tb := tb_at 1018 rfl rfl
theorem ls_RX7_61 : fw_ls RX7 61 yX7_readPlain cX7_readPlain 5 none 3 := fw_ls_mk wl_RX7_61 ws_X7_readPlain wn_RX7 wc_X7_readPlain ⟨by decide +kernel, by decide +kernel, by decide +kernel⟩
set_option maxRecDepth 20000 in
theorem wl_RX11_327 : Cond.methodLink RX11 327 yX7_readCond ∈ lw_tb := tb_at 989 rfl rfl
theorem ls_RX11_327 : fw_ls RX11 327 yX7_readCond cX7_readCond 5 none 4 := fw_ls_mk wl_RX11_327 ws_X7_readCond wn_RX7 wc_X7_readCond ⟨by decide +kernel, by decide +kernel, by decide +kernel⟩
set_option maxRecDepth 20000 in
theorem wl_RX11_333 : Cond.methodLink RX11 333 yX9_close ∈ lw_tb := tb_at 1032 rfl rfl
theorem lv_RX11_333 : fw_lv RX11 333 yX9_close cX9_close 1 none 0 := fw_lv_mk wl_RX11_333 wi_X9_close wx_X9_close wn_RX9 wc_X9_close ⟨by decide +kernel, by decide +kernel, by decide +kernel⟩
set_option maxRecDepth 20000 in
theorem wl_RX11_336 : Cond.methodLink RX11 336 yX6_copyFrom ∈ lw_tb := tb_at 1033 rfl rfl
theorem lv_RX11_336 : fw_lv RX11 336 yX6_copyFrom cX6_copyFrom 2 none 1 := fw_lv_mk wl_RX11_336 wi_X6_copyFrom wx_X6_copyFrom wn_RX6 wc_X6_copyFrom ⟨by decide +kernel, by decide +kernel, by decide +kernel⟩
set_option maxRecDepth 20000 in
theorem wf_RX11_339 : Cond.fieldLink RX11 339 (TX6 0).1 (TX6 0).2.1 (TX6 0).2.2.1 ∈ lw_tb := tb_at 282 rfl rfl
theorem fl_RX11_339 : fw_fl RX11 339 5 0 := ⟨RX6, TX6, 7, rfl, in_X6, by decide, wf_RX11_339⟩
set_option maxRecDepth 20000 in
theorem wf_RX6_44 : Cond.fieldLink RX6 44 (TX2 3).1 (TX2 3).2.1 (TX2 3).2.2.1 ∈ lw_tb := tb_at 371 rfl rfl
theorem fl_RX6_44 : fw_fl RX6 44 2 3 := ⟨RX2, TX2, 6, rfl, in_X2, by decide, wf_RX6_44⟩
set_option maxRecDepth 20000 in
theorem wl_RX6_49 : Cond.methodLink RX6 49 yX2_isHarmed ∈ lw_tb := tb_at 1046 rfl rfl
theorem lv_RX6_49 : fw_lv RX6 49 yX2_isHarmed cX2_isHarmed 3 (some .boolean) 2 := fw_lv_mk wl_RX6_49 wi_X2_isHarmed wx_X2_isHarmed wn_RX2 wc_X2_isHarmed ⟨by decide +kernel, by decide +kernel, by decide +kernel⟩
set_option maxRecDepth 20000 in
theorem wl_RX6_53 : Cond.methodLink RX6 53 yX2_shadeAt ∈ lw_tb := tb_at 1047 rfl rfl
theorem lv_RX6_53 : fw_lv RX6 53 yX2_shadeAt cX2_shadeAt 5 (some .int) 4 := fw_lv_mk wl_RX6_53 wi_X2_shadeAt wx_X2_shadeAt wn_RX2 wc_X2_shadeAt ⟨by decide +kernel, by decide +kernel, by decide +kernel⟩
set_option maxRecDepth 20000 in
theorem wl_RX6_57 : Cond.methodLink RX6 57 yX6_compares ∈ lw_tb := tb_at 1048 rfl rfl
set_option maxRecDepth 20000 in
theorem wi_X6_compares : Cond.instanceMethod yX6_compares ∈ lw_tb := tb_at 1050 rfl rfl
theorem wx_X6_compares : Cond.selects yX6_compares.cls yX6_compares yX6_compares ∈ lw_tb := tb_sel 28 (by decide +kernel) rfl
set_option maxRecDepth 20000 in
theorem wc_X6_compares : Cond.code yX6_compares cX6_compares 3 (some .boolean) ∈ lw_tb := tb_at 1051 rfl rfl
theorem lv_RX6_57 : fw_lv RX6 57 yX6_compares cX6_compares 3 (some .boolean) 2 := fw_lv_mk wl_RX6_57 wi_X6_compares wx_X6_compares wn_RX6 wc_X6_compares ⟨by decide +kernel, by decide +kernel, by decide +kernel⟩
set_option maxRecDepth 20000 in
theorem wf_RX2_61 : Cond.fieldLink RX2 61 (TX3 4).1 (TX3 4).2.1 (TX3 4).2.2.1 ∈ lw_tb := tb_at 132 rfl rfl
theorem fl_RX2_61 : fw_fl RX2 61 3 4 := ⟨RX3, TX3, 20, rfl, in_X3, by decide, wf_RX2_61⟩
set_option maxRecDepth 20000 in
theorem wl_RX6_60 : Cond.methodLink RX6 60 yX2_passedOfAll ∈ lw_tb := tb_at 1052 rfl rfl
set_option maxRecDepth 20000 in
theorem wi_X2_passedOfAll : Cond.instanceMethod yX2_passedOfAll ∈ lw_tb := tb_at 1053 rfl rfl
set_option maxRecDepth 20000 in
theorem wx_X2_passedOfAll : Cond.selects yX2_passedOfAll.cls yX2_passedOfAll yX2_passedOfAll ∈ lw_tb := tb_at 1054 rfl rfl
set_option maxRecDepth 20000 in
theorem wc_X2_passedOfAll : Cond.code yX2_passedOfAll cX2_passedOfAll 5 (some .int) ∈ lw_tb := tb_at 1055 rfl rfl
theorem lv_RX6_60 : fw_lv RX6 60 yX2_passedOfAll cX2_passedOfAll 5 (some .int) 2 := fw_lv_mk wl_RX6_60 wi_X2_passedOfAll wx_X2_passedOfAll wn_RX2 wc_X2_passedOfAll ⟨by decide +kernel, by decide +kernel, by decide +kernel⟩
set_option maxRecDepth 20000 in
theorem wl_RX6_40 : Cond.methodLink RX6 40 yX6_isSo ∈ lw_tb := tb_at 1042 rfl rfl
set_option maxRecDepth 20000 in
theorem wi_X6_isSo : Cond.instanceMethod yX6_isSo ∈ lw_tb := tb_at 1044 rfl rfl
theorem wx_X6_isSo : Cond.selects yX6_isSo.cls yX6_isSo yX6_isSo ∈ lw_tb := tb_sel 27 (by decide +kernel) rfl
set_option maxRecDepth 20000 in
theorem wc_X6_isSo : Cond.code yX6_isSo cX6_isSo 5 (some .boolean) ∈ lw_tb := tb_at 1045 rfl rfl
theorem lv_RX6_40 : fw_lv RX6 40 yX6_isSo cX6_isSo 5 (some .boolean) 4 := fw_lv_mk wl_RX6_40 wi_X6_isSo wx_X6_isSo wn_RX6 wc_X6_isSo ⟨by decide +kernel, by decide +kernel, by decide +kernel⟩
set_option maxRecDepth 20000 in
theorem wl_RX11_342 : Cond.methodLink RX11 342 yX6_holds ∈ lw_tb := tb_at 1038 rfl rfl
set_option maxRecDepth 20000 in
theorem wi_X6_holds : Cond.instanceMethod yX6_holds ∈ lw_tb := tb_at 1039 rfl rfl
set_option maxRecDepth 20000 in
theorem wx_X6_holds : Cond.selects yX6_holds.cls yX6_holds yX6_holds ∈ lw_tb := tb_at 1040 rfl rfl
set_option maxRecDepth 20000 in
theorem wc_X6_holds : Cond.code yX6_holds cX6_holds 8 (some .boolean) ∈ lw_tb := tb_at 1041 rfl rfl
theorem lv_RX11_342 : fw_lv RX11 342 yX6_holds cX6_holds 8 (some .boolean) 3 := fw_lv_mk wl_RX11_342 wi_X6_holds wx_X6_holds wn_RX6 wc_X6_holds ⟨by decide +kernel, by decide +kernel, by decide +kernel⟩
set_option maxRecDepth 20000 in
theorem wf_RX11_26 : Cond.fieldLink RX11 26 (TX11 4).1 (TX11 4).2.1 (TX11 4).2.2.1 ∈ lw_tb := tb_at 395 rfl rfl
theorem fl_RX11_26 : fw_fl RX11 26 9 4 := ⟨RX11, TX11, 17, rfl, in_X11, by decide, wf_RX11_26⟩
set_option maxRecDepth 20000 in
theorem wf_RX11_346 : Cond.fieldLink RX11 346 (TX11 6).1 (TX11 6).2.1 (TX11 6).2.2.1 ∈ lw_tb := tb_at 397 rfl rfl
theorem fl_RX11_346 : fw_fl RX11 346 9 6 := ⟨RX11, TX11, 17, rfl, in_X11, by decide, wf_RX11_346⟩
theorem fp_RX11_346 : fw_fp RX11 346 9 6 .boolean := ⟨RX11, TX11, 17, tyX11, rfl, in_X11, by decide, wf_RX11_346, tyX11_ok, nmX11, rfl, rfl⟩
set_option maxRecDepth 20000 in
theorem wf_RX11_29 : Cond.fieldLink RX11 29 (TX11 5).1 (TX11 5).2.1 (TX11 5).2.2.1 ∈ lw_tb := tb_at 396 rfl rfl
theorem fl_RX11_29 : fw_fl RX11 29 9 5 := ⟨RX11, TX11, 17, rfl, in_X11, by decide, wf_RX11_29⟩
set_option maxRecDepth 20000 in
theorem wf_RX11_349 : Cond.fieldLink RX11 349 (TX11 7).1 (TX11 7).2.1 (TX11 7).2.2.1 ∈ lw_tb := tb_at 398 rfl rfl
theorem fl_RX11_349 : fw_fl RX11 349 9 7 := ⟨RX11, TX11, 17, rfl, in_X11, by decide, wf_RX11_349⟩
theorem fp_RX11_349 : fw_fp RX11 349 9 7 .boolean := ⟨RX11, TX11, 17, tyX11, rfl, in_X11, by decide, wf_RX11_349, tyX11_ok, nmX11, rfl, rfl⟩
set_option maxRecDepth 20000 in
theorem wf_RX11_358 : Cond.fieldLink RX11 358 (TX3 16).1 (TX3 16).2.1 (TX3 16).2.2.1 ∈ lw_tb := tb_at 178 rfl rfl
theorem fl_RX11_358 : fw_fl RX11 358 3 16 := ⟨RX3, TX3, 20, rfl, in_X3, by decide, wf_RX11_358⟩
theorem in_X12 : ∀ w ∈ u_ws RX12 TX12 54, w ∈ lw_tb := by
  have h : ((u_ws RX12 TX12 54).all fun w => decide (w ∈ lw_tbl) && goodWord w) = true := by decide +kernel
  intro w hw
  have h1 := List.all_eq_true.mp h w hw
  simp only [Bool.and_eq_true, decide_eq_true_eq] at h1
  exact lw_tb_of h1.1 h1.2
set_option maxRecDepth 20000 in
theorem wf_RX12_91 : Cond.fieldLink RX12 91 (TX12 0).1 (TX12 0).2.1 (TX12 0).2.2.1 ∈ lw_tb := tb_at 1171 rfl rfl
theorem fl_RX12_91 : fw_fl RX12 91 10 0 := ⟨RX12, TX12, 54, rfl, in_X12, by decide, wf_RX12_91⟩
theorem fp_RX12_91 : fw_fp RX12 91 10 0 .int := ⟨RX12, TX12, 54, tyX12, rfl, in_X12, by decide, wf_RX12_91, tyX12_ok, nmX12, rfl, rfl⟩
set_option maxRecDepth 20000 in
theorem wf_RX12_94 : Cond.fieldLink RX12 94 (TX12 2).1 (TX12 2).2.1 (TX12 2).2.2.1 ∈ lw_tb := tb_at 1173 rfl rfl
theorem fl_RX12_94 : fw_fl RX12 94 10 2 := ⟨RX12, TX12, 54, rfl, in_X12, by decide, wf_RX12_94⟩
set_option maxRecDepth 20000 in
theorem wf_RX12_7 : Cond.fieldLink RX12 7 (TX12 1).1 (TX12 1).2.1 (TX12 1).2.2.1 ∈ lw_tb := tb_at 1172 rfl rfl
theorem fl_RX12_7 : fw_fl RX12 7 10 1 := ⟨RX12, TX12, 54, rfl, in_X12, by decide, wf_RX12_7⟩
theorem fp_RX12_94 : fw_fp RX12 94 10 2 .int := ⟨RX12, TX12, 54, tyX12, rfl, in_X12, by decide, wf_RX12_94, tyX12_ok, nmX12, rfl, rfl⟩
set_option maxRecDepth 20000 in
theorem wl_RX12_97 : Cond.methodLink RX12 97 yX12_come ∈ lw_tb := tb_at 1343 rfl rfl
set_option maxRecDepth 20000 in
theorem wi_X12_come : Cond.instanceMethod yX12_come ∈ lw_tb := tb_at 1345 rfl rfl
theorem wx_X12_come : Cond.selects yX12_come.cls yX12_come yX12_come ∈ lw_tb := tb_sel 30 (by decide +kernel) rfl
set_option maxRecDepth 20000 in
theorem wn_RX12 : Cond.initialized RX12 ∈ lw_tb := tb_at 11 rfl rfl
set_option maxRecDepth 20000 in
theorem wc_X12_come : Cond.code yX12_come cX12_come 3 none ∈ lw_tb := tb_at 1346 rfl rfl
theorem lv_RX12_97 : fw_lv RX12 97 yX12_come cX12_come 3 none 1 := fw_lv_mk wl_RX12_97 wi_X12_come wx_X12_come wn_RX12 wc_X12_come ⟨by decide +kernel, by decide +kernel, by decide +kernel⟩
set_option maxRecDepth 20000 in
theorem wf_RX12_182 : Cond.fieldLink RX12 182 (TX12 22).1 (TX12 22).2.1 (TX12 22).2.2.1 ∈ lw_tb := tb_at 1193 rfl rfl
theorem fl_RX12_182 : fw_fl RX12 182 10 22 := ⟨RX12, TX12, 54, rfl, in_X12, by decide, wf_RX12_182⟩
theorem fp_RX12_182 : fw_fp RX12 182 10 22 .boolean := ⟨RX12, TX12, 54, tyX12, rfl, in_X12, by decide, wf_RX12_182, tyX12_ok, nmX12, rfl, rfl⟩
set_option maxRecDepth 20000 in
theorem wf_RX12_13 : Cond.fieldLink RX12 13 (TX12 14).1 (TX12 14).2.1 (TX12 14).2.2.1 ∈ lw_tb := tb_at 1185 rfl rfl
theorem fl_RX12_13 : fw_fl RX12 13 10 14 := ⟨RX12, TX12, 54, rfl, in_X12, by decide, wf_RX12_13⟩
set_option maxRecDepth 20000 in
theorem ws_X12_standard : Cond.static yX12_standard ∈ lw_tb := tb_at 1364 rfl rfl
set_option maxRecDepth 20000 in
theorem wc_X12_standard : Cond.code yX12_standard cX12_standard 2 none ∈ lw_tb := tb_at 1365 rfl rfl
set_option maxRecDepth 20000 in
theorem wl_RX12_186 : Cond.methodLink RX12 186 yX12_standard ∈ lw_tb := tb_at 1363 rfl rfl
theorem ls_RX12_186 : fw_ls RX12 186 yX12_standard cX12_standard 2 none 1 := fw_ls_mk wl_RX12_186 ws_X12_standard wn_RX12 wc_X12_standard ⟨by decide +kernel, by decide +kernel, by decide +kernel⟩
set_option maxRecDepth 20000 in
theorem wl_RX12_175 : Cond.methodLink RX12 175 yX12_lay ∈ lw_tb := tb_at 1359 rfl rfl
set_option maxRecDepth 20000 in
theorem wi_X12_lay : Cond.instanceMethod yX12_lay ∈ lw_tb := tb_at 1361 rfl rfl
theorem wx_X12_lay : Cond.selects yX12_lay.cls yX12_lay yX12_lay ∈ lw_tb := tb_sel 32 (by decide +kernel) rfl
set_option maxRecDepth 20000 in
theorem wc_X12_lay : Cond.code yX12_lay cX12_lay 1 none ∈ lw_tb := tb_at 1362 rfl rfl
theorem lv_RX12_175 : fw_lv RX12 175 yX12_lay cX12_lay 1 none 0 := fw_lv_mk wl_RX12_175 wi_X12_lay wx_X12_lay wn_RX12 wc_X12_lay ⟨by decide +kernel, by decide +kernel, by decide +kernel⟩
set_option maxRecDepth 20000 in
theorem wl_RX12_178 : Cond.methodLink RX12 178 yX12_take ∈ lw_tb := tb_at 1366 rfl rfl
set_option maxRecDepth 20000 in
theorem wi_X12_take : Cond.instanceMethod yX12_take ∈ lw_tb := tb_at 1368 rfl rfl
theorem wx_X12_take : Cond.selects yX12_take.cls yX12_take yX12_take ∈ lw_tb := tb_sel 33 (by decide +kernel) rfl
set_option maxRecDepth 20000 in
theorem wc_X12_take : Cond.code yX12_take cX12_take 2 (some .int) ∈ lw_tb := tb_at 1369 rfl rfl
theorem lv_RX12_178 : fw_lv RX12 178 yX12_take cX12_take 2 (some .int) 0 := fw_lv_mk wl_RX12_178 wi_X12_take wx_X12_take wn_RX12 wc_X12_take ⟨by decide +kernel, by decide +kernel, by decide +kernel⟩
set_option maxRecDepth 20000 in
theorem wf_RX12_101 : Cond.fieldLink RX12 101 (TX12 3).1 (TX12 3).2.1 (TX12 3).2.2.1 ∈ lw_tb := tb_at 1174 rfl rfl
theorem fl_RX12_101 : fw_fl RX12 101 10 3 := ⟨RX12, TX12, 54, rfl, in_X12, by decide, wf_RX12_101⟩
theorem fp_RX12_101 : fw_fp RX12 101 10 3 .int := ⟨RX12, TX12, 54, tyX12, rfl, in_X12, by decide, wf_RX12_101, tyX12_ok, nmX12, rfl, rfl⟩
set_option maxRecDepth 20000 in
theorem wf_RX12_110 : Cond.fieldLink RX12 110 (TX12 4).1 (TX12 4).2.1 (TX12 4).2.2.1 ∈ lw_tb := tb_at 1175 rfl rfl
theorem fl_RX12_110 : fw_fl RX12 110 10 4 := ⟨RX12, TX12, 54, rfl, in_X12, by decide, wf_RX12_110⟩
theorem fp_RX12_110 : fw_fp RX12 110 10 4 .int := ⟨RX12, TX12, 54, tyX12, rfl, in_X12, by decide, wf_RX12_110, tyX12_ok, nmX12, rfl, rfl⟩
set_option maxRecDepth 20000 in
theorem wf_RX12_153 : Cond.fieldLink RX12 153 (TX12 10).1 (TX12 10).2.1 (TX12 10).2.2.1 ∈ lw_tb := tb_at 1181 rfl rfl
theorem fl_RX12_153 : fw_fl RX12 153 10 10 := ⟨RX12, TX12, 54, rfl, in_X12, by decide, wf_RX12_153⟩
theorem fp_RX12_153 : fw_fp RX12 153 10 10 .int := ⟨RX12, TX12, 54, tyX12, rfl, in_X12, by decide, wf_RX12_153, tyX12_ok, nmX12, rfl, rfl⟩
set_option maxRecDepth 20000 in
theorem wf_RX12_104 : Cond.fieldLink RX12 104 (TX12 5).1 (TX12 5).2.1 (TX12 5).2.2.1 ∈ lw_tb := tb_at 1176 rfl rfl
theorem fl_RX12_104 : fw_fl RX12 104 10 5 := ⟨RX12, TX12, 54, rfl, in_X12, by decide, wf_RX12_104⟩
theorem fp_RX12_104 : fw_fp RX12 104 10 5 .int := ⟨RX12, TX12, 54, tyX12, rfl, in_X12, by decide, wf_RX12_104, tyX12_ok, nmX12, rfl, rfl⟩
set_option maxRecDepth 20000 in
theorem wf_RX12_107 : Cond.fieldLink RX12 107 (TX12 6).1 (TX12 6).2.1 (TX12 6).2.2.1 ∈ lw_tb := tb_at 1177 rfl rfl
theorem fl_RX12_107 : fw_fl RX12 107 10 6 := ⟨RX12, TX12, 54, rfl, in_X12, by decide, wf_RX12_107⟩
theorem fp_RX12_107 : fw_fp RX12 107 10 6 .int := ⟨RX12, TX12, 54, tyX12, rfl, in_X12, by decide, wf_RX12_107, tyX12_ok, nmX12, rfl, rfl⟩
set_option maxRecDepth 20000 in
theorem wf_RX12_113 : Cond.fieldLink RX12 113 (TX12 7).1 (TX12 7).2.1 (TX12 7).2.2.1 ∈ lw_tb := tb_at 1178 rfl rfl
theorem fl_RX12_113 : fw_fl RX12 113 10 7 := ⟨RX12, TX12, 54, rfl, in_X12, by decide, wf_RX12_113⟩
theorem fp_RX12_113 : fw_fp RX12 113 10 7 .int := ⟨RX12, TX12, 54, tyX12, rfl, in_X12, by decide, wf_RX12_113, tyX12_ok, nmX12, rfl, rfl⟩
set_option maxRecDepth 20000 in
theorem ws_X12_isLetter : Cond.static yX12_isLetter ∈ lw_tb := tb_at 1375 rfl rfl
set_option maxRecDepth 20000 in
theorem wc_X12_isLetter : Cond.code yX12_isLetter cX12_isLetter 1 (some .boolean) ∈ lw_tb := tb_at 1376 rfl rfl
set_option maxRecDepth 20000 in
theorem wl_RX12_116 : Cond.methodLink RX12 116 yX12_isLetter ∈ lw_tb := tb_at 1374 rfl rfl
theorem ls_RX12_116 : fw_ls RX12 116 yX12_isLetter cX12_isLetter 1 (some .boolean) 1 := fw_ls_mk wl_RX12_116 ws_X12_isLetter wn_RX12 wc_X12_isLetter ⟨by decide +kernel, by decide +kernel, by decide +kernel⟩
set_option maxRecDepth 20000 in
theorem ws_X12_isDigit : Cond.static yX12_isDigit ∈ lw_tb := tb_at 1378 rfl rfl
set_option maxRecDepth 20000 in
theorem wc_X12_isDigit : Cond.code yX12_isDigit cX12_isDigit 1 (some .boolean) ∈ lw_tb := tb_at 1379 rfl rfl
set_option maxRecDepth 20000 in
theorem wl_RX12_120 : Cond.methodLink RX12 120 yX12_isDigit ∈ lw_tb := tb_at 1377 rfl rfl
theorem ls_RX12_120 : fw_ls RX12 120 yX12_isDigit cX12_isDigit 1 (some .boolean) 1 := fw_ls_mk wl_RX12_120 ws_X12_isDigit wn_RX12 wc_X12_isDigit ⟨by decide +kernel, by decide +kernel, by decide +kernel⟩
set_option maxRecDepth 20000 in
theorem wf_RX12_123 : Cond.fieldLink RX12 123 (TX12 9).1 (TX12 9).2.1 (TX12 9).2.2.1 ∈ lw_tb := tb_at 1180 rfl rfl
theorem fl_RX12_123 : fw_fl RX12 123 10 9 := ⟨RX12, TX12, 54, rfl, in_X12, by decide, wf_RX12_123⟩
theorem fp_RX12_123 : fw_fp RX12 123 10 9 .int := ⟨RX12, TX12, 54, tyX12, rfl, in_X12, by decide, wf_RX12_123, tyX12_ok, nmX12, rfl, rfl⟩
set_option maxRecDepth 20000 in
theorem wf_RX12_126 : Cond.fieldLink RX12 126 (TX12 12).1 (TX12 12).2.1 (TX12 12).2.2.1 ∈ lw_tb := tb_at 1183 rfl rfl
theorem fl_RX12_126 : fw_fl RX12 126 10 12 := ⟨RX12, TX12, 54, rfl, in_X12, by decide, wf_RX12_126⟩
theorem fp_RX12_126 : fw_fp RX12 126 10 12 .long := ⟨RX12, TX12, 54, tyX12, rfl, in_X12, by decide, wf_RX12_126, tyX12_ok, nmX12, rfl, rfl⟩
set_option maxRecDepth 20000 in
theorem wf_RX12_130 : Cond.fieldLink RX12 130 (TX12 8).1 (TX12 8).2.1 (TX12 8).2.2.1 ∈ lw_tb := tb_at 1179 rfl rfl
theorem fl_RX12_130 : fw_fl RX12 130 10 8 := ⟨RX12, TX12, 54, rfl, in_X12, by decide, wf_RX12_130⟩
theorem fp_RX12_130 : fw_fp RX12 130 10 8 .int := ⟨RX12, TX12, 54, tyX12, rfl, in_X12, by decide, wf_RX12_130, tyX12_ok, nmX12, rfl, rfl⟩
set_option maxRecDepth 20000 in
theorem wl_RX12_133 : Cond.methodLink RX12 133 yX12_byteAt ∈ lw_tb := tb_at 1380 rfl rfl
set_option maxRecDepth 20000 in
theorem wi_X12_byteAt : Cond.instanceMethod yX12_byteAt ∈ lw_tb := tb_at 1382 rfl rfl
theorem wx_X12_byteAt : Cond.selects yX12_byteAt.cls yX12_byteAt yX12_byteAt ∈ lw_tb := tb_sel 35 (by decide +kernel) rfl
set_option maxRecDepth 20000 in
theorem wc_X12_byteAt : Cond.code yX12_byteAt cX12_byteAt 2 (some .int) ∈ lw_tb := tb_at 1383 rfl rfl
theorem lv_RX12_133 : fw_lv RX12 133 yX12_byteAt cX12_byteAt 2 (some .int) 1 := fw_lv_mk wl_RX12_133 wi_X12_byteAt wx_X12_byteAt wn_RX12 wc_X12_byteAt ⟨by decide +kernel, by decide +kernel, by decide +kernel⟩
set_option maxRecDepth 20000 in
theorem wk_RX12_137 : Cond.constantLong RX12 137 (Int64.ofInt 27) ∈ lw_tb := tb_at 1384 rfl rfl
set_option maxRecDepth 20000 in
theorem wk_RX12_139 : Cond.constantLong RX12 139 (Int64.ofInt 96) ∈ lw_tb := tb_at 1385 rfl rfl
set_option maxRecDepth 20000 in
theorem wl_RX12_169 : Cond.methodLink RX12 169 yX12_go ∈ lw_tb := tb_at 1370 rfl rfl
set_option maxRecDepth 20000 in
theorem wi_X12_go : Cond.instanceMethod yX12_go ∈ lw_tb := tb_at 1372 rfl rfl
theorem wx_X12_go : Cond.selects yX12_go.cls yX12_go yX12_go ∈ lw_tb := tb_sel 34 (by decide +kernel) rfl
set_option maxRecDepth 20000 in
theorem wc_X12_go : Cond.code yX12_go cX12_go 5 none ∈ lw_tb := tb_at 1373 rfl rfl
theorem lv_RX12_169 : fw_lv RX12 169 yX12_go cX12_go 5 none 0 := fw_lv_mk wl_RX12_169 wi_X12_go wx_X12_go wn_RX12 wc_X12_go ⟨by decide +kernel, by decide +kernel, by decide +kernel⟩
set_option maxRecDepth 20000 in
theorem wl_RX12_262 : Cond.methodLink RX12 262 yX12_begin ∈ lw_tb := tb_at 1355 rfl rfl
set_option maxRecDepth 20000 in
theorem wi_X12_begin : Cond.instanceMethod yX12_begin ∈ lw_tb := tb_at 1357 rfl rfl
theorem wx_X12_begin : Cond.selects yX12_begin.cls yX12_begin yX12_begin ∈ lw_tb := tb_sel 31 (by decide +kernel) rfl
set_option maxRecDepth 20000 in
theorem wc_X12_begin : Cond.code yX12_begin cX12_begin 2 none ∈ lw_tb := tb_at 1358 rfl rfl
theorem lv_RX12_262 : fw_lv RX12 262 yX12_begin cX12_begin 2 none 1 := fw_lv_mk wl_RX12_262 wi_X12_begin wx_X12_begin wn_RX12 wc_X12_begin ⟨by decide +kernel, by decide +kernel, by decide +kernel⟩
set_option maxRecDepth 20000 in
theorem wf_RX12_16 : Cond.fieldLink RX12 16 (TX12 15).1 (TX12 15).2.1 (TX12 15).2.2.1 ∈ lw_tb := tb_at 1186 rfl rfl
theorem fl_RX12_16 : fw_fl RX12 16 10 15 := ⟨RX12, TX12, 54, rfl, in_X12, by decide, wf_RX12_16⟩
set_option maxRecDepth 20000 in
theorem wf_RX12_232 : Cond.fieldLink RX12 232 (TX12 23).1 (TX12 23).2.1 (TX12 23).2.2.1 ∈ lw_tb := tb_at 1194 rfl rfl
theorem fl_RX12_232 : fw_fl RX12 232 10 23 := ⟨RX12, TX12, 54, rfl, in_X12, by decide, wf_RX12_232⟩
theorem fp_RX12_232 : fw_fp RX12 232 10 23 .int := ⟨RX12, TX12, 54, tyX12, rfl, in_X12, by decide, wf_RX12_232, tyX12_ok, nmX12, rfl, rfl⟩
set_option maxRecDepth 20000 in
theorem wf_RX12_229 : Cond.fieldLink RX12 229 (TX12 24).1 (TX12 24).2.1 (TX12 24).2.2.1 ∈ lw_tb := tb_at 1195 rfl rfl
theorem fl_RX12_229 : fw_fl RX12 229 10 24 := ⟨RX12, TX12, 54, rfl, in_X12, by decide, wf_RX12_229⟩
theorem fp_RX12_229 : fw_fp RX12 229 10 24 .int := ⟨RX12, TX12, 54, tyX12, rfl, in_X12, by decide, wf_RX12_229, tyX12_ok, nmX12, rfl, rfl⟩
set_option maxRecDepth 20000 in
theorem ws_X12_spelt : Cond.static yX12_spelt ∈ lw_tb := tb_at 1398 rfl rfl
set_option maxRecDepth 20000 in
theorem wc_X12_spelt : Cond.code yX12_spelt cX12_spelt 6 (some .long) ∈ lw_tb := tb_at 1399 rfl rfl
set_option maxRecDepth 20000 in
theorem wl_RX12_141 : Cond.methodLink RX12 141 yX12_spelt ∈ lw_tb := tb_at 1397 rfl rfl
theorem ls_RX12_141 : fw_ls RX12 141 yX12_spelt cX12_spelt 6 (some .long) 4 := fw_ls_mk wl_RX12_141 ws_X12_spelt wn_RX12 wc_X12_spelt ⟨by decide +kernel, by decide +kernel, by decide +kernel⟩
set_option maxRecDepth 20000 in
theorem ws_X12_on : Cond.static yX12_on ∈ lw_tb := tb_at 1401 rfl rfl
set_option maxRecDepth 20000 in
theorem wc_X12_on : Cond.code yX12_on cX12_on 6 (some .long) ∈ lw_tb := tb_at 1402 rfl rfl
set_option maxRecDepth 20000 in
theorem wl_RX12_145 : Cond.methodLink RX12 145 yX12_on ∈ lw_tb := tb_at 1400 rfl rfl
theorem ls_RX12_145 : fw_ls RX12 145 yX12_on cX12_on 6 (some .long) 3 := fw_ls_mk wl_RX12_145 ws_X12_on wn_RX12 wc_X12_on ⟨by decide +kernel, by decide +kernel, by decide +kernel⟩
set_option maxRecDepth 20000 in
theorem ws_X12_wordOf : Cond.static yX12_wordOf ∈ lw_tb := tb_at 1395 rfl rfl
set_option maxRecDepth 20000 in
theorem wc_X12_wordOf : Cond.code yX12_wordOf cX12_wordOf 1 (some .long) ∈ lw_tb := tb_at 1396 rfl rfl
set_option maxRecDepth 20000 in
theorem wl_RX12_149 : Cond.methodLink RX12 149 yX12_wordOf ∈ lw_tb := tb_at 1394 rfl rfl
theorem ls_RX12_149 : fw_ls RX12 149 yX12_wordOf cX12_wordOf 1 (some .long) 1 := fw_ls_mk wl_RX12_149 ws_X12_wordOf wn_RX12 wc_X12_wordOf ⟨by decide +kernel, by decide +kernel, by decide +kernel⟩
set_option maxRecDepth 20000 in
theorem wl_RX12_235 : Cond.methodLink RX12 235 yX12_isWord ∈ lw_tb := tb_at 1390 rfl rfl
set_option maxRecDepth 20000 in
theorem wi_X12_isWord : Cond.instanceMethod yX12_isWord ∈ lw_tb := tb_at 1392 rfl rfl
theorem wx_X12_isWord : Cond.selects yX12_isWord.cls yX12_isWord yX12_isWord ∈ lw_tb := tb_sel 37 (by decide +kernel) rfl
set_option maxRecDepth 20000 in
theorem wc_X12_isWord : Cond.code yX12_isWord cX12_isWord 2 (some .boolean) ∈ lw_tb := tb_at 1393 rfl rfl
theorem lv_RX12_235 : fw_lv RX12 235 yX12_isWord cX12_isWord 2 (some .boolean) 1 := fw_lv_mk wl_RX12_235 wi_X12_isWord wx_X12_isWord wn_RX12 wc_X12_isWord ⟨by decide +kernel, by decide +kernel, by decide +kernel⟩
set_option maxRecDepth 20000 in
theorem wf_RX12_156 : Cond.fieldLink RX12 156 (TX12 11).1 (TX12 11).2.1 (TX12 11).2.2.1 ∈ lw_tb := tb_at 1182 rfl rfl
theorem fl_RX12_156 : fw_fl RX12 156 10 11 := ⟨RX12, TX12, 54, rfl, in_X12, by decide, wf_RX12_156⟩
theorem fp_RX12_156 : fw_fp RX12 156 10 11 .int := ⟨RX12, TX12, 54, tyX12, rfl, in_X12, by decide, wf_RX12_156, tyX12_ok, nmX12, rfl, rfl⟩
set_option maxRecDepth 20000 in
theorem wl_RX12_159 : Cond.methodLink RX12 159 yX12_bad ∈ lw_tb := tb_at 1407 rfl rfl
set_option maxRecDepth 20000 in
theorem wi_X12_bad : Cond.instanceMethod yX12_bad ∈ lw_tb := tb_at 1409 rfl rfl
theorem wx_X12_bad : Cond.selects yX12_bad.cls yX12_bad yX12_bad ∈ lw_tb := tb_sel 39 (by decide +kernel) rfl
set_option maxRecDepth 20000 in
theorem wc_X12_bad : Cond.code yX12_bad cX12_bad 2 (some .boolean) ∈ lw_tb := tb_at 1410 rfl rfl
theorem lv_RX12_159 : fw_lv RX12 159 yX12_bad cX12_bad 2 (some .boolean) 1 := fw_lv_mk wl_RX12_159 wi_X12_bad wx_X12_bad wn_RX12 wc_X12_bad ⟨by decide +kernel, by decide +kernel, by decide +kernel⟩
set_option maxRecDepth 20000 in
theorem wl_RX12_206 : Cond.methodLink RX12 206 yX12_isName ∈ lw_tb := tb_at 1415 rfl rfl
set_option maxRecDepth 20000 in
theorem wi_X12_isName : Cond.instanceMethod yX12_isName ∈ lw_tb := tb_at 1417 rfl rfl
theorem wx_X12_isName : Cond.selects yX12_isName.cls yX12_isName yX12_isName ∈ lw_tb := tb_sel 41 (by decide +kernel) rfl
set_option maxRecDepth 20000 in
theorem wc_X12_isName : Cond.code yX12_isName cX12_isName 2 (some .boolean) ∈ lw_tb := tb_at 1418 rfl rfl
theorem lv_RX12_206 : fw_lv RX12 206 yX12_isName cX12_isName 2 (some .boolean) 0 := fw_lv_mk wl_RX12_206 wi_X12_isName wx_X12_isName wn_RX12 wc_X12_isName ⟨by decide +kernel, by decide +kernel, by decide +kernel⟩
set_option maxRecDepth 20000 in
theorem wf_RX12_29 : Cond.fieldLink RX12 29 (TX12 19).1 (TX12 19).2.1 (TX12 19).2.2.1 ∈ lw_tb := tb_at 1190 rfl rfl
theorem fl_RX12_29 : fw_fl RX12 29 10 19 := ⟨RX12, TX12, 54, rfl, in_X12, by decide, wf_RX12_29⟩
set_option maxRecDepth 20000 in
theorem wl_RX12_202 : Cond.methodLink RX12 202 yX12_findIn ∈ lw_tb := tb_at 1423 rfl rfl
set_option maxRecDepth 20000 in
theorem wi_X12_findIn : Cond.instanceMethod yX12_findIn ∈ lw_tb := tb_at 1425 rfl rfl
theorem wx_X12_findIn : Cond.selects yX12_findIn.cls yX12_findIn yX12_findIn ∈ lw_tb := tb_sel 43 (by decide +kernel) rfl
set_option maxRecDepth 20000 in
theorem wc_X12_findIn : Cond.code yX12_findIn cX12_findIn 5 (some .int) ∈ lw_tb := tb_at 1426 rfl rfl
theorem lv_RX12_202 : fw_lv RX12 202 yX12_findIn cX12_findIn 5 (some .int) 3 := fw_lv_mk wl_RX12_202 wi_X12_findIn wx_X12_findIn wn_RX12 wc_X12_findIn ⟨by decide +kernel, by decide +kernel, by decide +kernel⟩
set_option maxRecDepth 20000 in
theorem wl_RX12_210 : Cond.methodLink RX12 210 yX12_isTold ∈ lw_tb := tb_at 1419 rfl rfl
set_option maxRecDepth 20000 in
theorem wi_X12_isTold : Cond.instanceMethod yX12_isTold ∈ lw_tb := tb_at 1421 rfl rfl
theorem wx_X12_isTold : Cond.selects yX12_isTold.cls yX12_isTold yX12_isTold ∈ lw_tb := tb_sel 42 (by decide +kernel) rfl
set_option maxRecDepth 20000 in
theorem wc_X12_isTold : Cond.code yX12_isTold cX12_isTold 1 (some .boolean) ∈ lw_tb := tb_at 1422 rfl rfl
theorem lv_RX12_210 : fw_lv RX12 210 yX12_isTold cX12_isTold 1 (some .boolean) 0 := fw_lv_mk wl_RX12_210 wi_X12_isTold wx_X12_isTold wn_RX12 wc_X12_isTold ⟨by decide +kernel, by decide +kernel, by decide +kernel⟩
set_option maxRecDepth 20000 in
theorem wl_RX12_213 : Cond.methodLink RX12 213 yX12_readNew ∈ lw_tb := tb_at 1411 rfl rfl
set_option maxRecDepth 20000 in
theorem wi_X12_readNew : Cond.instanceMethod yX12_readNew ∈ lw_tb := tb_at 1413 rfl rfl
theorem wx_X12_readNew : Cond.selects yX12_readNew.cls yX12_readNew yX12_readNew ∈ lw_tb := tb_sel 40 (by decide +kernel) rfl
set_option maxRecDepth 20000 in
theorem wc_X12_readNew : Cond.code yX12_readNew cX12_readNew 2 (some .boolean) ∈ lw_tb := tb_at 1414 rfl rfl
theorem lv_RX12_213 : fw_lv RX12 213 yX12_readNew cX12_readNew 2 (some .boolean) 1 := fw_lv_mk wl_RX12_213 wi_X12_readNew wx_X12_readNew wn_RX12 wc_X12_readNew ⟨by decide +kernel, by decide +kernel, by decide +kernel⟩
set_option maxRecDepth 20000 in
theorem ws_X12_isIn : Cond.static yX12_isIn ∈ lw_tb := tb_at 1432 rfl rfl
set_option maxRecDepth 20000 in
theorem wc_X12_isIn : Cond.code yX12_isIn cX12_isIn 3 (some .boolean) ∈ lw_tb := tb_at 1433 rfl rfl
set_option maxRecDepth 20000 in
theorem wl_RX12_162 : Cond.methodLink RX12 162 yX12_isIn ∈ lw_tb := tb_at 1431 rfl rfl
theorem ls_RX12_162 : fw_ls RX12 162 yX12_isIn cX12_isIn 3 (some .boolean) 3 := fw_ls_mk wl_RX12_162 ws_X12_isIn wn_RX12 wc_X12_isIn ⟨by decide +kernel, by decide +kernel, by decide +kernel⟩
set_option maxRecDepth 20000 in
theorem wf_RX12_166 : Cond.fieldLink RX12 166 (TX12 13).1 (TX12 13).2.1 (TX12 13).2.2.1 ∈ lw_tb := tb_at 1184 rfl rfl
theorem fl_RX12_166 : fw_fl RX12 166 10 13 := ⟨RX12, TX12, 54, rfl, in_X12, by decide, wf_RX12_166⟩
theorem fp_RX12_166 : fw_fp RX12 166 10 13 .int := ⟨RX12, TX12, 54, tyX12, rfl, in_X12, by decide, wf_RX12_166, tyX12_ok, nmX12, rfl, rfl⟩
set_option maxRecDepth 20000 in
theorem wl_RX12_216 : Cond.methodLink RX12 216 yX12_readNumber ∈ lw_tb := tb_at 1427 rfl rfl
set_option maxRecDepth 20000 in
theorem wi_X12_readNumber : Cond.instanceMethod yX12_readNumber ∈ lw_tb := tb_at 1429 rfl rfl
theorem wx_X12_readNumber : Cond.selects yX12_readNumber.cls yX12_readNumber yX12_readNumber ∈ lw_tb := tb_sel 44 (by decide +kernel) rfl
set_option maxRecDepth 20000 in
theorem wc_X12_readNumber : Cond.code yX12_readNumber cX12_readNumber 3 (some .boolean) ∈ lw_tb := tb_at 1430 rfl rfl
theorem lv_RX12_216 : fw_lv RX12 216 yX12_readNumber cX12_readNumber 3 (some .boolean) 2 := fw_lv_mk wl_RX12_216 wi_X12_readNumber wx_X12_readNumber wn_RX12 wc_X12_readNumber ⟨by decide +kernel, by decide +kernel, by decide +kernel⟩
set_option maxRecDepth 20000 in
theorem wl_RX12_238 : Cond.methodLink RX12 238 yX12_readReach ∈ lw_tb := tb_at 1403 rfl rfl
set_option maxRecDepth 20000 in
theorem wi_X12_readReach : Cond.instanceMethod yX12_readReach ∈ lw_tb := tb_at 1405 rfl rfl
theorem wx_X12_readReach : Cond.selects yX12_readReach.cls yX12_readReach yX12_readReach ∈ lw_tb := tb_sel 38 (by decide +kernel) rfl
set_option maxRecDepth 20000 in
theorem wc_X12_readReach : Cond.code yX12_readReach cX12_readReach 2 (some .boolean) ∈ lw_tb := tb_at 1406 rfl rfl
theorem lv_RX12_238 : fw_lv RX12 238 yX12_readReach cX12_readReach 2 (some .boolean) 0 := fw_lv_mk wl_RX12_238 wi_X12_readReach wx_X12_readReach wn_RX12 wc_X12_readReach ⟨by decide +kernel, by decide +kernel, by decide +kernel⟩
set_option maxRecDepth 20000 in
theorem wl_RX12_241 : Cond.methodLink RX12 241 yX12_readColour ∈ lw_tb := tb_at 1434 rfl rfl
set_option maxRecDepth 20000 in
theorem wi_X12_readColour : Cond.instanceMethod yX12_readColour ∈ lw_tb := tb_at 1436 rfl rfl
theorem wx_X12_readColour : Cond.selects yX12_readColour.cls yX12_readColour yX12_readColour ∈ lw_tb := tb_sel 45 (by decide +kernel) rfl
set_option maxRecDepth 20000 in
theorem wc_X12_readColour : Cond.code yX12_readColour cX12_readColour 2 (some .boolean) ∈ lw_tb := tb_at 1437 rfl rfl
theorem lv_RX12_241 : fw_lv RX12 241 yX12_readColour cX12_readColour 2 (some .boolean) 0 := fw_lv_mk wl_RX12_241 wi_X12_readColour wx_X12_readColour wn_RX12 wc_X12_readColour ⟨by decide +kernel, by decide +kernel, by decide +kernel⟩
set_option maxRecDepth 20000 in
theorem wl_RX12_223 : Cond.methodLink RX12 223 yX12_readReachTold ∈ lw_tb := tb_at 1442 rfl rfl
set_option maxRecDepth 20000 in
theorem wi_X12_readReachTold : Cond.instanceMethod yX12_readReachTold ∈ lw_tb := tb_at 1444 rfl rfl
theorem wx_X12_readReachTold : Cond.selects yX12_readReachTold.cls yX12_readReachTold yX12_readReachTold ∈ lw_tb := tb_sel 47 (by decide +kernel) rfl
set_option maxRecDepth 20000 in
theorem wc_X12_readReachTold : Cond.code yX12_readReachTold cX12_readReachTold 2 (some .boolean) ∈ lw_tb := tb_at 1445 rfl rfl
theorem lv_RX12_223 : fw_lv RX12 223 yX12_readReachTold cX12_readReachTold 2 (some .boolean) 0 := fw_lv_mk wl_RX12_223 wi_X12_readReachTold wx_X12_readReachTold wn_RX12 wc_X12_readReachTold ⟨by decide +kernel, by decide +kernel, by decide +kernel⟩
set_option maxRecDepth 20000 in
theorem ws_X12_has : Cond.static yX12_has ∈ lw_tb := tb_at 1451 rfl rfl
set_option maxRecDepth 20000 in
theorem wc_X12_has : Cond.code yX12_has cX12_has 2 (some .boolean) ∈ lw_tb := tb_at 1452 rfl rfl
set_option maxRecDepth 20000 in
theorem wl_RX12_220 : Cond.methodLink RX12 220 yX12_has ∈ lw_tb := tb_at 1450 rfl rfl
theorem ls_RX12_220 : fw_ls RX12 220 yX12_has cX12_has 2 (some .boolean) 2 := fw_ls_mk wl_RX12_220 ws_X12_has wn_RX12 wc_X12_has ⟨by decide +kernel, by decide +kernel, by decide +kernel⟩
set_option maxRecDepth 20000 in
theorem wl_RX12_226 : Cond.methodLink RX12 226 yX12_readColourTold ∈ lw_tb := tb_at 1446 rfl rfl
set_option maxRecDepth 20000 in
theorem wi_X12_readColourTold : Cond.instanceMethod yX12_readColourTold ∈ lw_tb := tb_at 1448 rfl rfl
theorem wx_X12_readColourTold : Cond.selects yX12_readColourTold.cls yX12_readColourTold yX12_readColourTold ∈ lw_tb := tb_sel 48 (by decide +kernel) rfl
set_option maxRecDepth 20000 in
theorem wc_X12_readColourTold : Cond.code yX12_readColourTold cX12_readColourTold 3 (some .boolean) ∈ lw_tb := tb_at 1449 rfl rfl
theorem lv_RX12_226 : fw_lv RX12 226 yX12_readColourTold cX12_readColourTold 3 (some .boolean) 1 := fw_lv_mk wl_RX12_226 wi_X12_readColourTold wx_X12_readColourTold wn_RX12 wc_X12_readColourTold ⟨by decide +kernel, by decide +kernel, by decide +kernel⟩
set_option maxRecDepth 20000 in
theorem wl_RX12_244 : Cond.methodLink RX12 244 yX12_readGuild ∈ lw_tb := tb_at 1438 rfl rfl
set_option maxRecDepth 20000 in
theorem wi_X12_readGuild : Cond.instanceMethod yX12_readGuild ∈ lw_tb := tb_at 1440 rfl rfl
theorem wx_X12_readGuild : Cond.selects yX12_readGuild.cls yX12_readGuild yX12_readGuild ∈ lw_tb := tb_sel 46 (by decide +kernel) rfl
set_option maxRecDepth 20000 in
theorem wc_X12_readGuild : Cond.code yX12_readGuild cX12_readGuild 5 (some .boolean) ∈ lw_tb := tb_at 1441 rfl rfl
theorem lv_RX12_244 : fw_lv RX12 244 yX12_readGuild cX12_readGuild 5 (some .boolean) 0 := fw_lv_mk wl_RX12_244 wi_X12_readGuild wx_X12_readGuild wn_RX12 wc_X12_readGuild ⟨by decide +kernel, by decide +kernel, by decide +kernel⟩
set_option maxRecDepth 20000 in
theorem wl_RX12_247 : Cond.methodLink RX12 247 yX12_readUser ∈ lw_tb := tb_at 1453 rfl rfl
set_option maxRecDepth 20000 in
theorem wi_X12_readUser : Cond.instanceMethod yX12_readUser ∈ lw_tb := tb_at 1455 rfl rfl
theorem wx_X12_readUser : Cond.selects yX12_readUser.cls yX12_readUser yX12_readUser ∈ lw_tb := tb_sel 49 (by decide +kernel) rfl
set_option maxRecDepth 20000 in
theorem wc_X12_readUser : Cond.code yX12_readUser cX12_readUser 5 (some .boolean) ∈ lw_tb := tb_at 1456 rfl rfl
theorem lv_RX12_247 : fw_lv RX12 247 yX12_readUser cX12_readUser 5 (some .boolean) 0 := fw_lv_mk wl_RX12_247 wi_X12_readUser wx_X12_readUser wn_RX12 wc_X12_readUser ⟨by decide +kernel, by decide +kernel, by decide +kernel⟩
set_option maxRecDepth 20000 in
theorem wl_RX12_250 : Cond.methodLink RX12 250 yX12_readFlow ∈ lw_tb := tb_at 1457 rfl rfl
set_option maxRecDepth 20000 in
theorem wi_X12_readFlow : Cond.instanceMethod yX12_readFlow ∈ lw_tb := tb_at 1459 rfl rfl
theorem wx_X12_readFlow : Cond.selects yX12_readFlow.cls yX12_readFlow yX12_readFlow ∈ lw_tb := tb_sel 50 (by decide +kernel) rfl
set_option maxRecDepth 20000 in
theorem wc_X12_readFlow : Cond.code yX12_readFlow cX12_readFlow 2 (some .boolean) ∈ lw_tb := tb_at 1460 rfl rfl
theorem lv_RX12_250 : fw_lv RX12 250 yX12_readFlow cX12_readFlow 2 (some .boolean) 0 := fw_lv_mk wl_RX12_250 wi_X12_readFlow wx_X12_readFlow wn_RX12 wc_X12_readFlow ⟨by decide +kernel, by decide +kernel, by decide +kernel⟩
set_option maxRecDepth 20000 in
theorem wl_RX12_253 : Cond.methodLink RX12 253 yX12_readFlood ∈ lw_tb := tb_at 1461 rfl rfl
set_option maxRecDepth 20000 in
theorem wi_X12_readFlood : Cond.instanceMethod yX12_readFlood ∈ lw_tb := tb_at 1463 rfl rfl
theorem wx_X12_readFlood : Cond.selects yX12_readFlood.cls yX12_readFlood yX12_readFlood ∈ lw_tb := tb_sel 51 (by decide +kernel) rfl
set_option maxRecDepth 20000 in
theorem wc_X12_readFlood : Cond.code yX12_readFlood cX12_readFlood 1 (some .boolean) ∈ lw_tb := tb_at 1464 rfl rfl
theorem lv_RX12_253 : fw_lv RX12 253 yX12_readFlood cX12_readFlood 1 (some .boolean) 0 := fw_lv_mk wl_RX12_253 wi_X12_readFlood wx_X12_readFlood wn_RX12 wc_X12_readFlood ⟨by decide +kernel, by decide +kernel, by decide +kernel⟩
set_option maxRecDepth 20000 in
theorem wl_RX12_256 : Cond.methodLink RX12 256 yX12_readPebble ∈ lw_tb := tb_at 1465 rfl rfl
set_option maxRecDepth 20000 in
theorem wi_X12_readPebble : Cond.instanceMethod yX12_readPebble ∈ lw_tb := tb_at 1467 rfl rfl
theorem wx_X12_readPebble : Cond.selects yX12_readPebble.cls yX12_readPebble yX12_readPebble ∈ lw_tb := tb_sel 52 (by decide +kernel) rfl
set_option maxRecDepth 20000 in
theorem wc_X12_readPebble : Cond.code yX12_readPebble cX12_readPebble 4 (some .boolean) ∈ lw_tb := tb_at 1468 rfl rfl
theorem lv_RX12_256 : fw_lv RX12 256 yX12_readPebble cX12_readPebble 4 (some .boolean) 0 := fw_lv_mk wl_RX12_256 wi_X12_readPebble wx_X12_readPebble wn_RX12 wc_X12_readPebble ⟨by decide +kernel, by decide +kernel, by decide +kernel⟩
set_option maxRecDepth 20000 in
theorem wl_RX12_172 : Cond.methodLink RX12 172 yX12_isSign ∈ lw_tb := tb_at 1473 rfl rfl
set_option maxRecDepth 20000 in
theorem wi_X12_isSign : Cond.instanceMethod yX12_isSign ∈ lw_tb := tb_at 1475 rfl rfl
theorem wx_X12_isSign : Cond.selects yX12_isSign.cls yX12_isSign yX12_isSign ∈ lw_tb := tb_sel 54 (by decide +kernel) rfl
set_option maxRecDepth 20000 in
theorem wc_X12_isSign : Cond.code yX12_isSign cX12_isSign 2 (some .boolean) ∈ lw_tb := tb_at 1476 rfl rfl
theorem lv_RX12_172 : fw_lv RX12 172 yX12_isSign cX12_isSign 2 (some .boolean) 1 := fw_lv_mk wl_RX12_172 wi_X12_isSign wx_X12_isSign wn_RX12 wc_X12_isSign ⟨by decide +kernel, by decide +kernel, by decide +kernel⟩
set_option maxRecDepth 20000 in
theorem wl_RX12_259 : Cond.methodLink RX12 259 yX12_readEnd ∈ lw_tb := tb_at 1469 rfl rfl
set_option maxRecDepth 20000 in
theorem wi_X12_readEnd : Cond.instanceMethod yX12_readEnd ∈ lw_tb := tb_at 1471 rfl rfl
theorem wx_X12_readEnd : Cond.selects yX12_readEnd.cls yX12_readEnd yX12_readEnd ∈ lw_tb := tb_sel 53 (by decide +kernel) rfl
set_option maxRecDepth 20000 in
theorem wc_X12_readEnd : Cond.code yX12_readEnd cX12_readEnd 1 (some .boolean) ∈ lw_tb := tb_at 1472 rfl rfl
theorem lv_RX12_259 : fw_lv RX12 259 yX12_readEnd cX12_readEnd 1 (some .boolean) 0 := fw_lv_mk wl_RX12_259 wi_X12_readEnd wx_X12_readEnd wn_RX12 wc_X12_readEnd ⟨by decide +kernel, by decide +kernel, by decide +kernel⟩
set_option maxRecDepth 20000 in
theorem wl_RX12_265 : Cond.methodLink RX12 265 yX12_readLine ∈ lw_tb := tb_at 1386 rfl rfl
set_option maxRecDepth 20000 in
theorem wi_X12_readLine : Cond.instanceMethod yX12_readLine ∈ lw_tb := tb_at 1388 rfl rfl
theorem wx_X12_readLine : Cond.selects yX12_readLine.cls yX12_readLine yX12_readLine ∈ lw_tb := tb_sel 36 (by decide +kernel) rfl
set_option maxRecDepth 20000 in
theorem wc_X12_readLine : Cond.code yX12_readLine cX12_readLine 3 (some .boolean) ∈ lw_tb := tb_at 1389 rfl rfl
theorem lv_RX12_265 : fw_lv RX12 265 yX12_readLine cX12_readLine 3 (some .boolean) 0 := fw_lv_mk wl_RX12_265 wi_X12_readLine wx_X12_readLine wn_RX12 wc_X12_readLine ⟨by decide +kernel, by decide +kernel, by decide +kernel⟩
set_option maxRecDepth 20000 in
theorem wf_RX12_25 : Cond.fieldLink RX12 25 (TX12 18).1 (TX12 18).2.1 (TX12 18).2.2.1 ∈ lw_tb := tb_at 1189 rfl rfl
theorem fl_RX12_25 : fw_fl RX12 25 10 18 := ⟨RX12, TX12, 54, rfl, in_X12, by decide, wf_RX12_25⟩
set_option maxRecDepth 20000 in
theorem wl_RX12_190 : Cond.methodLink RX12 190 yX12_reaches ∈ lw_tb := tb_at 1489 rfl rfl
set_option maxRecDepth 20000 in
theorem wi_X12_reaches : Cond.instanceMethod yX12_reaches ∈ lw_tb := tb_at 1491 rfl rfl
theorem wx_X12_reaches : Cond.selects yX12_reaches.cls yX12_reaches yX12_reaches ∈ lw_tb := tb_sel 56 (by decide +kernel) rfl
set_option maxRecDepth 20000 in
theorem wc_X12_reaches : Cond.code yX12_reaches cX12_reaches 1 (some .int) ∈ lw_tb := tb_at 1492 rfl rfl
theorem lv_RX12_190 : fw_lv RX12 190 yX12_reaches cX12_reaches 1 (some .int) 0 := fw_lv_mk wl_RX12_190 wi_X12_reaches wx_X12_reaches wn_RX12 wc_X12_reaches ⟨by decide +kernel, by decide +kernel, by decide +kernel⟩
set_option maxRecDepth 20000 in
theorem wl_RX12_268 : Cond.methodLink RX12 268 yX12_isReach ∈ lw_tb := tb_at 1485 rfl rfl
set_option maxRecDepth 20000 in
theorem wi_X12_isReach : Cond.instanceMethod yX12_isReach ∈ lw_tb := tb_at 1487 rfl rfl
theorem wx_X12_isReach : Cond.selects yX12_isReach.cls yX12_isReach yX12_isReach ∈ lw_tb := tb_sel 55 (by decide +kernel) rfl
set_option maxRecDepth 20000 in
theorem wc_X12_isReach : Cond.code yX12_isReach cX12_isReach 2 (some .boolean) ∈ lw_tb := tb_at 1488 rfl rfl
theorem lv_RX12_268 : fw_lv RX12 268 yX12_isReach cX12_isReach 2 (some .boolean) 1 := fw_lv_mk wl_RX12_268 wi_X12_isReach wx_X12_isReach wn_RX12 wc_X12_isReach ⟨by decide +kernel, by decide +kernel, by decide +kernel⟩
set_option maxRecDepth 20000 in
theorem wl_RX12_271 : Cond.methodLink RX12 271 yX12_refuse ∈ lw_tb := tb_at 1493 rfl rfl
set_option maxRecDepth 20000 in
theorem wi_X12_refuse : Cond.instanceMethod yX12_refuse ∈ lw_tb := tb_at 1495 rfl rfl
theorem wx_X12_refuse : Cond.selects yX12_refuse.cls yX12_refuse yX12_refuse ∈ lw_tb := tb_sel 57 (by decide +kernel) rfl
set_option maxRecDepth 20000 in
theorem wc_X12_refuse : Cond.code yX12_refuse cX12_refuse 1 (some .int) ∈ lw_tb := tb_at 1496 rfl rfl
theorem lv_RX12_271 : fw_lv RX12 271 yX12_refuse cX12_refuse 1 (some .int) 0 := fw_lv_mk wl_RX12_271 wi_X12_refuse wx_X12_refuse wn_RX12 wc_X12_refuse ⟨by decide +kernel, by decide +kernel, by decide +kernel⟩
set_option maxRecDepth 20000 in
theorem wl_RX12_196 : Cond.methodLink RX12 196 yX12_guilds ∈ lw_tb := tb_at 1505 rfl rfl
set_option maxRecDepth 20000 in
theorem wi_X12_guilds : Cond.instanceMethod yX12_guilds ∈ lw_tb := tb_at 1507 rfl rfl
theorem wx_X12_guilds : Cond.selects yX12_guilds.cls yX12_guilds yX12_guilds ∈ lw_tb := tb_sel 59 (by decide +kernel) rfl
set_option maxRecDepth 20000 in
theorem wc_X12_guilds : Cond.code yX12_guilds cX12_guilds 1 (some .int) ∈ lw_tb := tb_at 1508 rfl rfl
theorem lv_RX12_196 : fw_lv RX12 196 yX12_guilds cX12_guilds 1 (some .int) 0 := fw_lv_mk wl_RX12_196 wi_X12_guilds wx_X12_guilds wn_RX12 wc_X12_guilds ⟨by decide +kernel, by decide +kernel, by decide +kernel⟩
set_option maxRecDepth 20000 in
theorem wl_RX12_274 : Cond.methodLink RX12 274 yX12_isGuild ∈ lw_tb := tb_at 1501 rfl rfl
set_option maxRecDepth 20000 in
theorem wi_X12_isGuild : Cond.instanceMethod yX12_isGuild ∈ lw_tb := tb_at 1503 rfl rfl
theorem wx_X12_isGuild : Cond.selects yX12_isGuild.cls yX12_isGuild yX12_isGuild ∈ lw_tb := tb_sel 58 (by decide +kernel) rfl
set_option maxRecDepth 20000 in
theorem wc_X12_isGuild : Cond.code yX12_isGuild cX12_isGuild 2 (some .boolean) ∈ lw_tb := tb_at 1504 rfl rfl
theorem lv_RX12_274 : fw_lv RX12 274 yX12_isGuild cX12_isGuild 2 (some .boolean) 1 := fw_lv_mk wl_RX12_274 wi_X12_isGuild wx_X12_isGuild wn_RX12 wc_X12_isGuild ⟨by decide +kernel, by decide +kernel, by decide +kernel⟩
set_option maxRecDepth 20000 in
theorem wl_RX12_193 : Cond.methodLink RX12 193 yX12_colours ∈ lw_tb := tb_at 1509 rfl rfl
set_option maxRecDepth 20000 in
theorem wi_X12_colours : Cond.instanceMethod yX12_colours ∈ lw_tb := tb_at 1511 rfl rfl
theorem wx_X12_colours : Cond.selects yX12_colours.cls yX12_colours yX12_colours ∈ lw_tb := tb_sel 60 (by decide +kernel) rfl
set_option maxRecDepth 20000 in
theorem wc_X12_colours : Cond.code yX12_colours cX12_colours 1 (some .int) ∈ lw_tb := tb_at 1512 rfl rfl
theorem lv_RX12_193 : fw_lv RX12 193 yX12_colours cX12_colours 1 (some .int) 0 := fw_lv_mk wl_RX12_193 wi_X12_colours wx_X12_colours wn_RX12 wc_X12_colours ⟨by decide +kernel, by decide +kernel, by decide +kernel⟩
set_option maxRecDepth 20000 in
theorem wl_RX12_199 : Cond.methodLink RX12 199 yX12_users ∈ lw_tb := tb_at 1521 rfl rfl
set_option maxRecDepth 20000 in
theorem wi_X12_users : Cond.instanceMethod yX12_users ∈ lw_tb := tb_at 1523 rfl rfl
theorem wx_X12_users : Cond.selects yX12_users.cls yX12_users yX12_users ∈ lw_tb := tb_sel 62 (by decide +kernel) rfl
set_option maxRecDepth 20000 in
theorem wc_X12_users : Cond.code yX12_users cX12_users 1 (some .int) ∈ lw_tb := tb_at 1524 rfl rfl
theorem lv_RX12_199 : fw_lv RX12 199 yX12_users cX12_users 1 (some .int) 0 := fw_lv_mk wl_RX12_199 wi_X12_users wx_X12_users wn_RX12 wc_X12_users ⟨by decide +kernel, by decide +kernel, by decide +kernel⟩
set_option maxRecDepth 20000 in
theorem wl_RX12_277 : Cond.methodLink RX12 277 yX12_isUser ∈ lw_tb := tb_at 1517 rfl rfl
set_option maxRecDepth 20000 in
theorem wi_X12_isUser : Cond.instanceMethod yX12_isUser ∈ lw_tb := tb_at 1519 rfl rfl
theorem wx_X12_isUser : Cond.selects yX12_isUser.cls yX12_isUser yX12_isUser ∈ lw_tb := tb_sel 61 (by decide +kernel) rfl
set_option maxRecDepth 20000 in
theorem wc_X12_isUser : Cond.code yX12_isUser cX12_isUser 2 (some .boolean) ∈ lw_tb := tb_at 1520 rfl rfl
theorem lv_RX12_277 : fw_lv RX12 277 yX12_isUser cX12_isUser 2 (some .boolean) 1 := fw_lv_mk wl_RX12_277 wi_X12_isUser wx_X12_isUser wn_RX12 wc_X12_isUser ⟨by decide +kernel, by decide +kernel, by decide +kernel⟩
set_option maxRecDepth 20000 in
theorem wf_RX12_280 : Cond.fieldLink RX12 280 (TX12 25).1 (TX12 25).2.1 (TX12 25).2.2.1 ∈ lw_tb := tb_at 1196 rfl rfl
theorem fl_RX12_280 : fw_fl RX12 280 10 25 := ⟨RX12, TX12, 54, rfl, in_X12, by decide, wf_RX12_280⟩
theorem fp_RX12_280 : fw_fp RX12 280 10 25 .int := ⟨RX12, TX12, 54, tyX12, rfl, in_X12, by decide, wf_RX12_280, tyX12_ok, nmX12, rfl, rfl⟩
set_option maxRecDepth 20000 in
theorem wf_RX12_22 : Cond.fieldLink RX12 22 (TX12 17).1 (TX12 17).2.1 (TX12 17).2.2.1 ∈ lw_tb := tb_at 1188 rfl rfl
theorem fl_RX12_22 : fw_fl RX12 22 10 17 := ⟨RX12, TX12, 54, rfl, in_X12, by decide, wf_RX12_22⟩
set_option maxRecDepth 20000 in
theorem wl_RX12_283 : Cond.methodLink RX12 283 yX12_readBell ∈ lw_tb := tb_at 1533 rfl rfl
set_option maxRecDepth 20000 in
theorem wi_X12_readBell : Cond.instanceMethod yX12_readBell ∈ lw_tb := tb_at 1535 rfl rfl
theorem wx_X12_readBell : Cond.selects yX12_readBell.cls yX12_readBell yX12_readBell ∈ lw_tb := tb_sel 63 (by decide +kernel) rfl
set_option maxRecDepth 20000 in
theorem wc_X12_readBell : Cond.code yX12_readBell cX12_readBell 3 (some .boolean) ∈ lw_tb := tb_at 1536 rfl rfl
theorem lv_RX12_283 : fw_lv RX12 283 yX12_readBell cX12_readBell 3 (some .boolean) 0 := fw_lv_mk wl_RX12_283 wi_X12_readBell wx_X12_readBell wn_RX12 wc_X12_readBell ⟨by decide +kernel, by decide +kernel, by decide +kernel⟩
set_option maxRecDepth 20000 in
theorem wl_RX12_286 : Cond.methodLink RX12 286 yX12_bells ∈ lw_tb := tb_at 1541 rfl rfl
set_option maxRecDepth 20000 in
theorem wi_X12_bells : Cond.instanceMethod yX12_bells ∈ lw_tb := tb_at 1543 rfl rfl
theorem wx_X12_bells : Cond.selects yX12_bells.cls yX12_bells yX12_bells ∈ lw_tb := tb_sel 64 (by decide +kernel) rfl
set_option maxRecDepth 20000 in
theorem wc_X12_bells : Cond.code yX12_bells cX12_bells 1 (some .int) ∈ lw_tb := tb_at 1544 rfl rfl
theorem lv_RX12_286 : fw_lv RX12 286 yX12_bells cX12_bells 1 (some .int) 0 := fw_lv_mk wl_RX12_286 wi_X12_bells wx_X12_bells wn_RX12 wc_X12_bells ⟨by decide +kernel, by decide +kernel, by decide +kernel⟩
set_option maxRecDepth 20000 in
theorem wl_RX12_289 : Cond.methodLink RX12 289 yX12_addBell ∈ lw_tb := tb_at 1545 rfl rfl
set_option maxRecDepth 20000 in
theorem wi_X12_addBell : Cond.instanceMethod yX12_addBell ∈ lw_tb := tb_at 1547 rfl rfl
theorem wx_X12_addBell : Cond.selects yX12_addBell.cls yX12_addBell yX12_addBell ∈ lw_tb := tb_sel 65 (by decide +kernel) rfl
set_option maxRecDepth 20000 in
theorem wc_X12_addBell : Cond.code yX12_addBell cX12_addBell 5 none ∈ lw_tb := tb_at 1548 rfl rfl
theorem lv_RX12_289 : fw_lv RX12 289 yX12_addBell cX12_addBell 5 none 3 := fw_lv_mk wl_RX12_289 wi_X12_addBell wx_X12_addBell wn_RX12 wc_X12_addBell ⟨by decide +kernel, by decide +kernel, by decide +kernel⟩
set_option maxRecDepth 20000 in
theorem ws_X12_isHour : Cond.static yX12_isHour ∈ lw_tb := tb_at 1562 rfl rfl
set_option maxRecDepth 20000 in
theorem wc_X12_isHour : Cond.code yX12_isHour cX12_isHour 1 (some .boolean) ∈ lw_tb := tb_at 1563 rfl rfl
set_option maxRecDepth 20000 in
theorem wl_RX12_328 : Cond.methodLink RX12 328 yX12_isHour ∈ lw_tb := tb_at 1561 rfl rfl
theorem ls_RX12_328 : fw_ls RX12 328 yX12_isHour cX12_isHour 1 (some .boolean) 1 := fw_ls_mk wl_RX12_328 ws_X12_isHour wn_RX12 wc_X12_isHour ⟨by decide +kernel, by decide +kernel, by decide +kernel⟩
set_option maxRecDepth 20000 in
theorem wl_RX12_331 : Cond.methodLink RX12 331 yX12_isColour ∈ lw_tb := tb_at 1564 rfl rfl
set_option maxRecDepth 20000 in
theorem wi_X12_isColour : Cond.instanceMethod yX12_isColour ∈ lw_tb := tb_at 1566 rfl rfl
theorem wx_X12_isColour : Cond.selects yX12_isColour.cls yX12_isColour yX12_isColour ∈ lw_tb := tb_sel 66 (by decide +kernel) rfl
set_option maxRecDepth 20000 in
theorem wc_X12_isColour : Cond.code yX12_isColour cX12_isColour 2 (some .boolean) ∈ lw_tb := tb_at 1567 rfl rfl
theorem lv_RX12_331 : fw_lv RX12 331 yX12_isColour cX12_isColour 2 (some .boolean) 1 := fw_lv_mk wl_RX12_331 wi_X12_isColour wx_X12_isColour wn_RX12 wc_X12_isColour ⟨by decide +kernel, by decide +kernel, by decide +kernel⟩
set_option maxRecDepth 20000 in
theorem wf_RX12_39 : Cond.fieldLink RX12 39 (TX12 26).1 (TX12 26).2.1 (TX12 26).2.2.1 ∈ lw_tb := tb_at 1197 rfl rfl
theorem fl_RX12_39 : fw_fl RX12 39 10 26 := ⟨RX12, TX12, 54, rfl, in_X12, by decide, wf_RX12_39⟩
set_option maxRecDepth 20000 in
theorem wl_RX12_304 : Cond.methodLink RX12 304 yX12_layWorks ∈ lw_tb := tb_at 1572 rfl rfl
set_option maxRecDepth 20000 in
theorem wi_X12_layWorks : Cond.instanceMethod yX12_layWorks ∈ lw_tb := tb_at 1574 rfl rfl
theorem wx_X12_layWorks : Cond.selects yX12_layWorks.cls yX12_layWorks yX12_layWorks ∈ lw_tb := tb_sel 68 (by decide +kernel) rfl
set_option maxRecDepth 20000 in
theorem wc_X12_layWorks : Cond.code yX12_layWorks cX12_layWorks 5 none ∈ lw_tb := tb_at 1575 rfl rfl
theorem lv_RX12_304 : fw_lv RX12 304 yX12_layWorks cX12_layWorks 5 none 1 := fw_lv_mk wl_RX12_304 wi_X12_layWorks wx_X12_layWorks wn_RX12 wc_X12_layWorks ⟨by decide +kernel, by decide +kernel, by decide +kernel⟩
set_option maxRecDepth 20000 in
theorem wf_RX12_54 : Cond.fieldLink RX12 54 (TX12 31).1 (TX12 31).2.1 (TX12 31).2.2.1 ∈ lw_tb := tb_at 1202 rfl rfl
theorem fl_RX12_54 : fw_fl RX12 54 10 31 := ⟨RX12, TX12, 54, rfl, in_X12, by decide, wf_RX12_54⟩
set_option maxRecDepth 20000 in
theorem wl_RX12_307 : Cond.methodLink RX12 307 yX12_layFlows ∈ lw_tb := tb_at 1576 rfl rfl
set_option maxRecDepth 20000 in
theorem wi_X12_layFlows : Cond.instanceMethod yX12_layFlows ∈ lw_tb := tb_at 1578 rfl rfl
theorem wx_X12_layFlows : Cond.selects yX12_layFlows.cls yX12_layFlows yX12_layFlows ∈ lw_tb := tb_sel 69 (by decide +kernel) rfl
set_option maxRecDepth 20000 in
theorem wc_X12_layFlows : Cond.code yX12_layFlows cX12_layFlows 2 none ∈ lw_tb := tb_at 1579 rfl rfl
theorem lv_RX12_307 : fw_lv RX12 307 yX12_layFlows cX12_layFlows 2 none 0 := fw_lv_mk wl_RX12_307 wi_X12_layFlows wx_X12_layFlows wn_RX12 wc_X12_layFlows ⟨by decide +kernel, by decide +kernel, by decide +kernel⟩
set_option maxRecDepth 20000 in
theorem wf_RX12_42 : Cond.fieldLink RX12 42 (TX12 27).1 (TX12 27).2.1 (TX12 27).2.2.1 ∈ lw_tb := tb_at 1198 rfl rfl
theorem fl_RX12_42 : fw_fl RX12 42 10 27 := ⟨RX12, TX12, 54, rfl, in_X12, by decide, wf_RX12_42⟩
set_option maxRecDepth 20000 in
theorem wf_RX12_45 : Cond.fieldLink RX12 45 (TX12 28).1 (TX12 28).2.1 (TX12 28).2.2.1 ∈ lw_tb := tb_at 1199 rfl rfl
theorem fl_RX12_45 : fw_fl RX12 45 10 28 := ⟨RX12, TX12, 54, rfl, in_X12, by decide, wf_RX12_45⟩
set_option maxRecDepth 20000 in
theorem wf_RX12_51 : Cond.fieldLink RX12 51 (TX12 30).1 (TX12 30).2.1 (TX12 30).2.2.1 ∈ lw_tb := tb_at 1201 rfl rfl
theorem fl_RX12_51 : fw_fl RX12 51 10 30 := ⟨RX12, TX12, 54, rfl, in_X12, by decide, wf_RX12_51⟩
set_option maxRecDepth 20000 in
theorem wf_RX12_63 : Cond.fieldLink RX12 63 (TX12 34).1 (TX12 34).2.1 (TX12 34).2.2.1 ∈ lw_tb := tb_at 1205 rfl rfl
theorem fl_RX12_63 : fw_fl RX12 63 10 34 := ⟨RX12, TX12, 54, rfl, in_X12, by decide, wf_RX12_63⟩
set_option maxRecDepth 20000 in
theorem wf_RX12_293 : Cond.fieldLink RX12 293 (TX12 35).1 (TX12 35).2.1 (TX12 35).2.2.1 ∈ lw_tb := tb_at 1206 rfl rfl
theorem fl_RX12_293 : fw_fl RX12 293 10 35 := ⟨RX12, TX12, 54, rfl, in_X12, by decide, wf_RX12_293⟩
set_option maxRecDepth 20000 in
theorem wf_RX12_296 : Cond.fieldLink RX12 296 (TX12 36).1 (TX12 36).2.1 (TX12 36).2.2.1 ∈ lw_tb := tb_at 1207 rfl rfl
theorem fl_RX12_296 : fw_fl RX12 296 10 36 := ⟨RX12, TX12, 54, rfl, in_X12, by decide, wf_RX12_296⟩
set_option maxRecDepth 20000 in
theorem wf_RX12_48 : Cond.fieldLink RX12 48 (TX12 29).1 (TX12 29).2.1 (TX12 29).2.2.1 ∈ lw_tb := tb_at 1200 rfl rfl
theorem fl_RX12_48 : fw_fl RX12 48 10 29 := ⟨RX12, TX12, 54, rfl, in_X12, by decide, wf_RX12_48⟩
set_option maxRecDepth 20000 in
theorem wk_RX12_299 : Cond.constantLong RX12 299 (Int64.ofInt 1000) ∈ lw_tb := tb_at 1588 rfl rfl
set_option maxRecDepth 20000 in
theorem wf_RX12_57 : Cond.fieldLink RX12 57 (TX12 32).1 (TX12 32).2.1 (TX12 32).2.2.1 ∈ lw_tb := tb_at 1203 rfl rfl
theorem fl_RX12_57 : fw_fl RX12 57 10 32 := ⟨RX12, TX12, 54, rfl, in_X12, by decide, wf_RX12_57⟩
set_option maxRecDepth 20000 in
theorem wf_RX12_60 : Cond.fieldLink RX12 60 (TX12 33).1 (TX12 33).2.1 (TX12 33).2.2.1 ∈ lw_tb := tb_at 1204 rfl rfl
theorem fl_RX12_60 : fw_fl RX12 60 10 33 := ⟨RX12, TX12, 54, rfl, in_X12, by decide, wf_RX12_60⟩
set_option maxRecDepth 20000 in
theorem wl_RX12_301 : Cond.methodLink RX12 301 yX12_hour ∈ lw_tb := tb_at 1584 rfl rfl
set_option maxRecDepth 20000 in
theorem wi_X12_hour : Cond.instanceMethod yX12_hour ∈ lw_tb := tb_at 1586 rfl rfl
theorem wx_X12_hour : Cond.selects yX12_hour.cls yX12_hour yX12_hour ∈ lw_tb := tb_sel 71 (by decide +kernel) rfl
set_option maxRecDepth 20000 in
theorem wc_X12_hour : Cond.code yX12_hour cX12_hour 8 none ∈ lw_tb := tb_at 1587 rfl rfl
theorem lv_RX12_301 : fw_lv RX12 301 yX12_hour cX12_hour 8 none 3 := fw_lv_mk wl_RX12_301 wi_X12_hour wx_X12_hour wn_RX12 wc_X12_hour ⟨by decide +kernel, by decide +kernel, by decide +kernel⟩
set_option maxRecDepth 20000 in
theorem wl_RX12_310 : Cond.methodLink RX12 310 yX12_goWeek ∈ lw_tb := tb_at 1580 rfl rfl
set_option maxRecDepth 20000 in
theorem wi_X12_goWeek : Cond.instanceMethod yX12_goWeek ∈ lw_tb := tb_at 1582 rfl rfl
theorem wx_X12_goWeek : Cond.selects yX12_goWeek.cls yX12_goWeek yX12_goWeek ∈ lw_tb := tb_sel 70 (by decide +kernel) rfl
set_option maxRecDepth 20000 in
theorem wc_X12_goWeek : Cond.code yX12_goWeek cX12_goWeek 3 none ∈ lw_tb := tb_at 1583 rfl rfl
theorem lv_RX12_310 : fw_lv RX12 310 yX12_goWeek cX12_goWeek 3 none 0 := fw_lv_mk wl_RX12_310 wi_X12_goWeek wx_X12_goWeek wn_RX12 wc_X12_goWeek ⟨by decide +kernel, by decide +kernel, by decide +kernel⟩
set_option maxRecDepth 20000 in
theorem wl_RX12_322 : Cond.methodLink RX12 322 yX12_week ∈ lw_tb := tb_at 1568 rfl rfl
set_option maxRecDepth 20000 in
theorem wi_X12_week : Cond.instanceMethod yX12_week ∈ lw_tb := tb_at 1570 rfl rfl
theorem wx_X12_week : Cond.selects yX12_week.cls yX12_week yX12_week ∈ lw_tb := tb_sel 67 (by decide +kernel) rfl
set_option maxRecDepth 20000 in
theorem wc_X12_week : Cond.code yX12_week cX12_week 1 none ∈ lw_tb := tb_at 1571 rfl rfl
theorem lv_RX12_322 : fw_lv RX12 322 yX12_week cX12_week 1 none 0 := fw_lv_mk wl_RX12_322 wi_X12_week wx_X12_week wn_RX12 wc_X12_week ⟨by decide +kernel, by decide +kernel, by decide +kernel⟩
set_option maxRecDepth 20000 in
theorem wk_RX12_313 : Cond.constantLong RX12 313 (Int64.ofInt 100) ∈ lw_tb := tb_at 1593 rfl rfl
set_option maxRecDepth 20000 in
theorem wl_RX12_315 : Cond.methodLink RX12 315 yX12_shadeAt ∈ lw_tb := tb_at 1589 rfl rfl
set_option maxRecDepth 20000 in
theorem wi_X12_shadeAt : Cond.instanceMethod yX12_shadeAt ∈ lw_tb := tb_at 1591 rfl rfl
theorem wx_X12_shadeAt : Cond.selects yX12_shadeAt.cls yX12_shadeAt yX12_shadeAt ∈ lw_tb := tb_sel 72 (by decide +kernel) rfl
set_option maxRecDepth 20000 in
theorem wc_X12_shadeAt : Cond.code yX12_shadeAt cX12_shadeAt 4 (some .int) ∈ lw_tb := tb_at 1592 rfl rfl
theorem lv_RX12_315 : fw_lv RX12 315 yX12_shadeAt cX12_shadeAt 4 (some .int) 3 := fw_lv_mk wl_RX12_315 wi_X12_shadeAt wx_X12_shadeAt wn_RX12 wc_X12_shadeAt ⟨by decide +kernel, by decide +kernel, by decide +kernel⟩
set_option maxRecDepth 20000 in
theorem wl_RX12_319 : Cond.methodLink RX12 319 yX12_isHarmed ∈ lw_tb := tb_at 1610 rfl rfl
set_option maxRecDepth 20000 in
theorem wi_X12_isHarmed : Cond.instanceMethod yX12_isHarmed ∈ lw_tb := tb_at 1612 rfl rfl
theorem wx_X12_isHarmed : Cond.selects yX12_isHarmed.cls yX12_isHarmed yX12_isHarmed ∈ lw_tb := tb_sel 73 (by decide +kernel) rfl
set_option maxRecDepth 20000 in
theorem wc_X12_isHarmed : Cond.code yX12_isHarmed cX12_isHarmed 5 (some .boolean) ∈ lw_tb := tb_at 1613 rfl rfl
theorem lv_RX12_319 : fw_lv RX12 319 yX12_isHarmed cX12_isHarmed 5 (some .boolean) 2 := fw_lv_mk wl_RX12_319 wi_X12_isHarmed wx_X12_isHarmed wn_RX12 wc_X12_isHarmed ⟨by decide +kernel, by decide +kernel, by decide +kernel⟩
set_option maxRecDepth 20000 in
theorem wl_RX12_325 : Cond.methodLink RX12 325 yX12_harmAtHand ∈ lw_tb := tb_at 1622 rfl rfl
set_option maxRecDepth 20000 in
theorem wi_X12_harmAtHand : Cond.instanceMethod yX12_harmAtHand ∈ lw_tb := tb_at 1624 rfl rfl
theorem wx_X12_harmAtHand : Cond.selects yX12_harmAtHand.cls yX12_harmAtHand yX12_harmAtHand ∈ lw_tb := tb_sel 75 (by decide +kernel) rfl
set_option maxRecDepth 20000 in
theorem wc_X12_harmAtHand : Cond.code yX12_harmAtHand cX12_harmAtHand 4 (some .int) ∈ lw_tb := tb_at 1625 rfl rfl
theorem lv_RX12_325 : fw_lv RX12 325 yX12_harmAtHand cX12_harmAtHand 4 (some .int) 0 := fw_lv_mk wl_RX12_325 wi_X12_harmAtHand wx_X12_harmAtHand wn_RX12 wc_X12_harmAtHand ⟨by decide +kernel, by decide +kernel, by decide +kernel⟩
set_option maxRecDepth 20000 in
theorem wl_RX12_334 : Cond.methodLink RX12 334 yX12_harmNow ∈ lw_tb := tb_at 1618 rfl rfl
set_option maxRecDepth 20000 in
theorem wi_X12_harmNow : Cond.instanceMethod yX12_harmNow ∈ lw_tb := tb_at 1620 rfl rfl
theorem wx_X12_harmNow : Cond.selects yX12_harmNow.cls yX12_harmNow yX12_harmNow ∈ lw_tb := tb_sel 74 (by decide +kernel) rfl
set_option maxRecDepth 20000 in
theorem wc_X12_harmNow : Cond.code yX12_harmNow cX12_harmNow 1 (some .int) ∈ lw_tb := tb_at 1621 rfl rfl
theorem lv_RX12_334 : fw_lv RX12 334 yX12_harmNow cX12_harmNow 1 (some .int) 0 := fw_lv_mk wl_RX12_334 wi_X12_harmNow wx_X12_harmNow wn_RX12 wc_X12_harmNow ⟨by decide +kernel, by decide +kernel, by decide +kernel⟩
set_option maxRecDepth 20000 in
theorem wf_RX12_67 : Cond.fieldLink RX12 67 (TX12 37).1 (TX12 37).2.1 (TX12 37).2.2.1 ∈ lw_tb := tb_at 1208 rfl rfl
theorem fl_RX12_67 : fw_fl RX12 67 10 37 := ⟨RX12, TX12, 54, rfl, in_X12, by decide, wf_RX12_67⟩
theorem fp_RX12_63 : fw_fp RX12 63 10 34 .int := ⟨RX12, TX12, 54, tyX12, rfl, in_X12, by decide, wf_RX12_63, tyX12_ok, nmX12, rfl, rfl⟩
theorem fp_RX12_293 : fw_fp RX12 293 10 35 .int := ⟨RX12, TX12, 54, tyX12, rfl, in_X12, by decide, wf_RX12_293, tyX12_ok, nmX12, rfl, rfl⟩
theorem fp_RX12_296 : fw_fp RX12 296 10 36 .int := ⟨RX12, TX12, 54, tyX12, rfl, in_X12, by decide, wf_RX12_296, tyX12_ok, nmX12, rfl, rfl⟩
set_option maxRecDepth 20000 in
theorem wf_RX12_70 : Cond.fieldLink RX12 70 (TX12 38).1 (TX12 38).2.1 (TX12 38).2.2.1 ∈ lw_tb := tb_at 1209 rfl rfl
theorem fl_RX12_70 : fw_fl RX12 70 10 38 := ⟨RX12, TX12, 54, rfl, in_X12, by decide, wf_RX12_70⟩
set_option maxRecDepth 20000 in
theorem wf_RX12_337 : Cond.fieldLink RX12 337 (TX12 42).1 (TX12 42).2.1 (TX12 42).2.2.1 ∈ lw_tb := tb_at 1213 rfl rfl
theorem fl_RX12_337 : fw_fl RX12 337 10 42 := ⟨RX12, TX12, 54, rfl, in_X12, by decide, wf_RX12_337⟩
theorem fp_RX12_337 : fw_fp RX12 337 10 42 .int := ⟨RX12, TX12, 54, tyX12, rfl, in_X12, by decide, wf_RX12_337, tyX12_ok, nmX12, rfl, rfl⟩
set_option maxRecDepth 20000 in
theorem wf_RX12_340 : Cond.fieldLink RX12 340 (TX12 43).1 (TX12 43).2.1 (TX12 43).2.2.1 ∈ lw_tb := tb_at 1214 rfl rfl
theorem fl_RX12_340 : fw_fl RX12 340 10 43 := ⟨RX12, TX12, 54, rfl, in_X12, by decide, wf_RX12_340⟩
theorem fp_RX12_340 : fw_fp RX12 340 10 43 .int := ⟨RX12, TX12, 54, tyX12, rfl, in_X12, by decide, wf_RX12_340, tyX12_ok, nmX12, rfl, rfl⟩
set_option maxRecDepth 20000 in
theorem wf_RX12_76 : Cond.fieldLink RX12 76 (TX12 40).1 (TX12 40).2.1 (TX12 40).2.2.1 ∈ lw_tb := tb_at 1211 rfl rfl
theorem fl_RX12_76 : fw_fl RX12 76 10 40 := ⟨RX12, TX12, 54, rfl, in_X12, by decide, wf_RX12_76⟩
set_option maxRecDepth 20000 in
theorem wf_RX12_73 : Cond.fieldLink RX12 73 (TX12 39).1 (TX12 39).2.1 (TX12 39).2.2.1 ∈ lw_tb := tb_at 1210 rfl rfl
theorem fl_RX12_73 : fw_fl RX12 73 10 39 := ⟨RX12, TX12, 54, rfl, in_X12, by decide, wf_RX12_73⟩
set_option maxRecDepth 20000 in
theorem wl_RX12_343 : Cond.methodLink RX12 343 yX12_tryDays ∈ lw_tb := tb_at 1642 rfl rfl
set_option maxRecDepth 20000 in
theorem wi_X12_tryDays : Cond.instanceMethod yX12_tryDays ∈ lw_tb := tb_at 1644 rfl rfl
theorem wx_X12_tryDays : Cond.selects yX12_tryDays.cls yX12_tryDays yX12_tryDays ∈ lw_tb := tb_sel 76 (by decide +kernel) rfl
set_option maxRecDepth 20000 in
theorem wc_X12_tryDays : Cond.code yX12_tryDays cX12_tryDays 5 none ∈ lw_tb := tb_at 1645 rfl rfl
theorem lv_RX12_343 : fw_lv RX12 343 yX12_tryDays cX12_tryDays 5 none 2 := fw_lv_mk wl_RX12_343 wi_X12_tryDays wx_X12_tryDays wn_RX12 wc_X12_tryDays ⟨by decide +kernel, by decide +kernel, by decide +kernel⟩
set_option maxRecDepth 20000 in
theorem wf_RX12_347 : Cond.fieldLink RX12 347 (TX12 44).1 (TX12 44).2.1 (TX12 44).2.2.1 ∈ lw_tb := tb_at 1215 rfl rfl
theorem fl_RX12_347 : fw_fl RX12 347 10 44 := ⟨RX12, TX12, 54, rfl, in_X12, by decide, wf_RX12_347⟩
theorem fp_RX12_347 : fw_fp RX12 347 10 44 .int := ⟨RX12, TX12, 54, tyX12, rfl, in_X12, by decide, wf_RX12_347, tyX12_ok, nmX12, rfl, rfl⟩
set_option maxRecDepth 20000 in
theorem wf_RX12_79 : Cond.fieldLink RX12 79 (TX12 41).1 (TX12 41).2.1 (TX12 41).2.2.1 ∈ lw_tb := tb_at 1212 rfl rfl
theorem fl_RX12_79 : fw_fl RX12 79 10 41 := ⟨RX12, TX12, 54, rfl, in_X12, by decide, wf_RX12_79⟩
set_option maxRecDepth 20000 in
theorem wf_RX12_353 : Cond.fieldLink RX12 353 (TX12 45).1 (TX12 45).2.1 (TX12 45).2.2.1 ∈ lw_tb := tb_at 1216 rfl rfl
theorem fl_RX12_353 : fw_fl RX12 353 10 45 := ⟨RX12, TX12, 54, rfl, in_X12, by decide, wf_RX12_353⟩
theorem fp_RX12_353 : fw_fp RX12 353 10 45 .int := ⟨RX12, TX12, 54, tyX12, rfl, in_X12, by decide, wf_RX12_353, tyX12_ok, nmX12, rfl, rfl⟩
set_option maxRecDepth 20000 in
theorem wl_RX12_350 : Cond.methodLink RX12 350 yX12_swap ∈ lw_tb := tb_at 1658 rfl rfl
set_option maxRecDepth 20000 in
theorem wi_X12_swap : Cond.instanceMethod yX12_swap ∈ lw_tb := tb_at 1660 rfl rfl
theorem wx_X12_swap : Cond.selects yX12_swap.cls yX12_swap yX12_swap ∈ lw_tb := tb_sel 78 (by decide +kernel) rfl
set_option maxRecDepth 20000 in
theorem wc_X12_swap : Cond.code yX12_swap cX12_swap 4 none ∈ lw_tb := tb_at 1661 rfl rfl
theorem lv_RX12_350 : fw_lv RX12 350 yX12_swap cX12_swap 4 none 2 := fw_lv_mk wl_RX12_350 wi_X12_swap wx_X12_swap wn_RX12 wc_X12_swap ⟨by decide +kernel, by decide +kernel, by decide +kernel⟩
set_option maxRecDepth 20000 in
theorem wl_RX12_356 : Cond.methodLink RX12 356 yX12_exchangeOnce ∈ lw_tb := tb_at 1654 rfl rfl
set_option maxRecDepth 20000 in
theorem wi_X12_exchangeOnce : Cond.instanceMethod yX12_exchangeOnce ∈ lw_tb := tb_at 1656 rfl rfl
theorem wx_X12_exchangeOnce : Cond.selects yX12_exchangeOnce.cls yX12_exchangeOnce yX12_exchangeOnce ∈ lw_tb := tb_sel 77 (by decide +kernel) rfl
set_option maxRecDepth 20000 in
theorem wc_X12_exchangeOnce : Cond.code yX12_exchangeOnce cX12_exchangeOnce 5 (some .int) ∈ lw_tb := tb_at 1657 rfl rfl
theorem lv_RX12_356 : fw_lv RX12 356 yX12_exchangeOnce cX12_exchangeOnce 5 (some .int) 1 := fw_lv_mk wl_RX12_356 wi_X12_exchangeOnce wx_X12_exchangeOnce wn_RX12 wc_X12_exchangeOnce ⟨by decide +kernel, by decide +kernel, by decide +kernel⟩
set_option maxRecDepth 20000 in
theorem wf_RX12_85 : Cond.fieldLink RX12 85 (TX12 47).1 (TX12 47).2.1 (TX12 47).2.2.1 ∈ lw_tb := tb_at 1218 rfl rfl
theorem fl_RX12_85 : fw_fl RX12 85 10 47 := ⟨RX12, TX12, 54, rfl, in_X12, by decide, wf_RX12_85⟩
set_option maxRecDepth 20000 in
theorem wf_RX12_82 : Cond.fieldLink RX12 82 (TX12 46).1 (TX12 46).2.1 (TX12 46).2.2.1 ∈ lw_tb := tb_at 1217 rfl rfl
theorem fl_RX12_82 : fw_fl RX12 82 10 46 := ⟨RX12, TX12, 54, rfl, in_X12, by decide, wf_RX12_82⟩
set_option maxRecDepth 20000 in
theorem wl_RX12_359 : Cond.methodLink RX12 359 yX12_isSeen ∈ lw_tb := tb_at 1678 rfl rfl
set_option maxRecDepth 20000 in
theorem wi_X12_isSeen : Cond.instanceMethod yX12_isSeen ∈ lw_tb := tb_at 1680 rfl rfl
theorem wx_X12_isSeen : Cond.selects yX12_isSeen.cls yX12_isSeen yX12_isSeen ∈ lw_tb := tb_sel 79 (by decide +kernel) rfl
set_option maxRecDepth 20000 in
theorem wc_X12_isSeen : Cond.code yX12_isSeen cX12_isSeen 2 (some .boolean) ∈ lw_tb := tb_at 1681 rfl rfl
theorem lv_RX12_359 : fw_lv RX12 359 yX12_isSeen cX12_isSeen 2 (some .boolean) 0 := fw_lv_mk wl_RX12_359 wi_X12_isSeen wx_X12_isSeen wn_RX12 wc_X12_isSeen ⟨by decide +kernel, by decide +kernel, by decide +kernel⟩
set_option maxRecDepth 20000 in
theorem wf_RX12_362 : Cond.fieldLink RX12 362 (TX12 48).1 (TX12 48).2.1 (TX12 48).2.2.1 ∈ lw_tb := tb_at 1219 rfl rfl
theorem fl_RX12_362 : fw_fl RX12 362 10 48 := ⟨RX12, TX12, 54, rfl, in_X12, by decide, wf_RX12_362⟩
theorem fp_RX12_362 : fw_fp RX12 362 10 48 .int := ⟨RX12, TX12, 54, tyX12, rfl, in_X12, by decide, wf_RX12_362, tyX12_ok, nmX12, rfl, rfl⟩
set_option maxRecDepth 20000 in
theorem wk_RX12_365 : Cond.constant RX12 365 (Int32.ofInt 1103515245) ∈ lw_tb := tb_at 1698 rfl rfl
set_option maxRecDepth 20000 in
theorem wl_RX12_366 : Cond.methodLink RX12 366 yX12_draw ∈ lw_tb := tb_at 1694 rfl rfl
set_option maxRecDepth 20000 in
theorem wi_X12_draw : Cond.instanceMethod yX12_draw ∈ lw_tb := tb_at 1696 rfl rfl
theorem wx_X12_draw : Cond.selects yX12_draw.cls yX12_draw yX12_draw ∈ lw_tb := tb_sel 80 (by decide +kernel) rfl
set_option maxRecDepth 20000 in
theorem wc_X12_draw : Cond.code yX12_draw cX12_draw 2 (some .int) ∈ lw_tb := tb_at 1697 rfl rfl
theorem lv_RX12_366 : fw_lv RX12 366 yX12_draw cX12_draw 2 (some .int) 1 := fw_lv_mk wl_RX12_366 wi_X12_draw wx_X12_draw wn_RX12 wc_X12_draw ⟨by decide +kernel, by decide +kernel, by decide +kernel⟩
set_option maxRecDepth 20000 in
theorem wf_RX12_369 : Cond.fieldLink RX12 369 (TX12 50).1 (TX12 50).2.1 (TX12 50).2.2.1 ∈ lw_tb := tb_at 1221 rfl rfl
theorem fl_RX12_369 : fw_fl RX12 369 10 50 := ⟨RX12, TX12, 54, rfl, in_X12, by decide, wf_RX12_369⟩
theorem fp_RX12_369 : fw_fp RX12 369 10 50 .int := ⟨RX12, TX12, 54, tyX12, rfl, in_X12, by decide, wf_RX12_369, tyX12_ok, nmX12, rfl, rfl⟩
set_option maxRecDepth 20000 in
theorem wf_RX12_385 : Cond.fieldLink RX12 385 (TX12 51).1 (TX12 51).2.1 (TX12 51).2.2.1 ∈ lw_tb := tb_at 1222 rfl rfl
theorem fl_RX12_385 : fw_fl RX12 385 10 51 := ⟨RX12, TX12, 54, rfl, in_X12, by decide, wf_RX12_385⟩
theorem fp_RX12_385 : fw_fp RX12 385 10 51 .int := ⟨RX12, TX12, 54, tyX12, rfl, in_X12, by decide, wf_RX12_385, tyX12_ok, nmX12, rfl, rfl⟩
set_option maxRecDepth 20000 in
theorem wf_RX12_388 : Cond.fieldLink RX12 388 (TX12 52).1 (TX12 52).2.1 (TX12 52).2.2.1 ∈ lw_tb := tb_at 1223 rfl rfl
theorem fl_RX12_388 : fw_fl RX12 388 10 52 := ⟨RX12, TX12, 54, rfl, in_X12, by decide, wf_RX12_388⟩
theorem fp_RX12_388 : fw_fp RX12 388 10 52 .int := ⟨RX12, TX12, 54, tyX12, rfl, in_X12, by decide, wf_RX12_388, tyX12_ok, nmX12, rfl, rfl⟩
set_option maxRecDepth 20000 in
theorem wl_RX12_372 : Cond.methodLink RX12 372 yX12_readAnd ∈ lw_tb := tb_at 1707 rfl rfl
set_option maxRecDepth 20000 in
theorem wi_X12_readAnd : Cond.instanceMethod yX12_readAnd ∈ lw_tb := tb_at 1709 rfl rfl
theorem wx_X12_readAnd : Cond.selects yX12_readAnd.cls yX12_readAnd yX12_readAnd ∈ lw_tb := tb_sel 82 (by decide +kernel) rfl
set_option maxRecDepth 20000 in
theorem wc_X12_readAnd : Cond.code yX12_readAnd cX12_readAnd 2 (some .boolean) ∈ lw_tb := tb_at 1710 rfl rfl
theorem lv_RX12_372 : fw_lv RX12 372 yX12_readAnd cX12_readAnd 2 (some .boolean) 0 := fw_lv_mk wl_RX12_372 wi_X12_readAnd wx_X12_readAnd wn_RX12 wc_X12_readAnd ⟨by decide +kernel, by decide +kernel, by decide +kernel⟩
set_option maxRecDepth 20000 in
theorem wf_RX12_375 : Cond.fieldLink RX12 375 (TX12 53).1 (TX12 53).2.1 (TX12 53).2.2.1 ∈ lw_tb := tb_at 1224 rfl rfl
theorem fl_RX12_375 : fw_fl RX12 375 10 53 := ⟨RX12, TX12, 54, rfl, in_X12, by decide, wf_RX12_375⟩
set_option maxRecDepth 20000 in
theorem wf_RX12_88 : Cond.fieldLink RX12 88 (TX12 49).1 (TX12 49).2.1 (TX12 49).2.2.1 ∈ lw_tb := tb_at 1220 rfl rfl
theorem fl_RX12_88 : fw_fl RX12 88 10 49 := ⟨RX12, TX12, 54, rfl, in_X12, by decide, wf_RX12_88⟩
set_option maxRecDepth 20000 in
theorem wl_RX12_378 : Cond.methodLink RX12 378 yX12_lays ∈ lw_tb := tb_at 1723 rfl rfl
set_option maxRecDepth 20000 in
theorem wi_X12_lays : Cond.instanceMethod yX12_lays ∈ lw_tb := tb_at 1725 rfl rfl
theorem wx_X12_lays : Cond.selects yX12_lays.cls yX12_lays yX12_lays ∈ lw_tb := tb_sel 86 (by decide +kernel) rfl
set_option maxRecDepth 20000 in
theorem wc_X12_lays : Cond.code yX12_lays cX12_lays 6 (some .int) ∈ lw_tb := tb_at 1726 rfl rfl
theorem lv_RX12_378 : fw_lv RX12 378 yX12_lays cX12_lays 6 (some .int) 4 := fw_lv_mk wl_RX12_378 wi_X12_lays wx_X12_lays wn_RX12 wc_X12_lays ⟨by decide +kernel, by decide +kernel, by decide +kernel⟩
theorem fp_RX12_375 : fw_fp RX12 375 10 53 .int := ⟨RX12, TX12, 54, tyX12, rfl, in_X12, by decide, wf_RX12_375, tyX12_ok, nmX12, rfl, rfl⟩
set_option maxRecDepth 20000 in
theorem wl_RX12_382 : Cond.methodLink RX12 382 yX12_readOne ∈ lw_tb := tb_at 1711 rfl rfl
set_option maxRecDepth 20000 in
theorem wi_X12_readOne : Cond.instanceMethod yX12_readOne ∈ lw_tb := tb_at 1713 rfl rfl
theorem wx_X12_readOne : Cond.selects yX12_readOne.cls yX12_readOne yX12_readOne ∈ lw_tb := tb_sel 83 (by decide +kernel) rfl
set_option maxRecDepth 20000 in
theorem wc_X12_readOne : Cond.code yX12_readOne cX12_readOne 4 (some .boolean) ∈ lw_tb := tb_at 1714 rfl rfl
theorem lv_RX12_382 : fw_lv RX12 382 yX12_readOne cX12_readOne 4 (some .boolean) 0 := fw_lv_mk wl_RX12_382 wi_X12_readOne wx_X12_readOne wn_RX12 wc_X12_readOne ⟨by decide +kernel, by decide +kernel, by decide +kernel⟩
set_option maxRecDepth 20000 in
theorem wl_RX12_391 : Cond.methodLink RX12 391 yX12_readBracket ∈ lw_tb := tb_at 1715 rfl rfl
set_option maxRecDepth 20000 in
theorem wi_X12_readBracket : Cond.instanceMethod yX12_readBracket ∈ lw_tb := tb_at 1717 rfl rfl
theorem wx_X12_readBracket : Cond.selects yX12_readBracket.cls yX12_readBracket yX12_readBracket ∈ lw_tb := tb_sel 84 (by decide +kernel) rfl
set_option maxRecDepth 20000 in
theorem wc_X12_readBracket : Cond.code yX12_readBracket cX12_readBracket 1 (some .boolean) ∈ lw_tb := tb_at 1718 rfl rfl
theorem lv_RX12_391 : fw_lv RX12 391 yX12_readBracket cX12_readBracket 1 (some .boolean) 0 := fw_lv_mk wl_RX12_391 wi_X12_readBracket wx_X12_readBracket wn_RX12 wc_X12_readBracket ⟨by decide +kernel, by decide +kernel, by decide +kernel⟩
set_option maxRecDepth 20000 in
theorem wl_RX12_394 : Cond.methodLink RX12 394 yX12_readNot ∈ lw_tb := tb_at 1719 rfl rfl
set_option maxRecDepth 20000 in
theorem wi_X12_readNot : Cond.instanceMethod yX12_readNot ∈ lw_tb := tb_at 1721 rfl rfl
theorem wx_X12_readNot : Cond.selects yX12_readNot.cls yX12_readNot yX12_readNot ∈ lw_tb := tb_sel 85 (by decide +kernel) rfl
set_option maxRecDepth 20000 in
theorem wc_X12_readNot : Cond.code yX12_readNot cX12_readNot 1 (some .boolean) ∈ lw_tb := tb_at 1722 rfl rfl
theorem lv_RX12_394 : fw_lv RX12 394 yX12_readNot cX12_readNot 1 (some .boolean) 0 := fw_lv_mk wl_RX12_394 wi_X12_readNot wx_X12_readNot wn_RX12 wc_X12_readNot ⟨by decide +kernel, by decide +kernel, by decide +kernel⟩
set_option maxRecDepth 20000 in
theorem wl_RX12_406 : Cond.methodLink RX12 406 yX12_readNamed ∈ lw_tb := tb_at 1731 rfl rfl
set_option maxRecDepth 20000 in
theorem wi_X12_readNamed : Cond.instanceMethod yX12_readNamed ∈ lw_tb := tb_at 1733 rfl rfl
theorem wx_X12_readNamed : Cond.selects yX12_readNamed.cls yX12_readNamed yX12_readNamed ∈ lw_tb := tb_sel 88 (by decide +kernel) rfl
set_option maxRecDepth 20000 in
theorem wc_X12_readNamed : Cond.code yX12_readNamed cX12_readNamed 4 (some .boolean) ∈ lw_tb := tb_at 1734 rfl rfl
theorem lv_RX12_406 : fw_lv RX12 406 yX12_readNamed cX12_readNamed 4 (some .boolean) 2 := fw_lv_mk wl_RX12_406 wi_X12_readNamed wx_X12_readNamed wn_RX12 wc_X12_readNamed ⟨by decide +kernel, by decide +kernel, by decide +kernel⟩
set_option maxRecDepth 20000 in
theorem wl_RX12_397 : Cond.methodLink RX12 397 yX12_readOf ∈ lw_tb := tb_at 1727 rfl rfl
set_option maxRecDepth 20000 in
theorem wi_X12_readOf : Cond.instanceMethod yX12_readOf ∈ lw_tb := tb_at 1729 rfl rfl
theorem wx_X12_readOf : Cond.selects yX12_readOf.cls yX12_readOf yX12_readOf ∈ lw_tb := tb_sel 87 (by decide +kernel) rfl
set_option maxRecDepth 20000 in
theorem wc_X12_readOf : Cond.code yX12_readOf cX12_readOf 2 (some .boolean) ∈ lw_tb := tb_at 1730 rfl rfl
theorem lv_RX12_397 : fw_lv RX12 397 yX12_readOf cX12_readOf 2 (some .boolean) 1 := fw_lv_mk wl_RX12_397 wi_X12_readOf wx_X12_readOf wn_RX12 wc_X12_readOf ⟨by decide +kernel, by decide +kernel, by decide +kernel⟩
set_option maxRecDepth 20000 in
theorem wl_RX12_400 : Cond.methodLink RX12 400 yX12_readCompare ∈ lw_tb := tb_at 1735 rfl rfl
set_option maxRecDepth 20000 in
theorem wi_X12_readCompare : Cond.instanceMethod yX12_readCompare ∈ lw_tb := tb_at 1737 rfl rfl
theorem wx_X12_readCompare : Cond.selects yX12_readCompare.cls yX12_readCompare yX12_readCompare ∈ lw_tb := tb_sel 89 (by decide +kernel) rfl
set_option maxRecDepth 20000 in
theorem wc_X12_readCompare : Cond.code yX12_readCompare cX12_readCompare 4 (some .boolean) ∈ lw_tb := tb_at 1738 rfl rfl
theorem lv_RX12_400 : fw_lv RX12 400 yX12_readCompare cX12_readCompare 4 (some .boolean) 1 := fw_lv_mk wl_RX12_400 wi_X12_readCompare wx_X12_readCompare wn_RX12 wc_X12_readCompare ⟨by decide +kernel, by decide +kernel, by decide +kernel⟩
set_option maxRecDepth 20000 in
theorem wl_RX12_403 : Cond.methodLink RX12 403 yX12_readOr ∈ lw_tb := tb_at 1703 rfl rfl
set_option maxRecDepth 20000 in
theorem wi_X12_readOr : Cond.instanceMethod yX12_readOr ∈ lw_tb := tb_at 1705 rfl rfl
theorem wx_X12_readOr : Cond.selects yX12_readOr.cls yX12_readOr yX12_readOr ∈ lw_tb := tb_sel 81 (by decide +kernel) rfl
set_option maxRecDepth 20000 in
theorem wc_X12_readOr : Cond.code yX12_readOr cX12_readOr 2 (some .boolean) ∈ lw_tb := tb_at 1706 rfl rfl
theorem lv_RX12_403 : fw_lv RX12 403 yX12_readOr cX12_readOr 2 (some .boolean) 0 := fw_lv_mk wl_RX12_403 wi_X12_readOr wx_X12_readOr wn_RX12 wc_X12_readOr ⟨by decide +kernel, by decide +kernel, by decide +kernel⟩
set_option maxRecDepth 20000 in
theorem wl_RX12_409 : Cond.methodLink RX12 409 yX12_isSo ∈ lw_tb := tb_at 1743 rfl rfl
set_option maxRecDepth 20000 in
theorem wi_X12_isSo : Cond.instanceMethod yX12_isSo ∈ lw_tb := tb_at 1745 rfl rfl
theorem wx_X12_isSo : Cond.selects yX12_isSo.cls yX12_isSo yX12_isSo ∈ lw_tb := tb_sel 90 (by decide +kernel) rfl
set_option maxRecDepth 20000 in
theorem wc_X12_isSo : Cond.code yX12_isSo cX12_isSo 7 (some .boolean) ∈ lw_tb := tb_at 1746 rfl rfl
theorem lv_RX12_409 : fw_lv RX12 409 yX12_isSo cX12_isSo 7 (some .boolean) 2 := fw_lv_mk wl_RX12_409 wi_X12_isSo wx_X12_isSo wn_RX12 wc_X12_isSo ⟨by decide +kernel, by decide +kernel, by decide +kernel⟩
set_option maxRecDepth 20000 in
theorem wl_RX12_412 : Cond.methodLink RX12 412 yX12_valueOf ∈ lw_tb := tb_at 1747 rfl rfl
set_option maxRecDepth 20000 in
theorem wi_X12_valueOf : Cond.instanceMethod yX12_valueOf ∈ lw_tb := tb_at 1749 rfl rfl
theorem wx_X12_valueOf : Cond.selects yX12_valueOf.cls yX12_valueOf yX12_valueOf ∈ lw_tb := tb_sel 91 (by decide +kernel) rfl
set_option maxRecDepth 20000 in
theorem wc_X12_valueOf : Cond.code yX12_valueOf cX12_valueOf 6 (some .int) ∈ lw_tb := tb_at 1750 rfl rfl
theorem lv_RX12_412 : fw_lv RX12 412 yX12_valueOf cX12_valueOf 6 (some .int) 3 := fw_lv_mk wl_RX12_412 wi_X12_valueOf wx_X12_valueOf wn_RX12 wc_X12_valueOf ⟨by decide +kernel, by decide +kernel, by decide +kernel⟩
set_option maxRecDepth 20000 in
theorem wf_RX12_19 : Cond.fieldLink RX12 19 (TX12 16).1 (TX12 16).2.1 (TX12 16).2.2.1 ∈ lw_tb := tb_at 1187 rfl rfl
theorem fl_RX12_19 : fw_fl RX12 19 10 16 := ⟨RX12, TX12, 54, rfl, in_X12, by decide, wf_RX12_19⟩
set_option maxRecDepth 20000 in
theorem wf_RX12_32 : Cond.fieldLink RX12 32 (TX12 20).1 (TX12 20).2.1 (TX12 20).2.2.1 ∈ lw_tb := tb_at 1191 rfl rfl
theorem fl_RX12_32 : fw_fl RX12 32 10 20 := ⟨RX12, TX12, 54, rfl, in_X12, by decide, wf_RX12_32⟩
set_option maxRecDepth 20000 in
theorem wf_RX12_35 : Cond.fieldLink RX12 35 (TX12 21).1 (TX12 21).2.1 (TX12 21).2.2.1 ∈ lw_tb := tb_at 1192 rfl rfl
theorem fl_RX12_35 : fw_fl RX12 35 10 21 := ⟨RX12, TX12, 54, rfl, in_X12, by decide, wf_RX12_35⟩
set_option maxRecDepth 20000 in
theorem wl_RX11_3 : Cond.methodLink RX11 3 Lib.objectInit ∈ lw_tb := tb_at 26 rfl rfl
set_option maxRecDepth 20000 in
theorem wk_oi : Cond.instanceMethod Lib.objectInit ∈ lw_tb := tb_at 27 rfl rfl
set_option maxRecDepth 20000 in
theorem wk_oc : Cond.code Lib.objectInit ⟨#[0xb1]⟩ 1 none ∈ lw_tb := tb_at 28 rfl rfl
theorem ko_RX11_3 : fk_ob RX11 3 := ⟨wl_RX11_3, wk_oi, wk_oc⟩
set_option maxRecDepth 20000 in
theorem wk_cl_RX11_9 : Cond.classLink RX11 9 RX9 ∈ lw_tb := tb_at 29 rfl rfl
set_option maxRecDepth 20000 in
theorem wk_in_X9 : Cond.instantiable RX9 12 ∈ lw_tb := tb_at 30 rfl rfl
theorem kbl_X9 : ∀ j, j < 12 → defaultValue (tyX9 j) = vp_V (fk_bv [(3, 0), (1, 0), (1, 0), (1, 0), (1, 0), (1, 0), (1, 0), (1, 0), (1, 0), (2, 0), (1, 0), (1, 0)]) j := by decide +kernel
set_option maxRecDepth 20000 in
theorem wl_RX9_3 : Cond.methodLink RX9 3 Lib.objectInit ∈ lw_tb := tb_at 34 rfl rfl
theorem ko_RX9_3 : fk_ob RX9 3 := ⟨wl_RX9_3, wk_oi, wk_oc⟩
set_option maxRecDepth 20000 in
theorem wk_ar_byte : Cond.arrayClass (newarray.typeOf .byte) ∈ lw_tb := tb_at 79 rfl rfl
theorem kp_RX9_9 : fk_fp RX9 9 7 0 := ⟨RX9, TX9, 12, tyX9, rfl, in_X9, by decide, wf_RX9_9, tyX9_ok, nmX9, rfl, rfl, Or.inr ⟨_, rfl⟩⟩
set_option maxRecDepth 20000 in
theorem wi_X9_init : Cond.instanceMethod yX9_init ∈ lw_tb := tb_at 32 rfl rfl
set_option maxRecDepth 20000 in
theorem wc_X9_init : Cond.code yX9_init cX9_init 1 none ∈ lw_tb := tb_at 33 rfl rfl
set_option maxRecDepth 20000 in
theorem kn_RX11_11 : fk_ln RX11 11 yX9_init "DyerBells" cX9_init 1 := ⟨tbl_at 31 rfl, wi_X9_init, wn_RX9, wc_X9_init, rfl, by decide +kernel, by decide +kernel, by decide +kernel⟩
theorem kp_RX11_12 : fk_fp RX11 12 9 0 := ⟨RX11, TX11, 17, tyX11, rfl, in_X11, by decide, wf_RX11_12, tyX11_ok, nmX11, rfl, rfl, Or.inl ⟨_, rfl⟩⟩
set_option maxRecDepth 20000 in
theorem wk_cl_RX11_16 : Cond.classLink RX11 16 RX5 ∈ lw_tb := tb_at 80 rfl rfl
set_option maxRecDepth 20000 in
theorem wk_in_X5 : Cond.instantiable RX5 4 ∈ lw_tb := tb_at 81 rfl rfl
theorem kbl_X5 : ∀ j, j < 4 → defaultValue (tyX5 j) = vp_V (fk_bv [(3, 0), (3, 0), (3, 0), (3, 0)]) j := by decide +kernel
set_option maxRecDepth 20000 in
theorem wl_RX5_1 : Cond.methodLink RX5 1 Lib.objectInit ∈ lw_tb := tb_at 85 rfl rfl
theorem ko_RX5_1 : fk_ob RX5 1 := ⟨wl_RX5_1, wk_oi, wk_oc⟩
set_option maxRecDepth 20000 in
theorem wk_cl_RX5_7 : Cond.classLink RX5 7 RX3 ∈ lw_tb := tb_at 86 rfl rfl
set_option maxRecDepth 20000 in
theorem wk_in_X3 : Cond.instantiable RX3 20 ∈ lw_tb := tb_at 87 rfl rfl
theorem kbl_X3 : ∀ j, j < 20 → defaultValue (tyX3 j) = vp_V (fk_bv [(3, 0), (1, 0), (3, 0), (3, 0), (1, 0), (1, 0), (3, 0), (3, 0), (3, 0), (1, 0), (3, 0), (3, 0), (3, 0), (3, 0), (3, 0), (1, 0), (1, 0), (3, 0), (3, 0), (3, 0)]) j := by decide +kernel
set_option maxRecDepth 20000 in
theorem wl_RX3_3 : Cond.methodLink RX3 3 Lib.objectInit ∈ lw_tb := tb_at 91 rfl rfl
theorem ko_RX3_3 : fk_ob RX3 3 := ⟨wl_RX3_3, wk_oi, wk_oc⟩
set_option maxRecDepth 20000 in
theorem wk_cl_RX3_9 : Cond.classLink RX3 9 RX0 ∈ lw_tb := tb_at 92 rfl rfl
set_option maxRecDepth 20000 in
theorem wk_in_X0 : Cond.instantiable RX0 4 ∈ lw_tb := tb_at 93 rfl rfl
theorem kbl_X0 : ∀ j, j < 4 → defaultValue (tyX0 j) = vp_V (fk_bv [(1, 0), (3, 0), (3, 0), (3, 0)]) j := by decide +kernel
set_option maxRecDepth 20000 in
theorem wl_RX0_3 : Cond.methodLink RX0 3 Lib.objectInit ∈ lw_tb := tb_at 97 rfl rfl
theorem ko_RX0_3 : fk_ob RX0 3 := ⟨wl_RX0_3, wk_oi, wk_oc⟩
set_option maxRecDepth 20000 in
theorem wk_ar_long : Cond.arrayClass (newarray.typeOf .long) ∈ lw_tb := tb_at 112 rfl rfl
theorem kp_RX0_11 : fk_fp RX0 11 0 1 := ⟨RX0, TX0, 4, tyX0, rfl, in_X0, by decide, wf_RX0_11, tyX0_ok, nmX0, rfl, rfl, Or.inr ⟨_, rfl⟩⟩
set_option maxRecDepth 20000 in
theorem wk_ar_int : Cond.arrayClass (newarray.typeOf .int) ∈ lw_tb := tb_at 113 rfl rfl
theorem kp_RX0_15 : fk_fp RX0 15 0 2 := ⟨RX0, TX0, 4, tyX0, rfl, in_X0, by decide, wf_RX0_15, tyX0_ok, nmX0, rfl, rfl, Or.inr ⟨_, rfl⟩⟩
theorem kp_RX0_19 : fk_fp RX0 19 0 3 := ⟨RX0, TX0, 4, tyX0, rfl, in_X0, by decide, wf_RX0_19, tyX0_ok, nmX0, rfl, rfl, Or.inr ⟨_, rfl⟩⟩
set_option maxRecDepth 20000 in
theorem wi_X0_init : Cond.instanceMethod yX0_init ∈ lw_tb := tb_at 95 rfl rfl
set_option maxRecDepth 20000 in
theorem wc_X0_init : Cond.code yX0_init cX0_init 1 none ∈ lw_tb := tb_at 96 rfl rfl
set_option maxRecDepth 20000 in
theorem kn_RX3_11 : fk_ln RX3 11 yX0_init "DyerBells" cX0_init 1 := ⟨tbl_at 94 rfl, wi_X0_init, wn_RX0, wc_X0_init, rfl, by decide +kernel, by decide +kernel, by decide +kernel⟩
theorem kp_RX3_12 : fk_fp RX3 12 3 0 := ⟨RX3, TX3, 20, tyX3, rfl, in_X3, by decide, wf_RX3_12, tyX3_ok, nmX3, rfl, rfl, Or.inl ⟨_, rfl⟩⟩
theorem kp_RX3_18 : fk_fp RX3 18 3 2 := ⟨RX3, TX3, 20, tyX3, rfl, in_X3, by decide, wf_RX3_18, tyX3_ok, nmX3, rfl, rfl, Or.inr ⟨_, rfl⟩⟩
theorem kp_RX3_22 : fk_fp RX3 22 3 3 := ⟨RX3, TX3, 20, tyX3, rfl, in_X3, by decide, wf_RX3_22, tyX3_ok, nmX3, rfl, rfl, Or.inr ⟨_, rfl⟩⟩
theorem kp_RX3_25 : fk_fp RX3 25 3 6 := ⟨RX3, TX3, 20, tyX3, rfl, in_X3, by decide, wf_RX3_25, tyX3_ok, nmX3, rfl, rfl, Or.inr ⟨_, rfl⟩⟩
theorem kp_RX3_28 : fk_fp RX3 28 3 7 := ⟨RX3, TX3, 20, tyX3, rfl, in_X3, by decide, wf_RX3_28, tyX3_ok, nmX3, rfl, rfl, Or.inr ⟨_, rfl⟩⟩
theorem kp_RX3_31 : fk_fp RX3 31 3 8 := ⟨RX3, TX3, 20, tyX3, rfl, in_X3, by decide, wf_RX3_31, tyX3_ok, nmX3, rfl, rfl, Or.inr ⟨_, rfl⟩⟩
theorem kp_RX3_34 : fk_fp RX3 34 3 10 := ⟨RX3, TX3, 20, tyX3, rfl, in_X3, by decide, wf_RX3_34, tyX3_ok, nmX3, rfl, rfl, Or.inr ⟨_, rfl⟩⟩
theorem kp_RX3_37 : fk_fp RX3 37 3 11 := ⟨RX3, TX3, 20, tyX3, rfl, in_X3, by decide, wf_RX3_37, tyX3_ok, nmX3, rfl, rfl, Or.inr ⟨_, rfl⟩⟩
theorem kp_RX3_40 : fk_fp RX3 40 3 12 := ⟨RX3, TX3, 20, tyX3, rfl, in_X3, by decide, wf_RX3_40, tyX3_ok, nmX3, rfl, rfl, Or.inr ⟨_, rfl⟩⟩
theorem kp_RX3_43 : fk_fp RX3 43 3 13 := ⟨RX3, TX3, 20, tyX3, rfl, in_X3, by decide, wf_RX3_43, tyX3_ok, nmX3, rfl, rfl, Or.inr ⟨_, rfl⟩⟩
theorem kp_RX3_46 : fk_fp RX3 46 3 14 := ⟨RX3, TX3, 20, tyX3, rfl, in_X3, by decide, wf_RX3_46, tyX3_ok, nmX3, rfl, rfl, Or.inr ⟨_, rfl⟩⟩
theorem kp_RX3_53 : fk_fp RX3 53 3 17 := ⟨RX3, TX3, 20, tyX3, rfl, in_X3, by decide, wf_RX3_53, tyX3_ok, nmX3, rfl, rfl, Or.inr ⟨_, rfl⟩⟩
theorem kp_RX3_56 : fk_fp RX3 56 3 18 := ⟨RX3, TX3, 20, tyX3, rfl, in_X3, by decide, wf_RX3_56, tyX3_ok, nmX3, rfl, rfl, Or.inr ⟨_, rfl⟩⟩
theorem kp_RX3_59 : fk_fp RX3 59 3 19 := ⟨RX3, TX3, 20, tyX3, rfl, in_X3, by decide, wf_RX3_59, tyX3_ok, nmX3, rfl, rfl, Or.inr ⟨_, rfl⟩⟩
set_option maxRecDepth 20000 in
theorem wi_X3_init : Cond.instanceMethod yX3_init ∈ lw_tb := tb_at 89 rfl rfl
set_option maxRecDepth 20000 in
theorem wc_X3_init : Cond.code yX3_init cX3_init 1 none ∈ lw_tb := tb_at 90 rfl rfl
set_option maxRecDepth 20000 in
theorem kn_RX5_9 : fk_ln RX5 9 yX3_init "DyerBells" cX3_init 1 := ⟨tbl_at 88 rfl, wi_X3_init, wn_RX3, wc_X3_init, rfl, by decide +kernel, by decide +kernel, by decide +kernel⟩
theorem kp_RX5_10 : fk_fp RX5 10 4 0 := ⟨RX5, TX5, 4, tyX5, rfl, in_X5, by decide, wf_RX5_10, tyX5_ok, nmX5, rfl, rfl, Or.inl ⟨_, rfl⟩⟩
set_option maxRecDepth 20000 in
theorem wk_cl_RX5_16 : Cond.classLink RX5 16 RX1 ∈ lw_tb := tb_at 226 rfl rfl
set_option maxRecDepth 20000 in
theorem wk_in_X1 : Cond.instantiable RX1 4 ∈ lw_tb := tb_at 227 rfl rfl
theorem kbl_X1 : ∀ j, j < 4 → defaultValue (tyX1 j) = vp_V (fk_bv [(1, 0), (3, 0), (3, 0), (3, 0)]) j := by decide +kernel
set_option maxRecDepth 20000 in
theorem wl_RX1_3 : Cond.methodLink RX1 3 Lib.objectInit ∈ lw_tb := tb_at 231 rfl rfl
theorem ko_RX1_3 : fk_ob RX1 3 := ⟨wl_RX1_3, wk_oi, wk_oc⟩
theorem kp_RX1_9 : fk_fp RX1 9 1 1 := ⟨RX1, TX1, 4, tyX1, rfl, in_X1, by decide, wf_RX1_9, tyX1_ok, nmX1, rfl, rfl, Or.inr ⟨_, rfl⟩⟩
theorem kp_RX1_15 : fk_fp RX1 15 1 2 := ⟨RX1, TX1, 4, tyX1, rfl, in_X1, by decide, wf_RX1_15, tyX1_ok, nmX1, rfl, rfl, Or.inr ⟨_, rfl⟩⟩
theorem kp_RX1_18 : fk_fp RX1 18 1 3 := ⟨RX1, TX1, 4, tyX1, rfl, in_X1, by decide, wf_RX1_18, tyX1_ok, nmX1, rfl, rfl, Or.inr ⟨_, rfl⟩⟩
set_option maxRecDepth 20000 in
theorem wi_X1_init : Cond.instanceMethod yX1_init ∈ lw_tb := tb_at 229 rfl rfl
set_option maxRecDepth 20000 in
theorem wc_X1_init : Cond.code yX1_init cX1_init 1 none ∈ lw_tb := tb_at 230 rfl rfl
set_option maxRecDepth 20000 in
theorem kn_RX5_18 : fk_ln RX5 18 yX1_init "DyerBells" cX1_init 1 := ⟨tbl_at 228 rfl, wi_X1_init, wn_RX1, wc_X1_init, rfl, by decide +kernel, by decide +kernel, by decide +kernel⟩
theorem kp_RX5_19 : fk_fp RX5 19 4 1 := ⟨RX5, TX5, 4, tyX5, rfl, in_X5, by decide, wf_RX5_19, tyX5_ok, nmX5, rfl, rfl, Or.inl ⟨_, rfl⟩⟩
set_option maxRecDepth 20000 in
theorem wk_cl_RX5_23 : Cond.classLink RX5 23 RX8 ∈ lw_tb := tb_at 253 rfl rfl
set_option maxRecDepth 20000 in
theorem wk_in_X8 : Cond.instantiable RX8 4 ∈ lw_tb := tb_at 254 rfl rfl
theorem kbl_X8 : ∀ j, j < 4 → defaultValue (tyX8 j) = vp_V (fk_bv [(1, 0), (3, 0), (3, 0), (3, 0)]) j := by decide +kernel
set_option maxRecDepth 20000 in
theorem wl_RX8_3 : Cond.methodLink RX8 3 Lib.objectInit ∈ lw_tb := tb_at 258 rfl rfl
theorem ko_RX8_3 : fk_ob RX8 3 := ⟨wl_RX8_3, wk_oi, wk_oc⟩
theorem kp_RX8_9 : fk_fp RX8 9 6 1 := ⟨RX8, TX8, 4, tyX8, rfl, in_X8, by decide, wf_RX8_9, tyX8_ok, nmX8, rfl, rfl, Or.inr ⟨_, rfl⟩⟩
theorem kp_RX8_15 : fk_fp RX8 15 6 2 := ⟨RX8, TX8, 4, tyX8, rfl, in_X8, by decide, wf_RX8_15, tyX8_ok, nmX8, rfl, rfl, Or.inr ⟨_, rfl⟩⟩
theorem kp_RX8_18 : fk_fp RX8 18 6 3 := ⟨RX8, TX8, 4, tyX8, rfl, in_X8, by decide, wf_RX8_18, tyX8_ok, nmX8, rfl, rfl, Or.inr ⟨_, rfl⟩⟩
set_option maxRecDepth 20000 in
theorem wi_X8_init : Cond.instanceMethod yX8_init ∈ lw_tb := tb_at 256 rfl rfl
set_option maxRecDepth 20000 in
theorem wc_X8_init : Cond.code yX8_init cX8_init 1 none ∈ lw_tb := tb_at 257 rfl rfl
set_option maxRecDepth 20000 in
theorem kn_RX5_25 : fk_ln RX5 25 yX8_init "DyerBells" cX8_init 1 := ⟨tbl_at 255 rfl, wi_X8_init, wn_RX8, wc_X8_init, rfl, by decide +kernel, by decide +kernel, by decide +kernel⟩
theorem kp_RX5_26 : fk_fp RX5 26 4 2 := ⟨RX5, TX5, 4, tyX5, rfl, in_X5, by decide, wf_RX5_26, tyX5_ok, nmX5, rfl, rfl, Or.inl ⟨_, rfl⟩⟩
set_option maxRecDepth 20000 in
theorem wk_cl_RX5_30 : Cond.classLink RX5 30 RX6 ∈ lw_tb := tb_at 274 rfl rfl
set_option maxRecDepth 20000 in
theorem wk_in_X6 : Cond.instantiable RX6 7 ∈ lw_tb := tb_at 275 rfl rfl
theorem kbl_X6 : ∀ j, j < 7 → defaultValue (tyX6 j) = vp_V (fk_bv [(1, 0), (1, 0), (3, 0), (3, 0), (3, 0), (3, 0), (3, 0)]) j := by decide +kernel
set_option maxRecDepth 20000 in
theorem wl_RX6_5 : Cond.methodLink RX6 5 Lib.objectInit ∈ lw_tb := tb_at 279 rfl rfl
theorem ko_RX6_5 : fk_ob RX6 5 := ⟨wl_RX6_5, wk_oi, wk_oc⟩
theorem kp_RX6_11 : fk_fp RX6 11 5 2 := ⟨RX6, TX6, 7, tyX6, rfl, in_X6, by decide, wf_RX6_11, tyX6_ok, nmX6, rfl, rfl, Or.inr ⟨_, rfl⟩⟩
theorem kp_RX6_15 : fk_fp RX6 15 5 3 := ⟨RX6, TX6, 7, tyX6, rfl, in_X6, by decide, wf_RX6_15, tyX6_ok, nmX6, rfl, rfl, Or.inr ⟨_, rfl⟩⟩
theorem kp_RX6_18 : fk_fp RX6 18 5 4 := ⟨RX6, TX6, 7, tyX6, rfl, in_X6, by decide, wf_RX6_18, tyX6_ok, nmX6, rfl, rfl, Or.inr ⟨_, rfl⟩⟩
theorem kp_RX6_21 : fk_fp RX6 21 5 5 := ⟨RX6, TX6, 7, tyX6, rfl, in_X6, by decide, wf_RX6_21, tyX6_ok, nmX6, rfl, rfl, Or.inr ⟨_, rfl⟩⟩
theorem kp_RX6_24 : fk_fp RX6 24 5 6 := ⟨RX6, TX6, 7, tyX6, rfl, in_X6, by decide, wf_RX6_24, tyX6_ok, nmX6, rfl, rfl, Or.inr ⟨_, rfl⟩⟩
set_option maxRecDepth 20000 in
theorem wi_X6_init : Cond.instanceMethod yX6_init ∈ lw_tb := tb_at 277 rfl rfl
set_option maxRecDepth 20000 in
theorem wc_X6_init : Cond.code yX6_init cX6_init 1 none ∈ lw_tb := tb_at 278 rfl rfl
set_option maxRecDepth 20000 in
theorem kn_RX5_32 : fk_ln RX5 32 yX6_init "DyerBells" cX6_init 1 := ⟨tbl_at 276 rfl, wi_X6_init, wn_RX6, wc_X6_init, rfl, by decide +kernel, by decide +kernel, by decide +kernel⟩
theorem kp_RX5_33 : fk_fp RX5 33 4 3 := ⟨RX5, TX5, 4, tyX5, rfl, in_X5, by decide, wf_RX5_33, tyX5_ok, nmX5, rfl, rfl, Or.inl ⟨_, rfl⟩⟩
set_option maxRecDepth 20000 in
theorem wi_X5_init : Cond.instanceMethod yX5_init ∈ lw_tb := tb_at 83 rfl rfl
set_option maxRecDepth 20000 in
theorem wc_X5_init : Cond.code yX5_init cX5_init 1 none ∈ lw_tb := tb_at 84 rfl rfl
set_option maxRecDepth 20000 in
theorem kn_RX11_18 : fk_ln RX11 18 yX5_init "DyerBells" cX5_init 1 := ⟨tbl_at 82 rfl, wi_X5_init, wn_RX5, wc_X5_init, rfl, by decide +kernel, by decide +kernel, by decide +kernel⟩
theorem kp_RX11_19 : fk_fp RX11 19 9 2 := ⟨RX11, TX11, 17, tyX11, rfl, in_X11, by decide, wf_RX11_19, tyX11_ok, nmX11, rfl, rfl, Or.inl ⟨_, rfl⟩⟩
theorem kp_RX11_23 : fk_fp RX11 23 9 3 := ⟨RX11, TX11, 17, tyX11, rfl, in_X11, by decide, wf_RX11_23, tyX11_ok, nmX11, rfl, rfl, Or.inl ⟨_, rfl⟩⟩
theorem kp_RX11_26 : fk_fp RX11 26 9 4 := ⟨RX11, TX11, 17, tyX11, rfl, in_X11, by decide, wf_RX11_26, tyX11_ok, nmX11, rfl, rfl, Or.inl ⟨_, rfl⟩⟩
theorem kp_RX11_29 : fk_fp RX11 29 9 5 := ⟨RX11, TX11, 17, tyX11, rfl, in_X11, by decide, wf_RX11_29, tyX11_ok, nmX11, rfl, rfl, Or.inl ⟨_, rfl⟩⟩
set_option maxRecDepth 20000 in
theorem wk_cl_RX11_32 : Cond.classLink RX11 32 RX10 ∈ lw_tb := tb_at 321 rfl rfl
set_option maxRecDepth 20000 in
theorem wk_in_X10 : Cond.instantiable RX10 6 ∈ lw_tb := tb_at 322 rfl rfl
theorem kbl_X10 : ∀ j, j < 6 → defaultValue (tyX10 j) = vp_V (fk_bv [(3, 0), (3, 0), (3, 0), (3, 0), (3, 0), (3, 0)]) j := by decide +kernel
set_option maxRecDepth 20000 in
theorem wl_RX10_3 : Cond.methodLink RX10 3 Lib.objectInit ∈ lw_tb := tb_at 326 rfl rfl
theorem ko_RX10_3 : fk_ob RX10 3 := ⟨wl_RX10_3, wk_oi, wk_oc⟩
theorem kp_RX10_9 : fk_fp RX10 9 8 0 := ⟨RX10, TX10, 6, tyX10, rfl, in_X10, by decide, wf_RX10_9, tyX10_ok, nmX10, rfl, rfl, Or.inr ⟨_, rfl⟩⟩
theorem kp_RX10_15 : fk_fp RX10 15 8 1 := ⟨RX10, TX10, 6, tyX10, rfl, in_X10, by decide, wf_RX10_15, tyX10_ok, nmX10, rfl, rfl, Or.inr ⟨_, rfl⟩⟩
theorem kp_RX10_18 : fk_fp RX10 18 8 2 := ⟨RX10, TX10, 6, tyX10, rfl, in_X10, by decide, wf_RX10_18, tyX10_ok, nmX10, rfl, rfl, Or.inr ⟨_, rfl⟩⟩
theorem kp_RX10_21 : fk_fp RX10 21 8 3 := ⟨RX10, TX10, 6, tyX10, rfl, in_X10, by decide, wf_RX10_21, tyX10_ok, nmX10, rfl, rfl, Or.inr ⟨_, rfl⟩⟩
theorem kp_RX10_24 : fk_fp RX10 24 8 4 := ⟨RX10, TX10, 6, tyX10, rfl, in_X10, by decide, wf_RX10_24, tyX10_ok, nmX10, rfl, rfl, Or.inr ⟨_, rfl⟩⟩
theorem kp_RX10_27 : fk_fp RX10 27 8 5 := ⟨RX10, TX10, 6, tyX10, rfl, in_X10, by decide, wf_RX10_27, tyX10_ok, nmX10, rfl, rfl, Or.inr ⟨_, rfl⟩⟩
set_option maxRecDepth 20000 in
theorem wi_X10_init : Cond.instanceMethod yX10_init ∈ lw_tb := tb_at 324 rfl rfl
set_option maxRecDepth 20000 in
theorem wc_X10_init : Cond.code yX10_init cX10_init 1 none ∈ lw_tb := tb_at 325 rfl rfl
set_option maxRecDepth 20000 in
theorem kn_RX11_34 : fk_ln RX11 34 yX10_init "DyerBells" cX10_init 1 := ⟨tbl_at 323 rfl, wi_X10_init, wn_RX10, wc_X10_init, rfl, by decide +kernel, by decide +kernel, by decide +kernel⟩
theorem kp_RX11_35 : fk_fp RX11 35 9 8 := ⟨RX11, TX11, 17, tyX11, rfl, in_X11, by decide, wf_RX11_35, tyX11_ok, nmX11, rfl, rfl, Or.inl ⟨_, rfl⟩⟩
set_option maxRecDepth 20000 in
theorem wk_cl_RX11_39 : Cond.classLink RX11 39 RX2 ∈ lw_tb := tb_at 355 rfl rfl
set_option maxRecDepth 20000 in
theorem wk_in_X2 : Cond.instantiable RX2 6 ∈ lw_tb := tb_at 356 rfl rfl
theorem kbl_X2 : ∀ j, j < 6 → defaultValue (tyX2 j) = vp_V (fk_bv [(3, 0), (3, 0), (3, 0), (3, 0), (3, 0), (3, 0)]) j := by decide +kernel
set_option maxRecDepth 20000 in
theorem wl_RX2_3 : Cond.methodLink RX2 3 Lib.objectInit ∈ lw_tb := tb_at 360 rfl rfl
theorem ko_RX2_3 : fk_ob RX2 3 := ⟨wl_RX2_3, wk_oi, wk_oc⟩
theorem kp_RX2_9 : fk_fp RX2 9 2 0 := ⟨RX2, TX2, 6, tyX2, rfl, in_X2, by decide, wf_RX2_9, tyX2_ok, nmX2, rfl, rfl, Or.inr ⟨_, rfl⟩⟩
theorem kp_RX2_15 : fk_fp RX2 15 2 1 := ⟨RX2, TX2, 6, tyX2, rfl, in_X2, by decide, wf_RX2_15, tyX2_ok, nmX2, rfl, rfl, Or.inr ⟨_, rfl⟩⟩
theorem kp_RX2_18 : fk_fp RX2 18 2 2 := ⟨RX2, TX2, 6, tyX2, rfl, in_X2, by decide, wf_RX2_18, tyX2_ok, nmX2, rfl, rfl, Or.inr ⟨_, rfl⟩⟩
theorem kp_RX2_21 : fk_fp RX2 21 2 3 := ⟨RX2, TX2, 6, tyX2, rfl, in_X2, by decide, wf_RX2_21, tyX2_ok, nmX2, rfl, rfl, Or.inr ⟨_, rfl⟩⟩
theorem kp_RX2_24 : fk_fp RX2 24 2 4 := ⟨RX2, TX2, 6, tyX2, rfl, in_X2, by decide, wf_RX2_24, tyX2_ok, nmX2, rfl, rfl, Or.inr ⟨_, rfl⟩⟩
theorem kp_RX2_27 : fk_fp RX2 27 2 5 := ⟨RX2, TX2, 6, tyX2, rfl, in_X2, by decide, wf_RX2_27, tyX2_ok, nmX2, rfl, rfl, Or.inr ⟨_, rfl⟩⟩
set_option maxRecDepth 20000 in
theorem wi_X2_init : Cond.instanceMethod yX2_init ∈ lw_tb := tb_at 358 rfl rfl
set_option maxRecDepth 20000 in
theorem wc_X2_init : Cond.code yX2_init cX2_init 1 none ∈ lw_tb := tb_at 359 rfl rfl
set_option maxRecDepth 20000 in
theorem kn_RX11_41 : fk_ln RX11 41 yX2_init "DyerBells" cX2_init 1 := ⟨tbl_at 357 rfl, wi_X2_init, wn_RX2, wc_X2_init, rfl, by decide +kernel, by decide +kernel, by decide +kernel⟩
theorem kp_RX11_42 : fk_fp RX11 42 9 9 := ⟨RX11, TX11, 17, tyX11, rfl, in_X11, by decide, wf_RX11_42, tyX11_ok, nmX11, rfl, rfl, Or.inl ⟨_, rfl⟩⟩
theorem kp_RX11_50 : fk_fp RX11 50 9 11 := ⟨RX11, TX11, 17, tyX11, rfl, in_X11, by decide, wf_RX11_50, tyX11_ok, nmX11, rfl, rfl, Or.inr ⟨_, rfl⟩⟩
theorem kp_RX11_54 : fk_fp RX11 54 9 12 := ⟨RX11, TX11, 17, tyX11, rfl, in_X11, by decide, wf_RX11_54, tyX11_ok, nmX11, rfl, rfl, Or.inr ⟨_, rfl⟩⟩
theorem kp_RX11_57 : fk_fp RX11 57 9 13 := ⟨RX11, TX11, 17, tyX11, rfl, in_X11, by decide, wf_RX11_57, tyX11_ok, nmX11, rfl, rfl, Or.inr ⟨_, rfl⟩⟩
theorem kp_RX11_60 : fk_fp RX11 60 9 16 := ⟨RX11, TX11, 17, tyX11, rfl, in_X11, by decide, wf_RX11_60, tyX11_ok, nmX11, rfl, rfl, Or.inr ⟨_, rfl⟩⟩
set_option maxRecDepth 20000 in
theorem wl_RX12_1 : Cond.methodLink RX12 1 Lib.objectInit ∈ lw_tb := tb_at 1170 rfl rfl
theorem ko_RX12_1 : fk_ob RX12 1 := ⟨wl_RX12_1, wk_oi, wk_oc⟩
theorem kp_RX12_7 : fk_fp RX12 7 10 1 := ⟨RX12, TX12, 54, tyX12, rfl, in_X12, by decide, wf_RX12_7, tyX12_ok, nmX12, rfl, rfl, Or.inr ⟨_, rfl⟩⟩
theorem kp_RX12_13 : fk_fp RX12 13 10 14 := ⟨RX12, TX12, 54, tyX12, rfl, in_X12, by decide, wf_RX12_13, tyX12_ok, nmX12, rfl, rfl, Or.inr ⟨_, rfl⟩⟩
theorem kp_RX12_16 : fk_fp RX12 16 10 15 := ⟨RX12, TX12, 54, tyX12, rfl, in_X12, by decide, wf_RX12_16, tyX12_ok, nmX12, rfl, rfl, Or.inr ⟨_, rfl⟩⟩
theorem kp_RX12_19 : fk_fp RX12 19 10 16 := ⟨RX12, TX12, 54, tyX12, rfl, in_X12, by decide, wf_RX12_19, tyX12_ok, nmX12, rfl, rfl, Or.inr ⟨_, rfl⟩⟩
theorem kp_RX12_22 : fk_fp RX12 22 10 17 := ⟨RX12, TX12, 54, tyX12, rfl, in_X12, by decide, wf_RX12_22, tyX12_ok, nmX12, rfl, rfl, Or.inr ⟨_, rfl⟩⟩
theorem kp_RX12_25 : fk_fp RX12 25 10 18 := ⟨RX12, TX12, 54, tyX12, rfl, in_X12, by decide, wf_RX12_25, tyX12_ok, nmX12, rfl, rfl, Or.inr ⟨_, rfl⟩⟩
theorem kp_RX12_29 : fk_fp RX12 29 10 19 := ⟨RX12, TX12, 54, tyX12, rfl, in_X12, by decide, wf_RX12_29, tyX12_ok, nmX12, rfl, rfl, Or.inr ⟨_, rfl⟩⟩
theorem kp_RX12_32 : fk_fp RX12 32 10 20 := ⟨RX12, TX12, 54, tyX12, rfl, in_X12, by decide, wf_RX12_32, tyX12_ok, nmX12, rfl, rfl, Or.inr ⟨_, rfl⟩⟩
set_option maxRecDepth 20000 in
theorem wk_ar_boolean : Cond.arrayClass (newarray.typeOf .boolean) ∈ lw_tb := tb_at 1334 rfl rfl
theorem kp_RX12_35 : fk_fp RX12 35 10 21 := ⟨RX12, TX12, 54, tyX12, rfl, in_X12, by decide, wf_RX12_35, tyX12_ok, nmX12, rfl, rfl, Or.inr ⟨_, rfl⟩⟩
theorem kp_RX12_39 : fk_fp RX12 39 10 26 := ⟨RX12, TX12, 54, tyX12, rfl, in_X12, by decide, wf_RX12_39, tyX12_ok, nmX12, rfl, rfl, Or.inr ⟨_, rfl⟩⟩
theorem kp_RX12_42 : fk_fp RX12 42 10 27 := ⟨RX12, TX12, 54, tyX12, rfl, in_X12, by decide, wf_RX12_42, tyX12_ok, nmX12, rfl, rfl, Or.inr ⟨_, rfl⟩⟩
theorem kp_RX12_45 : fk_fp RX12 45 10 28 := ⟨RX12, TX12, 54, tyX12, rfl, in_X12, by decide, wf_RX12_45, tyX12_ok, nmX12, rfl, rfl, Or.inr ⟨_, rfl⟩⟩
theorem kp_RX12_48 : fk_fp RX12 48 10 29 := ⟨RX12, TX12, 54, tyX12, rfl, in_X12, by decide, wf_RX12_48, tyX12_ok, nmX12, rfl, rfl, Or.inr ⟨_, rfl⟩⟩
theorem kp_RX12_51 : fk_fp RX12 51 10 30 := ⟨RX12, TX12, 54, tyX12, rfl, in_X12, by decide, wf_RX12_51, tyX12_ok, nmX12, rfl, rfl, Or.inr ⟨_, rfl⟩⟩
theorem kp_RX12_54 : fk_fp RX12 54 10 31 := ⟨RX12, TX12, 54, tyX12, rfl, in_X12, by decide, wf_RX12_54, tyX12_ok, nmX12, rfl, rfl, Or.inr ⟨_, rfl⟩⟩
theorem kp_RX12_57 : fk_fp RX12 57 10 32 := ⟨RX12, TX12, 54, tyX12, rfl, in_X12, by decide, wf_RX12_57, tyX12_ok, nmX12, rfl, rfl, Or.inr ⟨_, rfl⟩⟩
theorem kp_RX12_60 : fk_fp RX12 60 10 33 := ⟨RX12, TX12, 54, tyX12, rfl, in_X12, by decide, wf_RX12_60, tyX12_ok, nmX12, rfl, rfl, Or.inr ⟨_, rfl⟩⟩
theorem kp_RX12_67 : fk_fp RX12 67 10 37 := ⟨RX12, TX12, 54, tyX12, rfl, in_X12, by decide, wf_RX12_67, tyX12_ok, nmX12, rfl, rfl, Or.inr ⟨_, rfl⟩⟩
theorem kp_RX12_70 : fk_fp RX12 70 10 38 := ⟨RX12, TX12, 54, tyX12, rfl, in_X12, by decide, wf_RX12_70, tyX12_ok, nmX12, rfl, rfl, Or.inr ⟨_, rfl⟩⟩
theorem kp_RX12_73 : fk_fp RX12 73 10 39 := ⟨RX12, TX12, 54, tyX12, rfl, in_X12, by decide, wf_RX12_73, tyX12_ok, nmX12, rfl, rfl, Or.inr ⟨_, rfl⟩⟩
theorem kp_RX12_76 : fk_fp RX12 76 10 40 := ⟨RX12, TX12, 54, tyX12, rfl, in_X12, by decide, wf_RX12_76, tyX12_ok, nmX12, rfl, rfl, Or.inr ⟨_, rfl⟩⟩
theorem kp_RX12_79 : fk_fp RX12 79 10 41 := ⟨RX12, TX12, 54, tyX12, rfl, in_X12, by decide, wf_RX12_79, tyX12_ok, nmX12, rfl, rfl, Or.inr ⟨_, rfl⟩⟩
theorem kp_RX12_82 : fk_fp RX12 82 10 46 := ⟨RX12, TX12, 54, tyX12, rfl, in_X12, by decide, wf_RX12_82, tyX12_ok, nmX12, rfl, rfl, Or.inr ⟨_, rfl⟩⟩
theorem kp_RX12_85 : fk_fp RX12 85 10 47 := ⟨RX12, TX12, 54, tyX12, rfl, in_X12, by decide, wf_RX12_85, tyX12_ok, nmX12, rfl, rfl, Or.inr ⟨_, rfl⟩⟩
theorem kp_RX12_88 : fk_fp RX12 88 10 49 := ⟨RX12, TX12, 54, tyX12, rfl, in_X12, by decide, wf_RX12_88, tyX12_ok, nmX12, rfl, rfl, Or.inr ⟨_, rfl⟩⟩
