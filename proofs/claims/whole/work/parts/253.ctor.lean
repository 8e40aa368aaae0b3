def Z0 : Me := fun _ _ => 0
def KX1 : List CD := [.inl (9, [(3, 0), (1, 0), (3, 0), (3, 0), (3, 0), (3, 0), (1, 0), (1, 0), (3, 0), (3, 0), (1, 0), (3, 0), (3, 0), (3, 0), (1, 0), (1, 0), (3, 0)])]
def KX2 : List CD := KX1 ++ [.inl (7, [(3, 0), (1, 0), (1, 0), (1, 0), (1, 0), (1, 0), (1, 0), (1, 0), (1, 0), (2, 0), (1, 0), (1, 0)])]
def KX3 : List CD := KX2 ++ [.inr (2, 940)]
theorem kl_KX3_1 : KX3[1]? = some (.inl (7, [(3, 0), (1, 0), (1, 0), (1, 0), (1, 0), (1, 0), (1, 0), (1, 0), (1, 0), (2, 0), (1, 0), (1, 0)])) := by decide +kernel
def KX4 : List CD := KX3.set 1 (.inl (7, ([(3, 0), (1, 0), (1, 0), (1, 0), (1, 0), (1, 0), (1, 0), (1, 0), (1, 0), (2, 0), (1, 0), (1, 0)] : List (Nat × Nat)).set 0 (0, 2)))
set_option maxRecDepth 20000 in
theorem KX_c1_Tape_10 : fk_B RX9 cX9_init 1 1 [(0, 3)] KX3 Z0 [(4, 0), (3, 0)] 10 KX4 Z0 [] 13 0 0 := fk_seq (nc := 0) (ns := 0) (nc1 := 0) (ns1 := 0) (kb_putR kp_RX9_9 kl_KX3_1 rfl dX9_init_10) kb_nil
set_option maxRecDepth 20000 in
theorem KX_c1_Tape_8 : fk_B RX9 cX9_init 1 1 [(0, 3)] KX2 Z0 [(0, 940), (3, 0)] 8 KX4 Z0 [] 13 1 940 := fk_seq (nc := 1) (ns := 940) (nc1 := 0) (ns1 := 0) (kb_arr (by decide +kernel) (by decide) rfl wk_ar_byte (by decide +kernel) (by decide +kernel) (by decide) dX9_init_8) KX_c1_Tape_10
set_option maxRecDepth 20000 in
theorem KX_c1_Tape_5 : fk_B RX9 cX9_init 1 1 [(0, 3)] KX2 Z0 [(3, 0)] 5 KX4 Z0 [] 13 1 940 := fk_seq (nc := 0) (ns := 0) (nc1 := 1) (ns1 := 940) (kb_sipush dX9_init_5) KX_c1_Tape_8
set_option maxRecDepth 20000 in
theorem KX_c1_Tape_4 : fk_B RX9 cX9_init 1 1 [(0, 3)] KX2 Z0 [] 4 KX4 Z0 [] 13 1 940 := fk_seq (nc := 0) (ns := 0) (nc1 := 1) (ns1 := 940) (kb_aload (j := 0) rfl dX9_init_4) KX_c1_Tape_5
set_option maxRecDepth 20000 in
theorem KX_c1_Tape_1 : fk_B RX9 cX9_init 1 1 [(0, 3)] KX2 Z0 [(3, 0)] 1 KX4 Z0 [] 13 1 940 := fk_seq (nc := 0) (ns := 0) (nc1 := 1) (ns1 := 940) (kb_obj ko_RX9_3 (by decide) dX9_init_1) KX_c1_Tape_4
set_option maxRecDepth 20000 in
theorem KX_c1_Tape_0 : fk_B RX9 cX9_init 1 1 [(0, 3)] KX2 Z0 [] 0 KX4 Z0 [] 13 1 940 := fk_seq (nc := 0) (ns := 0) (nc1 := 1) (ns1 := 940) (kb_aload (j := 0) rfl dX9_init_0) KX_c1_Tape_1
theorem KX_c1_Tape : fk_C yX9_init cX9_init 1 1 1 KX2 Z0 KX4 Z0 1 940 := fk_close (by decide +kernel) rfl (by decide) (show fk_B yX9_init.cls cX9_init 1 1 [(0, 3)] KX2 Z0 [] 0 KX4 Z0 [] 13 1 940 from KX_c1_Tape_0) dX9_init_13
theorem kl_KX4_0 : KX4[0]? = some (.inl (9, [(3, 0), (1, 0), (3, 0), (3, 0), (3, 0), (3, 0), (1, 0), (1, 0), (3, 0), (3, 0), (1, 0), (3, 0), (3, 0), (3, 0), (1, 0), (1, 0), (3, 0)])) := by decide +kernel
def KX5 : List CD := KX4.set 0 (.inl (9, ([(3, 0), (1, 0), (3, 0), (3, 0), (3, 0), (3, 0), (1, 0), (1, 0), (3, 0), (3, 0), (1, 0), (3, 0), (3, 0), (3, 0), (1, 0), (1, 0), (3, 0)] : List (Nat × Nat)).set 0 (0, 1)))
def KX6 : List CD := KX5 ++ [.inl (4, [(3, 0), (3, 0), (3, 0), (3, 0)])]
def KX7 : List CD := KX6 ++ [.inl (3, [(3, 0), (1, 0), (3, 0), (3, 0), (1, 0), (1, 0), (3, 0), (3, 0), (3, 0), (1, 0), (3, 0), (3, 0), (3, 0), (3, 0), (3, 0), (1, 0), (1, 0), (3, 0), (3, 0), (3, 0)])]
def KX8 : List CD := KX7 ++ [.inl (0, [(1, 0), (3, 0), (3, 0), (3, 0)])]
def KX9 : List CD := KX8 ++ [.inr (1, 26)]
theorem kl_KX9_5 : KX9[5]? = some (.inl (0, [(1, 0), (3, 0), (3, 0), (3, 0)])) := by decide +kernel
def KX10 : List CD := KX9.set 5 (.inl (0, ([(1, 0), (3, 0), (3, 0), (3, 0)] : List (Nat × Nat)).set 1 (0, 6)))
def KX11 : List CD := KX10 ++ [.inr (0, 26)]
theorem kl_KX11_5 : KX11[5]? = some (.inl (0, [(1, 0), (0, 6), (3, 0), (3, 0)])) := by decide +kernel
def KX12 : List CD := KX11.set 5 (.inl (0, ([(1, 0), (0, 6), (3, 0), (3, 0)] : List (Nat × Nat)).set 2 (0, 7)))
def KX13 : List CD := KX12 ++ [.inr (0, 26)]
theorem kl_KX13_5 : KX13[5]? = some (.inl (0, [(1, 0), (0, 6), (0, 7), (3, 0)])) := by decide +kernel
def KX14 : List CD := KX13.set 5 (.inl (0, ([(1, 0), (0, 6), (0, 7), (3, 0)] : List (Nat × Nat)).set 3 (0, 8)))
set_option maxRecDepth 20000 in
theorem KX_c2_Names_25 : fk_B RX0 cX0_init 1 1 [(0, 7)] KX13 Z0 [(10, 0), (7, 0)] 25 KX14 Z0 [] 28 0 0 := fk_seq (nc := 0) (ns := 0) (nc1 := 0) (ns1 := 0) (kb_putR kp_RX0_19 kl_KX13_5 rfl dX0_init_25) kb_nil
set_option maxRecDepth 20000 in
theorem KX_c2_Names_23 : fk_B RX0 cX0_init 1 1 [(0, 7)] KX12 Z0 [(0, 26), (7, 0)] 23 KX14 Z0 [] 28 1 26 := fk_seq (nc := 1) (ns := 26) (nc1 := 0) (ns1 := 0) (kb_arr (by decide +kernel) (by decide) rfl wk_ar_int (by decide +kernel) (by decide +kernel) (by decide) dX0_init_23) KX_c2_Names_25
set_option maxRecDepth 20000 in
theorem KX_c2_Names_21 : fk_B RX0 cX0_init 1 1 [(0, 7)] KX12 Z0 [(7, 0)] 21 KX14 Z0 [] 28 1 26 := fk_seq (nc := 0) (ns := 0) (nc1 := 1) (ns1 := 26) (kb_bipush dX0_init_21) KX_c2_Names_23
set_option maxRecDepth 20000 in
theorem KX_c2_Names_20 : fk_B RX0 cX0_init 1 1 [(0, 7)] KX12 Z0 [] 20 KX14 Z0 [] 28 1 26 := fk_seq (nc := 0) (ns := 0) (nc1 := 1) (ns1 := 26) (kb_aload (j := 0) rfl dX0_init_20) KX_c2_Names_21
set_option maxRecDepth 20000 in
theorem KX_c2_Names_17 : fk_B RX0 cX0_init 1 1 [(0, 7)] KX11 Z0 [(9, 0), (7, 0)] 17 KX14 Z0 [] 28 1 26 := fk_seq (nc := 0) (ns := 0) (nc1 := 1) (ns1 := 26) (kb_putR kp_RX0_15 kl_KX11_5 rfl dX0_init_17) KX_c2_Names_20
set_option maxRecDepth 20000 in
theorem KX_c2_Names_15 : fk_B RX0 cX0_init 1 1 [(0, 7)] KX10 Z0 [(0, 26), (7, 0)] 15 KX14 Z0 [] 28 2 52 := fk_seq (nc := 1) (ns := 26) (nc1 := 1) (ns1 := 26) (kb_arr (by decide +kernel) (by decide) rfl wk_ar_int (by decide +kernel) (by decide +kernel) (by decide) dX0_init_15) KX_c2_Names_17
set_option maxRecDepth 20000 in
theorem KX_c2_Names_13 : fk_B RX0 cX0_init 1 1 [(0, 7)] KX10 Z0 [(7, 0)] 13 KX14 Z0 [] 28 2 52 := fk_seq (nc := 0) (ns := 0) (nc1 := 2) (ns1 := 52) (kb_bipush dX0_init_13) KX_c2_Names_15
set_option maxRecDepth 20000 in
theorem KX_c2_Names_12 : fk_B RX0 cX0_init 1 1 [(0, 7)] KX10 Z0 [] 12 KX14 Z0 [] 28 2 52 := fk_seq (nc := 0) (ns := 0) (nc1 := 2) (ns1 := 52) (kb_aload (j := 0) rfl dX0_init_12) KX_c2_Names_13
set_option maxRecDepth 20000 in
theorem KX_c2_Names_9 : fk_B RX0 cX0_init 1 1 [(0, 7)] KX9 Z0 [(8, 0), (7, 0)] 9 KX14 Z0 [] 28 2 52 := fk_seq (nc := 0) (ns := 0) (nc1 := 2) (ns1 := 52) (kb_putR kp_RX0_11 kl_KX9_5 rfl dX0_init_9) KX_c2_Names_12
set_option maxRecDepth 20000 in
theorem KX_c2_Names_7 : fk_B RX0 cX0_init 1 1 [(0, 7)] KX8 Z0 [(0, 26), (7, 0)] 7 KX14 Z0 [] 28 3 78 := fk_seq (nc := 1) (ns := 26) (nc1 := 2) (ns1 := 52) (kb_arr (by decide +kernel) (by decide) rfl wk_ar_long (by decide +kernel) (by decide +kernel) (by decide) dX0_init_7) KX_c2_Names_9
set_option maxRecDepth 20000 in
theorem KX_c2_Names_5 : fk_B RX0 cX0_init 1 1 [(0, 7)] KX8 Z0 [(7, 0)] 5 KX14 Z0 [] 28 3 78 := fk_seq (nc := 0) (ns := 0) (nc1 := 3) (ns1 := 78) (kb_bipush dX0_init_5) KX_c2_Names_7
set_option maxRecDepth 20000 in
theorem KX_c2_Names_4 : fk_B RX0 cX0_init 1 1 [(0, 7)] KX8 Z0 [] 4 KX14 Z0 [] 28 3 78 := fk_seq (nc := 0) (ns := 0) (nc1 := 3) (ns1 := 78) (kb_aload (j := 0) rfl dX0_init_4) KX_c2_Names_5
set_option maxRecDepth 20000 in
theorem KX_c2_Names_1 : fk_B RX0 cX0_init 1 1 [(0, 7)] KX8 Z0 [(7, 0)] 1 KX14 Z0 [] 28 3 78 := fk_seq (nc := 0) (ns := 0) (nc1 := 3) (ns1 := 78) (kb_obj ko_RX0_3 (by decide) dX0_init_1) KX_c2_Names_4
set_option maxRecDepth 20000 in
theorem KX_c2_Names_0 : fk_B RX0 cX0_init 1 1 [(0, 7)] KX8 Z0 [] 0 KX14 Z0 [] 28 3 78 := fk_seq (nc := 0) (ns := 0) (nc1 := 3) (ns1 := 78) (kb_aload (j := 0) rfl dX0_init_0) KX_c2_Names_1
theorem KX_c2_Names : fk_C yX0_init cX0_init 1 1 5 KX8 Z0 KX14 Z0 3 78 := fk_close (by decide +kernel) rfl (by decide) (show fk_B yX0_init.cls cX0_init 1 1 [(0, 7)] KX8 Z0 [] 0 KX14 Z0 [] 28 3 78 from KX_c2_Names_0) dX0_init_28
theorem kl_KX14_4 : KX14[4]? = some (.inl (3, [(3, 0), (1, 0), (3, 0), (3, 0), (1, 0), (1, 0), (3, 0), (3, 0), (3, 0), (1, 0), (3, 0), (3, 0), (3, 0), (3, 0), (3, 0), (1, 0), (1, 0), (3, 0), (3, 0), (3, 0)])) := by decide +kernel
def KX15 : List CD := KX14.set 4 (.inl (3, ([(3, 0), (1, 0), (3, 0), (3, 0), (1, 0), (1, 0), (3, 0), (3, 0), (3, 0), (1, 0), (3, 0), (3, 0), (3, 0), (3, 0), (3, 0), (1, 0), (1, 0), (3, 0), (3, 0), (3, 0)] : List (Nat × Nat)).set 0 (0, 5)))
def KX16 : List CD := KX15 ++ [.inr (0, 10)]
theorem kl_KX16_4 : KX16[4]? = some (.inl (3, [(0, 5), (1, 0), (3, 0), (3, 0), (1, 0), (1, 0), (3, 0), (3, 0), (3, 0), (1, 0), (3, 0), (3, 0), (3, 0), (3, 0), (3, 0), (1, 0), (1, 0), (3, 0), (3, 0), (3, 0)])) := by decide +kernel
def KX17 : List CD := KX16.set 4 (.inl (3, ([(0, 5), (1, 0), (3, 0), (3, 0), (1, 0), (1, 0), (3, 0), (3, 0), (3, 0), (1, 0), (3, 0), (3, 0), (3, 0), (3, 0), (3, 0), (1, 0), (1, 0), (3, 0), (3, 0), (3, 0)] : List (Nat × Nat)).set 2 (0, 9)))
def KX18 : List CD := KX17 ++ [.inr (0, 10)]
theorem kl_KX18_4 : KX18[4]? = some (.inl (3, [(0, 5), (1, 0), (0, 9), (3, 0), (1, 0), (1, 0), (3, 0), (3, 0), (3, 0), (1, 0), (3, 0), (3, 0), (3, 0), (3, 0), (3, 0), (1, 0), (1, 0), (3, 0), (3, 0), (3, 0)])) := by decide +kernel
def KX19 : List CD := KX18.set 4 (.inl (3, ([(0, 5), (1, 0), (0, 9), (3, 0), (1, 0), (1, 0), (3, 0), (3, 0), (3, 0), (1, 0), (3, 0), (3, 0), (3, 0), (3, 0), (3, 0), (1, 0), (1, 0), (3, 0), (3, 0), (3, 0)] : List (Nat × Nat)).set 3 (0, 10)))
def KX20 : List CD := KX19 ++ [.inr (0, 6)]
theorem kl_KX20_4 : KX20[4]? = some (.inl (3, [(0, 5), (1, 0), (0, 9), (0, 10), (1, 0), (1, 0), (3, 0), (3, 0), (3, 0), (1, 0), (3, 0), (3, 0), (3, 0), (3, 0), (3, 0), (1, 0), (1, 0), (3, 0), (3, 0), (3, 0)])) := by decide +kernel
def KX21 : List CD := KX20.set 4 (.inl (3, ([(0, 5), (1, 0), (0, 9), (0, 10), (1, 0), (1, 0), (3, 0), (3, 0), (3, 0), (1, 0), (3, 0), (3, 0), (3, 0), (3, 0), (3, 0), (1, 0), (1, 0), (3, 0), (3, 0), (3, 0)] : List (Nat × Nat)).set 6 (0, 11)))
def KX22 : List CD := KX21 ++ [.inr (0, 6)]
theorem kl_KX22_4 : KX22[4]? = some (.inl (3, [(0, 5), (1, 0), (0, 9), (0, 10), (1, 0), (1, 0), (0, 11), (3, 0), (3, 0), (1, 0), (3, 0), (3, 0), (3, 0), (3, 0), (3, 0), (1, 0), (1, 0), (3, 0), (3, 0), (3, 0)])) := by decide +kernel
def KX23 : List CD := KX22.set 4 (.inl (3, ([(0, 5), (1, 0), (0, 9), (0, 10), (1, 0), (1, 0), (0, 11), (3, 0), (3, 0), (1, 0), (3, 0), (3, 0), (3, 0), (3, 0), (3, 0), (1, 0), (1, 0), (3, 0), (3, 0), (3, 0)] : List (Nat × Nat)).set 7 (0, 12)))
def KX24 : List CD := KX23 ++ [.inr (0, 24)]
theorem kl_KX24_4 : KX24[4]? = some (.inl (3, [(0, 5), (1, 0), (0, 9), (0, 10), (1, 0), (1, 0), (0, 11), (0, 12), (3, 0), (1, 0), (3, 0), (3, 0), (3, 0), (3, 0), (3, 0), (1, 0), (1, 0), (3, 0), (3, 0), (3, 0)])) := by decide +kernel
def KX25 : List CD := KX24.set 4 (.inl (3, ([(0, 5), (1, 0), (0, 9), (0, 10), (1, 0), (1, 0), (0, 11), (0, 12), (3, 0), (1, 0), (3, 0), (3, 0), (3, 0), (3, 0), (3, 0), (1, 0), (1, 0), (3, 0), (3, 0), (3, 0)] : List (Nat × Nat)).set 8 (0, 13)))
def KX26 : List CD := KX25 ++ [.inr (0, 6)]
theorem kl_KX26_4 : KX26[4]? = some (.inl (3, [(0, 5), (1, 0), (0, 9), (0, 10), (1, 0), (1, 0), (0, 11), (0, 12), (0, 13), (1, 0), (3, 0), (3, 0), (3, 0), (3, 0), (3, 0), (1, 0), (1, 0), (3, 0), (3, 0), (3, 0)])) := by decide +kernel
def KX27 : List CD := KX26.set 4 (.inl (3, ([(0, 5), (1, 0), (0, 9), (0, 10), (1, 0), (1, 0), (0, 11), (0, 12), (0, 13), (1, 0), (3, 0), (3, 0), (3, 0), (3, 0), (3, 0), (1, 0), (1, 0), (3, 0), (3, 0), (3, 0)] : List (Nat × Nat)).set 10 (0, 14)))
def KX28 : List CD := KX27 ++ [.inr (0, 6)]
theorem kl_KX28_4 : KX28[4]? = some (.inl (3, [(0, 5), (1, 0), (0, 9), (0, 10), (1, 0), (1, 0), (0, 11), (0, 12), (0, 13), (1, 0), (0, 14), (3, 0), (3, 0), (3, 0), (3, 0), (1, 0), (1, 0), (3, 0), (3, 0), (3, 0)])) := by decide +kernel
def KX29 : List CD := KX28.set 4 (.inl (3, ([(0, 5), (1, 0), (0, 9), (0, 10), (1, 0), (1, 0), (0, 11), (0, 12), (0, 13), (1, 0), (0, 14), (3, 0), (3, 0), (3, 0), (3, 0), (1, 0), (1, 0), (3, 0), (3, 0), (3, 0)] : List (Nat × Nat)).set 11 (0, 15)))
def KX30 : List CD := KX29 ++ [.inr (0, 6)]
theorem kl_KX30_4 : KX30[4]? = some (.inl (3, [(0, 5), (1, 0), (0, 9), (0, 10), (1, 0), (1, 0), (0, 11), (0, 12), (0, 13), (1, 0), (0, 14), (0, 15), (3, 0), (3, 0), (3, 0), (1, 0), (1, 0), (3, 0), (3, 0), (3, 0)])) := by decide +kernel
def KX31 : List CD := KX30.set 4 (.inl (3, ([(0, 5), (1, 0), (0, 9), (0, 10), (1, 0), (1, 0), (0, 11), (0, 12), (0, 13), (1, 0), (0, 14), (0, 15), (3, 0), (3, 0), (3, 0), (1, 0), (1, 0), (3, 0), (3, 0), (3, 0)] : List (Nat × Nat)).set 12 (0, 16)))
def KX32 : List CD := KX31 ++ [.inr (0, 24)]
theorem kl_KX32_4 : KX32[4]? = some (.inl (3, [(0, 5), (1, 0), (0, 9), (0, 10), (1, 0), (1, 0), (0, 11), (0, 12), (0, 13), (1, 0), (0, 14), (0, 15), (0, 16), (3, 0), (3, 0), (1, 0), (1, 0), (3, 0), (3, 0), (3, 0)])) := by decide +kernel
def KX33 : List CD := KX32.set 4 (.inl (3, ([(0, 5), (1, 0), (0, 9), (0, 10), (1, 0), (1, 0), (0, 11), (0, 12), (0, 13), (1, 0), (0, 14), (0, 15), (0, 16), (3, 0), (3, 0), (1, 0), (1, 0), (3, 0), (3, 0), (3, 0)] : List (Nat × Nat)).set 13 (0, 17)))
def KX34 : List CD := KX33 ++ [.inr (0, 7)]
theorem kl_KX34_18 : KX34[18]? = some (.inr (0, 7)) := by decide +kernel
def KXz1 : Me := u2 Z0 1152 0 (-1)
def KXz2 : Me := u2 KXz1 1152 1 (-1)
def KXz3 : Me := u2 KXz2 1152 2 (-1)
def KXz4 : Me := u2 KXz3 1152 3 (-1)
def KXz5 : Me := u2 KXz4 1152 4 (-1)
def KXz6 : Me := u2 KXz5 1152 5 (-1)
def KXz7 : Me := u2 KXz6 1152 6 (-1)
theorem kl_KX34_4 : KX34[4]? = some (.inl (3, [(0, 5), (1, 0), (0, 9), (0, 10), (1, 0), (1, 0), (0, 11), (0, 12), (0, 13), (1, 0), (0, 14), (0, 15), (0, 16), (0, 17), (3, 0), (1, 0), (1, 0), (3, 0), (3, 0), (3, 0)])) := by decide +kernel
def KX35 : List CD := KX34.set 4 (.inl (3, ([(0, 5), (1, 0), (0, 9), (0, 10), (1, 0), (1, 0), (0, 11), (0, 12), (0, 13), (1, 0), (0, 14), (0, 15), (0, 16), (0, 17), (3, 0), (1, 0), (1, 0), (3, 0), (3, 0), (3, 0)] : List (Nat × Nat)).set 14 (0, 18)))
theorem kl_KX35_4 : KX35[4]? = some (.inl (3, [(0, 5), (1, 0), (0, 9), (0, 10), (1, 0), (1, 0), (0, 11), (0, 12), (0, 13), (1, 0), (0, 14), (0, 15), (0, 16), (0, 17), (0, 18), (1, 0), (1, 0), (3, 0), (3, 0), (3, 0)])) := by decide +kernel
def KXz8 : Me := u2 KXz7 271 0 (-1)
def KX36 : List CD := KX35 ++ [.inr (0, 12)]
theorem kl_KX36_4 : KX36[4]? = some (.inl (3, [(0, 5), (1, 0), (0, 9), (0, 10), (1, 0), (1, 0), (0, 11), (0, 12), (0, 13), (1, 0), (0, 14), (0, 15), (0, 16), (0, 17), (0, 18), (1, 0), (1, 0), (3, 0), (3, 0), (3, 0)])) := by decide +kernel
def KX37 : List CD := KX36.set 4 (.inl (3, ([(0, 5), (1, 0), (0, 9), (0, 10), (1, 0), (1, 0), (0, 11), (0, 12), (0, 13), (1, 0), (0, 14), (0, 15), (0, 16), (0, 17), (0, 18), (1, 0), (1, 0), (3, 0), (3, 0), (3, 0)] : List (Nat × Nat)).set 17 (0, 19)))
def KX38 : List CD := KX37 ++ [.inr (0, 12)]
theorem kl_KX38_4 : KX38[4]? = some (.inl (3, [(0, 5), (1, 0), (0, 9), (0, 10), (1, 0), (1, 0), (0, 11), (0, 12), (0, 13), (1, 0), (0, 14), (0, 15), (0, 16), (0, 17), (0, 18), (1, 0), (1, 0), (0, 19), (3, 0), (3, 0)])) := by decide +kernel
def KX39 : List CD := KX38.set 4 (.inl (3, ([(0, 5), (1, 0), (0, 9), (0, 10), (1, 0), (1, 0), (0, 11), (0, 12), (0, 13), (1, 0), (0, 14), (0, 15), (0, 16), (0, 17), (0, 18), (1, 0), (1, 0), (0, 19), (3, 0), (3, 0)] : List (Nat × Nat)).set 18 (0, 20)))
def KX40 : List CD := KX39 ++ [.inr (0, 12)]
theorem kl_KX40_4 : KX40[4]? = some (.inl (3, [(0, 5), (1, 0), (0, 9), (0, 10), (1, 0), (1, 0), (0, 11), (0, 12), (0, 13), (1, 0), (0, 14), (0, 15), (0, 16), (0, 17), (0, 18), (1, 0), (1, 0), (0, 19), (0, 20), (3, 0)])) := by decide +kernel
def KX41 : List CD := KX40.set 4 (.inl (3, ([(0, 5), (1, 0), (0, 9), (0, 10), (1, 0), (1, 0), (0, 11), (0, 12), (0, 13), (1, 0), (0, 14), (0, 15), (0, 16), (0, 17), (0, 18), (1, 0), (1, 0), (0, 19), (0, 20), (3, 0)] : List (Nat × Nat)).set 19 (0, 21)))
set_option maxRecDepth 20000 in
theorem KX_c3_River_150 : fk_B RX3 cX3_init 1 2 [(0, 6)] KX40 KXz8 [(23, 0), (6, 0)] 150 KX41 KXz8 [] 153 0 0 := fk_seq (nc := 0) (ns := 0) (nc1 := 0) (ns1 := 0) (kb_putR kp_RX3_59 kl_KX40_4 rfl dX3_init_150) kb_nil
set_option maxRecDepth 20000 in
theorem KX_c3_River_148 : fk_B RX3 cX3_init 1 2 [(0, 6)] KX39 KXz8 [(0, 12), (6, 0)] 148 KX41 KXz8 [] 153 1 12 := fk_seq (nc := 1) (ns := 12) (nc1 := 0) (ns1 := 0) (kb_arr (by decide +kernel) (by decide) rfl wk_ar_int (by decide +kernel) (by decide +kernel) (by decide) dX3_init_148) KX_c3_River_150
set_option maxRecDepth 20000 in
theorem KX_c3_River_146 : fk_B RX3 cX3_init 1 2 [(0, 6)] KX39 KXz8 [(6, 0)] 146 KX41 KXz8 [] 153 1 12 := fk_seq (nc := 0) (ns := 0) (nc1 := 1) (ns1 := 12) (kb_bipush dX3_init_146) KX_c3_River_148
set_option maxRecDepth 20000 in
theorem KX_c3_River_145 : fk_B RX3 cX3_init 1 2 [(0, 6)] KX39 KXz8 [] 145 KX41 KXz8 [] 153 1 12 := fk_seq (nc := 0) (ns := 0) (nc1 := 1) (ns1 := 12) (kb_aload (j := 0) rfl dX3_init_145) KX_c3_River_146
set_option maxRecDepth 20000 in
theorem KX_c3_River_142 : fk_B RX3 cX3_init 1 2 [(0, 6)] KX38 KXz8 [(22, 0), (6, 0)] 142 KX41 KXz8 [] 153 1 12 := fk_seq (nc := 0) (ns := 0) (nc1 := 1) (ns1 := 12) (kb_putR kp_RX3_56 kl_KX38_4 rfl dX3_init_142) KX_c3_River_145
set_option maxRecDepth 20000 in
theorem KX_c3_River_140 : fk_B RX3 cX3_init 1 2 [(0, 6)] KX37 KXz8 [(0, 12), (6, 0)] 140 KX41 KXz8 [] 153 2 24 := fk_seq (nc := 1) (ns := 12) (nc1 := 1) (ns1 := 12) (kb_arr (by decide +kernel) (by decide) rfl wk_ar_int (by decide +kernel) (by decide +kernel) (by decide) dX3_init_140) KX_c3_River_142
set_option maxRecDepth 20000 in
theorem KX_c3_River_138 : fk_B RX3 cX3_init 1 2 [(0, 6)] KX37 KXz8 [(6, 0)] 138 KX41 KXz8 [] 153 2 24 := fk_seq (nc := 0) (ns := 0) (nc1 := 2) (ns1 := 24) (kb_bipush dX3_init_138) KX_c3_River_140
set_option maxRecDepth 20000 in
theorem KX_c3_River_137 : fk_B RX3 cX3_init 1 2 [(0, 6)] KX37 KXz8 [] 137 KX41 KXz8 [] 153 2 24 := fk_seq (nc := 0) (ns := 0) (nc1 := 2) (ns1 := 24) (kb_aload (j := 0) rfl dX3_init_137) KX_c3_River_138
set_option maxRecDepth 20000 in
theorem KX_c3_River_134 : fk_B RX3 cX3_init 1 2 [(0, 6)] KX36 KXz8 [(21, 0), (6, 0)] 134 KX41 KXz8 [] 153 2 24 := fk_seq (nc := 0) (ns := 0) (nc1 := 2) (ns1 := 24) (kb_putR kp_RX3_53 kl_KX36_4 rfl dX3_init_134) KX_c3_River_137
set_option maxRecDepth 20000 in
theorem KX_c3_River_132 : fk_B RX3 cX3_init 1 2 [(0, 6)] KX35 KXz8 [(0, 12), (6, 0)] 132 KX41 KXz8 [] 153 3 36 := fk_seq (nc := 1) (ns := 12) (nc1 := 2) (ns1 := 24) (kb_arr (by decide +kernel) (by decide) rfl wk_ar_int (by decide +kernel) (by decide +kernel) (by decide) dX3_init_132) KX_c3_River_134
set_option maxRecDepth 20000 in
theorem KX_c3_River_130 : fk_B RX3 cX3_init 1 2 [(0, 6)] KX35 KXz8 [(6, 0)] 130 KX41 KXz8 [] 153 3 36 := fk_seq (nc := 0) (ns := 0) (nc1 := 3) (ns1 := 36) (kb_bipush dX3_init_130) KX_c3_River_132
set_option maxRecDepth 20000 in
theorem KX_c3_River_129 : fk_B RX3 cX3_init 1 2 [(0, 6)] KX35 KXz8 [] 129 KX41 KXz8 [] 153 3 36 := fk_seq (nc := 0) (ns := 0) (nc1 := 3) (ns1 := 36) (kb_aload (j := 0) rfl dX3_init_129) KX_c3_River_130
set_option maxRecDepth 20000 in
theorem KX_c3_River_126 : fk_B RX3 cX3_init 1 2 [(0, 6)] KX35 KXz7 [(0, (-1)), (6, 0)] 126 KX41 KXz8 [] 153 3 36 := fk_seq (nc := 0) (ns := 0) (nc1 := 3) (ns1 := 36) (kb_putI fp_RX3_49 kl_KX35_4 rfl dX3_init_126) KX_c3_River_129
set_option maxRecDepth 20000 in
theorem KX_c3_River_125 : fk_B RX3 cX3_init 1 2 [(0, 6)] KX35 KXz7 [(6, 0)] 125 KX41 KXz8 [] 153 3 36 := fk_seq (nc := 0) (ns := 0) (nc1 := 3) (ns1 := 36) (kb_iconst dX3_init_125) KX_c3_River_126
set_option maxRecDepth 20000 in
theorem KX_c3_River_124 : fk_B RX3 cX3_init 1 2 [(0, 6)] KX35 KXz7 [] 124 KX41 KXz8 [] 153 3 36 := fk_seq (nc := 0) (ns := 0) (nc1 := 3) (ns1 := 36) (kb_aload (j := 0) rfl dX3_init_124) KX_c3_River_125
set_option maxRecDepth 20000 in
theorem KX_c3_River_121 : fk_B RX3 cX3_init 1 2 [(0, 6)] KX34 KXz7 [(20, 0), (6, 0)] 121 KX41 KXz8 [] 153 3 36 := fk_seq (nc := 0) (ns := 0) (nc1 := 3) (ns1 := 36) (kb_putR kp_RX3_46 kl_KX34_4 rfl dX3_init_121) KX_c3_River_124
set_option maxRecDepth 20000 in
theorem KX_c3_River_120 : fk_B RX3 cX3_init 1 2 [(0, 6)] KX34 KXz6 [(0, (-1)), (0, 6), (20, 0), (20, 0), (6, 0)] 120 KX41 KXz8 [] 153 3 36 := fk_seq (nc := 0) (ns := 0) (nc1 := 3) (ns1 := 36) (kb_iast kl_KX34_18 (by decide +kernel) dX3_init_120) KX_c3_River_121
set_option maxRecDepth 20000 in
theorem KX_c3_River_119 : fk_B RX3 cX3_init 1 2 [(0, 6)] KX34 KXz6 [(0, 6), (20, 0), (20, 0), (6, 0)] 119 KX41 KXz8 [] 153 3 36 := fk_seq (nc := 0) (ns := 0) (nc1 := 3) (ns1 := 36) (kb_iconst dX3_init_119) KX_c3_River_120
set_option maxRecDepth 20000 in
theorem KX_c3_River_117 : fk_B RX3 cX3_init 1 2 [(0, 6)] KX34 KXz6 [(20, 0), (20, 0), (6, 0)] 117 KX41 KXz8 [] 153 3 36 := fk_seq (nc := 0) (ns := 0) (nc1 := 3) (ns1 := 36) (kb_bipush dX3_init_117) KX_c3_River_119
set_option maxRecDepth 20000 in
theorem KX_c3_River_116 : fk_B RX3 cX3_init 1 2 [(0, 6)] KX34 KXz6 [(20, 0), (6, 0)] 116 KX41 KXz8 [] 153 3 36 := fk_seq (nc := 0) (ns := 0) (nc1 := 3) (ns1 := 36) (kb_dup rfl dX3_init_116) KX_c3_River_117
set_option maxRecDepth 20000 in
theorem KX_c3_River_115 : fk_B RX3 cX3_init 1 2 [(0, 6)] KX34 KXz5 [(0, (-1)), (0, 5), (20, 0), (20, 0), (6, 0)] 115 KX41 KXz8 [] 153 3 36 := fk_seq (nc := 0) (ns := 0) (nc1 := 3) (ns1 := 36) (kb_iast kl_KX34_18 (by decide +kernel) dX3_init_115) KX_c3_River_116
set_option maxRecDepth 20000 in
theorem KX_c3_River_114 : fk_B RX3 cX3_init 1 2 [(0, 6)] KX34 KXz5 [(0, 5), (20, 0), (20, 0), (6, 0)] 114 KX41 KXz8 [] 153 3 36 := fk_seq (nc := 0) (ns := 0) (nc1 := 3) (ns1 := 36) (kb_iconst dX3_init_114) KX_c3_River_115
set_option maxRecDepth 20000 in
theorem KX_c3_River_113 : fk_B RX3 cX3_init 1 2 [(0, 6)] KX34 KXz5 [(20, 0), (20, 0), (6, 0)] 113 KX41 KXz8 [] 153 3 36 := fk_seq (nc := 0) (ns := 0) (nc1 := 3) (ns1 := 36) (kb_iconst dX3_init_113) KX_c3_River_114
set_option maxRecDepth 20000 in
theorem KX_c3_River_112 : fk_B RX3 cX3_init 1 2 [(0, 6)] KX34 KXz5 [(20, 0), (6, 0)] 112 KX41 KXz8 [] 153 3 36 := fk_seq (nc := 0) (ns := 0) (nc1 := 3) (ns1 := 36) (kb_dup rfl dX3_init_112) KX_c3_River_113
set_option maxRecDepth 20000 in
theorem KX_c3_River_111 : fk_B RX3 cX3_init 1 2 [(0, 6)] KX34 KXz4 [(0, (-1)), (0, 4), (20, 0), (20, 0), (6, 0)] 111 KX41 KXz8 [] 153 3 36 := fk_seq (nc := 0) (ns := 0) (nc1 := 3) (ns1 := 36) (kb_iast kl_KX34_18 (by decide +kernel) dX3_init_111) KX_c3_River_112
set_option maxRecDepth 20000 in
theorem KX_c3_River_110 : fk_B RX3 cX3_init 1 2 [(0, 6)] KX34 KXz4 [(0, 4), (20, 0), (20, 0), (6, 0)] 110 KX41 KXz8 [] 153 3 36 := fk_seq (nc := 0) (ns := 0) (nc1 := 3) (ns1 := 36) (kb_iconst dX3_init_110) KX_c3_River_111
set_option maxRecDepth 20000 in
theorem KX_c3_River_109 : fk_B RX3 cX3_init 1 2 [(0, 6)] KX34 KXz4 [(20, 0), (20, 0), (6, 0)] 109 KX41 KXz8 [] 153 3 36 := fk_seq (nc := 0) (ns := 0) (nc1 := 3) (ns1 := 36) (kb_iconst dX3_init_109) KX_c3_River_110
set_option maxRecDepth 20000 in
theorem KX_c3_River_108 : fk_B RX3 cX3_init 1 2 [(0, 6)] KX34 KXz4 [(20, 0), (6, 0)] 108 KX41 KXz8 [] 153 3 36 := fk_seq (nc := 0) (ns := 0) (nc1 := 3) (ns1 := 36) (kb_dup rfl dX3_init_108) KX_c3_River_109
set_option maxRecDepth 20000 in
theorem KX_c3_River_107 : fk_B RX3 cX3_init 1 2 [(0, 6)] KX34 KXz3 [(0, (-1)), (0, 3), (20, 0), (20, 0), (6, 0)] 107 KX41 KXz8 [] 153 3 36 := fk_seq (nc := 0) (ns := 0) (nc1 := 3) (ns1 := 36) (kb_iast kl_KX34_18 (by decide +kernel) dX3_init_107) KX_c3_River_108
set_option maxRecDepth 20000 in
theorem KX_c3_River_106 : fk_B RX3 cX3_init 1 2 [(0, 6)] KX34 KXz3 [(0, 3), (20, 0), (20, 0), (6, 0)] 106 KX41 KXz8 [] 153 3 36 := fk_seq (nc := 0) (ns := 0) (nc1 := 3) (ns1 := 36) (kb_iconst dX3_init_106) KX_c3_River_107
set_option maxRecDepth 20000 in
theorem KX_c3_River_105 : fk_B RX3 cX3_init 1 2 [(0, 6)] KX34 KXz3 [(20, 0), (20, 0), (6, 0)] 105 KX41 KXz8 [] 153 3 36 := fk_seq (nc := 0) (ns := 0) (nc1 := 3) (ns1 := 36) (kb_iconst dX3_init_105) KX_c3_River_106
set_option maxRecDepth 20000 in
theorem KX_c3_River_104 : fk_B RX3 cX3_init 1 2 [(0, 6)] KX34 KXz3 [(20, 0), (6, 0)] 104 KX41 KXz8 [] 153 3 36 := fk_seq (nc := 0) (ns := 0) (nc1 := 3) (ns1 := 36) (kb_dup rfl dX3_init_104) KX_c3_River_105
set_option maxRecDepth 20000 in
theorem KX_c3_River_103 : fk_B RX3 cX3_init 1 2 [(0, 6)] KX34 KXz2 [(0, (-1)), (0, 2), (20, 0), (20, 0), (6, 0)] 103 KX41 KXz8 [] 153 3 36 := fk_seq (nc := 0) (ns := 0) (nc1 := 3) (ns1 := 36) (kb_iast kl_KX34_18 (by decide +kernel) dX3_init_103) KX_c3_River_104
set_option maxRecDepth 20000 in
theorem KX_c3_River_102 : fk_B RX3 cX3_init 1 2 [(0, 6)] KX34 KXz2 [(0, 2), (20, 0), (20, 0), (6, 0)] 102 KX41 KXz8 [] 153 3 36 := fk_seq (nc := 0) (ns := 0) (nc1 := 3) (ns1 := 36) (kb_iconst dX3_init_102) KX_c3_River_103
set_option maxRecDepth 20000 in
theorem KX_c3_River_101 : fk_B RX3 cX3_init 1 2 [(0, 6)] KX34 KXz2 [(20, 0), (20, 0), (6, 0)] 101 KX41 KXz8 [] 153 3 36 := fk_seq (nc := 0) (ns := 0) (nc1 := 3) (ns1 := 36) (kb_iconst dX3_init_101) KX_c3_River_102
set_option maxRecDepth 20000 in
theorem KX_c3_River_100 : fk_B RX3 cX3_init 1 2 [(0, 6)] KX34 KXz2 [(20, 0), (6, 0)] 100 KX41 KXz8 [] 153 3 36 := fk_seq (nc := 0) (ns := 0) (nc1 := 3) (ns1 := 36) (kb_dup rfl dX3_init_100) KX_c3_River_101
set_option maxRecDepth 20000 in
theorem KX_c3_River_99 : fk_B RX3 cX3_init 1 2 [(0, 6)] KX34 KXz1 [(0, (-1)), (0, 1), (20, 0), (20, 0), (6, 0)] 99 KX41 KXz8 [] 153 3 36 := fk_seq (nc := 0) (ns := 0) (nc1 := 3) (ns1 := 36) (kb_iast kl_KX34_18 (by decide +kernel) dX3_init_99) KX_c3_River_100
set_option maxRecDepth 20000 in
theorem KX_c3_River_98 : fk_B RX3 cX3_init 1 2 [(0, 6)] KX34 KXz1 [(0, 1), (20, 0), (20, 0), (6, 0)] 98 KX41 KXz8 [] 153 3 36 := fk_seq (nc := 0) (ns := 0) (nc1 := 3) (ns1 := 36) (kb_iconst dX3_init_98) KX_c3_River_99
set_option maxRecDepth 20000 in
theorem KX_c3_River_97 : fk_B RX3 cX3_init 1 2 [(0, 6)] KX34 KXz1 [(20, 0), (20, 0), (6, 0)] 97 KX41 KXz8 [] 153 3 36 := fk_seq (nc := 0) (ns := 0) (nc1 := 3) (ns1 := 36) (kb_iconst dX3_init_97) KX_c3_River_98
set_option maxRecDepth 20000 in
theorem KX_c3_River_96 : fk_B RX3 cX3_init 1 2 [(0, 6)] KX34 KXz1 [(20, 0), (6, 0)] 96 KX41 KXz8 [] 153 3 36 := fk_seq (nc := 0) (ns := 0) (nc1 := 3) (ns1 := 36) (kb_dup rfl dX3_init_96) KX_c3_River_97
set_option maxRecDepth 20000 in
theorem KX_c3_River_95 : fk_B RX3 cX3_init 1 2 [(0, 6)] KX34 Z0 [(0, (-1)), (0, 0), (20, 0), (20, 0), (6, 0)] 95 KX41 KXz8 [] 153 3 36 := fk_seq (nc := 0) (ns := 0) (nc1 := 3) (ns1 := 36) (kb_iast kl_KX34_18 (by decide +kernel) dX3_init_95) KX_c3_River_96
set_option maxRecDepth 20000 in
theorem KX_c3_River_94 : fk_B RX3 cX3_init 1 2 [(0, 6)] KX34 Z0 [(0, 0), (20, 0), (20, 0), (6, 0)] 94 KX41 KXz8 [] 153 3 36 := fk_seq (nc := 0) (ns := 0) (nc1 := 3) (ns1 := 36) (kb_iconst dX3_init_94) KX_c3_River_95
set_option maxRecDepth 20000 in
theorem KX_c3_River_93 : fk_B RX3 cX3_init 1 2 [(0, 6)] KX34 Z0 [(20, 0), (20, 0), (6, 0)] 93 KX41 KXz8 [] 153 3 36 := fk_seq (nc := 0) (ns := 0) (nc1 := 3) (ns1 := 36) (kb_iconst dX3_init_93) KX_c3_River_94
set_option maxRecDepth 20000 in
theorem KX_c3_River_92 : fk_B RX3 cX3_init 1 2 [(0, 6)] KX34 Z0 [(20, 0), (6, 0)] 92 KX41 KXz8 [] 153 3 36 := fk_seq (nc := 0) (ns := 0) (nc1 := 3) (ns1 := 36) (kb_dup rfl dX3_init_92) KX_c3_River_93
set_option maxRecDepth 20000 in
theorem KX_c3_River_90 : fk_B RX3 cX3_init 1 2 [(0, 6)] KX33 Z0 [(0, 7), (6, 0)] 90 KX41 KXz8 [] 153 4 43 := fk_seq (nc := 1) (ns := 7) (nc1 := 3) (ns1 := 36) (kb_arr (by decide +kernel) (by decide) rfl wk_ar_int (by decide +kernel) (by decide +kernel) (by decide) dX3_init_90) KX_c3_River_92
set_option maxRecDepth 20000 in
theorem KX_c3_River_88 : fk_B RX3 cX3_init 1 2 [(0, 6)] KX33 Z0 [(6, 0)] 88 KX41 KXz8 [] 153 4 43 := fk_seq (nc := 0) (ns := 0) (nc1 := 4) (ns1 := 43) (kb_bipush dX3_init_88) KX_c3_River_90
set_option maxRecDepth 20000 in
theorem KX_c3_River_87 : fk_B RX3 cX3_init 1 2 [(0, 6)] KX33 Z0 [] 87 KX41 KXz8 [] 153 4 43 := fk_seq (nc := 0) (ns := 0) (nc1 := 4) (ns1 := 43) (kb_aload (j := 0) rfl dX3_init_87) KX_c3_River_88
set_option maxRecDepth 20000 in
theorem KX_c3_River_84 : fk_B RX3 cX3_init 1 2 [(0, 6)] KX32 Z0 [(19, 0), (6, 0)] 84 KX41 KXz8 [] 153 4 43 := fk_seq (nc := 0) (ns := 0) (nc1 := 4) (ns1 := 43) (kb_putR kp_RX3_43 kl_KX32_4 rfl dX3_init_84) KX_c3_River_87
set_option maxRecDepth 20000 in
theorem KX_c3_River_82 : fk_B RX3 cX3_init 1 2 [(0, 6)] KX31 Z0 [(0, 24), (6, 0)] 82 KX41 KXz8 [] 153 5 67 := fk_seq (nc := 1) (ns := 24) (nc1 := 4) (ns1 := 43) (kb_arr (by decide +kernel) (by decide) rfl wk_ar_int (by decide +kernel) (by decide +kernel) (by decide) dX3_init_82) KX_c3_River_84
set_option maxRecDepth 20000 in
theorem KX_c3_River_80 : fk_B RX3 cX3_init 1 2 [(0, 6)] KX31 Z0 [(6, 0)] 80 KX41 KXz8 [] 153 5 67 := fk_seq (nc := 0) (ns := 0) (nc1 := 5) (ns1 := 67) (kb_bipush dX3_init_80) KX_c3_River_82
set_option maxRecDepth 20000 in
theorem KX_c3_River_79 : fk_B RX3 cX3_init 1 2 [(0, 6)] KX31 Z0 [] 79 KX41 KXz8 [] 153 5 67 := fk_seq (nc := 0) (ns := 0) (nc1 := 5) (ns1 := 67) (kb_aload (j := 0) rfl dX3_init_79) KX_c3_River_80
set_option maxRecDepth 20000 in
theorem KX_c3_River_76 : fk_B RX3 cX3_init 1 2 [(0, 6)] KX30 Z0 [(18, 0), (6, 0)] 76 KX41 KXz8 [] 153 5 67 := fk_seq (nc := 0) (ns := 0) (nc1 := 5) (ns1 := 67) (kb_putR kp_RX3_40 kl_KX30_4 rfl dX3_init_76) KX_c3_River_79
set_option maxRecDepth 20000 in
theorem KX_c3_River_74 : fk_B RX3 cX3_init 1 2 [(0, 6)] KX29 Z0 [(0, 6), (6, 0)] 74 KX41 KXz8 [] 153 6 73 := fk_seq (nc := 1) (ns := 6) (nc1 := 5) (ns1 := 67) (kb_arr (by decide +kernel) (by decide) rfl wk_ar_int (by decide +kernel) (by decide +kernel) (by decide) dX3_init_74) KX_c3_River_76
set_option maxRecDepth 20000 in
theorem KX_c3_River_72 : fk_B RX3 cX3_init 1 2 [(0, 6)] KX29 Z0 [(6, 0)] 72 KX41 KXz8 [] 153 6 73 := fk_seq (nc := 0) (ns := 0) (nc1 := 6) (ns1 := 73) (kb_bipush dX3_init_72) KX_c3_River_74
set_option maxRecDepth 20000 in
theorem KX_c3_River_71 : fk_B RX3 cX3_init 1 2 [(0, 6)] KX29 Z0 [] 71 KX41 KXz8 [] 153 6 73 := fk_seq (nc := 0) (ns := 0) (nc1 := 6) (ns1 := 73) (kb_aload (j := 0) rfl dX3_init_71) KX_c3_River_72
set_option maxRecDepth 20000 in
theorem KX_c3_River_68 : fk_B RX3 cX3_init 1 2 [(0, 6)] KX28 Z0 [(17, 0), (6, 0)] 68 KX41 KXz8 [] 153 6 73 := fk_seq (nc := 0) (ns := 0) (nc1 := 6) (ns1 := 73) (kb_putR kp_RX3_37 kl_KX28_4 rfl dX3_init_68) KX_c3_River_71
set_option maxRecDepth 20000 in
theorem KX_c3_River_66 : fk_B RX3 cX3_init 1 2 [(0, 6)] KX27 Z0 [(0, 6), (6, 0)] 66 KX41 KXz8 [] 153 7 79 := fk_seq (nc := 1) (ns := 6) (nc1 := 6) (ns1 := 73) (kb_arr (by decide +kernel) (by decide) rfl wk_ar_int (by decide +kernel) (by decide +kernel) (by decide) dX3_init_66) KX_c3_River_68
set_option maxRecDepth 20000 in
theorem KX_c3_River_64 : fk_B RX3 cX3_init 1 2 [(0, 6)] KX27 Z0 [(6, 0)] 64 KX41 KXz8 [] 153 7 79 := fk_seq (nc := 0) (ns := 0) (nc1 := 7) (ns1 := 79) (kb_bipush dX3_init_64) KX_c3_River_66
set_option maxRecDepth 20000 in
theorem KX_c3_River_63 : fk_B RX3 cX3_init 1 2 [(0, 6)] KX27 Z0 [] 63 KX41 KXz8 [] 153 7 79 := fk_seq (nc := 0) (ns := 0) (nc1 := 7) (ns1 := 79) (kb_aload (j := 0) rfl dX3_init_63) KX_c3_River_64
set_option maxRecDepth 20000 in
theorem KX_c3_River_60 : fk_B RX3 cX3_init 1 2 [(0, 6)] KX26 Z0 [(16, 0), (6, 0)] 60 KX41 KXz8 [] 153 7 79 := fk_seq (nc := 0) (ns := 0) (nc1 := 7) (ns1 := 79) (kb_putR kp_RX3_34 kl_KX26_4 rfl dX3_init_60) KX_c3_River_63
set_option maxRecDepth 20000 in
theorem KX_c3_River_58 : fk_B RX3 cX3_init 1 2 [(0, 6)] KX25 Z0 [(0, 6), (6, 0)] 58 KX41 KXz8 [] 153 8 85 := fk_seq (nc := 1) (ns := 6) (nc1 := 7) (ns1 := 79) (kb_arr (by decide +kernel) (by decide) rfl wk_ar_int (by decide +kernel) (by decide +kernel) (by decide) dX3_init_58) KX_c3_River_60
set_option maxRecDepth 20000 in
theorem KX_c3_River_56 : fk_B RX3 cX3_init 1 2 [(0, 6)] KX25 Z0 [(6, 0)] 56 KX41 KXz8 [] 153 8 85 := fk_seq (nc := 0) (ns := 0) (nc1 := 8) (ns1 := 85) (kb_bipush dX3_init_56) KX_c3_River_58
set_option maxRecDepth 20000 in
theorem KX_c3_River_55 : fk_B RX3 cX3_init 1 2 [(0, 6)] KX25 Z0 [] 55 KX41 KXz8 [] 153 8 85 := fk_seq (nc := 0) (ns := 0) (nc1 := 8) (ns1 := 85) (kb_aload (j := 0) rfl dX3_init_55) KX_c3_River_56
set_option maxRecDepth 20000 in
theorem KX_c3_River_52 : fk_B RX3 cX3_init 1 2 [(0, 6)] KX24 Z0 [(15, 0), (6, 0)] 52 KX41 KXz8 [] 153 8 85 := fk_seq (nc := 0) (ns := 0) (nc1 := 8) (ns1 := 85) (kb_putR kp_RX3_31 kl_KX24_4 rfl dX3_init_52) KX_c3_River_55
set_option maxRecDepth 20000 in
theorem KX_c3_River_50 : fk_B RX3 cX3_init 1 2 [(0, 6)] KX23 Z0 [(0, 24), (6, 0)] 50 KX41 KXz8 [] 153 9 109 := fk_seq (nc := 1) (ns := 24) (nc1 := 8) (ns1 := 85) (kb_arr (by decide +kernel) (by decide) rfl wk_ar_int (by decide +kernel) (by decide +kernel) (by decide) dX3_init_50) KX_c3_River_52
set_option maxRecDepth 20000 in
theorem KX_c3_River_48 : fk_B RX3 cX3_init 1 2 [(0, 6)] KX23 Z0 [(6, 0)] 48 KX41 KXz8 [] 153 9 109 := fk_seq (nc := 0) (ns := 0) (nc1 := 9) (ns1 := 109) (kb_bipush dX3_init_48) KX_c3_River_50
set_option maxRecDepth 20000 in
theorem KX_c3_River_47 : fk_B RX3 cX3_init 1 2 [(0, 6)] KX23 Z0 [] 47 KX41 KXz8 [] 153 9 109 := fk_seq (nc := 0) (ns := 0) (nc1 := 9) (ns1 := 109) (kb_aload (j := 0) rfl dX3_init_47) KX_c3_River_48
set_option maxRecDepth 20000 in
theorem KX_c3_River_44 : fk_B RX3 cX3_init 1 2 [(0, 6)] KX22 Z0 [(14, 0), (6, 0)] 44 KX41 KXz8 [] 153 9 109 := fk_seq (nc := 0) (ns := 0) (nc1 := 9) (ns1 := 109) (kb_putR kp_RX3_28 kl_KX22_4 rfl dX3_init_44) KX_c3_River_47
set_option maxRecDepth 20000 in
theorem KX_c3_River_42 : fk_B RX3 cX3_init 1 2 [(0, 6)] KX21 Z0 [(0, 6), (6, 0)] 42 KX41 KXz8 [] 153 10 115 := fk_seq (nc := 1) (ns := 6) (nc1 := 9) (ns1 := 109) (kb_arr (by decide +kernel) (by decide) rfl wk_ar_int (by decide +kernel) (by decide +kernel) (by decide) dX3_init_42) KX_c3_River_44
set_option maxRecDepth 20000 in
theorem KX_c3_River_40 : fk_B RX3 cX3_init 1 2 [(0, 6)] KX21 Z0 [(6, 0)] 40 KX41 KXz8 [] 153 10 115 := fk_seq (nc := 0) (ns := 0) (nc1 := 10) (ns1 := 115) (kb_bipush dX3_init_40) KX_c3_River_42
set_option maxRecDepth 20000 in
theorem KX_c3_River_39 : fk_B RX3 cX3_init 1 2 [(0, 6)] KX21 Z0 [] 39 KX41 KXz8 [] 153 10 115 := fk_seq (nc := 0) (ns := 0) (nc1 := 10) (ns1 := 115) (kb_aload (j := 0) rfl dX3_init_39) KX_c3_River_40
set_option maxRecDepth 20000 in
theorem KX_c3_River_36 : fk_B RX3 cX3_init 1 2 [(0, 6)] KX20 Z0 [(13, 0), (6, 0)] 36 KX41 KXz8 [] 153 10 115 := fk_seq (nc := 0) (ns := 0) (nc1 := 10) (ns1 := 115) (kb_putR kp_RX3_25 kl_KX20_4 rfl dX3_init_36) KX_c3_River_39
set_option maxRecDepth 20000 in
theorem KX_c3_River_34 : fk_B RX3 cX3_init 1 2 [(0, 6)] KX19 Z0 [(0, 6), (6, 0)] 34 KX41 KXz8 [] 153 11 121 := fk_seq (nc := 1) (ns := 6) (nc1 := 10) (ns1 := 115) (kb_arr (by decide +kernel) (by decide) rfl wk_ar_int (by decide +kernel) (by decide +kernel) (by decide) dX3_init_34) KX_c3_River_36
set_option maxRecDepth 20000 in
theorem KX_c3_River_32 : fk_B RX3 cX3_init 1 2 [(0, 6)] KX19 Z0 [(6, 0)] 32 KX41 KXz8 [] 153 11 121 := fk_seq (nc := 0) (ns := 0) (nc1 := 11) (ns1 := 121) (kb_bipush dX3_init_32) KX_c3_River_34
set_option maxRecDepth 20000 in
theorem KX_c3_River_31 : fk_B RX3 cX3_init 1 2 [(0, 6)] KX19 Z0 [] 31 KX41 KXz8 [] 153 11 121 := fk_seq (nc := 0) (ns := 0) (nc1 := 11) (ns1 := 121) (kb_aload (j := 0) rfl dX3_init_31) KX_c3_River_32
set_option maxRecDepth 20000 in
theorem KX_c3_River_28 : fk_B RX3 cX3_init 1 2 [(0, 6)] KX18 Z0 [(12, 0), (6, 0)] 28 KX41 KXz8 [] 153 11 121 := fk_seq (nc := 0) (ns := 0) (nc1 := 11) (ns1 := 121) (kb_putR kp_RX3_22 kl_KX18_4 rfl dX3_init_28) KX_c3_River_31
set_option maxRecDepth 20000 in
theorem KX_c3_River_26 : fk_B RX3 cX3_init 1 2 [(0, 6)] KX17 Z0 [(0, 10), (6, 0)] 26 KX41 KXz8 [] 153 12 131 := fk_seq (nc := 1) (ns := 10) (nc1 := 11) (ns1 := 121) (kb_arr (by decide +kernel) (by decide) rfl wk_ar_int (by decide +kernel) (by decide +kernel) (by decide) dX3_init_26) KX_c3_River_28
set_option maxRecDepth 20000 in
theorem KX_c3_River_24 : fk_B RX3 cX3_init 1 2 [(0, 6)] KX17 Z0 [(6, 0)] 24 KX41 KXz8 [] 153 12 131 := fk_seq (nc := 0) (ns := 0) (nc1 := 12) (ns1 := 131) (kb_bipush dX3_init_24) KX_c3_River_26
set_option maxRecDepth 20000 in
theorem KX_c3_River_23 : fk_B RX3 cX3_init 1 2 [(0, 6)] KX17 Z0 [] 23 KX41 KXz8 [] 153 12 131 := fk_seq (nc := 0) (ns := 0) (nc1 := 12) (ns1 := 131) (kb_aload (j := 0) rfl dX3_init_23) KX_c3_River_24
set_option maxRecDepth 20000 in
theorem KX_c3_River_20 : fk_B RX3 cX3_init 1 2 [(0, 6)] KX16 Z0 [(11, 0), (6, 0)] 20 KX41 KXz8 [] 153 12 131 := fk_seq (nc := 0) (ns := 0) (nc1 := 12) (ns1 := 131) (kb_putR kp_RX3_18 kl_KX16_4 rfl dX3_init_20) KX_c3_River_23
set_option maxRecDepth 20000 in
theorem KX_c3_River_18 : fk_B RX3 cX3_init 1 2 [(0, 6)] KX15 Z0 [(0, 10), (6, 0)] 18 KX41 KXz8 [] 153 13 141 := fk_seq (nc := 1) (ns := 10) (nc1 := 12) (ns1 := 131) (kb_arr (by decide +kernel) (by decide) rfl wk_ar_int (by decide +kernel) (by decide +kernel) (by decide) dX3_init_18) KX_c3_River_20
set_option maxRecDepth 20000 in
theorem KX_c3_River_16 : fk_B RX3 cX3_init 1 2 [(0, 6)] KX15 Z0 [(6, 0)] 16 KX41 KXz8 [] 153 13 141 := fk_seq (nc := 0) (ns := 0) (nc1 := 13) (ns1 := 141) (kb_bipush dX3_init_16) KX_c3_River_18
set_option maxRecDepth 20000 in
theorem KX_c3_River_15 : fk_B RX3 cX3_init 1 2 [(0, 6)] KX15 Z0 [] 15 KX41 KXz8 [] 153 13 141 := fk_seq (nc := 0) (ns := 0) (nc1 := 13) (ns1 := 141) (kb_aload (j := 0) rfl dX3_init_15) KX_c3_River_16
set_option maxRecDepth 20000 in
theorem KX_c3_River_12 : fk_B RX3 cX3_init 1 2 [(0, 6)] KX14 Z0 [(7, 0), (6, 0)] 12 KX41 KXz8 [] 153 13 141 := fk_seq (nc := 0) (ns := 0) (nc1 := 13) (ns1 := 141) (kb_putR kp_RX3_12 kl_KX14_4 rfl dX3_init_12) KX_c3_River_15
set_option maxRecDepth 20000 in
theorem KX_c3_River_9 : fk_B RX3 cX3_init 1 2 [(0, 6)] KX8 Z0 [(7, 0), (7, 0), (6, 0)] 9 KX41 KXz8 [] 153 16 219 := fk_seq (nc := 3) (ns := 78) (nc1 := 13) (ns1 := 141) (kb_ctor KX_c2_Names kn_RX3_11 (by decide) (by decide) (by decide) dX3_init_9) KX_c3_River_12
set_option maxRecDepth 20000 in
theorem KX_c3_River_8 : fk_B RX3 cX3_init 1 2 [(0, 6)] KX8 Z0 [(7, 0), (6, 0)] 8 KX41 KXz8 [] 153 16 219 := fk_seq (nc := 0) (ns := 0) (nc1 := 16) (ns1 := 219) (kb_dup rfl dX3_init_8) KX_c3_River_9
set_option maxRecDepth 20000 in
theorem KX_c3_River_5 : fk_B RX3 cX3_init 1 2 [(0, 6)] KX7 Z0 [(6, 0)] 5 KX41 KXz8 [] 153 17 223 := fk_seq (nc := 1) (ns := 4) (nc1 := 16) (ns1 := 219) (kb_new (by decide +kernel) rfl in_X0 tyX0_ok wk_cl_RX3_9 wk_in_X0 wn_RX0 kbl_X0 (by decide) (by decide) dX3_init_5) KX_c3_River_8
set_option maxRecDepth 20000 in
theorem KX_c3_River_4 : fk_B RX3 cX3_init 1 2 [(0, 6)] KX7 Z0 [] 4 KX41 KXz8 [] 153 17 223 := fk_seq (nc := 0) (ns := 0) (nc1 := 17) (ns1 := 223) (kb_aload (j := 0) rfl dX3_init_4) KX_c3_River_5
set_option maxRecDepth 20000 in
theorem KX_c3_River_1 : fk_B RX3 cX3_init 1 2 [(0, 6)] KX7 Z0 [(6, 0)] 1 KX41 KXz8 [] 153 17 223 := fk_seq (nc := 0) (ns := 0) (nc1 := 17) (ns1 := 223) (kb_obj ko_RX3_3 (by decide) dX3_init_1) KX_c3_River_4
set_option maxRecDepth 20000 in
theorem KX_c3_River_0 : fk_B RX3 cX3_init 1 2 [(0, 6)] KX7 Z0 [] 0 KX41 KXz8 [] 153 17 223 := fk_seq (nc := 0) (ns := 0) (nc1 := 17) (ns1 := 223) (kb_aload (j := 0) rfl dX3_init_0) KX_c3_River_1
theorem KX_c3_River : fk_C yX3_init cX3_init 1 2 4 KX7 Z0 KX41 KXz8 17 223 := fk_close (by decide +kernel) rfl (by decide) (show fk_B yX3_init.cls cX3_init 1 2 [(0, 6)] KX7 Z0 [] 0 KX41 KXz8 [] 153 17 223 from KX_c3_River_0) dX3_init_153
theorem kl_KX41_3 : KX41[3]? = some (.inl (4, [(3, 0), (3, 0), (3, 0), (3, 0)])) := by decide +kernel
def KX42 : List CD := KX41.set 3 (.inl (4, ([(3, 0), (3, 0), (3, 0), (3, 0)] : List (Nat × Nat)).set 0 (0, 4)))
def KX43 : List CD := KX42 ++ [.inl (1, [(1, 0), (3, 0), (3, 0), (3, 0)])]
def KX44 : List CD := KX43 ++ [.inr (0, 40)]
theorem kl_KX44_22 : KX44[22]? = some (.inl (1, [(1, 0), (3, 0), (3, 0), (3, 0)])) := by decide +kernel
def KX45 : List CD := KX44.set 22 (.inl (1, ([(1, 0), (3, 0), (3, 0), (3, 0)] : List (Nat × Nat)).set 1 (0, 23)))
def KX46 : List CD := KX45 ++ [.inr (0, 40)]
theorem kl_KX46_22 : KX46[22]? = some (.inl (1, [(1, 0), (0, 23), (3, 0), (3, 0)])) := by decide +kernel
def KX47 : List CD := KX46.set 22 (.inl (1, ([(1, 0), (0, 23), (3, 0), (3, 0)] : List (Nat × Nat)).set 2 (0, 24)))
def KX48 : List CD := KX47 ++ [.inr (0, 40)]
theorem kl_KX48_22 : KX48[22]? = some (.inl (1, [(1, 0), (0, 23), (0, 24), (3, 0)])) := by decide +kernel
def KX49 : List CD := KX48.set 22 (.inl (1, ([(1, 0), (0, 23), (0, 24), (3, 0)] : List (Nat × Nat)).set 3 (0, 25)))
set_option maxRecDepth 20000 in
theorem KX_c4_Order_25 : fk_B RX1 cX1_init 1 1 [(0, 24)] KX48 KXz8 [(27, 0), (24, 0)] 25 KX49 KXz8 [] 28 0 0 := fk_seq (nc := 0) (ns := 0) (nc1 := 0) (ns1 := 0) (kb_putR kp_RX1_18 kl_KX48_22 rfl dX1_init_25) kb_nil
set_option maxRecDepth 20000 in
theorem KX_c4_Order_23 : fk_B RX1 cX1_init 1 1 [(0, 24)] KX47 KXz8 [(0, 40), (24, 0)] 23 KX49 KXz8 [] 28 1 40 := fk_seq (nc := 1) (ns := 40) (nc1 := 0) (ns1 := 0) (kb_arr (by decide +kernel) (by decide) rfl wk_ar_int (by decide +kernel) (by decide +kernel) (by decide) dX1_init_23) KX_c4_Order_25
set_option maxRecDepth 20000 in
theorem KX_c4_Order_21 : fk_B RX1 cX1_init 1 1 [(0, 24)] KX47 KXz8 [(24, 0)] 21 KX49 KXz8 [] 28 1 40 := fk_seq (nc := 0) (ns := 0) (nc1 := 1) (ns1 := 40) (kb_bipush dX1_init_21) KX_c4_Order_23
set_option maxRecDepth 20000 in
theorem KX_c4_Order_20 : fk_B RX1 cX1_init 1 1 [(0, 24)] KX47 KXz8 [] 20 KX49 KXz8 [] 28 1 40 := fk_seq (nc := 0) (ns := 0) (nc1 := 1) (ns1 := 40) (kb_aload (j := 0) rfl dX1_init_20) KX_c4_Order_21
set_option maxRecDepth 20000 in
theorem KX_c4_Order_17 : fk_B RX1 cX1_init 1 1 [(0, 24)] KX46 KXz8 [(26, 0), (24, 0)] 17 KX49 KXz8 [] 28 1 40 := fk_seq (nc := 0) (ns := 0) (nc1 := 1) (ns1 := 40) (kb_putR kp_RX1_15 kl_KX46_22 rfl dX1_init_17) KX_c4_Order_20
set_option maxRecDepth 20000 in
theorem KX_c4_Order_15 : fk_B RX1 cX1_init 1 1 [(0, 24)] KX45 KXz8 [(0, 40), (24, 0)] 15 KX49 KXz8 [] 28 2 80 := fk_seq (nc := 1) (ns := 40) (nc1 := 1) (ns1 := 40) (kb_arr (by decide +kernel) (by decide) rfl wk_ar_int (by decide +kernel) (by decide +kernel) (by decide) dX1_init_15) KX_c4_Order_17
set_option maxRecDepth 20000 in
theorem KX_c4_Order_13 : fk_B RX1 cX1_init 1 1 [(0, 24)] KX45 KXz8 [(24, 0)] 13 KX49 KXz8 [] 28 2 80 := fk_seq (nc := 0) (ns := 0) (nc1 := 2) (ns1 := 80) (kb_bipush dX1_init_13) KX_c4_Order_15
set_option maxRecDepth 20000 in
theorem KX_c4_Order_12 : fk_B RX1 cX1_init 1 1 [(0, 24)] KX45 KXz8 [] 12 KX49 KXz8 [] 28 2 80 := fk_seq (nc := 0) (ns := 0) (nc1 := 2) (ns1 := 80) (kb_aload (j := 0) rfl dX1_init_12) KX_c4_Order_13
set_option maxRecDepth 20000 in
theorem KX_c4_Order_9 : fk_B RX1 cX1_init 1 1 [(0, 24)] KX44 KXz8 [(25, 0), (24, 0)] 9 KX49 KXz8 [] 28 2 80 := fk_seq (nc := 0) (ns := 0) (nc1 := 2) (ns1 := 80) (kb_putR kp_RX1_9 kl_KX44_22 rfl dX1_init_9) KX_c4_Order_12
set_option maxRecDepth 20000 in
theorem KX_c4_Order_7 : fk_B RX1 cX1_init 1 1 [(0, 24)] KX43 KXz8 [(0, 40), (24, 0)] 7 KX49 KXz8 [] 28 3 120 := fk_seq (nc := 1) (ns := 40) (nc1 := 2) (ns1 := 80) (kb_arr (by decide +kernel) (by decide) rfl wk_ar_int (by decide +kernel) (by decide +kernel) (by decide) dX1_init_7) KX_c4_Order_9
set_option maxRecDepth 20000 in
theorem KX_c4_Order_5 : fk_B RX1 cX1_init 1 1 [(0, 24)] KX43 KXz8 [(24, 0)] 5 KX49 KXz8 [] 28 3 120 := fk_seq (nc := 0) (ns := 0) (nc1 := 3) (ns1 := 120) (kb_bipush dX1_init_5) KX_c4_Order_7
set_option maxRecDepth 20000 in
theorem KX_c4_Order_4 : fk_B RX1 cX1_init 1 1 [(0, 24)] KX43 KXz8 [] 4 KX49 KXz8 [] 28 3 120 := fk_seq (nc := 0) (ns := 0) (nc1 := 3) (ns1 := 120) (kb_aload (j := 0) rfl dX1_init_4) KX_c4_Order_5
set_option maxRecDepth 20000 in
theorem KX_c4_Order_1 : fk_B RX1 cX1_init 1 1 [(0, 24)] KX43 KXz8 [(24, 0)] 1 KX49 KXz8 [] 28 3 120 := fk_seq (nc := 0) (ns := 0) (nc1 := 3) (ns1 := 120) (kb_obj ko_RX1_3 (by decide) dX1_init_1) KX_c4_Order_4
set_option maxRecDepth 20000 in
theorem KX_c4_Order_0 : fk_B RX1 cX1_init 1 1 [(0, 24)] KX43 KXz8 [] 0 KX49 KXz8 [] 28 3 120 := fk_seq (nc := 0) (ns := 0) (nc1 := 3) (ns1 := 120) (kb_aload (j := 0) rfl dX1_init_0) KX_c4_Order_1
theorem KX_c4_Order : fk_C yX1_init cX1_init 1 1 22 KX43 KXz8 KX49 KXz8 3 120 := fk_close (by decide +kernel) rfl (by decide) (show fk_B yX1_init.cls cX1_init 1 1 [(0, 24)] KX43 KXz8 [] 0 KX49 KXz8 [] 28 3 120 from KX_c4_Order_0) dX1_init_28
theorem kl_KX49_3 : KX49[3]? = some (.inl (4, [(0, 4), (3, 0), (3, 0), (3, 0)])) := by decide +kernel
def KX50 : List CD := KX49.set 3 (.inl (4, ([(0, 4), (3, 0), (3, 0), (3, 0)] : List (Nat × Nat)).set 1 (0, 22)))
def KX51 : List CD := KX50 ++ [.inl (6, [(1, 0), (3, 0), (3, 0), (3, 0)])]
def KX52 : List CD := KX51 ++ [.inr (0, 20)]
theorem kl_KX52_26 : KX52[26]? = some (.inl (6, [(1, 0), (3, 0), (3, 0), (3, 0)])) := by decide +kernel
def KX53 : List CD := KX52.set 26 (.inl (6, ([(1, 0), (3, 0), (3, 0), (3, 0)] : List (Nat × Nat)).set 1 (0, 27)))
def KX54 : List CD := KX53 ++ [.inr (0, 20)]
theorem kl_KX54_26 : KX54[26]? = some (.inl (6, [(1, 0), (0, 27), (3, 0), (3, 0)])) := by decide +kernel
def KX55 : List CD := KX54.set 26 (.inl (6, ([(1, 0), (0, 27), (3, 0), (3, 0)] : List (Nat × Nat)).set 2 (0, 28)))
def KX56 : List CD := KX55 ++ [.inr (0, 20)]
theorem kl_KX56_26 : KX56[26]? = some (.inl (6, [(1, 0), (0, 27), (0, 28), (3, 0)])) := by decide +kernel
def KX57 : List CD := KX56.set 26 (.inl (6, ([(1, 0), (0, 27), (0, 28), (3, 0)] : List (Nat × Nat)).set 3 (0, 29)))
set_option maxRecDepth 20000 in
theorem KX_c5_Sights_25 : fk_B RX8 cX8_init 1 1 [(0, 28)] KX56 KXz8 [(31, 0), (28, 0)] 25 KX57 KXz8 [] 28 0 0 := fk_seq (nc := 0) (ns := 0) (nc1 := 0) (ns1 := 0) (kb_putR kp_RX8_18 kl_KX56_26 rfl dX8_init_25) kb_nil
set_option maxRecDepth 20000 in
theorem KX_c5_Sights_23 : fk_B RX8 cX8_init 1 1 [(0, 28)] KX55 KXz8 [(0, 20), (28, 0)] 23 KX57 KXz8 [] 28 1 20 := fk_seq (nc := 1) (ns := 20) (nc1 := 0) (ns1 := 0) (kb_arr (by decide +kernel) (by decide) rfl wk_ar_int (by decide +kernel) (by decide +kernel) (by decide) dX8_init_23) KX_c5_Sights_25
set_option maxRecDepth 20000 in
theorem KX_c5_Sights_21 : fk_B RX8 cX8_init 1 1 [(0, 28)] KX55 KXz8 [(28, 0)] 21 KX57 KXz8 [] 28 1 20 := fk_seq (nc := 0) (ns := 0) (nc1 := 1) (ns1 := 20) (kb_bipush dX8_init_21) KX_c5_Sights_23
set_option maxRecDepth 20000 in
theorem KX_c5_Sights_20 : fk_B RX8 cX8_init 1 1 [(0, 28)] KX55 KXz8 [] 20 KX57 KXz8 [] 28 1 20 := fk_seq (nc := 0) (ns := 0) (nc1 := 1) (ns1 := 20) (kb_aload (j := 0) rfl dX8_init_20) KX_c5_Sights_21
set_option maxRecDepth 20000 in
theorem KX_c5_Sights_17 : fk_B RX8 cX8_init 1 1 [(0, 28)] KX54 KXz8 [(30, 0), (28, 0)] 17 KX57 KXz8 [] 28 1 20 := fk_seq (nc := 0) (ns := 0) (nc1 := 1) (ns1 := 20) (kb_putR kp_RX8_15 kl_KX54_26 rfl dX8_init_17) KX_c5_Sights_20
set_option maxRecDepth 20000 in
theorem KX_c5_Sights_15 : fk_B RX8 cX8_init 1 1 [(0, 28)] KX53 KXz8 [(0, 20), (28, 0)] 15 KX57 KXz8 [] 28 2 40 := fk_seq (nc := 1) (ns := 20) (nc1 := 1) (ns1 := 20) (kb_arr (by decide +kernel) (by decide) rfl wk_ar_int (by decide +kernel) (by decide +kernel) (by decide) dX8_init_15) KX_c5_Sights_17
set_option maxRecDepth 20000 in
theorem KX_c5_Sights_13 : fk_B RX8 cX8_init 1 1 [(0, 28)] KX53 KXz8 [(28, 0)] 13 KX57 KXz8 [] 28 2 40 := fk_seq (nc := 0) (ns := 0) (nc1 := 2) (ns1 := 40) (kb_bipush dX8_init_13) KX_c5_Sights_15
set_option maxRecDepth 20000 in
theorem KX_c5_Sights_12 : fk_B RX8 cX8_init 1 1 [(0, 28)] KX53 KXz8 [] 12 KX57 KXz8 [] 28 2 40 := fk_seq (nc := 0) (ns := 0) (nc1 := 2) (ns1 := 40) (kb_aload (j := 0) rfl dX8_init_12) KX_c5_Sights_13
set_option maxRecDepth 20000 in
theorem KX_c5_Sights_9 : fk_B RX8 cX8_init 1 1 [(0, 28)] KX52 KXz8 [(29, 0), (28, 0)] 9 KX57 KXz8 [] 28 2 40 := fk_seq (nc := 0) (ns := 0) (nc1 := 2) (ns1 := 40) (kb_putR kp_RX8_9 kl_KX52_26 rfl dX8_init_9) KX_c5_Sights_12
set_option maxRecDepth 20000 in
theorem KX_c5_Sights_7 : fk_B RX8 cX8_init 1 1 [(0, 28)] KX51 KXz8 [(0, 20), (28, 0)] 7 KX57 KXz8 [] 28 3 60 := fk_seq (nc := 1) (ns := 20) (nc1 := 2) (ns1 := 40) (kb_arr (by decide +kernel) (by decide) rfl wk_ar_int (by decide +kernel) (by decide +kernel) (by decide) dX8_init_7) KX_c5_Sights_9
set_option maxRecDepth 20000 in
theorem KX_c5_Sights_5 : fk_B RX8 cX8_init 1 1 [(0, 28)] KX51 KXz8 [(28, 0)] 5 KX57 KXz8 [] 28 3 60 := fk_seq (nc := 0) (ns := 0) (nc1 := 3) (ns1 := 60) (kb_bipush dX8_init_5) KX_c5_Sights_7
set_option maxRecDepth 20000 in
theorem KX_c5_Sights_4 : fk_B RX8 cX8_init 1 1 [(0, 28)] KX51 KXz8 [] 4 KX57 KXz8 [] 28 3 60 := fk_seq (nc := 0) (ns := 0) (nc1 := 3) (ns1 := 60) (kb_aload (j := 0) rfl dX8_init_4) KX_c5_Sights_5
set_option maxRecDepth 20000 in
theorem KX_c5_Sights_1 : fk_B RX8 cX8_init 1 1 [(0, 28)] KX51 KXz8 [(28, 0)] 1 KX57 KXz8 [] 28 3 60 := fk_seq (nc := 0) (ns := 0) (nc1 := 3) (ns1 := 60) (kb_obj ko_RX8_3 (by decide) dX8_init_1) KX_c5_Sights_4
set_option maxRecDepth 20000 in
theorem KX_c5_Sights_0 : fk_B RX8 cX8_init 1 1 [(0, 28)] KX51 KXz8 [] 0 KX57 KXz8 [] 28 3 60 := fk_seq (nc := 0) (ns := 0) (nc1 := 3) (ns1 := 60) (kb_aload (j := 0) rfl dX8_init_0) KX_c5_Sights_1
theorem KX_c5_Sights : fk_C yX8_init cX8_init 1 1 26 KX51 KXz8 KX57 KXz8 3 60 := fk_close (by decide +kernel) rfl (by decide) (show fk_B yX8_init.cls cX8_init 1 1 [(0, 28)] KX51 KXz8 [] 0 KX57 KXz8 [] 28 3 60 from KX_c5_Sights_0) dX8_init_28
theorem kl_KX57_3 : KX57[3]? = some (.inl (4, [(0, 4), (0, 22), (3, 0), (3, 0)])) := by decide +kernel
def KX58 : List CD := KX57.set 3 (.inl (4, ([(0, 4), (0, 22), (3, 0), (3, 0)] : List (Nat × Nat)).set 2 (0, 26)))
def KX59 : List CD := KX58 ++ [.inl (5, [(1, 0), (1, 0), (3, 0), (3, 0), (3, 0), (3, 0), (3, 0)])]
def KX60 : List CD := KX59 ++ [.inr (0, 40)]
theorem kl_KX60_30 : KX60[30]? = some (.inl (5, [(1, 0), (1, 0), (3, 0), (3, 0), (3, 0), (3, 0), (3, 0)])) := by decide +kernel
def KX61 : List CD := KX60.set 30 (.inl (5, ([(1, 0), (1, 0), (3, 0), (3, 0), (3, 0), (3, 0), (3, 0)] : List (Nat × Nat)).set 2 (0, 31)))
def KX62 : List CD := KX61 ++ [.inr (0, 40)]
theorem kl_KX62_30 : KX62[30]? = some (.inl (5, [(1, 0), (1, 0), (0, 31), (3, 0), (3, 0), (3, 0), (3, 0)])) := by decide +kernel
def KX63 : List CD := KX62.set 30 (.inl (5, ([(1, 0), (1, 0), (0, 31), (3, 0), (3, 0), (3, 0), (3, 0)] : List (Nat × Nat)).set 3 (0, 32)))
def KX64 : List CD := KX63 ++ [.inr (0, 40)]
theorem kl_KX64_30 : KX64[30]? = some (.inl (5, [(1, 0), (1, 0), (0, 31), (0, 32), (3, 0), (3, 0), (3, 0)])) := by decide +kernel
def KX65 : List CD := KX64.set 30 (.inl (5, ([(1, 0), (1, 0), (0, 31), (0, 32), (3, 0), (3, 0), (3, 0)] : List (Nat × Nat)).set 4 (0, 33)))
def KX66 : List CD := KX65 ++ [.inr (0, 40)]
theorem kl_KX66_30 : KX66[30]? = some (.inl (5, [(1, 0), (1, 0), (0, 31), (0, 32), (0, 33), (3, 0), (3, 0)])) := by decide +kernel
def KX67 : List CD := KX66.set 30 (.inl (5, ([(1, 0), (1, 0), (0, 31), (0, 32), (0, 33), (3, 0), (3, 0)] : List (Nat × Nat)).set 5 (0, 34)))
def KX68 : List CD := KX67 ++ [.inr (0, 40)]
theorem kl_KX68_30 : KX68[30]? = some (.inl (5, [(1, 0), (1, 0), (0, 31), (0, 32), (0, 33), (0, 34), (3, 0)])) := by decide +kernel
def KX69 : List CD := KX68.set 30 (.inl (5, ([(1, 0), (1, 0), (0, 31), (0, 32), (0, 33), (0, 34), (3, 0)] : List (Nat × Nat)).set 6 (0, 35)))
set_option maxRecDepth 20000 in
theorem KX_c6_Sentence_41 : fk_B RX6 cX6_init 1 1 [(0, 32)] KX68 KXz8 [(37, 0), (32, 0)] 41 KX69 KXz8 [] 44 0 0 := fk_seq (nc := 0) (ns := 0) (nc1 := 0) (ns1 := 0) (kb_putR kp_RX6_24 kl_KX68_30 rfl dX6_init_41) kb_nil
set_option maxRecDepth 20000 in
theorem KX_c6_Sentence_39 : fk_B RX6 cX6_init 1 1 [(0, 32)] KX67 KXz8 [(0, 40), (32, 0)] 39 KX69 KXz8 [] 44 1 40 := fk_seq (nc := 1) (ns := 40) (nc1 := 0) (ns1 := 0) (kb_arr (by decide +kernel) (by decide) rfl wk_ar_int (by decide +kernel) (by decide +kernel) (by decide) dX6_init_39) KX_c6_Sentence_41
set_option maxRecDepth 20000 in
theorem KX_c6_Sentence_37 : fk_B RX6 cX6_init 1 1 [(0, 32)] KX67 KXz8 [(32, 0)] 37 KX69 KXz8 [] 44 1 40 := fk_seq (nc := 0) (ns := 0) (nc1 := 1) (ns1 := 40) (kb_bipush dX6_init_37) KX_c6_Sentence_39
set_option maxRecDepth 20000 in
theorem KX_c6_Sentence_36 : fk_B RX6 cX6_init 1 1 [(0, 32)] KX67 KXz8 [] 36 KX69 KXz8 [] 44 1 40 := fk_seq (nc := 0) (ns := 0) (nc1 := 1) (ns1 := 40) (kb_aload (j := 0) rfl dX6_init_36) KX_c6_Sentence_37
set_option maxRecDepth 20000 in
theorem KX_c6_Sentence_33 : fk_B RX6 cX6_init 1 1 [(0, 32)] KX66 KXz8 [(36, 0), (32, 0)] 33 KX69 KXz8 [] 44 1 40 := fk_seq (nc := 0) (ns := 0) (nc1 := 1) (ns1 := 40) (kb_putR kp_RX6_21 kl_KX66_30 rfl dX6_init_33) KX_c6_Sentence_36
set_option maxRecDepth 20000 in
theorem KX_c6_Sentence_31 : fk_B RX6 cX6_init 1 1 [(0, 32)] KX65 KXz8 [(0, 40), (32, 0)] 31 KX69 KXz8 [] 44 2 80 := fk_seq (nc := 1) (ns := 40) (nc1 := 1) (ns1 := 40) (kb_arr (by decide +kernel) (by decide) rfl wk_ar_int (by decide +kernel) (by decide +kernel) (by decide) dX6_init_31) KX_c6_Sentence_33
set_option maxRecDepth 20000 in
theorem KX_c6_Sentence_29 : fk_B RX6 cX6_init 1 1 [(0, 32)] KX65 KXz8 [(32, 0)] 29 KX69 KXz8 [] 44 2 80 := fk_seq (nc := 0) (ns := 0) (nc1 := 2) (ns1 := 80) (kb_bipush dX6_init_29) KX_c6_Sentence_31
set_option maxRecDepth 20000 in
theorem KX_c6_Sentence_28 : fk_B RX6 cX6_init 1 1 [(0, 32)] KX65 KXz8 [] 28 KX69 KXz8 [] 44 2 80 := fk_seq (nc := 0) (ns := 0) (nc1 := 2) (ns1 := 80) (kb_aload (j := 0) rfl dX6_init_28) KX_c6_Sentence_29
set_option maxRecDepth 20000 in
theorem KX_c6_Sentence_25 : fk_B RX6 cX6_init 1 1 [(0, 32)] KX64 KXz8 [(35, 0), (32, 0)] 25 KX69 KXz8 [] 44 2 80 := fk_seq (nc := 0) (ns := 0) (nc1 := 2) (ns1 := 80) (kb_putR kp_RX6_18 kl_KX64_30 rfl dX6_init_25) KX_c6_Sentence_28
set_option maxRecDepth 20000 in
theorem KX_c6_Sentence_23 : fk_B RX6 cX6_init 1 1 [(0, 32)] KX63 KXz8 [(0, 40), (32, 0)] 23 KX69 KXz8 [] 44 3 120 := fk_seq (nc := 1) (ns := 40) (nc1 := 2) (ns1 := 80) (kb_arr (by decide +kernel) (by decide) rfl wk_ar_int (by decide +kernel) (by decide +kernel) (by decide) dX6_init_23) KX_c6_Sentence_25
set_option maxRecDepth 20000 in
theorem KX_c6_Sentence_21 : fk_B RX6 cX6_init 1 1 [(0, 32)] KX63 KXz8 [(32, 0)] 21 KX69 KXz8 [] 44 3 120 := fk_seq (nc := 0) (ns := 0) (nc1 := 3) (ns1 := 120) (kb_bipush dX6_init_21) KX_c6_Sentence_23
set_option maxRecDepth 20000 in
theorem KX_c6_Sentence_20 : fk_B RX6 cX6_init 1 1 [(0, 32)] KX63 KXz8 [] 20 KX69 KXz8 [] 44 3 120 := fk_seq (nc := 0) (ns := 0) (nc1 := 3) (ns1 := 120) (kb_aload (j := 0) rfl dX6_init_20) KX_c6_Sentence_21
set_option maxRecDepth 20000 in
theorem KX_c6_Sentence_17 : fk_B RX6 cX6_init 1 1 [(0, 32)] KX62 KXz8 [(34, 0), (32, 0)] 17 KX69 KXz8 [] 44 3 120 := fk_seq (nc := 0) (ns := 0) (nc1 := 3) (ns1 := 120) (kb_putR kp_RX6_15 kl_KX62_30 rfl dX6_init_17) KX_c6_Sentence_20
set_option maxRecDepth 20000 in
theorem KX_c6_Sentence_15 : fk_B RX6 cX6_init 1 1 [(0, 32)] KX61 KXz8 [(0, 40), (32, 0)] 15 KX69 KXz8 [] 44 4 160 := fk_seq (nc := 1) (ns := 40) (nc1 := 3) (ns1 := 120) (kb_arr (by decide +kernel) (by decide) rfl wk_ar_int (by decide +kernel) (by decide +kernel) (by decide) dX6_init_15) KX_c6_Sentence_17
set_option maxRecDepth 20000 in
theorem KX_c6_Sentence_13 : fk_B RX6 cX6_init 1 1 [(0, 32)] KX61 KXz8 [(32, 0)] 13 KX69 KXz8 [] 44 4 160 := fk_seq (nc := 0) (ns := 0) (nc1 := 4) (ns1 := 160) (kb_bipush dX6_init_13) KX_c6_Sentence_15
set_option maxRecDepth 20000 in
theorem KX_c6_Sentence_12 : fk_B RX6 cX6_init 1 1 [(0, 32)] KX61 KXz8 [] 12 KX69 KXz8 [] 44 4 160 := fk_seq (nc := 0) (ns := 0) (nc1 := 4) (ns1 := 160) (kb_aload (j := 0) rfl dX6_init_12) KX_c6_Sentence_13
set_option maxRecDepth 20000 in
theorem KX_c6_Sentence_9 : fk_B RX6 cX6_init 1 1 [(0, 32)] KX60 KXz8 [(33, 0), (32, 0)] 9 KX69 KXz8 [] 44 4 160 := fk_seq (nc := 0) (ns := 0) (nc1 := 4) (ns1 := 160) (kb_putR kp_RX6_11 kl_KX60_30 rfl dX6_init_9) KX_c6_Sentence_12
set_option maxRecDepth 20000 in
theorem KX_c6_Sentence_7 : fk_B RX6 cX6_init 1 1 [(0, 32)] KX59 KXz8 [(0, 40), (32, 0)] 7 KX69 KXz8 [] 44 5 200 := fk_seq (nc := 1) (ns := 40) (nc1 := 4) (ns1 := 160) (kb_arr (by decide +kernel) (by decide) rfl wk_ar_int (by decide +kernel) (by decide +kernel) (by decide) dX6_init_7) KX_c6_Sentence_9
set_option maxRecDepth 20000 in
theorem KX_c6_Sentence_5 : fk_B RX6 cX6_init 1 1 [(0, 32)] KX59 KXz8 [(32, 0)] 5 KX69 KXz8 [] 44 5 200 := fk_seq (nc := 0) (ns := 0) (nc1 := 5) (ns1 := 200) (kb_bipush dX6_init_5) KX_c6_Sentence_7
set_option maxRecDepth 20000 in
theorem KX_c6_Sentence_4 : fk_B RX6 cX6_init 1 1 [(0, 32)] KX59 KXz8 [] 4 KX69 KXz8 [] 44 5 200 := fk_seq (nc := 0) (ns := 0) (nc1 := 5) (ns1 := 200) (kb_aload (j := 0) rfl dX6_init_4) KX_c6_Sentence_5
set_option maxRecDepth 20000 in
theorem KX_c6_Sentence_1 : fk_B RX6 cX6_init 1 1 [(0, 32)] KX59 KXz8 [(32, 0)] 1 KX69 KXz8 [] 44 5 200 := fk_seq (nc := 0) (ns := 0) (nc1 := 5) (ns1 := 200) (kb_obj ko_RX6_5 (by decide) dX6_init_1) KX_c6_Sentence_4
set_option maxRecDepth 20000 in
theorem KX_c6_Sentence_0 : fk_B RX6 cX6_init 1 1 [(0, 32)] KX59 KXz8 [] 0 KX69 KXz8 [] 44 5 200 := fk_seq (nc := 0) (ns := 0) (nc1 := 5) (ns1 := 200) (kb_aload (j := 0) rfl dX6_init_0) KX_c6_Sentence_1
theorem KX_c6_Sentence : fk_C yX6_init cX6_init 1 1 30 KX59 KXz8 KX69 KXz8 5 200 := fk_close (by decide +kernel) rfl (by decide) (show fk_B yX6_init.cls cX6_init 1 1 [(0, 32)] KX59 KXz8 [] 0 KX69 KXz8 [] 44 5 200 from KX_c6_Sentence_0) dX6_init_44
theorem kl_KX69_3 : KX69[3]? = some (.inl (4, [(0, 4), (0, 22), (0, 26), (3, 0)])) := by decide +kernel
def KX70 : List CD := KX69.set 3 (.inl (4, ([(0, 4), (0, 22), (0, 26), (3, 0)] : List (Nat × Nat)).set 3 (0, 30)))
set_option maxRecDepth 20000 in
theorem KX_c7_Scene_45 : fk_B RX5 cX5_init 1 3 [(0, 5)] KX69 KXz8 [(32, 0), (5, 0)] 45 KX70 KXz8 [] 48 0 0 := fk_seq (nc := 0) (ns := 0) (nc1 := 0) (ns1 := 0) (kb_putR kp_RX5_33 kl_KX69_3 rfl dX5_init_45) kb_nil
set_option maxRecDepth 20000 in
theorem KX_c7_Scene_42 : fk_B RX5 cX5_init 1 3 [(0, 5)] KX59 KXz8 [(32, 0), (32, 0), (5, 0)] 42 KX70 KXz8 [] 48 5 200 := fk_seq (nc := 5) (ns := 200) (nc1 := 0) (ns1 := 0) (kb_ctor KX_c6_Sentence kn_RX5_32 (by decide) (by decide) (by decide) dX5_init_42) KX_c7_Scene_45
set_option maxRecDepth 20000 in
theorem KX_c7_Scene_41 : fk_B RX5 cX5_init 1 3 [(0, 5)] KX59 KXz8 [(32, 0), (5, 0)] 41 KX70 KXz8 [] 48 5 200 := fk_seq (nc := 0) (ns := 0) (nc1 := 5) (ns1 := 200) (kb_dup rfl dX5_init_41) KX_c7_Scene_42
set_option maxRecDepth 20000 in
theorem KX_c7_Scene_38 : fk_B RX5 cX5_init 1 3 [(0, 5)] KX58 KXz8 [(5, 0)] 38 KX70 KXz8 [] 48 6 207 := fk_seq (nc := 1) (ns := 7) (nc1 := 5) (ns1 := 200) (kb_new (by decide +kernel) rfl in_X6 tyX6_ok wk_cl_RX5_30 wk_in_X6 wn_RX6 kbl_X6 (by decide) (by decide) dX5_init_38) KX_c7_Scene_41
set_option maxRecDepth 20000 in
theorem KX_c7_Scene_37 : fk_B RX5 cX5_init 1 3 [(0, 5)] KX58 KXz8 [] 37 KX70 KXz8 [] 48 6 207 := fk_seq (nc := 0) (ns := 0) (nc1 := 6) (ns1 := 207) (kb_aload (j := 0) rfl dX5_init_37) KX_c7_Scene_38
set_option maxRecDepth 20000 in
theorem KX_c7_Scene_34 : fk_B RX5 cX5_init 1 3 [(0, 5)] KX57 KXz8 [(28, 0), (5, 0)] 34 KX70 KXz8 [] 48 6 207 := fk_seq (nc := 0) (ns := 0) (nc1 := 6) (ns1 := 207) (kb_putR kp_RX5_26 kl_KX57_3 rfl dX5_init_34) KX_c7_Scene_37
set_option maxRecDepth 20000 in
theorem KX_c7_Scene_31 : fk_B RX5 cX5_init 1 3 [(0, 5)] KX51 KXz8 [(28, 0), (28, 0), (5, 0)] 31 KX70 KXz8 [] 48 9 267 := fk_seq (nc := 3) (ns := 60) (nc1 := 6) (ns1 := 207) (kb_ctor KX_c5_Sights kn_RX5_25 (by decide) (by decide) (by decide) dX5_init_31) KX_c7_Scene_34
set_option maxRecDepth 20000 in
theorem KX_c7_Scene_30 : fk_B RX5 cX5_init 1 3 [(0, 5)] KX51 KXz8 [(28, 0), (5, 0)] 30 KX70 KXz8 [] 48 9 267 := fk_seq (nc := 0) (ns := 0) (nc1 := 9) (ns1 := 267) (kb_dup rfl dX5_init_30) KX_c7_Scene_31
set_option maxRecDepth 20000 in
theorem KX_c7_Scene_27 : fk_B RX5 cX5_init 1 3 [(0, 5)] KX50 KXz8 [(5, 0)] 27 KX70 KXz8 [] 48 10 271 := fk_seq (nc := 1) (ns := 4) (nc1 := 9) (ns1 := 267) (kb_new (by decide +kernel) rfl in_X8 tyX8_ok wk_cl_RX5_23 wk_in_X8 wn_RX8 kbl_X8 (by decide) (by decide) dX5_init_27) KX_c7_Scene_30
set_option maxRecDepth 20000 in
theorem KX_c7_Scene_26 : fk_B RX5 cX5_init 1 3 [(0, 5)] KX50 KXz8 [] 26 KX70 KXz8 [] 48 10 271 := fk_seq (nc := 0) (ns := 0) (nc1 := 10) (ns1 := 271) (kb_aload (j := 0) rfl dX5_init_26) KX_c7_Scene_27
set_option maxRecDepth 20000 in
theorem KX_c7_Scene_23 : fk_B RX5 cX5_init 1 3 [(0, 5)] KX49 KXz8 [(24, 0), (5, 0)] 23 KX70 KXz8 [] 48 10 271 := fk_seq (nc := 0) (ns := 0) (nc1 := 10) (ns1 := 271) (kb_putR kp_RX5_19 kl_KX49_3 rfl dX5_init_23) KX_c7_Scene_26
set_option maxRecDepth 20000 in
theorem KX_c7_Scene_20 : fk_B RX5 cX5_init 1 3 [(0, 5)] KX43 KXz8 [(24, 0), (24, 0), (5, 0)] 20 KX70 KXz8 [] 48 13 391 := fk_seq (nc := 3) (ns := 120) (nc1 := 10) (ns1 := 271) (kb_ctor KX_c4_Order kn_RX5_18 (by decide) (by decide) (by decide) dX5_init_20) KX_c7_Scene_23
set_option maxRecDepth 20000 in
theorem KX_c7_Scene_19 : fk_B RX5 cX5_init 1 3 [(0, 5)] KX43 KXz8 [(24, 0), (5, 0)] 19 KX70 KXz8 [] 48 13 391 := fk_seq (nc := 0) (ns := 0) (nc1 := 13) (ns1 := 391) (kb_dup rfl dX5_init_19) KX_c7_Scene_20
set_option maxRecDepth 20000 in
theorem KX_c7_Scene_16 : fk_B RX5 cX5_init 1 3 [(0, 5)] KX42 KXz8 [(5, 0)] 16 KX70 KXz8 [] 48 14 395 := fk_seq (nc := 1) (ns := 4) (nc1 := 13) (ns1 := 391) (kb_new (by decide +kernel) rfl in_X1 tyX1_ok wk_cl_RX5_16 wk_in_X1 wn_RX1 kbl_X1 (by decide) (by decide) dX5_init_16) KX_c7_Scene_19
set_option maxRecDepth 20000 in
theorem KX_c7_Scene_15 : fk_B RX5 cX5_init 1 3 [(0, 5)] KX42 KXz8 [] 15 KX70 KXz8 [] 48 14 395 := fk_seq (nc := 0) (ns := 0) (nc1 := 14) (ns1 := 395) (kb_aload (j := 0) rfl dX5_init_15) KX_c7_Scene_16
set_option maxRecDepth 20000 in
theorem KX_c7_Scene_12 : fk_B RX5 cX5_init 1 3 [(0, 5)] KX41 KXz8 [(6, 0), (5, 0)] 12 KX70 KXz8 [] 48 14 395 := fk_seq (nc := 0) (ns := 0) (nc1 := 14) (ns1 := 395) (kb_putR kp_RX5_10 kl_KX41_3 rfl dX5_init_12) KX_c7_Scene_15
set_option maxRecDepth 20000 in
theorem KX_c7_Scene_9 : fk_B RX5 cX5_init 1 3 [(0, 5)] KX7 Z0 [(6, 0), (6, 0), (5, 0)] 9 KX70 KXz8 [] 48 31 618 := fk_seq (nc := 17) (ns := 223) (nc1 := 14) (ns1 := 395) (kb_ctor KX_c3_River kn_RX5_9 (by decide) (by decide) (by decide) dX5_init_9) KX_c7_Scene_12
set_option maxRecDepth 20000 in
theorem KX_c7_Scene_8 : fk_B RX5 cX5_init 1 3 [(0, 5)] KX7 Z0 [(6, 0), (5, 0)] 8 KX70 KXz8 [] 48 31 618 := fk_seq (nc := 0) (ns := 0) (nc1 := 31) (ns1 := 618) (kb_dup rfl dX5_init_8) KX_c7_Scene_9
set_option maxRecDepth 20000 in
theorem KX_c7_Scene_5 : fk_B RX5 cX5_init 1 3 [(0, 5)] KX6 Z0 [(5, 0)] 5 KX70 KXz8 [] 48 32 638 := fk_seq (nc := 1) (ns := 20) (nc1 := 31) (ns1 := 618) (kb_new (by decide +kernel) rfl in_X3 tyX3_ok wk_cl_RX5_7 wk_in_X3 wn_RX3 kbl_X3 (by decide) (by decide) dX5_init_5) KX_c7_Scene_8
set_option maxRecDepth 20000 in
theorem KX_c7_Scene_4 : fk_B RX5 cX5_init 1 3 [(0, 5)] KX6 Z0 [] 4 KX70 KXz8 [] 48 32 638 := fk_seq (nc := 0) (ns := 0) (nc1 := 32) (ns1 := 638) (kb_aload (j := 0) rfl dX5_init_4) KX_c7_Scene_5
set_option maxRecDepth 20000 in
theorem KX_c7_Scene_1 : fk_B RX5 cX5_init 1 3 [(0, 5)] KX6 Z0 [(5, 0)] 1 KX70 KXz8 [] 48 32 638 := fk_seq (nc := 0) (ns := 0) (nc1 := 32) (ns1 := 638) (kb_obj ko_RX5_1 (by decide) dX5_init_1) KX_c7_Scene_4
set_option maxRecDepth 20000 in
theorem KX_c7_Scene_0 : fk_B RX5 cX5_init 1 3 [(0, 5)] KX6 Z0 [] 0 KX70 KXz8 [] 48 32 638 := fk_seq (nc := 0) (ns := 0) (nc1 := 32) (ns1 := 638) (kb_aload (j := 0) rfl dX5_init_0) KX_c7_Scene_1
theorem KX_c7_Scene : fk_C yX5_init cX5_init 1 3 3 KX6 Z0 KX70 KXz8 32 638 := fk_close (by decide +kernel) rfl (by decide) (show fk_B yX5_init.cls cX5_init 1 3 [(0, 5)] KX6 Z0 [] 0 KX70 KXz8 [] 48 32 638 from KX_c7_Scene_0) dX5_init_48
theorem kl_KX70_0 : KX70[0]? = some (.inl (9, [(0, 1), (1, 0), (3, 0), (3, 0), (3, 0), (3, 0), (1, 0), (1, 0), (3, 0), (3, 0), (1, 0), (3, 0), (3, 0), (3, 0), (1, 0), (1, 0), (3, 0)])) := by decide +kernel
def KX71 : List CD := KX70.set 0 (.inl (9, ([(0, 1), (1, 0), (3, 0), (3, 0), (3, 0), (3, 0), (1, 0), (1, 0), (3, 0), (3, 0), (1, 0), (3, 0), (3, 0), (3, 0), (1, 0), (1, 0), (3, 0)] : List (Nat × Nat)).set 2 (0, 3)))
def KX72 : List CD := KX71 ++ [.inl (4, [(3, 0), (3, 0), (3, 0), (3, 0)])]
def KX73 : List CD := KX72 ++ [.inl (3, [(3, 0), (1, 0), (3, 0), (3, 0), (1, 0), (1, 0), (3, 0), (3, 0), (3, 0), (1, 0), (3, 0), (3, 0), (3, 0), (3, 0), (3, 0), (1, 0), (1, 0), (3, 0), (3, 0), (3, 0)])]
def KX74 : List CD := KX73 ++ [.inl (0, [(1, 0), (3, 0), (3, 0), (3, 0)])]
def KX75 : List CD := KX74 ++ [.inr (1, 26)]
theorem kl_KX75_38 : KX75[38]? = some (.inl (0, [(1, 0), (3, 0), (3, 0), (3, 0)])) := by decide +kernel
def KX76 : List CD := KX75.set 38 (.inl (0, ([(1, 0), (3, 0), (3, 0), (3, 0)] : List (Nat × Nat)).set 1 (0, 39)))
def KX77 : List CD := KX76 ++ [.inr (0, 26)]
theorem kl_KX77_38 : KX77[38]? = some (.inl (0, [(1, 0), (0, 39), (3, 0), (3, 0)])) := by decide +kernel
def KX78 : List CD := KX77.set 38 (.inl (0, ([(1, 0), (0, 39), (3, 0), (3, 0)] : List (Nat × Nat)).set 2 (0, 40)))
def KX79 : List CD := KX78 ++ [.inr (0, 26)]
theorem kl_KX79_38 : KX79[38]? = some (.inl (0, [(1, 0), (0, 39), (0, 40), (3, 0)])) := by decide +kernel
def KX80 : List CD := KX79.set 38 (.inl (0, ([(1, 0), (0, 39), (0, 40), (3, 0)] : List (Nat × Nat)).set 3 (0, 41)))
set_option maxRecDepth 20000 in
theorem KX_c8_Names_25 : fk_B RX0 cX0_init 1 1 [(0, 40)] KX79 KXz8 [(43, 0), (40, 0)] 25 KX80 KXz8 [] 28 0 0 := fk_seq (nc := 0) (ns := 0) (nc1 := 0) (ns1 := 0) (kb_putR kp_RX0_19 kl_KX79_38 rfl dX0_init_25) kb_nil
set_option maxRecDepth 20000 in
theorem KX_c8_Names_23 : fk_B RX0 cX0_init 1 1 [(0, 40)] KX78 KXz8 [(0, 26), (40, 0)] 23 KX80 KXz8 [] 28 1 26 := fk_seq (nc := 1) (ns := 26) (nc1 := 0) (ns1 := 0) (kb_arr (by decide +kernel) (by decide) rfl wk_ar_int (by decide +kernel) (by decide +kernel) (by decide) dX0_init_23) KX_c8_Names_25
set_option maxRecDepth 20000 in
theorem KX_c8_Names_21 : fk_B RX0 cX0_init 1 1 [(0, 40)] KX78 KXz8 [(40, 0)] 21 KX80 KXz8 [] 28 1 26 := fk_seq (nc := 0) (ns := 0) (nc1 := 1) (ns1 := 26) (kb_bipush dX0_init_21) KX_c8_Names_23
set_option maxRecDepth 20000 in
theorem KX_c8_Names_20 : fk_B RX0 cX0_init 1 1 [(0, 40)] KX78 KXz8 [] 20 KX80 KXz8 [] 28 1 26 := fk_seq (nc := 0) (ns := 0) (nc1 := 1) (ns1 := 26) (kb_aload (j := 0) rfl dX0_init_20) KX_c8_Names_21
set_option maxRecDepth 20000 in
theorem KX_c8_Names_17 : fk_B RX0 cX0_init 1 1 [(0, 40)] KX77 KXz8 [(42, 0), (40, 0)] 17 KX80 KXz8 [] 28 1 26 := fk_seq (nc := 0) (ns := 0) (nc1 := 1) (ns1 := 26) (kb_putR kp_RX0_15 kl_KX77_38 rfl dX0_init_17) KX_c8_Names_20
set_option maxRecDepth 20000 in
theorem KX_c8_Names_15 : fk_B RX0 cX0_init 1 1 [(0, 40)] KX76 KXz8 [(0, 26), (40, 0)] 15 KX80 KXz8 [] 28 2 52 := fk_seq (nc := 1) (ns := 26) (nc1 := 1) (ns1 := 26) (kb_arr (by decide +kernel) (by decide) rfl wk_ar_int (by decide +kernel) (by decide +kernel) (by decide) dX0_init_15) KX_c8_Names_17
set_option maxRecDepth 20000 in
theorem KX_c8_Names_13 : fk_B RX0 cX0_init 1 1 [(0, 40)] KX76 KXz8 [(40, 0)] 13 KX80 KXz8 [] 28 2 52 := fk_seq (nc := 0) (ns := 0) (nc1 := 2) (ns1 := 52) (kb_bipush dX0_init_13) KX_c8_Names_15
set_option maxRecDepth 20000 in
theorem KX_c8_Names_12 : fk_B RX0 cX0_init 1 1 [(0, 40)] KX76 KXz8 [] 12 KX80 KXz8 [] 28 2 52 := fk_seq (nc := 0) (ns := 0) (nc1 := 2) (ns1 := 52) (kb_aload (j := 0) rfl dX0_init_12) KX_c8_Names_13
set_option maxRecDepth 20000 in
theorem KX_c8_Names_9 : fk_B RX0 cX0_init 1 1 [(0, 40)] KX75 KXz8 [(41, 0), (40, 0)] 9 KX80 KXz8 [] 28 2 52 := fk_seq (nc := 0) (ns := 0) (nc1 := 2) (ns1 := 52) (kb_putR kp_RX0_11 kl_KX75_38 rfl dX0_init_9) KX_c8_Names_12
set_option maxRecDepth 20000 in
theorem KX_c8_Names_7 : fk_B RX0 cX0_init 1 1 [(0, 40)] KX74 KXz8 [(0, 26), (40, 0)] 7 KX80 KXz8 [] 28 3 78 := fk_seq (nc := 1) (ns := 26) (nc1 := 2) (ns1 := 52) (kb_arr (by decide +kernel) (by decide) rfl wk_ar_long (by decide +kernel) (by decide +kernel) (by decide) dX0_init_7) KX_c8_Names_9
set_option maxRecDepth 20000 in
theorem KX_c8_Names_5 : fk_B RX0 cX0_init 1 1 [(0, 40)] KX74 KXz8 [(40, 0)] 5 KX80 KXz8 [] 28 3 78 := fk_seq (nc := 0) (ns := 0) (nc1 := 3) (ns1 := 78) (kb_bipush dX0_init_5) KX_c8_Names_7
set_option maxRecDepth 20000 in
theorem KX_c8_Names_4 : fk_B RX0 cX0_init 1 1 [(0, 40)] KX74 KXz8 [] 4 KX80 KXz8 [] 28 3 78 := fk_seq (nc := 0) (ns := 0) (nc1 := 3) (ns1 := 78) (kb_aload (j := 0) rfl dX0_init_4) KX_c8_Names_5
set_option maxRecDepth 20000 in
theorem KX_c8_Names_1 : fk_B RX0 cX0_init 1 1 [(0, 40)] KX74 KXz8 [(40, 0)] 1 KX80 KXz8 [] 28 3 78 := fk_seq (nc := 0) (ns := 0) (nc1 := 3) (ns1 := 78) (kb_obj ko_RX0_3 (by decide) dX0_init_1) KX_c8_Names_4
set_option maxRecDepth 20000 in
theorem KX_c8_Names_0 : fk_B RX0 cX0_init 1 1 [(0, 40)] KX74 KXz8 [] 0 KX80 KXz8 [] 28 3 78 := fk_seq (nc := 0) (ns := 0) (nc1 := 3) (ns1 := 78) (kb_aload (j := 0) rfl dX0_init_0) KX_c8_Names_1
theorem KX_c8_Names : fk_C yX0_init cX0_init 1 1 38 KX74 KXz8 KX80 KXz8 3 78 := fk_close (by decide +kernel) rfl (by decide) (show fk_B yX0_init.cls cX0_init 1 1 [(0, 40)] KX74 KXz8 [] 0 KX80 KXz8 [] 28 3 78 from KX_c8_Names_0) dX0_init_28
theorem kl_KX80_37 : KX80[37]? = some (.inl (3, [(3, 0), (1, 0), (3, 0), (3, 0), (1, 0), (1, 0), (3, 0), (3, 0), (3, 0), (1, 0), (3, 0), (3, 0), (3, 0), (3, 0), (3, 0), (1, 0), (1, 0), (3, 0), (3, 0), (3, 0)])) := by decide +kernel
def KX81 : List CD := KX80.set 37 (.inl (3, ([(3, 0), (1, 0), (3, 0), (3, 0), (1, 0), (1, 0), (3, 0), (3, 0), (3, 0), (1, 0), (3, 0), (3, 0), (3, 0), (3, 0), (3, 0), (1, 0), (1, 0), (3, 0), (3, 0), (3, 0)] : List (Nat × Nat)).set 0 (0, 38)))
def KX82 : List CD := KX81 ++ [.inr (0, 10)]
theorem kl_KX82_37 : KX82[37]? = some (.inl (3, [(0, 38), (1, 0), (3, 0), (3, 0), (1, 0), (1, 0), (3, 0), (3, 0), (3, 0), (1, 0), (3, 0), (3, 0), (3, 0), (3, 0), (3, 0), (1, 0), (1, 0), (3, 0), (3, 0), (3, 0)])) := by decide +kernel
def KX83 : List CD := KX82.set 37 (.inl (3, ([(0, 38), (1, 0), (3, 0), (3, 0), (1, 0), (1, 0), (3, 0), (3, 0), (3, 0), (1, 0), (3, 0), (3, 0), (3, 0), (3, 0), (3, 0), (1, 0), (1, 0), (3, 0), (3, 0), (3, 0)] : List (Nat × Nat)).set 2 (0, 42)))
def KX84 : List CD := KX83 ++ [.inr (0, 10)]
theorem kl_KX84_37 : KX84[37]? = some (.inl (3, [(0, 38), (1, 0), (0, 42), (3, 0), (1, 0), (1, 0), (3, 0), (3, 0), (3, 0), (1, 0), (3, 0), (3, 0), (3, 0), (3, 0), (3, 0), (1, 0), (1, 0), (3, 0), (3, 0), (3, 0)])) := by decide +kernel
def KX85 : List CD := KX84.set 37 (.inl (3, ([(0, 38), (1, 0), (0, 42), (3, 0), (1, 0), (1, 0), (3, 0), (3, 0), (3, 0), (1, 0), (3, 0), (3, 0), (3, 0), (3, 0), (3, 0), (1, 0), (1, 0), (3, 0), (3, 0), (3, 0)] : List (Nat × Nat)).set 3 (0, 43)))
def KX86 : List CD := KX85 ++ [.inr (0, 6)]
theorem kl_KX86_37 : KX86[37]? = some (.inl (3, [(0, 38), (1, 0), (0, 42), (0, 43), (1, 0), (1, 0), (3, 0), (3, 0), (3, 0), (1, 0), (3, 0), (3, 0), (3, 0), (3, 0), (3, 0), (1, 0), (1, 0), (3, 0), (3, 0), (3, 0)])) := by decide +kernel
def KX87 : List CD := KX86.set 37 (.inl (3, ([(0, 38), (1, 0), (0, 42), (0, 43), (1, 0), (1, 0), (3, 0), (3, 0), (3, 0), (1, 0), (3, 0), (3, 0), (3, 0), (3, 0), (3, 0), (1, 0), (1, 0), (3, 0), (3, 0), (3, 0)] : List (Nat × Nat)).set 6 (0, 44)))
def KX88 : List CD := KX87 ++ [.inr (0, 6)]
theorem kl_KX88_37 : KX88[37]? = some (.inl (3, [(0, 38), (1, 0), (0, 42), (0, 43), (1, 0), (1, 0), (0, 44), (3, 0), (3, 0), (1, 0), (3, 0), (3, 0), (3, 0), (3, 0), (3, 0), (1, 0), (1, 0), (3, 0), (3, 0), (3, 0)])) := by decide +kernel
def KX89 : List CD := KX88.set 37 (.inl (3, ([(0, 38), (1, 0), (0, 42), (0, 43), (1, 0), (1, 0), (0, 44), (3, 0), (3, 0), (1, 0), (3, 0), (3, 0), (3, 0), (3, 0), (3, 0), (1, 0), (1, 0), (3, 0), (3, 0), (3, 0)] : List (Nat × Nat)).set 7 (0, 45)))
def KX90 : List CD := KX89 ++ [.inr (0, 24)]
theorem kl_KX90_37 : KX90[37]? = some (.inl (3, [(0, 38), (1, 0), (0, 42), (0, 43), (1, 0), (1, 0), (0, 44), (0, 45), (3, 0), (1, 0), (3, 0), (3, 0), (3, 0), (3, 0), (3, 0), (1, 0), (1, 0), (3, 0), (3, 0), (3, 0)])) := by decide +kernel
def KX91 : List CD := KX90.set 37 (.inl (3, ([(0, 38), (1, 0), (0, 42), (0, 43), (1, 0), (1, 0), (0, 44), (0, 45), (3, 0), (1, 0), (3, 0), (3, 0), (3, 0), (3, 0), (3, 0), (1, 0), (1, 0), (3, 0), (3, 0), (3, 0)] : List (Nat × Nat)).set 8 (0, 46)))
def KX92 : List CD := KX91 ++ [.inr (0, 6)]
theorem kl_KX92_37 : KX92[37]? = some (.inl (3, [(0, 38), (1, 0), (0, 42), (0, 43), (1, 0), (1, 0), (0, 44), (0, 45), (0, 46), (1, 0), (3, 0), (3, 0), (3, 0), (3, 0), (3, 0), (1, 0), (1, 0), (3, 0), (3, 0), (3, 0)])) := by decide +kernel
def KX93 : List CD := KX92.set 37 (.inl (3, ([(0, 38), (1, 0), (0, 42), (0, 43), (1, 0), (1, 0), (0, 44), (0, 45), (0, 46), (1, 0), (3, 0), (3, 0), (3, 0), (3, 0), (3, 0), (1, 0), (1, 0), (3, 0), (3, 0), (3, 0)] : List (Nat × Nat)).set 10 (0, 47)))
def KX94 : List CD := KX93 ++ [.inr (0, 6)]
theorem kl_KX94_37 : KX94[37]? = some (.inl (3, [(0, 38), (1, 0), (0, 42), (0, 43), (1, 0), (1, 0), (0, 44), (0, 45), (0, 46), (1, 0), (0, 47), (3, 0), (3, 0), (3, 0), (3, 0), (1, 0), (1, 0), (3, 0), (3, 0), (3, 0)])) := by decide +kernel
def KX95 : List CD := KX94.set 37 (.inl (3, ([(0, 38), (1, 0), (0, 42), (0, 43), (1, 0), (1, 0), (0, 44), (0, 45), (0, 46), (1, 0), (0, 47), (3, 0), (3, 0), (3, 0), (3, 0), (1, 0), (1, 0), (3, 0), (3, 0), (3, 0)] : List (Nat × Nat)).set 11 (0, 48)))
def KX96 : List CD := KX95 ++ [.inr (0, 6)]
theorem kl_KX96_37 : KX96[37]? = some (.inl (3, [(0, 38), (1, 0), (0, 42), (0, 43), (1, 0), (1, 0), (0, 44), (0, 45), (0, 46), (1, 0), (0, 47), (0, 48), (3, 0), (3, 0), (3, 0), (1, 0), (1, 0), (3, 0), (3, 0), (3, 0)])) := by decide +kernel
def KX97 : List CD := KX96.set 37 (.inl (3, ([(0, 38), (1, 0), (0, 42), (0, 43), (1, 0), (1, 0), (0, 44), (0, 45), (0, 46), (1, 0), (0, 47), (0, 48), (3, 0), (3, 0), (3, 0), (1, 0), (1, 0), (3, 0), (3, 0), (3, 0)] : List (Nat × Nat)).set 12 (0, 49)))
def KX98 : List CD := KX97 ++ [.inr (0, 24)]
theorem kl_KX98_37 : KX98[37]? = some (.inl (3, [(0, 38), (1, 0), (0, 42), (0, 43), (1, 0), (1, 0), (0, 44), (0, 45), (0, 46), (1, 0), (0, 47), (0, 48), (0, 49), (3, 0), (3, 0), (1, 0), (1, 0), (3, 0), (3, 0), (3, 0)])) := by decide +kernel
def KX99 : List CD := KX98.set 37 (.inl (3, ([(0, 38), (1, 0), (0, 42), (0, 43), (1, 0), (1, 0), (0, 44), (0, 45), (0, 46), (1, 0), (0, 47), (0, 48), (0, 49), (3, 0), (3, 0), (1, 0), (1, 0), (3, 0), (3, 0), (3, 0)] : List (Nat × Nat)).set 13 (0, 50)))
def KX100 : List CD := KX99 ++ [.inr (0, 7)]
theorem kl_KX100_51 : KX100[51]? = some (.inr (0, 7)) := by decide +kernel
def KXz9 : Me := u2 KXz8 3264 0 (-1)
def KXz10 : Me := u2 KXz9 3264 1 (-1)
def KXz11 : Me := u2 KXz10 3264 2 (-1)
def KXz12 : Me := u2 KXz11 3264 3 (-1)
def KXz13 : Me := u2 KXz12 3264 4 (-1)
def KXz14 : Me := u2 KXz13 3264 5 (-1)
def KXz15 : Me := u2 KXz14 3264 6 (-1)
theorem kl_KX100_37 : KX100[37]? = some (.inl (3, [(0, 38), (1, 0), (0, 42), (0, 43), (1, 0), (1, 0), (0, 44), (0, 45), (0, 46), (1, 0), (0, 47), (0, 48), (0, 49), (0, 50), (3, 0), (1, 0), (1, 0), (3, 0), (3, 0), (3, 0)])) := by decide +kernel
def KX101 : List CD := KX100.set 37 (.inl (3, ([(0, 38), (1, 0), (0, 42), (0, 43), (1, 0), (1, 0), (0, 44), (0, 45), (0, 46), (1, 0), (0, 47), (0, 48), (0, 49), (0, 50), (3, 0), (1, 0), (1, 0), (3, 0), (3, 0), (3, 0)] : List (Nat × Nat)).set 14 (0, 51)))
theorem kl_KX101_37 : KX101[37]? = some (.inl (3, [(0, 38), (1, 0), (0, 42), (0, 43), (1, 0), (1, 0), (0, 44), (0, 45), (0, 46), (1, 0), (0, 47), (0, 48), (0, 49), (0, 50), (0, 51), (1, 0), (1, 0), (3, 0), (3, 0), (3, 0)])) := by decide +kernel
def KXz16 : Me := u2 KXz15 2383 0 (-1)
def KX102 : List CD := KX101 ++ [.inr (0, 12)]
theorem kl_KX102_37 : KX102[37]? = some (.inl (3, [(0, 38), (1, 0), (0, 42), (0, 43), (1, 0), (1, 0), (0, 44), (0, 45), (0, 46), (1, 0), (0, 47), (0, 48), (0, 49), (0, 50), (0, 51), (1, 0), (1, 0), (3, 0), (3, 0), (3, 0)])) := by decide +kernel
def KX103 : List CD := KX102.set 37 (.inl (3, ([(0, 38), (1, 0), (0, 42), (0, 43), (1, 0), (1, 0), (0, 44), (0, 45), (0, 46), (1, 0), (0, 47), (0, 48), (0, 49), (0, 50), (0, 51), (1, 0), (1, 0), (3, 0), (3, 0), (3, 0)] : List (Nat × Nat)).set 17 (0, 52)))
def KX104 : List CD := KX103 ++ [.inr (0, 12)]
theorem kl_KX104_37 : KX104[37]? = some (.inl (3, [(0, 38), (1, 0), (0, 42), (0, 43), (1, 0), (1, 0), (0, 44), (0, 45), (0, 46), (1, 0), (0, 47), (0, 48), (0, 49), (0, 50), (0, 51), (1, 0), (1, 0), (0, 52), (3, 0), (3, 0)])) := by decide +kernel
def KX105 : List CD := KX104.set 37 (.inl (3, ([(0, 38), (1, 0), (0, 42), (0, 43), (1, 0), (1, 0), (0, 44), (0, 45), (0, 46), (1, 0), (0, 47), (0, 48), (0, 49), (0, 50), (0, 51), (1, 0), (1, 0), (0, 52), (3, 0), (3, 0)] : List (Nat × Nat)).set 18 (0, 53)))
def KX106 : List CD := KX105 ++ [.inr (0, 12)]
theorem kl_KX106_37 : KX106[37]? = some (.inl (3, [(0, 38), (1, 0), (0, 42), (0, 43), (1, 0), (1, 0), (0, 44), (0, 45), (0, 46), (1, 0), (0, 47), (0, 48), (0, 49), (0, 50), (0, 51), (1, 0), (1, 0), (0, 52), (0, 53), (3, 0)])) := by decide +kernel
def KX107 : List CD := KX106.set 37 (.inl (3, ([(0, 38), (1, 0), (0, 42), (0, 43), (1, 0), (1, 0), (0, 44), (0, 45), (0, 46), (1, 0), (0, 47), (0, 48), (0, 49), (0, 50), (0, 51), (1, 0), (1, 0), (0, 52), (0, 53), (3, 0)] : List (Nat × Nat)).set 19 (0, 54)))
set_option maxRecDepth 20000 in
theorem KX_c9_River_150 : fk_B RX3 cX3_init 1 2 [(0, 39)] KX106 KXz16 [(56, 0), (39, 0)] 150 KX107 KXz16 [] 153 0 0 := fk_seq (nc := 0) (ns := 0) (nc1 := 0) (ns1 := 0) (kb_putR kp_RX3_59 kl_KX106_37 rfl dX3_init_150) kb_nil
set_option maxRecDepth 20000 in
theorem KX_c9_River_148 : fk_B RX3 cX3_init 1 2 [(0, 39)] KX105 KXz16 [(0, 12), (39, 0)] 148 KX107 KXz16 [] 153 1 12 := fk_seq (nc := 1) (ns := 12) (nc1 := 0) (ns1 := 0) (kb_arr (by decide +kernel) (by decide) rfl wk_ar_int (by decide +kernel) (by decide +kernel) (by decide) dX3_init_148) KX_c9_River_150
set_option maxRecDepth 20000 in
theorem KX_c9_River_146 : fk_B RX3 cX3_init 1 2 [(0, 39)] KX105 KXz16 [(39, 0)] 146 KX107 KXz16 [] 153 1 12 := fk_seq (nc := 0) (ns := 0) (nc1 := 1) (ns1 := 12) (kb_bipush dX3_init_146) KX_c9_River_148
set_option maxRecDepth 20000 in
theorem KX_c9_River_145 : fk_B RX3 cX3_init 1 2 [(0, 39)] KX105 KXz16 [] 145 KX107 KXz16 [] 153 1 12 := fk_seq (nc := 0) (ns := 0) (nc1 := 1) (ns1 := 12) (kb_aload (j := 0) rfl dX3_init_145) KX_c9_River_146
set_option maxRecDepth 20000 in
theorem KX_c9_River_142 : fk_B RX3 cX3_init 1 2 [(0, 39)] KX104 KXz16 [(55, 0), (39, 0)] 142 KX107 KXz16 [] 153 1 12 := fk_seq (nc := 0) (ns := 0) (nc1 := 1) (ns1 := 12) (kb_putR kp_RX3_56 kl_KX104_37 rfl dX3_init_142) KX_c9_River_145
set_option maxRecDepth 20000 in
theorem KX_c9_River_140 : fk_B RX3 cX3_init 1 2 [(0, 39)] KX103 KXz16 [(0, 12), (39, 0)] 140 KX107 KXz16 [] 153 2 24 := fk_seq (nc := 1) (ns := 12) (nc1 := 1) (ns1 := 12) (kb_arr (by decide +kernel) (by decide) rfl wk_ar_int (by decide +kernel) (by decide +kernel) (by decide) dX3_init_140) KX_c9_River_142
set_option maxRecDepth 20000 in
theorem KX_c9_River_138 : fk_B RX3 cX3_init 1 2 [(0, 39)] KX103 KXz16 [(39, 0)] 138 KX107 KXz16 [] 153 2 24 := fk_seq (nc := 0) (ns := 0) (nc1 := 2) (ns1 := 24) (kb_bipush dX3_init_138) KX_c9_River_140
set_option maxRecDepth 20000 in
theorem KX_c9_River_137 : fk_B RX3 cX3_init 1 2 [(0, 39)] KX103 KXz16 [] 137 KX107 KXz16 [] 153 2 24 := fk_seq (nc := 0) (ns := 0) (nc1 := 2) (ns1 := 24) (kb_aload (j := 0) rfl dX3_init_137) KX_c9_River_138
set_option maxRecDepth 20000 in
theorem KX_c9_River_134 : fk_B RX3 cX3_init 1 2 [(0, 39)] KX102 KXz16 [(54, 0), (39, 0)] 134 KX107 KXz16 [] 153 2 24 := fk_seq (nc := 0) (ns := 0) (nc1 := 2) (ns1 := 24) (kb_putR kp_RX3_53 kl_KX102_37 rfl dX3_init_134) KX_c9_River_137
set_option maxRecDepth 20000 in
theorem KX_c9_River_132 : fk_B RX3 cX3_init 1 2 [(0, 39)] KX101 KXz16 [(0, 12), (39, 0)] 132 KX107 KXz16 [] 153 3 36 := fk_seq (nc := 1) (ns := 12) (nc1 := 2) (ns1 := 24) (kb_arr (by decide +kernel) (by decide) rfl wk_ar_int (by decide +kernel) (by decide +kernel) (by decide) dX3_init_132) KX_c9_River_134
set_option maxRecDepth 20000 in
theorem KX_c9_River_130 : fk_B RX3 cX3_init 1 2 [(0, 39)] KX101 KXz16 [(39, 0)] 130 KX107 KXz16 [] 153 3 36 := fk_seq (nc := 0) (ns := 0) (nc1 := 3) (ns1 := 36) (kb_bipush dX3_init_130) KX_c9_River_132
set_option maxRecDepth 20000 in
theorem KX_c9_River_129 : fk_B RX3 cX3_init 1 2 [(0, 39)] KX101 KXz16 [] 129 KX107 KXz16 [] 153 3 36 := fk_seq (nc := 0) (ns := 0) (nc1 := 3) (ns1 := 36) (kb_aload (j := 0) rfl dX3_init_129) KX_c9_River_130
set_option maxRecDepth 20000 in
theorem KX_c9_River_126 : fk_B RX3 cX3_init 1 2 [(0, 39)] KX101 KXz15 [(0, (-1)), (39, 0)] 126 KX107 KXz16 [] 153 3 36 := fk_seq (nc := 0) (ns := 0) (nc1 := 3) (ns1 := 36) (kb_putI fp_RX3_49 kl_KX101_37 rfl dX3_init_126) KX_c9_River_129
set_option maxRecDepth 20000 in
theorem KX_c9_River_125 : fk_B RX3 cX3_init 1 2 [(0, 39)] KX101 KXz15 [(39, 0)] 125 KX107 KXz16 [] 153 3 36 := fk_seq (nc := 0) (ns := 0) (nc1 := 3) (ns1 := 36) (kb_iconst dX3_init_125) KX_c9_River_126
set_option maxRecDepth 20000 in
theorem KX_c9_River_124 : fk_B RX3 cX3_init 1 2 [(0, 39)] KX101 KXz15 [] 124 KX107 KXz16 [] 153 3 36 := fk_seq (nc := 0) (ns := 0) (nc1 := 3) (ns1 := 36) (kb_aload (j := 0) rfl dX3_init_124) KX_c9_River_125
set_option maxRecDepth 20000 in
theorem KX_c9_River_121 : fk_B RX3 cX3_init 1 2 [(0, 39)] KX100 KXz15 [(53, 0), (39, 0)] 121 KX107 KXz16 [] 153 3 36 := fk_seq (nc := 0) (ns := 0) (nc1 := 3) (ns1 := 36) (kb_putR kp_RX3_46 kl_KX100_37 rfl dX3_init_121) KX_c9_River_124
set_option maxRecDepth 20000 in
theorem KX_c9_River_120 : fk_B RX3 cX3_init 1 2 [(0, 39)] KX100 KXz14 [(0, (-1)), (0, 6), (53, 0), (53, 0), (39, 0)] 120 KX107 KXz16 [] 153 3 36 := fk_seq (nc := 0) (ns := 0) (nc1 := 3) (ns1 := 36) (kb_iast kl_KX100_51 (by decide +kernel) dX3_init_120) KX_c9_River_121
set_option maxRecDepth 20000 in
theorem KX_c9_River_119 : fk_B RX3 cX3_init 1 2 [(0, 39)] KX100 KXz14 [(0, 6), (53, 0), (53, 0), (39, 0)] 119 KX107 KXz16 [] 153 3 36 := fk_seq (nc := 0) (ns := 0) (nc1 := 3) (ns1 := 36) (kb_iconst dX3_init_119) KX_c9_River_120
set_option maxRecDepth 20000 in
theorem KX_c9_River_117 : fk_B RX3 cX3_init 1 2 [(0, 39)] KX100 KXz14 [(53, 0), (53, 0), (39, 0)] 117 KX107 KXz16 [] 153 3 36 := fk_seq (nc := 0) (ns := 0) (nc1 := 3) (ns1 := 36) (kb_bipush dX3_init_117) KX_c9_River_119
set_option maxRecDepth 20000 in
theorem KX_c9_River_116 : fk_B RX3 cX3_init 1 2 [(0, 39)] KX100 KXz14 [(53, 0), (39, 0)] 116 KX107 KXz16 [] 153 3 36 := fk_seq (nc := 0) (ns := 0) (nc1 := 3) (ns1 := 36) (kb_dup rfl dX3_init_116) KX_c9_River_117
set_option maxRecDepth 20000 in
theorem KX_c9_River_115 : fk_B RX3 cX3_init 1 2 [(0, 39)] KX100 KXz13 [(0, (-1)), (0, 5), (53, 0), (53, 0), (39, 0)] 115 KX107 KXz16 [] 153 3 36 := fk_seq (nc := 0) (ns := 0) (nc1 := 3) (ns1 := 36) (kb_iast kl_KX100_51 (by decide +kernel) dX3_init_115) KX_c9_River_116
set_option maxRecDepth 20000 in
theorem KX_c9_River_114 : fk_B RX3 cX3_init 1 2 [(0, 39)] KX100 KXz13 [(0, 5), (53, 0), (53, 0), (39, 0)] 114 KX107 KXz16 [] 153 3 36 := fk_seq (nc := 0) (ns := 0) (nc1 := 3) (ns1 := 36) (kb_iconst dX3_init_114) KX_c9_River_115
set_option maxRecDepth 20000 in
theorem KX_c9_River_113 : fk_B RX3 cX3_init 1 2 [(0, 39)] KX100 KXz13 [(53, 0), (53, 0), (39, 0)] 113 KX107 KXz16 [] 153 3 36 := fk_seq (nc := 0) (ns := 0) (nc1 := 3) (ns1 := 36) (kb_iconst dX3_init_113) KX_c9_River_114
set_option maxRecDepth 20000 in
theorem KX_c9_River_112 : fk_B RX3 cX3_init 1 2 [(0, 39)] KX100 KXz13 [(53, 0), (39, 0)] 112 KX107 KXz16 [] 153 3 36 := fk_seq (nc := 0) (ns := 0) (nc1 := 3) (ns1 := 36) (kb_dup rfl dX3_init_112) KX_c9_River_113
set_option maxRecDepth 20000 in
theorem KX_c9_River_111 : fk_B RX3 cX3_init 1 2 [(0, 39)] KX100 KXz12 [(0, (-1)), (0, 4), (53, 0), (53, 0), (39, 0)] 111 KX107 KXz16 [] 153 3 36 := fk_seq (nc := 0) (ns := 0) (nc1 := 3) (ns1 := 36) (kb_iast kl_KX100_51 (by decide +kernel) dX3_init_111) KX_c9_River_112
set_option maxRecDepth 20000 in
theorem KX_c9_River_110 : fk_B RX3 cX3_init 1 2 [(0, 39)] KX100 KXz12 [(0, 4), (53, 0), (53, 0), (39, 0)] 110 KX107 KXz16 [] 153 3 36 := fk_seq (nc := 0) (ns := 0) (nc1 := 3) (ns1 := 36) (kb_iconst dX3_init_110) KX_c9_River_111
set_option maxRecDepth 20000 in
theorem KX_c9_River_109 : fk_B RX3 cX3_init 1 2 [(0, 39)] KX100 KXz12 [(53, 0), (53, 0), (39, 0)] 109 KX107 KXz16 [] 153 3 36 := fk_seq (nc := 0) (ns := 0) (nc1 := 3) (ns1 := 36) (kb_iconst dX3_init_109) KX_c9_River_110
set_option maxRecDepth 20000 in
theorem KX_c9_River_108 : fk_B RX3 cX3_init 1 2 [(0, 39)] KX100 KXz12 [(53, 0), (39, 0)] 108 KX107 KXz16 [] 153 3 36 := fk_seq (nc := 0) (ns := 0) (nc1 := 3) (ns1 := 36) (kb_dup rfl dX3_init_108) KX_c9_River_109
set_option maxRecDepth 20000 in
theorem KX_c9_River_107 : fk_B RX3 cX3_init 1 2 [(0, 39)] KX100 KXz11 [(0, (-1)), (0, 3), (53, 0), (53, 0), (39, 0)] 107 KX107 KXz16 [] 153 3 36 := fk_seq (nc := 0) (ns := 0) (nc1 := 3) (ns1 := 36) (kb_iast kl_KX100_51 (by decide +kernel) dX3_init_107) KX_c9_River_108
set_option maxRecDepth 20000 in
theorem KX_c9_River_106 : fk_B RX3 cX3_init 1 2 [(0, 39)] KX100 KXz11 [(0, 3), (53, 0), (53, 0), (39, 0)] 106 KX107 KXz16 [] 153 3 36 := fk_seq (nc := 0) (ns := 0) (nc1 := 3) (ns1 := 36) (kb_iconst dX3_init_106) KX_c9_River_107
set_option maxRecDepth 20000 in
theorem KX_c9_River_105 : fk_B RX3 cX3_init 1 2 [(0, 39)] KX100 KXz11 [(53, 0), (53, 0), (39, 0)] 105 KX107 KXz16 [] 153 3 36 := fk_seq (nc := 0) (ns := 0) (nc1 := 3) (ns1 := 36) (kb_iconst dX3_init_105) KX_c9_River_106
set_option maxRecDepth 20000 in
theorem KX_c9_River_104 : fk_B RX3 cX3_init 1 2 [(0, 39)] KX100 KXz11 [(53, 0), (39, 0)] 104 KX107 KXz16 [] 153 3 36 := fk_seq (nc := 0) (ns := 0) (nc1 := 3) (ns1 := 36) (kb_dup rfl dX3_init_104) KX_c9_River_105
set_option maxRecDepth 20000 in
theorem KX_c9_River_103 : fk_B RX3 cX3_init 1 2 [(0, 39)] KX100 KXz10 [(0, (-1)), (0, 2), (53, 0), (53, 0), (39, 0)] 103 KX107 KXz16 [] 153 3 36 := fk_seq (nc := 0) (ns := 0) (nc1 := 3) (ns1 := 36) (kb_iast kl_KX100_51 (by decide +kernel) dX3_init_103) KX_c9_River_104
set_option maxRecDepth 20000 in
theorem KX_c9_River_102 : fk_B RX3 cX3_init 1 2 [(0, 39)] KX100 KXz10 [(0, 2), (53, 0), (53, 0), (39, 0)] 102 KX107 KXz16 [] 153 3 36 := fk_seq (nc := 0) (ns := 0) (nc1 := 3) (ns1 := 36) (kb_iconst dX3_init_102) KX_c9_River_103
set_option maxRecDepth 20000 in
theorem KX_c9_River_101 : fk_B RX3 cX3_init 1 2 [(0, 39)] KX100 KXz10 [(53, 0), (53, 0), (39, 0)] 101 KX107 KXz16 [] 153 3 36 := fk_seq (nc := 0) (ns := 0) (nc1 := 3) (ns1 := 36) (kb_iconst dX3_init_101) KX_c9_River_102
set_option maxRecDepth 20000 in
theorem KX_c9_River_100 : fk_B RX3 cX3_init 1 2 [(0, 39)] KX100 KXz10 [(53, 0), (39, 0)] 100 KX107 KXz16 [] 153 3 36 := fk_seq (nc := 0) (ns := 0) (nc1 := 3) (ns1 := 36) (kb_dup rfl dX3_init_100) KX_c9_River_101
set_option maxRecDepth 20000 in
theorem KX_c9_River_99 : fk_B RX3 cX3_init 1 2 [(0, 39)] KX100 KXz9 [(0, (-1)), (0, 1), (53, 0), (53, 0), (39, 0)] 99 KX107 KXz16 [] 153 3 36 := fk_seq (nc := 0) (ns := 0) (nc1 := 3) (ns1 := 36) (kb_iast kl_KX100_51 (by decide +kernel) dX3_init_99) KX_c9_River_100
set_option maxRecDepth 20000 in
theorem KX_c9_River_98 : fk_B RX3 cX3_init 1 2 [(0, 39)] KX100 KXz9 [(0, 1), (53, 0), (53, 0), (39, 0)] 98 KX107 KXz16 [] 153 3 36 := fk_seq (nc := 0) (ns := 0) (nc1 := 3) (ns1 := 36) (kb_iconst dX3_init_98) KX_c9_River_99
set_option maxRecDepth 20000 in
theorem KX_c9_River_97 : fk_B RX3 cX3_init 1 2 [(0, 39)] KX100 KXz9 [(53, 0), (53, 0), (39, 0)] 97 KX107 KXz16 [] 153 3 36 := fk_seq (nc := 0) (ns := 0) (nc1 := 3) (ns1 := 36) (kb_iconst dX3_init_97) KX_c9_River_98
set_option maxRecDepth 20000 in
theorem KX_c9_River_96 : fk_B RX3 cX3_init 1 2 [(0, 39)] KX100 KXz9 [(53, 0), (39, 0)] 96 KX107 KXz16 [] 153 3 36 := fk_seq (nc := 0) (ns := 0) (nc1 := 3) (ns1 := 36) (kb_dup rfl dX3_init_96) KX_c9_River_97
set_option maxRecDepth 20000 in
theorem KX_c9_River_95 : fk_B RX3 cX3_init 1 2 [(0, 39)] KX100 KXz8 [(0, (-1)), (0, 0), (53, 0), (53, 0), (39, 0)] 95 KX107 KXz16 [] 153 3 36 := fk_seq (nc := 0) (ns := 0) (nc1 := 3) (ns1 := 36) (kb_iast kl_KX100_51 (by decide +kernel) dX3_init_95) KX_c9_River_96
set_option maxRecDepth 20000 in
theorem KX_c9_River_94 : fk_B RX3 cX3_init 1 2 [(0, 39)] KX100 KXz8 [(0, 0), (53, 0), (53, 0), (39, 0)] 94 KX107 KXz16 [] 153 3 36 := fk_seq (nc := 0) (ns := 0) (nc1 := 3) (ns1 := 36) (kb_iconst dX3_init_94) KX_c9_River_95
set_option maxRecDepth 20000 in
theorem KX_c9_River_93 : fk_B RX3 cX3_init 1 2 [(0, 39)] KX100 KXz8 [(53, 0), (53, 0), (39, 0)] 93 KX107 KXz16 [] 153 3 36 := fk_seq (nc := 0) (ns := 0) (nc1 := 3) (ns1 := 36) (kb_iconst dX3_init_93) KX_c9_River_94
set_option maxRecDepth 20000 in
theorem KX_c9_River_92 : fk_B RX3 cX3_init 1 2 [(0, 39)] KX100 KXz8 [(53, 0), (39, 0)] 92 KX107 KXz16 [] 153 3 36 := fk_seq (nc := 0) (ns := 0) (nc1 := 3) (ns1 := 36) (kb_dup rfl dX3_init_92) KX_c9_River_93
set_option maxRecDepth 20000 in
theorem KX_c9_River_90 : fk_B RX3 cX3_init 1 2 [(0, 39)] KX99 KXz8 [(0, 7), (39, 0)] 90 KX107 KXz16 [] 153 4 43 := fk_seq (nc := 1) (ns := 7) (nc1 := 3) (ns1 := 36) (kb_arr (by decide +kernel) (by decide) rfl wk_ar_int (by decide +kernel) (by decide +kernel) (by decide) dX3_init_90) KX_c9_River_92
set_option maxRecDepth 20000 in
theorem KX_c9_River_88 : fk_B RX3 cX3_init 1 2 [(0, 39)] KX99 KXz8 [(39, 0)] 88 KX107 KXz16 [] 153 4 43 := fk_seq (nc := 0) (ns := 0) (nc1 := 4) (ns1 := 43) (kb_bipush dX3_init_88) KX_c9_River_90
set_option maxRecDepth 20000 in
theorem KX_c9_River_87 : fk_B RX3 cX3_init 1 2 [(0, 39)] KX99 KXz8 [] 87 KX107 KXz16 [] 153 4 43 := fk_seq (nc := 0) (ns := 0) (nc1 := 4) (ns1 := 43) (kb_aload (j := 0) rfl dX3_init_87) KX_c9_River_88
set_option maxRecDepth 20000 in
theorem KX_c9_River_84 : fk_B RX3 cX3_init 1 2 [(0, 39)] KX98 KXz8 [(52, 0), (39, 0)] 84 KX107 KXz16 [] 153 4 43 := fk_seq (nc := 0) (ns := 0) (nc1 := 4) (ns1 := 43) (kb_putR kp_RX3_43 kl_KX98_37 rfl dX3_init_84) KX_c9_River_87
set_option maxRecDepth 20000 in
theorem KX_c9_River_82 : fk_B RX3 cX3_init 1 2 [(0, 39)] KX97 KXz8 [(0, 24), (39, 0)] 82 KX107 KXz16 [] 153 5 67 := fk_seq (nc := 1) (ns := 24) (nc1 := 4) (ns1 := 43) (kb_arr (by decide +kernel) (by decide) rfl wk_ar_int (by decide +kernel) (by decide +kernel) (by decide) dX3_init_82) KX_c9_River_84
set_option maxRecDepth 20000 in
theorem KX_c9_River_80 : fk_B RX3 cX3_init 1 2 [(0, 39)] KX97 KXz8 [(39, 0)] 80 KX107 KXz16 [] 153 5 67 := fk_seq (nc := 0) (ns := 0) (nc1 := 5) (ns1 := 67) (kb_bipush dX3_init_80) KX_c9_River_82
set_option maxRecDepth 20000 in
theorem KX_c9_River_79 : fk_B RX3 cX3_init 1 2 [(0, 39)] KX97 KXz8 [] 79 KX107 KXz16 [] 153 5 67 := fk_seq (nc := 0) (ns := 0) (nc1 := 5) (ns1 := 67) (kb_aload (j := 0) rfl dX3_init_79) KX_c9_River_80
set_option maxRecDepth 20000 in
theorem KX_c9_River_76 : fk_B RX3 cX3_init 1 2 [(0, 39)] KX96 KXz8 [(51, 0), (39, 0)] 76 KX107 KXz16 [] 153 5 67 := fk_seq (nc := 0) (ns := 0) (nc1 := 5) (ns1 := 67) (kb_putR kp_RX3_40 kl_KX96_37 rfl dX3_init_76) KX_c9_River_79
set_option maxRecDepth 20000 in
theorem KX_c9_River_74 : fk_B RX3 cX3_init 1 2 [(0, 39)] KX95 KXz8 [(0, 6), (39, 0)] 74 KX107 KXz16 [] 153 6 73 := fk_seq (nc := 1) (ns := 6) (nc1 := 5) (ns1 := 67) (kb_arr (by decide +kernel) (by decide) rfl wk_ar_int (by decide +kernel) (by decide +kernel) (by decide) dX3_init_74) KX_c9_River_76
set_option maxRecDepth 20000 in
theorem KX_c9_River_72 : fk_B RX3 cX3_init 1 2 [(0, 39)] KX95 KXz8 [(39, 0)] 72 KX107 KXz16 [] 153 6 73 := fk_seq (nc := 0) (ns := 0) (nc1 := 6) (ns1 := 73) (kb_bipush dX3_init_72) KX_c9_River_74
set_option maxRecDepth 20000 in
theorem KX_c9_River_71 : fk_B RX3 cX3_init 1 2 [(0, 39)] KX95 KXz8 [] 71 KX107 KXz16 [] 153 6 73 := fk_seq (nc := 0) (ns := 0) (nc1 := 6) (ns1 := 73) (kb_aload (j := 0) rfl dX3_init_71) KX_c9_River_72
set_option maxRecDepth 20000 in
theorem KX_c9_River_68 : fk_B RX3 cX3_init 1 2 [(0, 39)] KX94 KXz8 [(50, 0), (39, 0)] 68 KX107 KXz16 [] 153 6 73 := fk_seq (nc := 0) (ns := 0) (nc1 := 6) (ns1 := 73) (kb_putR kp_RX3_37 kl_KX94_37 rfl dX3_init_68) KX_c9_River_71
set_option maxRecDepth 20000 in
theorem KX_c9_River_66 : fk_B RX3 cX3_init 1 2 [(0, 39)] KX93 KXz8 [(0, 6), (39, 0)] 66 KX107 KXz16 [] 153 7 79 := fk_seq (nc := 1) (ns := 6) (nc1 := 6) (ns1 := 73) (kb_arr (by decide +kernel) (by decide) rfl wk_ar_int (by decide +kernel) (by decide +kernel) (by decide) dX3_init_66) KX_c9_River_68
set_option maxRecDepth 20000 in
theorem KX_c9_River_64 : fk_B RX3 cX3_init 1 2 [(0, 39)] KX93 KXz8 [(39, 0)] 64 KX107 KXz16 [] 153 7 79 := fk_seq (nc := 0) (ns := 0) (nc1 := 7) (ns1 := 79) (kb_bipush dX3_init_64) KX_c9_River_66
set_option maxRecDepth 20000 in
theorem KX_c9_River_63 : fk_B RX3 cX3_init 1 2 [(0, 39)] KX93 KXz8 [] 63 KX107 KXz16 [] 153 7 79 := fk_seq (nc := 0) (ns := 0) (nc1 := 7) (ns1 := 79) (kb_aload (j := 0) rfl dX3_init_63) KX_c9_River_64
set_option maxRecDepth 20000 in
theorem KX_c9_River_60 : fk_B RX3 cX3_init 1 2 [(0, 39)] KX92 KXz8 [(49, 0), (39, 0)] 60 KX107 KXz16 [] 153 7 79 := fk_seq (nc := 0) (ns := 0) (nc1 := 7) (ns1 := 79) (kb_putR kp_RX3_34 kl_KX92_37 rfl dX3_init_60) KX_c9_River_63
set_option maxRecDepth 20000 in
theorem KX_c9_River_58 : fk_B RX3 cX3_init 1 2 [(0, 39)] KX91 KXz8 [(0, 6), (39, 0)] 58 KX107 KXz16 [] 153 8 85 := fk_seq (nc := 1) (ns := 6) (nc1 := 7) (ns1 := 79) (kb_arr (by decide +kernel) (by decide) rfl wk_ar_int (by decide +kernel) (by decide +kernel) (by decide) dX3_init_58) KX_c9_River_60
set_option maxRecDepth 20000 in
theorem KX_c9_River_56 : fk_B RX3 cX3_init 1 2 [(0, 39)] KX91 KXz8 [(39, 0)] 56 KX107 KXz16 [] 153 8 85 := fk_seq (nc := 0) (ns := 0) (nc1 := 8) (ns1 := 85) (kb_bipush dX3_init_56) KX_c9_River_58
set_option maxRecDepth 20000 in
theorem KX_c9_River_55 : fk_B RX3 cX3_init 1 2 [(0, 39)] KX91 KXz8 [] 55 KX107 KXz16 [] 153 8 85 := fk_seq (nc := 0) (ns := 0) (nc1 := 8) (ns1 := 85) (kb_aload (j := 0) rfl dX3_init_55) KX_c9_River_56
set_option maxRecDepth 20000 in
theorem KX_c9_River_52 : fk_B RX3 cX3_init 1 2 [(0, 39)] KX90 KXz8 [(48, 0), (39, 0)] 52 KX107 KXz16 [] 153 8 85 := fk_seq (nc := 0) (ns := 0) (nc1 := 8) (ns1 := 85) (kb_putR kp_RX3_31 kl_KX90_37 rfl dX3_init_52) KX_c9_River_55
set_option maxRecDepth 20000 in
theorem KX_c9_River_50 : fk_B RX3 cX3_init 1 2 [(0, 39)] KX89 KXz8 [(0, 24), (39, 0)] 50 KX107 KXz16 [] 153 9 109 := fk_seq (nc := 1) (ns := 24) (nc1 := 8) (ns1 := 85) (kb_arr (by decide +kernel) (by decide) rfl wk_ar_int (by decide +kernel) (by decide +kernel) (by decide) dX3_init_50) KX_c9_River_52
set_option maxRecDepth 20000 in
theorem KX_c9_River_48 : fk_B RX3 cX3_init 1 2 [(0, 39)] KX89 KXz8 [(39, 0)] 48 KX107 KXz16 [] 153 9 109 := fk_seq (nc := 0) (ns := 0) (nc1 := 9) (ns1 := 109) (kb_bipush dX3_init_48) KX_c9_River_50
set_option maxRecDepth 20000 in
theorem KX_c9_River_47 : fk_B RX3 cX3_init 1 2 [(0, 39)] KX89 KXz8 [] 47 KX107 KXz16 [] 153 9 109 := fk_seq (nc := 0) (ns := 0) (nc1 := 9) (ns1 := 109) (kb_aload (j := 0) rfl dX3_init_47) KX_c9_River_48
set_option maxRecDepth 20000 in
theorem KX_c9_River_44 : fk_B RX3 cX3_init 1 2 [(0, 39)] KX88 KXz8 [(47, 0), (39, 0)] 44 KX107 KXz16 [] 153 9 109 := fk_seq (nc := 0) (ns := 0) (nc1 := 9) (ns1 := 109) (kb_putR kp_RX3_28 kl_KX88_37 rfl dX3_init_44) KX_c9_River_47
set_option maxRecDepth 20000 in
theorem KX_c9_River_42 : fk_B RX3 cX3_init 1 2 [(0, 39)] KX87 KXz8 [(0, 6), (39, 0)] 42 KX107 KXz16 [] 153 10 115 := fk_seq (nc := 1) (ns := 6) (nc1 := 9) (ns1 := 109) (kb_arr (by decide +kernel) (by decide) rfl wk_ar_int (by decide +kernel) (by decide +kernel) (by decide) dX3_init_42) KX_c9_River_44
set_option maxRecDepth 20000 in
theorem KX_c9_River_40 : fk_B RX3 cX3_init 1 2 [(0, 39)] KX87 KXz8 [(39, 0)] 40 KX107 KXz16 [] 153 10 115 := fk_seq (nc := 0) (ns := 0) (nc1 := 10) (ns1 := 115) (kb_bipush dX3_init_40) KX_c9_River_42
set_option maxRecDepth 20000 in
theorem KX_c9_River_39 : fk_B RX3 cX3_init 1 2 [(0, 39)] KX87 KXz8 [] 39 KX107 KXz16 [] 153 10 115 := fk_seq (nc := 0) (ns := 0) (nc1 := 10) (ns1 := 115) (kb_aload (j := 0) rfl dX3_init_39) KX_c9_River_40
set_option maxRecDepth 20000 in
theorem KX_c9_River_36 : fk_B RX3 cX3_init 1 2 [(0, 39)] KX86 KXz8 [(46, 0), (39, 0)] 36 KX107 KXz16 [] 153 10 115 := fk_seq (nc := 0) (ns := 0) (nc1 := 10) (ns1 := 115) (kb_putR kp_RX3_25 kl_KX86_37 rfl dX3_init_36) KX_c9_River_39
set_option maxRecDepth 20000 in
theorem KX_c9_River_34 : fk_B RX3 cX3_init 1 2 [(0, 39)] KX85 KXz8 [(0, 6), (39, 0)] 34 KX107 KXz16 [] 153 11 121 := fk_seq (nc := 1) (ns := 6) (nc1 := 10) (ns1 := 115) (kb_arr (by decide +kernel) (by decide) rfl wk_ar_int (by decide +kernel) (by decide +kernel) (by decide) dX3_init_34) KX_c9_River_36
set_option maxRecDepth 20000 in
theorem KX_c9_River_32 : fk_B RX3 cX3_init 1 2 [(0, 39)] KX85 KXz8 [(39, 0)] 32 KX107 KXz16 [] 153 11 121 := fk_seq (nc := 0) (ns := 0) (nc1 := 11) (ns1 := 121) (kb_bipush dX3_init_32) KX_c9_River_34
set_option maxRecDepth 20000 in
theorem KX_c9_River_31 : fk_B RX3 cX3_init 1 2 [(0, 39)] KX85 KXz8 [] 31 KX107 KXz16 [] 153 11 121 := fk_seq (nc := 0) (ns := 0) (nc1 := 11) (ns1 := 121) (kb_aload (j := 0) rfl dX3_init_31) KX_c9_River_32
set_option maxRecDepth 20000 in
theorem KX_c9_River_28 : fk_B RX3 cX3_init 1 2 [(0, 39)] KX84 KXz8 [(45, 0), (39, 0)] 28 KX107 KXz16 [] 153 11 121 := fk_seq (nc := 0) (ns := 0) (nc1 := 11) (ns1 := 121) (kb_putR kp_RX3_22 kl_KX84_37 rfl dX3_init_28) KX_c9_River_31
set_option maxRecDepth 20000 in
theorem KX_c9_River_26 : fk_B RX3 cX3_init 1 2 [(0, 39)] KX83 KXz8 [(0, 10), (39, 0)] 26 KX107 KXz16 [] 153 12 131 := fk_seq (nc := 1) (ns := 10) (nc1 := 11) (ns1 := 121) (kb_arr (by decide +kernel) (by decide) rfl wk_ar_int (by decide +kernel) (by decide +kernel) (by decide) dX3_init_26) KX_c9_River_28
set_option maxRecDepth 20000 in
theorem KX_c9_River_24 : fk_B RX3 cX3_init 1 2 [(0, 39)] KX83 KXz8 [(39, 0)] 24 KX107 KXz16 [] 153 12 131 := fk_seq (nc := 0) (ns := 0) (nc1 := 12) (ns1 := 131) (kb_bipush dX3_init_24) KX_c9_River_26
set_option maxRecDepth 20000 in
theorem KX_c9_River_23 : fk_B RX3 cX3_init 1 2 [(0, 39)] KX83 KXz8 [] 23 KX107 KXz16 [] 153 12 131 := fk_seq (nc := 0) (ns := 0) (nc1 := 12) (ns1 := 131) (kb_aload (j := 0) rfl dX3_init_23) KX_c9_River_24
set_option maxRecDepth 20000 in
theorem KX_c9_River_20 : fk_B RX3 cX3_init 1 2 [(0, 39)] KX82 KXz8 [(44, 0), (39, 0)] 20 KX107 KXz16 [] 153 12 131 := fk_seq (nc := 0) (ns := 0) (nc1 := 12) (ns1 := 131) (kb_putR kp_RX3_18 kl_KX82_37 rfl dX3_init_20) KX_c9_River_23
set_option maxRecDepth 20000 in
theorem KX_c9_River_18 : fk_B RX3 cX3_init 1 2 [(0, 39)] KX81 KXz8 [(0, 10), (39, 0)] 18 KX107 KXz16 [] 153 13 141 := fk_seq (nc := 1) (ns := 10) (nc1 := 12) (ns1 := 131) (kb_arr (by decide +kernel) (by decide) rfl wk_ar_int (by decide +kernel) (by decide +kernel) (by decide) dX3_init_18) KX_c9_River_20
set_option maxRecDepth 20000 in
theorem KX_c9_River_16 : fk_B RX3 cX3_init 1 2 [(0, 39)] KX81 KXz8 [(39, 0)] 16 KX107 KXz16 [] 153 13 141 := fk_seq (nc := 0) (ns := 0) (nc1 := 13) (ns1 := 141) (kb_bipush dX3_init_16) KX_c9_River_18
set_option maxRecDepth 20000 in
theorem KX_c9_River_15 : fk_B RX3 cX3_init 1 2 [(0, 39)] KX81 KXz8 [] 15 KX107 KXz16 [] 153 13 141 := fk_seq (nc := 0) (ns := 0) (nc1 := 13) (ns1 := 141) (kb_aload (j := 0) rfl dX3_init_15) KX_c9_River_16
set_option maxRecDepth 20000 in
theorem KX_c9_River_12 : fk_B RX3 cX3_init 1 2 [(0, 39)] KX80 KXz8 [(40, 0), (39, 0)] 12 KX107 KXz16 [] 153 13 141 := fk_seq (nc := 0) (ns := 0) (nc1 := 13) (ns1 := 141) (kb_putR kp_RX3_12 kl_KX80_37 rfl dX3_init_12) KX_c9_River_15
set_option maxRecDepth 20000 in
theorem KX_c9_River_9 : fk_B RX3 cX3_init 1 2 [(0, 39)] KX74 KXz8 [(40, 0), (40, 0), (39, 0)] 9 KX107 KXz16 [] 153 16 219 := fk_seq (nc := 3) (ns := 78) (nc1 := 13) (ns1 := 141) (kb_ctor KX_c8_Names kn_RX3_11 (by decide) (by decide) (by decide) dX3_init_9) KX_c9_River_12
set_option maxRecDepth 20000 in
theorem KX_c9_River_8 : fk_B RX3 cX3_init 1 2 [(0, 39)] KX74 KXz8 [(40, 0), (39, 0)] 8 KX107 KXz16 [] 153 16 219 := fk_seq (nc := 0) (ns := 0) (nc1 := 16) (ns1 := 219) (kb_dup rfl dX3_init_8) KX_c9_River_9
set_option maxRecDepth 20000 in
theorem KX_c9_River_5 : fk_B RX3 cX3_init 1 2 [(0, 39)] KX73 KXz8 [(39, 0)] 5 KX107 KXz16 [] 153 17 223 := fk_seq (nc := 1) (ns := 4) (nc1 := 16) (ns1 := 219) (kb_new (by decide +kernel) rfl in_X0 tyX0_ok wk_cl_RX3_9 wk_in_X0 wn_RX0 kbl_X0 (by decide) (by decide) dX3_init_5) KX_c9_River_8
set_option maxRecDepth 20000 in
theorem KX_c9_River_4 : fk_B RX3 cX3_init 1 2 [(0, 39)] KX73 KXz8 [] 4 KX107 KXz16 [] 153 17 223 := fk_seq (nc := 0) (ns := 0) (nc1 := 17) (ns1 := 223) (kb_aload (j := 0) rfl dX3_init_4) KX_c9_River_5
set_option maxRecDepth 20000 in
theorem KX_c9_River_1 : fk_B RX3 cX3_init 1 2 [(0, 39)] KX73 KXz8 [(39, 0)] 1 KX107 KXz16 [] 153 17 223 := fk_seq (nc := 0) (ns := 0) (nc1 := 17) (ns1 := 223) (kb_obj ko_RX3_3 (by decide) dX3_init_1) KX_c9_River_4
set_option maxRecDepth 20000 in
theorem KX_c9_River_0 : fk_B RX3 cX3_init 1 2 [(0, 39)] KX73 KXz8 [] 0 KX107 KXz16 [] 153 17 223 := fk_seq (nc := 0) (ns := 0) (nc1 := 17) (ns1 := 223) (kb_aload (j := 0) rfl dX3_init_0) KX_c9_River_1
theorem KX_c9_River : fk_C yX3_init cX3_init 1 2 37 KX73 KXz8 KX107 KXz16 17 223 := fk_close (by decide +kernel) rfl (by decide) (show fk_B yX3_init.cls cX3_init 1 2 [(0, 39)] KX73 KXz8 [] 0 KX107 KXz16 [] 153 17 223 from KX_c9_River_0) dX3_init_153
theorem kl_KX107_36 : KX107[36]? = some (.inl (4, [(3, 0), (3, 0), (3, 0), (3, 0)])) := by decide +kernel
def KX108 : List CD := KX107.set 36 (.inl (4, ([(3, 0), (3, 0), (3, 0), (3, 0)] : List (Nat × Nat)).set 0 (0, 37)))
def KX109 : List CD := KX108 ++ [.inl (1, [(1, 0), (3, 0), (3, 0), (3, 0)])]
def KX110 : List CD := KX109 ++ [.inr (0, 40)]
theorem kl_KX110_55 : KX110[55]? = some (.inl (1, [(1, 0), (3, 0), (3, 0), (3, 0)])) := by decide +kernel
def KX111 : List CD := KX110.set 55 (.inl (1, ([(1, 0), (3, 0), (3, 0), (3, 0)] : List (Nat × Nat)).set 1 (0, 56)))
def KX112 : List CD := KX111 ++ [.inr (0, 40)]
theorem kl_KX112_55 : KX112[55]? = some (.inl (1, [(1, 0), (0, 56), (3, 0), (3, 0)])) := by decide +kernel
def KX113 : List CD := KX112.set 55 (.inl (1, ([(1, 0), (0, 56), (3, 0), (3, 0)] : List (Nat × Nat)).set 2 (0, 57)))
def KX114 : List CD := KX113 ++ [.inr (0, 40)]
theorem kl_KX114_55 : KX114[55]? = some (.inl (1, [(1, 0), (0, 56), (0, 57), (3, 0)])) := by decide +kernel
def KX115 : List CD := KX114.set 55 (.inl (1, ([(1, 0), (0, 56), (0, 57), (3, 0)] : List (Nat × Nat)).set 3 (0, 58)))
set_option maxRecDepth 20000 in
theorem KX_c10_Order_25 : fk_B RX1 cX1_init 1 1 [(0, 57)] KX114 KXz16 [(60, 0), (57, 0)] 25 KX115 KXz16 [] 28 0 0 := fk_seq (nc := 0) (ns := 0) (nc1 := 0) (ns1 := 0) (kb_putR kp_RX1_18 kl_KX114_55 rfl dX1_init_25) kb_nil
set_option maxRecDepth 20000 in
theorem KX_c10_Order_23 : fk_B RX1 cX1_init 1 1 [(0, 57)] KX113 KXz16 [(0, 40), (57, 0)] 23 KX115 KXz16 [] 28 1 40 := fk_seq (nc := 1) (ns := 40) (nc1 := 0) (ns1 := 0) (kb_arr (by decide +kernel) (by decide) rfl wk_ar_int (by decide +kernel) (by decide +kernel) (by decide) dX1_init_23) KX_c10_Order_25
set_option maxRecDepth 20000 in
theorem KX_c10_Order_21 : fk_B RX1 cX1_init 1 1 [(0, 57)] KX113 KXz16 [(57, 0)] 21 KX115 KXz16 [] 28 1 40 := fk_seq (nc := 0) (ns := 0) (nc1 := 1) (ns1 := 40) (kb_bipush dX1_init_21) KX_c10_Order_23
set_option maxRecDepth 20000 in
theorem KX_c10_Order_20 : fk_B RX1 cX1_init 1 1 [(0, 57)] KX113 KXz16 [] 20 KX115 KXz16 [] 28 1 40 := fk_seq (nc := 0) (ns := 0) (nc1 := 1) (ns1 := 40) (kb_aload (j := 0) rfl dX1_init_20) KX_c10_Order_21
set_option maxRecDepth 20000 in
theorem KX_c10_Order_17 : fk_B RX1 cX1_init 1 1 [(0, 57)] KX112 KXz16 [(59, 0), (57, 0)] 17 KX115 KXz16 [] 28 1 40 := fk_seq (nc := 0) (ns := 0) (nc1 := 1) (ns1 := 40) (kb_putR kp_RX1_15 kl_KX112_55 rfl dX1_init_17) KX_c10_Order_20
set_option maxRecDepth 20000 in
theorem KX_c10_Order_15 : fk_B RX1 cX1_init 1 1 [(0, 57)] KX111 KXz16 [(0, 40), (57, 0)] 15 KX115 KXz16 [] 28 2 80 := fk_seq (nc := 1) (ns := 40) (nc1 := 1) (ns1 := 40) (kb_arr (by decide +kernel) (by decide) rfl wk_ar_int (by decide +kernel) (by decide +kernel) (by decide) dX1_init_15) KX_c10_Order_17
set_option maxRecDepth 20000 in
theorem KX_c10_Order_13 : fk_B RX1 cX1_init 1 1 [(0, 57)] KX111 KXz16 [(57, 0)] 13 KX115 KXz16 [] 28 2 80 := fk_seq (nc := 0) (ns := 0) (nc1 := 2) (ns1 := 80) (kb_bipush dX1_init_13) KX_c10_Order_15
set_option maxRecDepth 20000 in
theorem KX_c10_Order_12 : fk_B RX1 cX1_init 1 1 [(0, 57)] KX111 KXz16 [] 12 KX115 KXz16 [] 28 2 80 := fk_seq (nc := 0) (ns := 0) (nc1 := 2) (ns1 := 80) (kb_aload (j := 0) rfl dX1_init_12) KX_c10_Order_13
set_option maxRecDepth 20000 in
theorem KX_c10_Order_9 : fk_B RX1 cX1_init 1 1 [(0, 57)] KX110 KXz16 [(58, 0), (57, 0)] 9 KX115 KXz16 [] 28 2 80 := fk_seq (nc := 0) (ns := 0) (nc1 := 2) (ns1 := 80) (kb_putR kp_RX1_9 kl_KX110_55 rfl dX1_init_9) KX_c10_Order_12
set_option maxRecDepth 20000 in
theorem KX_c10_Order_7 : fk_B RX1 cX1_init 1 1 [(0, 57)] KX109 KXz16 [(0, 40), (57, 0)] 7 KX115 KXz16 [] 28 3 120 := fk_seq (nc := 1) (ns := 40) (nc1 := 2) (ns1 := 80) (kb_arr (by decide +kernel) (by decide) rfl wk_ar_int (by decide +kernel) (by decide +kernel) (by decide) dX1_init_7) KX_c10_Order_9
set_option maxRecDepth 20000 in
theorem KX_c10_Order_5 : fk_B RX1 cX1_init 1 1 [(0, 57)] KX109 KXz16 [(57, 0)] 5 KX115 KXz16 [] 28 3 120 := fk_seq (nc := 0) (ns := 0) (nc1 := 3) (ns1 := 120) (kb_bipush dX1_init_5) KX_c10_Order_7
set_option maxRecDepth 20000 in
theorem KX_c10_Order_4 : fk_B RX1 cX1_init 1 1 [(0, 57)] KX109 KXz16 [] 4 KX115 KXz16 [] 28 3 120 := fk_seq (nc := 0) (ns := 0) (nc1 := 3) (ns1 := 120) (kb_aload (j := 0) rfl dX1_init_4) KX_c10_Order_5
set_option maxRecDepth 20000 in
theorem KX_c10_Order_1 : fk_B RX1 cX1_init 1 1 [(0, 57)] KX109 KXz16 [(57, 0)] 1 KX115 KXz16 [] 28 3 120 := fk_seq (nc := 0) (ns := 0) (nc1 := 3) (ns1 := 120) (kb_obj ko_RX1_3 (by decide) dX1_init_1) KX_c10_Order_4
set_option maxRecDepth 20000 in
theorem KX_c10_Order_0 : fk_B RX1 cX1_init 1 1 [(0, 57)] KX109 KXz16 [] 0 KX115 KXz16 [] 28 3 120 := fk_seq (nc := 0) (ns := 0) (nc1 := 3) (ns1 := 120) (kb_aload (j := 0) rfl dX1_init_0) KX_c10_Order_1
theorem KX_c10_Order : fk_C yX1_init cX1_init 1 1 55 KX109 KXz16 KX115 KXz16 3 120 := fk_close (by decide +kernel) rfl (by decide) (show fk_B yX1_init.cls cX1_init 1 1 [(0, 57)] KX109 KXz16 [] 0 KX115 KXz16 [] 28 3 120 from KX_c10_Order_0) dX1_init_28
theorem kl_KX115_36 : KX115[36]? = some (.inl (4, [(0, 37), (3, 0), (3, 0), (3, 0)])) := by decide +kernel
def KX116 : List CD := KX115.set 36 (.inl (4, ([(0, 37), (3, 0), (3, 0), (3, 0)] : List (Nat × Nat)).set 1 (0, 55)))
def KX117 : List CD := KX116 ++ [.inl (6, [(1, 0), (3, 0), (3, 0), (3, 0)])]
def KX118 : List CD := KX117 ++ [.inr (0, 20)]
theorem kl_KX118_59 : KX118[59]? = some (.inl (6, [(1, 0), (3, 0), (3, 0), (3, 0)])) := by decide +kernel
def KX119 : List CD := KX118.set 59 (.inl (6, ([(1, 0), (3, 0), (3, 0), (3, 0)] : List (Nat × Nat)).set 1 (0, 60)))
def KX120 : List CD := KX119 ++ [.inr (0, 20)]
theorem kl_KX120_59 : KX120[59]? = some (.inl (6, [(1, 0), (0, 60), (3, 0), (3, 0)])) := by decide +kernel
def KX121 : List CD := KX120.set 59 (.inl (6, ([(1, 0), (0, 60), (3, 0), (3, 0)] : List (Nat × Nat)).set 2 (0, 61)))
def KX122 : List CD := KX121 ++ [.inr (0, 20)]
theorem kl_KX122_59 : KX122[59]? = some (.inl (6, [(1, 0), (0, 60), (0, 61), (3, 0)])) := by decide +kernel
def KX123 : List CD := KX122.set 59 (.inl (6, ([(1, 0), (0, 60), (0, 61), (3, 0)] : List (Nat × Nat)).set 3 (0, 62)))
set_option maxRecDepth 20000 in
theorem KX_c11_Sights_25 : fk_B RX8 cX8_init 1 1 [(0, 61)] KX122 KXz16 [(64, 0), (61, 0)] 25 KX123 KXz16 [] 28 0 0 := fk_seq (nc := 0) (ns := 0) (nc1 := 0) (ns1 := 0) (kb_putR kp_RX8_18 kl_KX122_59 rfl dX8_init_25) kb_nil
set_option maxRecDepth 20000 in
theorem KX_c11_Sights_23 : fk_B RX8 cX8_init 1 1 [(0, 61)] KX121 KXz16 [(0, 20), (61, 0)] 23 KX123 KXz16 [] 28 1 20 := fk_seq (nc := 1) (ns := 20) (nc1 := 0) (ns1 := 0) (kb_arr (by decide +kernel) (by decide) rfl wk_ar_int (by decide +kernel) (by decide +kernel) (by decide) dX8_init_23) KX_c11_Sights_25
set_option maxRecDepth 20000 in
theorem KX_c11_Sights_21 : fk_B RX8 cX8_init 1 1 [(0, 61)] KX121 KXz16 [(61, 0)] 21 KX123 KXz16 [] 28 1 20 := fk_seq (nc := 0) (ns := 0) (nc1 := 1) (ns1 := 20) (kb_bipush dX8_init_21) KX_c11_Sights_23
set_option maxRecDepth 20000 in
theorem KX_c11_Sights_20 : fk_B RX8 cX8_init 1 1 [(0, 61)] KX121 KXz16 [] 20 KX123 KXz16 [] 28 1 20 := fk_seq (nc := 0) (ns := 0) (nc1 := 1) (ns1 := 20) (kb_aload (j := 0) rfl dX8_init_20) KX_c11_Sights_21
set_option maxRecDepth 20000 in
theorem KX_c11_Sights_17 : fk_B RX8 cX8_init 1 1 [(0, 61)] KX120 KXz16 [(63, 0), (61, 0)] 17 KX123 KXz16 [] 28 1 20 := fk_seq (nc := 0) (ns := 0) (nc1 := 1) (ns1 := 20) (kb_putR kp_RX8_15 kl_KX120_59 rfl dX8_init_17) KX_c11_Sights_20
set_option maxRecDepth 20000 in
theorem KX_c11_Sights_15 : fk_B RX8 cX8_init 1 1 [(0, 61)] KX119 KXz16 [(0, 20), (61, 0)] 15 KX123 KXz16 [] 28 2 40 := fk_seq (nc := 1) (ns := 20) (nc1 := 1) (ns1 := 20) (kb_arr (by decide +kernel) (by decide) rfl wk_ar_int (by decide +kernel) (by decide +kernel) (by decide) dX8_init_15) KX_c11_Sights_17
set_option maxRecDepth 20000 in
theorem KX_c11_Sights_13 : fk_B RX8 cX8_init 1 1 [(0, 61)] KX119 KXz16 [(61, 0)] 13 KX123 KXz16 [] 28 2 40 := fk_seq (nc := 0) (ns := 0) (nc1 := 2) (ns1 := 40) (kb_bipush dX8_init_13) KX_c11_Sights_15
set_option maxRecDepth 20000 in
theorem KX_c11_Sights_12 : fk_B RX8 cX8_init 1 1 [(0, 61)] KX119 KXz16 [] 12 KX123 KXz16 [] 28 2 40 := fk_seq (nc := 0) (ns := 0) (nc1 := 2) (ns1 := 40) (kb_aload (j := 0) rfl dX8_init_12) KX_c11_Sights_13
set_option maxRecDepth 20000 in
theorem KX_c11_Sights_9 : fk_B RX8 cX8_init 1 1 [(0, 61)] KX118 KXz16 [(62, 0), (61, 0)] 9 KX123 KXz16 [] 28 2 40 := fk_seq (nc := 0) (ns := 0) (nc1 := 2) (ns1 := 40) (kb_putR kp_RX8_9 kl_KX118_59 rfl dX8_init_9) KX_c11_Sights_12
set_option maxRecDepth 20000 in
theorem KX_c11_Sights_7 : fk_B RX8 cX8_init 1 1 [(0, 61)] KX117 KXz16 [(0, 20), (61, 0)] 7 KX123 KXz16 [] 28 3 60 := fk_seq (nc := 1) (ns := 20) (nc1 := 2) (ns1 := 40) (kb_arr (by decide +kernel) (by decide) rfl wk_ar_int (by decide +kernel) (by decide +kernel) (by decide) dX8_init_7) KX_c11_Sights_9
set_option maxRecDepth 20000 in
theorem KX_c11_Sights_5 : fk_B RX8 cX8_init 1 1 [(0, 61)] KX117 KXz16 [(61, 0)] 5 KX123 KXz16 [] 28 3 60 := fk_seq (nc := 0) (ns := 0) (nc1 := 3) (ns1 := 60) (kb_bipush dX8_init_5) KX_c11_Sights_7
set_option maxRecDepth 20000 in
theorem KX_c11_Sights_4 : fk_B RX8 cX8_init 1 1 [(0, 61)] KX117 KXz16 [] 4 KX123 KXz16 [] 28 3 60 := fk_seq (nc := 0) (ns := 0) (nc1 := 3) (ns1 := 60) (kb_aload (j := 0) rfl dX8_init_4) KX_c11_Sights_5
set_option maxRecDepth 20000 in
theorem KX_c11_Sights_1 : fk_B RX8 cX8_init 1 1 [(0, 61)] KX117 KXz16 [(61, 0)] 1 KX123 KXz16 [] 28 3 60 := fk_seq (nc := 0) (ns := 0) (nc1 := 3) (ns1 := 60) (kb_obj ko_RX8_3 (by decide) dX8_init_1) KX_c11_Sights_4
set_option maxRecDepth 20000 in
theorem KX_c11_Sights_0 : fk_B RX8 cX8_init 1 1 [(0, 61)] KX117 KXz16 [] 0 KX123 KXz16 [] 28 3 60 := fk_seq (nc := 0) (ns := 0) (nc1 := 3) (ns1 := 60) (kb_aload (j := 0) rfl dX8_init_0) KX_c11_Sights_1
theorem KX_c11_Sights : fk_C yX8_init cX8_init 1 1 59 KX117 KXz16 KX123 KXz16 3 60 := fk_close (by decide +kernel) rfl (by decide) (show fk_B yX8_init.cls cX8_init 1 1 [(0, 61)] KX117 KXz16 [] 0 KX123 KXz16 [] 28 3 60 from KX_c11_Sights_0) dX8_init_28
theorem kl_KX123_36 : KX123[36]? = some (.inl (4, [(0, 37), (0, 55), (3, 0), (3, 0)])) := by decide +kernel
def KX124 : List CD := KX123.set 36 (.inl (4, ([(0, 37), (0, 55), (3, 0), (3, 0)] : List (Nat × Nat)).set 2 (0, 59)))
def KX125 : List CD := KX124 ++ [.inl (5, [(1, 0), (1, 0), (3, 0), (3, 0), (3, 0), (3, 0), (3, 0)])]
def KX126 : List CD := KX125 ++ [.inr (0, 40)]
theorem kl_KX126_63 : KX126[63]? = some (.inl (5, [(1, 0), (1, 0), (3, 0), (3, 0), (3, 0), (3, 0), (3, 0)])) := by decide +kernel
def KX127 : List CD := KX126.set 63 (.inl (5, ([(1, 0), (1, 0), (3, 0), (3, 0), (3, 0), (3, 0), (3, 0)] : List (Nat × Nat)).set 2 (0, 64)))
def KX128 : List CD := KX127 ++ [.inr (0, 40)]
theorem kl_KX128_63 : KX128[63]? = some (.inl (5, [(1, 0), (1, 0), (0, 64), (3, 0), (3, 0), (3, 0), (3, 0)])) := by decide +kernel
def KX129 : List CD := KX128.set 63 (.inl (5, ([(1, 0), (1, 0), (0, 64), (3, 0), (3, 0), (3, 0), (3, 0)] : List (Nat × Nat)).set 3 (0, 65)))
def KX130 : List CD := KX129 ++ [.inr (0, 40)]
theorem kl_KX130_63 : KX130[63]? = some (.inl (5, [(1, 0), (1, 0), (0, 64), (0, 65), (3, 0), (3, 0), (3, 0)])) := by decide +kernel
def KX131 : List CD := KX130.set 63 (.inl (5, ([(1, 0), (1, 0), (0, 64), (0, 65), (3, 0), (3, 0), (3, 0)] : List (Nat × Nat)).set 4 (0, 66)))
def KX132 : List CD := KX131 ++ [.inr (0, 40)]
theorem kl_KX132_63 : KX132[63]? = some (.inl (5, [(1, 0), (1, 0), (0, 64), (0, 65), (0, 66), (3, 0), (3, 0)])) := by decide +kernel
def KX133 : List CD := KX132.set 63 (.inl (5, ([(1, 0), (1, 0), (0, 64), (0, 65), (0, 66), (3, 0), (3, 0)] : List (Nat × Nat)).set 5 (0, 67)))
def KX134 : List CD := KX133 ++ [.inr (0, 40)]
theorem kl_KX134_63 : KX134[63]? = some (.inl (5, [(1, 0), (1, 0), (0, 64), (0, 65), (0, 66), (0, 67), (3, 0)])) := by decide +kernel
def KX135 : List CD := KX134.set 63 (.inl (5, ([(1, 0), (1, 0), (0, 64), (0, 65), (0, 66), (0, 67), (3, 0)] : List (Nat × Nat)).set 6 (0, 68)))
set_option maxRecDepth 20000 in
theorem KX_c12_Sentence_41 : fk_B RX6 cX6_init 1 1 [(0, 65)] KX134 KXz16 [(70, 0), (65, 0)] 41 KX135 KXz16 [] 44 0 0 := fk_seq (nc := 0) (ns := 0) (nc1 := 0) (ns1 := 0) (kb_putR kp_RX6_24 kl_KX134_63 rfl dX6_init_41) kb_nil
set_option maxRecDepth 20000 in
theorem KX_c12_Sentence_39 : fk_B RX6 cX6_init 1 1 [(0, 65)] KX133 KXz16 [(0, 40), (65, 0)] 39 KX135 KXz16 [] 44 1 40 := fk_seq (nc := 1) (ns := 40) (nc1 := 0) (ns1 := 0) (kb_arr (by decide +kernel) (by decide) rfl wk_ar_int (by decide +kernel) (by decide +kernel) (by decide) dX6_init_39) KX_c12_Sentence_41
set_option maxRecDepth 20000 in
theorem KX_c12_Sentence_37 : fk_B RX6 cX6_init 1 1 [(0, 65)] KX133 KXz16 [(65, 0)] 37 KX135 KXz16 [] 44 1 40 := fk_seq (nc := 0) (ns := 0) (nc1 := 1) (ns1 := 40) (kb_bipush dX6_init_37) KX_c12_Sentence_39
set_option maxRecDepth 20000 in
theorem KX_c12_Sentence_36 : fk_B RX6 cX6_init 1 1 [(0, 65)] KX133 KXz16 [] 36 KX135 KXz16 [] 44 1 40 := fk_seq (nc := 0) (ns := 0) (nc1 := 1) (ns1 := 40) (kb_aload (j := 0) rfl dX6_init_36) KX_c12_Sentence_37
set_option maxRecDepth 20000 in
theorem KX_c12_Sentence_33 : fk_B RX6 cX6_init 1 1 [(0, 65)] KX132 KXz16 [(69, 0), (65, 0)] 33 KX135 KXz16 [] 44 1 40 := fk_seq (nc := 0) (ns := 0) (nc1 := 1) (ns1 := 40) (kb_putR kp_RX6_21 kl_KX132_63 rfl dX6_init_33) KX_c12_Sentence_36
set_option maxRecDepth 20000 in
theorem KX_c12_Sentence_31 : fk_B RX6 cX6_init 1 1 [(0, 65)] KX131 KXz16 [(0, 40), (65, 0)] 31 KX135 KXz16 [] 44 2 80 := fk_seq (nc := 1) (ns := 40) (nc1 := 1) (ns1 := 40) (kb_arr (by decide +kernel) (by decide) rfl wk_ar_int (by decide +kernel) (by decide +kernel) (by decide) dX6_init_31) KX_c12_Sentence_33
set_option maxRecDepth 20000 in
theorem KX_c12_Sentence_29 : fk_B RX6 cX6_init 1 1 [(0, 65)] KX131 KXz16 [(65, 0)] 29 KX135 KXz16 [] 44 2 80 := fk_seq (nc := 0) (ns := 0) (nc1 := 2) (ns1 := 80) (kb_bipush dX6_init_29) KX_c12_Sentence_31
set_option maxRecDepth 20000 in
theorem KX_c12_Sentence_28 : fk_B RX6 cX6_init 1 1 [(0, 65)] KX131 KXz16 [] 28 KX135 KXz16 [] 44 2 80 := fk_seq (nc := 0) (ns := 0) (nc1 := 2) (ns1 := 80) (kb_aload (j := 0) rfl dX6_init_28) KX_c12_Sentence_29
set_option maxRecDepth 20000 in
theorem KX_c12_Sentence_25 : fk_B RX6 cX6_init 1 1 [(0, 65)] KX130 KXz16 [(68, 0), (65, 0)] 25 KX135 KXz16 [] 44 2 80 := fk_seq (nc := 0) (ns := 0) (nc1 := 2) (ns1 := 80) (kb_putR kp_RX6_18 kl_KX130_63 rfl dX6_init_25) KX_c12_Sentence_28
set_option maxRecDepth 20000 in
theorem KX_c12_Sentence_23 : fk_B RX6 cX6_init 1 1 [(0, 65)] KX129 KXz16 [(0, 40), (65, 0)] 23 KX135 KXz16 [] 44 3 120 := fk_seq (nc := 1) (ns := 40) (nc1 := 2) (ns1 := 80) (kb_arr (by decide +kernel) (by decide) rfl wk_ar_int (by decide +kernel) (by decide +kernel) (by decide) dX6_init_23) KX_c12_Sentence_25
set_option maxRecDepth 20000 in
theorem KX_c12_Sentence_21 : fk_B RX6 cX6_init 1 1 [(0, 65)] KX129 KXz16 [(65, 0)] 21 KX135 KXz16 [] 44 3 120 := fk_seq (nc := 0) (ns := 0) (nc1 := 3) (ns1 := 120) (kb_bipush dX6_init_21) KX_c12_Sentence_23
set_option maxRecDepth 20000 in
theorem KX_c12_Sentence_20 : fk_B RX6 cX6_init 1 1 [(0, 65)] KX129 KXz16 [] 20 KX135 KXz16 [] 44 3 120 := fk_seq (nc := 0) (ns := 0) (nc1 := 3) (ns1 := 120) (kb_aload (j := 0) rfl dX6_init_20) KX_c12_Sentence_21
set_option maxRecDepth 20000 in
theorem KX_c12_Sentence_17 : fk_B RX6 cX6_init 1 1 [(0, 65)] KX128 KXz16 [(67, 0), (65, 0)] 17 KX135 KXz16 [] 44 3 120 := fk_seq (nc := 0) (ns := 0) (nc1 := 3) (ns1 := 120) (kb_putR kp_RX6_15 kl_KX128_63 rfl dX6_init_17) KX_c12_Sentence_20
set_option maxRecDepth 20000 in
theorem KX_c12_Sentence_15 : fk_B RX6 cX6_init 1 1 [(0, 65)] KX127 KXz16 [(0, 40), (65, 0)] 15 KX135 KXz16 [] 44 4 160 := fk_seq (nc := 1) (ns := 40) (nc1 := 3) (ns1 := 120) (kb_arr (by decide +kernel) (by decide) rfl wk_ar_int (by decide +kernel) (by decide +kernel) (by decide) dX6_init_15) KX_c12_Sentence_17
set_option maxRecDepth 20000 in
theorem KX_c12_Sentence_13 : fk_B RX6 cX6_init 1 1 [(0, 65)] KX127 KXz16 [(65, 0)] 13 KX135 KXz16 [] 44 4 160 := fk_seq (nc := 0) (ns := 0) (nc1 := 4) (ns1 := 160) (kb_bipush dX6_init_13) KX_c12_Sentence_15
set_option maxRecDepth 20000 in
theorem KX_c12_Sentence_12 : fk_B RX6 cX6_init 1 1 [(0, 65)] KX127 KXz16 [] 12 KX135 KXz16 [] 44 4 160 := fk_seq (nc := 0) (ns := 0) (nc1 := 4) (ns1 := 160) (kb_aload (j := 0) rfl dX6_init_12) KX_c12_Sentence_13
set_option maxRecDepth 20000 in
theorem KX_c12_Sentence_9 : fk_B RX6 cX6_init 1 1 [(0, 65)] KX126 KXz16 [(66, 0), (65, 0)] 9 KX135 KXz16 [] 44 4 160 := fk_seq (nc := 0) (ns := 0) (nc1 := 4) (ns1 := 160) (kb_putR kp_RX6_11 kl_KX126_63 rfl dX6_init_9) KX_c12_Sentence_12
set_option maxRecDepth 20000 in
theorem KX_c12_Sentence_7 : fk_B RX6 cX6_init 1 1 [(0, 65)] KX125 KXz16 [(0, 40), (65, 0)] 7 KX135 KXz16 [] 44 5 200 := fk_seq (nc := 1) (ns := 40) (nc1 := 4) (ns1 := 160) (kb_arr (by decide +kernel) (by decide) rfl wk_ar_int (by decide +kernel) (by decide +kernel) (by decide) dX6_init_7) KX_c12_Sentence_9
set_option maxRecDepth 20000 in
theorem KX_c12_Sentence_5 : fk_B RX6 cX6_init 1 1 [(0, 65)] KX125 KXz16 [(65, 0)] 5 KX135 KXz16 [] 44 5 200 := fk_seq (nc := 0) (ns := 0) (nc1 := 5) (ns1 := 200) (kb_bipush dX6_init_5) KX_c12_Sentence_7
set_option maxRecDepth 20000 in
theorem KX_c12_Sentence_4 : fk_B RX6 cX6_init 1 1 [(0, 65)] KX125 KXz16 [] 4 KX135 KXz16 [] 44 5 200 := fk_seq (nc := 0) (ns := 0) (nc1 := 5) (ns1 := 200) (kb_aload (j := 0) rfl dX6_init_4) KX_c12_Sentence_5
set_option maxRecDepth 20000 in
theorem KX_c12_Sentence_1 : fk_B RX6 cX6_init 1 1 [(0, 65)] KX125 KXz16 [(65, 0)] 1 KX135 KXz16 [] 44 5 200 := fk_seq (nc := 0) (ns := 0) (nc1 := 5) (ns1 := 200) (kb_obj ko_RX6_5 (by decide) dX6_init_1) KX_c12_Sentence_4
set_option maxRecDepth 20000 in
theorem KX_c12_Sentence_0 : fk_B RX6 cX6_init 1 1 [(0, 65)] KX125 KXz16 [] 0 KX135 KXz16 [] 44 5 200 := fk_seq (nc := 0) (ns := 0) (nc1 := 5) (ns1 := 200) (kb_aload (j := 0) rfl dX6_init_0) KX_c12_Sentence_1
theorem KX_c12_Sentence : fk_C yX6_init cX6_init 1 1 63 KX125 KXz16 KX135 KXz16 5 200 := fk_close (by decide +kernel) rfl (by decide) (show fk_B yX6_init.cls cX6_init 1 1 [(0, 65)] KX125 KXz16 [] 0 KX135 KXz16 [] 44 5 200 from KX_c12_Sentence_0) dX6_init_44
theorem kl_KX135_36 : KX135[36]? = some (.inl (4, [(0, 37), (0, 55), (0, 59), (3, 0)])) := by decide +kernel
def KX136 : List CD := KX135.set 36 (.inl (4, ([(0, 37), (0, 55), (0, 59), (3, 0)] : List (Nat × Nat)).set 3 (0, 63)))
set_option maxRecDepth 20000 in
theorem KX_c13_Scene_45 : fk_B RX5 cX5_init 1 3 [(0, 38)] KX135 KXz16 [(65, 0), (38, 0)] 45 KX136 KXz16 [] 48 0 0 := fk_seq (nc := 0) (ns := 0) (nc1 := 0) (ns1 := 0) (kb_putR kp_RX5_33 kl_KX135_36 rfl dX5_init_45) kb_nil
set_option maxRecDepth 20000 in
theorem KX_c13_Scene_42 : fk_B RX5 cX5_init 1 3 [(0, 38)] KX125 KXz16 [(65, 0), (65, 0), (38, 0)] 42 KX136 KXz16 [] 48 5 200 := fk_seq (nc := 5) (ns := 200) (nc1 := 0) (ns1 := 0) (kb_ctor KX_c12_Sentence kn_RX5_32 (by decide) (by decide) (by decide) dX5_init_42) KX_c13_Scene_45
set_option maxRecDepth 20000 in
theorem KX_c13_Scene_41 : fk_B RX5 cX5_init 1 3 [(0, 38)] KX125 KXz16 [(65, 0), (38, 0)] 41 KX136 KXz16 [] 48 5 200 := fk_seq (nc := 0) (ns := 0) (nc1 := 5) (ns1 := 200) (kb_dup rfl dX5_init_41) KX_c13_Scene_42
set_option maxRecDepth 20000 in
theorem KX_c13_Scene_38 : fk_B RX5 cX5_init 1 3 [(0, 38)] KX124 KXz16 [(38, 0)] 38 KX136 KXz16 [] 48 6 207 := fk_seq (nc := 1) (ns := 7) (nc1 := 5) (ns1 := 200) (kb_new (by decide +kernel) rfl in_X6 tyX6_ok wk_cl_RX5_30 wk_in_X6 wn_RX6 kbl_X6 (by decide) (by decide) dX5_init_38) KX_c13_Scene_41
set_option maxRecDepth 20000 in
theorem KX_c13_Scene_37 : fk_B RX5 cX5_init 1 3 [(0, 38)] KX124 KXz16 [] 37 KX136 KXz16 [] 48 6 207 := fk_seq (nc := 0) (ns := 0) (nc1 := 6) (ns1 := 207) (kb_aload (j := 0) rfl dX5_init_37) KX_c13_Scene_38
set_option maxRecDepth 20000 in
theorem KX_c13_Scene_34 : fk_B RX5 cX5_init 1 3 [(0, 38)] KX123 KXz16 [(61, 0), (38, 0)] 34 KX136 KXz16 [] 48 6 207 := fk_seq (nc := 0) (ns := 0) (nc1 := 6) (ns1 := 207) (kb_putR kp_RX5_26 kl_KX123_36 rfl dX5_init_34) KX_c13_Scene_37
set_option maxRecDepth 20000 in
theorem KX_c13_Scene_31 : fk_B RX5 cX5_init 1 3 [(0, 38)] KX117 KXz16 [(61, 0), (61, 0), (38, 0)] 31 KX136 KXz16 [] 48 9 267 := fk_seq (nc := 3) (ns := 60) (nc1 := 6) (ns1 := 207) (kb_ctor KX_c11_Sights kn_RX5_25 (by decide) (by decide) (by decide) dX5_init_31) KX_c13_Scene_34
set_option maxRecDepth 20000 in
theorem KX_c13_Scene_30 : fk_B RX5 cX5_init 1 3 [(0, 38)] KX117 KXz16 [(61, 0), (38, 0)] 30 KX136 KXz16 [] 48 9 267 := fk_seq (nc := 0) (ns := 0) (nc1 := 9) (ns1 := 267) (kb_dup rfl dX5_init_30) KX_c13_Scene_31
set_option maxRecDepth 20000 in
theorem KX_c13_Scene_27 : fk_B RX5 cX5_init 1 3 [(0, 38)] KX116 KXz16 [(38, 0)] 27 KX136 KXz16 [] 48 10 271 := fk_seq (nc := 1) (ns := 4) (nc1 := 9) (ns1 := 267) (kb_new (by decide +kernel) rfl in_X8 tyX8_ok wk_cl_RX5_23 wk_in_X8 wn_RX8 kbl_X8 (by decide) (by decide) dX5_init_27) KX_c13_Scene_30
set_option maxRecDepth 20000 in
theorem KX_c13_Scene_26 : fk_B RX5 cX5_init 1 3 [(0, 38)] KX116 KXz16 [] 26 KX136 KXz16 [] 48 10 271 := fk_seq (nc := 0) (ns := 0) (nc1 := 10) (ns1 := 271) (kb_aload (j := 0) rfl dX5_init_26) KX_c13_Scene_27
set_option maxRecDepth 20000 in
theorem KX_c13_Scene_23 : fk_B RX5 cX5_init 1 3 [(0, 38)] KX115 KXz16 [(57, 0), (38, 0)] 23 KX136 KXz16 [] 48 10 271 := fk_seq (nc := 0) (ns := 0) (nc1 := 10) (ns1 := 271) (kb_putR kp_RX5_19 kl_KX115_36 rfl dX5_init_23) KX_c13_Scene_26
set_option maxRecDepth 20000 in
theorem KX_c13_Scene_20 : fk_B RX5 cX5_init 1 3 [(0, 38)] KX109 KXz16 [(57, 0), (57, 0), (38, 0)] 20 KX136 KXz16 [] 48 13 391 := fk_seq (nc := 3) (ns := 120) (nc1 := 10) (ns1 := 271) (kb_ctor KX_c10_Order kn_RX5_18 (by decide) (by decide) (by decide) dX5_init_20) KX_c13_Scene_23
set_option maxRecDepth 20000 in
theorem KX_c13_Scene_19 : fk_B RX5 cX5_init 1 3 [(0, 38)] KX109 KXz16 [(57, 0), (38, 0)] 19 KX136 KXz16 [] 48 13 391 := fk_seq (nc := 0) (ns := 0) (nc1 := 13) (ns1 := 391) (kb_dup rfl dX5_init_19) KX_c13_Scene_20
set_option maxRecDepth 20000 in
theorem KX_c13_Scene_16 : fk_B RX5 cX5_init 1 3 [(0, 38)] KX108 KXz16 [(38, 0)] 16 KX136 KXz16 [] 48 14 395 := fk_seq (nc := 1) (ns := 4) (nc1 := 13) (ns1 := 391) (kb_new (by decide +kernel) rfl in_X1 tyX1_ok wk_cl_RX5_16 wk_in_X1 wn_RX1 kbl_X1 (by decide) (by decide) dX5_init_16) KX_c13_Scene_19
set_option maxRecDepth 20000 in
theorem KX_c13_Scene_15 : fk_B RX5 cX5_init 1 3 [(0, 38)] KX108 KXz16 [] 15 KX136 KXz16 [] 48 14 395 := fk_seq (nc := 0) (ns := 0) (nc1 := 14) (ns1 := 395) (kb_aload (j := 0) rfl dX5_init_15) KX_c13_Scene_16
set_option maxRecDepth 20000 in
theorem KX_c13_Scene_12 : fk_B RX5 cX5_init 1 3 [(0, 38)] KX107 KXz16 [(39, 0), (38, 0)] 12 KX136 KXz16 [] 48 14 395 := fk_seq (nc := 0) (ns := 0) (nc1 := 14) (ns1 := 395) (kb_putR kp_RX5_10 kl_KX107_36 rfl dX5_init_12) KX_c13_Scene_15
set_option maxRecDepth 20000 in
theorem KX_c13_Scene_9 : fk_B RX5 cX5_init 1 3 [(0, 38)] KX73 KXz8 [(39, 0), (39, 0), (38, 0)] 9 KX136 KXz16 [] 48 31 618 := fk_seq (nc := 17) (ns := 223) (nc1 := 14) (ns1 := 395) (kb_ctor KX_c9_River kn_RX5_9 (by decide) (by decide) (by decide) dX5_init_9) KX_c13_Scene_12
set_option maxRecDepth 20000 in
theorem KX_c13_Scene_8 : fk_B RX5 cX5_init 1 3 [(0, 38)] KX73 KXz8 [(39, 0), (38, 0)] 8 KX136 KXz16 [] 48 31 618 := fk_seq (nc := 0) (ns := 0) (nc1 := 31) (ns1 := 618) (kb_dup rfl dX5_init_8) KX_c13_Scene_9
set_option maxRecDepth 20000 in
theorem KX_c13_Scene_5 : fk_B RX5 cX5_init 1 3 [(0, 38)] KX72 KXz8 [(38, 0)] 5 KX136 KXz16 [] 48 32 638 := fk_seq (nc := 1) (ns := 20) (nc1 := 31) (ns1 := 618) (kb_new (by decide +kernel) rfl in_X3 tyX3_ok wk_cl_RX5_7 wk_in_X3 wn_RX3 kbl_X3 (by decide) (by decide) dX5_init_5) KX_c13_Scene_8
set_option maxRecDepth 20000 in
theorem KX_c13_Scene_4 : fk_B RX5 cX5_init 1 3 [(0, 38)] KX72 KXz8 [] 4 KX136 KXz16 [] 48 32 638 := fk_seq (nc := 0) (ns := 0) (nc1 := 32) (ns1 := 638) (kb_aload (j := 0) rfl dX5_init_4) KX_c13_Scene_5
set_option maxRecDepth 20000 in
theorem KX_c13_Scene_1 : fk_B RX5 cX5_init 1 3 [(0, 38)] KX72 KXz8 [(38, 0)] 1 KX136 KXz16 [] 48 32 638 := fk_seq (nc := 0) (ns := 0) (nc1 := 32) (ns1 := 638) (kb_obj ko_RX5_1 (by decide) dX5_init_1) KX_c13_Scene_4
set_option maxRecDepth 20000 in
theorem KX_c13_Scene_0 : fk_B RX5 cX5_init 1 3 [(0, 38)] KX72 KXz8 [] 0 KX136 KXz16 [] 48 32 638 := fk_seq (nc := 0) (ns := 0) (nc1 := 32) (ns1 := 638) (kb_aload (j := 0) rfl dX5_init_0) KX_c13_Scene_1
theorem KX_c13_Scene : fk_C yX5_init cX5_init 1 3 36 KX72 KXz8 KX136 KXz16 32 638 := fk_close (by decide +kernel) rfl (by decide) (show fk_B yX5_init.cls cX5_init 1 3 [(0, 38)] KX72 KXz8 [] 0 KX136 KXz16 [] 48 32 638 from KX_c13_Scene_0) dX5_init_48
theorem kl_KX136_0 : KX136[0]? = some (.inl (9, [(0, 1), (1, 0), (0, 3), (3, 0), (3, 0), (3, 0), (1, 0), (1, 0), (3, 0), (3, 0), (1, 0), (3, 0), (3, 0), (3, 0), (1, 0), (1, 0), (3, 0)])) := by decide +kernel
def KX137 : List CD := KX136.set 0 (.inl (9, ([(0, 1), (1, 0), (0, 3), (3, 0), (3, 0), (3, 0), (1, 0), (1, 0), (3, 0), (3, 0), (1, 0), (3, 0), (3, 0), (3, 0), (1, 0), (1, 0), (3, 0)] : List (Nat × Nat)).set 3 (0, 36)))
def KX138 : List CD := KX137 ++ [.inl (4, [(3, 0), (3, 0), (3, 0), (3, 0)])]
def KX139 : List CD := KX138 ++ [.inl (3, [(3, 0), (1, 0), (3, 0), (3, 0), (1, 0), (1, 0), (3, 0), (3, 0), (3, 0), (1, 0), (3, 0), (3, 0), (3, 0), (3, 0), (3, 0), (1, 0), (1, 0), (3, 0), (3, 0), (3, 0)])]
def KX140 : List CD := KX139 ++ [.inl (0, [(1, 0), (3, 0), (3, 0), (3, 0)])]
def KX141 : List CD := KX140 ++ [.inr (1, 26)]
theorem kl_KX141_71 : KX141[71]? = some (.inl (0, [(1, 0), (3, 0), (3, 0), (3, 0)])) := by decide +kernel
def KX142 : List CD := KX141.set 71 (.inl (0, ([(1, 0), (3, 0), (3, 0), (3, 0)] : List (Nat × Nat)).set 1 (0, 72)))
def KX143 : List CD := KX142 ++ [.inr (0, 26)]
theorem kl_KX143_71 : KX143[71]? = some (.inl (0, [(1, 0), (0, 72), (3, 0), (3, 0)])) := by decide +kernel
def KX144 : List CD := KX143.set 71 (.inl (0, ([(1, 0), (0, 72), (3, 0), (3, 0)] : List (Nat × Nat)).set 2 (0, 73)))
def KX145 : List CD := KX144 ++ [.inr (0, 26)]
theorem kl_KX145_71 : KX145[71]? = some (.inl (0, [(1, 0), (0, 72), (0, 73), (3, 0)])) := by decide +kernel
def KX146 : List CD := KX145.set 71 (.inl (0, ([(1, 0), (0, 72), (0, 73), (3, 0)] : List (Nat × Nat)).set 3 (0, 74)))
set_option maxRecDepth 20000 in
theorem KX_c14_Names_25 : fk_B RX0 cX0_init 1 1 [(0, 73)] KX145 KXz16 [(76, 0), (73, 0)] 25 KX146 KXz16 [] 28 0 0 := fk_seq (nc := 0) (ns := 0) (nc1 := 0) (ns1 := 0) (kb_putR kp_RX0_19 kl_KX145_71 rfl dX0_init_25) kb_nil
set_option maxRecDepth 20000 in
theorem KX_c14_Names_23 : fk_B RX0 cX0_init 1 1 [(0, 73)] KX144 KXz16 [(0, 26), (73, 0)] 23 KX146 KXz16 [] 28 1 26 := fk_seq (nc := 1) (ns := 26) (nc1 := 0) (ns1 := 0) (kb_arr (by decide +kernel) (by decide) rfl wk_ar_int (by decide +kernel) (by decide +kernel) (by decide) dX0_init_23) KX_c14_Names_25
set_option maxRecDepth 20000 in
theorem KX_c14_Names_21 : fk_B RX0 cX0_init 1 1 [(0, 73)] KX144 KXz16 [(73, 0)] 21 KX146 KXz16 [] 28 1 26 := fk_seq (nc := 0) (ns := 0) (nc1 := 1) (ns1 := 26) (kb_bipush dX0_init_21) KX_c14_Names_23
set_option maxRecDepth 20000 in
theorem KX_c14_Names_20 : fk_B RX0 cX0_init 1 1 [(0, 73)] KX144 KXz16 [] 20 KX146 KXz16 [] 28 1 26 := fk_seq (nc := 0) (ns := 0) (nc1 := 1) (ns1 := 26) (kb_aload (j := 0) rfl dX0_init_20) KX_c14_Names_21
set_option maxRecDepth 20000 in
theorem KX_c14_Names_17 : fk_B RX0 cX0_init 1 1 [(0, 73)] KX143 KXz16 [(75, 0), (73, 0)] 17 KX146 KXz16 [] 28 1 26 := fk_seq (nc := 0) (ns := 0) (nc1 := 1) (ns1 := 26) (kb_putR kp_RX0_15 kl_KX143_71 rfl dX0_init_17) KX_c14_Names_20
set_option maxRecDepth 20000 in
theorem KX_c14_Names_15 : fk_B RX0 cX0_init 1 1 [(0, 73)] KX142 KXz16 [(0, 26), (73, 0)] 15 KX146 KXz16 [] 28 2 52 := fk_seq (nc := 1) (ns := 26) (nc1 := 1) (ns1 := 26) (kb_arr (by decide +kernel) (by decide) rfl wk_ar_int (by decide +kernel) (by decide +kernel) (by decide) dX0_init_15) KX_c14_Names_17
set_option maxRecDepth 20000 in
theorem KX_c14_Names_13 : fk_B RX0 cX0_init 1 1 [(0, 73)] KX142 KXz16 [(73, 0)] 13 KX146 KXz16 [] 28 2 52 := fk_seq (nc := 0) (ns := 0) (nc1 := 2) (ns1 := 52) (kb_bipush dX0_init_13) KX_c14_Names_15
set_option maxRecDepth 20000 in
theorem KX_c14_Names_12 : fk_B RX0 cX0_init 1 1 [(0, 73)] KX142 KXz16 [] 12 KX146 KXz16 [] 28 2 52 := fk_seq (nc := 0) (ns := 0) (nc1 := 2) (ns1 := 52) (kb_aload (j := 0) rfl dX0_init_12) KX_c14_Names_13
set_option maxRecDepth 20000 in
theorem KX_c14_Names_9 : fk_B RX0 cX0_init 1 1 [(0, 73)] KX141 KXz16 [(74, 0), (73, 0)] 9 KX146 KXz16 [] 28 2 52 := fk_seq (nc := 0) (ns := 0) (nc1 := 2) (ns1 := 52) (kb_putR kp_RX0_11 kl_KX141_71 rfl dX0_init_9) KX_c14_Names_12
set_option maxRecDepth 20000 in
theorem KX_c14_Names_7 : fk_B RX0 cX0_init 1 1 [(0, 73)] KX140 KXz16 [(0, 26), (73, 0)] 7 KX146 KXz16 [] 28 3 78 := fk_seq (nc := 1) (ns := 26) (nc1 := 2) (ns1 := 52) (kb_arr (by decide +kernel) (by decide) rfl wk_ar_long (by decide +kernel) (by decide +kernel) (by decide) dX0_init_7) KX_c14_Names_9
set_option maxRecDepth 20000 in
theorem KX_c14_Names_5 : fk_B RX0 cX0_init 1 1 [(0, 73)] KX140 KXz16 [(73, 0)] 5 KX146 KXz16 [] 28 3 78 := fk_seq (nc := 0) (ns := 0) (nc1 := 3) (ns1 := 78) (kb_bipush dX0_init_5) KX_c14_Names_7
set_option maxRecDepth 20000 in
theorem KX_c14_Names_4 : fk_B RX0 cX0_init 1 1 [(0, 73)] KX140 KXz16 [] 4 KX146 KXz16 [] 28 3 78 := fk_seq (nc := 0) (ns := 0) (nc1 := 3) (ns1 := 78) (kb_aload (j := 0) rfl dX0_init_4) KX_c14_Names_5
set_option maxRecDepth 20000 in
theorem KX_c14_Names_1 : fk_B RX0 cX0_init 1 1 [(0, 73)] KX140 KXz16 [(73, 0)] 1 KX146 KXz16 [] 28 3 78 := fk_seq (nc := 0) (ns := 0) (nc1 := 3) (ns1 := 78) (kb_obj ko_RX0_3 (by decide) dX0_init_1) KX_c14_Names_4
set_option maxRecDepth 20000 in
theorem KX_c14_Names_0 : fk_B RX0 cX0_init 1 1 [(0, 73)] KX140 KXz16 [] 0 KX146 KXz16 [] 28 3 78 := fk_seq (nc := 0) (ns := 0) (nc1 := 3) (ns1 := 78) (kb_aload (j := 0) rfl dX0_init_0) KX_c14_Names_1
theorem KX_c14_Names : fk_C yX0_init cX0_init 1 1 71 KX140 KXz16 KX146 KXz16 3 78 := fk_close (by decide +kernel) rfl (by decide) (show fk_B yX0_init.cls cX0_init 1 1 [(0, 73)] KX140 KXz16 [] 0 KX146 KXz16 [] 28 3 78 from KX_c14_Names_0) dX0_init_28
theorem kl_KX146_70 : KX146[70]? = some (.inl (3, [(3, 0), (1, 0), (3, 0), (3, 0), (1, 0), (1, 0), (3, 0), (3, 0), (3, 0), (1, 0), (3, 0), (3, 0), (3, 0), (3, 0), (3, 0), (1, 0), (1, 0), (3, 0), (3, 0), (3, 0)])) := by decide +kernel
def KX147 : List CD := KX146.set 70 (.inl (3, ([(3, 0), (1, 0), (3, 0), (3, 0), (1, 0), (1, 0), (3, 0), (3, 0), (3, 0), (1, 0), (3, 0), (3, 0), (3, 0), (3, 0), (3, 0), (1, 0), (1, 0), (3, 0), (3, 0), (3, 0)] : List (Nat × Nat)).set 0 (0, 71)))
def KX148 : List CD := KX147 ++ [.inr (0, 10)]
theorem kl_KX148_70 : KX148[70]? = some (.inl (3, [(0, 71), (1, 0), (3, 0), (3, 0), (1, 0), (1, 0), (3, 0), (3, 0), (3, 0), (1, 0), (3, 0), (3, 0), (3, 0), (3, 0), (3, 0), (1, 0), (1, 0), (3, 0), (3, 0), (3, 0)])) := by decide +kernel
def KX149 : List CD := KX148.set 70 (.inl (3, ([(0, 71), (1, 0), (3, 0), (3, 0), (1, 0), (1, 0), (3, 0), (3, 0), (3, 0), (1, 0), (3, 0), (3, 0), (3, 0), (3, 0), (3, 0), (1, 0), (1, 0), (3, 0), (3, 0), (3, 0)] : List (Nat × Nat)).set 2 (0, 75)))
def KX150 : List CD := KX149 ++ [.inr (0, 10)]
theorem kl_KX150_70 : KX150[70]? = some (.inl (3, [(0, 71), (1, 0), (0, 75), (3, 0), (1, 0), (1, 0), (3, 0), (3, 0), (3, 0), (1, 0), (3, 0), (3, 0), (3, 0), (3, 0), (3, 0), (1, 0), (1, 0), (3, 0), (3, 0), (3, 0)])) := by decide +kernel
def KX151 : List CD := KX150.set 70 (.inl (3, ([(0, 71), (1, 0), (0, 75), (3, 0), (1, 0), (1, 0), (3, 0), (3, 0), (3, 0), (1, 0), (3, 0), (3, 0), (3, 0), (3, 0), (3, 0), (1, 0), (1, 0), (3, 0), (3, 0), (3, 0)] : List (Nat × Nat)).set 3 (0, 76)))
def KX152 : List CD := KX151 ++ [.inr (0, 6)]
theorem kl_KX152_70 : KX152[70]? = some (.inl (3, [(0, 71), (1, 0), (0, 75), (0, 76), (1, 0), (1, 0), (3, 0), (3, 0), (3, 0), (1, 0), (3, 0), (3, 0), (3, 0), (3, 0), (3, 0), (1, 0), (1, 0), (3, 0), (3, 0), (3, 0)])) := by decide +kernel
def KX153 : List CD := KX152.set 70 (.inl (3, ([(0, 71), (1, 0), (0, 75), (0, 76), (1, 0), (1, 0), (3, 0), (3, 0), (3, 0), (1, 0), (3, 0), (3, 0), (3, 0), (3, 0), (3, 0), (1, 0), (1, 0), (3, 0), (3, 0), (3, 0)] : List (Nat × Nat)).set 6 (0, 77)))
def KX154 : List CD := KX153 ++ [.inr (0, 6)]
theorem kl_KX154_70 : KX154[70]? = some (.inl (3, [(0, 71), (1, 0), (0, 75), (0, 76), (1, 0), (1, 0), (0, 77), (3, 0), (3, 0), (1, 0), (3, 0), (3, 0), (3, 0), (3, 0), (3, 0), (1, 0), (1, 0), (3, 0), (3, 0), (3, 0)])) := by decide +kernel
def KX155 : List CD := KX154.set 70 (.inl (3, ([(0, 71), (1, 0), (0, 75), (0, 76), (1, 0), (1, 0), (0, 77), (3, 0), (3, 0), (1, 0), (3, 0), (3, 0), (3, 0), (3, 0), (3, 0), (1, 0), (1, 0), (3, 0), (3, 0), (3, 0)] : List (Nat × Nat)).set 7 (0, 78)))
def KX156 : List CD := KX155 ++ [.inr (0, 24)]
theorem kl_KX156_70 : KX156[70]? = some (.inl (3, [(0, 71), (1, 0), (0, 75), (0, 76), (1, 0), (1, 0), (0, 77), (0, 78), (3, 0), (1, 0), (3, 0), (3, 0), (3, 0), (3, 0), (3, 0), (1, 0), (1, 0), (3, 0), (3, 0), (3, 0)])) := by decide +kernel
def KX157 : List CD := KX156.set 70 (.inl (3, ([(0, 71), (1, 0), (0, 75), (0, 76), (1, 0), (1, 0), (0, 77), (0, 78), (3, 0), (1, 0), (3, 0), (3, 0), (3, 0), (3, 0), (3, 0), (1, 0), (1, 0), (3, 0), (3, 0), (3, 0)] : List (Nat × Nat)).set 8 (0, 79)))
def KX158 : List CD := KX157 ++ [.inr (0, 6)]
theorem kl_KX158_70 : KX158[70]? = some (.inl (3, [(0, 71), (1, 0), (0, 75), (0, 76), (1, 0), (1, 0), (0, 77), (0, 78), (0, 79), (1, 0), (3, 0), (3, 0), (3, 0), (3, 0), (3, 0), (1, 0), (1, 0), (3, 0), (3, 0), (3, 0)])) := by decide +kernel
def KX159 : List CD := KX158.set 70 (.inl (3, ([(0, 71), (1, 0), (0, 75), (0, 76), (1, 0), (1, 0), (0, 77), (0, 78), (0, 79), (1, 0), (3, 0), (3, 0), (3, 0), (3, 0), (3, 0), (1, 0), (1, 0), (3, 0), (3, 0), (3, 0)] : List (Nat × Nat)).set 10 (0, 80)))
def KX160 : List CD := KX159 ++ [.inr (0, 6)]
theorem kl_KX160_70 : KX160[70]? = some (.inl (3, [(0, 71), (1, 0), (0, 75), (0, 76), (1, 0), (1, 0), (0, 77), (0, 78), (0, 79), (1, 0), (0, 80), (3, 0), (3, 0), (3, 0), (3, 0), (1, 0), (1, 0), (3, 0), (3, 0), (3, 0)])) := by decide +kernel
def KX161 : List CD := KX160.set 70 (.inl (3, ([(0, 71), (1, 0), (0, 75), (0, 76), (1, 0), (1, 0), (0, 77), (0, 78), (0, 79), (1, 0), (0, 80), (3, 0), (3, 0), (3, 0), (3, 0), (1, 0), (1, 0), (3, 0), (3, 0), (3, 0)] : List (Nat × Nat)).set 11 (0, 81)))
def KX162 : List CD := KX161 ++ [.inr (0, 6)]
theorem kl_KX162_70 : KX162[70]? = some (.inl (3, [(0, 71), (1, 0), (0, 75), (0, 76), (1, 0), (1, 0), (0, 77), (0, 78), (0, 79), (1, 0), (0, 80), (0, 81), (3, 0), (3, 0), (3, 0), (1, 0), (1, 0), (3, 0), (3, 0), (3, 0)])) := by decide +kernel
def KX163 : List CD := KX162.set 70 (.inl (3, ([(0, 71), (1, 0), (0, 75), (0, 76), (1, 0), (1, 0), (0, 77), (0, 78), (0, 79), (1, 0), (0, 80), (0, 81), (3, 0), (3, 0), (3, 0), (1, 0), (1, 0), (3, 0), (3, 0), (3, 0)] : List (Nat × Nat)).set 12 (0, 82)))
def KX164 : List CD := KX163 ++ [.inr (0, 24)]
theorem kl_KX164_70 : KX164[70]? = some (.inl (3, [(0, 71), (1, 0), (0, 75), (0, 76), (1, 0), (1, 0), (0, 77), (0, 78), (0, 79), (1, 0), (0, 80), (0, 81), (0, 82), (3, 0), (3, 0), (1, 0), (1, 0), (3, 0), (3, 0), (3, 0)])) := by decide +kernel
def KX165 : List CD := KX164.set 70 (.inl (3, ([(0, 71), (1, 0), (0, 75), (0, 76), (1, 0), (1, 0), (0, 77), (0, 78), (0, 79), (1, 0), (0, 80), (0, 81), (0, 82), (3, 0), (3, 0), (1, 0), (1, 0), (3, 0), (3, 0), (3, 0)] : List (Nat × Nat)).set 13 (0, 83)))
def KX166 : List CD := KX165 ++ [.inr (0, 7)]
theorem kl_KX166_84 : KX166[84]? = some (.inr (0, 7)) := by decide +kernel
def KXz17 : Me := u2 KXz16 5376 0 (-1)
def KXz18 : Me := u2 KXz17 5376 1 (-1)
def KXz19 : Me := u2 KXz18 5376 2 (-1)
def KXz20 : Me := u2 KXz19 5376 3 (-1)
def KXz21 : Me := u2 KXz20 5376 4 (-1)
def KXz22 : Me := u2 KXz21 5376 5 (-1)
def KXz23 : Me := u2 KXz22 5376 6 (-1)
theorem kl_KX166_70 : KX166[70]? = some (.inl (3, [(0, 71), (1, 0), (0, 75), (0, 76), (1, 0), (1, 0), (0, 77), (0, 78), (0, 79), (1, 0), (0, 80), (0, 81), (0, 82), (0, 83), (3, 0), (1, 0), (1, 0), (3, 0), (3, 0), (3, 0)])) := by decide +kernel
def KX167 : List CD := KX166.set 70 (.inl (3, ([(0, 71), (1, 0), (0, 75), (0, 76), (1, 0), (1, 0), (0, 77), (0, 78), (0, 79), (1, 0), (0, 80), (0, 81), (0, 82), (0, 83), (3, 0), (1, 0), (1, 0), (3, 0), (3, 0), (3, 0)] : List (Nat × Nat)).set 14 (0, 84)))
theorem kl_KX167_70 : KX167[70]? = some (.inl (3, [(0, 71), (1, 0), (0, 75), (0, 76), (1, 0), (1, 0), (0, 77), (0, 78), (0, 79), (1, 0), (0, 80), (0, 81), (0, 82), (0, 83), (0, 84), (1, 0), (1, 0), (3, 0), (3, 0), (3, 0)])) := by decide +kernel
def KXz24 : Me := u2 KXz23 4495 0 (-1)
def KX168 : List CD := KX167 ++ [.inr (0, 12)]
theorem kl_KX168_70 : KX168[70]? = some (.inl (3, [(0, 71), (1, 0), (0, 75), (0, 76), (1, 0), (1, 0), (0, 77), (0, 78), (0, 79), (1, 0), (0, 80), (0, 81), (0, 82), (0, 83), (0, 84), (1, 0), (1, 0), (3, 0), (3, 0), (3, 0)])) := by decide +kernel
def KX169 : List CD := KX168.set 70 (.inl (3, ([(0, 71), (1, 0), (0, 75), (0, 76), (1, 0), (1, 0), (0, 77), (0, 78), (0, 79), (1, 0), (0, 80), (0, 81), (0, 82), (0, 83), (0, 84), (1, 0), (1, 0), (3, 0), (3, 0), (3, 0)] : List (Nat × Nat)).set 17 (0, 85)))
def KX170 : List CD := KX169 ++ [.inr (0, 12)]
theorem kl_KX170_70 : KX170[70]? = some (.inl (3, [(0, 71), (1, 0), (0, 75), (0, 76), (1, 0), (1, 0), (0, 77), (0, 78), (0, 79), (1, 0), (0, 80), (0, 81), (0, 82), (0, 83), (0, 84), (1, 0), (1, 0), (0, 85), (3, 0), (3, 0)])) := by decide +kernel
def KX171 : List CD := KX170.set 70 (.inl (3, ([(0, 71), (1, 0), (0, 75), (0, 76), (1, 0), (1, 0), (0, 77), (0, 78), (0, 79), (1, 0), (0, 80), (0, 81), (0, 82), (0, 83), (0, 84), (1, 0), (1, 0), (0, 85), (3, 0), (3, 0)] : List (Nat × Nat)).set 18 (0, 86)))
def KX172 : List CD := KX171 ++ [.inr (0, 12)]
theorem kl_KX172_70 : KX172[70]? = some (.inl (3, [(0, 71), (1, 0), (0, 75), (0, 76), (1, 0), (1, 0), (0, 77), (0, 78), (0, 79), (1, 0), (0, 80), (0, 81), (0, 82), (0, 83), (0, 84), (1, 0), (1, 0), (0, 85), (0, 86), (3, 0)])) := by decide +kernel
def KX173 : List CD := KX172.set 70 (.inl (3, ([(0, 71), (1, 0), (0, 75), (0, 76), (1, 0), (1, 0), (0, 77), (0, 78), (0, 79), (1, 0), (0, 80), (0, 81), (0, 82), (0, 83), (0, 84), (1, 0), (1, 0), (0, 85), (0, 86), (3, 0)] : List (Nat × Nat)).set 19 (0, 87)))
set_option maxRecDepth 20000 in
theorem KX_c15_River_150 : fk_B RX3 cX3_init 1 2 [(0, 72)] KX172 KXz24 [(89, 0), (72, 0)] 150 KX173 KXz24 [] 153 0 0 := fk_seq (nc := 0) (ns := 0) (nc1 := 0) (ns1 := 0) (kb_putR kp_RX3_59 kl_KX172_70 rfl dX3_init_150) kb_nil
set_option maxRecDepth 20000 in
theorem KX_c15_River_148 : fk_B RX3 cX3_init 1 2 [(0, 72)] KX171 KXz24 [(0, 12), (72, 0)] 148 KX173 KXz24 [] 153 1 12 := fk_seq (nc := 1) (ns := 12) (nc1 := 0) (ns1 := 0) (kb_arr (by decide +kernel) (by decide) rfl wk_ar_int (by decide +kernel) (by decide +kernel) (by decide) dX3_init_148) KX_c15_River_150
set_option maxRecDepth 20000 in
theorem KX_c15_River_146 : fk_B RX3 cX3_init 1 2 [(0, 72)] KX171 KXz24 [(72, 0)] 146 KX173 KXz24 [] 153 1 12 := fk_seq (nc := 0) (ns := 0) (nc1 := 1) (ns1 := 12) (kb_bipush dX3_init_146) KX_c15_River_148
set_option maxRecDepth 20000 in
theorem KX_c15_River_145 : fk_B RX3 cX3_init 1 2 [(0, 72)] KX171 KXz24 [] 145 KX173 KXz24 [] 153 1 12 := fk_seq (nc := 0) (ns := 0) (nc1 := 1) (ns1 := 12) (kb_aload (j := 0) rfl dX3_init_145) KX_c15_River_146
set_option maxRecDepth 20000 in
theorem KX_c15_River_142 : fk_B RX3 cX3_init 1 2 [(0, 72)] KX170 KXz24 [(88, 0), (72, 0)] 142 KX173 KXz24 [] 153 1 12 := fk_seq (nc := 0) (ns := 0) (nc1 := 1) (ns1 := 12) (kb_putR kp_RX3_56 kl_KX170_70 rfl dX3_init_142) KX_c15_River_145
set_option maxRecDepth 20000 in
theorem KX_c15_River_140 : fk_B RX3 cX3_init 1 2 [(0, 72)] KX169 KXz24 [(0, 12), (72, 0)] 140 KX173 KXz24 [] 153 2 24 := fk_seq (nc := 1) (ns := 12) (nc1 := 1) (ns1 := 12) (kb_arr (by decide +kernel) (by decide) rfl wk_ar_int (by decide +kernel) (by decide +kernel) (by decide) dX3_init_140) KX_c15_River_142
set_option maxRecDepth 20000 in
theorem KX_c15_River_138 : fk_B RX3 cX3_init 1 2 [(0, 72)] KX169 KXz24 [(72, 0)] 138 KX173 KXz24 [] 153 2 24 := fk_seq (nc := 0) (ns := 0) (nc1 := 2) (ns1 := 24) (kb_bipush dX3_init_138) KX_c15_River_140
set_option maxRecDepth 20000 in
theorem KX_c15_River_137 : fk_B RX3 cX3_init 1 2 [(0, 72)] KX169 KXz24 [] 137 KX173 KXz24 [] 153 2 24 := fk_seq (nc := 0) (ns := 0) (nc1 := 2) (ns1 := 24) (kb_aload (j := 0) rfl dX3_init_137) KX_c15_River_138
set_option maxRecDepth 20000 in
theorem KX_c15_River_134 : fk_B RX3 cX3_init 1 2 [(0, 72)] KX168 KXz24 [(87, 0), (72, 0)] 134 KX173 KXz24 [] 153 2 24 := fk_seq (nc := 0) (ns := 0) (nc1 := 2) (ns1 := 24) (kb_putR kp_RX3_53 kl_KX168_70 rfl dX3_init_134) KX_c15_River_137
set_option maxRecDepth 20000 in
theorem KX_c15_River_132 : fk_B RX3 cX3_init 1 2 [(0, 72)] KX167 KXz24 [(0, 12), (72, 0)] 132 KX173 KXz24 [] 153 3 36 := fk_seq (nc := 1) (ns := 12) (nc1 := 2) (ns1 := 24) (kb_arr (by decide +kernel) (by decide) rfl wk_ar_int (by decide +kernel) (by decide +kernel) (by decide) dX3_init_132) KX_c15_River_134
set_option maxRecDepth 20000 in
theorem KX_c15_River_130 : fk_B RX3 cX3_init 1 2 [(0, 72)] KX167 KXz24 [(72, 0)] 130 KX173 KXz24 [] 153 3 36 := fk_seq (nc := 0) (ns := 0) (nc1 := 3) (ns1 := 36) (kb_bipush dX3_init_130) KX_c15_River_132
set_option maxRecDepth 20000 in
theorem KX_c15_River_129 : fk_B RX3 cX3_init 1 2 [(0, 72)] KX167 KXz24 [] 129 KX173 KXz24 [] 153 3 36 := fk_seq (nc := 0) (ns := 0) (nc1 := 3) (ns1 := 36) (kb_aload (j := 0) rfl dX3_init_129) KX_c15_River_130
set_option maxRecDepth 20000 in
theorem KX_c15_River_126 : fk_B RX3 cX3_init 1 2 [(0, 72)] KX167 KXz23 [(0, (-1)), (72, 0)] 126 KX173 KXz24 [] 153 3 36 := fk_seq (nc := 0) (ns := 0) (nc1 := 3) (ns1 := 36) (kb_putI fp_RX3_49 kl_KX167_70 rfl dX3_init_126) KX_c15_River_129
set_option maxRecDepth 20000 in
theorem KX_c15_River_125 : fk_B RX3 cX3_init 1 2 [(0, 72)] KX167 KXz23 [(72, 0)] 125 KX173 KXz24 [] 153 3 36 := fk_seq (nc := 0) (ns := 0) (nc1 := 3) (ns1 := 36) (kb_iconst dX3_init_125) KX_c15_River_126
set_option maxRecDepth 20000 in
theorem KX_c15_River_124 : fk_B RX3 cX3_init 1 2 [(0, 72)] KX167 KXz23 [] 124 KX173 KXz24 [] 153 3 36 := fk_seq (nc := 0) (ns := 0) (nc1 := 3) (ns1 := 36) (kb_aload (j := 0) rfl dX3_init_124) KX_c15_River_125
set_option maxRecDepth 20000 in
theorem KX_c15_River_121 : fk_B RX3 cX3_init 1 2 [(0, 72)] KX166 KXz23 [(86, 0), (72, 0)] 121 KX173 KXz24 [] 153 3 36 := fk_seq (nc := 0) (ns := 0) (nc1 := 3) (ns1 := 36) (kb_putR kp_RX3_46 kl_KX166_70 rfl dX3_init_121) KX_c15_River_124
set_option maxRecDepth 20000 in
theorem KX_c15_River_120 : fk_B RX3 cX3_init 1 2 [(0, 72)] KX166 KXz22 [(0, (-1)), (0, 6), (86, 0), (86, 0), (72, 0)] 120 KX173 KXz24 [] 153 3 36 := fk_seq (nc := 0) (ns := 0) (nc1 := 3) (ns1 := 36) (kb_iast kl_KX166_84 (by decide +kernel) dX3_init_120) KX_c15_River_121
set_option maxRecDepth 20000 in
theorem KX_c15_River_119 : fk_B RX3 cX3_init 1 2 [(0, 72)] KX166 KXz22 [(0, 6), (86, 0), (86, 0), (72, 0)] 119 KX173 KXz24 [] 153 3 36 := fk_seq (nc := 0) (ns := 0) (nc1 := 3) (ns1 := 36) (kb_iconst dX3_init_119) KX_c15_River_120
set_option maxRecDepth 20000 in
theorem KX_c15_River_117 : fk_B RX3 cX3_init 1 2 [(0, 72)] KX166 KXz22 [(86, 0), (86, 0), (72, 0)] 117 KX173 KXz24 [] 153 3 36 := fk_seq (nc := 0) (ns := 0) (nc1 := 3) (ns1 := 36) (kb_bipush dX3_init_117) KX_c15_River_119
set_option maxRecDepth 20000 in
theorem KX_c15_River_116 : fk_B RX3 cX3_init 1 2 [(0, 72)] KX166 KXz22 [(86, 0), (72, 0)] 116 KX173 KXz24 [] 153 3 36 := fk_seq (nc := 0) (ns := 0) (nc1 := 3) (ns1 := 36) (kb_dup rfl dX3_init_116) KX_c15_River_117
set_option maxRecDepth 20000 in
theorem KX_c15_River_115 : fk_B RX3 cX3_init 1 2 [(0, 72)] KX166 KXz21 [(0, (-1)), (0, 5), (86, 0), (86, 0), (72, 0)] 115 KX173 KXz24 [] 153 3 36 := fk_seq (nc := 0) (ns := 0) (nc1 := 3) (ns1 := 36) (kb_iast kl_KX166_84 (by decide +kernel) dX3_init_115) KX_c15_River_116
set_option maxRecDepth 20000 in
theorem KX_c15_River_114 : fk_B RX3 cX3_init 1 2 [(0, 72)] KX166 KXz21 [(0, 5), (86, 0), (86, 0), (72, 0)] 114 KX173 KXz24 [] 153 3 36 := fk_seq (nc := 0) (ns := 0) (nc1 := 3) (ns1 := 36) (kb_iconst dX3_init_114) KX_c15_River_115
set_option maxRecDepth 20000 in
theorem KX_c15_River_113 : fk_B RX3 cX3_init 1 2 [(0, 72)] KX166 KXz21 [(86, 0), (86, 0), (72, 0)] 113 KX173 KXz24 [] 153 3 36 := fk_seq (nc := 0) (ns := 0) (nc1 := 3) (ns1 := 36) (kb_iconst dX3_init_113) KX_c15_River_114
set_option maxRecDepth 20000 in
theorem KX_c15_River_112 : fk_B RX3 cX3_init 1 2 [(0, 72)] KX166 KXz21 [(86, 0), (72, 0)] 112 KX173 KXz24 [] 153 3 36 := fk_seq (nc := 0) (ns := 0) (nc1 := 3) (ns1 := 36) (kb_dup rfl dX3_init_112) KX_c15_River_113
set_option maxRecDepth 20000 in
theorem KX_c15_River_111 : fk_B RX3 cX3_init 1 2 [(0, 72)] KX166 KXz20 [(0, (-1)), (0, 4), (86, 0), (86, 0), (72, 0)] 111 KX173 KXz24 [] 153 3 36 := fk_seq (nc := 0) (ns := 0) (nc1 := 3) (ns1 := 36) (kb_iast kl_KX166_84 (by decide +kernel) dX3_init_111) KX_c15_River_112
set_option maxRecDepth 20000 in
theorem KX_c15_River_110 : fk_B RX3 cX3_init 1 2 [(0, 72)] KX166 KXz20 [(0, 4), (86, 0), (86, 0), (72, 0)] 110 KX173 KXz24 [] 153 3 36 := fk_seq (nc := 0) (ns := 0) (nc1 := 3) (ns1 := 36) (kb_iconst dX3_init_110) KX_c15_River_111
set_option maxRecDepth 20000 in
theorem KX_c15_River_109 : fk_B RX3 cX3_init 1 2 [(0, 72)] KX166 KXz20 [(86, 0), (86, 0), (72, 0)] 109 KX173 KXz24 [] 153 3 36 := fk_seq (nc := 0) (ns := 0) (nc1 := 3) (ns1 := 36) (kb_iconst dX3_init_109) KX_c15_River_110
set_option maxRecDepth 20000 in
theorem KX_c15_River_108 : fk_B RX3 cX3_init 1 2 [(0, 72)] KX166 KXz20 [(86, 0), (72, 0)] 108 KX173 KXz24 [] 153 3 36 := fk_seq (nc := 0) (ns := 0) (nc1 := 3) (ns1 := 36) (kb_dup rfl dX3_init_108) KX_c15_River_109
set_option maxRecDepth 20000 in
theorem KX_c15_River_107 : fk_B RX3 cX3_init 1 2 [(0, 72)] KX166 KXz19 [(0, (-1)), (0, 3), (86, 0), (86, 0), (72, 0)] 107 KX173 KXz24 [] 153 3 36 := fk_seq (nc := 0) (ns := 0) (nc1 := 3) (ns1 := 36) (kb_iast kl_KX166_84 (by decide +kernel) dX3_init_107) KX_c15_River_108
set_option maxRecDepth 20000 in
theorem KX_c15_River_106 : fk_B RX3 cX3_init 1 2 [(0, 72)] KX166 KXz19 [(0, 3), (86, 0), (86, 0), (72, 0)] 106 KX173 KXz24 [] 153 3 36 := fk_seq (nc := 0) (ns := 0) (nc1 := 3) (ns1 := 36) (kb_iconst dX3_init_106) KX_c15_River_107
set_option maxRecDepth 20000 in
theorem KX_c15_River_105 : fk_B RX3 cX3_init 1 2 [(0, 72)] KX166 KXz19 [(86, 0), (86, 0), (72, 0)] 105 KX173 KXz24 [] 153 3 36 := fk_seq (nc := 0) (ns := 0) (nc1 := 3) (ns1 := 36) (kb_iconst dX3_init_105) KX_c15_River_106
set_option maxRecDepth 20000 in
theorem KX_c15_River_104 : fk_B RX3 cX3_init 1 2 [(0, 72)] KX166 KXz19 [(86, 0), (72, 0)] 104 KX173 KXz24 [] 153 3 36 := fk_seq (nc := 0) (ns := 0) (nc1 := 3) (ns1 := 36) (kb_dup rfl dX3_init_104) KX_c15_River_105
set_option maxRecDepth 20000 in
theorem KX_c15_River_103 : fk_B RX3 cX3_init 1 2 [(0, 72)] KX166 KXz18 [(0, (-1)), (0, 2), (86, 0), (86, 0), (72, 0)] 103 KX173 KXz24 [] 153 3 36 := fk_seq (nc := 0) (ns := 0) (nc1 := 3) (ns1 := 36) (kb_iast kl_KX166_84 (by decide +kernel) dX3_init_103) KX_c15_River_104
set_option maxRecDepth 20000 in
theorem KX_c15_River_102 : fk_B RX3 cX3_init 1 2 [(0, 72)] KX166 KXz18 [(0, 2), (86, 0), (86, 0), (72, 0)] 102 KX173 KXz24 [] 153 3 36 := fk_seq (nc := 0) (ns := 0) (nc1 := 3) (ns1 := 36) (kb_iconst dX3_init_102) KX_c15_River_103
set_option maxRecDepth 20000 in
theorem KX_c15_River_101 : fk_B RX3 cX3_init 1 2 [(0, 72)] KX166 KXz18 [(86, 0), (86, 0), (72, 0)] 101 KX173 KXz24 [] 153 3 36 := fk_seq (nc := 0) (ns := 0) (nc1 := 3) (ns1 := 36) (kb_iconst dX3_init_101) KX_c15_River_102
set_option maxRecDepth 20000 in
theorem KX_c15_River_100 : fk_B RX3 cX3_init 1 2 [(0, 72)] KX166 KXz18 [(86, 0), (72, 0)] 100 KX173 KXz24 [] 153 3 36 := fk_seq (nc := 0) (ns := 0) (nc1 := 3) (ns1 := 36) (kb_dup rfl dX3_init_100) KX_c15_River_101
set_option maxRecDepth 20000 in
theorem KX_c15_River_99 : fk_B RX3 cX3_init 1 2 [(0, 72)] KX166 KXz17 [(0, (-1)), (0, 1), (86, 0), (86, 0), (72, 0)] 99 KX173 KXz24 [] 153 3 36 := fk_seq (nc := 0) (ns := 0) (nc1 := 3) (ns1 := 36) (kb_iast kl_KX166_84 (by decide +kernel) dX3_init_99) KX_c15_River_100
set_option maxRecDepth 20000 in
theorem KX_c15_River_98 : fk_B RX3 cX3_init 1 2 [(0, 72)] KX166 KXz17 [(0, 1), (86, 0), (86, 0), (72, 0)] 98 KX173 KXz24 [] 153 3 36 := fk_seq (nc := 0) (ns := 0) (nc1 := 3) (ns1 := 36) (kb_iconst dX3_init_98) KX_c15_River_99
set_option maxRecDepth 20000 in
theorem KX_c15_River_97 : fk_B RX3 cX3_init 1 2 [(0, 72)] KX166 KXz17 [(86, 0), (86, 0), (72, 0)] 97 KX173 KXz24 [] 153 3 36 := fk_seq (nc := 0) (ns := 0) (nc1 := 3) (ns1 := 36) (kb_iconst dX3_init_97) KX_c15_River_98
set_option maxRecDepth 20000 in
theorem KX_c15_River_96 : fk_B RX3 cX3_init 1 2 [(0, 72)] KX166 KXz17 [(86, 0), (72, 0)] 96 KX173 KXz24 [] 153 3 36 := fk_seq (nc := 0) (ns := 0) (nc1 := 3) (ns1 := 36) (kb_dup rfl dX3_init_96) KX_c15_River_97
set_option maxRecDepth 20000 in
theorem KX_c15_River_95 : fk_B RX3 cX3_init 1 2 [(0, 72)] KX166 KXz16 [(0, (-1)), (0, 0), (86, 0), (86, 0), (72, 0)] 95 KX173 KXz24 [] 153 3 36 := fk_seq (nc := 0) (ns := 0) (nc1 := 3) (ns1 := 36) (kb_iast kl_KX166_84 (by decide +kernel) dX3_init_95) KX_c15_River_96
set_option maxRecDepth 20000 in
theorem KX_c15_River_94 : fk_B RX3 cX3_init 1 2 [(0, 72)] KX166 KXz16 [(0, 0), (86, 0), (86, 0), (72, 0)] 94 KX173 KXz24 [] 153 3 36 := fk_seq (nc := 0) (ns := 0) (nc1 := 3) (ns1 := 36) (kb_iconst dX3_init_94) KX_c15_River_95
set_option maxRecDepth 20000 in
theorem KX_c15_River_93 : fk_B RX3 cX3_init 1 2 [(0, 72)] KX166 KXz16 [(86, 0), (86, 0), (72, 0)] 93 KX173 KXz24 [] 153 3 36 := fk_seq (nc := 0) (ns := 0) (nc1 := 3) (ns1 := 36) (kb_iconst dX3_init_93) KX_c15_River_94
set_option maxRecDepth 20000 in
theorem KX_c15_River_92 : fk_B RX3 cX3_init 1 2 [(0, 72)] KX166 KXz16 [(86, 0), (72, 0)] 92 KX173 KXz24 [] 153 3 36 := fk_seq (nc := 0) (ns := 0) (nc1 := 3) (ns1 := 36) (kb_dup rfl dX3_init_92) KX_c15_River_93
set_option maxRecDepth 20000 in
theorem KX_c15_River_90 : fk_B RX3 cX3_init 1 2 [(0, 72)] KX165 KXz16 [(0, 7), (72, 0)] 90 KX173 KXz24 [] 153 4 43 := fk_seq (nc := 1) (ns := 7) (nc1 := 3) (ns1 := 36) (kb_arr (by decide +kernel) (by decide) rfl wk_ar_int (by decide +kernel) (by decide +kernel) (by decide) dX3_init_90) KX_c15_River_92
set_option maxRecDepth 20000 in
theorem KX_c15_River_88 : fk_B RX3 cX3_init 1 2 [(0, 72)] KX165 KXz16 [(72, 0)] 88 KX173 KXz24 [] 153 4 43 := fk_seq (nc := 0) (ns := 0) (nc1 := 4) (ns1 := 43) (kb_bipush dX3_init_88) KX_c15_River_90
set_option maxRecDepth 20000 in
theorem KX_c15_River_87 : fk_B RX3 cX3_init 1 2 [(0, 72)] KX165 KXz16 [] 87 KX173 KXz24 [] 153 4 43 := fk_seq (nc := 0) (ns := 0) (nc1 := 4) (ns1 := 43) (kb_aload (j := 0) rfl dX3_init_87) KX_c15_River_88
set_option maxRecDepth 20000 in
theorem KX_c15_River_84 : fk_B RX3 cX3_init 1 2 [(0, 72)] KX164 KXz16 [(85, 0), (72, 0)] 84 KX173 KXz24 [] 153 4 43 := fk_seq (nc := 0) (ns := 0) (nc1 := 4) (ns1 := 43) (kb_putR kp_RX3_43 kl_KX164_70 rfl dX3_init_84) KX_c15_River_87
set_option maxRecDepth 20000 in
theorem KX_c15_River_82 : fk_B RX3 cX3_init 1 2 [(0, 72)] KX163 KXz16 [(0, 24), (72, 0)] 82 KX173 KXz24 [] 153 5 67 := fk_seq (nc := 1) (ns := 24) (nc1 := 4) (ns1 := 43) (kb_arr (by decide +kernel) (by decide) rfl wk_ar_int (by decide +kernel) (by decide +kernel) (by decide) dX3_init_82) KX_c15_River_84
set_option maxRecDepth 20000 in
theorem KX_c15_River_80 : fk_B RX3 cX3_init 1 2 [(0, 72)] KX163 KXz16 [(72, 0)] 80 KX173 KXz24 [] 153 5 67 := fk_seq (nc := 0) (ns := 0) (nc1 := 5) (ns1 := 67) (kb_bipush dX3_init_80) KX_c15_River_82
set_option maxRecDepth 20000 in
theorem KX_c15_River_79 : fk_B RX3 cX3_init 1 2 [(0, 72)] KX163 KXz16 [] 79 KX173 KXz24 [] 153 5 67 := fk_seq (nc := 0) (ns := 0) (nc1 := 5) (ns1 := 67) (kb_aload (j := 0) rfl dX3_init_79) KX_c15_River_80
set_option maxRecDepth 20000 in
theorem KX_c15_River_76 : fk_B RX3 cX3_init 1 2 [(0, 72)] KX162 KXz16 [(84, 0), (72, 0)] 76 KX173 KXz24 [] 153 5 67 := fk_seq (nc := 0) (ns := 0) (nc1 := 5) (ns1 := 67) (kb_putR kp_RX3_40 kl_KX162_70 rfl dX3_init_76) KX_c15_River_79
set_option maxRecDepth 20000 in
theorem KX_c15_River_74 : fk_B RX3 cX3_init 1 2 [(0, 72)] KX161 KXz16 [(0, 6), (72, 0)] 74 KX173 KXz24 [] 153 6 73 := fk_seq (nc := 1) (ns := 6) (nc1 := 5) (ns1 := 67) (kb_arr (by decide +kernel) (by decide) rfl wk_ar_int (by decide +kernel) (by decide +kernel) (by decide) dX3_init_74) KX_c15_River_76
set_option maxRecDepth 20000 in
theorem KX_c15_River_72 : fk_B RX3 cX3_init 1 2 [(0, 72)] KX161 KXz16 [(72, 0)] 72 KX173 KXz24 [] 153 6 73 := fk_seq (nc := 0) (ns := 0) (nc1 := 6) (ns1 := 73) (kb_bipush dX3_init_72) KX_c15_River_74
set_option maxRecDepth 20000 in
theorem KX_c15_River_71 : fk_B RX3 cX3_init 1 2 [(0, 72)] KX161 KXz16 [] 71 KX173 KXz24 [] 153 6 73 := fk_seq (nc := 0) (ns := 0) (nc1 := 6) (ns1 := 73) (kb_aload (j := 0) rfl dX3_init_71) KX_c15_River_72
set_option maxRecDepth 20000 in
theorem KX_c15_River_68 : fk_B RX3 cX3_init 1 2 [(0, 72)] KX160 KXz16 [(83, 0), (72, 0)] 68 KX173 KXz24 [] 153 6 73 := fk_seq (nc := 0) (ns := 0) (nc1 := 6) (ns1 := 73) (kb_putR kp_RX3_37 kl_KX160_70 rfl dX3_init_68) KX_c15_River_71
set_option maxRecDepth 20000 in
theorem KX_c15_River_66 : fk_B RX3 cX3_init 1 2 [(0, 72)] KX159 KXz16 [(0, 6), (72, 0)] 66 KX173 KXz24 [] 153 7 79 := fk_seq (nc := 1) (ns := 6) (nc1 := 6) (ns1 := 73) (kb_arr (by decide +kernel) (by decide) rfl wk_ar_int (by decide +kernel) (by decide +kernel) (by decide) dX3_init_66) KX_c15_River_68
set_option maxRecDepth 20000 in
theorem KX_c15_River_64 : fk_B RX3 cX3_init 1 2 [(0, 72)] KX159 KXz16 [(72, 0)] 64 KX173 KXz24 [] 153 7 79 := fk_seq (nc := 0) (ns := 0) (nc1 := 7) (ns1 := 79) (kb_bipush dX3_init_64) KX_c15_River_66
set_option maxRecDepth 20000 in
theorem KX_c15_River_63 : fk_B RX3 cX3_init 1 2 [(0, 72)] KX159 KXz16 [] 63 KX173 KXz24 [] 153 7 79 := fk_seq (nc := 0) (ns := 0) (nc1 := 7) (ns1 := 79) (kb_aload (j := 0) rfl dX3_init_63) KX_c15_River_64
set_option maxRecDepth 20000 in
theorem KX_c15_River_60 : fk_B RX3 cX3_init 1 2 [(0, 72)] KX158 KXz16 [(82, 0), (72, 0)] 60 KX173 KXz24 [] 153 7 79 := fk_seq (nc := 0) (ns := 0) (nc1 := 7) (ns1 := 79) (kb_putR kp_RX3_34 kl_KX158_70 rfl dX3_init_60) KX_c15_River_63
set_option maxRecDepth 20000 in
theorem KX_c15_River_58 : fk_B RX3 cX3_init 1 2 [(0, 72)] KX157 KXz16 [(0, 6), (72, 0)] 58 KX173 KXz24 [] 153 8 85 := fk_seq (nc := 1) (ns := 6) (nc1 := 7) (ns1 := 79) (kb_arr (by decide +kernel) (by decide) rfl wk_ar_int (by decide +kernel) (by decide +kernel) (by decide) dX3_init_58) KX_c15_River_60
set_option maxRecDepth 20000 in
theorem KX_c15_River_56 : fk_B RX3 cX3_init 1 2 [(0, 72)] KX157 KXz16 [(72, 0)] 56 KX173 KXz24 [] 153 8 85 := fk_seq (nc := 0) (ns := 0) (nc1 := 8) (ns1 := 85) (kb_bipush dX3_init_56) KX_c15_River_58
set_option maxRecDepth 20000 in
theorem KX_c15_River_55 : fk_B RX3 cX3_init 1 2 [(0, 72)] KX157 KXz16 [] 55 KX173 KXz24 [] 153 8 85 := fk_seq (nc := 0) (ns := 0) (nc1 := 8) (ns1 := 85) (kb_aload (j := 0) rfl dX3_init_55) KX_c15_River_56
set_option maxRecDepth 20000 in
theorem KX_c15_River_52 : fk_B RX3 cX3_init 1 2 [(0, 72)] KX156 KXz16 [(81, 0), (72, 0)] 52 KX173 KXz24 [] 153 8 85 := fk_seq (nc := 0) (ns := 0) (nc1 := 8) (ns1 := 85) (kb_putR kp_RX3_31 kl_KX156_70 rfl dX3_init_52) KX_c15_River_55
set_option maxRecDepth 20000 in
theorem KX_c15_River_50 : fk_B RX3 cX3_init 1 2 [(0, 72)] KX155 KXz16 [(0, 24), (72, 0)] 50 KX173 KXz24 [] 153 9 109 := fk_seq (nc := 1) (ns := 24) (nc1 := 8) (ns1 := 85) (kb_arr (by decide +kernel) (by decide) rfl wk_ar_int (by decide +kernel) (by decide +kernel) (by decide) dX3_init_50) KX_c15_River_52
set_option maxRecDepth 20000 in
theorem KX_c15_River_48 : fk_B RX3 cX3_init 1 2 [(0, 72)] KX155 KXz16 [(72, 0)] 48 KX173 KXz24 [] 153 9 109 := fk_seq (nc := 0) (ns := 0) (nc1 := 9) (ns1 := 109) (kb_bipush dX3_init_48) KX_c15_River_50
set_option maxRecDepth 20000 in
theorem KX_c15_River_47 : fk_B RX3 cX3_init 1 2 [(0, 72)] KX155 KXz16 [] 47 KX173 KXz24 [] 153 9 109 := fk_seq (nc := 0) (ns := 0) (nc1 := 9) (ns1 := 109) (kb_aload (j := 0) rfl dX3_init_47) KX_c15_River_48
set_option maxRecDepth 20000 in
theorem KX_c15_River_44 : fk_B RX3 cX3_init 1 2 [(0, 72)] KX154 KXz16 [(80, 0), (72, 0)] 44 KX173 KXz24 [] 153 9 109 := fk_seq (nc := 0) (ns := 0) (nc1 := 9) (ns1 := 109) (kb_putR kp_RX3_28 kl_KX154_70 rfl dX3_init_44) KX_c15_River_47
set_option maxRecDepth 20000 in
theorem KX_c15_River_42 : fk_B RX3 cX3_init 1 2 [(0, 72)] KX153 KXz16 [(0, 6), (72, 0)] 42 KX173 KXz24 [] 153 10 115 := fk_seq (nc := 1) (ns := 6) (nc1 := 9) (ns1 := 109) (kb_arr (by decide +kernel) (by decide) rfl wk_ar_int (by decide +kernel) (by decide +kernel) (by decide) dX3_init_42) KX_c15_River_44
set_option maxRecDepth 20000 in
theorem KX_c15_River_40 : fk_B RX3 cX3_init 1 2 [(0, 72)] KX153 KXz16 [(72, 0)] 40 KX173 KXz24 [] 153 10 115 := fk_seq (nc := 0) (ns := 0) (nc1 := 10) (ns1 := 115) (kb_bipush dX3_init_40) KX_c15_River_42
set_option maxRecDepth 20000 in
theorem KX_c15_River_39 : fk_B RX3 cX3_init 1 2 [(0, 72)] KX153 KXz16 [] 39 KX173 KXz24 [] 153 10 115 := fk_seq (nc := 0) (ns := 0) (nc1 := 10) (ns1 := 115) (kb_aload (j := 0) rfl dX3_init_39) KX_c15_River_40
set_option maxRecDepth 20000 in
theorem KX_c15_River_36 : fk_B RX3 cX3_init 1 2 [(0, 72)] KX152 KXz16 [(79, 0), (72, 0)] 36 KX173 KXz24 [] 153 10 115 := fk_seq (nc := 0) (ns := 0) (nc1 := 10) (ns1 := 115) (kb_putR kp_RX3_25 kl_KX152_70 rfl dX3_init_36) KX_c15_River_39
set_option maxRecDepth 20000 in
theorem KX_c15_River_34 : fk_B RX3 cX3_init 1 2 [(0, 72)] KX151 KXz16 [(0, 6), (72, 0)] 34 KX173 KXz24 [] 153 11 121 := fk_seq (nc := 1) (ns := 6) (nc1 := 10) (ns1 := 115) (kb_arr (by decide +kernel) (by decide) rfl wk_ar_int (by decide +kernel) (by decide +kernel) (by decide) dX3_init_34) KX_c15_River_36
set_option maxRecDepth 20000 in
theorem KX_c15_River_32 : fk_B RX3 cX3_init 1 2 [(0, 72)] KX151 KXz16 [(72, 0)] 32 KX173 KXz24 [] 153 11 121 := fk_seq (nc := 0) (ns := 0) (nc1 := 11) (ns1 := 121) (kb_bipush dX3_init_32) KX_c15_River_34
set_option maxRecDepth 20000 in
theorem KX_c15_River_31 : fk_B RX3 cX3_init 1 2 [(0, 72)] KX151 KXz16 [] 31 KX173 KXz24 [] 153 11 121 := fk_seq (nc := 0) (ns := 0) (nc1 := 11) (ns1 := 121) (kb_aload (j := 0) rfl dX3_init_31) KX_c15_River_32
set_option maxRecDepth 20000 in
theorem KX_c15_River_28 : fk_B RX3 cX3_init 1 2 [(0, 72)] KX150 KXz16 [(78, 0), (72, 0)] 28 KX173 KXz24 [] 153 11 121 := fk_seq (nc := 0) (ns := 0) (nc1 := 11) (ns1 := 121) (kb_putR kp_RX3_22 kl_KX150_70 rfl dX3_init_28) KX_c15_River_31
set_option maxRecDepth 20000 in
theorem KX_c15_River_26 : fk_B RX3 cX3_init 1 2 [(0, 72)] KX149 KXz16 [(0, 10), (72, 0)] 26 KX173 KXz24 [] 153 12 131 := fk_seq (nc := 1) (ns := 10) (nc1 := 11) (ns1 := 121) (kb_arr (by decide +kernel) (by decide) rfl wk_ar_int (by decide +kernel) (by decide +kernel) (by decide) dX3_init_26) KX_c15_River_28
set_option maxRecDepth 20000 in
theorem KX_c15_River_24 : fk_B RX3 cX3_init 1 2 [(0, 72)] KX149 KXz16 [(72, 0)] 24 KX173 KXz24 [] 153 12 131 := fk_seq (nc := 0) (ns := 0) (nc1 := 12) (ns1 := 131) (kb_bipush dX3_init_24) KX_c15_River_26
set_option maxRecDepth 20000 in
theorem KX_c15_River_23 : fk_B RX3 cX3_init 1 2 [(0, 72)] KX149 KXz16 [] 23 KX173 KXz24 [] 153 12 131 := fk_seq (nc := 0) (ns := 0) (nc1 := 12) (ns1 := 131) (kb_aload (j := 0) rfl dX3_init_23) KX_c15_River_24
set_option maxRecDepth 20000 in
theorem KX_c15_River_20 : fk_B RX3 cX3_init 1 2 [(0, 72)] KX148 KXz16 [(77, 0), (72, 0)] 20 KX173 KXz24 [] 153 12 131 := fk_seq (nc := 0) (ns := 0) (nc1 := 12) (ns1 := 131) (kb_putR kp_RX3_18 kl_KX148_70 rfl dX3_init_20) KX_c15_River_23
set_option maxRecDepth 20000 in
theorem KX_c15_River_18 : fk_B RX3 cX3_init 1 2 [(0, 72)] KX147 KXz16 [(0, 10), (72, 0)] 18 KX173 KXz24 [] 153 13 141 := fk_seq (nc := 1) (ns := 10) (nc1 := 12) (ns1 := 131) (kb_arr (by decide +kernel) (by decide) rfl wk_ar_int (by decide +kernel) (by decide +kernel) (by decide) dX3_init_18) KX_c15_River_20
set_option maxRecDepth 20000 in
theorem KX_c15_River_16 : fk_B RX3 cX3_init 1 2 [(0, 72)] KX147 KXz16 [(72, 0)] 16 KX173 KXz24 [] 153 13 141 := fk_seq (nc := 0) (ns := 0) (nc1 := 13) (ns1 := 141) (kb_bipush dX3_init_16) KX_c15_River_18
set_option maxRecDepth 20000 in
theorem KX_c15_River_15 : fk_B RX3 cX3_init 1 2 [(0, 72)] KX147 KXz16 [] 15 KX173 KXz24 [] 153 13 141 := fk_seq (nc := 0) (ns := 0) (nc1 := 13) (ns1 := 141) (kb_aload (j := 0) rfl dX3_init_15) KX_c15_River_16
set_option maxRecDepth 20000 in
theorem KX_c15_River_12 : fk_B RX3 cX3_init 1 2 [(0, 72)] KX146 KXz16 [(73, 0), (72, 0)] 12 KX173 KXz24 [] 153 13 141 := fk_seq (nc := 0) (ns := 0) (nc1 := 13) (ns1 := 141) (kb_putR kp_RX3_12 kl_KX146_70 rfl dX3_init_12) KX_c15_River_15
set_option maxRecDepth 20000 in
theorem KX_c15_River_9 : fk_B RX3 cX3_init 1 2 [(0, 72)] KX140 KXz16 [(73, 0), (73, 0), (72, 0)] 9 KX173 KXz24 [] 153 16 219 := fk_seq (nc := 3) (ns := 78) (nc1 := 13) (ns1 := 141) (kb_ctor KX_c14_Names kn_RX3_11 (by decide) (by decide) (by decide) dX3_init_9) KX_c15_River_12
set_option maxRecDepth 20000 in
theorem KX_c15_River_8 : fk_B RX3 cX3_init 1 2 [(0, 72)] KX140 KXz16 [(73, 0), (72, 0)] 8 KX173 KXz24 [] 153 16 219 := fk_seq (nc := 0) (ns := 0) (nc1 := 16) (ns1 := 219) (kb_dup rfl dX3_init_8) KX_c15_River_9
set_option maxRecDepth 20000 in
theorem KX_c15_River_5 : fk_B RX3 cX3_init 1 2 [(0, 72)] KX139 KXz16 [(72, 0)] 5 KX173 KXz24 [] 153 17 223 := fk_seq (nc := 1) (ns := 4) (nc1 := 16) (ns1 := 219) (kb_new (by decide +kernel) rfl in_X0 tyX0_ok wk_cl_RX3_9 wk_in_X0 wn_RX0 kbl_X0 (by decide) (by decide) dX3_init_5) KX_c15_River_8
set_option maxRecDepth 20000 in
theorem KX_c15_River_4 : fk_B RX3 cX3_init 1 2 [(0, 72)] KX139 KXz16 [] 4 KX173 KXz24 [] 153 17 223 := fk_seq (nc := 0) (ns := 0) (nc1 := 17) (ns1 := 223) (kb_aload (j := 0) rfl dX3_init_4) KX_c15_River_5
set_option maxRecDepth 20000 in
theorem KX_c15_River_1 : fk_B RX3 cX3_init 1 2 [(0, 72)] KX139 KXz16 [(72, 0)] 1 KX173 KXz24 [] 153 17 223 := fk_seq (nc := 0) (ns := 0) (nc1 := 17) (ns1 := 223) (kb_obj ko_RX3_3 (by decide) dX3_init_1) KX_c15_River_4
set_option maxRecDepth 20000 in
theorem KX_c15_River_0 : fk_B RX3 cX3_init 1 2 [(0, 72)] KX139 KXz16 [] 0 KX173 KXz24 [] 153 17 223 := fk_seq (nc := 0) (ns := 0) (nc1 := 17) (ns1 := 223) (kb_aload (j := 0) rfl dX3_init_0) KX_c15_River_1
theorem KX_c15_River : fk_C yX3_init cX3_init 1 2 70 KX139 KXz16 KX173 KXz24 17 223 := fk_close (by decide +kernel) rfl (by decide) (show fk_B yX3_init.cls cX3_init 1 2 [(0, 72)] KX139 KXz16 [] 0 KX173 KXz24 [] 153 17 223 from KX_c15_River_0) dX3_init_153
theorem kl_KX173_69 : KX173[69]? = some (.inl (4, [(3, 0), (3, 0), (3, 0), (3, 0)])) := by decide +kernel
def KX174 : List CD := KX173.set 69 (.inl (4, ([(3, 0), (3, 0), (3, 0), (3, 0)] : List (Nat × Nat)).set 0 (0, 70)))
def KX175 : List CD := KX174 ++ [.inl (1, [(1, 0), (3, 0), (3, 0), (3, 0)])]
def KX176 : List CD := KX175 ++ [.inr (0, 40)]
theorem kl_KX176_88 : KX176[88]? = some (.inl (1, [(1, 0), (3, 0), (3, 0), (3, 0)])) := by decide +kernel
def KX177 : List CD := KX176.set 88 (.inl (1, ([(1, 0), (3, 0), (3, 0), (3, 0)] : List (Nat × Nat)).set 1 (0, 89)))
def KX178 : List CD := KX177 ++ [.inr (0, 40)]
theorem kl_KX178_88 : KX178[88]? = some (.inl (1, [(1, 0), (0, 89), (3, 0), (3, 0)])) := by decide +kernel
def KX179 : List CD := KX178.set 88 (.inl (1, ([(1, 0), (0, 89), (3, 0), (3, 0)] : List (Nat × Nat)).set 2 (0, 90)))
def KX180 : List CD := KX179 ++ [.inr (0, 40)]
theorem kl_KX180_88 : KX180[88]? = some (.inl (1, [(1, 0), (0, 89), (0, 90), (3, 0)])) := by decide +kernel
def KX181 : List CD := KX180.set 88 (.inl (1, ([(1, 0), (0, 89), (0, 90), (3, 0)] : List (Nat × Nat)).set 3 (0, 91)))
set_option maxRecDepth 20000 in
theorem KX_c16_Order_25 : fk_B RX1 cX1_init 1 1 [(0, 90)] KX180 KXz24 [(93, 0), (90, 0)] 25 KX181 KXz24 [] 28 0 0 := fk_seq (nc := 0) (ns := 0) (nc1 := 0) (ns1 := 0) (kb_putR kp_RX1_18 kl_KX180_88 rfl dX1_init_25) kb_nil
set_option maxRecDepth 20000 in
theorem KX_c16_Order_23 : fk_B RX1 cX1_init 1 1 [(0, 90)] KX179 KXz24 [(0, 40), (90, 0)] 23 KX181 KXz24 [] 28 1 40 := fk_seq (nc := 1) (ns := 40) (nc1 := 0) (ns1 := 0) (kb_arr (by decide +kernel) (by decide) rfl wk_ar_int (by decide +kernel) (by decide +kernel) (by decide) dX1_init_23) KX_c16_Order_25
set_option maxRecDepth 20000 in
theorem KX_c16_Order_21 : fk_B RX1 cX1_init 1 1 [(0, 90)] KX179 KXz24 [(90, 0)] 21 KX181 KXz24 [] 28 1 40 := fk_seq (nc := 0) (ns := 0) (nc1 := 1) (ns1 := 40) (kb_bipush dX1_init_21) KX_c16_Order_23
set_option maxRecDepth 20000 in
theorem KX_c16_Order_20 : fk_B RX1 cX1_init 1 1 [(0, 90)] KX179 KXz24 [] 20 KX181 KXz24 [] 28 1 40 := fk_seq (nc := 0) (ns := 0) (nc1 := 1) (ns1 := 40) (kb_aload (j := 0) rfl dX1_init_20) KX_c16_Order_21
set_option maxRecDepth 20000 in
theorem KX_c16_Order_17 : fk_B RX1 cX1_init 1 1 [(0, 90)] KX178 KXz24 [(92, 0), (90, 0)] 17 KX181 KXz24 [] 28 1 40 := fk_seq (nc := 0) (ns := 0) (nc1 := 1) (ns1 := 40) (kb_putR kp_RX1_15 kl_KX178_88 rfl dX1_init_17) KX_c16_Order_20
set_option maxRecDepth 20000 in
theorem KX_c16_Order_15 : fk_B RX1 cX1_init 1 1 [(0, 90)] KX177 KXz24 [(0, 40), (90, 0)] 15 KX181 KXz24 [] 28 2 80 := fk_seq (nc := 1) (ns := 40) (nc1 := 1) (ns1 := 40) (kb_arr (by decide +kernel) (by decide) rfl wk_ar_int (by decide +kernel) (by decide +kernel) (by decide) dX1_init_15) KX_c16_Order_17
set_option maxRecDepth 20000 in
theorem KX_c16_Order_13 : fk_B RX1 cX1_init 1 1 [(0, 90)] KX177 KXz24 [(90, 0)] 13 KX181 KXz24 [] 28 2 80 := fk_seq (nc := 0) (ns := 0) (nc1 := 2) (ns1 := 80) (kb_bipush dX1_init_13) KX_c16_Order_15
set_option maxRecDepth 20000 in
theorem KX_c16_Order_12 : fk_B RX1 cX1_init 1 1 [(0, 90)] KX177 KXz24 [] 12 KX181 KXz24 [] 28 2 80 := fk_seq (nc := 0) (ns := 0) (nc1 := 2) (ns1 := 80) (kb_aload (j := 0) rfl dX1_init_12) KX_c16_Order_13
set_option maxRecDepth 20000 in
theorem KX_c16_Order_9 : fk_B RX1 cX1_init 1 1 [(0, 90)] KX176 KXz24 [(91, 0), (90, 0)] 9 KX181 KXz24 [] 28 2 80 := fk_seq (nc := 0) (ns := 0) (nc1 := 2) (ns1 := 80) (kb_putR kp_RX1_9 kl_KX176_88 rfl dX1_init_9) KX_c16_Order_12
set_option maxRecDepth 20000 in
theorem KX_c16_Order_7 : fk_B RX1 cX1_init 1 1 [(0, 90)] KX175 KXz24 [(0, 40), (90, 0)] 7 KX181 KXz24 [] 28 3 120 := fk_seq (nc := 1) (ns := 40) (nc1 := 2) (ns1 := 80) (kb_arr (by decide +kernel) (by decide) rfl wk_ar_int (by decide +kernel) (by decide +kernel) (by decide) dX1_init_7) KX_c16_Order_9
set_option maxRecDepth 20000 in
theorem KX_c16_Order_5 : fk_B RX1 cX1_init 1 1 [(0, 90)] KX175 KXz24 [(90, 0)] 5 KX181 KXz24 [] 28 3 120 := fk_seq (nc := 0) (ns := 0) (nc1 := 3) (ns1 := 120) (kb_bipush dX1_init_5) KX_c16_Order_7
set_option maxRecDepth 20000 in
theorem KX_c16_Order_4 : fk_B RX1 cX1_init 1 1 [(0, 90)] KX175 KXz24 [] 4 KX181 KXz24 [] 28 3 120 := fk_seq (nc := 0) (ns := 0) (nc1 := 3) (ns1 := 120) (kb_aload (j := 0) rfl dX1_init_4) KX_c16_Order_5
set_option maxRecDepth 20000 in
theorem KX_c16_Order_1 : fk_B RX1 cX1_init 1 1 [(0, 90)] KX175 KXz24 [(90, 0)] 1 KX181 KXz24 [] 28 3 120 := fk_seq (nc := 0) (ns := 0) (nc1 := 3) (ns1 := 120) (kb_obj ko_RX1_3 (by decide) dX1_init_1) KX_c16_Order_4
set_option maxRecDepth 20000 in
theorem KX_c16_Order_0 : fk_B RX1 cX1_init 1 1 [(0, 90)] KX175 KXz24 [] 0 KX181 KXz24 [] 28 3 120 := fk_seq (nc := 0) (ns := 0) (nc1 := 3) (ns1 := 120) (kb_aload (j := 0) rfl dX1_init_0) KX_c16_Order_1
theorem KX_c16_Order : fk_C yX1_init cX1_init 1 1 88 KX175 KXz24 KX181 KXz24 3 120 := fk_close (by decide +kernel) rfl (by decide) (show fk_B yX1_init.cls cX1_init 1 1 [(0, 90)] KX175 KXz24 [] 0 KX181 KXz24 [] 28 3 120 from KX_c16_Order_0) dX1_init_28
theorem kl_KX181_69 : KX181[69]? = some (.inl (4, [(0, 70), (3, 0), (3, 0), (3, 0)])) := by decide +kernel
def KX182 : List CD := KX181.set 69 (.inl (4, ([(0, 70), (3, 0), (3, 0), (3, 0)] : List (Nat × Nat)).set 1 (0, 88)))
def KX183 : List CD := KX182 ++ [.inl (6, [(1, 0), (3, 0), (3, 0), (3, 0)])]
def KX184 : List CD := KX183 ++ [.inr (0, 20)]
theorem kl_KX184_92 : KX184[92]? = some (.inl (6, [(1, 0), (3, 0), (3, 0), (3, 0)])) := by decide +kernel
def KX185 : List CD := KX184.set 92 (.inl (6, ([(1, 0), (3, 0), (3, 0), (3, 0)] : List (Nat × Nat)).set 1 (0, 93)))
def KX186 : List CD := KX185 ++ [.inr (0, 20)]
theorem kl_KX186_92 : KX186[92]? = some (.inl (6, [(1, 0), (0, 93), (3, 0), (3, 0)])) := by decide +kernel
def KX187 : List CD := KX186.set 92 (.inl (6, ([(1, 0), (0, 93), (3, 0), (3, 0)] : List (Nat × Nat)).set 2 (0, 94)))
def KX188 : List CD := KX187 ++ [.inr (0, 20)]
theorem kl_KX188_92 : KX188[92]? = some (.inl (6, [(1, 0), (0, 93), (0, 94), (3, 0)])) := by decide +kernel
def KX189 : List CD := KX188.set 92 (.inl (6, ([(1, 0), (0, 93), (0, 94), (3, 0)] : List (Nat × Nat)).set 3 (0, 95)))
set_option maxRecDepth 20000 in
theorem KX_c17_Sights_25 : fk_B RX8 cX8_init 1 1 [(0, 94)] KX188 KXz24 [(97, 0), (94, 0)] 25 KX189 KXz24 [] 28 0 0 := fk_seq (nc := 0) (ns := 0) (nc1 := 0) (ns1 := 0) (kb_putR kp_RX8_18 kl_KX188_92 rfl dX8_init_25) kb_nil
set_option maxRecDepth 20000 in
theorem KX_c17_Sights_23 : fk_B RX8 cX8_init 1 1 [(0, 94)] KX187 KXz24 [(0, 20), (94, 0)] 23 KX189 KXz24 [] 28 1 20 := fk_seq (nc := 1) (ns := 20) (nc1 := 0) (ns1 := 0) (kb_arr (by decide +kernel) (by decide) rfl wk_ar_int (by decide +kernel) (by decide +kernel) (by decide) dX8_init_23) KX_c17_Sights_25
set_option maxRecDepth 20000 in
theorem KX_c17_Sights_21 : fk_B RX8 cX8_init 1 1 [(0, 94)] KX187 KXz24 [(94, 0)] 21 KX189 KXz24 [] 28 1 20 := fk_seq (nc := 0) (ns := 0) (nc1 := 1) (ns1 := 20) (kb_bipush dX8_init_21) KX_c17_Sights_23
set_option maxRecDepth 20000 in
theorem KX_c17_Sights_20 : fk_B RX8 cX8_init 1 1 [(0, 94)] KX187 KXz24 [] 20 KX189 KXz24 [] 28 1 20 := fk_seq (nc := 0) (ns := 0) (nc1 := 1) (ns1 := 20) (kb_aload (j := 0) rfl dX8_init_20) KX_c17_Sights_21
set_option maxRecDepth 20000 in
theorem KX_c17_Sights_17 : fk_B RX8 cX8_init 1 1 [(0, 94)] KX186 KXz24 [(96, 0), (94, 0)] 17 KX189 KXz24 [] 28 1 20 := fk_seq (nc := 0) (ns := 0) (nc1 := 1) (ns1 := 20) (kb_putR kp_RX8_15 kl_KX186_92 rfl dX8_init_17) KX_c17_Sights_20
set_option maxRecDepth 20000 in
theorem KX_c17_Sights_15 : fk_B RX8 cX8_init 1 1 [(0, 94)] KX185 KXz24 [(0, 20), (94, 0)] 15 KX189 KXz24 [] 28 2 40 := fk_seq (nc := 1) (ns := 20) (nc1 := 1) (ns1 := 20) (kb_arr (by decide +kernel) (by decide) rfl wk_ar_int (by decide +kernel) (by decide +kernel) (by decide) dX8_init_15) KX_c17_Sights_17
set_option maxRecDepth 20000 in
theorem KX_c17_Sights_13 : fk_B RX8 cX8_init 1 1 [(0, 94)] KX185 KXz24 [(94, 0)] 13 KX189 KXz24 [] 28 2 40 := fk_seq (nc := 0) (ns := 0) (nc1 := 2) (ns1 := 40) (kb_bipush dX8_init_13) KX_c17_Sights_15
set_option maxRecDepth 20000 in
theorem KX_c17_Sights_12 : fk_B RX8 cX8_init 1 1 [(0, 94)] KX185 KXz24 [] 12 KX189 KXz24 [] 28 2 40 := fk_seq (nc := 0) (ns := 0) (nc1 := 2) (ns1 := 40) (kb_aload (j := 0) rfl dX8_init_12) KX_c17_Sights_13
set_option maxRecDepth 20000 in
theorem KX_c17_Sights_9 : fk_B RX8 cX8_init 1 1 [(0, 94)] KX184 KXz24 [(95, 0), (94, 0)] 9 KX189 KXz24 [] 28 2 40 := fk_seq (nc := 0) (ns := 0) (nc1 := 2) (ns1 := 40) (kb_putR kp_RX8_9 kl_KX184_92 rfl dX8_init_9) KX_c17_Sights_12
set_option maxRecDepth 20000 in
theorem KX_c17_Sights_7 : fk_B RX8 cX8_init 1 1 [(0, 94)] KX183 KXz24 [(0, 20), (94, 0)] 7 KX189 KXz24 [] 28 3 60 := fk_seq (nc := 1) (ns := 20) (nc1 := 2) (ns1 := 40) (kb_arr (by decide +kernel) (by decide) rfl wk_ar_int (by decide +kernel) (by decide +kernel) (by decide) dX8_init_7) KX_c17_Sights_9
set_option maxRecDepth 20000 in
theorem KX_c17_Sights_5 : fk_B RX8 cX8_init 1 1 [(0, 94)] KX183 KXz24 [(94, 0)] 5 KX189 KXz24 [] 28 3 60 := fk_seq (nc := 0) (ns := 0) (nc1 := 3) (ns1 := 60) (kb_bipush dX8_init_5) KX_c17_Sights_7
set_option maxRecDepth 20000 in
theorem KX_c17_Sights_4 : fk_B RX8 cX8_init 1 1 [(0, 94)] KX183 KXz24 [] 4 KX189 KXz24 [] 28 3 60 := fk_seq (nc := 0) (ns := 0) (nc1 := 3) (ns1 := 60) (kb_aload (j := 0) rfl dX8_init_4) KX_c17_Sights_5
set_option maxRecDepth 20000 in
theorem KX_c17_Sights_1 : fk_B RX8 cX8_init 1 1 [(0, 94)] KX183 KXz24 [(94, 0)] 1 KX189 KXz24 [] 28 3 60 := fk_seq (nc := 0) (ns := 0) (nc1 := 3) (ns1 := 60) (kb_obj ko_RX8_3 (by decide) dX8_init_1) KX_c17_Sights_4
set_option maxRecDepth 20000 in
theorem KX_c17_Sights_0 : fk_B RX8 cX8_init 1 1 [(0, 94)] KX183 KXz24 [] 0 KX189 KXz24 [] 28 3 60 := fk_seq (nc := 0) (ns := 0) (nc1 := 3) (ns1 := 60) (kb_aload (j := 0) rfl dX8_init_0) KX_c17_Sights_1
theorem KX_c17_Sights : fk_C yX8_init cX8_init 1 1 92 KX183 KXz24 KX189 KXz24 3 60 := fk_close (by decide +kernel) rfl (by decide) (show fk_B yX8_init.cls cX8_init 1 1 [(0, 94)] KX183 KXz24 [] 0 KX189 KXz24 [] 28 3 60 from KX_c17_Sights_0) dX8_init_28
theorem kl_KX189_69 : KX189[69]? = some (.inl (4, [(0, 70), (0, 88), (3, 0), (3, 0)])) := by decide +kernel
def KX190 : List CD := KX189.set 69 (.inl (4, ([(0, 70), (0, 88), (3, 0), (3, 0)] : List (Nat × Nat)).set 2 (0, 92)))
def KX191 : List CD := KX190 ++ [.inl (5, [(1, 0), (1, 0), (3, 0), (3, 0), (3, 0), (3, 0), (3, 0)])]
def KX192 : List CD := KX191 ++ [.inr (0, 40)]
theorem kl_KX192_96 : KX192[96]? = some (.inl (5, [(1, 0), (1, 0), (3, 0), (3, 0), (3, 0), (3, 0), (3, 0)])) := by decide +kernel
def KX193 : List CD := KX192.set 96 (.inl (5, ([(1, 0), (1, 0), (3, 0), (3, 0), (3, 0), (3, 0), (3, 0)] : List (Nat × Nat)).set 2 (0, 97)))
def KX194 : List CD := KX193 ++ [.inr (0, 40)]
theorem kl_KX194_96 : KX194[96]? = some (.inl (5, [(1, 0), (1, 0), (0, 97), (3, 0), (3, 0), (3, 0), (3, 0)])) := by decide +kernel
def KX195 : List CD := KX194.set 96 (.inl (5, ([(1, 0), (1, 0), (0, 97), (3, 0), (3, 0), (3, 0), (3, 0)] : List (Nat × Nat)).set 3 (0, 98)))
def KX196 : List CD := KX195 ++ [.inr (0, 40)]
theorem kl_KX196_96 : KX196[96]? = some (.inl (5, [(1, 0), (1, 0), (0, 97), (0, 98), (3, 0), (3, 0), (3, 0)])) := by decide +kernel
def KX197 : List CD := KX196.set 96 (.inl (5, ([(1, 0), (1, 0), (0, 97), (0, 98), (3, 0), (3, 0), (3, 0)] : List (Nat × Nat)).set 4 (0, 99)))
def KX198 : List CD := KX197 ++ [.inr (0, 40)]
theorem kl_KX198_96 : KX198[96]? = some (.inl (5, [(1, 0), (1, 0), (0, 97), (0, 98), (0, 99), (3, 0), (3, 0)])) := by decide +kernel
def KX199 : List CD := KX198.set 96 (.inl (5, ([(1, 0), (1, 0), (0, 97), (0, 98), (0, 99), (3, 0), (3, 0)] : List (Nat × Nat)).set 5 (0, 100)))
def KX200 : List CD := KX199 ++ [.inr (0, 40)]
theorem kl_KX200_96 : KX200[96]? = some (.inl (5, [(1, 0), (1, 0), (0, 97), (0, 98), (0, 99), (0, 100), (3, 0)])) := by decide +kernel
def KX201 : List CD := KX200.set 96 (.inl (5, ([(1, 0), (1, 0), (0, 97), (0, 98), (0, 99), (0, 100), (3, 0)] : List (Nat × Nat)).set 6 (0, 101)))
set_option maxRecDepth 20000 in
theorem KX_c18_Sentence_41 : fk_B RX6 cX6_init 1 1 [(0, 98)] KX200 KXz24 [(103, 0), (98, 0)] 41 KX201 KXz24 [] 44 0 0 := fk_seq (nc := 0) (ns := 0) (nc1 := 0) (ns1 := 0) (kb_putR kp_RX6_24 kl_KX200_96 rfl dX6_init_41) kb_nil
set_option maxRecDepth 20000 in
theorem KX_c18_Sentence_39 : fk_B RX6 cX6_init 1 1 [(0, 98)] KX199 KXz24 [(0, 40), (98, 0)] 39 KX201 KXz24 [] 44 1 40 := fk_seq (nc := 1) (ns := 40) (nc1 := 0) (ns1 := 0) (kb_arr (by decide +kernel) (by decide) rfl wk_ar_int (by decide +kernel) (by decide +kernel) (by decide) dX6_init_39) KX_c18_Sentence_41
set_option maxRecDepth 20000 in
theorem KX_c18_Sentence_37 : fk_B RX6 cX6_init 1 1 [(0, 98)] KX199 KXz24 [(98, 0)] 37 KX201 KXz24 [] 44 1 40 := fk_seq (nc := 0) (ns := 0) (nc1 := 1) (ns1 := 40) (kb_bipush dX6_init_37) KX_c18_Sentence_39
set_option maxRecDepth 20000 in
theorem KX_c18_Sentence_36 : fk_B RX6 cX6_init 1 1 [(0, 98)] KX199 KXz24 [] 36 KX201 KXz24 [] 44 1 40 := fk_seq (nc := 0) (ns := 0) (nc1 := 1) (ns1 := 40) (kb_aload (j := 0) rfl dX6_init_36) KX_c18_Sentence_37
set_option maxRecDepth 20000 in
theorem KX_c18_Sentence_33 : fk_B RX6 cX6_init 1 1 [(0, 98)] KX198 KXz24 [(102, 0), (98, 0)] 33 KX201 KXz24 [] 44 1 40 := fk_seq (nc := 0) (ns := 0) (nc1 := 1) (ns1 := 40) (kb_putR kp_RX6_21 kl_KX198_96 rfl dX6_init_33) KX_c18_Sentence_36
set_option maxRecDepth 20000 in
theorem KX_c18_Sentence_31 : fk_B RX6 cX6_init 1 1 [(0, 98)] KX197 KXz24 [(0, 40), (98, 0)] 31 KX201 KXz24 [] 44 2 80 := fk_seq (nc := 1) (ns := 40) (nc1 := 1) (ns1 := 40) (kb_arr (by decide +kernel) (by decide) rfl wk_ar_int (by decide +kernel) (by decide +kernel) (by decide) dX6_init_31) KX_c18_Sentence_33
set_option maxRecDepth 20000 in
theorem KX_c18_Sentence_29 : fk_B RX6 cX6_init 1 1 [(0, 98)] KX197 KXz24 [(98, 0)] 29 KX201 KXz24 [] 44 2 80 := fk_seq (nc := 0) (ns := 0) (nc1 := 2) (ns1 := 80) (kb_bipush dX6_init_29) KX_c18_Sentence_31
set_option maxRecDepth 20000 in
theorem KX_c18_Sentence_28 : fk_B RX6 cX6_init 1 1 [(0, 98)] KX197 KXz24 [] 28 KX201 KXz24 [] 44 2 80 := fk_seq (nc := 0) (ns := 0) (nc1 := 2) (ns1 := 80) (kb_aload (j := 0) rfl dX6_init_28) KX_c18_Sentence_29
set_option maxRecDepth 20000 in
theorem KX_c18_Sentence_25 : fk_B RX6 cX6_init 1 1 [(0, 98)] KX196 KXz24 [(101, 0), (98, 0)] 25 KX201 KXz24 [] 44 2 80 := fk_seq (nc := 0) (ns := 0) (nc1 := 2) (ns1 := 80) (kb_putR kp_RX6_18 kl_KX196_96 rfl dX6_init_25) KX_c18_Sentence_28
set_option maxRecDepth 20000 in
theorem KX_c18_Sentence_23 : fk_B RX6 cX6_init 1 1 [(0, 98)] KX195 KXz24 [(0, 40), (98, 0)] 23 KX201 KXz24 [] 44 3 120 := fk_seq (nc := 1) (ns := 40) (nc1 := 2) (ns1 := 80) (kb_arr (by decide +kernel) (by decide) rfl wk_ar_int (by decide +kernel) (by decide +kernel) (by decide) dX6_init_23) KX_c18_Sentence_25
set_option maxRecDepth 20000 in
theorem KX_c18_Sentence_21 : fk_B RX6 cX6_init 1 1 [(0, 98)] KX195 KXz24 [(98, 0)] 21 KX201 KXz24 [] 44 3 120 := fk_seq (nc := 0) (ns := 0) (nc1 := 3) (ns1 := 120) (kb_bipush dX6_init_21) KX_c18_Sentence_23
set_option maxRecDepth 20000 in
theorem KX_c18_Sentence_20 : fk_B RX6 cX6_init 1 1 [(0, 98)] KX195 KXz24 [] 20 KX201 KXz24 [] 44 3 120 := fk_seq (nc := 0) (ns := 0) (nc1 := 3) (ns1 := 120) (kb_aload (j := 0) rfl dX6_init_20) KX_c18_Sentence_21
set_option maxRecDepth 20000 in
theorem KX_c18_Sentence_17 : fk_B RX6 cX6_init 1 1 [(0, 98)] KX194 KXz24 [(100, 0), (98, 0)] 17 KX201 KXz24 [] 44 3 120 := fk_seq (nc := 0) (ns := 0) (nc1 := 3) (ns1 := 120) (kb_putR kp_RX6_15 kl_KX194_96 rfl dX6_init_17) KX_c18_Sentence_20
set_option maxRecDepth 20000 in
theorem KX_c18_Sentence_15 : fk_B RX6 cX6_init 1 1 [(0, 98)] KX193 KXz24 [(0, 40), (98, 0)] 15 KX201 KXz24 [] 44 4 160 := fk_seq (nc := 1) (ns := 40) (nc1 := 3) (ns1 := 120) (kb_arr (by decide +kernel) (by decide) rfl wk_ar_int (by decide +kernel) (by decide +kernel) (by decide) dX6_init_15) KX_c18_Sentence_17
set_option maxRecDepth 20000 in
theorem KX_c18_Sentence_13 : fk_B RX6 cX6_init 1 1 [(0, 98)] KX193 KXz24 [(98, 0)] 13 KX201 KXz24 [] 44 4 160 := fk_seq (nc := 0) (ns := 0) (nc1 := 4) (ns1 := 160) (kb_bipush dX6_init_13) KX_c18_Sentence_15
set_option maxRecDepth 20000 in
theorem KX_c18_Sentence_12 : fk_B RX6 cX6_init 1 1 [(0, 98)] KX193 KXz24 [] 12 KX201 KXz24 [] 44 4 160 := fk_seq (nc := 0) (ns := 0) (nc1 := 4) (ns1 := 160) (kb_aload (j := 0) rfl dX6_init_12) KX_c18_Sentence_13
set_option maxRecDepth 20000 in
theorem KX_c18_Sentence_9 : fk_B RX6 cX6_init 1 1 [(0, 98)] KX192 KXz24 [(99, 0), (98, 0)] 9 KX201 KXz24 [] 44 4 160 := fk_seq (nc := 0) (ns := 0) (nc1 := 4) (ns1 := 160) (kb_putR kp_RX6_11 kl_KX192_96 rfl dX6_init_9) KX_c18_Sentence_12
set_option maxRecDepth 20000 in
theorem KX_c18_Sentence_7 : fk_B RX6 cX6_init 1 1 [(0, 98)] KX191 KXz24 [(0, 40), (98, 0)] 7 KX201 KXz24 [] 44 5 200 := fk_seq (nc := 1) (ns := 40) (nc1 := 4) (ns1 := 160) (kb_arr (by decide +kernel) (by decide) rfl wk_ar_int (by decide +kernel) (by decide +kernel) (by decide) dX6_init_7) KX_c18_Sentence_9
set_option maxRecDepth 20000 in
theorem KX_c18_Sentence_5 : fk_B RX6 cX6_init 1 1 [(0, 98)] KX191 KXz24 [(98, 0)] 5 KX201 KXz24 [] 44 5 200 := fk_seq (nc := 0) (ns := 0) (nc1 := 5) (ns1 := 200) (kb_bipush dX6_init_5) KX_c18_Sentence_7
set_option maxRecDepth 20000 in
theorem KX_c18_Sentence_4 : fk_B RX6 cX6_init 1 1 [(0, 98)] KX191 KXz24 [] 4 KX201 KXz24 [] 44 5 200 := fk_seq (nc := 0) (ns := 0) (nc1 := 5) (ns1 := 200) (kb_aload (j := 0) rfl dX6_init_4) KX_c18_Sentence_5
set_option maxRecDepth 20000 in
theorem KX_c18_Sentence_1 : fk_B RX6 cX6_init 1 1 [(0, 98)] KX191 KXz24 [(98, 0)] 1 KX201 KXz24 [] 44 5 200 := fk_seq (nc := 0) (ns := 0) (nc1 := 5) (ns1 := 200) (kb_obj ko_RX6_5 (by decide) dX6_init_1) KX_c18_Sentence_4
set_option maxRecDepth 20000 in
theorem KX_c18_Sentence_0 : fk_B RX6 cX6_init 1 1 [(0, 98)] KX191 KXz24 [] 0 KX201 KXz24 [] 44 5 200 := fk_seq (nc := 0) (ns := 0) (nc1 := 5) (ns1 := 200) (kb_aload (j := 0) rfl dX6_init_0) KX_c18_Sentence_1
theorem KX_c18_Sentence : fk_C yX6_init cX6_init 1 1 96 KX191 KXz24 KX201 KXz24 5 200 := fk_close (by decide +kernel) rfl (by decide) (show fk_B yX6_init.cls cX6_init 1 1 [(0, 98)] KX191 KXz24 [] 0 KX201 KXz24 [] 44 5 200 from KX_c18_Sentence_0) dX6_init_44
theorem kl_KX201_69 : KX201[69]? = some (.inl (4, [(0, 70), (0, 88), (0, 92), (3, 0)])) := by decide +kernel
def KX202 : List CD := KX201.set 69 (.inl (4, ([(0, 70), (0, 88), (0, 92), (3, 0)] : List (Nat × Nat)).set 3 (0, 96)))
set_option maxRecDepth 20000 in
theorem KX_c19_Scene_45 : fk_B RX5 cX5_init 1 3 [(0, 71)] KX201 KXz24 [(98, 0), (71, 0)] 45 KX202 KXz24 [] 48 0 0 := fk_seq (nc := 0) (ns := 0) (nc1 := 0) (ns1 := 0) (kb_putR kp_RX5_33 kl_KX201_69 rfl dX5_init_45) kb_nil
set_option maxRecDepth 20000 in
theorem KX_c19_Scene_42 : fk_B RX5 cX5_init 1 3 [(0, 71)] KX191 KXz24 [(98, 0), (98, 0), (71, 0)] 42 KX202 KXz24 [] 48 5 200 := fk_seq (nc := 5) (ns := 200) (nc1 := 0) (ns1 := 0) (kb_ctor KX_c18_Sentence kn_RX5_32 (by decide) (by decide) (by decide) dX5_init_42) KX_c19_Scene_45
set_option maxRecDepth 20000 in
theorem KX_c19_Scene_41 : fk_B RX5 cX5_init 1 3 [(0, 71)] KX191 KXz24 [(98, 0), (71, 0)] 41 KX202 KXz24 [] 48 5 200 := fk_seq (nc := 0) (ns := 0) (nc1 := 5) (ns1 := 200) (kb_dup rfl dX5_init_41) KX_c19_Scene_42
set_option maxRecDepth 20000 in
theorem KX_c19_Scene_38 : fk_B RX5 cX5_init 1 3 [(0, 71)] KX190 KXz24 [(71, 0)] 38 KX202 KXz24 [] 48 6 207 := fk_seq (nc := 1) (ns := 7) (nc1 := 5) (ns1 := 200) (kb_new (by decide +kernel) rfl in_X6 tyX6_ok wk_cl_RX5_30 wk_in_X6 wn_RX6 kbl_X6 (by decide) (by decide) dX5_init_38) KX_c19_Scene_41
set_option maxRecDepth 20000 in
theorem KX_c19_Scene_37 : fk_B RX5 cX5_init 1 3 [(0, 71)] KX190 KXz24 [] 37 KX202 KXz24 [] 48 6 207 := fk_seq (nc := 0) (ns := 0) (nc1 := 6) (ns1 := 207) (kb_aload (j := 0) rfl dX5_init_37) KX_c19_Scene_38
set_option maxRecDepth 20000 in
theorem KX_c19_Scene_34 : fk_B RX5 cX5_init 1 3 [(0, 71)] KX189 KXz24 [(94, 0), (71, 0)] 34 KX202 KXz24 [] 48 6 207 := fk_seq (nc := 0) (ns := 0) (nc1 := 6) (ns1 := 207) (kb_putR kp_RX5_26 kl_KX189_69 rfl dX5_init_34) KX_c19_Scene_37
set_option maxRecDepth 20000 in
theorem KX_c19_Scene_31 : fk_B RX5 cX5_init 1 3 [(0, 71)] KX183 KXz24 [(94, 0), (94, 0), (71, 0)] 31 KX202 KXz24 [] 48 9 267 := fk_seq (nc := 3) (ns := 60) (nc1 := 6) (ns1 := 207) (kb_ctor KX_c17_Sights kn_RX5_25 (by decide) (by decide) (by decide) dX5_init_31) KX_c19_Scene_34
set_option maxRecDepth 20000 in
theorem KX_c19_Scene_30 : fk_B RX5 cX5_init 1 3 [(0, 71)] KX183 KXz24 [(94, 0), (71, 0)] 30 KX202 KXz24 [] 48 9 267 := fk_seq (nc := 0) (ns := 0) (nc1 := 9) (ns1 := 267) (kb_dup rfl dX5_init_30) KX_c19_Scene_31
set_option maxRecDepth 20000 in
theorem KX_c19_Scene_27 : fk_B RX5 cX5_init 1 3 [(0, 71)] KX182 KXz24 [(71, 0)] 27 KX202 KXz24 [] 48 10 271 := fk_seq (nc := 1) (ns := 4) (nc1 := 9) (ns1 := 267) (kb_new (by decide +kernel) rfl in_X8 tyX8_ok wk_cl_RX5_23 wk_in_X8 wn_RX8 kbl_X8 (by decide) (by decide) dX5_init_27) KX_c19_Scene_30
set_option maxRecDepth 20000 in
theorem KX_c19_Scene_26 : fk_B RX5 cX5_init 1 3 [(0, 71)] KX182 KXz24 [] 26 KX202 KXz24 [] 48 10 271 := fk_seq (nc := 0) (ns := 0) (nc1 := 10) (ns1 := 271) (kb_aload (j := 0) rfl dX5_init_26) KX_c19_Scene_27
set_option maxRecDepth 20000 in
theorem KX_c19_Scene_23 : fk_B RX5 cX5_init 1 3 [(0, 71)] KX181 KXz24 [(90, 0), (71, 0)] 23 KX202 KXz24 [] 48 10 271 := fk_seq (nc := 0) (ns := 0) (nc1 := 10) (ns1 := 271) (kb_putR kp_RX5_19 kl_KX181_69 rfl dX5_init_23) KX_c19_Scene_26
set_option maxRecDepth 20000 in
theorem KX_c19_Scene_20 : fk_B RX5 cX5_init 1 3 [(0, 71)] KX175 KXz24 [(90, 0), (90, 0), (71, 0)] 20 KX202 KXz24 [] 48 13 391 := fk_seq (nc := 3) (ns := 120) (nc1 := 10) (ns1 := 271) (kb_ctor KX_c16_Order kn_RX5_18 (by decide) (by decide) (by decide) dX5_init_20) KX_c19_Scene_23
set_option maxRecDepth 20000 in
theorem KX_c19_Scene_19 : fk_B RX5 cX5_init 1 3 [(0, 71)] KX175 KXz24 [(90, 0), (71, 0)] 19 KX202 KXz24 [] 48 13 391 := fk_seq (nc := 0) (ns := 0) (nc1 := 13) (ns1 := 391) (kb_dup rfl dX5_init_19) KX_c19_Scene_20
set_option maxRecDepth 20000 in
theorem KX_c19_Scene_16 : fk_B RX5 cX5_init 1 3 [(0, 71)] KX174 KXz24 [(71, 0)] 16 KX202 KXz24 [] 48 14 395 := fk_seq (nc := 1) (ns := 4) (nc1 := 13) (ns1 := 391) (kb_new (by decide +kernel) rfl in_X1 tyX1_ok wk_cl_RX5_16 wk_in_X1 wn_RX1 kbl_X1 (by decide) (by decide) dX5_init_16) KX_c19_Scene_19
set_option maxRecDepth 20000 in
theorem KX_c19_Scene_15 : fk_B RX5 cX5_init 1 3 [(0, 71)] KX174 KXz24 [] 15 KX202 KXz24 [] 48 14 395 := fk_seq (nc := 0) (ns := 0) (nc1 := 14) (ns1 := 395) (kb_aload (j := 0) rfl dX5_init_15) KX_c19_Scene_16
set_option maxRecDepth 20000 in
theorem KX_c19_Scene_12 : fk_B RX5 cX5_init 1 3 [(0, 71)] KX173 KXz24 [(72, 0), (71, 0)] 12 KX202 KXz24 [] 48 14 395 := fk_seq (nc := 0) (ns := 0) (nc1 := 14) (ns1 := 395) (kb_putR kp_RX5_10 kl_KX173_69 rfl dX5_init_12) KX_c19_Scene_15
set_option maxRecDepth 20000 in
theorem KX_c19_Scene_9 : fk_B RX5 cX5_init 1 3 [(0, 71)] KX139 KXz16 [(72, 0), (72, 0), (71, 0)] 9 KX202 KXz24 [] 48 31 618 := fk_seq (nc := 17) (ns := 223) (nc1 := 14) (ns1 := 395) (kb_ctor KX_c15_River kn_RX5_9 (by decide) (by decide) (by decide) dX5_init_9) KX_c19_Scene_12
set_option maxRecDepth 20000 in
theorem KX_c19_Scene_8 : fk_B RX5 cX5_init 1 3 [(0, 71)] KX139 KXz16 [(72, 0), (71, 0)] 8 KX202 KXz24 [] 48 31 618 := fk_seq (nc := 0) (ns := 0) (nc1 := 31) (ns1 := 618) (kb_dup rfl dX5_init_8) KX_c19_Scene_9
set_option maxRecDepth 20000 in
theorem KX_c19_Scene_5 : fk_B RX5 cX5_init 1 3 [(0, 71)] KX138 KXz16 [(71, 0)] 5 KX202 KXz24 [] 48 32 638 := fk_seq (nc := 1) (ns := 20) (nc1 := 31) (ns1 := 618) (kb_new (by decide +kernel) rfl in_X3 tyX3_ok wk_cl_RX5_7 wk_in_X3 wn_RX3 kbl_X3 (by decide) (by decide) dX5_init_5) KX_c19_Scene_8
set_option maxRecDepth 20000 in
theorem KX_c19_Scene_4 : fk_B RX5 cX5_init 1 3 [(0, 71)] KX138 KXz16 [] 4 KX202 KXz24 [] 48 32 638 := fk_seq (nc := 0) (ns := 0) (nc1 := 32) (ns1 := 638) (kb_aload (j := 0) rfl dX5_init_4) KX_c19_Scene_5
set_option maxRecDepth 20000 in
theorem KX_c19_Scene_1 : fk_B RX5 cX5_init 1 3 [(0, 71)] KX138 KXz16 [(71, 0)] 1 KX202 KXz24 [] 48 32 638 := fk_seq (nc := 0) (ns := 0) (nc1 := 32) (ns1 := 638) (kb_obj ko_RX5_1 (by decide) dX5_init_1) KX_c19_Scene_4
set_option maxRecDepth 20000 in
theorem KX_c19_Scene_0 : fk_B RX5 cX5_init 1 3 [(0, 71)] KX138 KXz16 [] 0 KX202 KXz24 [] 48 32 638 := fk_seq (nc := 0) (ns := 0) (nc1 := 32) (ns1 := 638) (kb_aload (j := 0) rfl dX5_init_0) KX_c19_Scene_1
theorem KX_c19_Scene : fk_C yX5_init cX5_init 1 3 69 KX138 KXz16 KX202 KXz24 32 638 := fk_close (by decide +kernel) rfl (by decide) (show fk_B yX5_init.cls cX5_init 1 3 [(0, 71)] KX138 KXz16 [] 0 KX202 KXz24 [] 48 32 638 from KX_c19_Scene_0) dX5_init_48
theorem kl_KX202_0 : KX202[0]? = some (.inl (9, [(0, 1), (1, 0), (0, 3), (0, 36), (3, 0), (3, 0), (1, 0), (1, 0), (3, 0), (3, 0), (1, 0), (3, 0), (3, 0), (3, 0), (1, 0), (1, 0), (3, 0)])) := by decide +kernel
def KX203 : List CD := KX202.set 0 (.inl (9, ([(0, 1), (1, 0), (0, 3), (0, 36), (3, 0), (3, 0), (1, 0), (1, 0), (3, 0), (3, 0), (1, 0), (3, 0), (3, 0), (3, 0), (1, 0), (1, 0), (3, 0)] : List (Nat × Nat)).set 4 (0, 69)))
def KX204 : List CD := KX203 ++ [.inl (4, [(3, 0), (3, 0), (3, 0), (3, 0)])]
def KX205 : List CD := KX204 ++ [.inl (3, [(3, 0), (1, 0), (3, 0), (3, 0), (1, 0), (1, 0), (3, 0), (3, 0), (3, 0), (1, 0), (3, 0), (3, 0), (3, 0), (3, 0), (3, 0), (1, 0), (1, 0), (3, 0), (3, 0), (3, 0)])]
def KX206 : List CD := KX205 ++ [.inl (0, [(1, 0), (3, 0), (3, 0), (3, 0)])]
def KX207 : List CD := KX206 ++ [.inr (1, 26)]
theorem kl_KX207_104 : KX207[104]? = some (.inl (0, [(1, 0), (3, 0), (3, 0), (3, 0)])) := by decide +kernel
def KX208 : List CD := KX207.set 104 (.inl (0, ([(1, 0), (3, 0), (3, 0), (3, 0)] : List (Nat × Nat)).set 1 (0, 105)))
def KX209 : List CD := KX208 ++ [.inr (0, 26)]
theorem kl_KX209_104 : KX209[104]? = some (.inl (0, [(1, 0), (0, 105), (3, 0), (3, 0)])) := by decide +kernel
def KX210 : List CD := KX209.set 104 (.inl (0, ([(1, 0), (0, 105), (3, 0), (3, 0)] : List (Nat × Nat)).set 2 (0, 106)))
def KX211 : List CD := KX210 ++ [.inr (0, 26)]
theorem kl_KX211_104 : KX211[104]? = some (.inl (0, [(1, 0), (0, 105), (0, 106), (3, 0)])) := by decide +kernel
def KX212 : List CD := KX211.set 104 (.inl (0, ([(1, 0), (0, 105), (0, 106), (3, 0)] : List (Nat × Nat)).set 3 (0, 107)))
set_option maxRecDepth 20000 in
theorem KX_c20_Names_25 : fk_B RX0 cX0_init 1 1 [(0, 106)] KX211 KXz24 [(109, 0), (106, 0)] 25 KX212 KXz24 [] 28 0 0 := fk_seq (nc := 0) (ns := 0) (nc1 := 0) (ns1 := 0) (kb_putR kp_RX0_19 kl_KX211_104 rfl dX0_init_25) kb_nil
set_option maxRecDepth 20000 in
theorem KX_c20_Names_23 : fk_B RX0 cX0_init 1 1 [(0, 106)] KX210 KXz24 [(0, 26), (106, 0)] 23 KX212 KXz24 [] 28 1 26 := fk_seq (nc := 1) (ns := 26) (nc1 := 0) (ns1 := 0) (kb_arr (by decide +kernel) (by decide) rfl wk_ar_int (by decide +kernel) (by decide +kernel) (by decide) dX0_init_23) KX_c20_Names_25
set_option maxRecDepth 20000 in
theorem KX_c20_Names_21 : fk_B RX0 cX0_init 1 1 [(0, 106)] KX210 KXz24 [(106, 0)] 21 KX212 KXz24 [] 28 1 26 := fk_seq (nc := 0) (ns := 0) (nc1 := 1) (ns1 := 26) (kb_bipush dX0_init_21) KX_c20_Names_23
set_option maxRecDepth 20000 in
theorem KX_c20_Names_20 : fk_B RX0 cX0_init 1 1 [(0, 106)] KX210 KXz24 [] 20 KX212 KXz24 [] 28 1 26 := fk_seq (nc := 0) (ns := 0) (nc1 := 1) (ns1 := 26) (kb_aload (j := 0) rfl dX0_init_20) KX_c20_Names_21
set_option maxRecDepth 20000 in
theorem KX_c20_Names_17 : fk_B RX0 cX0_init 1 1 [(0, 106)] KX209 KXz24 [(108, 0), (106, 0)] 17 KX212 KXz24 [] 28 1 26 := fk_seq (nc := 0) (ns := 0) (nc1 := 1) (ns1 := 26) (kb_putR kp_RX0_15 kl_KX209_104 rfl dX0_init_17) KX_c20_Names_20
set_option maxRecDepth 20000 in
theorem KX_c20_Names_15 : fk_B RX0 cX0_init 1 1 [(0, 106)] KX208 KXz24 [(0, 26), (106, 0)] 15 KX212 KXz24 [] 28 2 52 := fk_seq (nc := 1) (ns := 26) (nc1 := 1) (ns1 := 26) (kb_arr (by decide +kernel) (by decide) rfl wk_ar_int (by decide +kernel) (by decide +kernel) (by decide) dX0_init_15) KX_c20_Names_17
set_option maxRecDepth 20000 in
theorem KX_c20_Names_13 : fk_B RX0 cX0_init 1 1 [(0, 106)] KX208 KXz24 [(106, 0)] 13 KX212 KXz24 [] 28 2 52 := fk_seq (nc := 0) (ns := 0) (nc1 := 2) (ns1 := 52) (kb_bipush dX0_init_13) KX_c20_Names_15
set_option maxRecDepth 20000 in
theorem KX_c20_Names_12 : fk_B RX0 cX0_init 1 1 [(0, 106)] KX208 KXz24 [] 12 KX212 KXz24 [] 28 2 52 := fk_seq (nc := 0) (ns := 0) (nc1 := 2) (ns1 := 52) (kb_aload (j := 0) rfl dX0_init_12) KX_c20_Names_13
set_option maxRecDepth 20000 in
theorem KX_c20_Names_9 : fk_B RX0 cX0_init 1 1 [(0, 106)] KX207 KXz24 [(107, 0), (106, 0)] 9 KX212 KXz24 [] 28 2 52 := fk_seq (nc := 0) (ns := 0) (nc1 := 2) (ns1 := 52) (kb_putR kp_RX0_11 kl_KX207_104 rfl dX0_init_9) KX_c20_Names_12
set_option maxRecDepth 20000 in
theorem KX_c20_Names_7 : fk_B RX0 cX0_init 1 1 [(0, 106)] KX206 KXz24 [(0, 26), (106, 0)] 7 KX212 KXz24 [] 28 3 78 := fk_seq (nc := 1) (ns := 26) (nc1 := 2) (ns1 := 52) (kb_arr (by decide +kernel) (by decide) rfl wk_ar_long (by decide +kernel) (by decide +kernel) (by decide) dX0_init_7) KX_c20_Names_9
set_option maxRecDepth 20000 in
theorem KX_c20_Names_5 : fk_B RX0 cX0_init 1 1 [(0, 106)] KX206 KXz24 [(106, 0)] 5 KX212 KXz24 [] 28 3 78 := fk_seq (nc := 0) (ns := 0) (nc1 := 3) (ns1 := 78) (kb_bipush dX0_init_5) KX_c20_Names_7
set_option maxRecDepth 20000 in
theorem KX_c20_Names_4 : fk_B RX0 cX0_init 1 1 [(0, 106)] KX206 KXz24 [] 4 KX212 KXz24 [] 28 3 78 := fk_seq (nc := 0) (ns := 0) (nc1 := 3) (ns1 := 78) (kb_aload (j := 0) rfl dX0_init_4) KX_c20_Names_5
set_option maxRecDepth 20000 in
theorem KX_c20_Names_1 : fk_B RX0 cX0_init 1 1 [(0, 106)] KX206 KXz24 [(106, 0)] 1 KX212 KXz24 [] 28 3 78 := fk_seq (nc := 0) (ns := 0) (nc1 := 3) (ns1 := 78) (kb_obj ko_RX0_3 (by decide) dX0_init_1) KX_c20_Names_4
set_option maxRecDepth 20000 in
theorem KX_c20_Names_0 : fk_B RX0 cX0_init 1 1 [(0, 106)] KX206 KXz24 [] 0 KX212 KXz24 [] 28 3 78 := fk_seq (nc := 0) (ns := 0) (nc1 := 3) (ns1 := 78) (kb_aload (j := 0) rfl dX0_init_0) KX_c20_Names_1
theorem KX_c20_Names : fk_C yX0_init cX0_init 1 1 104 KX206 KXz24 KX212 KXz24 3 78 := fk_close (by decide +kernel) rfl (by decide) (show fk_B yX0_init.cls cX0_init 1 1 [(0, 106)] KX206 KXz24 [] 0 KX212 KXz24 [] 28 3 78 from KX_c20_Names_0) dX0_init_28
theorem kl_KX212_103 : KX212[103]? = some (.inl (3, [(3, 0), (1, 0), (3, 0), (3, 0), (1, 0), (1, 0), (3, 0), (3, 0), (3, 0), (1, 0), (3, 0), (3, 0), (3, 0), (3, 0), (3, 0), (1, 0), (1, 0), (3, 0), (3, 0), (3, 0)])) := by decide +kernel
def KX213 : List CD := KX212.set 103 (.inl (3, ([(3, 0), (1, 0), (3, 0), (3, 0), (1, 0), (1, 0), (3, 0), (3, 0), (3, 0), (1, 0), (3, 0), (3, 0), (3, 0), (3, 0), (3, 0), (1, 0), (1, 0), (3, 0), (3, 0), (3, 0)] : List (Nat × Nat)).set 0 (0, 104)))
def KX214 : List CD := KX213 ++ [.inr (0, 10)]
theorem kl_KX214_103 : KX214[103]? = some (.inl (3, [(0, 104), (1, 0), (3, 0), (3, 0), (1, 0), (1, 0), (3, 0), (3, 0), (3, 0), (1, 0), (3, 0), (3, 0), (3, 0), (3, 0), (3, 0), (1, 0), (1, 0), (3, 0), (3, 0), (3, 0)])) := by decide +kernel
def KX215 : List CD := KX214.set 103 (.inl (3, ([(0, 104), (1, 0), (3, 0), (3, 0), (1, 0), (1, 0), (3, 0), (3, 0), (3, 0), (1, 0), (3, 0), (3, 0), (3, 0), (3, 0), (3, 0), (1, 0), (1, 0), (3, 0), (3, 0), (3, 0)] : List (Nat × Nat)).set 2 (0, 108)))
def KX216 : List CD := KX215 ++ [.inr (0, 10)]
theorem kl_KX216_103 : KX216[103]? = some (.inl (3, [(0, 104), (1, 0), (0, 108), (3, 0), (1, 0), (1, 0), (3, 0), (3, 0), (3, 0), (1, 0), (3, 0), (3, 0), (3, 0), (3, 0), (3, 0), (1, 0), (1, 0), (3, 0), (3, 0), (3, 0)])) := by decide +kernel
def KX217 : List CD := KX216.set 103 (.inl (3, ([(0, 104), (1, 0), (0, 108), (3, 0), (1, 0), (1, 0), (3, 0), (3, 0), (3, 0), (1, 0), (3, 0), (3, 0), (3, 0), (3, 0), (3, 0), (1, 0), (1, 0), (3, 0), (3, 0), (3, 0)] : List (Nat × Nat)).set 3 (0, 109)))
def KX218 : List CD := KX217 ++ [.inr (0, 6)]
theorem kl_KX218_103 : KX218[103]? = some (.inl (3, [(0, 104), (1, 0), (0, 108), (0, 109), (1, 0), (1, 0), (3, 0), (3, 0), (3, 0), (1, 0), (3, 0), (3, 0), (3, 0), (3, 0), (3, 0), (1, 0), (1, 0), (3, 0), (3, 0), (3, 0)])) := by decide +kernel
def KX219 : List CD := KX218.set 103 (.inl (3, ([(0, 104), (1, 0), (0, 108), (0, 109), (1, 0), (1, 0), (3, 0), (3, 0), (3, 0), (1, 0), (3, 0), (3, 0), (3, 0), (3, 0), (3, 0), (1, 0), (1, 0), (3, 0), (3, 0), (3, 0)] : List (Nat × Nat)).set 6 (0, 110)))
def KX220 : List CD := KX219 ++ [.inr (0, 6)]
theorem kl_KX220_103 : KX220[103]? = some (.inl (3, [(0, 104), (1, 0), (0, 108), (0, 109), (1, 0), (1, 0), (0, 110), (3, 0), (3, 0), (1, 0), (3, 0), (3, 0), (3, 0), (3, 0), (3, 0), (1, 0), (1, 0), (3, 0), (3, 0), (3, 0)])) := by decide +kernel
def KX221 : List CD := KX220.set 103 (.inl (3, ([(0, 104), (1, 0), (0, 108), (0, 109), (1, 0), (1, 0), (0, 110), (3, 0), (3, 0), (1, 0), (3, 0), (3, 0), (3, 0), (3, 0), (3, 0), (1, 0), (1, 0), (3, 0), (3, 0), (3, 0)] : List (Nat × Nat)).set 7 (0, 111)))
def KX222 : List CD := KX221 ++ [.inr (0, 24)]
theorem kl_KX222_103 : KX222[103]? = some (.inl (3, [(0, 104), (1, 0), (0, 108), (0, 109), (1, 0), (1, 0), (0, 110), (0, 111), (3, 0), (1, 0), (3, 0), (3, 0), (3, 0), (3, 0), (3, 0), (1, 0), (1, 0), (3, 0), (3, 0), (3, 0)])) := by decide +kernel
def KX223 : List CD := KX222.set 103 (.inl (3, ([(0, 104), (1, 0), (0, 108), (0, 109), (1, 0), (1, 0), (0, 110), (0, 111), (3, 0), (1, 0), (3, 0), (3, 0), (3, 0), (3, 0), (3, 0), (1, 0), (1, 0), (3, 0), (3, 0), (3, 0)] : List (Nat × Nat)).set 8 (0, 112)))
def KX224 : List CD := KX223 ++ [.inr (0, 6)]
theorem kl_KX224_103 : KX224[103]? = some (.inl (3, [(0, 104), (1, 0), (0, 108), (0, 109), (1, 0), (1, 0), (0, 110), (0, 111), (0, 112), (1, 0), (3, 0), (3, 0), (3, 0), (3, 0), (3, 0), (1, 0), (1, 0), (3, 0), (3, 0), (3, 0)])) := by decide +kernel
def KX225 : List CD := KX224.set 103 (.inl (3, ([(0, 104), (1, 0), (0, 108), (0, 109), (1, 0), (1, 0), (0, 110), (0, 111), (0, 112), (1, 0), (3, 0), (3, 0), (3, 0), (3, 0), (3, 0), (1, 0), (1, 0), (3, 0), (3, 0), (3, 0)] : List (Nat × Nat)).set 10 (0, 113)))
def KX226 : List CD := KX225 ++ [.inr (0, 6)]
theorem kl_KX226_103 : KX226[103]? = some (.inl (3, [(0, 104), (1, 0), (0, 108), (0, 109), (1, 0), (1, 0), (0, 110), (0, 111), (0, 112), (1, 0), (0, 113), (3, 0), (3, 0), (3, 0), (3, 0), (1, 0), (1, 0), (3, 0), (3, 0), (3, 0)])) := by decide +kernel
def KX227 : List CD := KX226.set 103 (.inl (3, ([(0, 104), (1, 0), (0, 108), (0, 109), (1, 0), (1, 0), (0, 110), (0, 111), (0, 112), (1, 0), (0, 113), (3, 0), (3, 0), (3, 0), (3, 0), (1, 0), (1, 0), (3, 0), (3, 0), (3, 0)] : List (Nat × Nat)).set 11 (0, 114)))
def KX228 : List CD := KX227 ++ [.inr (0, 6)]
theorem kl_KX228_103 : KX228[103]? = some (.inl (3, [(0, 104), (1, 0), (0, 108), (0, 109), (1, 0), (1, 0), (0, 110), (0, 111), (0, 112), (1, 0), (0, 113), (0, 114), (3, 0), (3, 0), (3, 0), (1, 0), (1, 0), (3, 0), (3, 0), (3, 0)])) := by decide +kernel
def KX229 : List CD := KX228.set 103 (.inl (3, ([(0, 104), (1, 0), (0, 108), (0, 109), (1, 0), (1, 0), (0, 110), (0, 111), (0, 112), (1, 0), (0, 113), (0, 114), (3, 0), (3, 0), (3, 0), (1, 0), (1, 0), (3, 0), (3, 0), (3, 0)] : List (Nat × Nat)).set 12 (0, 115)))
def KX230 : List CD := KX229 ++ [.inr (0, 24)]
theorem kl_KX230_103 : KX230[103]? = some (.inl (3, [(0, 104), (1, 0), (0, 108), (0, 109), (1, 0), (1, 0), (0, 110), (0, 111), (0, 112), (1, 0), (0, 113), (0, 114), (0, 115), (3, 0), (3, 0), (1, 0), (1, 0), (3, 0), (3, 0), (3, 0)])) := by decide +kernel
def KX231 : List CD := KX230.set 103 (.inl (3, ([(0, 104), (1, 0), (0, 108), (0, 109), (1, 0), (1, 0), (0, 110), (0, 111), (0, 112), (1, 0), (0, 113), (0, 114), (0, 115), (3, 0), (3, 0), (1, 0), (1, 0), (3, 0), (3, 0), (3, 0)] : List (Nat × Nat)).set 13 (0, 116)))
def KX232 : List CD := KX231 ++ [.inr (0, 7)]
theorem kl_KX232_117 : KX232[117]? = some (.inr (0, 7)) := by decide +kernel
def KXz25 : Me := u2 KXz24 7488 0 (-1)
def KXz26 : Me := u2 KXz25 7488 1 (-1)
def KXz27 : Me := u2 KXz26 7488 2 (-1)
def KXz28 : Me := u2 KXz27 7488 3 (-1)
def KXz29 : Me := u2 KXz28 7488 4 (-1)
def KXz30 : Me := u2 KXz29 7488 5 (-1)
def KXz31 : Me := u2 KXz30 7488 6 (-1)
theorem kl_KX232_103 : KX232[103]? = some (.inl (3, [(0, 104), (1, 0), (0, 108), (0, 109), (1, 0), (1, 0), (0, 110), (0, 111), (0, 112), (1, 0), (0, 113), (0, 114), (0, 115), (0, 116), (3, 0), (1, 0), (1, 0), (3, 0), (3, 0), (3, 0)])) := by decide +kernel
def KX233 : List CD := KX232.set 103 (.inl (3, ([(0, 104), (1, 0), (0, 108), (0, 109), (1, 0), (1, 0), (0, 110), (0, 111), (0, 112), (1, 0), (0, 113), (0, 114), (0, 115), (0, 116), (3, 0), (1, 0), (1, 0), (3, 0), (3, 0), (3, 0)] : List (Nat × Nat)).set 14 (0, 117)))
theorem kl_KX233_103 : KX233[103]? = some (.inl (3, [(0, 104), (1, 0), (0, 108), (0, 109), (1, 0), (1, 0), (0, 110), (0, 111), (0, 112), (1, 0), (0, 113), (0, 114), (0, 115), (0, 116), (0, 117), (1, 0), (1, 0), (3, 0), (3, 0), (3, 0)])) := by decide +kernel
def KXz32 : Me := u2 KXz31 6607 0 (-1)
def KX234 : List CD := KX233 ++ [.inr (0, 12)]
theorem kl_KX234_103 : KX234[103]? = some (.inl (3, [(0, 104), (1, 0), (0, 108), (0, 109), (1, 0), (1, 0), (0, 110), (0, 111), (0, 112), (1, 0), (0, 113), (0, 114), (0, 115), (0, 116), (0, 117), (1, 0), (1, 0), (3, 0), (3, 0), (3, 0)])) := by decide +kernel
def KX235 : List CD := KX234.set 103 (.inl (3, ([(0, 104), (1, 0), (0, 108), (0, 109), (1, 0), (1, 0), (0, 110), (0, 111), (0, 112), (1, 0), (0, 113), (0, 114), (0, 115), (0, 116), (0, 117), (1, 0), (1, 0), (3, 0), (3, 0), (3, 0)] : List (Nat × Nat)).set 17 (0, 118)))
def KX236 : List CD := KX235 ++ [.inr (0, 12)]
theorem kl_KX236_103 : KX236[103]? = some (.inl (3, [(0, 104), (1, 0), (0, 108), (0, 109), (1, 0), (1, 0), (0, 110), (0, 111), (0, 112), (1, 0), (0, 113), (0, 114), (0, 115), (0, 116), (0, 117), (1, 0), (1, 0), (0, 118), (3, 0), (3, 0)])) := by decide +kernel
def KX237 : List CD := KX236.set 103 (.inl (3, ([(0, 104), (1, 0), (0, 108), (0, 109), (1, 0), (1, 0), (0, 110), (0, 111), (0, 112), (1, 0), (0, 113), (0, 114), (0, 115), (0, 116), (0, 117), (1, 0), (1, 0), (0, 118), (3, 0), (3, 0)] : List (Nat × Nat)).set 18 (0, 119)))
def KX238 : List CD := KX237 ++ [.inr (0, 12)]
theorem kl_KX238_103 : KX238[103]? = some (.inl (3, [(0, 104), (1, 0), (0, 108), (0, 109), (1, 0), (1, 0), (0, 110), (0, 111), (0, 112), (1, 0), (0, 113), (0, 114), (0, 115), (0, 116), (0, 117), (1, 0), (1, 0), (0, 118), (0, 119), (3, 0)])) := by decide +kernel
def KX239 : List CD := KX238.set 103 (.inl (3, ([(0, 104), (1, 0), (0, 108), (0, 109), (1, 0), (1, 0), (0, 110), (0, 111), (0, 112), (1, 0), (0, 113), (0, 114), (0, 115), (0, 116), (0, 117), (1, 0), (1, 0), (0, 118), (0, 119), (3, 0)] : List (Nat × Nat)).set 19 (0, 120)))
set_option maxRecDepth 20000 in
theorem KX_c21_River_150 : fk_B RX3 cX3_init 1 2 [(0, 105)] KX238 KXz32 [(122, 0), (105, 0)] 150 KX239 KXz32 [] 153 0 0 := fk_seq (nc := 0) (ns := 0) (nc1 := 0) (ns1 := 0) (kb_putR kp_RX3_59 kl_KX238_103 rfl dX3_init_150) kb_nil
set_option maxRecDepth 20000 in
theorem KX_c21_River_148 : fk_B RX3 cX3_init 1 2 [(0, 105)] KX237 KXz32 [(0, 12), (105, 0)] 148 KX239 KXz32 [] 153 1 12 := fk_seq (nc := 1) (ns := 12) (nc1 := 0) (ns1 := 0) (kb_arr (by decide +kernel) (by decide) rfl wk_ar_int (by decide +kernel) (by decide +kernel) (by decide) dX3_init_148) KX_c21_River_150
set_option maxRecDepth 20000 in
theorem KX_c21_River_146 : fk_B RX3 cX3_init 1 2 [(0, 105)] KX237 KXz32 [(105, 0)] 146 KX239 KXz32 [] 153 1 12 := fk_seq (nc := 0) (ns := 0) (nc1 := 1) (ns1 := 12) (kb_bipush dX3_init_146) KX_c21_River_148
set_option maxRecDepth 20000 in
theorem KX_c21_River_145 : fk_B RX3 cX3_init 1 2 [(0, 105)] KX237 KXz32 [] 145 KX239 KXz32 [] 153 1 12 := fk_seq (nc := 0) (ns := 0) (nc1 := 1) (ns1 := 12) (kb_aload (j := 0) rfl dX3_init_145) KX_c21_River_146
set_option maxRecDepth 20000 in
theorem KX_c21_River_142 : fk_B RX3 cX3_init 1 2 [(0, 105)] KX236 KXz32 [(121, 0), (105, 0)] 142 KX239 KXz32 [] 153 1 12 := fk_seq (nc := 0) (ns := 0) (nc1 := 1) (ns1 := 12) (kb_putR kp_RX3_56 kl_KX236_103 rfl dX3_init_142) KX_c21_River_145
set_option maxRecDepth 20000 in
theorem KX_c21_River_140 : fk_B RX3 cX3_init 1 2 [(0, 105)] KX235 KXz32 [(0, 12), (105, 0)] 140 KX239 KXz32 [] 153 2 24 := fk_seq (nc := 1) (ns := 12) (nc1 := 1) (ns1 := 12) (kb_arr (by decide +kernel) (by decide) rfl wk_ar_int (by decide +kernel) (by decide +kernel) (by decide) dX3_init_140) KX_c21_River_142
set_option maxRecDepth 20000 in
theorem KX_c21_River_138 : fk_B RX3 cX3_init 1 2 [(0, 105)] KX235 KXz32 [(105, 0)] 138 KX239 KXz32 [] 153 2 24 := fk_seq (nc := 0) (ns := 0) (nc1 := 2) (ns1 := 24) (kb_bipush dX3_init_138) KX_c21_River_140
set_option maxRecDepth 20000 in
theorem KX_c21_River_137 : fk_B RX3 cX3_init 1 2 [(0, 105)] KX235 KXz32 [] 137 KX239 KXz32 [] 153 2 24 := fk_seq (nc := 0) (ns := 0) (nc1 := 2) (ns1 := 24) (kb_aload (j := 0) rfl dX3_init_137) KX_c21_River_138
set_option maxRecDepth 20000 in
theorem KX_c21_River_134 : fk_B RX3 cX3_init 1 2 [(0, 105)] KX234 KXz32 [(120, 0), (105, 0)] 134 KX239 KXz32 [] 153 2 24 := fk_seq (nc := 0) (ns := 0) (nc1 := 2) (ns1 := 24) (kb_putR kp_RX3_53 kl_KX234_103 rfl dX3_init_134) KX_c21_River_137
set_option maxRecDepth 20000 in
theorem KX_c21_River_132 : fk_B RX3 cX3_init 1 2 [(0, 105)] KX233 KXz32 [(0, 12), (105, 0)] 132 KX239 KXz32 [] 153 3 36 := fk_seq (nc := 1) (ns := 12) (nc1 := 2) (ns1 := 24) (kb_arr (by decide +kernel) (by decide) rfl wk_ar_int (by decide +kernel) (by decide +kernel) (by decide) dX3_init_132) KX_c21_River_134
set_option maxRecDepth 20000 in
theorem KX_c21_River_130 : fk_B RX3 cX3_init 1 2 [(0, 105)] KX233 KXz32 [(105, 0)] 130 KX239 KXz32 [] 153 3 36 := fk_seq (nc := 0) (ns := 0) (nc1 := 3) (ns1 := 36) (kb_bipush dX3_init_130) KX_c21_River_132
set_option maxRecDepth 20000 in
theorem KX_c21_River_129 : fk_B RX3 cX3_init 1 2 [(0, 105)] KX233 KXz32 [] 129 KX239 KXz32 [] 153 3 36 := fk_seq (nc := 0) (ns := 0) (nc1 := 3) (ns1 := 36) (kb_aload (j := 0) rfl dX3_init_129) KX_c21_River_130
set_option maxRecDepth 20000 in
theorem KX_c21_River_126 : fk_B RX3 cX3_init 1 2 [(0, 105)] KX233 KXz31 [(0, (-1)), (105, 0)] 126 KX239 KXz32 [] 153 3 36 := fk_seq (nc := 0) (ns := 0) (nc1 := 3) (ns1 := 36) (kb_putI fp_RX3_49 kl_KX233_103 rfl dX3_init_126) KX_c21_River_129
set_option maxRecDepth 20000 in
theorem KX_c21_River_125 : fk_B RX3 cX3_init 1 2 [(0, 105)] KX233 KXz31 [(105, 0)] 125 KX239 KXz32 [] 153 3 36 := fk_seq (nc := 0) (ns := 0) (nc1 := 3) (ns1 := 36) (kb_iconst dX3_init_125) KX_c21_River_126
set_option maxRecDepth 20000 in
theorem KX_c21_River_124 : fk_B RX3 cX3_init 1 2 [(0, 105)] KX233 KXz31 [] 124 KX239 KXz32 [] 153 3 36 := fk_seq (nc := 0) (ns := 0) (nc1 := 3) (ns1 := 36) (kb_aload (j := 0) rfl dX3_init_124) KX_c21_River_125
set_option maxRecDepth 20000 in
theorem KX_c21_River_121 : fk_B RX3 cX3_init 1 2 [(0, 105)] KX232 KXz31 [(119, 0), (105, 0)] 121 KX239 KXz32 [] 153 3 36 := fk_seq (nc := 0) (ns := 0) (nc1 := 3) (ns1 := 36) (kb_putR kp_RX3_46 kl_KX232_103 rfl dX3_init_121) KX_c21_River_124
set_option maxRecDepth 20000 in
theorem KX_c21_River_120 : fk_B RX3 cX3_init 1 2 [(0, 105)] KX232 KXz30 [(0, (-1)), (0, 6), (119, 0), (119, 0), (105, 0)] 120 KX239 KXz32 [] 153 3 36 := fk_seq (nc := 0) (ns := 0) (nc1 := 3) (ns1 := 36) (kb_iast kl_KX232_117 (by decide +kernel) dX3_init_120) KX_c21_River_121
set_option maxRecDepth 20000 in
theorem KX_c21_River_119 : fk_B RX3 cX3_init 1 2 [(0, 105)] KX232 KXz30 [(0, 6), (119, 0), (119, 0), (105, 0)] 119 KX239 KXz32 [] 153 3 36 := fk_seq (nc := 0) (ns := 0) (nc1 := 3) (ns1 := 36) (kb_iconst dX3_init_119) KX_c21_River_120
set_option maxRecDepth 20000 in
theorem KX_c21_River_117 : fk_B RX3 cX3_init 1 2 [(0, 105)] KX232 KXz30 [(119, 0), (119, 0), (105, 0)] 117 KX239 KXz32 [] 153 3 36 := fk_seq (nc := 0) (ns := 0) (nc1 := 3) (ns1 := 36) (kb_bipush dX3_init_117) KX_c21_River_119
set_option maxRecDepth 20000 in
theorem KX_c21_River_116 : fk_B RX3 cX3_init 1 2 [(0, 105)] KX232 KXz30 [(119, 0), (105, 0)] 116 KX239 KXz32 [] 153 3 36 := fk_seq (nc := 0) (ns := 0) (nc1 := 3) (ns1 := 36) (kb_dup rfl dX3_init_116) KX_c21_River_117
set_option maxRecDepth 20000 in
theorem KX_c21_River_115 : fk_B RX3 cX3_init 1 2 [(0, 105)] KX232 KXz29 [(0, (-1)), (0, 5), (119, 0), (119, 0), (105, 0)] 115 KX239 KXz32 [] 153 3 36 := fk_seq (nc := 0) (ns := 0) (nc1 := 3) (ns1 := 36) (kb_iast kl_KX232_117 (by decide +kernel) dX3_init_115) KX_c21_River_116
set_option maxRecDepth 20000 in
theorem KX_c21_River_114 : fk_B RX3 cX3_init 1 2 [(0, 105)] KX232 KXz29 [(0, 5), (119, 0), (119, 0), (105, 0)] 114 KX239 KXz32 [] 153 3 36 := fk_seq (nc := 0) (ns := 0) (nc1 := 3) (ns1 := 36) (kb_iconst dX3_init_114) KX_c21_River_115
set_option maxRecDepth 20000 in
theorem KX_c21_River_113 : fk_B RX3 cX3_init 1 2 [(0, 105)] KX232 KXz29 [(119, 0), (119, 0), (105, 0)] 113 KX239 KXz32 [] 153 3 36 := fk_seq (nc := 0) (ns := 0) (nc1 := 3) (ns1 := 36) (kb_iconst dX3_init_113) KX_c21_River_114
set_option maxRecDepth 20000 in
theorem KX_c21_River_112 : fk_B RX3 cX3_init 1 2 [(0, 105)] KX232 KXz29 [(119, 0), (105, 0)] 112 KX239 KXz32 [] 153 3 36 := fk_seq (nc := 0) (ns := 0) (nc1 := 3) (ns1 := 36) (kb_dup rfl dX3_init_112) KX_c21_River_113
set_option maxRecDepth 20000 in
theorem KX_c21_River_111 : fk_B RX3 cX3_init 1 2 [(0, 105)] KX232 KXz28 [(0, (-1)), (0, 4), (119, 0), (119, 0), (105, 0)] 111 KX239 KXz32 [] 153 3 36 := fk_seq (nc := 0) (ns := 0) (nc1 := 3) (ns1 := 36) (kb_iast kl_KX232_117 (by decide +kernel) dX3_init_111) KX_c21_River_112
set_option maxRecDepth 20000 in
theorem KX_c21_River_110 : fk_B RX3 cX3_init 1 2 [(0, 105)] KX232 KXz28 [(0, 4), (119, 0), (119, 0), (105, 0)] 110 KX239 KXz32 [] 153 3 36 := fk_seq (nc := 0) (ns := 0) (nc1 := 3) (ns1 := 36) (kb_iconst dX3_init_110) KX_c21_River_111
set_option maxRecDepth 20000 in
theorem KX_c21_River_109 : fk_B RX3 cX3_init 1 2 [(0, 105)] KX232 KXz28 [(119, 0), (119, 0), (105, 0)] 109 KX239 KXz32 [] 153 3 36 := fk_seq (nc := 0) (ns := 0) (nc1 := 3) (ns1 := 36) (kb_iconst dX3_init_109) KX_c21_River_110
set_option maxRecDepth 20000 in
theorem KX_c21_River_108 : fk_B RX3 cX3_init 1 2 [(0, 105)] KX232 KXz28 [(119, 0), (105, 0)] 108 KX239 KXz32 [] 153 3 36 := fk_seq (nc := 0) (ns := 0) (nc1 := 3) (ns1 := 36) (kb_dup rfl dX3_init_108) KX_c21_River_109
set_option maxRecDepth 20000 in
theorem KX_c21_River_107 : fk_B RX3 cX3_init 1 2 [(0, 105)] KX232 KXz27 [(0, (-1)), (0, 3), (119, 0), (119, 0), (105, 0)] 107 KX239 KXz32 [] 153 3 36 := fk_seq (nc := 0) (ns := 0) (nc1 := 3) (ns1 := 36) (kb_iast kl_KX232_117 (by decide +kernel) dX3_init_107) KX_c21_River_108
set_option maxRecDepth 20000 in
theorem KX_c21_River_106 : fk_B RX3 cX3_init 1 2 [(0, 105)] KX232 KXz27 [(0, 3), (119, 0), (119, 0), (105, 0)] 106 KX239 KXz32 [] 153 3 36 := fk_seq (nc := 0) (ns := 0) (nc1 := 3) (ns1 := 36) (kb_iconst dX3_init_106) KX_c21_River_107
set_option maxRecDepth 20000 in
theorem KX_c21_River_105 : fk_B RX3 cX3_init 1 2 [(0, 105)] KX232 KXz27 [(119, 0), (119, 0), (105, 0)] 105 KX239 KXz32 [] 153 3 36 := fk_seq (nc := 0) (ns := 0) (nc1 := 3) (ns1 := 36) (kb_iconst dX3_init_105) KX_c21_River_106
set_option maxRecDepth 20000 in
theorem KX_c21_River_104 : fk_B RX3 cX3_init 1 2 [(0, 105)] KX232 KXz27 [(119, 0), (105, 0)] 104 KX239 KXz32 [] 153 3 36 := fk_seq (nc := 0) (ns := 0) (nc1 := 3) (ns1 := 36) (kb_dup rfl dX3_init_104) KX_c21_River_105
set_option maxRecDepth 20000 in
theorem KX_c21_River_103 : fk_B RX3 cX3_init 1 2 [(0, 105)] KX232 KXz26 [(0, (-1)), (0, 2), (119, 0), (119, 0), (105, 0)] 103 KX239 KXz32 [] 153 3 36 := fk_seq (nc := 0) (ns := 0) (nc1 := 3) (ns1 := 36) (kb_iast kl_KX232_117 (by decide +kernel) dX3_init_103) KX_c21_River_104
set_option maxRecDepth 20000 in
theorem KX_c21_River_102 : fk_B RX3 cX3_init 1 2 [(0, 105)] KX232 KXz26 [(0, 2), (119, 0), (119, 0), (105, 0)] 102 KX239 KXz32 [] 153 3 36 := fk_seq (nc := 0) (ns := 0) (nc1 := 3) (ns1 := 36) (kb_iconst dX3_init_102) KX_c21_River_103
set_option maxRecDepth 20000 in
theorem KX_c21_River_101 : fk_B RX3 cX3_init 1 2 [(0, 105)] KX232 KXz26 [(119, 0), (119, 0), (105, 0)] 101 KX239 KXz32 [] 153 3 36 := fk_seq (nc := 0) (ns := 0) (nc1 := 3) (ns1 := 36) (kb_iconst dX3_init_101) KX_c21_River_102
set_option maxRecDepth 20000 in
theorem KX_c21_River_100 : fk_B RX3 cX3_init 1 2 [(0, 105)] KX232 KXz26 [(119, 0), (105, 0)] 100 KX239 KXz32 [] 153 3 36 := fk_seq (nc := 0) (ns := 0) (nc1 := 3) (ns1 := 36) (kb_dup rfl dX3_init_100) KX_c21_River_101
set_option maxRecDepth 20000 in
theorem KX_c21_River_99 : fk_B RX3 cX3_init 1 2 [(0, 105)] KX232 KXz25 [(0, (-1)), (0, 1), (119, 0), (119, 0), (105, 0)] 99 KX239 KXz32 [] 153 3 36 := fk_seq (nc := 0) (ns := 0) (nc1 := 3) (ns1 := 36) (kb_iast kl_KX232_117 (by decide +kernel) dX3_init_99) KX_c21_River_100
set_option maxRecDepth 20000 in
theorem KX_c21_River_98 : fk_B RX3 cX3_init 1 2 [(0, 105)] KX232 KXz25 [(0, 1), (119, 0), (119, 0), (105, 0)] 98 KX239 KXz32 [] 153 3 36 := fk_seq (nc := 0) (ns := 0) (nc1 := 3) (ns1 := 36) (kb_iconst dX3_init_98) KX_c21_River_99
set_option maxRecDepth 20000 in
theorem KX_c21_River_97 : fk_B RX3 cX3_init 1 2 [(0, 105)] KX232 KXz25 [(119, 0), (119, 0), (105, 0)] 97 KX239 KXz32 [] 153 3 36 := fk_seq (nc := 0) (ns := 0) (nc1 := 3) (ns1 := 36) (kb_iconst dX3_init_97) KX_c21_River_98
set_option maxRecDepth 20000 in
theorem KX_c21_River_96 : fk_B RX3 cX3_init 1 2 [(0, 105)] KX232 KXz25 [(119, 0), (105, 0)] 96 KX239 KXz32 [] 153 3 36 := fk_seq (nc := 0) (ns := 0) (nc1 := 3) (ns1 := 36) (kb_dup rfl dX3_init_96) KX_c21_River_97
set_option maxRecDepth 20000 in
theorem KX_c21_River_95 : fk_B RX3 cX3_init 1 2 [(0, 105)] KX232 KXz24 [(0, (-1)), (0, 0), (119, 0), (119, 0), (105, 0)] 95 KX239 KXz32 [] 153 3 36 := fk_seq (nc := 0) (ns := 0) (nc1 := 3) (ns1 := 36) (kb_iast kl_KX232_117 (by decide +kernel) dX3_init_95) KX_c21_River_96
set_option maxRecDepth 20000 in
theorem KX_c21_River_94 : fk_B RX3 cX3_init 1 2 [(0, 105)] KX232 KXz24 [(0, 0), (119, 0), (119, 0), (105, 0)] 94 KX239 KXz32 [] 153 3 36 := fk_seq (nc := 0) (ns := 0) (nc1 := 3) (ns1 := 36) (kb_iconst dX3_init_94) KX_c21_River_95
set_option maxRecDepth 20000 in
theorem KX_c21_River_93 : fk_B RX3 cX3_init 1 2 [(0, 105)] KX232 KXz24 [(119, 0), (119, 0), (105, 0)] 93 KX239 KXz32 [] 153 3 36 := fk_seq (nc := 0) (ns := 0) (nc1 := 3) (ns1 := 36) (kb_iconst dX3_init_93) KX_c21_River_94
set_option maxRecDepth 20000 in
theorem KX_c21_River_92 : fk_B RX3 cX3_init 1 2 [(0, 105)] KX232 KXz24 [(119, 0), (105, 0)] 92 KX239 KXz32 [] 153 3 36 := fk_seq (nc := 0) (ns := 0) (nc1 := 3) (ns1 := 36) (kb_dup rfl dX3_init_92) KX_c21_River_93
set_option maxRecDepth 20000 in
theorem KX_c21_River_90 : fk_B RX3 cX3_init 1 2 [(0, 105)] KX231 KXz24 [(0, 7), (105, 0)] 90 KX239 KXz32 [] 153 4 43 := fk_seq (nc := 1) (ns := 7) (nc1 := 3) (ns1 := 36) (kb_arr (by decide +kernel) (by decide) rfl wk_ar_int (by decide +kernel) (by decide +kernel) (by decide) dX3_init_90) KX_c21_River_92
set_option maxRecDepth 20000 in
theorem KX_c21_River_88 : fk_B RX3 cX3_init 1 2 [(0, 105)] KX231 KXz24 [(105, 0)] 88 KX239 KXz32 [] 153 4 43 := fk_seq (nc := 0) (ns := 0) (nc1 := 4) (ns1 := 43) (kb_bipush dX3_init_88) KX_c21_River_90
set_option maxRecDepth 20000 in
theorem KX_c21_River_87 : fk_B RX3 cX3_init 1 2 [(0, 105)] KX231 KXz24 [] 87 KX239 KXz32 [] 153 4 43 := fk_seq (nc := 0) (ns := 0) (nc1 := 4) (ns1 := 43) (kb_aload (j := 0) rfl dX3_init_87) KX_c21_River_88
set_option maxRecDepth 20000 in
theorem KX_c21_River_84 : fk_B RX3 cX3_init 1 2 [(0, 105)] KX230 KXz24 [(118, 0), (105, 0)] 84 KX239 KXz32 [] 153 4 43 := fk_seq (nc := 0) (ns := 0) (nc1 := 4) (ns1 := 43) (kb_putR kp_RX3_43 kl_KX230_103 rfl dX3_init_84) KX_c21_River_87
set_option maxRecDepth 20000 in
theorem KX_c21_River_82 : fk_B RX3 cX3_init 1 2 [(0, 105)] KX229 KXz24 [(0, 24), (105, 0)] 82 KX239 KXz32 [] 153 5 67 := fk_seq (nc := 1) (ns := 24) (nc1 := 4) (ns1 := 43) (kb_arr (by decide +kernel) (by decide) rfl wk_ar_int (by decide +kernel) (by decide +kernel) (by decide) dX3_init_82) KX_c21_River_84
set_option maxRecDepth 20000 in
theorem KX_c21_River_80 : fk_B RX3 cX3_init 1 2 [(0, 105)] KX229 KXz24 [(105, 0)] 80 KX239 KXz32 [] 153 5 67 := fk_seq (nc := 0) (ns := 0) (nc1 := 5) (ns1 := 67) (kb_bipush dX3_init_80) KX_c21_River_82
set_option maxRecDepth 20000 in
theorem KX_c21_River_79 : fk_B RX3 cX3_init 1 2 [(0, 105)] KX229 KXz24 [] 79 KX239 KXz32 [] 153 5 67 := fk_seq (nc := 0) (ns := 0) (nc1 := 5) (ns1 := 67) (kb_aload (j := 0) rfl dX3_init_79) KX_c21_River_80
set_option maxRecDepth 20000 in
theorem KX_c21_River_76 : fk_B RX3 cX3_init 1 2 [(0, 105)] KX228 KXz24 [(117, 0), (105, 0)] 76 KX239 KXz32 [] 153 5 67 := fk_seq (nc := 0) (ns := 0) (nc1 := 5) (ns1 := 67) (kb_putR kp_RX3_40 kl_KX228_103 rfl dX3_init_76) KX_c21_River_79
set_option maxRecDepth 20000 in
theorem KX_c21_River_74 : fk_B RX3 cX3_init 1 2 [(0, 105)] KX227 KXz24 [(0, 6), (105, 0)] 74 KX239 KXz32 [] 153 6 73 := fk_seq (nc := 1) (ns := 6) (nc1 := 5) (ns1 := 67) (kb_arr (by decide +kernel) (by decide) rfl wk_ar_int (by decide +kernel) (by decide +kernel) (by decide) dX3_init_74) KX_c21_River_76
set_option maxRecDepth 20000 in
theorem KX_c21_River_72 : fk_B RX3 cX3_init 1 2 [(0, 105)] KX227 KXz24 [(105, 0)] 72 KX239 KXz32 [] 153 6 73 := fk_seq (nc := 0) (ns := 0) (nc1 := 6) (ns1 := 73) (kb_bipush dX3_init_72) KX_c21_River_74
set_option maxRecDepth 20000 in
theorem KX_c21_River_71 : fk_B RX3 cX3_init 1 2 [(0, 105)] KX227 KXz24 [] 71 KX239 KXz32 [] 153 6 73 := fk_seq (nc := 0) (ns := 0) (nc1 := 6) (ns1 := 73) (kb_aload (j := 0) rfl dX3_init_71) KX_c21_River_72
set_option maxRecDepth 20000 in
theorem KX_c21_River_68 : fk_B RX3 cX3_init 1 2 [(0, 105)] KX226 KXz24 [(116, 0), (105, 0)] 68 KX239 KXz32 [] 153 6 73 := fk_seq (nc := 0) (ns := 0) (nc1 := 6) (ns1 := 73) (kb_putR kp_RX3_37 kl_KX226_103 rfl dX3_init_68) KX_c21_River_71
set_option maxRecDepth 20000 in
theorem KX_c21_River_66 : fk_B RX3 cX3_init 1 2 [(0, 105)] KX225 KXz24 [(0, 6), (105, 0)] 66 KX239 KXz32 [] 153 7 79 := fk_seq (nc := 1) (ns := 6) (nc1 := 6) (ns1 := 73) (kb_arr (by decide +kernel) (by decide) rfl wk_ar_int (by decide +kernel) (by decide +kernel) (by decide) dX3_init_66) KX_c21_River_68
set_option maxRecDepth 20000 in
theorem KX_c21_River_64 : fk_B RX3 cX3_init 1 2 [(0, 105)] KX225 KXz24 [(105, 0)] 64 KX239 KXz32 [] 153 7 79 := fk_seq (nc := 0) (ns := 0) (nc1 := 7) (ns1 := 79) (kb_bipush dX3_init_64) KX_c21_River_66
set_option maxRecDepth 20000 in
theorem KX_c21_River_63 : fk_B RX3 cX3_init 1 2 [(0, 105)] KX225 KXz24 [] 63 KX239 KXz32 [] 153 7 79 := fk_seq (nc := 0) (ns := 0) (nc1 := 7) (ns1 := 79) (kb_aload (j := 0) rfl dX3_init_63) KX_c21_River_64
set_option maxRecDepth 20000 in
theorem KX_c21_River_60 : fk_B RX3 cX3_init 1 2 [(0, 105)] KX224 KXz24 [(115, 0), (105, 0)] 60 KX239 KXz32 [] 153 7 79 := fk_seq (nc := 0) (ns := 0) (nc1 := 7) (ns1 := 79) (kb_putR kp_RX3_34 kl_KX224_103 rfl dX3_init_60) KX_c21_River_63
set_option maxRecDepth 20000 in
theorem KX_c21_River_58 : fk_B RX3 cX3_init 1 2 [(0, 105)] KX223 KXz24 [(0, 6), (105, 0)] 58 KX239 KXz32 [] 153 8 85 := fk_seq (nc := 1) (ns := 6) (nc1 := 7) (ns1 := 79) (kb_arr (by decide +kernel) (by decide) rfl wk_ar_int (by decide +kernel) (by decide +kernel) (by decide) dX3_init_58) KX_c21_River_60
set_option maxRecDepth 20000 in
theorem KX_c21_River_56 : fk_B RX3 cX3_init 1 2 [(0, 105)] KX223 KXz24 [(105, 0)] 56 KX239 KXz32 [] 153 8 85 := fk_seq (nc := 0) (ns := 0) (nc1 := 8) (ns1 := 85) (kb_bipush dX3_init_56) KX_c21_River_58
set_option maxRecDepth 20000 in
theorem KX_c21_River_55 : fk_B RX3 cX3_init 1 2 [(0, 105)] KX223 KXz24 [] 55 KX239 KXz32 [] 153 8 85 := fk_seq (nc := 0) (ns := 0) (nc1 := 8) (ns1 := 85) (kb_aload (j := 0) rfl dX3_init_55) KX_c21_River_56
set_option maxRecDepth 20000 in
theorem KX_c21_River_52 : fk_B RX3 cX3_init 1 2 [(0, 105)] KX222 KXz24 [(114, 0), (105, 0)] 52 KX239 KXz32 [] 153 8 85 := fk_seq (nc := 0) (ns := 0) (nc1 := 8) (ns1 := 85) (kb_putR kp_RX3_31 kl_KX222_103 rfl dX3_init_52) KX_c21_River_55
set_option maxRecDepth 20000 in
theorem KX_c21_River_50 : fk_B RX3 cX3_init 1 2 [(0, 105)] KX221 KXz24 [(0, 24), (105, 0)] 50 KX239 KXz32 [] 153 9 109 := fk_seq (nc := 1) (ns := 24) (nc1 := 8) (ns1 := 85) (kb_arr (by decide +kernel) (by decide) rfl wk_ar_int (by decide +kernel) (by decide +kernel) (by decide) dX3_init_50) KX_c21_River_52
set_option maxRecDepth 20000 in
theorem KX_c21_River_48 : fk_B RX3 cX3_init 1 2 [(0, 105)] KX221 KXz24 [(105, 0)] 48 KX239 KXz32 [] 153 9 109 := fk_seq (nc := 0) (ns := 0) (nc1 := 9) (ns1 := 109) (kb_bipush dX3_init_48) KX_c21_River_50
set_option maxRecDepth 20000 in
theorem KX_c21_River_47 : fk_B RX3 cX3_init 1 2 [(0, 105)] KX221 KXz24 [] 47 KX239 KXz32 [] 153 9 109 := fk_seq (nc := 0) (ns := 0) (nc1 := 9) (ns1 := 109) (kb_aload (j := 0) rfl dX3_init_47) KX_c21_River_48
set_option maxRecDepth 20000 in
theorem KX_c21_River_44 : fk_B RX3 cX3_init 1 2 [(0, 105)] KX220 KXz24 [(113, 0), (105, 0)] 44 KX239 KXz32 [] 153 9 109 := fk_seq (nc := 0) (ns := 0) (nc1 := 9) (ns1 := 109) (kb_putR kp_RX3_28 kl_KX220_103 rfl dX3_init_44) KX_c21_River_47
set_option maxRecDepth 20000 in
theorem KX_c21_River_42 : fk_B RX3 cX3_init 1 2 [(0, 105)] KX219 KXz24 [(0, 6), (105, 0)] 42 KX239 KXz32 [] 153 10 115 := fk_seq (nc := 1) (ns := 6) (nc1 := 9) (ns1 := 109) (kb_arr (by decide +kernel) (by decide) rfl wk_ar_int (by decide +kernel) (by decide +kernel) (by decide) dX3_init_42) KX_c21_River_44
set_option maxRecDepth 20000 in
theorem KX_c21_River_40 : fk_B RX3 cX3_init 1 2 [(0, 105)] KX219 KXz24 [(105, 0)] 40 KX239 KXz32 [] 153 10 115 := fk_seq (nc := 0) (ns := 0) (nc1 := 10) (ns1 := 115) (kb_bipush dX3_init_40) KX_c21_River_42
set_option maxRecDepth 20000 in
theorem KX_c21_River_39 : fk_B RX3 cX3_init 1 2 [(0, 105)] KX219 KXz24 [] 39 KX239 KXz32 [] 153 10 115 := fk_seq (nc := 0) (ns := 0) (nc1 := 10) (ns1 := 115) (kb_aload (j := 0) rfl dX3_init_39) KX_c21_River_40
set_option maxRecDepth 20000 in
theorem KX_c21_River_36 : fk_B RX3 cX3_init 1 2 [(0, 105)] KX218 KXz24 [(112, 0), (105, 0)] 36 KX239 KXz32 [] 153 10 115 := fk_seq (nc := 0) (ns := 0) (nc1 := 10) (ns1 := 115) (kb_putR kp_RX3_25 kl_KX218_103 rfl dX3_init_36) KX_c21_River_39
set_option maxRecDepth 20000 in
theorem KX_c21_River_34 : fk_B RX3 cX3_init 1 2 [(0, 105)] KX217 KXz24 [(0, 6), (105, 0)] 34 KX239 KXz32 [] 153 11 121 := fk_seq (nc := 1) (ns := 6) (nc1 := 10) (ns1 := 115) (kb_arr (by decide +kernel) (by decide) rfl wk_ar_int (by decide +kernel) (by decide +kernel) (by decide) dX3_init_34) KX_c21_River_36
set_option maxRecDepth 20000 in
theorem KX_c21_River_32 : fk_B RX3 cX3_init 1 2 [(0, 105)] KX217 KXz24 [(105, 0)] 32 KX239 KXz32 [] 153 11 121 := fk_seq (nc := 0) (ns := 0) (nc1 := 11) (ns1 := 121) (kb_bipush dX3_init_32) KX_c21_River_34
set_option maxRecDepth 20000 in
theorem KX_c21_River_31 : fk_B RX3 cX3_init 1 2 [(0, 105)] KX217 KXz24 [] 31 KX239 KXz32 [] 153 11 121 := fk_seq (nc := 0) (ns := 0) (nc1 := 11) (ns1 := 121) (kb_aload (j := 0) rfl dX3_init_31) KX_c21_River_32
set_option maxRecDepth 20000 in
theorem KX_c21_River_28 : fk_B RX3 cX3_init 1 2 [(0, 105)] KX216 KXz24 [(111, 0), (105, 0)] 28 KX239 KXz32 [] 153 11 121 := fk_seq (nc := 0) (ns := 0) (nc1 := 11) (ns1 := 121) (kb_putR kp_RX3_22 kl_KX216_103 rfl dX3_init_28) KX_c21_River_31
set_option maxRecDepth 20000 in
theorem KX_c21_River_26 : fk_B RX3 cX3_init 1 2 [(0, 105)] KX215 KXz24 [(0, 10), (105, 0)] 26 KX239 KXz32 [] 153 12 131 := fk_seq (nc := 1) (ns := 10) (nc1 := 11) (ns1 := 121) (kb_arr (by decide +kernel) (by decide) rfl wk_ar_int (by decide +kernel) (by decide +kernel) (by decide) dX3_init_26) KX_c21_River_28
set_option maxRecDepth 20000 in
theorem KX_c21_River_24 : fk_B RX3 cX3_init 1 2 [(0, 105)] KX215 KXz24 [(105, 0)] 24 KX239 KXz32 [] 153 12 131 := fk_seq (nc := 0) (ns := 0) (nc1 := 12) (ns1 := 131) (kb_bipush dX3_init_24) KX_c21_River_26
set_option maxRecDepth 20000 in
theorem KX_c21_River_23 : fk_B RX3 cX3_init 1 2 [(0, 105)] KX215 KXz24 [] 23 KX239 KXz32 [] 153 12 131 := fk_seq (nc := 0) (ns := 0) (nc1 := 12) (ns1 := 131) (kb_aload (j := 0) rfl dX3_init_23) KX_c21_River_24
set_option maxRecDepth 20000 in
theorem KX_c21_River_20 : fk_B RX3 cX3_init 1 2 [(0, 105)] KX214 KXz24 [(110, 0), (105, 0)] 20 KX239 KXz32 [] 153 12 131 := fk_seq (nc := 0) (ns := 0) (nc1 := 12) (ns1 := 131) (kb_putR kp_RX3_18 kl_KX214_103 rfl dX3_init_20) KX_c21_River_23
set_option maxRecDepth 20000 in
theorem KX_c21_River_18 : fk_B RX3 cX3_init 1 2 [(0, 105)] KX213 KXz24 [(0, 10), (105, 0)] 18 KX239 KXz32 [] 153 13 141 := fk_seq (nc := 1) (ns := 10) (nc1 := 12) (ns1 := 131) (kb_arr (by decide +kernel) (by decide) rfl wk_ar_int (by decide +kernel) (by decide +kernel) (by decide) dX3_init_18) KX_c21_River_20
set_option maxRecDepth 20000 in
theorem KX_c21_River_16 : fk_B RX3 cX3_init 1 2 [(0, 105)] KX213 KXz24 [(105, 0)] 16 KX239 KXz32 [] 153 13 141 := fk_seq (nc := 0) (ns := 0) (nc1 := 13) (ns1 := 141) (kb_bipush dX3_init_16) KX_c21_River_18
set_option maxRecDepth 20000 in
theorem KX_c21_River_15 : fk_B RX3 cX3_init 1 2 [(0, 105)] KX213 KXz24 [] 15 KX239 KXz32 [] 153 13 141 := fk_seq (nc := 0) (ns := 0) (nc1 := 13) (ns1 := 141) (kb_aload (j := 0) rfl dX3_init_15) KX_c21_River_16
set_option maxRecDepth 20000 in
theorem KX_c21_River_12 : fk_B RX3 cX3_init 1 2 [(0, 105)] KX212 KXz24 [(106, 0), (105, 0)] 12 KX239 KXz32 [] 153 13 141 := fk_seq (nc := 0) (ns := 0) (nc1 := 13) (ns1 := 141) (kb_putR kp_RX3_12 kl_KX212_103 rfl dX3_init_12) KX_c21_River_15
set_option maxRecDepth 20000 in
theorem KX_c21_River_9 : fk_B RX3 cX3_init 1 2 [(0, 105)] KX206 KXz24 [(106, 0), (106, 0), (105, 0)] 9 KX239 KXz32 [] 153 16 219 := fk_seq (nc := 3) (ns := 78) (nc1 := 13) (ns1 := 141) (kb_ctor KX_c20_Names kn_RX3_11 (by decide) (by decide) (by decide) dX3_init_9) KX_c21_River_12
set_option maxRecDepth 20000 in
theorem KX_c21_River_8 : fk_B RX3 cX3_init 1 2 [(0, 105)] KX206 KXz24 [(106, 0), (105, 0)] 8 KX239 KXz32 [] 153 16 219 := fk_seq (nc := 0) (ns := 0) (nc1 := 16) (ns1 := 219) (kb_dup rfl dX3_init_8) KX_c21_River_9
set_option maxRecDepth 20000 in
theorem KX_c21_River_5 : fk_B RX3 cX3_init 1 2 [(0, 105)] KX205 KXz24 [(105, 0)] 5 KX239 KXz32 [] 153 17 223 := fk_seq (nc := 1) (ns := 4) (nc1 := 16) (ns1 := 219) (kb_new (by decide +kernel) rfl in_X0 tyX0_ok wk_cl_RX3_9 wk_in_X0 wn_RX0 kbl_X0 (by decide) (by decide) dX3_init_5) KX_c21_River_8
set_option maxRecDepth 20000 in
theorem KX_c21_River_4 : fk_B RX3 cX3_init 1 2 [(0, 105)] KX205 KXz24 [] 4 KX239 KXz32 [] 153 17 223 := fk_seq (nc := 0) (ns := 0) (nc1 := 17) (ns1 := 223) (kb_aload (j := 0) rfl dX3_init_4) KX_c21_River_5
set_option maxRecDepth 20000 in
theorem KX_c21_River_1 : fk_B RX3 cX3_init 1 2 [(0, 105)] KX205 KXz24 [(105, 0)] 1 KX239 KXz32 [] 153 17 223 := fk_seq (nc := 0) (ns := 0) (nc1 := 17) (ns1 := 223) (kb_obj ko_RX3_3 (by decide) dX3_init_1) KX_c21_River_4
set_option maxRecDepth 20000 in
theorem KX_c21_River_0 : fk_B RX3 cX3_init 1 2 [(0, 105)] KX205 KXz24 [] 0 KX239 KXz32 [] 153 17 223 := fk_seq (nc := 0) (ns := 0) (nc1 := 17) (ns1 := 223) (kb_aload (j := 0) rfl dX3_init_0) KX_c21_River_1
theorem KX_c21_River : fk_C yX3_init cX3_init 1 2 103 KX205 KXz24 KX239 KXz32 17 223 := fk_close (by decide +kernel) rfl (by decide) (show fk_B yX3_init.cls cX3_init 1 2 [(0, 105)] KX205 KXz24 [] 0 KX239 KXz32 [] 153 17 223 from KX_c21_River_0) dX3_init_153
theorem kl_KX239_102 : KX239[102]? = some (.inl (4, [(3, 0), (3, 0), (3, 0), (3, 0)])) := by decide +kernel
def KX240 : List CD := KX239.set 102 (.inl (4, ([(3, 0), (3, 0), (3, 0), (3, 0)] : List (Nat × Nat)).set 0 (0, 103)))
def KX241 : List CD := KX240 ++ [.inl (1, [(1, 0), (3, 0), (3, 0), (3, 0)])]
def KX242 : List CD := KX241 ++ [.inr (0, 40)]
theorem kl_KX242_121 : KX242[121]? = some (.inl (1, [(1, 0), (3, 0), (3, 0), (3, 0)])) := by decide +kernel
def KX243 : List CD := KX242.set 121 (.inl (1, ([(1, 0), (3, 0), (3, 0), (3, 0)] : List (Nat × Nat)).set 1 (0, 122)))
def KX244 : List CD := KX243 ++ [.inr (0, 40)]
theorem kl_KX244_121 : KX244[121]? = some (.inl (1, [(1, 0), (0, 122), (3, 0), (3, 0)])) := by decide +kernel
def KX245 : List CD := KX244.set 121 (.inl (1, ([(1, 0), (0, 122), (3, 0), (3, 0)] : List (Nat × Nat)).set 2 (0, 123)))
def KX246 : List CD := KX245 ++ [.inr (0, 40)]
theorem kl_KX246_121 : KX246[121]? = some (.inl (1, [(1, 0), (0, 122), (0, 123), (3, 0)])) := by decide +kernel
def KX247 : List CD := KX246.set 121 (.inl (1, ([(1, 0), (0, 122), (0, 123), (3, 0)] : List (Nat × Nat)).set 3 (0, 124)))
set_option maxRecDepth 20000 in
theorem KX_c22_Order_25 : fk_B RX1 cX1_init 1 1 [(0, 123)] KX246 KXz32 [(126, 0), (123, 0)] 25 KX247 KXz32 [] 28 0 0 := fk_seq (nc := 0) (ns := 0) (nc1 := 0) (ns1 := 0) (kb_putR kp_RX1_18 kl_KX246_121 rfl dX1_init_25) kb_nil
set_option maxRecDepth 20000 in
theorem KX_c22_Order_23 : fk_B RX1 cX1_init 1 1 [(0, 123)] KX245 KXz32 [(0, 40), (123, 0)] 23 KX247 KXz32 [] 28 1 40 := fk_seq (nc := 1) (ns := 40) (nc1 := 0) (ns1 := 0) (kb_arr (by decide +kernel) (by decide) rfl wk_ar_int (by decide +kernel) (by decide +kernel) (by decide) dX1_init_23) KX_c22_Order_25
set_option maxRecDepth 20000 in
theorem KX_c22_Order_21 : fk_B RX1 cX1_init 1 1 [(0, 123)] KX245 KXz32 [(123, 0)] 21 KX247 KXz32 [] 28 1 40 := fk_seq (nc := 0) (ns := 0) (nc1 := 1) (ns1 := 40) (kb_bipush dX1_init_21) KX_c22_Order_23
set_option maxRecDepth 20000 in
theorem KX_c22_Order_20 : fk_B RX1 cX1_init 1 1 [(0, 123)] KX245 KXz32 [] 20 KX247 KXz32 [] 28 1 40 := fk_seq (nc := 0) (ns := 0) (nc1 := 1) (ns1 := 40) (kb_aload (j := 0) rfl dX1_init_20) KX_c22_Order_21
set_option maxRecDepth 20000 in
theorem KX_c22_Order_17 : fk_B RX1 cX1_init 1 1 [(0, 123)] KX244 KXz32 [(125, 0), (123, 0)] 17 KX247 KXz32 [] 28 1 40 := fk_seq (nc := 0) (ns := 0) (nc1 := 1) (ns1 := 40) (kb_putR kp_RX1_15 kl_KX244_121 rfl dX1_init_17) KX_c22_Order_20
set_option maxRecDepth 20000 in
theorem KX_c22_Order_15 : fk_B RX1 cX1_init 1 1 [(0, 123)] KX243 KXz32 [(0, 40), (123, 0)] 15 KX247 KXz32 [] 28 2 80 := fk_seq (nc := 1) (ns := 40) (nc1 := 1) (ns1 := 40) (kb_arr (by decide +kernel) (by decide) rfl wk_ar_int (by decide +kernel) (by decide +kernel) (by decide) dX1_init_15) KX_c22_Order_17
set_option maxRecDepth 20000 in
theorem KX_c22_Order_13 : fk_B RX1 cX1_init 1 1 [(0, 123)] KX243 KXz32 [(123, 0)] 13 KX247 KXz32 [] 28 2 80 := fk_seq (nc := 0) (ns := 0) (nc1 := 2) (ns1 := 80) (kb_bipush dX1_init_13) KX_c22_Order_15
set_option maxRecDepth 20000 in
theorem KX_c22_Order_12 : fk_B RX1 cX1_init 1 1 [(0, 123)] KX243 KXz32 [] 12 KX247 KXz32 [] 28 2 80 := fk_seq (nc := 0) (ns := 0) (nc1 := 2) (ns1 := 80) (kb_aload (j := 0) rfl dX1_init_12) KX_c22_Order_13
set_option maxRecDepth 20000 in
theorem KX_c22_Order_9 : fk_B RX1 cX1_init 1 1 [(0, 123)] KX242 KXz32 [(124, 0), (123, 0)] 9 KX247 KXz32 [] 28 2 80 := fk_seq (nc := 0) (ns := 0) (nc1 := 2) (ns1 := 80) (kb_putR kp_RX1_9 kl_KX242_121 rfl dX1_init_9) KX_c22_Order_12
set_option maxRecDepth 20000 in
theorem KX_c22_Order_7 : fk_B RX1 cX1_init 1 1 [(0, 123)] KX241 KXz32 [(0, 40), (123, 0)] 7 KX247 KXz32 [] 28 3 120 := fk_seq (nc := 1) (ns := 40) (nc1 := 2) (ns1 := 80) (kb_arr (by decide +kernel) (by decide) rfl wk_ar_int (by decide +kernel) (by decide +kernel) (by decide) dX1_init_7) KX_c22_Order_9
set_option maxRecDepth 20000 in
theorem KX_c22_Order_5 : fk_B RX1 cX1_init 1 1 [(0, 123)] KX241 KXz32 [(123, 0)] 5 KX247 KXz32 [] 28 3 120 := fk_seq (nc := 0) (ns := 0) (nc1 := 3) (ns1 := 120) (kb_bipush dX1_init_5) KX_c22_Order_7
set_option maxRecDepth 20000 in
theorem KX_c22_Order_4 : fk_B RX1 cX1_init 1 1 [(0, 123)] KX241 KXz32 [] 4 KX247 KXz32 [] 28 3 120 := fk_seq (nc := 0) (ns := 0) (nc1 := 3) (ns1 := 120) (kb_aload (j := 0) rfl dX1_init_4) KX_c22_Order_5
set_option maxRecDepth 20000 in
theorem KX_c22_Order_1 : fk_B RX1 cX1_init 1 1 [(0, 123)] KX241 KXz32 [(123, 0)] 1 KX247 KXz32 [] 28 3 120 := fk_seq (nc := 0) (ns := 0) (nc1 := 3) (ns1 := 120) (kb_obj ko_RX1_3 (by decide) dX1_init_1) KX_c22_Order_4
set_option maxRecDepth 20000 in
theorem KX_c22_Order_0 : fk_B RX1 cX1_init 1 1 [(0, 123)] KX241 KXz32 [] 0 KX247 KXz32 [] 28 3 120 := fk_seq (nc := 0) (ns := 0) (nc1 := 3) (ns1 := 120) (kb_aload (j := 0) rfl dX1_init_0) KX_c22_Order_1
theorem KX_c22_Order : fk_C yX1_init cX1_init 1 1 121 KX241 KXz32 KX247 KXz32 3 120 := fk_close (by decide +kernel) rfl (by decide) (show fk_B yX1_init.cls cX1_init 1 1 [(0, 123)] KX241 KXz32 [] 0 KX247 KXz32 [] 28 3 120 from KX_c22_Order_0) dX1_init_28
theorem kl_KX247_102 : KX247[102]? = some (.inl (4, [(0, 103), (3, 0), (3, 0), (3, 0)])) := by decide +kernel
def KX248 : List CD := KX247.set 102 (.inl (4, ([(0, 103), (3, 0), (3, 0), (3, 0)] : List (Nat × Nat)).set 1 (0, 121)))
def KX249 : List CD := KX248 ++ [.inl (6, [(1, 0), (3, 0), (3, 0), (3, 0)])]
def KX250 : List CD := KX249 ++ [.inr (0, 20)]
theorem kl_KX250_125 : KX250[125]? = some (.inl (6, [(1, 0), (3, 0), (3, 0), (3, 0)])) := by decide +kernel
def KX251 : List CD := KX250.set 125 (.inl (6, ([(1, 0), (3, 0), (3, 0), (3, 0)] : List (Nat × Nat)).set 1 (0, 126)))
def KX252 : List CD := KX251 ++ [.inr (0, 20)]
theorem kl_KX252_125 : KX252[125]? = some (.inl (6, [(1, 0), (0, 126), (3, 0), (3, 0)])) := by decide +kernel
def KX253 : List CD := KX252.set 125 (.inl (6, ([(1, 0), (0, 126), (3, 0), (3, 0)] : List (Nat × Nat)).set 2 (0, 127)))
def KX254 : List CD := KX253 ++ [.inr (0, 20)]
theorem kl_KX254_125 : KX254[125]? = some (.inl (6, [(1, 0), (0, 126), (0, 127), (3, 0)])) := by decide +kernel
def KX255 : List CD := KX254.set 125 (.inl (6, ([(1, 0), (0, 126), (0, 127), (3, 0)] : List (Nat × Nat)).set 3 (0, 128)))
set_option maxRecDepth 20000 in
theorem KX_c23_Sights_25 : fk_B RX8 cX8_init 1 1 [(0, 127)] KX254 KXz32 [(130, 0), (127, 0)] 25 KX255 KXz32 [] 28 0 0 := fk_seq (nc := 0) (ns := 0) (nc1 := 0) (ns1 := 0) (kb_putR kp_RX8_18 kl_KX254_125 rfl dX8_init_25) kb_nil
set_option maxRecDepth 20000 in
theorem KX_c23_Sights_23 : fk_B RX8 cX8_init 1 1 [(0, 127)] KX253 KXz32 [(0, 20), (127, 0)] 23 KX255 KXz32 [] 28 1 20 := fk_seq (nc := 1) (ns := 20) (nc1 := 0) (ns1 := 0) (kb_arr (by decide +kernel) (by decide) rfl wk_ar_int (by decide +kernel) (by decide +kernel) (by decide) dX8_init_23) KX_c23_Sights_25
set_option maxRecDepth 20000 in
theorem KX_c23_Sights_21 : fk_B RX8 cX8_init 1 1 [(0, 127)] KX253 KXz32 [(127, 0)] 21 KX255 KXz32 [] 28 1 20 := fk_seq (nc := 0) (ns := 0) (nc1 := 1) (ns1 := 20) (kb_bipush dX8_init_21) KX_c23_Sights_23
set_option maxRecDepth 20000 in
theorem KX_c23_Sights_20 : fk_B RX8 cX8_init 1 1 [(0, 127)] KX253 KXz32 [] 20 KX255 KXz32 [] 28 1 20 := fk_seq (nc := 0) (ns := 0) (nc1 := 1) (ns1 := 20) (kb_aload (j := 0) rfl dX8_init_20) KX_c23_Sights_21
set_option maxRecDepth 20000 in
theorem KX_c23_Sights_17 : fk_B RX8 cX8_init 1 1 [(0, 127)] KX252 KXz32 [(129, 0), (127, 0)] 17 KX255 KXz32 [] 28 1 20 := fk_seq (nc := 0) (ns := 0) (nc1 := 1) (ns1 := 20) (kb_putR kp_RX8_15 kl_KX252_125 rfl dX8_init_17) KX_c23_Sights_20
set_option maxRecDepth 20000 in
theorem KX_c23_Sights_15 : fk_B RX8 cX8_init 1 1 [(0, 127)] KX251 KXz32 [(0, 20), (127, 0)] 15 KX255 KXz32 [] 28 2 40 := fk_seq (nc := 1) (ns := 20) (nc1 := 1) (ns1 := 20) (kb_arr (by decide +kernel) (by decide) rfl wk_ar_int (by decide +kernel) (by decide +kernel) (by decide) dX8_init_15) KX_c23_Sights_17
set_option maxRecDepth 20000 in
theorem KX_c23_Sights_13 : fk_B RX8 cX8_init 1 1 [(0, 127)] KX251 KXz32 [(127, 0)] 13 KX255 KXz32 [] 28 2 40 := fk_seq (nc := 0) (ns := 0) (nc1 := 2) (ns1 := 40) (kb_bipush dX8_init_13) KX_c23_Sights_15
set_option maxRecDepth 20000 in
theorem KX_c23_Sights_12 : fk_B RX8 cX8_init 1 1 [(0, 127)] KX251 KXz32 [] 12 KX255 KXz32 [] 28 2 40 := fk_seq (nc := 0) (ns := 0) (nc1 := 2) (ns1 := 40) (kb_aload (j := 0) rfl dX8_init_12) KX_c23_Sights_13
set_option maxRecDepth 20000 in
theorem KX_c23_Sights_9 : fk_B RX8 cX8_init 1 1 [(0, 127)] KX250 KXz32 [(128, 0), (127, 0)] 9 KX255 KXz32 [] 28 2 40 := fk_seq (nc := 0) (ns := 0) (nc1 := 2) (ns1 := 40) (kb_putR kp_RX8_9 kl_KX250_125 rfl dX8_init_9) KX_c23_Sights_12
set_option maxRecDepth 20000 in
theorem KX_c23_Sights_7 : fk_B RX8 cX8_init 1 1 [(0, 127)] KX249 KXz32 [(0, 20), (127, 0)] 7 KX255 KXz32 [] 28 3 60 := fk_seq (nc := 1) (ns := 20) (nc1 := 2) (ns1 := 40) (kb_arr (by decide +kernel) (by decide) rfl wk_ar_int (by decide +kernel) (by decide +kernel) (by decide) dX8_init_7) KX_c23_Sights_9
set_option maxRecDepth 20000 in
theorem KX_c23_Sights_5 : fk_B RX8 cX8_init 1 1 [(0, 127)] KX249 KXz32 [(127, 0)] 5 KX255 KXz32 [] 28 3 60 := fk_seq (nc := 0) (ns := 0) (nc1 := 3) (ns1 := 60) (kb_bipush dX8_init_5) KX_c23_Sights_7
set_option maxRecDepth 20000 in
theorem KX_c23_Sights_4 : fk_B RX8 cX8_init 1 1 [(0, 127)] KX249 KXz32 [] 4 KX255 KXz32 [] 28 3 60 := fk_seq (nc := 0) (ns := 0) (nc1 := 3) (ns1 := 60) (kb_aload (j := 0) rfl dX8_init_4) KX_c23_Sights_5
set_option maxRecDepth 20000 in
theorem KX_c23_Sights_1 : fk_B RX8 cX8_init 1 1 [(0, 127)] KX249 KXz32 [(127, 0)] 1 KX255 KXz32 [] 28 3 60 := fk_seq (nc := 0) (ns := 0) (nc1 := 3) (ns1 := 60) (kb_obj ko_RX8_3 (by decide) dX8_init_1) KX_c23_Sights_4
set_option maxRecDepth 20000 in
theorem KX_c23_Sights_0 : fk_B RX8 cX8_init 1 1 [(0, 127)] KX249 KXz32 [] 0 KX255 KXz32 [] 28 3 60 := fk_seq (nc := 0) (ns := 0) (nc1 := 3) (ns1 := 60) (kb_aload (j := 0) rfl dX8_init_0) KX_c23_Sights_1
theorem KX_c23_Sights : fk_C yX8_init cX8_init 1 1 125 KX249 KXz32 KX255 KXz32 3 60 := fk_close (by decide +kernel) rfl (by decide) (show fk_B yX8_init.cls cX8_init 1 1 [(0, 127)] KX249 KXz32 [] 0 KX255 KXz32 [] 28 3 60 from KX_c23_Sights_0) dX8_init_28
theorem kl_KX255_102 : KX255[102]? = some (.inl (4, [(0, 103), (0, 121), (3, 0), (3, 0)])) := by decide +kernel
def KX256 : List CD := KX255.set 102 (.inl (4, ([(0, 103), (0, 121), (3, 0), (3, 0)] : List (Nat × Nat)).set 2 (0, 125)))
def KX257 : List CD := KX256 ++ [.inl (5, [(1, 0), (1, 0), (3, 0), (3, 0), (3, 0), (3, 0), (3, 0)])]
def KX258 : List CD := KX257 ++ [.inr (0, 40)]
theorem kl_KX258_129 : KX258[129]? = some (.inl (5, [(1, 0), (1, 0), (3, 0), (3, 0), (3, 0), (3, 0), (3, 0)])) := by decide +kernel
def KX259 : List CD := KX258.set 129 (.inl (5, ([(1, 0), (1, 0), (3, 0), (3, 0), (3, 0), (3, 0), (3, 0)] : List (Nat × Nat)).set 2 (0, 130)))
def KX260 : List CD := KX259 ++ [.inr (0, 40)]
theorem kl_KX260_129 : KX260[129]? = some (.inl (5, [(1, 0), (1, 0), (0, 130), (3, 0), (3, 0), (3, 0), (3, 0)])) := by decide +kernel
def KX261 : List CD := KX260.set 129 (.inl (5, ([(1, 0), (1, 0), (0, 130), (3, 0), (3, 0), (3, 0), (3, 0)] : List (Nat × Nat)).set 3 (0, 131)))
def KX262 : List CD := KX261 ++ [.inr (0, 40)]
theorem kl_KX262_129 : KX262[129]? = some (.inl (5, [(1, 0), (1, 0), (0, 130), (0, 131), (3, 0), (3, 0), (3, 0)])) := by decide +kernel
def KX263 : List CD := KX262.set 129 (.inl (5, ([(1, 0), (1, 0), (0, 130), (0, 131), (3, 0), (3, 0), (3, 0)] : List (Nat × Nat)).set 4 (0, 132)))
def KX264 : List CD := KX263 ++ [.inr (0, 40)]
theorem kl_KX264_129 : KX264[129]? = some (.inl (5, [(1, 0), (1, 0), (0, 130), (0, 131), (0, 132), (3, 0), (3, 0)])) := by decide +kernel
def KX265 : List CD := KX264.set 129 (.inl (5, ([(1, 0), (1, 0), (0, 130), (0, 131), (0, 132), (3, 0), (3, 0)] : List (Nat × Nat)).set 5 (0, 133)))
def KX266 : List CD := KX265 ++ [.inr (0, 40)]
theorem kl_KX266_129 : KX266[129]? = some (.inl (5, [(1, 0), (1, 0), (0, 130), (0, 131), (0, 132), (0, 133), (3, 0)])) := by decide +kernel
def KX267 : List CD := KX266.set 129 (.inl (5, ([(1, 0), (1, 0), (0, 130), (0, 131), (0, 132), (0, 133), (3, 0)] : List (Nat × Nat)).set 6 (0, 134)))
set_option maxRecDepth 20000 in
theorem KX_c24_Sentence_41 : fk_B RX6 cX6_init 1 1 [(0, 131)] KX266 KXz32 [(136, 0), (131, 0)] 41 KX267 KXz32 [] 44 0 0 := fk_seq (nc := 0) (ns := 0) (nc1 := 0) (ns1 := 0) (kb_putR kp_RX6_24 kl_KX266_129 rfl dX6_init_41) kb_nil
set_option maxRecDepth 20000 in
theorem KX_c24_Sentence_39 : fk_B RX6 cX6_init 1 1 [(0, 131)] KX265 KXz32 [(0, 40), (131, 0)] 39 KX267 KXz32 [] 44 1 40 := fk_seq (nc := 1) (ns := 40) (nc1 := 0) (ns1 := 0) (kb_arr (by decide +kernel) (by decide) rfl wk_ar_int (by decide +kernel) (by decide +kernel) (by decide) dX6_init_39) KX_c24_Sentence_41
set_option maxRecDepth 20000 in
theorem KX_c24_Sentence_37 : fk_B RX6 cX6_init 1 1 [(0, 131)] KX265 KXz32 [(131, 0)] 37 KX267 KXz32 [] 44 1 40 := fk_seq (nc := 0) (ns := 0) (nc1 := 1) (ns1 := 40) (kb_bipush dX6_init_37) KX_c24_Sentence_39
set_option maxRecDepth 20000 in
theorem KX_c24_Sentence_36 : fk_B RX6 cX6_init 1 1 [(0, 131)] KX265 KXz32 [] 36 KX267 KXz32 [] 44 1 40 := fk_seq (nc := 0) (ns := 0) (nc1 := 1) (ns1 := 40) (kb_aload (j := 0) rfl dX6_init_36) KX_c24_Sentence_37
set_option maxRecDepth 20000 in
theorem KX_c24_Sentence_33 : fk_B RX6 cX6_init 1 1 [(0, 131)] KX264 KXz32 [(135, 0), (131, 0)] 33 KX267 KXz32 [] 44 1 40 := fk_seq (nc := 0) (ns := 0) (nc1 := 1) (ns1 := 40) (kb_putR kp_RX6_21 kl_KX264_129 rfl dX6_init_33) KX_c24_Sentence_36
set_option maxRecDepth 20000 in
theorem KX_c24_Sentence_31 : fk_B RX6 cX6_init 1 1 [(0, 131)] KX263 KXz32 [(0, 40), (131, 0)] 31 KX267 KXz32 [] 44 2 80 := fk_seq (nc := 1) (ns := 40) (nc1 := 1) (ns1 := 40) (kb_arr (by decide +kernel) (by decide) rfl wk_ar_int (by decide +kernel) (by decide +kernel) (by decide) dX6_init_31) KX_c24_Sentence_33
set_option maxRecDepth 20000 in
theorem KX_c24_Sentence_29 : fk_B RX6 cX6_init 1 1 [(0, 131)] KX263 KXz32 [(131, 0)] 29 KX267 KXz32 [] 44 2 80 := fk_seq (nc := 0) (ns := 0) (nc1 := 2) (ns1 := 80) (kb_bipush dX6_init_29) KX_c24_Sentence_31
set_option maxRecDepth 20000 in
theorem KX_c24_Sentence_28 : fk_B RX6 cX6_init 1 1 [(0, 131)] KX263 KXz32 [] 28 KX267 KXz32 [] 44 2 80 := fk_seq (nc := 0) (ns := 0) (nc1 := 2) (ns1 := 80) (kb_aload (j := 0) rfl dX6_init_28) KX_c24_Sentence_29
set_option maxRecDepth 20000 in
theorem KX_c24_Sentence_25 : fk_B RX6 cX6_init 1 1 [(0, 131)] KX262 KXz32 [(134, 0), (131, 0)] 25 KX267 KXz32 [] 44 2 80 := fk_seq (nc := 0) (ns := 0) (nc1 := 2) (ns1 := 80) (kb_putR kp_RX6_18 kl_KX262_129 rfl dX6_init_25) KX_c24_Sentence_28
set_option maxRecDepth 20000 in
theorem KX_c24_Sentence_23 : fk_B RX6 cX6_init 1 1 [(0, 131)] KX261 KXz32 [(0, 40), (131, 0)] 23 KX267 KXz32 [] 44 3 120 := fk_seq (nc := 1) (ns := 40) (nc1 := 2) (ns1 := 80) (kb_arr (by decide +kernel) (by decide) rfl wk_ar_int (by decide +kernel) (by decide +kernel) (by decide) dX6_init_23) KX_c24_Sentence_25
set_option maxRecDepth 20000 in
theorem KX_c24_Sentence_21 : fk_B RX6 cX6_init 1 1 [(0, 131)] KX261 KXz32 [(131, 0)] 21 KX267 KXz32 [] 44 3 120 := fk_seq (nc := 0) (ns := 0) (nc1 := 3) (ns1 := 120) (kb_bipush dX6_init_21) KX_c24_Sentence_23
set_option maxRecDepth 20000 in
theorem KX_c24_Sentence_20 : fk_B RX6 cX6_init 1 1 [(0, 131)] KX261 KXz32 [] 20 KX267 KXz32 [] 44 3 120 := fk_seq (nc := 0) (ns := 0) (nc1 := 3) (ns1 := 120) (kb_aload (j := 0) rfl dX6_init_20) KX_c24_Sentence_21
set_option maxRecDepth 20000 in
theorem KX_c24_Sentence_17 : fk_B RX6 cX6_init 1 1 [(0, 131)] KX260 KXz32 [(133, 0), (131, 0)] 17 KX267 KXz32 [] 44 3 120 := fk_seq (nc := 0) (ns := 0) (nc1 := 3) (ns1 := 120) (kb_putR kp_RX6_15 kl_KX260_129 rfl dX6_init_17) KX_c24_Sentence_20
set_option maxRecDepth 20000 in
theorem KX_c24_Sentence_15 : fk_B RX6 cX6_init 1 1 [(0, 131)] KX259 KXz32 [(0, 40), (131, 0)] 15 KX267 KXz32 [] 44 4 160 := fk_seq (nc := 1) (ns := 40) (nc1 := 3) (ns1 := 120) (kb_arr (by decide +kernel) (by decide) rfl wk_ar_int (by decide +kernel) (by decide +kernel) (by decide) dX6_init_15) KX_c24_Sentence_17
set_option maxRecDepth 20000 in
theorem KX_c24_Sentence_13 : fk_B RX6 cX6_init 1 1 [(0, 131)] KX259 KXz32 [(131, 0)] 13 KX267 KXz32 [] 44 4 160 := fk_seq (nc := 0) (ns := 0) (nc1 := 4) (ns1 := 160) (kb_bipush dX6_init_13) KX_c24_Sentence_15
set_option maxRecDepth 20000 in
theorem KX_c24_Sentence_12 : fk_B RX6 cX6_init 1 1 [(0, 131)] KX259 KXz32 [] 12 KX267 KXz32 [] 44 4 160 := fk_seq (nc := 0) (ns := 0) (nc1 := 4) (ns1 := 160) (kb_aload (j := 0) rfl dX6_init_12) KX_c24_Sentence_13
set_option maxRecDepth 20000 in
theorem KX_c24_Sentence_9 : fk_B RX6 cX6_init 1 1 [(0, 131)] KX258 KXz32 [(132, 0), (131, 0)] 9 KX267 KXz32 [] 44 4 160 := fk_seq (nc := 0) (ns := 0) (nc1 := 4) (ns1 := 160) (kb_putR kp_RX6_11 kl_KX258_129 rfl dX6_init_9) KX_c24_Sentence_12
set_option maxRecDepth 20000 in
theorem KX_c24_Sentence_7 : fk_B RX6 cX6_init 1 1 [(0, 131)] KX257 KXz32 [(0, 40), (131, 0)] 7 KX267 KXz32 [] 44 5 200 := fk_seq (nc := 1) (ns := 40) (nc1 := 4) (ns1 := 160) (kb_arr (by decide +kernel) (by decide) rfl wk_ar_int (by decide +kernel) (by decide +kernel) (by decide) dX6_init_7) KX_c24_Sentence_9
set_option maxRecDepth 20000 in
theorem KX_c24_Sentence_5 : fk_B RX6 cX6_init 1 1 [(0, 131)] KX257 KXz32 [(131, 0)] 5 KX267 KXz32 [] 44 5 200 := fk_seq (nc := 0) (ns := 0) (nc1 := 5) (ns1 := 200) (kb_bipush dX6_init_5) KX_c24_Sentence_7
set_option maxRecDepth 20000 in
theorem KX_c24_Sentence_4 : fk_B RX6 cX6_init 1 1 [(0, 131)] KX257 KXz32 [] 4 KX267 KXz32 [] 44 5 200 := fk_seq (nc := 0) (ns := 0) (nc1 := 5) (ns1 := 200) (kb_aload (j := 0) rfl dX6_init_4) KX_c24_Sentence_5
set_option maxRecDepth 20000 in
theorem KX_c24_Sentence_1 : fk_B RX6 cX6_init 1 1 [(0, 131)] KX257 KXz32 [(131, 0)] 1 KX267 KXz32 [] 44 5 200 := fk_seq (nc := 0) (ns := 0) (nc1 := 5) (ns1 := 200) (kb_obj ko_RX6_5 (by decide) dX6_init_1) KX_c24_Sentence_4
set_option maxRecDepth 20000 in
theorem KX_c24_Sentence_0 : fk_B RX6 cX6_init 1 1 [(0, 131)] KX257 KXz32 [] 0 KX267 KXz32 [] 44 5 200 := fk_seq (nc := 0) (ns := 0) (nc1 := 5) (ns1 := 200) (kb_aload (j := 0) rfl dX6_init_0) KX_c24_Sentence_1
theorem KX_c24_Sentence : fk_C yX6_init cX6_init 1 1 129 KX257 KXz32 KX267 KXz32 5 200 := fk_close (by decide +kernel) rfl (by decide) (show fk_B yX6_init.cls cX6_init 1 1 [(0, 131)] KX257 KXz32 [] 0 KX267 KXz32 [] 44 5 200 from KX_c24_Sentence_0) dX6_init_44
theorem kl_KX267_102 : KX267[102]? = some (.inl (4, [(0, 103), (0, 121), (0, 125), (3, 0)])) := by decide +kernel
def KX268 : List CD := KX267.set 102 (.inl (4, ([(0, 103), (0, 121), (0, 125), (3, 0)] : List (Nat × Nat)).set 3 (0, 129)))
set_option maxRecDepth 20000 in
theorem KX_c25_Scene_45 : fk_B RX5 cX5_init 1 3 [(0, 104)] KX267 KXz32 [(131, 0), (104, 0)] 45 KX268 KXz32 [] 48 0 0 := fk_seq (nc := 0) (ns := 0) (nc1 := 0) (ns1 := 0) (kb_putR kp_RX5_33 kl_KX267_102 rfl dX5_init_45) kb_nil
set_option maxRecDepth 20000 in
theorem KX_c25_Scene_42 : fk_B RX5 cX5_init 1 3 [(0, 104)] KX257 KXz32 [(131, 0), (131, 0), (104, 0)] 42 KX268 KXz32 [] 48 5 200 := fk_seq (nc := 5) (ns := 200) (nc1 := 0) (ns1 := 0) (kb_ctor KX_c24_Sentence kn_RX5_32 (by decide) (by decide) (by decide) dX5_init_42) KX_c25_Scene_45
set_option maxRecDepth 20000 in
theorem KX_c25_Scene_41 : fk_B RX5 cX5_init 1 3 [(0, 104)] KX257 KXz32 [(131, 0), (104, 0)] 41 KX268 KXz32 [] 48 5 200 := fk_seq (nc := 0) (ns := 0) (nc1 := 5) (ns1 := 200) (kb_dup rfl dX5_init_41) KX_c25_Scene_42
set_option maxRecDepth 20000 in
theorem KX_c25_Scene_38 : fk_B RX5 cX5_init 1 3 [(0, 104)] KX256 KXz32 [(104, 0)] 38 KX268 KXz32 [] 48 6 207 := fk_seq (nc := 1) (ns := 7) (nc1 := 5) (ns1 := 200) (kb_new (by decide +kernel) rfl in_X6 tyX6_ok wk_cl_RX5_30 wk_in_X6 wn_RX6 kbl_X6 (by decide) (by decide) dX5_init_38) KX_c25_Scene_41
set_option maxRecDepth 20000 in
theorem KX_c25_Scene_37 : fk_B RX5 cX5_init 1 3 [(0, 104)] KX256 KXz32 [] 37 KX268 KXz32 [] 48 6 207 := fk_seq (nc := 0) (ns := 0) (nc1 := 6) (ns1 := 207) (kb_aload (j := 0) rfl dX5_init_37) KX_c25_Scene_38
set_option maxRecDepth 20000 in
theorem KX_c25_Scene_34 : fk_B RX5 cX5_init 1 3 [(0, 104)] KX255 KXz32 [(127, 0), (104, 0)] 34 KX268 KXz32 [] 48 6 207 := fk_seq (nc := 0) (ns := 0) (nc1 := 6) (ns1 := 207) (kb_putR kp_RX5_26 kl_KX255_102 rfl dX5_init_34) KX_c25_Scene_37
set_option maxRecDepth 20000 in
theorem KX_c25_Scene_31 : fk_B RX5 cX5_init 1 3 [(0, 104)] KX249 KXz32 [(127, 0), (127, 0), (104, 0)] 31 KX268 KXz32 [] 48 9 267 := fk_seq (nc := 3) (ns := 60) (nc1 := 6) (ns1 := 207) (kb_ctor KX_c23_Sights kn_RX5_25 (by decide) (by decide) (by decide) dX5_init_31) KX_c25_Scene_34
set_option maxRecDepth 20000 in
theorem KX_c25_Scene_30 : fk_B RX5 cX5_init 1 3 [(0, 104)] KX249 KXz32 [(127, 0), (104, 0)] 30 KX268 KXz32 [] 48 9 267 := fk_seq (nc := 0) (ns := 0) (nc1 := 9) (ns1 := 267) (kb_dup rfl dX5_init_30) KX_c25_Scene_31
set_option maxRecDepth 20000 in
theorem KX_c25_Scene_27 : fk_B RX5 cX5_init 1 3 [(0, 104)] KX248 KXz32 [(104, 0)] 27 KX268 KXz32 [] 48 10 271 := fk_seq (nc := 1) (ns := 4) (nc1 := 9) (ns1 := 267) (kb_new (by decide +kernel) rfl in_X8 tyX8_ok wk_cl_RX5_23 wk_in_X8 wn_RX8 kbl_X8 (by decide) (by decide) dX5_init_27) KX_c25_Scene_30
set_option maxRecDepth 20000 in
theorem KX_c25_Scene_26 : fk_B RX5 cX5_init 1 3 [(0, 104)] KX248 KXz32 [] 26 KX268 KXz32 [] 48 10 271 := fk_seq (nc := 0) (ns := 0) (nc1 := 10) (ns1 := 271) (kb_aload (j := 0) rfl dX5_init_26) KX_c25_Scene_27
set_option maxRecDepth 20000 in
theorem KX_c25_Scene_23 : fk_B RX5 cX5_init 1 3 [(0, 104)] KX247 KXz32 [(123, 0), (104, 0)] 23 KX268 KXz32 [] 48 10 271 := fk_seq (nc := 0) (ns := 0) (nc1 := 10) (ns1 := 271) (kb_putR kp_RX5_19 kl_KX247_102 rfl dX5_init_23) KX_c25_Scene_26
set_option maxRecDepth 20000 in
theorem KX_c25_Scene_20 : fk_B RX5 cX5_init 1 3 [(0, 104)] KX241 KXz32 [(123, 0), (123, 0), (104, 0)] 20 KX268 KXz32 [] 48 13 391 := fk_seq (nc := 3) (ns := 120) (nc1 := 10) (ns1 := 271) (kb_ctor KX_c22_Order kn_RX5_18 (by decide) (by decide) (by decide) dX5_init_20) KX_c25_Scene_23
set_option maxRecDepth 20000 in
theorem KX_c25_Scene_19 : fk_B RX5 cX5_init 1 3 [(0, 104)] KX241 KXz32 [(123, 0), (104, 0)] 19 KX268 KXz32 [] 48 13 391 := fk_seq (nc := 0) (ns := 0) (nc1 := 13) (ns1 := 391) (kb_dup rfl dX5_init_19) KX_c25_Scene_20
set_option maxRecDepth 20000 in
theorem KX_c25_Scene_16 : fk_B RX5 cX5_init 1 3 [(0, 104)] KX240 KXz32 [(104, 0)] 16 KX268 KXz32 [] 48 14 395 := fk_seq (nc := 1) (ns := 4) (nc1 := 13) (ns1 := 391) (kb_new (by decide +kernel) rfl in_X1 tyX1_ok wk_cl_RX5_16 wk_in_X1 wn_RX1 kbl_X1 (by decide) (by decide) dX5_init_16) KX_c25_Scene_19
set_option maxRecDepth 20000 in
theorem KX_c25_Scene_15 : fk_B RX5 cX5_init 1 3 [(0, 104)] KX240 KXz32 [] 15 KX268 KXz32 [] 48 14 395 := fk_seq (nc := 0) (ns := 0) (nc1 := 14) (ns1 := 395) (kb_aload (j := 0) rfl dX5_init_15) KX_c25_Scene_16
set_option maxRecDepth 20000 in
theorem KX_c25_Scene_12 : fk_B RX5 cX5_init 1 3 [(0, 104)] KX239 KXz32 [(105, 0), (104, 0)] 12 KX268 KXz32 [] 48 14 395 := fk_seq (nc := 0) (ns := 0) (nc1 := 14) (ns1 := 395) (kb_putR kp_RX5_10 kl_KX239_102 rfl dX5_init_12) KX_c25_Scene_15
set_option maxRecDepth 20000 in
theorem KX_c25_Scene_9 : fk_B RX5 cX5_init 1 3 [(0, 104)] KX205 KXz24 [(105, 0), (105, 0), (104, 0)] 9 KX268 KXz32 [] 48 31 618 := fk_seq (nc := 17) (ns := 223) (nc1 := 14) (ns1 := 395) (kb_ctor KX_c21_River kn_RX5_9 (by decide) (by decide) (by decide) dX5_init_9) KX_c25_Scene_12
set_option maxRecDepth 20000 in
theorem KX_c25_Scene_8 : fk_B RX5 cX5_init 1 3 [(0, 104)] KX205 KXz24 [(105, 0), (104, 0)] 8 KX268 KXz32 [] 48 31 618 := fk_seq (nc := 0) (ns := 0) (nc1 := 31) (ns1 := 618) (kb_dup rfl dX5_init_8) KX_c25_Scene_9
set_option maxRecDepth 20000 in
theorem KX_c25_Scene_5 : fk_B RX5 cX5_init 1 3 [(0, 104)] KX204 KXz24 [(104, 0)] 5 KX268 KXz32 [] 48 32 638 := fk_seq (nc := 1) (ns := 20) (nc1 := 31) (ns1 := 618) (kb_new (by decide +kernel) rfl in_X3 tyX3_ok wk_cl_RX5_7 wk_in_X3 wn_RX3 kbl_X3 (by decide) (by decide) dX5_init_5) KX_c25_Scene_8
set_option maxRecDepth 20000 in
theorem KX_c25_Scene_4 : fk_B RX5 cX5_init 1 3 [(0, 104)] KX204 KXz24 [] 4 KX268 KXz32 [] 48 32 638 := fk_seq (nc := 0) (ns := 0) (nc1 := 32) (ns1 := 638) (kb_aload (j := 0) rfl dX5_init_4) KX_c25_Scene_5
set_option maxRecDepth 20000 in
theorem KX_c25_Scene_1 : fk_B RX5 cX5_init 1 3 [(0, 104)] KX204 KXz24 [(104, 0)] 1 KX268 KXz32 [] 48 32 638 := fk_seq (nc := 0) (ns := 0) (nc1 := 32) (ns1 := 638) (kb_obj ko_RX5_1 (by decide) dX5_init_1) KX_c25_Scene_4
set_option maxRecDepth 20000 in
theorem KX_c25_Scene_0 : fk_B RX5 cX5_init 1 3 [(0, 104)] KX204 KXz24 [] 0 KX268 KXz32 [] 48 32 638 := fk_seq (nc := 0) (ns := 0) (nc1 := 32) (ns1 := 638) (kb_aload (j := 0) rfl dX5_init_0) KX_c25_Scene_1
theorem KX_c25_Scene : fk_C yX5_init cX5_init 1 3 102 KX204 KXz24 KX268 KXz32 32 638 := fk_close (by decide +kernel) rfl (by decide) (show fk_B yX5_init.cls cX5_init 1 3 [(0, 104)] KX204 KXz24 [] 0 KX268 KXz32 [] 48 32 638 from KX_c25_Scene_0) dX5_init_48
theorem kl_KX268_0 : KX268[0]? = some (.inl (9, [(0, 1), (1, 0), (0, 3), (0, 36), (0, 69), (3, 0), (1, 0), (1, 0), (3, 0), (3, 0), (1, 0), (3, 0), (3, 0), (3, 0), (1, 0), (1, 0), (3, 0)])) := by decide +kernel
def KX269 : List CD := KX268.set 0 (.inl (9, ([(0, 1), (1, 0), (0, 3), (0, 36), (0, 69), (3, 0), (1, 0), (1, 0), (3, 0), (3, 0), (1, 0), (3, 0), (3, 0), (3, 0), (1, 0), (1, 0), (3, 0)] : List (Nat × Nat)).set 5 (0, 102)))
def KX270 : List CD := KX269 ++ [.inl (8, [(3, 0), (3, 0), (3, 0), (3, 0), (3, 0), (3, 0)])]
def KX271 : List CD := KX270 ++ [.inr (0, 10)]
theorem kl_KX271_135 : KX271[135]? = some (.inl (8, [(3, 0), (3, 0), (3, 0), (3, 0), (3, 0), (3, 0)])) := by decide +kernel
def KX272 : List CD := KX271.set 135 (.inl (8, ([(3, 0), (3, 0), (3, 0), (3, 0), (3, 0), (3, 0)] : List (Nat × Nat)).set 0 (0, 136)))
def KX273 : List CD := KX272 ++ [.inr (0, 7)]
theorem kl_KX273_135 : KX273[135]? = some (.inl (8, [(0, 136), (3, 0), (3, 0), (3, 0), (3, 0), (3, 0)])) := by decide +kernel
def KX274 : List CD := KX273.set 135 (.inl (8, ([(0, 136), (3, 0), (3, 0), (3, 0), (3, 0), (3, 0)] : List (Nat × Nat)).set 1 (0, 137)))
def KX275 : List CD := KX274 ++ [.inr (0, 168)]
theorem kl_KX275_135 : KX275[135]? = some (.inl (8, [(0, 136), (0, 137), (3, 0), (3, 0), (3, 0), (3, 0)])) := by decide +kernel
def KX276 : List CD := KX275.set 135 (.inl (8, ([(0, 136), (0, 137), (3, 0), (3, 0), (3, 0), (3, 0)] : List (Nat × Nat)).set 2 (0, 138)))
def KX277 : List CD := KX276 ++ [.inr (0, 40)]
theorem kl_KX277_135 : KX277[135]? = some (.inl (8, [(0, 136), (0, 137), (0, 138), (3, 0), (3, 0), (3, 0)])) := by decide +kernel
def KX278 : List CD := KX277.set 135 (.inl (8, ([(0, 136), (0, 137), (0, 138), (3, 0), (3, 0), (3, 0)] : List (Nat × Nat)).set 3 (0, 139)))
def KX279 : List CD := KX278 ++ [.inr (0, 40)]
theorem kl_KX279_135 : KX279[135]? = some (.inl (8, [(0, 136), (0, 137), (0, 138), (0, 139), (3, 0), (3, 0)])) := by decide +kernel
def KX280 : List CD := KX279.set 135 (.inl (8, ([(0, 136), (0, 137), (0, 138), (0, 139), (3, 0), (3, 0)] : List (Nat × Nat)).set 4 (0, 140)))
def KX281 : List CD := KX280 ++ [.inr (0, 4)]
theorem kl_KX281_135 : KX281[135]? = some (.inl (8, [(0, 136), (0, 137), (0, 138), (0, 139), (0, 140), (3, 0)])) := by decide +kernel
def KX282 : List CD := KX281.set 135 (.inl (8, ([(0, 136), (0, 137), (0, 138), (0, 139), (0, 140), (3, 0)] : List (Nat × Nat)).set 5 (0, 141)))
set_option maxRecDepth 20000 in
theorem KX_c26_Week_49 : fk_B RX10 cX10_init 1 1 [(0, 137)] KX281 KXz32 [(143, 0), (137, 0)] 49 KX282 KXz32 [] 52 0 0 := fk_seq (nc := 0) (ns := 0) (nc1 := 0) (ns1 := 0) (kb_putR kp_RX10_27 kl_KX281_135 rfl dX10_init_49) kb_nil
set_option maxRecDepth 20000 in
theorem KX_c26_Week_47 : fk_B RX10 cX10_init 1 1 [(0, 137)] KX280 KXz32 [(0, 4), (137, 0)] 47 KX282 KXz32 [] 52 1 4 := fk_seq (nc := 1) (ns := 4) (nc1 := 0) (ns1 := 0) (kb_arr (by decide +kernel) (by decide) rfl wk_ar_int (by decide +kernel) (by decide +kernel) (by decide) dX10_init_47) KX_c26_Week_49
set_option maxRecDepth 20000 in
theorem KX_c26_Week_46 : fk_B RX10 cX10_init 1 1 [(0, 137)] KX280 KXz32 [(137, 0)] 46 KX282 KXz32 [] 52 1 4 := fk_seq (nc := 0) (ns := 0) (nc1 := 1) (ns1 := 4) (kb_iconst dX10_init_46) KX_c26_Week_47
set_option maxRecDepth 20000 in
theorem KX_c26_Week_45 : fk_B RX10 cX10_init 1 1 [(0, 137)] KX280 KXz32 [] 45 KX282 KXz32 [] 52 1 4 := fk_seq (nc := 0) (ns := 0) (nc1 := 1) (ns1 := 4) (kb_aload (j := 0) rfl dX10_init_45) KX_c26_Week_46
set_option maxRecDepth 20000 in
theorem KX_c26_Week_42 : fk_B RX10 cX10_init 1 1 [(0, 137)] KX279 KXz32 [(142, 0), (137, 0)] 42 KX282 KXz32 [] 52 1 4 := fk_seq (nc := 0) (ns := 0) (nc1 := 1) (ns1 := 4) (kb_putR kp_RX10_24 kl_KX279_135 rfl dX10_init_42) KX_c26_Week_45
set_option maxRecDepth 20000 in
theorem KX_c26_Week_40 : fk_B RX10 cX10_init 1 1 [(0, 137)] KX278 KXz32 [(0, 40), (137, 0)] 40 KX282 KXz32 [] 52 2 44 := fk_seq (nc := 1) (ns := 40) (nc1 := 1) (ns1 := 4) (kb_arr (by decide +kernel) (by decide) rfl wk_ar_int (by decide +kernel) (by decide +kernel) (by decide) dX10_init_40) KX_c26_Week_42
set_option maxRecDepth 20000 in
theorem KX_c26_Week_38 : fk_B RX10 cX10_init 1 1 [(0, 137)] KX278 KXz32 [(137, 0)] 38 KX282 KXz32 [] 52 2 44 := fk_seq (nc := 0) (ns := 0) (nc1 := 2) (ns1 := 44) (kb_bipush dX10_init_38) KX_c26_Week_40
set_option maxRecDepth 20000 in
theorem KX_c26_Week_37 : fk_B RX10 cX10_init 1 1 [(0, 137)] KX278 KXz32 [] 37 KX282 KXz32 [] 52 2 44 := fk_seq (nc := 0) (ns := 0) (nc1 := 2) (ns1 := 44) (kb_aload (j := 0) rfl dX10_init_37) KX_c26_Week_38
set_option maxRecDepth 20000 in
theorem KX_c26_Week_34 : fk_B RX10 cX10_init 1 1 [(0, 137)] KX277 KXz32 [(141, 0), (137, 0)] 34 KX282 KXz32 [] 52 2 44 := fk_seq (nc := 0) (ns := 0) (nc1 := 2) (ns1 := 44) (kb_putR kp_RX10_21 kl_KX277_135 rfl dX10_init_34) KX_c26_Week_37
set_option maxRecDepth 20000 in
theorem KX_c26_Week_32 : fk_B RX10 cX10_init 1 1 [(0, 137)] KX276 KXz32 [(0, 40), (137, 0)] 32 KX282 KXz32 [] 52 3 84 := fk_seq (nc := 1) (ns := 40) (nc1 := 2) (ns1 := 44) (kb_arr (by decide +kernel) (by decide) rfl wk_ar_int (by decide +kernel) (by decide +kernel) (by decide) dX10_init_32) KX_c26_Week_34
set_option maxRecDepth 20000 in
theorem KX_c26_Week_30 : fk_B RX10 cX10_init 1 1 [(0, 137)] KX276 KXz32 [(137, 0)] 30 KX282 KXz32 [] 52 3 84 := fk_seq (nc := 0) (ns := 0) (nc1 := 3) (ns1 := 84) (kb_bipush dX10_init_30) KX_c26_Week_32
set_option maxRecDepth 20000 in
theorem KX_c26_Week_29 : fk_B RX10 cX10_init 1 1 [(0, 137)] KX276 KXz32 [] 29 KX282 KXz32 [] 52 3 84 := fk_seq (nc := 0) (ns := 0) (nc1 := 3) (ns1 := 84) (kb_aload (j := 0) rfl dX10_init_29) KX_c26_Week_30
set_option maxRecDepth 20000 in
theorem KX_c26_Week_26 : fk_B RX10 cX10_init 1 1 [(0, 137)] KX275 KXz32 [(140, 0), (137, 0)] 26 KX282 KXz32 [] 52 3 84 := fk_seq (nc := 0) (ns := 0) (nc1 := 3) (ns1 := 84) (kb_putR kp_RX10_18 kl_KX275_135 rfl dX10_init_26) KX_c26_Week_29
set_option maxRecDepth 20000 in
theorem KX_c26_Week_24 : fk_B RX10 cX10_init 1 1 [(0, 137)] KX274 KXz32 [(0, 168), (137, 0)] 24 KX282 KXz32 [] 52 4 252 := fk_seq (nc := 1) (ns := 168) (nc1 := 3) (ns1 := 84) (kb_arr (by decide +kernel) (by decide) rfl wk_ar_int (by decide +kernel) (by decide +kernel) (by decide) dX10_init_24) KX_c26_Week_26
set_option maxRecDepth 20000 in
theorem KX_c26_Week_21 : fk_B RX10 cX10_init 1 1 [(0, 137)] KX274 KXz32 [(137, 0)] 21 KX282 KXz32 [] 52 4 252 := fk_seq (nc := 0) (ns := 0) (nc1 := 4) (ns1 := 252) (kb_sipush dX10_init_21) KX_c26_Week_24
set_option maxRecDepth 20000 in
theorem KX_c26_Week_20 : fk_B RX10 cX10_init 1 1 [(0, 137)] KX274 KXz32 [] 20 KX282 KXz32 [] 52 4 252 := fk_seq (nc := 0) (ns := 0) (nc1 := 4) (ns1 := 252) (kb_aload (j := 0) rfl dX10_init_20) KX_c26_Week_21
set_option maxRecDepth 20000 in
theorem KX_c26_Week_17 : fk_B RX10 cX10_init 1 1 [(0, 137)] KX273 KXz32 [(139, 0), (137, 0)] 17 KX282 KXz32 [] 52 4 252 := fk_seq (nc := 0) (ns := 0) (nc1 := 4) (ns1 := 252) (kb_putR kp_RX10_15 kl_KX273_135 rfl dX10_init_17) KX_c26_Week_20
set_option maxRecDepth 20000 in
theorem KX_c26_Week_15 : fk_B RX10 cX10_init 1 1 [(0, 137)] KX272 KXz32 [(0, 7), (137, 0)] 15 KX282 KXz32 [] 52 5 259 := fk_seq (nc := 1) (ns := 7) (nc1 := 4) (ns1 := 252) (kb_arr (by decide +kernel) (by decide) rfl wk_ar_int (by decide +kernel) (by decide +kernel) (by decide) dX10_init_15) KX_c26_Week_17
set_option maxRecDepth 20000 in
theorem KX_c26_Week_13 : fk_B RX10 cX10_init 1 1 [(0, 137)] KX272 KXz32 [(137, 0)] 13 KX282 KXz32 [] 52 5 259 := fk_seq (nc := 0) (ns := 0) (nc1 := 5) (ns1 := 259) (kb_bipush dX10_init_13) KX_c26_Week_15
set_option maxRecDepth 20000 in
theorem KX_c26_Week_12 : fk_B RX10 cX10_init 1 1 [(0, 137)] KX272 KXz32 [] 12 KX282 KXz32 [] 52 5 259 := fk_seq (nc := 0) (ns := 0) (nc1 := 5) (ns1 := 259) (kb_aload (j := 0) rfl dX10_init_12) KX_c26_Week_13
set_option maxRecDepth 20000 in
theorem KX_c26_Week_9 : fk_B RX10 cX10_init 1 1 [(0, 137)] KX271 KXz32 [(138, 0), (137, 0)] 9 KX282 KXz32 [] 52 5 259 := fk_seq (nc := 0) (ns := 0) (nc1 := 5) (ns1 := 259) (kb_putR kp_RX10_9 kl_KX271_135 rfl dX10_init_9) KX_c26_Week_12
set_option maxRecDepth 20000 in
theorem KX_c26_Week_7 : fk_B RX10 cX10_init 1 1 [(0, 137)] KX270 KXz32 [(0, 10), (137, 0)] 7 KX282 KXz32 [] 52 6 269 := fk_seq (nc := 1) (ns := 10) (nc1 := 5) (ns1 := 259) (kb_arr (by decide +kernel) (by decide) rfl wk_ar_int (by decide +kernel) (by decide +kernel) (by decide) dX10_init_7) KX_c26_Week_9
set_option maxRecDepth 20000 in
theorem KX_c26_Week_5 : fk_B RX10 cX10_init 1 1 [(0, 137)] KX270 KXz32 [(137, 0)] 5 KX282 KXz32 [] 52 6 269 := fk_seq (nc := 0) (ns := 0) (nc1 := 6) (ns1 := 269) (kb_bipush dX10_init_5) KX_c26_Week_7
set_option maxRecDepth 20000 in
theorem KX_c26_Week_4 : fk_B RX10 cX10_init 1 1 [(0, 137)] KX270 KXz32 [] 4 KX282 KXz32 [] 52 6 269 := fk_seq (nc := 0) (ns := 0) (nc1 := 6) (ns1 := 269) (kb_aload (j := 0) rfl dX10_init_4) KX_c26_Week_5
set_option maxRecDepth 20000 in
theorem KX_c26_Week_1 : fk_B RX10 cX10_init 1 1 [(0, 137)] KX270 KXz32 [(137, 0)] 1 KX282 KXz32 [] 52 6 269 := fk_seq (nc := 0) (ns := 0) (nc1 := 6) (ns1 := 269) (kb_obj ko_RX10_3 (by decide) dX10_init_1) KX_c26_Week_4
set_option maxRecDepth 20000 in
theorem KX_c26_Week_0 : fk_B RX10 cX10_init 1 1 [(0, 137)] KX270 KXz32 [] 0 KX282 KXz32 [] 52 6 269 := fk_seq (nc := 0) (ns := 0) (nc1 := 6) (ns1 := 269) (kb_aload (j := 0) rfl dX10_init_0) KX_c26_Week_1
theorem KX_c26_Week : fk_C yX10_init cX10_init 1 1 135 KX270 KXz32 KX282 KXz32 6 269 := fk_close (by decide +kernel) rfl (by decide) (show fk_B yX10_init.cls cX10_init 1 1 [(0, 137)] KX270 KXz32 [] 0 KX282 KXz32 [] 52 6 269 from KX_c26_Week_0) dX10_init_52
theorem kl_KX282_0 : KX282[0]? = some (.inl (9, [(0, 1), (1, 0), (0, 3), (0, 36), (0, 69), (0, 102), (1, 0), (1, 0), (3, 0), (3, 0), (1, 0), (3, 0), (3, 0), (3, 0), (1, 0), (1, 0), (3, 0)])) := by decide +kernel
def KX283 : List CD := KX282.set 0 (.inl (9, ([(0, 1), (1, 0), (0, 3), (0, 36), (0, 69), (0, 102), (1, 0), (1, 0), (3, 0), (3, 0), (1, 0), (3, 0), (3, 0), (3, 0), (1, 0), (1, 0), (3, 0)] : List (Nat × Nat)).set 8 (0, 135)))
def KX284 : List CD := KX283 ++ [.inl (2, [(3, 0), (3, 0), (3, 0), (3, 0), (3, 0), (3, 0)])]
def KX285 : List CD := KX284 ++ [.inr (0, 6720)]
theorem kl_KX285_142 : KX285[142]? = some (.inl (2, [(3, 0), (3, 0), (3, 0), (3, 0), (3, 0), (3, 0)])) := by decide +kernel
def KX286 : List CD := KX285.set 142 (.inl (2, ([(3, 0), (3, 0), (3, 0), (3, 0), (3, 0), (3, 0)] : List (Nat × Nat)).set 0 (0, 143)))
def KX287 : List CD := KX286 ++ [.inr (0, 6720)]
theorem kl_KX287_142 : KX287[142]? = some (.inl (2, [(0, 143), (3, 0), (3, 0), (3, 0), (3, 0), (3, 0)])) := by decide +kernel
def KX288 : List CD := KX287.set 142 (.inl (2, ([(0, 143), (3, 0), (3, 0), (3, 0), (3, 0), (3, 0)] : List (Nat × Nat)).set 1 (0, 144)))
def KX289 : List CD := KX288 ++ [.inr (0, 672)]
theorem kl_KX289_142 : KX289[142]? = some (.inl (2, [(0, 143), (0, 144), (3, 0), (3, 0), (3, 0), (3, 0)])) := by decide +kernel
def KX290 : List CD := KX289.set 142 (.inl (2, ([(0, 143), (0, 144), (3, 0), (3, 0), (3, 0), (3, 0)] : List (Nat × Nat)).set 2 (0, 145)))
def KX291 : List CD := KX290 ++ [.inr (0, 168)]
theorem kl_KX291_142 : KX291[142]? = some (.inl (2, [(0, 143), (0, 144), (0, 145), (3, 0), (3, 0), (3, 0)])) := by decide +kernel
def KX292 : List CD := KX291.set 142 (.inl (2, ([(0, 143), (0, 144), (0, 145), (3, 0), (3, 0), (3, 0)] : List (Nat × Nat)).set 3 (0, 146)))
def KX293 : List CD := KX292 ++ [.inr (0, 168)]
theorem kl_KX293_142 : KX293[142]? = some (.inl (2, [(0, 143), (0, 144), (0, 145), (0, 146), (3, 0), (3, 0)])) := by decide +kernel
def KX294 : List CD := KX293.set 142 (.inl (2, ([(0, 143), (0, 144), (0, 145), (0, 146), (3, 0), (3, 0)] : List (Nat × Nat)).set 4 (0, 147)))
def KX295 : List CD := KX294 ++ [.inr (0, 169)]
theorem kl_KX295_142 : KX295[142]? = some (.inl (2, [(0, 143), (0, 144), (0, 145), (0, 146), (0, 147), (3, 0)])) := by decide +kernel
def KX296 : List CD := KX295.set 142 (.inl (2, ([(0, 143), (0, 144), (0, 145), (0, 146), (0, 147), (3, 0)] : List (Nat × Nat)).set 5 (0, 148)))
set_option maxRecDepth 20000 in
theorem KX_c27_Past_55 : fk_B RX2 cX2_init 1 1 [(0, 144)] KX295 KXz32 [(150, 0), (144, 0)] 55 KX296 KXz32 [] 58 0 0 := fk_seq (nc := 0) (ns := 0) (nc1 := 0) (ns1 := 0) (kb_putR kp_RX2_27 kl_KX295_142 rfl dX2_init_55) kb_nil
set_option maxRecDepth 20000 in
theorem KX_c27_Past_53 : fk_B RX2 cX2_init 1 1 [(0, 144)] KX294 KXz32 [(0, 169), (144, 0)] 53 KX296 KXz32 [] 58 1 169 := fk_seq (nc := 1) (ns := 169) (nc1 := 0) (ns1 := 0) (kb_arr (by decide +kernel) (by decide) rfl wk_ar_int (by decide +kernel) (by decide +kernel) (by decide) dX2_init_53) KX_c27_Past_55
set_option maxRecDepth 20000 in
theorem KX_c27_Past_50 : fk_B RX2 cX2_init 1 1 [(0, 144)] KX294 KXz32 [(144, 0)] 50 KX296 KXz32 [] 58 1 169 := fk_seq (nc := 0) (ns := 0) (nc1 := 1) (ns1 := 169) (kb_sipush dX2_init_50) KX_c27_Past_53
set_option maxRecDepth 20000 in
theorem KX_c27_Past_49 : fk_B RX2 cX2_init 1 1 [(0, 144)] KX294 KXz32 [] 49 KX296 KXz32 [] 58 1 169 := fk_seq (nc := 0) (ns := 0) (nc1 := 1) (ns1 := 169) (kb_aload (j := 0) rfl dX2_init_49) KX_c27_Past_50
set_option maxRecDepth 20000 in
theorem KX_c27_Past_46 : fk_B RX2 cX2_init 1 1 [(0, 144)] KX293 KXz32 [(149, 0), (144, 0)] 46 KX296 KXz32 [] 58 1 169 := fk_seq (nc := 0) (ns := 0) (nc1 := 1) (ns1 := 169) (kb_putR kp_RX2_24 kl_KX293_142 rfl dX2_init_46) KX_c27_Past_49
set_option maxRecDepth 20000 in
theorem KX_c27_Past_44 : fk_B RX2 cX2_init 1 1 [(0, 144)] KX292 KXz32 [(0, 168), (144, 0)] 44 KX296 KXz32 [] 58 2 337 := fk_seq (nc := 1) (ns := 168) (nc1 := 1) (ns1 := 169) (kb_arr (by decide +kernel) (by decide) rfl wk_ar_int (by decide +kernel) (by decide +kernel) (by decide) dX2_init_44) KX_c27_Past_46
set_option maxRecDepth 20000 in
theorem KX_c27_Past_41 : fk_B RX2 cX2_init 1 1 [(0, 144)] KX292 KXz32 [(144, 0)] 41 KX296 KXz32 [] 58 2 337 := fk_seq (nc := 0) (ns := 0) (nc1 := 2) (ns1 := 337) (kb_sipush dX2_init_41) KX_c27_Past_44
set_option maxRecDepth 20000 in
theorem KX_c27_Past_40 : fk_B RX2 cX2_init 1 1 [(0, 144)] KX292 KXz32 [] 40 KX296 KXz32 [] 58 2 337 := fk_seq (nc := 0) (ns := 0) (nc1 := 2) (ns1 := 337) (kb_aload (j := 0) rfl dX2_init_40) KX_c27_Past_41
set_option maxRecDepth 20000 in
theorem KX_c27_Past_37 : fk_B RX2 cX2_init 1 1 [(0, 144)] KX291 KXz32 [(148, 0), (144, 0)] 37 KX296 KXz32 [] 58 2 337 := fk_seq (nc := 0) (ns := 0) (nc1 := 2) (ns1 := 337) (kb_putR kp_RX2_21 kl_KX291_142 rfl dX2_init_37) KX_c27_Past_40
set_option maxRecDepth 20000 in
theorem KX_c27_Past_35 : fk_B RX2 cX2_init 1 1 [(0, 144)] KX290 KXz32 [(0, 168), (144, 0)] 35 KX296 KXz32 [] 58 3 505 := fk_seq (nc := 1) (ns := 168) (nc1 := 2) (ns1 := 337) (kb_arr (by decide +kernel) (by decide) rfl wk_ar_int (by decide +kernel) (by decide +kernel) (by decide) dX2_init_35) KX_c27_Past_37
set_option maxRecDepth 20000 in
theorem KX_c27_Past_32 : fk_B RX2 cX2_init 1 1 [(0, 144)] KX290 KXz32 [(144, 0)] 32 KX296 KXz32 [] 58 3 505 := fk_seq (nc := 0) (ns := 0) (nc1 := 3) (ns1 := 505) (kb_sipush dX2_init_32) KX_c27_Past_35
set_option maxRecDepth 20000 in
theorem KX_c27_Past_31 : fk_B RX2 cX2_init 1 1 [(0, 144)] KX290 KXz32 [] 31 KX296 KXz32 [] 58 3 505 := fk_seq (nc := 0) (ns := 0) (nc1 := 3) (ns1 := 505) (kb_aload (j := 0) rfl dX2_init_31) KX_c27_Past_32
set_option maxRecDepth 20000 in
theorem KX_c27_Past_28 : fk_B RX2 cX2_init 1 1 [(0, 144)] KX289 KXz32 [(147, 0), (144, 0)] 28 KX296 KXz32 [] 58 3 505 := fk_seq (nc := 0) (ns := 0) (nc1 := 3) (ns1 := 505) (kb_putR kp_RX2_18 kl_KX289_142 rfl dX2_init_28) KX_c27_Past_31
set_option maxRecDepth 20000 in
theorem KX_c27_Past_26 : fk_B RX2 cX2_init 1 1 [(0, 144)] KX288 KXz32 [(0, 672), (144, 0)] 26 KX296 KXz32 [] 58 4 1177 := fk_seq (nc := 1) (ns := 672) (nc1 := 3) (ns1 := 505) (kb_arr (by decide +kernel) (by decide) rfl wk_ar_int (by decide +kernel) (by decide +kernel) (by decide) dX2_init_26) KX_c27_Past_28
set_option maxRecDepth 20000 in
theorem KX_c27_Past_23 : fk_B RX2 cX2_init 1 1 [(0, 144)] KX288 KXz32 [(144, 0)] 23 KX296 KXz32 [] 58 4 1177 := fk_seq (nc := 0) (ns := 0) (nc1 := 4) (ns1 := 1177) (kb_sipush dX2_init_23) KX_c27_Past_26
set_option maxRecDepth 20000 in
theorem KX_c27_Past_22 : fk_B RX2 cX2_init 1 1 [(0, 144)] KX288 KXz32 [] 22 KX296 KXz32 [] 58 4 1177 := fk_seq (nc := 0) (ns := 0) (nc1 := 4) (ns1 := 1177) (kb_aload (j := 0) rfl dX2_init_22) KX_c27_Past_23
set_option maxRecDepth 20000 in
theorem KX_c27_Past_19 : fk_B RX2 cX2_init 1 1 [(0, 144)] KX287 KXz32 [(146, 0), (144, 0)] 19 KX296 KXz32 [] 58 4 1177 := fk_seq (nc := 0) (ns := 0) (nc1 := 4) (ns1 := 1177) (kb_putR kp_RX2_15 kl_KX287_142 rfl dX2_init_19) KX_c27_Past_22
set_option maxRecDepth 20000 in
theorem KX_c27_Past_17 : fk_B RX2 cX2_init 1 1 [(0, 144)] KX286 KXz32 [(0, 6720), (144, 0)] 17 KX296 KXz32 [] 58 5 7897 := fk_seq (nc := 1) (ns := 6720) (nc1 := 4) (ns1 := 1177) (kb_arr (by decide +kernel) (by decide) rfl wk_ar_int (by decide +kernel) (by decide +kernel) (by decide) dX2_init_17) KX_c27_Past_19
set_option maxRecDepth 20000 in
theorem KX_c27_Past_14 : fk_B RX2 cX2_init 1 1 [(0, 144)] KX286 KXz32 [(144, 0)] 14 KX296 KXz32 [] 58 5 7897 := fk_seq (nc := 0) (ns := 0) (nc1 := 5) (ns1 := 7897) (kb_sipush dX2_init_14) KX_c27_Past_17
set_option maxRecDepth 20000 in
theorem KX_c27_Past_13 : fk_B RX2 cX2_init 1 1 [(0, 144)] KX286 KXz32 [] 13 KX296 KXz32 [] 58 5 7897 := fk_seq (nc := 0) (ns := 0) (nc1 := 5) (ns1 := 7897) (kb_aload (j := 0) rfl dX2_init_13) KX_c27_Past_14
set_option maxRecDepth 20000 in
theorem KX_c27_Past_10 : fk_B RX2 cX2_init 1 1 [(0, 144)] KX285 KXz32 [(145, 0), (144, 0)] 10 KX296 KXz32 [] 58 5 7897 := fk_seq (nc := 0) (ns := 0) (nc1 := 5) (ns1 := 7897) (kb_putR kp_RX2_9 kl_KX285_142 rfl dX2_init_10) KX_c27_Past_13
set_option maxRecDepth 20000 in
theorem KX_c27_Past_8 : fk_B RX2 cX2_init 1 1 [(0, 144)] KX284 KXz32 [(0, 6720), (144, 0)] 8 KX296 KXz32 [] 58 6 14617 := fk_seq (nc := 1) (ns := 6720) (nc1 := 5) (ns1 := 7897) (kb_arr (by decide +kernel) (by decide) rfl wk_ar_int (by decide +kernel) (by decide +kernel) (by decide) dX2_init_8) KX_c27_Past_10
set_option maxRecDepth 20000 in
theorem KX_c27_Past_5 : fk_B RX2 cX2_init 1 1 [(0, 144)] KX284 KXz32 [(144, 0)] 5 KX296 KXz32 [] 58 6 14617 := fk_seq (nc := 0) (ns := 0) (nc1 := 6) (ns1 := 14617) (kb_sipush dX2_init_5) KX_c27_Past_8
set_option maxRecDepth 20000 in
theorem KX_c27_Past_4 : fk_B RX2 cX2_init 1 1 [(0, 144)] KX284 KXz32 [] 4 KX296 KXz32 [] 58 6 14617 := fk_seq (nc := 0) (ns := 0) (nc1 := 6) (ns1 := 14617) (kb_aload (j := 0) rfl dX2_init_4) KX_c27_Past_5
set_option maxRecDepth 20000 in
theorem KX_c27_Past_1 : fk_B RX2 cX2_init 1 1 [(0, 144)] KX284 KXz32 [(144, 0)] 1 KX296 KXz32 [] 58 6 14617 := fk_seq (nc := 0) (ns := 0) (nc1 := 6) (ns1 := 14617) (kb_obj ko_RX2_3 (by decide) dX2_init_1) KX_c27_Past_4
set_option maxRecDepth 20000 in
theorem KX_c27_Past_0 : fk_B RX2 cX2_init 1 1 [(0, 144)] KX284 KXz32 [] 0 KX296 KXz32 [] 58 6 14617 := fk_seq (nc := 0) (ns := 0) (nc1 := 6) (ns1 := 14617) (kb_aload (j := 0) rfl dX2_init_0) KX_c27_Past_1
theorem KX_c27_Past : fk_C yX2_init cX2_init 1 1 142 KX284 KXz32 KX296 KXz32 6 14617 := fk_close (by decide +kernel) rfl (by decide) (show fk_B yX2_init.cls cX2_init 1 1 [(0, 144)] KX284 KXz32 [] 0 KX296 KXz32 [] 58 6 14617 from KX_c27_Past_0) dX2_init_58
theorem kl_KX296_0 : KX296[0]? = some (.inl (9, [(0, 1), (1, 0), (0, 3), (0, 36), (0, 69), (0, 102), (1, 0), (1, 0), (0, 135), (3, 0), (1, 0), (3, 0), (3, 0), (3, 0), (1, 0), (1, 0), (3, 0)])) := by decide +kernel
def KX297 : List CD := KX296.set 0 (.inl (9, ([(0, 1), (1, 0), (0, 3), (0, 36), (0, 69), (0, 102), (1, 0), (1, 0), (0, 135), (3, 0), (1, 0), (3, 0), (3, 0), (3, 0), (1, 0), (1, 0), (3, 0)] : List (Nat × Nat)).set 9 (0, 142)))
theorem kl_KX297_0 : KX297[0]? = some (.inl (9, [(0, 1), (1, 0), (0, 3), (0, 36), (0, 69), (0, 102), (1, 0), (1, 0), (0, 135), (0, 142), (1, 0), (3, 0), (3, 0), (3, 0), (1, 0), (1, 0), (3, 0)])) := by decide +kernel
def KXz33 : Me := u2 KXz32 10 0 1
def KX298 : List CD := KX297 ++ [.inr (0, 4)]
theorem kl_KX298_0 : KX298[0]? = some (.inl (9, [(0, 1), (1, 0), (0, 3), (0, 36), (0, 69), (0, 102), (1, 0), (1, 0), (0, 135), (0, 142), (1, 0), (3, 0), (3, 0), (3, 0), (1, 0), (1, 0), (3, 0)])) := by decide +kernel
def KX299 : List CD := KX298.set 0 (.inl (9, ([(0, 1), (1, 0), (0, 3), (0, 36), (0, 69), (0, 102), (1, 0), (1, 0), (0, 135), (0, 142), (1, 0), (3, 0), (3, 0), (3, 0), (1, 0), (1, 0), (3, 0)] : List (Nat × Nat)).set 11 (0, 149)))
def KX300 : List CD := KX299 ++ [.inr (0, 4)]
theorem kl_KX300_0 : KX300[0]? = some (.inl (9, [(0, 1), (1, 0), (0, 3), (0, 36), (0, 69), (0, 102), (1, 0), (1, 0), (0, 135), (0, 142), (1, 0), (0, 149), (3, 0), (3, 0), (1, 0), (1, 0), (3, 0)])) := by decide +kernel
def KX301 : List CD := KX300.set 0 (.inl (9, ([(0, 1), (1, 0), (0, 3), (0, 36), (0, 69), (0, 102), (1, 0), (1, 0), (0, 135), (0, 142), (1, 0), (0, 149), (3, 0), (3, 0), (1, 0), (1, 0), (3, 0)] : List (Nat × Nat)).set 12 (0, 150)))
def KX302 : List CD := KX301 ++ [.inr (0, 4)]
theorem kl_KX302_0 : KX302[0]? = some (.inl (9, [(0, 1), (1, 0), (0, 3), (0, 36), (0, 69), (0, 102), (1, 0), (1, 0), (0, 135), (0, 142), (1, 0), (0, 149), (0, 150), (3, 0), (1, 0), (1, 0), (3, 0)])) := by decide +kernel
def KX303 : List CD := KX302.set 0 (.inl (9, ([(0, 1), (1, 0), (0, 3), (0, 36), (0, 69), (0, 102), (1, 0), (1, 0), (0, 135), (0, 142), (1, 0), (0, 149), (0, 150), (3, 0), (1, 0), (1, 0), (3, 0)] : List (Nat × Nat)).set 13 (0, 151)))
def KX304 : List CD := KX303 ++ [.inr (0, 3)]
theorem kl_KX304_152 : KX304[152]? = some (.inr (0, 3)) := by decide +kernel
def KXz34 : Me := u2 KXz33 9728 0 (-1)
def KXz35 : Me := u2 KXz34 9728 1 (-1)
def KXz36 : Me := u2 KXz35 9728 2 (-1)
theorem kl_KX304_0 : KX304[0]? = some (.inl (9, [(0, 1), (1, 0), (0, 3), (0, 36), (0, 69), (0, 102), (1, 0), (1, 0), (0, 135), (0, 142), (1, 0), (0, 149), (0, 150), (0, 151), (1, 0), (1, 0), (3, 0)])) := by decide +kernel
def KX305 : List CD := KX304.set 0 (.inl (9, ([(0, 1), (1, 0), (0, 3), (0, 36), (0, 69), (0, 102), (1, 0), (1, 0), (0, 135), (0, 142), (1, 0), (0, 149), (0, 150), (0, 151), (1, 0), (1, 0), (3, 0)] : List (Nat × Nat)).set 16 (0, 152)))
set_option maxRecDepth 20000 in
theorem KX_c28_DyerBells_123 : fk_B RX11 cX11_init 1 4 [(0, 2)] KX304 KXz36 [(154, 0), (2, 0)] 123 KX305 KXz36 [] 126 0 0 := fk_seq (nc := 0) (ns := 0) (nc1 := 0) (ns1 := 0) (kb_putR kp_RX11_60 kl_KX304_0 rfl dX11_init_123) kb_nil
set_option maxRecDepth 20000 in
theorem KX_c28_DyerBells_122 : fk_B RX11 cX11_init 1 4 [(0, 2)] KX304 KXz35 [(0, (-1)), (0, 2), (154, 0), (154, 0), (2, 0)] 122 KX305 KXz36 [] 126 0 0 := fk_seq (nc := 0) (ns := 0) (nc1 := 0) (ns1 := 0) (kb_iast kl_KX304_152 (by decide +kernel) dX11_init_122) KX_c28_DyerBells_123
set_option maxRecDepth 20000 in
theorem KX_c28_DyerBells_121 : fk_B RX11 cX11_init 1 4 [(0, 2)] KX304 KXz35 [(0, 2), (154, 0), (154, 0), (2, 0)] 121 KX305 KXz36 [] 126 0 0 := fk_seq (nc := 0) (ns := 0) (nc1 := 0) (ns1 := 0) (kb_iconst dX11_init_121) KX_c28_DyerBells_122
set_option maxRecDepth 20000 in
theorem KX_c28_DyerBells_120 : fk_B RX11 cX11_init 1 4 [(0, 2)] KX304 KXz35 [(154, 0), (154, 0), (2, 0)] 120 KX305 KXz36 [] 126 0 0 := fk_seq (nc := 0) (ns := 0) (nc1 := 0) (ns1 := 0) (kb_iconst dX11_init_120) KX_c28_DyerBells_121
set_option maxRecDepth 20000 in
theorem KX_c28_DyerBells_119 : fk_B RX11 cX11_init 1 4 [(0, 2)] KX304 KXz35 [(154, 0), (2, 0)] 119 KX305 KXz36 [] 126 0 0 := fk_seq (nc := 0) (ns := 0) (nc1 := 0) (ns1 := 0) (kb_dup rfl dX11_init_119) KX_c28_DyerBells_120
set_option maxRecDepth 20000 in
theorem KX_c28_DyerBells_118 : fk_B RX11 cX11_init 1 4 [(0, 2)] KX304 KXz34 [(0, (-1)), (0, 1), (154, 0), (154, 0), (2, 0)] 118 KX305 KXz36 [] 126 0 0 := fk_seq (nc := 0) (ns := 0) (nc1 := 0) (ns1 := 0) (kb_iast kl_KX304_152 (by decide +kernel) dX11_init_118) KX_c28_DyerBells_119
set_option maxRecDepth 20000 in
theorem KX_c28_DyerBells_117 : fk_B RX11 cX11_init 1 4 [(0, 2)] KX304 KXz34 [(0, 1), (154, 0), (154, 0), (2, 0)] 117 KX305 KXz36 [] 126 0 0 := fk_seq (nc := 0) (ns := 0) (nc1 := 0) (ns1 := 0) (kb_iconst dX11_init_117) KX_c28_DyerBells_118
set_option maxRecDepth 20000 in
theorem KX_c28_DyerBells_116 : fk_B RX11 cX11_init 1 4 [(0, 2)] KX304 KXz34 [(154, 0), (154, 0), (2, 0)] 116 KX305 KXz36 [] 126 0 0 := fk_seq (nc := 0) (ns := 0) (nc1 := 0) (ns1 := 0) (kb_iconst dX11_init_116) KX_c28_DyerBells_117
set_option maxRecDepth 20000 in
theorem KX_c28_DyerBells_115 : fk_B RX11 cX11_init 1 4 [(0, 2)] KX304 KXz34 [(154, 0), (2, 0)] 115 KX305 KXz36 [] 126 0 0 := fk_seq (nc := 0) (ns := 0) (nc1 := 0) (ns1 := 0) (kb_dup rfl dX11_init_115) KX_c28_DyerBells_116
set_option maxRecDepth 20000 in
theorem KX_c28_DyerBells_114 : fk_B RX11 cX11_init 1 4 [(0, 2)] KX304 KXz33 [(0, (-1)), (0, 0), (154, 0), (154, 0), (2, 0)] 114 KX305 KXz36 [] 126 0 0 := fk_seq (nc := 0) (ns := 0) (nc1 := 0) (ns1 := 0) (kb_iast kl_KX304_152 (by decide +kernel) dX11_init_114) KX_c28_DyerBells_115
set_option maxRecDepth 20000 in
theorem KX_c28_DyerBells_113 : fk_B RX11 cX11_init 1 4 [(0, 2)] KX304 KXz33 [(0, 0), (154, 0), (154, 0), (2, 0)] 113 KX305 KXz36 [] 126 0 0 := fk_seq (nc := 0) (ns := 0) (nc1 := 0) (ns1 := 0) (kb_iconst dX11_init_113) KX_c28_DyerBells_114
set_option maxRecDepth 20000 in
theorem KX_c28_DyerBells_112 : fk_B RX11 cX11_init 1 4 [(0, 2)] KX304 KXz33 [(154, 0), (154, 0), (2, 0)] 112 KX305 KXz36 [] 126 0 0 := fk_seq (nc := 0) (ns := 0) (nc1 := 0) (ns1 := 0) (kb_iconst dX11_init_112) KX_c28_DyerBells_113
set_option maxRecDepth 20000 in
theorem KX_c28_DyerBells_111 : fk_B RX11 cX11_init 1 4 [(0, 2)] KX304 KXz33 [(154, 0), (2, 0)] 111 KX305 KXz36 [] 126 0 0 := fk_seq (nc := 0) (ns := 0) (nc1 := 0) (ns1 := 0) (kb_dup rfl dX11_init_111) KX_c28_DyerBells_112
set_option maxRecDepth 20000 in
theorem KX_c28_DyerBells_109 : fk_B RX11 cX11_init 1 4 [(0, 2)] KX303 KXz33 [(0, 3), (2, 0)] 109 KX305 KXz36 [] 126 1 3 := fk_seq (nc := 1) (ns := 3) (nc1 := 0) (ns1 := 0) (kb_arr (by decide +kernel) (by decide) rfl wk_ar_int (by decide +kernel) (by decide +kernel) (by decide) dX11_init_109) KX_c28_DyerBells_111
set_option maxRecDepth 20000 in
theorem KX_c28_DyerBells_108 : fk_B RX11 cX11_init 1 4 [(0, 2)] KX303 KXz33 [(2, 0)] 108 KX305 KXz36 [] 126 1 3 := fk_seq (nc := 0) (ns := 0) (nc1 := 1) (ns1 := 3) (kb_iconst dX11_init_108) KX_c28_DyerBells_109
set_option maxRecDepth 20000 in
theorem KX_c28_DyerBells_107 : fk_B RX11 cX11_init 1 4 [(0, 2)] KX303 KXz33 [] 107 KX305 KXz36 [] 126 1 3 := fk_seq (nc := 0) (ns := 0) (nc1 := 1) (ns1 := 3) (kb_aload (j := 0) rfl dX11_init_107) KX_c28_DyerBells_108
set_option maxRecDepth 20000 in
theorem KX_c28_DyerBells_104 : fk_B RX11 cX11_init 1 4 [(0, 2)] KX302 KXz33 [(153, 0), (2, 0)] 104 KX305 KXz36 [] 126 1 3 := fk_seq (nc := 0) (ns := 0) (nc1 := 1) (ns1 := 3) (kb_putR kp_RX11_57 kl_KX302_0 rfl dX11_init_104) KX_c28_DyerBells_107
set_option maxRecDepth 20000 in
theorem KX_c28_DyerBells_102 : fk_B RX11 cX11_init 1 4 [(0, 2)] KX301 KXz33 [(0, 4), (2, 0)] 102 KX305 KXz36 [] 126 2 7 := fk_seq (nc := 1) (ns := 4) (nc1 := 1) (ns1 := 3) (kb_arr (by decide +kernel) (by decide) rfl wk_ar_int (by decide +kernel) (by decide +kernel) (by decide) dX11_init_102) KX_c28_DyerBells_104
set_option maxRecDepth 20000 in
theorem KX_c28_DyerBells_101 : fk_B RX11 cX11_init 1 4 [(0, 2)] KX301 KXz33 [(2, 0)] 101 KX305 KXz36 [] 126 2 7 := fk_seq (nc := 0) (ns := 0) (nc1 := 2) (ns1 := 7) (kb_iconst dX11_init_101) KX_c28_DyerBells_102
set_option maxRecDepth 20000 in
theorem KX_c28_DyerBells_100 : fk_B RX11 cX11_init 1 4 [(0, 2)] KX301 KXz33 [] 100 KX305 KXz36 [] 126 2 7 := fk_seq (nc := 0) (ns := 0) (nc1 := 2) (ns1 := 7) (kb_aload (j := 0) rfl dX11_init_100) KX_c28_DyerBells_101
set_option maxRecDepth 20000 in
theorem KX_c28_DyerBells_97 : fk_B RX11 cX11_init 1 4 [(0, 2)] KX300 KXz33 [(152, 0), (2, 0)] 97 KX305 KXz36 [] 126 2 7 := fk_seq (nc := 0) (ns := 0) (nc1 := 2) (ns1 := 7) (kb_putR kp_RX11_54 kl_KX300_0 rfl dX11_init_97) KX_c28_DyerBells_100
set_option maxRecDepth 20000 in
theorem KX_c28_DyerBells_95 : fk_B RX11 cX11_init 1 4 [(0, 2)] KX299 KXz33 [(0, 4), (2, 0)] 95 KX305 KXz36 [] 126 3 11 := fk_seq (nc := 1) (ns := 4) (nc1 := 2) (ns1 := 7) (kb_arr (by decide +kernel) (by decide) rfl wk_ar_int (by decide +kernel) (by decide +kernel) (by decide) dX11_init_95) KX_c28_DyerBells_97
set_option maxRecDepth 20000 in
theorem KX_c28_DyerBells_94 : fk_B RX11 cX11_init 1 4 [(0, 2)] KX299 KXz33 [(2, 0)] 94 KX305 KXz36 [] 126 3 11 := fk_seq (nc := 0) (ns := 0) (nc1 := 3) (ns1 := 11) (kb_iconst dX11_init_94) KX_c28_DyerBells_95
set_option maxRecDepth 20000 in
theorem KX_c28_DyerBells_93 : fk_B RX11 cX11_init 1 4 [(0, 2)] KX299 KXz33 [] 93 KX305 KXz36 [] 126 3 11 := fk_seq (nc := 0) (ns := 0) (nc1 := 3) (ns1 := 11) (kb_aload (j := 0) rfl dX11_init_93) KX_c28_DyerBells_94
set_option maxRecDepth 20000 in
theorem KX_c28_DyerBells_90 : fk_B RX11 cX11_init 1 4 [(0, 2)] KX298 KXz33 [(151, 0), (2, 0)] 90 KX305 KXz36 [] 126 3 11 := fk_seq (nc := 0) (ns := 0) (nc1 := 3) (ns1 := 11) (kb_putR kp_RX11_50 kl_KX298_0 rfl dX11_init_90) KX_c28_DyerBells_93
set_option maxRecDepth 20000 in
theorem KX_c28_DyerBells_88 : fk_B RX11 cX11_init 1 4 [(0, 2)] KX297 KXz33 [(0, 4), (2, 0)] 88 KX305 KXz36 [] 126 4 15 := fk_seq (nc := 1) (ns := 4) (nc1 := 3) (ns1 := 11) (kb_arr (by decide +kernel) (by decide) rfl wk_ar_int (by decide +kernel) (by decide +kernel) (by decide) dX11_init_88) KX_c28_DyerBells_90
set_option maxRecDepth 20000 in
theorem KX_c28_DyerBells_87 : fk_B RX11 cX11_init 1 4 [(0, 2)] KX297 KXz33 [(2, 0)] 87 KX305 KXz36 [] 126 4 15 := fk_seq (nc := 0) (ns := 0) (nc1 := 4) (ns1 := 15) (kb_iconst dX11_init_87) KX_c28_DyerBells_88
set_option maxRecDepth 20000 in
theorem KX_c28_DyerBells_86 : fk_B RX11 cX11_init 1 4 [(0, 2)] KX297 KXz33 [] 86 KX305 KXz36 [] 126 4 15 := fk_seq (nc := 0) (ns := 0) (nc1 := 4) (ns1 := 15) (kb_aload (j := 0) rfl dX11_init_86) KX_c28_DyerBells_87
set_option maxRecDepth 20000 in
theorem KX_c28_DyerBells_83 : fk_B RX11 cX11_init 1 4 [(0, 2)] KX297 KXz32 [(0, 1), (2, 0)] 83 KX305 KXz36 [] 126 4 15 := fk_seq (nc := 0) (ns := 0) (nc1 := 4) (ns1 := 15) (kb_putZ fp_RX11_46 kl_KX297_0 rfl (by decide) dX11_init_83) KX_c28_DyerBells_86
set_option maxRecDepth 20000 in
theorem KX_c28_DyerBells_82 : fk_B RX11 cX11_init 1 4 [(0, 2)] KX297 KXz32 [(2, 0)] 82 KX305 KXz36 [] 126 4 15 := fk_seq (nc := 0) (ns := 0) (nc1 := 4) (ns1 := 15) (kb_iconst dX11_init_82) KX_c28_DyerBells_83
set_option maxRecDepth 20000 in
theorem KX_c28_DyerBells_81 : fk_B RX11 cX11_init 1 4 [(0, 2)] KX297 KXz32 [] 81 KX305 KXz36 [] 126 4 15 := fk_seq (nc := 0) (ns := 0) (nc1 := 4) (ns1 := 15) (kb_aload (j := 0) rfl dX11_init_81) KX_c28_DyerBells_82
set_option maxRecDepth 20000 in
theorem KX_c28_DyerBells_78 : fk_B RX11 cX11_init 1 4 [(0, 2)] KX296 KXz32 [(144, 0), (2, 0)] 78 KX305 KXz36 [] 126 4 15 := fk_seq (nc := 0) (ns := 0) (nc1 := 4) (ns1 := 15) (kb_putR kp_RX11_42 kl_KX296_0 rfl dX11_init_78) KX_c28_DyerBells_81
set_option maxRecDepth 20000 in
theorem KX_c28_DyerBells_75 : fk_B RX11 cX11_init 1 4 [(0, 2)] KX284 KXz32 [(144, 0), (144, 0), (2, 0)] 75 KX305 KXz36 [] 126 10 14632 := fk_seq (nc := 6) (ns := 14617) (nc1 := 4) (ns1 := 15) (kb_ctor KX_c27_Past kn_RX11_41 (by decide) (by decide) (by decide) dX11_init_75) KX_c28_DyerBells_78
set_option maxRecDepth 20000 in
theorem KX_c28_DyerBells_74 : fk_B RX11 cX11_init 1 4 [(0, 2)] KX284 KXz32 [(144, 0), (2, 0)] 74 KX305 KXz36 [] 126 10 14632 := fk_seq (nc := 0) (ns := 0) (nc1 := 10) (ns1 := 14632) (kb_dup rfl dX11_init_74) KX_c28_DyerBells_75
set_option maxRecDepth 20000 in
theorem KX_c28_DyerBells_71 : fk_B RX11 cX11_init 1 4 [(0, 2)] KX283 KXz32 [(2, 0)] 71 KX305 KXz36 [] 126 11 14638 := fk_seq (nc := 1) (ns := 6) (nc1 := 10) (ns1 := 14632) (kb_new (by decide +kernel) rfl in_X2 tyX2_ok wk_cl_RX11_39 wk_in_X2 wn_RX2 kbl_X2 (by decide) (by decide) dX11_init_71) KX_c28_DyerBells_74
set_option maxRecDepth 20000 in
theorem KX_c28_DyerBells_70 : fk_B RX11 cX11_init 1 4 [(0, 2)] KX283 KXz32 [] 70 KX305 KXz36 [] 126 11 14638 := fk_seq (nc := 0) (ns := 0) (nc1 := 11) (ns1 := 14638) (kb_aload (j := 0) rfl dX11_init_70) KX_c28_DyerBells_71
set_option maxRecDepth 20000 in
theorem KX_c28_DyerBells_67 : fk_B RX11 cX11_init 1 4 [(0, 2)] KX282 KXz32 [(137, 0), (2, 0)] 67 KX305 KXz36 [] 126 11 14638 := fk_seq (nc := 0) (ns := 0) (nc1 := 11) (ns1 := 14638) (kb_putR kp_RX11_35 kl_KX282_0 rfl dX11_init_67) KX_c28_DyerBells_70
set_option maxRecDepth 20000 in
theorem KX_c28_DyerBells_64 : fk_B RX11 cX11_init 1 4 [(0, 2)] KX270 KXz32 [(137, 0), (137, 0), (2, 0)] 64 KX305 KXz36 [] 126 17 14907 := fk_seq (nc := 6) (ns := 269) (nc1 := 11) (ns1 := 14638) (kb_ctor KX_c26_Week kn_RX11_34 (by decide) (by decide) (by decide) dX11_init_64) KX_c28_DyerBells_67
set_option maxRecDepth 20000 in
theorem KX_c28_DyerBells_63 : fk_B RX11 cX11_init 1 4 [(0, 2)] KX270 KXz32 [(137, 0), (2, 0)] 63 KX305 KXz36 [] 126 17 14907 := fk_seq (nc := 0) (ns := 0) (nc1 := 17) (ns1 := 14907) (kb_dup rfl dX11_init_63) KX_c28_DyerBells_64
set_option maxRecDepth 20000 in
theorem KX_c28_DyerBells_60 : fk_B RX11 cX11_init 1 4 [(0, 2)] KX269 KXz32 [(2, 0)] 60 KX305 KXz36 [] 126 18 14913 := fk_seq (nc := 1) (ns := 6) (nc1 := 17) (ns1 := 14907) (kb_new (by decide +kernel) rfl in_X10 tyX10_ok wk_cl_RX11_32 wk_in_X10 wn_RX10 kbl_X10 (by decide) (by decide) dX11_init_60) KX_c28_DyerBells_63
set_option maxRecDepth 20000 in
theorem KX_c28_DyerBells_59 : fk_B RX11 cX11_init 1 4 [(0, 2)] KX269 KXz32 [] 59 KX305 KXz36 [] 126 18 14913 := fk_seq (nc := 0) (ns := 0) (nc1 := 18) (ns1 := 14913) (kb_aload (j := 0) rfl dX11_init_59) KX_c28_DyerBells_60
set_option maxRecDepth 20000 in
theorem KX_c28_DyerBells_56 : fk_B RX11 cX11_init 1 4 [(0, 2)] KX268 KXz32 [(104, 0), (2, 0)] 56 KX305 KXz36 [] 126 18 14913 := fk_seq (nc := 0) (ns := 0) (nc1 := 18) (ns1 := 14913) (kb_putR kp_RX11_29 kl_KX268_0 rfl dX11_init_56) KX_c28_DyerBells_59
set_option maxRecDepth 20000 in
theorem KX_c28_DyerBells_53 : fk_B RX11 cX11_init 1 4 [(0, 2)] KX204 KXz24 [(104, 0), (104, 0), (2, 0)] 53 KX305 KXz36 [] 126 50 15551 := fk_seq (nc := 32) (ns := 638) (nc1 := 18) (ns1 := 14913) (kb_ctor KX_c25_Scene kn_RX11_18 (by decide) (by decide) (by decide) dX11_init_53) KX_c28_DyerBells_56
set_option maxRecDepth 20000 in
theorem KX_c28_DyerBells_52 : fk_B RX11 cX11_init 1 4 [(0, 2)] KX204 KXz24 [(104, 0), (2, 0)] 52 KX305 KXz36 [] 126 50 15551 := fk_seq (nc := 0) (ns := 0) (nc1 := 50) (ns1 := 15551) (kb_dup rfl dX11_init_52) KX_c28_DyerBells_53
set_option maxRecDepth 20000 in
theorem KX_c28_DyerBells_49 : fk_B RX11 cX11_init 1 4 [(0, 2)] KX203 KXz24 [(2, 0)] 49 KX305 KXz36 [] 126 51 15555 := fk_seq (nc := 1) (ns := 4) (nc1 := 50) (ns1 := 15551) (kb_new (by decide +kernel) rfl in_X5 tyX5_ok wk_cl_RX11_16 wk_in_X5 wn_RX5 kbl_X5 (by decide) (by decide) dX11_init_49) KX_c28_DyerBells_52
set_option maxRecDepth 20000 in
theorem KX_c28_DyerBells_48 : fk_B RX11 cX11_init 1 4 [(0, 2)] KX203 KXz24 [] 48 KX305 KXz36 [] 126 51 15555 := fk_seq (nc := 0) (ns := 0) (nc1 := 51) (ns1 := 15555) (kb_aload (j := 0) rfl dX11_init_48) KX_c28_DyerBells_49
set_option maxRecDepth 20000 in
theorem KX_c28_DyerBells_45 : fk_B RX11 cX11_init 1 4 [(0, 2)] KX202 KXz24 [(71, 0), (2, 0)] 45 KX305 KXz36 [] 126 51 15555 := fk_seq (nc := 0) (ns := 0) (nc1 := 51) (ns1 := 15555) (kb_putR kp_RX11_26 kl_KX202_0 rfl dX11_init_45) KX_c28_DyerBells_48
set_option maxRecDepth 20000 in
theorem KX_c28_DyerBells_42 : fk_B RX11 cX11_init 1 4 [(0, 2)] KX138 KXz16 [(71, 0), (71, 0), (2, 0)] 42 KX305 KXz36 [] 126 83 16193 := fk_seq (nc := 32) (ns := 638) (nc1 := 51) (ns1 := 15555) (kb_ctor KX_c19_Scene kn_RX11_18 (by decide) (by decide) (by decide) dX11_init_42) KX_c28_DyerBells_45
set_option maxRecDepth 20000 in
theorem KX_c28_DyerBells_41 : fk_B RX11 cX11_init 1 4 [(0, 2)] KX138 KXz16 [(71, 0), (2, 0)] 41 KX305 KXz36 [] 126 83 16193 := fk_seq (nc := 0) (ns := 0) (nc1 := 83) (ns1 := 16193) (kb_dup rfl dX11_init_41) KX_c28_DyerBells_42
set_option maxRecDepth 20000 in
theorem KX_c28_DyerBells_38 : fk_B RX11 cX11_init 1 4 [(0, 2)] KX137 KXz16 [(2, 0)] 38 KX305 KXz36 [] 126 84 16197 := fk_seq (nc := 1) (ns := 4) (nc1 := 83) (ns1 := 16193) (kb_new (by decide +kernel) rfl in_X5 tyX5_ok wk_cl_RX11_16 wk_in_X5 wn_RX5 kbl_X5 (by decide) (by decide) dX11_init_38) KX_c28_DyerBells_41
set_option maxRecDepth 20000 in
theorem KX_c28_DyerBells_37 : fk_B RX11 cX11_init 1 4 [(0, 2)] KX137 KXz16 [] 37 KX305 KXz36 [] 126 84 16197 := fk_seq (nc := 0) (ns := 0) (nc1 := 84) (ns1 := 16197) (kb_aload (j := 0) rfl dX11_init_37) KX_c28_DyerBells_38
set_option maxRecDepth 20000 in
theorem KX_c28_DyerBells_34 : fk_B RX11 cX11_init 1 4 [(0, 2)] KX136 KXz16 [(38, 0), (2, 0)] 34 KX305 KXz36 [] 126 84 16197 := fk_seq (nc := 0) (ns := 0) (nc1 := 84) (ns1 := 16197) (kb_putR kp_RX11_23 kl_KX136_0 rfl dX11_init_34) KX_c28_DyerBells_37
set_option maxRecDepth 20000 in
theorem KX_c28_DyerBells_31 : fk_B RX11 cX11_init 1 4 [(0, 2)] KX72 KXz8 [(38, 0), (38, 0), (2, 0)] 31 KX305 KXz36 [] 126 116 16835 := fk_seq (nc := 32) (ns := 638) (nc1 := 84) (ns1 := 16197) (kb_ctor KX_c13_Scene kn_RX11_18 (by decide) (by decide) (by decide) dX11_init_31) KX_c28_DyerBells_34
set_option maxRecDepth 20000 in
theorem KX_c28_DyerBells_30 : fk_B RX11 cX11_init 1 4 [(0, 2)] KX72 KXz8 [(38, 0), (2, 0)] 30 KX305 KXz36 [] 126 116 16835 := fk_seq (nc := 0) (ns := 0) (nc1 := 116) (ns1 := 16835) (kb_dup rfl dX11_init_30) KX_c28_DyerBells_31
set_option maxRecDepth 20000 in
theorem KX_c28_DyerBells_27 : fk_B RX11 cX11_init 1 4 [(0, 2)] KX71 KXz8 [(2, 0)] 27 KX305 KXz36 [] 126 117 16839 := fk_seq (nc := 1) (ns := 4) (nc1 := 116) (ns1 := 16835) (kb_new (by decide +kernel) rfl in_X5 tyX5_ok wk_cl_RX11_16 wk_in_X5 wn_RX5 kbl_X5 (by decide) (by decide) dX11_init_27) KX_c28_DyerBells_30
set_option maxRecDepth 20000 in
theorem KX_c28_DyerBells_26 : fk_B RX11 cX11_init 1 4 [(0, 2)] KX71 KXz8 [] 26 KX305 KXz36 [] 126 117 16839 := fk_seq (nc := 0) (ns := 0) (nc1 := 117) (ns1 := 16839) (kb_aload (j := 0) rfl dX11_init_26) KX_c28_DyerBells_27
set_option maxRecDepth 20000 in
theorem KX_c28_DyerBells_23 : fk_B RX11 cX11_init 1 4 [(0, 2)] KX70 KXz8 [(5, 0), (2, 0)] 23 KX305 KXz36 [] 126 117 16839 := fk_seq (nc := 0) (ns := 0) (nc1 := 117) (ns1 := 16839) (kb_putR kp_RX11_19 kl_KX70_0 rfl dX11_init_23) KX_c28_DyerBells_26
set_option maxRecDepth 20000 in
theorem KX_c28_DyerBells_20 : fk_B RX11 cX11_init 1 4 [(0, 2)] KX6 Z0 [(5, 0), (5, 0), (2, 0)] 20 KX305 KXz36 [] 126 149 17477 := fk_seq (nc := 32) (ns := 638) (nc1 := 117) (ns1 := 16839) (kb_ctor KX_c7_Scene kn_RX11_18 (by decide) (by decide) (by decide) dX11_init_20) KX_c28_DyerBells_23
set_option maxRecDepth 20000 in
theorem KX_c28_DyerBells_19 : fk_B RX11 cX11_init 1 4 [(0, 2)] KX6 Z0 [(5, 0), (2, 0)] 19 KX305 KXz36 [] 126 149 17477 := fk_seq (nc := 0) (ns := 0) (nc1 := 149) (ns1 := 17477) (kb_dup rfl dX11_init_19) KX_c28_DyerBells_20
set_option maxRecDepth 20000 in
theorem KX_c28_DyerBells_16 : fk_B RX11 cX11_init 1 4 [(0, 2)] KX5 Z0 [(2, 0)] 16 KX305 KXz36 [] 126 150 17481 := fk_seq (nc := 1) (ns := 4) (nc1 := 149) (ns1 := 17477) (kb_new (by decide +kernel) rfl in_X5 tyX5_ok wk_cl_RX11_16 wk_in_X5 wn_RX5 kbl_X5 (by decide) (by decide) dX11_init_16) KX_c28_DyerBells_19
set_option maxRecDepth 20000 in
theorem KX_c28_DyerBells_15 : fk_B RX11 cX11_init 1 4 [(0, 2)] KX5 Z0 [] 15 KX305 KXz36 [] 126 150 17481 := fk_seq (nc := 0) (ns := 0) (nc1 := 150) (ns1 := 17481) (kb_aload (j := 0) rfl dX11_init_15) KX_c28_DyerBells_16
set_option maxRecDepth 20000 in
theorem KX_c28_DyerBells_12 : fk_B RX11 cX11_init 1 4 [(0, 2)] KX4 Z0 [(3, 0), (2, 0)] 12 KX305 KXz36 [] 126 150 17481 := fk_seq (nc := 0) (ns := 0) (nc1 := 150) (ns1 := 17481) (kb_putR kp_RX11_12 kl_KX4_0 rfl dX11_init_12) KX_c28_DyerBells_15
set_option maxRecDepth 20000 in
theorem KX_c28_DyerBells_9 : fk_B RX11 cX11_init 1 4 [(0, 2)] KX2 Z0 [(3, 0), (3, 0), (2, 0)] 9 KX305 KXz36 [] 126 151 18421 := fk_seq (nc := 1) (ns := 940) (nc1 := 150) (ns1 := 17481) (kb_ctor KX_c1_Tape kn_RX11_11 (by decide) (by decide) (by decide) dX11_init_9) KX_c28_DyerBells_12
set_option maxRecDepth 20000 in
theorem KX_c28_DyerBells_8 : fk_B RX11 cX11_init 1 4 [(0, 2)] KX2 Z0 [(3, 0), (2, 0)] 8 KX305 KXz36 [] 126 151 18421 := fk_seq (nc := 0) (ns := 0) (nc1 := 151) (ns1 := 18421) (kb_dup rfl dX11_init_8) KX_c28_DyerBells_9
set_option maxRecDepth 20000 in
theorem KX_c28_DyerBells_5 : fk_B RX11 cX11_init 1 4 [(0, 2)] KX1 Z0 [(2, 0)] 5 KX305 KXz36 [] 126 152 18433 := fk_seq (nc := 1) (ns := 12) (nc1 := 151) (ns1 := 18421) (kb_new (by decide +kernel) rfl in_X9 tyX9_ok wk_cl_RX11_9 wk_in_X9 wn_RX9 kbl_X9 (by decide) (by decide) dX11_init_5) KX_c28_DyerBells_8
set_option maxRecDepth 20000 in
theorem KX_c28_DyerBells_4 : fk_B RX11 cX11_init 1 4 [(0, 2)] KX1 Z0 [] 4 KX305 KXz36 [] 126 152 18433 := fk_seq (nc := 0) (ns := 0) (nc1 := 152) (ns1 := 18433) (kb_aload (j := 0) rfl dX11_init_4) KX_c28_DyerBells_5
set_option maxRecDepth 20000 in
theorem KX_c28_DyerBells_1 : fk_B RX11 cX11_init 1 4 [(0, 2)] KX1 Z0 [(2, 0)] 1 KX305 KXz36 [] 126 152 18433 := fk_seq (nc := 0) (ns := 0) (nc1 := 152) (ns1 := 18433) (kb_obj ko_RX11_3 (by decide) dX11_init_1) KX_c28_DyerBells_4
set_option maxRecDepth 20000 in
theorem KX_c28_DyerBells_0 : fk_B RX11 cX11_init 1 4 [(0, 2)] KX1 Z0 [] 0 KX305 KXz36 [] 126 152 18433 := fk_seq (nc := 0) (ns := 0) (nc1 := 152) (ns1 := 18433) (kb_aload (j := 0) rfl dX11_init_0) KX_c28_DyerBells_1
theorem KX_c28_DyerBells : fk_C yX11_init cX11_init 1 4 0 KX1 Z0 KX305 KXz36 152 18433 := fk_close (by decide +kernel) rfl (by decide) (show fk_B yX11_init.cls cX11_init 1 4 [(0, 2)] KX1 Z0 [] 0 KX305 KXz36 [] 126 152 18433 from KX_c28_DyerBells_0) dX11_init_126
theorem LX_eq : KX305 = LX := by decide +kernel
def KM1 : List CD := [.inl (10, [(1, 0), (3, 0), (1, 0), (1, 0), (1, 0), (1, 0), (1, 0), (1, 0), (1, 0), (1, 0), (1, 0), (1, 0), (2, 0), (1, 0), (3, 0), (3, 0), (3, 0), (3, 0), (3, 0), (3, 0), (3, 0), (3, 0), (1, 0), (1, 0), (1, 0), (1, 0), (3, 0), (3, 0), (3, 0), (3, 0), (3, 0), (3, 0), (3, 0), (3, 0), (1, 0), (1, 0), (1, 0), (3, 0), (3, 0), (3, 0), (3, 0), (3, 0), (1, 0), (1, 0), (1, 0), (1, 0), (3, 0), (3, 0), (1, 0), (3, 0), (1, 0), (1, 0), (1, 0), (1, 0)])]
def KM2 : List CD := KM1 ++ [.inr (0, 940)]
theorem kl_KM2_0 : KM2[0]? = some (.inl (10, [(1, 0), (3, 0), (1, 0), (1, 0), (1, 0), (1, 0), (1, 0), (1, 0), (1, 0), (1, 0), (1, 0), (1, 0), (2, 0), (1, 0), (3, 0), (3, 0), (3, 0), (3, 0), (3, 0), (3, 0), (3, 0), (3, 0), (1, 0), (1, 0), (1, 0), (1, 0), (3, 0), (3, 0), (3, 0), (3, 0), (3, 0), (3, 0), (3, 0), (3, 0), (1, 0), (1, 0), (1, 0), (3, 0), (3, 0), (3, 0), (3, 0), (3, 0), (1, 0), (1, 0), (1, 0), (1, 0), (3, 0), (3, 0), (1, 0), (3, 0), (1, 0), (1, 0), (1, 0), (1, 0)])) := by decide +kernel
def KM3 : List CD := KM2.set 0 (.inl (10, ([(1, 0), (3, 0), (1, 0), (1, 0), (1, 0), (1, 0), (1, 0), (1, 0), (1, 0), (1, 0), (1, 0), (1, 0), (2, 0), (1, 0), (3, 0), (3, 0), (3, 0), (3, 0), (3, 0), (3, 0), (3, 0), (3, 0), (1, 0), (1, 0), (1, 0), (1, 0), (3, 0), (3, 0), (3, 0), (3, 0), (3, 0), (3, 0), (3, 0), (3, 0), (1, 0), (1, 0), (1, 0), (3, 0), (3, 0), (3, 0), (3, 0), (3, 0), (1, 0), (1, 0), (1, 0), (1, 0), (3, 0), (3, 0), (1, 0), (3, 0), (1, 0), (1, 0), (1, 0), (1, 0)] : List (Nat × Nat)).set 1 (0, 1)))
def KM4 : List CD := KM3 ++ [.inr (0, 592)]
theorem kl_KM4_0 : KM4[0]? = some (.inl (10, [(1, 0), (0, 1), (1, 0), (1, 0), (1, 0), (1, 0), (1, 0), (1, 0), (1, 0), (1, 0), (1, 0), (1, 0), (2, 0), (1, 0), (3, 0), (3, 0), (3, 0), (3, 0), (3, 0), (3, 0), (3, 0), (3, 0), (1, 0), (1, 0), (1, 0), (1, 0), (3, 0), (3, 0), (3, 0), (3, 0), (3, 0), (3, 0), (3, 0), (3, 0), (1, 0), (1, 0), (1, 0), (3, 0), (3, 0), (3, 0), (3, 0), (3, 0), (1, 0), (1, 0), (1, 0), (1, 0), (3, 0), (3, 0), (1, 0), (3, 0), (1, 0), (1, 0), (1, 0), (1, 0)])) := by decide +kernel
def KM5 : List CD := KM4.set 0 (.inl (10, ([(1, 0), (0, 1), (1, 0), (1, 0), (1, 0), (1, 0), (1, 0), (1, 0), (1, 0), (1, 0), (1, 0), (1, 0), (2, 0), (1, 0), (3, 0), (3, 0), (3, 0), (3, 0), (3, 0), (3, 0), (3, 0), (3, 0), (1, 0), (1, 0), (1, 0), (1, 0), (3, 0), (3, 0), (3, 0), (3, 0), (3, 0), (3, 0), (3, 0), (3, 0), (1, 0), (1, 0), (1, 0), (3, 0), (3, 0), (3, 0), (3, 0), (3, 0), (1, 0), (1, 0), (1, 0), (1, 0), (3, 0), (3, 0), (1, 0), (3, 0), (1, 0), (1, 0), (1, 0), (1, 0)] : List (Nat × Nat)).set 14 (0, 2)))
def KM6 : List CD := KM5 ++ [.inr (0, 160)]
theorem kl_KM6_0 : KM6[0]? = some (.inl (10, [(1, 0), (0, 1), (1, 0), (1, 0), (1, 0), (1, 0), (1, 0), (1, 0), (1, 0), (1, 0), (1, 0), (1, 0), (2, 0), (1, 0), (0, 2), (3, 0), (3, 0), (3, 0), (3, 0), (3, 0), (3, 0), (3, 0), (1, 0), (1, 0), (1, 0), (1, 0), (3, 0), (3, 0), (3, 0), (3, 0), (3, 0), (3, 0), (3, 0), (3, 0), (1, 0), (1, 0), (1, 0), (3, 0), (3, 0), (3, 0), (3, 0), (3, 0), (1, 0), (1, 0), (1, 0), (1, 0), (3, 0), (3, 0), (1, 0), (3, 0), (1, 0), (1, 0), (1, 0), (1, 0)])) := by decide +kernel
def KM7 : List CD := KM6.set 0 (.inl (10, ([(1, 0), (0, 1), (1, 0), (1, 0), (1, 0), (1, 0), (1, 0), (1, 0), (1, 0), (1, 0), (1, 0), (1, 0), (2, 0), (1, 0), (0, 2), (3, 0), (3, 0), (3, 0), (3, 0), (3, 0), (3, 0), (3, 0), (1, 0), (1, 0), (1, 0), (1, 0), (3, 0), (3, 0), (3, 0), (3, 0), (3, 0), (3, 0), (3, 0), (3, 0), (1, 0), (1, 0), (1, 0), (3, 0), (3, 0), (3, 0), (3, 0), (3, 0), (1, 0), (1, 0), (1, 0), (1, 0), (3, 0), (3, 0), (1, 0), (3, 0), (1, 0), (1, 0), (1, 0), (1, 0)] : List (Nat × Nat)).set 15 (0, 3)))
def KM8 : List CD := KM7 ++ [.inr (0, 1184)]
theorem kl_KM8_0 : KM8[0]? = some (.inl (10, [(1, 0), (0, 1), (1, 0), (1, 0), (1, 0), (1, 0), (1, 0), (1, 0), (1, 0), (1, 0), (1, 0), (1, 0), (2, 0), (1, 0), (0, 2), (0, 3), (3, 0), (3, 0), (3, 0), (3, 0), (3, 0), (3, 0), (1, 0), (1, 0), (1, 0), (1, 0), (3, 0), (3, 0), (3, 0), (3, 0), (3, 0), (3, 0), (3, 0), (3, 0), (1, 0), (1, 0), (1, 0), (3, 0), (3, 0), (3, 0), (3, 0), (3, 0), (1, 0), (1, 0), (1, 0), (1, 0), (3, 0), (3, 0), (1, 0), (3, 0), (1, 0), (1, 0), (1, 0), (1, 0)])) := by decide +kernel
def KM9 : List CD := KM8.set 0 (.inl (10, ([(1, 0), (0, 1), (1, 0), (1, 0), (1, 0), (1, 0), (1, 0), (1, 0), (1, 0), (1, 0), (1, 0), (1, 0), (2, 0), (1, 0), (0, 2), (0, 3), (3, 0), (3, 0), (3, 0), (3, 0), (3, 0), (3, 0), (1, 0), (1, 0), (1, 0), (1, 0), (3, 0), (3, 0), (3, 0), (3, 0), (3, 0), (3, 0), (3, 0), (3, 0), (1, 0), (1, 0), (1, 0), (3, 0), (3, 0), (3, 0), (3, 0), (3, 0), (1, 0), (1, 0), (1, 0), (1, 0), (3, 0), (3, 0), (1, 0), (3, 0), (1, 0), (1, 0), (1, 0), (1, 0)] : List (Nat × Nat)).set 16 (0, 4)))
def KM10 : List CD := KM9 ++ [.inr (0, 120)]
theorem kl_KM10_0 : KM10[0]? = some (.inl (10, [(1, 0), (0, 1), (1, 0), (1, 0), (1, 0), (1, 0), (1, 0), (1, 0), (1, 0), (1, 0), (1, 0), (1, 0), (2, 0), (1, 0), (0, 2), (0, 3), (0, 4), (3, 0), (3, 0), (3, 0), (3, 0), (3, 0), (1, 0), (1, 0), (1, 0), (1, 0), (3, 0), (3, 0), (3, 0), (3, 0), (3, 0), (3, 0), (3, 0), (3, 0), (1, 0), (1, 0), (1, 0), (3, 0), (3, 0), (3, 0), (3, 0), (3, 0), (1, 0), (1, 0), (1, 0), (1, 0), (3, 0), (3, 0), (1, 0), (3, 0), (1, 0), (1, 0), (1, 0), (1, 0)])) := by decide +kernel
def KM11 : List CD := KM10.set 0 (.inl (10, ([(1, 0), (0, 1), (1, 0), (1, 0), (1, 0), (1, 0), (1, 0), (1, 0), (1, 0), (1, 0), (1, 0), (1, 0), (2, 0), (1, 0), (0, 2), (0, 3), (0, 4), (3, 0), (3, 0), (3, 0), (3, 0), (3, 0), (1, 0), (1, 0), (1, 0), (1, 0), (3, 0), (3, 0), (3, 0), (3, 0), (3, 0), (3, 0), (3, 0), (3, 0), (1, 0), (1, 0), (1, 0), (3, 0), (3, 0), (3, 0), (3, 0), (3, 0), (1, 0), (1, 0), (1, 0), (1, 0), (3, 0), (3, 0), (1, 0), (3, 0), (1, 0), (1, 0), (1, 0), (1, 0)] : List (Nat × Nat)).set 17 (0, 5)))
def KM12 : List CD := KM11 ++ [.inr (1, 26)]
theorem kl_KM12_0 : KM12[0]? = some (.inl (10, [(1, 0), (0, 1), (1, 0), (1, 0), (1, 0), (1, 0), (1, 0), (1, 0), (1, 0), (1, 0), (1, 0), (1, 0), (2, 0), (1, 0), (0, 2), (0, 3), (0, 4), (0, 5), (3, 0), (3, 0), (3, 0), (3, 0), (1, 0), (1, 0), (1, 0), (1, 0), (3, 0), (3, 0), (3, 0), (3, 0), (3, 0), (3, 0), (3, 0), (3, 0), (1, 0), (1, 0), (1, 0), (3, 0), (3, 0), (3, 0), (3, 0), (3, 0), (1, 0), (1, 0), (1, 0), (1, 0), (3, 0), (3, 0), (1, 0), (3, 0), (1, 0), (1, 0), (1, 0), (1, 0)])) := by decide +kernel
def KM13 : List CD := KM12.set 0 (.inl (10, ([(1, 0), (0, 1), (1, 0), (1, 0), (1, 0), (1, 0), (1, 0), (1, 0), (1, 0), (1, 0), (1, 0), (1, 0), (2, 0), (1, 0), (0, 2), (0, 3), (0, 4), (0, 5), (3, 0), (3, 0), (3, 0), (3, 0), (1, 0), (1, 0), (1, 0), (1, 0), (3, 0), (3, 0), (3, 0), (3, 0), (3, 0), (3, 0), (3, 0), (3, 0), (1, 0), (1, 0), (1, 0), (3, 0), (3, 0), (3, 0), (3, 0), (3, 0), (1, 0), (1, 0), (1, 0), (1, 0), (3, 0), (3, 0), (1, 0), (3, 0), (1, 0), (1, 0), (1, 0), (1, 0)] : List (Nat × Nat)).set 18 (0, 6)))
def KM14 : List CD := KM13 ++ [.inr (1, 26)]
theorem kl_KM14_0 : KM14[0]? = some (.inl (10, [(1, 0), (0, 1), (1, 0), (1, 0), (1, 0), (1, 0), (1, 0), (1, 0), (1, 0), (1, 0), (1, 0), (1, 0), (2, 0), (1, 0), (0, 2), (0, 3), (0, 4), (0, 5), (0, 6), (3, 0), (3, 0), (3, 0), (1, 0), (1, 0), (1, 0), (1, 0), (3, 0), (3, 0), (3, 0), (3, 0), (3, 0), (3, 0), (3, 0), (3, 0), (1, 0), (1, 0), (1, 0), (3, 0), (3, 0), (3, 0), (3, 0), (3, 0), (1, 0), (1, 0), (1, 0), (1, 0), (3, 0), (3, 0), (1, 0), (3, 0), (1, 0), (1, 0), (1, 0), (1, 0)])) := by decide +kernel
def KM15 : List CD := KM14.set 0 (.inl (10, ([(1, 0), (0, 1), (1, 0), (1, 0), (1, 0), (1, 0), (1, 0), (1, 0), (1, 0), (1, 0), (1, 0), (1, 0), (2, 0), (1, 0), (0, 2), (0, 3), (0, 4), (0, 5), (0, 6), (3, 0), (3, 0), (3, 0), (1, 0), (1, 0), (1, 0), (1, 0), (3, 0), (3, 0), (3, 0), (3, 0), (3, 0), (3, 0), (3, 0), (3, 0), (1, 0), (1, 0), (1, 0), (3, 0), (3, 0), (3, 0), (3, 0), (3, 0), (1, 0), (1, 0), (1, 0), (1, 0), (3, 0), (3, 0), (1, 0), (3, 0), (1, 0), (1, 0), (1, 0), (1, 0)] : List (Nat × Nat)).set 19 (0, 7)))
def KM16 : List CD := KM15 ++ [.inr (1, 52)]
theorem kl_KM16_0 : KM16[0]? = some (.inl (10, [(1, 0), (0, 1), (1, 0), (1, 0), (1, 0), (1, 0), (1, 0), (1, 0), (1, 0), (1, 0), (1, 0), (1, 0), (2, 0), (1, 0), (0, 2), (0, 3), (0, 4), (0, 5), (0, 6), (0, 7), (3, 0), (3, 0), (1, 0), (1, 0), (1, 0), (1, 0), (3, 0), (3, 0), (3, 0), (3, 0), (3, 0), (3, 0), (3, 0), (3, 0), (1, 0), (1, 0), (1, 0), (3, 0), (3, 0), (3, 0), (3, 0), (3, 0), (1, 0), (1, 0), (1, 0), (1, 0), (3, 0), (3, 0), (1, 0), (3, 0), (1, 0), (1, 0), (1, 0), (1, 0)])) := by decide +kernel
def KM17 : List CD := KM16.set 0 (.inl (10, ([(1, 0), (0, 1), (1, 0), (1, 0), (1, 0), (1, 0), (1, 0), (1, 0), (1, 0), (1, 0), (1, 0), (1, 0), (2, 0), (1, 0), (0, 2), (0, 3), (0, 4), (0, 5), (0, 6), (0, 7), (3, 0), (3, 0), (1, 0), (1, 0), (1, 0), (1, 0), (3, 0), (3, 0), (3, 0), (3, 0), (3, 0), (3, 0), (3, 0), (3, 0), (1, 0), (1, 0), (1, 0), (3, 0), (3, 0), (3, 0), (3, 0), (3, 0), (1, 0), (1, 0), (1, 0), (1, 0), (3, 0), (3, 0), (1, 0), (3, 0), (1, 0), (1, 0), (1, 0), (1, 0)] : List (Nat × Nat)).set 20 (0, 8)))
def KM18 : List CD := KM17 ++ [.inr (3, 2)]
theorem kl_KM18_0 : KM18[0]? = some (.inl (10, [(1, 0), (0, 1), (1, 0), (1, 0), (1, 0), (1, 0), (1, 0), (1, 0), (1, 0), (1, 0), (1, 0), (1, 0), (2, 0), (1, 0), (0, 2), (0, 3), (0, 4), (0, 5), (0, 6), (0, 7), (0, 8), (3, 0), (1, 0), (1, 0), (1, 0), (1, 0), (3, 0), (3, 0), (3, 0), (3, 0), (3, 0), (3, 0), (3, 0), (3, 0), (1, 0), (1, 0), (1, 0), (3, 0), (3, 0), (3, 0), (3, 0), (3, 0), (1, 0), (1, 0), (1, 0), (1, 0), (3, 0), (3, 0), (1, 0), (3, 0), (1, 0), (1, 0), (1, 0), (1, 0)])) := by decide +kernel
def KM19 : List CD := KM18.set 0 (.inl (10, ([(1, 0), (0, 1), (1, 0), (1, 0), (1, 0), (1, 0), (1, 0), (1, 0), (1, 0), (1, 0), (1, 0), (1, 0), (2, 0), (1, 0), (0, 2), (0, 3), (0, 4), (0, 5), (0, 6), (0, 7), (0, 8), (3, 0), (1, 0), (1, 0), (1, 0), (1, 0), (3, 0), (3, 0), (3, 0), (3, 0), (3, 0), (3, 0), (3, 0), (3, 0), (1, 0), (1, 0), (1, 0), (3, 0), (3, 0), (3, 0), (3, 0), (3, 0), (1, 0), (1, 0), (1, 0), (1, 0), (3, 0), (3, 0), (1, 0), (3, 0), (1, 0), (1, 0), (1, 0), (1, 0)] : List (Nat × Nat)).set 21 (0, 9)))
def KM20 : List CD := KM19 ++ [.inr (0, 168)]
theorem kl_KM20_0 : KM20[0]? = some (.inl (10, [(1, 0), (0, 1), (1, 0), (1, 0), (1, 0), (1, 0), (1, 0), (1, 0), (1, 0), (1, 0), (1, 0), (1, 0), (2, 0), (1, 0), (0, 2), (0, 3), (0, 4), (0, 5), (0, 6), (0, 7), (0, 8), (0, 9), (1, 0), (1, 0), (1, 0), (1, 0), (3, 0), (3, 0), (3, 0), (3, 0), (3, 0), (3, 0), (3, 0), (3, 0), (1, 0), (1, 0), (1, 0), (3, 0), (3, 0), (3, 0), (3, 0), (3, 0), (1, 0), (1, 0), (1, 0), (1, 0), (3, 0), (3, 0), (1, 0), (3, 0), (1, 0), (1, 0), (1, 0), (1, 0)])) := by decide +kernel
def KM21 : List CD := KM20.set 0 (.inl (10, ([(1, 0), (0, 1), (1, 0), (1, 0), (1, 0), (1, 0), (1, 0), (1, 0), (1, 0), (1, 0), (1, 0), (1, 0), (2, 0), (1, 0), (0, 2), (0, 3), (0, 4), (0, 5), (0, 6), (0, 7), (0, 8), (0, 9), (1, 0), (1, 0), (1, 0), (1, 0), (3, 0), (3, 0), (3, 0), (3, 0), (3, 0), (3, 0), (3, 0), (3, 0), (1, 0), (1, 0), (1, 0), (3, 0), (3, 0), (3, 0), (3, 0), (3, 0), (1, 0), (1, 0), (1, 0), (1, 0), (3, 0), (3, 0), (1, 0), (3, 0), (1, 0), (1, 0), (1, 0), (1, 0)] : List (Nat × Nat)).set 26 (0, 10)))
def KM22 : List CD := KM21 ++ [.inr (0, 40)]
theorem kl_KM22_0 : KM22[0]? = some (.inl (10, [(1, 0), (0, 1), (1, 0), (1, 0), (1, 0), (1, 0), (1, 0), (1, 0), (1, 0), (1, 0), (1, 0), (1, 0), (2, 0), (1, 0), (0, 2), (0, 3), (0, 4), (0, 5), (0, 6), (0, 7), (0, 8), (0, 9), (1, 0), (1, 0), (1, 0), (1, 0), (0, 10), (3, 0), (3, 0), (3, 0), (3, 0), (3, 0), (3, 0), (3, 0), (1, 0), (1, 0), (1, 0), (3, 0), (3, 0), (3, 0), (3, 0), (3, 0), (1, 0), (1, 0), (1, 0), (1, 0), (3, 0), (3, 0), (1, 0), (3, 0), (1, 0), (1, 0), (1, 0), (1, 0)])) := by decide +kernel
def KM23 : List CD := KM22.set 0 (.inl (10, ([(1, 0), (0, 1), (1, 0), (1, 0), (1, 0), (1, 0), (1, 0), (1, 0), (1, 0), (1, 0), (1, 0), (1, 0), (2, 0), (1, 0), (0, 2), (0, 3), (0, 4), (0, 5), (0, 6), (0, 7), (0, 8), (0, 9), (1, 0), (1, 0), (1, 0), (1, 0), (0, 10), (3, 0), (3, 0), (3, 0), (3, 0), (3, 0), (3, 0), (3, 0), (1, 0), (1, 0), (1, 0), (3, 0), (3, 0), (3, 0), (3, 0), (3, 0), (1, 0), (1, 0), (1, 0), (1, 0), (3, 0), (3, 0), (1, 0), (3, 0), (1, 0), (1, 0), (1, 0), (1, 0)] : List (Nat × Nat)).set 27 (0, 11)))
def KM24 : List CD := KM23 ++ [.inr (0, 40)]
theorem kl_KM24_0 : KM24[0]? = some (.inl (10, [(1, 0), (0, 1), (1, 0), (1, 0), (1, 0), (1, 0), (1, 0), (1, 0), (1, 0), (1, 0), (1, 0), (1, 0), (2, 0), (1, 0), (0, 2), (0, 3), (0, 4), (0, 5), (0, 6), (0, 7), (0, 8), (0, 9), (1, 0), (1, 0), (1, 0), (1, 0), (0, 10), (0, 11), (3, 0), (3, 0), (3, 0), (3, 0), (3, 0), (3, 0), (1, 0), (1, 0), (1, 0), (3, 0), (3, 0), (3, 0), (3, 0), (3, 0), (1, 0), (1, 0), (1, 0), (1, 0), (3, 0), (3, 0), (1, 0), (3, 0), (1, 0), (1, 0), (1, 0), (1, 0)])) := by decide +kernel
def KM25 : List CD := KM24.set 0 (.inl (10, ([(1, 0), (0, 1), (1, 0), (1, 0), (1, 0), (1, 0), (1, 0), (1, 0), (1, 0), (1, 0), (1, 0), (1, 0), (2, 0), (1, 0), (0, 2), (0, 3), (0, 4), (0, 5), (0, 6), (0, 7), (0, 8), (0, 9), (1, 0), (1, 0), (1, 0), (1, 0), (0, 10), (0, 11), (3, 0), (3, 0), (3, 0), (3, 0), (3, 0), (3, 0), (1, 0), (1, 0), (1, 0), (3, 0), (3, 0), (3, 0), (3, 0), (3, 0), (1, 0), (1, 0), (1, 0), (1, 0), (3, 0), (3, 0), (1, 0), (3, 0), (1, 0), (1, 0), (1, 0), (1, 0)] : List (Nat × Nat)).set 28 (0, 12)))
def KM26 : List CD := KM25 ++ [.inr (0, 672)]
theorem kl_KM26_0 : KM26[0]? = some (.inl (10, [(1, 0), (0, 1), (1, 0), (1, 0), (1, 0), (1, 0), (1, 0), (1, 0), (1, 0), (1, 0), (1, 0), (1, 0), (2, 0), (1, 0), (0, 2), (0, 3), (0, 4), (0, 5), (0, 6), (0, 7), (0, 8), (0, 9), (1, 0), (1, 0), (1, 0), (1, 0), (0, 10), (0, 11), (0, 12), (3, 0), (3, 0), (3, 0), (3, 0), (3, 0), (1, 0), (1, 0), (1, 0), (3, 0), (3, 0), (3, 0), (3, 0), (3, 0), (1, 0), (1, 0), (1, 0), (1, 0), (3, 0), (3, 0), (1, 0), (3, 0), (1, 0), (1, 0), (1, 0), (1, 0)])) := by decide +kernel
def KM27 : List CD := KM26.set 0 (.inl (10, ([(1, 0), (0, 1), (1, 0), (1, 0), (1, 0), (1, 0), (1, 0), (1, 0), (1, 0), (1, 0), (1, 0), (1, 0), (2, 0), (1, 0), (0, 2), (0, 3), (0, 4), (0, 5), (0, 6), (0, 7), (0, 8), (0, 9), (1, 0), (1, 0), (1, 0), (1, 0), (0, 10), (0, 11), (0, 12), (3, 0), (3, 0), (3, 0), (3, 0), (3, 0), (1, 0), (1, 0), (1, 0), (3, 0), (3, 0), (3, 0), (3, 0), (3, 0), (1, 0), (1, 0), (1, 0), (1, 0), (3, 0), (3, 0), (1, 0), (3, 0), (1, 0), (1, 0), (1, 0), (1, 0)] : List (Nat × Nat)).set 29 (0, 13)))
def KM28 : List CD := KM27 ++ [.inr (0, 4)]
theorem kl_KM28_0 : KM28[0]? = some (.inl (10, [(1, 0), (0, 1), (1, 0), (1, 0), (1, 0), (1, 0), (1, 0), (1, 0), (1, 0), (1, 0), (1, 0), (1, 0), (2, 0), (1, 0), (0, 2), (0, 3), (0, 4), (0, 5), (0, 6), (0, 7), (0, 8), (0, 9), (1, 0), (1, 0), (1, 0), (1, 0), (0, 10), (0, 11), (0, 12), (0, 13), (3, 0), (3, 0), (3, 0), (3, 0), (1, 0), (1, 0), (1, 0), (3, 0), (3, 0), (3, 0), (3, 0), (3, 0), (1, 0), (1, 0), (1, 0), (1, 0), (3, 0), (3, 0), (1, 0), (3, 0), (1, 0), (1, 0), (1, 0), (1, 0)])) := by decide +kernel
def KM29 : List CD := KM28.set 0 (.inl (10, ([(1, 0), (0, 1), (1, 0), (1, 0), (1, 0), (1, 0), (1, 0), (1, 0), (1, 0), (1, 0), (1, 0), (1, 0), (2, 0), (1, 0), (0, 2), (0, 3), (0, 4), (0, 5), (0, 6), (0, 7), (0, 8), (0, 9), (1, 0), (1, 0), (1, 0), (1, 0), (0, 10), (0, 11), (0, 12), (0, 13), (3, 0), (3, 0), (3, 0), (3, 0), (1, 0), (1, 0), (1, 0), (3, 0), (3, 0), (3, 0), (3, 0), (3, 0), (1, 0), (1, 0), (1, 0), (1, 0), (3, 0), (3, 0), (1, 0), (3, 0), (1, 0), (1, 0), (1, 0), (1, 0)] : List (Nat × Nat)).set 30 (0, 14)))
def KM30 : List CD := KM29 ++ [.inr (0, 7)]
theorem kl_KM30_0 : KM30[0]? = some (.inl (10, [(1, 0), (0, 1), (1, 0), (1, 0), (1, 0), (1, 0), (1, 0), (1, 0), (1, 0), (1, 0), (1, 0), (1, 0), (2, 0), (1, 0), (0, 2), (0, 3), (0, 4), (0, 5), (0, 6), (0, 7), (0, 8), (0, 9), (1, 0), (1, 0), (1, 0), (1, 0), (0, 10), (0, 11), (0, 12), (0, 13), (0, 14), (3, 0), (3, 0), (3, 0), (1, 0), (1, 0), (1, 0), (3, 0), (3, 0), (3, 0), (3, 0), (3, 0), (1, 0), (1, 0), (1, 0), (1, 0), (3, 0), (3, 0), (1, 0), (3, 0), (1, 0), (1, 0), (1, 0), (1, 0)])) := by decide +kernel
def KM31 : List CD := KM30.set 0 (.inl (10, ([(1, 0), (0, 1), (1, 0), (1, 0), (1, 0), (1, 0), (1, 0), (1, 0), (1, 0), (1, 0), (1, 0), (1, 0), (2, 0), (1, 0), (0, 2), (0, 3), (0, 4), (0, 5), (0, 6), (0, 7), (0, 8), (0, 9), (1, 0), (1, 0), (1, 0), (1, 0), (0, 10), (0, 11), (0, 12), (0, 13), (0, 14), (3, 0), (3, 0), (3, 0), (1, 0), (1, 0), (1, 0), (3, 0), (3, 0), (3, 0), (3, 0), (3, 0), (1, 0), (1, 0), (1, 0), (1, 0), (3, 0), (3, 0), (1, 0), (3, 0), (1, 0), (1, 0), (1, 0), (1, 0)] : List (Nat × Nat)).set 31 (0, 15)))
def KM32 : List CD := KM31 ++ [.inr (0, 6720)]
theorem kl_KM32_0 : KM32[0]? = some (.inl (10, [(1, 0), (0, 1), (1, 0), (1, 0), (1, 0), (1, 0), (1, 0), (1, 0), (1, 0), (1, 0), (1, 0), (1, 0), (2, 0), (1, 0), (0, 2), (0, 3), (0, 4), (0, 5), (0, 6), (0, 7), (0, 8), (0, 9), (1, 0), (1, 0), (1, 0), (1, 0), (0, 10), (0, 11), (0, 12), (0, 13), (0, 14), (0, 15), (3, 0), (3, 0), (1, 0), (1, 0), (1, 0), (3, 0), (3, 0), (3, 0), (3, 0), (3, 0), (1, 0), (1, 0), (1, 0), (1, 0), (3, 0), (3, 0), (1, 0), (3, 0), (1, 0), (1, 0), (1, 0), (1, 0)])) := by decide +kernel
def KM33 : List CD := KM32.set 0 (.inl (10, ([(1, 0), (0, 1), (1, 0), (1, 0), (1, 0), (1, 0), (1, 0), (1, 0), (1, 0), (1, 0), (1, 0), (1, 0), (2, 0), (1, 0), (0, 2), (0, 3), (0, 4), (0, 5), (0, 6), (0, 7), (0, 8), (0, 9), (1, 0), (1, 0), (1, 0), (1, 0), (0, 10), (0, 11), (0, 12), (0, 13), (0, 14), (0, 15), (3, 0), (3, 0), (1, 0), (1, 0), (1, 0), (3, 0), (3, 0), (3, 0), (3, 0), (3, 0), (1, 0), (1, 0), (1, 0), (1, 0), (3, 0), (3, 0), (1, 0), (3, 0), (1, 0), (1, 0), (1, 0), (1, 0)] : List (Nat × Nat)).set 32 (0, 16)))
def KM34 : List CD := KM33 ++ [.inr (0, 6720)]
theorem kl_KM34_0 : KM34[0]? = some (.inl (10, [(1, 0), (0, 1), (1, 0), (1, 0), (1, 0), (1, 0), (1, 0), (1, 0), (1, 0), (1, 0), (1, 0), (1, 0), (2, 0), (1, 0), (0, 2), (0, 3), (0, 4), (0, 5), (0, 6), (0, 7), (0, 8), (0, 9), (1, 0), (1, 0), (1, 0), (1, 0), (0, 10), (0, 11), (0, 12), (0, 13), (0, 14), (0, 15), (0, 16), (3, 0), (1, 0), (1, 0), (1, 0), (3, 0), (3, 0), (3, 0), (3, 0), (3, 0), (1, 0), (1, 0), (1, 0), (1, 0), (3, 0), (3, 0), (1, 0), (3, 0), (1, 0), (1, 0), (1, 0), (1, 0)])) := by decide +kernel
def KM35 : List CD := KM34.set 0 (.inl (10, ([(1, 0), (0, 1), (1, 0), (1, 0), (1, 0), (1, 0), (1, 0), (1, 0), (1, 0), (1, 0), (1, 0), (1, 0), (2, 0), (1, 0), (0, 2), (0, 3), (0, 4), (0, 5), (0, 6), (0, 7), (0, 8), (0, 9), (1, 0), (1, 0), (1, 0), (1, 0), (0, 10), (0, 11), (0, 12), (0, 13), (0, 14), (0, 15), (0, 16), (3, 0), (1, 0), (1, 0), (1, 0), (3, 0), (3, 0), (3, 0), (3, 0), (3, 0), (1, 0), (1, 0), (1, 0), (1, 0), (3, 0), (3, 0), (1, 0), (3, 0), (1, 0), (1, 0), (1, 0), (1, 0)] : List (Nat × Nat)).set 33 (0, 17)))
theorem kl_KM35_0 : KM35[0]? = some (.inl (10, [(1, 0), (0, 1), (1, 0), (1, 0), (1, 0), (1, 0), (1, 0), (1, 0), (1, 0), (1, 0), (1, 0), (1, 0), (2, 0), (1, 0), (0, 2), (0, 3), (0, 4), (0, 5), (0, 6), (0, 7), (0, 8), (0, 9), (1, 0), (1, 0), (1, 0), (1, 0), (0, 10), (0, 11), (0, 12), (0, 13), (0, 14), (0, 15), (0, 16), (0, 17), (1, 0), (1, 0), (1, 0), (3, 0), (3, 0), (3, 0), (3, 0), (3, 0), (1, 0), (1, 0), (1, 0), (1, 0), (3, 0), (3, 0), (1, 0), (3, 0), (1, 0), (1, 0), (1, 0), (1, 0)])) := by decide +kernel
def KMz1 : Me := u2 Z0 34 0 (-1)
def KM36 : List CD := KM35 ++ [.inr (3, 168)]
theorem kl_KM36_0 : KM36[0]? = some (.inl (10, [(1, 0), (0, 1), (1, 0), (1, 0), (1, 0), (1, 0), (1, 0), (1, 0), (1, 0), (1, 0), (1, 0), (1, 0), (2, 0), (1, 0), (0, 2), (0, 3), (0, 4), (0, 5), (0, 6), (0, 7), (0, 8), (0, 9), (1, 0), (1, 0), (1, 0), (1, 0), (0, 10), (0, 11), (0, 12), (0, 13), (0, 14), (0, 15), (0, 16), (0, 17), (1, 0), (1, 0), (1, 0), (3, 0), (3, 0), (3, 0), (3, 0), (3, 0), (1, 0), (1, 0), (1, 0), (1, 0), (3, 0), (3, 0), (1, 0), (3, 0), (1, 0), (1, 0), (1, 0), (1, 0)])) := by decide +kernel
def KM37 : List CD := KM36.set 0 (.inl (10, ([(1, 0), (0, 1), (1, 0), (1, 0), (1, 0), (1, 0), (1, 0), (1, 0), (1, 0), (1, 0), (1, 0), (1, 0), (2, 0), (1, 0), (0, 2), (0, 3), (0, 4), (0, 5), (0, 6), (0, 7), (0, 8), (0, 9), (1, 0), (1, 0), (1, 0), (1, 0), (0, 10), (0, 11), (0, 12), (0, 13), (0, 14), (0, 15), (0, 16), (0, 17), (1, 0), (1, 0), (1, 0), (3, 0), (3, 0), (3, 0), (3, 0), (3, 0), (1, 0), (1, 0), (1, 0), (1, 0), (3, 0), (3, 0), (1, 0), (3, 0), (1, 0), (1, 0), (1, 0), (1, 0)] : List (Nat × Nat)).set 37 (0, 18)))
def KM38 : List CD := KM37 ++ [.inr (0, 4)]
theorem kl_KM38_0 : KM38[0]? = some (.inl (10, [(1, 0), (0, 1), (1, 0), (1, 0), (1, 0), (1, 0), (1, 0), (1, 0), (1, 0), (1, 0), (1, 0), (1, 0), (2, 0), (1, 0), (0, 2), (0, 3), (0, 4), (0, 5), (0, 6), (0, 7), (0, 8), (0, 9), (1, 0), (1, 0), (1, 0), (1, 0), (0, 10), (0, 11), (0, 12), (0, 13), (0, 14), (0, 15), (0, 16), (0, 17), (1, 0), (1, 0), (1, 0), (0, 18), (3, 0), (3, 0), (3, 0), (3, 0), (1, 0), (1, 0), (1, 0), (1, 0), (3, 0), (3, 0), (1, 0), (3, 0), (1, 0), (1, 0), (1, 0), (1, 0)])) := by decide +kernel
def KM39 : List CD := KM38.set 0 (.inl (10, ([(1, 0), (0, 1), (1, 0), (1, 0), (1, 0), (1, 0), (1, 0), (1, 0), (1, 0), (1, 0), (1, 0), (1, 0), (2, 0), (1, 0), (0, 2), (0, 3), (0, 4), (0, 5), (0, 6), (0, 7), (0, 8), (0, 9), (1, 0), (1, 0), (1, 0), (1, 0), (0, 10), (0, 11), (0, 12), (0, 13), (0, 14), (0, 15), (0, 16), (0, 17), (1, 0), (1, 0), (1, 0), (0, 18), (3, 0), (3, 0), (3, 0), (3, 0), (1, 0), (1, 0), (1, 0), (1, 0), (3, 0), (3, 0), (1, 0), (3, 0), (1, 0), (1, 0), (1, 0), (1, 0)] : List (Nat × Nat)).set 38 (0, 19)))
def KM40 : List CD := KM39 ++ [.inr (0, 4)]
theorem kl_KM40_0 : KM40[0]? = some (.inl (10, [(1, 0), (0, 1), (1, 0), (1, 0), (1, 0), (1, 0), (1, 0), (1, 0), (1, 0), (1, 0), (1, 0), (1, 0), (2, 0), (1, 0), (0, 2), (0, 3), (0, 4), (0, 5), (0, 6), (0, 7), (0, 8), (0, 9), (1, 0), (1, 0), (1, 0), (1, 0), (0, 10), (0, 11), (0, 12), (0, 13), (0, 14), (0, 15), (0, 16), (0, 17), (1, 0), (1, 0), (1, 0), (0, 18), (0, 19), (3, 0), (3, 0), (3, 0), (1, 0), (1, 0), (1, 0), (1, 0), (3, 0), (3, 0), (1, 0), (3, 0), (1, 0), (1, 0), (1, 0), (1, 0)])) := by decide +kernel
def KM41 : List CD := KM40.set 0 (.inl (10, ([(1, 0), (0, 1), (1, 0), (1, 0), (1, 0), (1, 0), (1, 0), (1, 0), (1, 0), (1, 0), (1, 0), (1, 0), (2, 0), (1, 0), (0, 2), (0, 3), (0, 4), (0, 5), (0, 6), (0, 7), (0, 8), (0, 9), (1, 0), (1, 0), (1, 0), (1, 0), (0, 10), (0, 11), (0, 12), (0, 13), (0, 14), (0, 15), (0, 16), (0, 17), (1, 0), (1, 0), (1, 0), (0, 18), (0, 19), (3, 0), (3, 0), (3, 0), (1, 0), (1, 0), (1, 0), (1, 0), (3, 0), (3, 0), (1, 0), (3, 0), (1, 0), (1, 0), (1, 0), (1, 0)] : List (Nat × Nat)).set 39 (0, 20)))
def KM42 : List CD := KM41 ++ [.inr (0, 4)]
theorem kl_KM42_0 : KM42[0]? = some (.inl (10, [(1, 0), (0, 1), (1, 0), (1, 0), (1, 0), (1, 0), (1, 0), (1, 0), (1, 0), (1, 0), (1, 0), (1, 0), (2, 0), (1, 0), (0, 2), (0, 3), (0, 4), (0, 5), (0, 6), (0, 7), (0, 8), (0, 9), (1, 0), (1, 0), (1, 0), (1, 0), (0, 10), (0, 11), (0, 12), (0, 13), (0, 14), (0, 15), (0, 16), (0, 17), (1, 0), (1, 0), (1, 0), (0, 18), (0, 19), (0, 20), (3, 0), (3, 0), (1, 0), (1, 0), (1, 0), (1, 0), (3, 0), (3, 0), (1, 0), (3, 0), (1, 0), (1, 0), (1, 0), (1, 0)])) := by decide +kernel
def KM43 : List CD := KM42.set 0 (.inl (10, ([(1, 0), (0, 1), (1, 0), (1, 0), (1, 0), (1, 0), (1, 0), (1, 0), (1, 0), (1, 0), (1, 0), (1, 0), (2, 0), (1, 0), (0, 2), (0, 3), (0, 4), (0, 5), (0, 6), (0, 7), (0, 8), (0, 9), (1, 0), (1, 0), (1, 0), (1, 0), (0, 10), (0, 11), (0, 12), (0, 13), (0, 14), (0, 15), (0, 16), (0, 17), (1, 0), (1, 0), (1, 0), (0, 18), (0, 19), (0, 20), (3, 0), (3, 0), (1, 0), (1, 0), (1, 0), (1, 0), (3, 0), (3, 0), (1, 0), (3, 0), (1, 0), (1, 0), (1, 0), (1, 0)] : List (Nat × Nat)).set 40 (0, 21)))
def KM44 : List CD := KM43 ++ [.inr (0, 4)]
theorem kl_KM44_0 : KM44[0]? = some (.inl (10, [(1, 0), (0, 1), (1, 0), (1, 0), (1, 0), (1, 0), (1, 0), (1, 0), (1, 0), (1, 0), (1, 0), (1, 0), (2, 0), (1, 0), (0, 2), (0, 3), (0, 4), (0, 5), (0, 6), (0, 7), (0, 8), (0, 9), (1, 0), (1, 0), (1, 0), (1, 0), (0, 10), (0, 11), (0, 12), (0, 13), (0, 14), (0, 15), (0, 16), (0, 17), (1, 0), (1, 0), (1, 0), (0, 18), (0, 19), (0, 20), (0, 21), (3, 0), (1, 0), (1, 0), (1, 0), (1, 0), (3, 0), (3, 0), (1, 0), (3, 0), (1, 0), (1, 0), (1, 0), (1, 0)])) := by decide +kernel
def KM45 : List CD := KM44.set 0 (.inl (10, ([(1, 0), (0, 1), (1, 0), (1, 0), (1, 0), (1, 0), (1, 0), (1, 0), (1, 0), (1, 0), (1, 0), (1, 0), (2, 0), (1, 0), (0, 2), (0, 3), (0, 4), (0, 5), (0, 6), (0, 7), (0, 8), (0, 9), (1, 0), (1, 0), (1, 0), (1, 0), (0, 10), (0, 11), (0, 12), (0, 13), (0, 14), (0, 15), (0, 16), (0, 17), (1, 0), (1, 0), (1, 0), (0, 18), (0, 19), (0, 20), (0, 21), (3, 0), (1, 0), (1, 0), (1, 0), (1, 0), (3, 0), (3, 0), (1, 0), (3, 0), (1, 0), (1, 0), (1, 0), (1, 0)] : List (Nat × Nat)).set 41 (0, 22)))
def KM46 : List CD := KM45 ++ [.inr (0, 3)]
theorem kl_KM46_23 : KM46[23]? = some (.inr (0, 3)) := by decide +kernel
def KMz2 : Me := u2 KMz1 1472 0 (-1)
def KMz3 : Me := u2 KMz2 1472 1 (-1)
def KMz4 : Me := u2 KMz3 1472 2 (-1)
theorem kl_KM46_0 : KM46[0]? = some (.inl (10, [(1, 0), (0, 1), (1, 0), (1, 0), (1, 0), (1, 0), (1, 0), (1, 0), (1, 0), (1, 0), (1, 0), (1, 0), (2, 0), (1, 0), (0, 2), (0, 3), (0, 4), (0, 5), (0, 6), (0, 7), (0, 8), (0, 9), (1, 0), (1, 0), (1, 0), (1, 0), (0, 10), (0, 11), (0, 12), (0, 13), (0, 14), (0, 15), (0, 16), (0, 17), (1, 0), (1, 0), (1, 0), (0, 18), (0, 19), (0, 20), (0, 21), (0, 22), (1, 0), (1, 0), (1, 0), (1, 0), (3, 0), (3, 0), (1, 0), (3, 0), (1, 0), (1, 0), (1, 0), (1, 0)])) := by decide +kernel
def KM47 : List CD := KM46.set 0 (.inl (10, ([(1, 0), (0, 1), (1, 0), (1, 0), (1, 0), (1, 0), (1, 0), (1, 0), (1, 0), (1, 0), (1, 0), (1, 0), (2, 0), (1, 0), (0, 2), (0, 3), (0, 4), (0, 5), (0, 6), (0, 7), (0, 8), (0, 9), (1, 0), (1, 0), (1, 0), (1, 0), (0, 10), (0, 11), (0, 12), (0, 13), (0, 14), (0, 15), (0, 16), (0, 17), (1, 0), (1, 0), (1, 0), (0, 18), (0, 19), (0, 20), (0, 21), (0, 22), (1, 0), (1, 0), (1, 0), (1, 0), (3, 0), (3, 0), (1, 0), (3, 0), (1, 0), (1, 0), (1, 0), (1, 0)] : List (Nat × Nat)).set 46 (0, 23)))
def KM48 : List CD := KM47 ++ [.inr (0, 168)]
theorem kl_KM48_0 : KM48[0]? = some (.inl (10, [(1, 0), (0, 1), (1, 0), (1, 0), (1, 0), (1, 0), (1, 0), (1, 0), (1, 0), (1, 0), (1, 0), (1, 0), (2, 0), (1, 0), (0, 2), (0, 3), (0, 4), (0, 5), (0, 6), (0, 7), (0, 8), (0, 9), (1, 0), (1, 0), (1, 0), (1, 0), (0, 10), (0, 11), (0, 12), (0, 13), (0, 14), (0, 15), (0, 16), (0, 17), (1, 0), (1, 0), (1, 0), (0, 18), (0, 19), (0, 20), (0, 21), (0, 22), (1, 0), (1, 0), (1, 0), (1, 0), (0, 23), (3, 0), (1, 0), (3, 0), (1, 0), (1, 0), (1, 0), (1, 0)])) := by decide +kernel
def KM49 : List CD := KM48.set 0 (.inl (10, ([(1, 0), (0, 1), (1, 0), (1, 0), (1, 0), (1, 0), (1, 0), (1, 0), (1, 0), (1, 0), (1, 0), (1, 0), (2, 0), (1, 0), (0, 2), (0, 3), (0, 4), (0, 5), (0, 6), (0, 7), (0, 8), (0, 9), (1, 0), (1, 0), (1, 0), (1, 0), (0, 10), (0, 11), (0, 12), (0, 13), (0, 14), (0, 15), (0, 16), (0, 17), (1, 0), (1, 0), (1, 0), (0, 18), (0, 19), (0, 20), (0, 21), (0, 22), (1, 0), (1, 0), (1, 0), (1, 0), (0, 23), (3, 0), (1, 0), (3, 0), (1, 0), (1, 0), (1, 0), (1, 0)] : List (Nat × Nat)).set 47 (0, 24)))
def KM50 : List CD := KM49 ++ [.inr (0, 240)]
theorem kl_KM50_0 : KM50[0]? = some (.inl (10, [(1, 0), (0, 1), (1, 0), (1, 0), (1, 0), (1, 0), (1, 0), (1, 0), (1, 0), (1, 0), (1, 0), (1, 0), (2, 0), (1, 0), (0, 2), (0, 3), (0, 4), (0, 5), (0, 6), (0, 7), (0, 8), (0, 9), (1, 0), (1, 0), (1, 0), (1, 0), (0, 10), (0, 11), (0, 12), (0, 13), (0, 14), (0, 15), (0, 16), (0, 17), (1, 0), (1, 0), (1, 0), (0, 18), (0, 19), (0, 20), (0, 21), (0, 22), (1, 0), (1, 0), (1, 0), (1, 0), (0, 23), (0, 24), (1, 0), (3, 0), (1, 0), (1, 0), (1, 0), (1, 0)])) := by decide +kernel
def KM51 : List CD := KM50.set 0 (.inl (10, ([(1, 0), (0, 1), (1, 0), (1, 0), (1, 0), (1, 0), (1, 0), (1, 0), (1, 0), (1, 0), (1, 0), (1, 0), (2, 0), (1, 0), (0, 2), (0, 3), (0, 4), (0, 5), (0, 6), (0, 7), (0, 8), (0, 9), (1, 0), (1, 0), (1, 0), (1, 0), (0, 10), (0, 11), (0, 12), (0, 13), (0, 14), (0, 15), (0, 16), (0, 17), (1, 0), (1, 0), (1, 0), (0, 18), (0, 19), (0, 20), (0, 21), (0, 22), (1, 0), (1, 0), (1, 0), (1, 0), (0, 23), (0, 24), (1, 0), (3, 0), (1, 0), (1, 0), (1, 0), (1, 0)] : List (Nat × Nat)).set 49 (0, 25)))
set_option maxRecDepth 20000 in
theorem KM_c1_DyerBellsModel_222 : fk_B RX12 cX12_init 1 1 [(0, 2)] KM50 KMz4 [(27, 0), (2, 0)] 222 KM51 KMz4 [] 225 0 0 := fk_seq (nc := 0) (ns := 0) (nc1 := 0) (ns1 := 0) (kb_putR kp_RX12_88 kl_KM50_0 rfl dX12_init_222) kb_nil
set_option maxRecDepth 20000 in
theorem KM_c1_DyerBellsModel_220 : fk_B RX12 cX12_init 1 1 [(0, 2)] KM49 KMz4 [(0, 240), (2, 0)] 220 KM51 KMz4 [] 225 1 240 := fk_seq (nc := 1) (ns := 240) (nc1 := 0) (ns1 := 0) (kb_arr (by decide +kernel) (by decide) rfl wk_ar_int (by decide +kernel) (by decide +kernel) (by decide) dX12_init_220) KM_c1_DyerBellsModel_222
set_option maxRecDepth 20000 in
theorem KM_c1_DyerBellsModel_217 : fk_B RX12 cX12_init 1 1 [(0, 2)] KM49 KMz4 [(2, 0)] 217 KM51 KMz4 [] 225 1 240 := fk_seq (nc := 0) (ns := 0) (nc1 := 1) (ns1 := 240) (kb_sipush dX12_init_217) KM_c1_DyerBellsModel_220
set_option maxRecDepth 20000 in
theorem KM_c1_DyerBellsModel_216 : fk_B RX12 cX12_init 1 1 [(0, 2)] KM49 KMz4 [] 216 KM51 KMz4 [] 225 1 240 := fk_seq (nc := 0) (ns := 0) (nc1 := 1) (ns1 := 240) (kb_aload (j := 0) rfl dX12_init_216) KM_c1_DyerBellsModel_217
set_option maxRecDepth 20000 in
theorem KM_c1_DyerBellsModel_213 : fk_B RX12 cX12_init 1 1 [(0, 2)] KM48 KMz4 [(26, 0), (2, 0)] 213 KM51 KMz4 [] 225 1 240 := fk_seq (nc := 0) (ns := 0) (nc1 := 1) (ns1 := 240) (kb_putR kp_RX12_85 kl_KM48_0 rfl dX12_init_213) KM_c1_DyerBellsModel_216
set_option maxRecDepth 20000 in
theorem KM_c1_DyerBellsModel_211 : fk_B RX12 cX12_init 1 1 [(0, 2)] KM47 KMz4 [(0, 168), (2, 0)] 211 KM51 KMz4 [] 225 2 408 := fk_seq (nc := 1) (ns := 168) (nc1 := 1) (ns1 := 240) (kb_arr (by decide +kernel) (by decide) rfl wk_ar_int (by decide +kernel) (by decide +kernel) (by decide) dX12_init_211) KM_c1_DyerBellsModel_213
set_option maxRecDepth 20000 in
theorem KM_c1_DyerBellsModel_208 : fk_B RX12 cX12_init 1 1 [(0, 2)] KM47 KMz4 [(2, 0)] 208 KM51 KMz4 [] 225 2 408 := fk_seq (nc := 0) (ns := 0) (nc1 := 2) (ns1 := 408) (kb_sipush dX12_init_208) KM_c1_DyerBellsModel_211
set_option maxRecDepth 20000 in
theorem KM_c1_DyerBellsModel_207 : fk_B RX12 cX12_init 1 1 [(0, 2)] KM47 KMz4 [] 207 KM51 KMz4 [] 225 2 408 := fk_seq (nc := 0) (ns := 0) (nc1 := 2) (ns1 := 408) (kb_aload (j := 0) rfl dX12_init_207) KM_c1_DyerBellsModel_208
set_option maxRecDepth 20000 in
theorem KM_c1_DyerBellsModel_204 : fk_B RX12 cX12_init 1 1 [(0, 2)] KM46 KMz4 [(25, 0), (2, 0)] 204 KM51 KMz4 [] 225 2 408 := fk_seq (nc := 0) (ns := 0) (nc1 := 2) (ns1 := 408) (kb_putR kp_RX12_82 kl_KM46_0 rfl dX12_init_204) KM_c1_DyerBellsModel_207
set_option maxRecDepth 20000 in
theorem KM_c1_DyerBellsModel_203 : fk_B RX12 cX12_init 1 1 [(0, 2)] KM46 KMz3 [(0, (-1)), (0, 2), (25, 0), (25, 0), (2, 0)] 203 KM51 KMz4 [] 225 2 408 := fk_seq (nc := 0) (ns := 0) (nc1 := 2) (ns1 := 408) (kb_iast kl_KM46_23 (by decide +kernel) dX12_init_203) KM_c1_DyerBellsModel_204
set_option maxRecDepth 20000 in
theorem KM_c1_DyerBellsModel_202 : fk_B RX12 cX12_init 1 1 [(0, 2)] KM46 KMz3 [(0, 2), (25, 0), (25, 0), (2, 0)] 202 KM51 KMz4 [] 225 2 408 := fk_seq (nc := 0) (ns := 0) (nc1 := 2) (ns1 := 408) (kb_iconst dX12_init_202) KM_c1_DyerBellsModel_203
set_option maxRecDepth 20000 in
theorem KM_c1_DyerBellsModel_201 : fk_B RX12 cX12_init 1 1 [(0, 2)] KM46 KMz3 [(25, 0), (25, 0), (2, 0)] 201 KM51 KMz4 [] 225 2 408 := fk_seq (nc := 0) (ns := 0) (nc1 := 2) (ns1 := 408) (kb_iconst dX12_init_201) KM_c1_DyerBellsModel_202
set_option maxRecDepth 20000 in
theorem KM_c1_DyerBellsModel_200 : fk_B RX12 cX12_init 1 1 [(0, 2)] KM46 KMz3 [(25, 0), (2, 0)] 200 KM51 KMz4 [] 225 2 408 := fk_seq (nc := 0) (ns := 0) (nc1 := 2) (ns1 := 408) (kb_dup rfl dX12_init_200) KM_c1_DyerBellsModel_201
set_option maxRecDepth 20000 in
theorem KM_c1_DyerBellsModel_199 : fk_B RX12 cX12_init 1 1 [(0, 2)] KM46 KMz2 [(0, (-1)), (0, 1), (25, 0), (25, 0), (2, 0)] 199 KM51 KMz4 [] 225 2 408 := fk_seq (nc := 0) (ns := 0) (nc1 := 2) (ns1 := 408) (kb_iast kl_KM46_23 (by decide +kernel) dX12_init_199) KM_c1_DyerBellsModel_200
set_option maxRecDepth 20000 in
theorem KM_c1_DyerBellsModel_198 : fk_B RX12 cX12_init 1 1 [(0, 2)] KM46 KMz2 [(0, 1), (25, 0), (25, 0), (2, 0)] 198 KM51 KMz4 [] 225 2 408 := fk_seq (nc := 0) (ns := 0) (nc1 := 2) (ns1 := 408) (kb_iconst dX12_init_198) KM_c1_DyerBellsModel_199
set_option maxRecDepth 20000 in
theorem KM_c1_DyerBellsModel_197 : fk_B RX12 cX12_init 1 1 [(0, 2)] KM46 KMz2 [(25, 0), (25, 0), (2, 0)] 197 KM51 KMz4 [] 225 2 408 := fk_seq (nc := 0) (ns := 0) (nc1 := 2) (ns1 := 408) (kb_iconst dX12_init_197) KM_c1_DyerBellsModel_198
set_option maxRecDepth 20000 in
theorem KM_c1_DyerBellsModel_196 : fk_B RX12 cX12_init 1 1 [(0, 2)] KM46 KMz2 [(25, 0), (2, 0)] 196 KM51 KMz4 [] 225 2 408 := fk_seq (nc := 0) (ns := 0) (nc1 := 2) (ns1 := 408) (kb_dup rfl dX12_init_196) KM_c1_DyerBellsModel_197
set_option maxRecDepth 20000 in
theorem KM_c1_DyerBellsModel_195 : fk_B RX12 cX12_init 1 1 [(0, 2)] KM46 KMz1 [(0, (-1)), (0, 0), (25, 0), (25, 0), (2, 0)] 195 KM51 KMz4 [] 225 2 408 := fk_seq (nc := 0) (ns := 0) (nc1 := 2) (ns1 := 408) (kb_iast kl_KM46_23 (by decide +kernel) dX12_init_195) KM_c1_DyerBellsModel_196
set_option maxRecDepth 20000 in
theorem KM_c1_DyerBellsModel_194 : fk_B RX12 cX12_init 1 1 [(0, 2)] KM46 KMz1 [(0, 0), (25, 0), (25, 0), (2, 0)] 194 KM51 KMz4 [] 225 2 408 := fk_seq (nc := 0) (ns := 0) (nc1 := 2) (ns1 := 408) (kb_iconst dX12_init_194) KM_c1_DyerBellsModel_195
set_option maxRecDepth 20000 in
theorem KM_c1_DyerBellsModel_193 : fk_B RX12 cX12_init 1 1 [(0, 2)] KM46 KMz1 [(25, 0), (25, 0), (2, 0)] 193 KM51 KMz4 [] 225 2 408 := fk_seq (nc := 0) (ns := 0) (nc1 := 2) (ns1 := 408) (kb_iconst dX12_init_193) KM_c1_DyerBellsModel_194
set_option maxRecDepth 20000 in
theorem KM_c1_DyerBellsModel_192 : fk_B RX12 cX12_init 1 1 [(0, 2)] KM46 KMz1 [(25, 0), (2, 0)] 192 KM51 KMz4 [] 225 2 408 := fk_seq (nc := 0) (ns := 0) (nc1 := 2) (ns1 := 408) (kb_dup rfl dX12_init_192) KM_c1_DyerBellsModel_193
set_option maxRecDepth 20000 in
theorem KM_c1_DyerBellsModel_190 : fk_B RX12 cX12_init 1 1 [(0, 2)] KM45 KMz1 [(0, 3), (2, 0)] 190 KM51 KMz4 [] 225 3 411 := fk_seq (nc := 1) (ns := 3) (nc1 := 2) (ns1 := 408) (kb_arr (by decide +kernel) (by decide) rfl wk_ar_int (by decide +kernel) (by decide +kernel) (by decide) dX12_init_190) KM_c1_DyerBellsModel_192
set_option maxRecDepth 20000 in
theorem KM_c1_DyerBellsModel_189 : fk_B RX12 cX12_init 1 1 [(0, 2)] KM45 KMz1 [(2, 0)] 189 KM51 KMz4 [] 225 3 411 := fk_seq (nc := 0) (ns := 0) (nc1 := 3) (ns1 := 411) (kb_iconst dX12_init_189) KM_c1_DyerBellsModel_190
set_option maxRecDepth 20000 in
theorem KM_c1_DyerBellsModel_188 : fk_B RX12 cX12_init 1 1 [(0, 2)] KM45 KMz1 [] 188 KM51 KMz4 [] 225 3 411 := fk_seq (nc := 0) (ns := 0) (nc1 := 3) (ns1 := 411) (kb_aload (j := 0) rfl dX12_init_188) KM_c1_DyerBellsModel_189
set_option maxRecDepth 20000 in
theorem KM_c1_DyerBellsModel_185 : fk_B RX12 cX12_init 1 1 [(0, 2)] KM44 KMz1 [(24, 0), (2, 0)] 185 KM51 KMz4 [] 225 3 411 := fk_seq (nc := 0) (ns := 0) (nc1 := 3) (ns1 := 411) (kb_putR kp_RX12_79 kl_KM44_0 rfl dX12_init_185) KM_c1_DyerBellsModel_188
set_option maxRecDepth 20000 in
theorem KM_c1_DyerBellsModel_183 : fk_B RX12 cX12_init 1 1 [(0, 2)] KM43 KMz1 [(0, 4), (2, 0)] 183 KM51 KMz4 [] 225 4 415 := fk_seq (nc := 1) (ns := 4) (nc1 := 3) (ns1 := 411) (kb_arr (by decide +kernel) (by decide) rfl wk_ar_int (by decide +kernel) (by decide +kernel) (by decide) dX12_init_183) KM_c1_DyerBellsModel_185
set_option maxRecDepth 20000 in
theorem KM_c1_DyerBellsModel_182 : fk_B RX12 cX12_init 1 1 [(0, 2)] KM43 KMz1 [(2, 0)] 182 KM51 KMz4 [] 225 4 415 := fk_seq (nc := 0) (ns := 0) (nc1 := 4) (ns1 := 415) (kb_iconst dX12_init_182) KM_c1_DyerBellsModel_183
set_option maxRecDepth 20000 in
theorem KM_c1_DyerBellsModel_181 : fk_B RX12 cX12_init 1 1 [(0, 2)] KM43 KMz1 [] 181 KM51 KMz4 [] 225 4 415 := fk_seq (nc := 0) (ns := 0) (nc1 := 4) (ns1 := 415) (kb_aload (j := 0) rfl dX12_init_181) KM_c1_DyerBellsModel_182
set_option maxRecDepth 20000 in
theorem KM_c1_DyerBellsModel_178 : fk_B RX12 cX12_init 1 1 [(0, 2)] KM42 KMz1 [(23, 0), (2, 0)] 178 KM51 KMz4 [] 225 4 415 := fk_seq (nc := 0) (ns := 0) (nc1 := 4) (ns1 := 415) (kb_putR kp_RX12_76 kl_KM42_0 rfl dX12_init_178) KM_c1_DyerBellsModel_181
set_option maxRecDepth 20000 in
theorem KM_c1_DyerBellsModel_176 : fk_B RX12 cX12_init 1 1 [(0, 2)] KM41 KMz1 [(0, 4), (2, 0)] 176 KM51 KMz4 [] 225 5 419 := fk_seq (nc := 1) (ns := 4) (nc1 := 4) (ns1 := 415) (kb_arr (by decide +kernel) (by decide) rfl wk_ar_int (by decide +kernel) (by decide +kernel) (by decide) dX12_init_176) KM_c1_DyerBellsModel_178
set_option maxRecDepth 20000 in
theorem KM_c1_DyerBellsModel_175 : fk_B RX12 cX12_init 1 1 [(0, 2)] KM41 KMz1 [(2, 0)] 175 KM51 KMz4 [] 225 5 419 := fk_seq (nc := 0) (ns := 0) (nc1 := 5) (ns1 := 419) (kb_iconst dX12_init_175) KM_c1_DyerBellsModel_176
set_option maxRecDepth 20000 in
theorem KM_c1_DyerBellsModel_174 : fk_B RX12 cX12_init 1 1 [(0, 2)] KM41 KMz1 [] 174 KM51 KMz4 [] 225 5 419 := fk_seq (nc := 0) (ns := 0) (nc1 := 5) (ns1 := 419) (kb_aload (j := 0) rfl dX12_init_174) KM_c1_DyerBellsModel_175
set_option maxRecDepth 20000 in
theorem KM_c1_DyerBellsModel_171 : fk_B RX12 cX12_init 1 1 [(0, 2)] KM40 KMz1 [(22, 0), (2, 0)] 171 KM51 KMz4 [] 225 5 419 := fk_seq (nc := 0) (ns := 0) (nc1 := 5) (ns1 := 419) (kb_putR kp_RX12_73 kl_KM40_0 rfl dX12_init_171) KM_c1_DyerBellsModel_174
set_option maxRecDepth 20000 in
theorem KM_c1_DyerBellsModel_169 : fk_B RX12 cX12_init 1 1 [(0, 2)] KM39 KMz1 [(0, 4), (2, 0)] 169 KM51 KMz4 [] 225 6 423 := fk_seq (nc := 1) (ns := 4) (nc1 := 5) (ns1 := 419) (kb_arr (by decide +kernel) (by decide) rfl wk_ar_int (by decide +kernel) (by decide +kernel) (by decide) dX12_init_169) KM_c1_DyerBellsModel_171
set_option maxRecDepth 20000 in
theorem KM_c1_DyerBellsModel_168 : fk_B RX12 cX12_init 1 1 [(0, 2)] KM39 KMz1 [(2, 0)] 168 KM51 KMz4 [] 225 6 423 := fk_seq (nc := 0) (ns := 0) (nc1 := 6) (ns1 := 423) (kb_iconst dX12_init_168) KM_c1_DyerBellsModel_169
set_option maxRecDepth 20000 in
theorem KM_c1_DyerBellsModel_167 : fk_B RX12 cX12_init 1 1 [(0, 2)] KM39 KMz1 [] 167 KM51 KMz4 [] 225 6 423 := fk_seq (nc := 0) (ns := 0) (nc1 := 6) (ns1 := 423) (kb_aload (j := 0) rfl dX12_init_167) KM_c1_DyerBellsModel_168
set_option maxRecDepth 20000 in
theorem KM_c1_DyerBellsModel_164 : fk_B RX12 cX12_init 1 1 [(0, 2)] KM38 KMz1 [(21, 0), (2, 0)] 164 KM51 KMz4 [] 225 6 423 := fk_seq (nc := 0) (ns := 0) (nc1 := 6) (ns1 := 423) (kb_putR kp_RX12_70 kl_KM38_0 rfl dX12_init_164) KM_c1_DyerBellsModel_167
set_option maxRecDepth 20000 in
theorem KM_c1_DyerBellsModel_162 : fk_B RX12 cX12_init 1 1 [(0, 2)] KM37 KMz1 [(0, 4), (2, 0)] 162 KM51 KMz4 [] 225 7 427 := fk_seq (nc := 1) (ns := 4) (nc1 := 6) (ns1 := 423) (kb_arr (by decide +kernel) (by decide) rfl wk_ar_int (by decide +kernel) (by decide +kernel) (by decide) dX12_init_162) KM_c1_DyerBellsModel_164
set_option maxRecDepth 20000 in
theorem KM_c1_DyerBellsModel_161 : fk_B RX12 cX12_init 1 1 [(0, 2)] KM37 KMz1 [(2, 0)] 161 KM51 KMz4 [] 225 7 427 := fk_seq (nc := 0) (ns := 0) (nc1 := 7) (ns1 := 427) (kb_iconst dX12_init_161) KM_c1_DyerBellsModel_162
set_option maxRecDepth 20000 in
theorem KM_c1_DyerBellsModel_160 : fk_B RX12 cX12_init 1 1 [(0, 2)] KM37 KMz1 [] 160 KM51 KMz4 [] 225 7 427 := fk_seq (nc := 0) (ns := 0) (nc1 := 7) (ns1 := 427) (kb_aload (j := 0) rfl dX12_init_160) KM_c1_DyerBellsModel_161
set_option maxRecDepth 20000 in
theorem KM_c1_DyerBellsModel_157 : fk_B RX12 cX12_init 1 1 [(0, 2)] KM36 KMz1 [(20, 0), (2, 0)] 157 KM51 KMz4 [] 225 7 427 := fk_seq (nc := 0) (ns := 0) (nc1 := 7) (ns1 := 427) (kb_putR kp_RX12_67 kl_KM36_0 rfl dX12_init_157) KM_c1_DyerBellsModel_160
set_option maxRecDepth 20000 in
theorem KM_c1_DyerBellsModel_155 : fk_B RX12 cX12_init 1 1 [(0, 2)] KM35 KMz1 [(0, 168), (2, 0)] 155 KM51 KMz4 [] 225 8 595 := fk_seq (nc := 1) (ns := 168) (nc1 := 7) (ns1 := 427) (kb_arr (by decide +kernel) (by decide) rfl wk_ar_boolean (by decide +kernel) (by decide +kernel) (by decide) dX12_init_155) KM_c1_DyerBellsModel_157
set_option maxRecDepth 20000 in
theorem KM_c1_DyerBellsModel_152 : fk_B RX12 cX12_init 1 1 [(0, 2)] KM35 KMz1 [(2, 0)] 152 KM51 KMz4 [] 225 8 595 := fk_seq (nc := 0) (ns := 0) (nc1 := 8) (ns1 := 595) (kb_sipush dX12_init_152) KM_c1_DyerBellsModel_155
set_option maxRecDepth 20000 in
theorem KM_c1_DyerBellsModel_151 : fk_B RX12 cX12_init 1 1 [(0, 2)] KM35 KMz1 [] 151 KM51 KMz4 [] 225 8 595 := fk_seq (nc := 0) (ns := 0) (nc1 := 8) (ns1 := 595) (kb_aload (j := 0) rfl dX12_init_151) KM_c1_DyerBellsModel_152
set_option maxRecDepth 20000 in
theorem KM_c1_DyerBellsModel_148 : fk_B RX12 cX12_init 1 1 [(0, 2)] KM35 Z0 [(0, (-1)), (2, 0)] 148 KM51 KMz4 [] 225 8 595 := fk_seq (nc := 0) (ns := 0) (nc1 := 8) (ns1 := 595) (kb_putI fp_RX12_63 kl_KM35_0 rfl dX12_init_148) KM_c1_DyerBellsModel_151
set_option maxRecDepth 20000 in
theorem KM_c1_DyerBellsModel_147 : fk_B RX12 cX12_init 1 1 [(0, 2)] KM35 Z0 [(2, 0)] 147 KM51 KMz4 [] 225 8 595 := fk_seq (nc := 0) (ns := 0) (nc1 := 8) (ns1 := 595) (kb_iconst dX12_init_147) KM_c1_DyerBellsModel_148
set_option maxRecDepth 20000 in
theorem KM_c1_DyerBellsModel_146 : fk_B RX12 cX12_init 1 1 [(0, 2)] KM35 Z0 [] 146 KM51 KMz4 [] 225 8 595 := fk_seq (nc := 0) (ns := 0) (nc1 := 8) (ns1 := 595) (kb_aload (j := 0) rfl dX12_init_146) KM_c1_DyerBellsModel_147
set_option maxRecDepth 20000 in
theorem KM_c1_DyerBellsModel_143 : fk_B RX12 cX12_init 1 1 [(0, 2)] KM34 Z0 [(19, 0), (2, 0)] 143 KM51 KMz4 [] 225 8 595 := fk_seq (nc := 0) (ns := 0) (nc1 := 8) (ns1 := 595) (kb_putR kp_RX12_60 kl_KM34_0 rfl dX12_init_143) KM_c1_DyerBellsModel_146
set_option maxRecDepth 20000 in
theorem KM_c1_DyerBellsModel_141 : fk_B RX12 cX12_init 1 1 [(0, 2)] KM33 Z0 [(0, 6720), (2, 0)] 141 KM51 KMz4 [] 225 9 7315 := fk_seq (nc := 1) (ns := 6720) (nc1 := 8) (ns1 := 595) (kb_arr (by decide +kernel) (by decide) rfl wk_ar_int (by decide +kernel) (by decide +kernel) (by decide) dX12_init_141) KM_c1_DyerBellsModel_143
set_option maxRecDepth 20000 in
theorem KM_c1_DyerBellsModel_138 : fk_B RX12 cX12_init 1 1 [(0, 2)] KM33 Z0 [(2, 0)] 138 KM51 KMz4 [] 225 9 7315 := fk_seq (nc := 0) (ns := 0) (nc1 := 9) (ns1 := 7315) (kb_sipush dX12_init_138) KM_c1_DyerBellsModel_141
set_option maxRecDepth 20000 in
theorem KM_c1_DyerBellsModel_137 : fk_B RX12 cX12_init 1 1 [(0, 2)] KM33 Z0 [] 137 KM51 KMz4 [] 225 9 7315 := fk_seq (nc := 0) (ns := 0) (nc1 := 9) (ns1 := 7315) (kb_aload (j := 0) rfl dX12_init_137) KM_c1_DyerBellsModel_138
set_option maxRecDepth 20000 in
theorem KM_c1_DyerBellsModel_134 : fk_B RX12 cX12_init 1 1 [(0, 2)] KM32 Z0 [(18, 0), (2, 0)] 134 KM51 KMz4 [] 225 9 7315 := fk_seq (nc := 0) (ns := 0) (nc1 := 9) (ns1 := 7315) (kb_putR kp_RX12_57 kl_KM32_0 rfl dX12_init_134) KM_c1_DyerBellsModel_137
set_option maxRecDepth 20000 in
theorem KM_c1_DyerBellsModel_132 : fk_B RX12 cX12_init 1 1 [(0, 2)] KM31 Z0 [(0, 6720), (2, 0)] 132 KM51 KMz4 [] 225 10 14035 := fk_seq (nc := 1) (ns := 6720) (nc1 := 9) (ns1 := 7315) (kb_arr (by decide +kernel) (by decide) rfl wk_ar_int (by decide +kernel) (by decide +kernel) (by decide) dX12_init_132) KM_c1_DyerBellsModel_134
set_option maxRecDepth 20000 in
theorem KM_c1_DyerBellsModel_129 : fk_B RX12 cX12_init 1 1 [(0, 2)] KM31 Z0 [(2, 0)] 129 KM51 KMz4 [] 225 10 14035 := fk_seq (nc := 0) (ns := 0) (nc1 := 10) (ns1 := 14035) (kb_sipush dX12_init_129) KM_c1_DyerBellsModel_132
set_option maxRecDepth 20000 in
theorem KM_c1_DyerBellsModel_128 : fk_B RX12 cX12_init 1 1 [(0, 2)] KM31 Z0 [] 128 KM51 KMz4 [] 225 10 14035 := fk_seq (nc := 0) (ns := 0) (nc1 := 10) (ns1 := 14035) (kb_aload (j := 0) rfl dX12_init_128) KM_c1_DyerBellsModel_129
set_option maxRecDepth 20000 in
theorem KM_c1_DyerBellsModel_125 : fk_B RX12 cX12_init 1 1 [(0, 2)] KM30 Z0 [(17, 0), (2, 0)] 125 KM51 KMz4 [] 225 10 14035 := fk_seq (nc := 0) (ns := 0) (nc1 := 10) (ns1 := 14035) (kb_putR kp_RX12_54 kl_KM30_0 rfl dX12_init_125) KM_c1_DyerBellsModel_128
set_option maxRecDepth 20000 in
theorem KM_c1_DyerBellsModel_123 : fk_B RX12 cX12_init 1 1 [(0, 2)] KM29 Z0 [(0, 7), (2, 0)] 123 KM51 KMz4 [] 225 11 14042 := fk_seq (nc := 1) (ns := 7) (nc1 := 10) (ns1 := 14035) (kb_arr (by decide +kernel) (by decide) rfl wk_ar_int (by decide +kernel) (by decide +kernel) (by decide) dX12_init_123) KM_c1_DyerBellsModel_125
set_option maxRecDepth 20000 in
theorem KM_c1_DyerBellsModel_121 : fk_B RX12 cX12_init 1 1 [(0, 2)] KM29 Z0 [(2, 0)] 121 KM51 KMz4 [] 225 11 14042 := fk_seq (nc := 0) (ns := 0) (nc1 := 11) (ns1 := 14042) (kb_bipush dX12_init_121) KM_c1_DyerBellsModel_123
set_option maxRecDepth 20000 in
theorem KM_c1_DyerBellsModel_120 : fk_B RX12 cX12_init 1 1 [(0, 2)] KM29 Z0 [] 120 KM51 KMz4 [] 225 11 14042 := fk_seq (nc := 0) (ns := 0) (nc1 := 11) (ns1 := 14042) (kb_aload (j := 0) rfl dX12_init_120) KM_c1_DyerBellsModel_121
set_option maxRecDepth 20000 in
theorem KM_c1_DyerBellsModel_117 : fk_B RX12 cX12_init 1 1 [(0, 2)] KM28 Z0 [(16, 0), (2, 0)] 117 KM51 KMz4 [] 225 11 14042 := fk_seq (nc := 0) (ns := 0) (nc1 := 11) (ns1 := 14042) (kb_putR kp_RX12_51 kl_KM28_0 rfl dX12_init_117) KM_c1_DyerBellsModel_120
set_option maxRecDepth 20000 in
theorem KM_c1_DyerBellsModel_115 : fk_B RX12 cX12_init 1 1 [(0, 2)] KM27 Z0 [(0, 4), (2, 0)] 115 KM51 KMz4 [] 225 12 14046 := fk_seq (nc := 1) (ns := 4) (nc1 := 11) (ns1 := 14042) (kb_arr (by decide +kernel) (by decide) rfl wk_ar_int (by decide +kernel) (by decide +kernel) (by decide) dX12_init_115) KM_c1_DyerBellsModel_117
set_option maxRecDepth 20000 in
theorem KM_c1_DyerBellsModel_114 : fk_B RX12 cX12_init 1 1 [(0, 2)] KM27 Z0 [(2, 0)] 114 KM51 KMz4 [] 225 12 14046 := fk_seq (nc := 0) (ns := 0) (nc1 := 12) (ns1 := 14046) (kb_iconst dX12_init_114) KM_c1_DyerBellsModel_115
set_option maxRecDepth 20000 in
theorem KM_c1_DyerBellsModel_113 : fk_B RX12 cX12_init 1 1 [(0, 2)] KM27 Z0 [] 113 KM51 KMz4 [] 225 12 14046 := fk_seq (nc := 0) (ns := 0) (nc1 := 12) (ns1 := 14046) (kb_aload (j := 0) rfl dX12_init_113) KM_c1_DyerBellsModel_114
set_option maxRecDepth 20000 in
theorem KM_c1_DyerBellsModel_110 : fk_B RX12 cX12_init 1 1 [(0, 2)] KM26 Z0 [(15, 0), (2, 0)] 110 KM51 KMz4 [] 225 12 14046 := fk_seq (nc := 0) (ns := 0) (nc1 := 12) (ns1 := 14046) (kb_putR kp_RX12_48 kl_KM26_0 rfl dX12_init_110) KM_c1_DyerBellsModel_113
set_option maxRecDepth 20000 in
theorem KM_c1_DyerBellsModel_108 : fk_B RX12 cX12_init 1 1 [(0, 2)] KM25 Z0 [(0, 672), (2, 0)] 108 KM51 KMz4 [] 225 13 14718 := fk_seq (nc := 1) (ns := 672) (nc1 := 12) (ns1 := 14046) (kb_arr (by decide +kernel) (by decide) rfl wk_ar_int (by decide +kernel) (by decide +kernel) (by decide) dX12_init_108) KM_c1_DyerBellsModel_110
set_option maxRecDepth 20000 in
theorem KM_c1_DyerBellsModel_105 : fk_B RX12 cX12_init 1 1 [(0, 2)] KM25 Z0 [(2, 0)] 105 KM51 KMz4 [] 225 13 14718 := fk_seq (nc := 0) (ns := 0) (nc1 := 13) (ns1 := 14718) (kb_sipush dX12_init_105) KM_c1_DyerBellsModel_108
set_option maxRecDepth 20000 in
theorem KM_c1_DyerBellsModel_104 : fk_B RX12 cX12_init 1 1 [(0, 2)] KM25 Z0 [] 104 KM51 KMz4 [] 225 13 14718 := fk_seq (nc := 0) (ns := 0) (nc1 := 13) (ns1 := 14718) (kb_aload (j := 0) rfl dX12_init_104) KM_c1_DyerBellsModel_105
set_option maxRecDepth 20000 in
theorem KM_c1_DyerBellsModel_101 : fk_B RX12 cX12_init 1 1 [(0, 2)] KM24 Z0 [(14, 0), (2, 0)] 101 KM51 KMz4 [] 225 13 14718 := fk_seq (nc := 0) (ns := 0) (nc1 := 13) (ns1 := 14718) (kb_putR kp_RX12_45 kl_KM24_0 rfl dX12_init_101) KM_c1_DyerBellsModel_104
set_option maxRecDepth 20000 in
theorem KM_c1_DyerBellsModel_99 : fk_B RX12 cX12_init 1 1 [(0, 2)] KM23 Z0 [(0, 40), (2, 0)] 99 KM51 KMz4 [] 225 14 14758 := fk_seq (nc := 1) (ns := 40) (nc1 := 13) (ns1 := 14718) (kb_arr (by decide +kernel) (by decide) rfl wk_ar_int (by decide +kernel) (by decide +kernel) (by decide) dX12_init_99) KM_c1_DyerBellsModel_101
set_option maxRecDepth 20000 in
theorem KM_c1_DyerBellsModel_97 : fk_B RX12 cX12_init 1 1 [(0, 2)] KM23 Z0 [(2, 0)] 97 KM51 KMz4 [] 225 14 14758 := fk_seq (nc := 0) (ns := 0) (nc1 := 14) (ns1 := 14758) (kb_bipush dX12_init_97) KM_c1_DyerBellsModel_99
set_option maxRecDepth 20000 in
theorem KM_c1_DyerBellsModel_96 : fk_B RX12 cX12_init 1 1 [(0, 2)] KM23 Z0 [] 96 KM51 KMz4 [] 225 14 14758 := fk_seq (nc := 0) (ns := 0) (nc1 := 14) (ns1 := 14758) (kb_aload (j := 0) rfl dX12_init_96) KM_c1_DyerBellsModel_97
set_option maxRecDepth 20000 in
theorem KM_c1_DyerBellsModel_93 : fk_B RX12 cX12_init 1 1 [(0, 2)] KM22 Z0 [(13, 0), (2, 0)] 93 KM51 KMz4 [] 225 14 14758 := fk_seq (nc := 0) (ns := 0) (nc1 := 14) (ns1 := 14758) (kb_putR kp_RX12_42 kl_KM22_0 rfl dX12_init_93) KM_c1_DyerBellsModel_96
set_option maxRecDepth 20000 in
theorem KM_c1_DyerBellsModel_91 : fk_B RX12 cX12_init 1 1 [(0, 2)] KM21 Z0 [(0, 40), (2, 0)] 91 KM51 KMz4 [] 225 15 14798 := fk_seq (nc := 1) (ns := 40) (nc1 := 14) (ns1 := 14758) (kb_arr (by decide +kernel) (by decide) rfl wk_ar_int (by decide +kernel) (by decide +kernel) (by decide) dX12_init_91) KM_c1_DyerBellsModel_93
set_option maxRecDepth 20000 in
theorem KM_c1_DyerBellsModel_89 : fk_B RX12 cX12_init 1 1 [(0, 2)] KM21 Z0 [(2, 0)] 89 KM51 KMz4 [] 225 15 14798 := fk_seq (nc := 0) (ns := 0) (nc1 := 15) (ns1 := 14798) (kb_bipush dX12_init_89) KM_c1_DyerBellsModel_91
set_option maxRecDepth 20000 in
theorem KM_c1_DyerBellsModel_88 : fk_B RX12 cX12_init 1 1 [(0, 2)] KM21 Z0 [] 88 KM51 KMz4 [] 225 15 14798 := fk_seq (nc := 0) (ns := 0) (nc1 := 15) (ns1 := 14798) (kb_aload (j := 0) rfl dX12_init_88) KM_c1_DyerBellsModel_89
set_option maxRecDepth 20000 in
theorem KM_c1_DyerBellsModel_85 : fk_B RX12 cX12_init 1 1 [(0, 2)] KM20 Z0 [(12, 0), (2, 0)] 85 KM51 KMz4 [] 225 15 14798 := fk_seq (nc := 0) (ns := 0) (nc1 := 15) (ns1 := 14798) (kb_putR kp_RX12_39 kl_KM20_0 rfl dX12_init_85) KM_c1_DyerBellsModel_88
set_option maxRecDepth 20000 in
theorem KM_c1_DyerBellsModel_83 : fk_B RX12 cX12_init 1 1 [(0, 2)] KM19 Z0 [(0, 168), (2, 0)] 83 KM51 KMz4 [] 225 16 14966 := fk_seq (nc := 1) (ns := 168) (nc1 := 15) (ns1 := 14798) (kb_arr (by decide +kernel) (by decide) rfl wk_ar_int (by decide +kernel) (by decide +kernel) (by decide) dX12_init_83) KM_c1_DyerBellsModel_85
set_option maxRecDepth 20000 in
theorem KM_c1_DyerBellsModel_80 : fk_B RX12 cX12_init 1 1 [(0, 2)] KM19 Z0 [(2, 0)] 80 KM51 KMz4 [] 225 16 14966 := fk_seq (nc := 0) (ns := 0) (nc1 := 16) (ns1 := 14966) (kb_sipush dX12_init_80) KM_c1_DyerBellsModel_83
set_option maxRecDepth 20000 in
theorem KM_c1_DyerBellsModel_79 : fk_B RX12 cX12_init 1 1 [(0, 2)] KM19 Z0 [] 79 KM51 KMz4 [] 225 16 14966 := fk_seq (nc := 0) (ns := 0) (nc1 := 16) (ns1 := 14966) (kb_aload (j := 0) rfl dX12_init_79) KM_c1_DyerBellsModel_80
set_option maxRecDepth 20000 in
theorem KM_c1_DyerBellsModel_76 : fk_B RX12 cX12_init 1 1 [(0, 2)] KM18 Z0 [(11, 0), (2, 0)] 76 KM51 KMz4 [] 225 16 14966 := fk_seq (nc := 0) (ns := 0) (nc1 := 16) (ns1 := 14966) (kb_putR kp_RX12_35 kl_KM18_0 rfl dX12_init_76) KM_c1_DyerBellsModel_79
set_option maxRecDepth 20000 in
theorem KM_c1_DyerBellsModel_74 : fk_B RX12 cX12_init 1 1 [(0, 2)] KM17 Z0 [(0, 2), (2, 0)] 74 KM51 KMz4 [] 225 17 14968 := fk_seq (nc := 1) (ns := 2) (nc1 := 16) (ns1 := 14966) (kb_arr (by decide +kernel) (by decide) rfl wk_ar_boolean (by decide +kernel) (by decide +kernel) (by decide) dX12_init_74) KM_c1_DyerBellsModel_76
set_option maxRecDepth 20000 in
theorem KM_c1_DyerBellsModel_73 : fk_B RX12 cX12_init 1 1 [(0, 2)] KM17 Z0 [(2, 0)] 73 KM51 KMz4 [] 225 17 14968 := fk_seq (nc := 0) (ns := 0) (nc1 := 17) (ns1 := 14968) (kb_iconst dX12_init_73) KM_c1_DyerBellsModel_74
set_option maxRecDepth 20000 in
theorem KM_c1_DyerBellsModel_72 : fk_B RX12 cX12_init 1 1 [(0, 2)] KM17 Z0 [] 72 KM51 KMz4 [] 225 17 14968 := fk_seq (nc := 0) (ns := 0) (nc1 := 17) (ns1 := 14968) (kb_aload (j := 0) rfl dX12_init_72) KM_c1_DyerBellsModel_73
set_option maxRecDepth 20000 in
theorem KM_c1_DyerBellsModel_69 : fk_B RX12 cX12_init 1 1 [(0, 2)] KM16 Z0 [(10, 0), (2, 0)] 69 KM51 KMz4 [] 225 17 14968 := fk_seq (nc := 0) (ns := 0) (nc1 := 17) (ns1 := 14968) (kb_putR kp_RX12_32 kl_KM16_0 rfl dX12_init_69) KM_c1_DyerBellsModel_72
set_option maxRecDepth 20000 in
theorem KM_c1_DyerBellsModel_67 : fk_B RX12 cX12_init 1 1 [(0, 2)] KM15 Z0 [(0, 52), (2, 0)] 67 KM51 KMz4 [] 225 18 15020 := fk_seq (nc := 1) (ns := 52) (nc1 := 17) (ns1 := 14968) (kb_arr (by decide +kernel) (by decide) rfl wk_ar_long (by decide +kernel) (by decide +kernel) (by decide) dX12_init_67) KM_c1_DyerBellsModel_69
set_option maxRecDepth 20000 in
theorem KM_c1_DyerBellsModel_65 : fk_B RX12 cX12_init 1 1 [(0, 2)] KM15 Z0 [(2, 0)] 65 KM51 KMz4 [] 225 18 15020 := fk_seq (nc := 0) (ns := 0) (nc1 := 18) (ns1 := 15020) (kb_bipush dX12_init_65) KM_c1_DyerBellsModel_67
set_option maxRecDepth 20000 in
theorem KM_c1_DyerBellsModel_64 : fk_B RX12 cX12_init 1 1 [(0, 2)] KM15 Z0 [] 64 KM51 KMz4 [] 225 18 15020 := fk_seq (nc := 0) (ns := 0) (nc1 := 18) (ns1 := 15020) (kb_aload (j := 0) rfl dX12_init_64) KM_c1_DyerBellsModel_65
set_option maxRecDepth 20000 in
theorem KM_c1_DyerBellsModel_61 : fk_B RX12 cX12_init 1 1 [(0, 2)] KM14 Z0 [(9, 0), (2, 0)] 61 KM51 KMz4 [] 225 18 15020 := fk_seq (nc := 0) (ns := 0) (nc1 := 18) (ns1 := 15020) (kb_putR kp_RX12_29 kl_KM14_0 rfl dX12_init_61) KM_c1_DyerBellsModel_64
set_option maxRecDepth 20000 in
theorem KM_c1_DyerBellsModel_59 : fk_B RX12 cX12_init 1 1 [(0, 2)] KM13 Z0 [(0, 26), (2, 0)] 59 KM51 KMz4 [] 225 19 15046 := fk_seq (nc := 1) (ns := 26) (nc1 := 18) (ns1 := 15020) (kb_arr (by decide +kernel) (by decide) rfl wk_ar_long (by decide +kernel) (by decide +kernel) (by decide) dX12_init_59) KM_c1_DyerBellsModel_61
set_option maxRecDepth 20000 in
theorem KM_c1_DyerBellsModel_57 : fk_B RX12 cX12_init 1 1 [(0, 2)] KM13 Z0 [(2, 0)] 57 KM51 KMz4 [] 225 19 15046 := fk_seq (nc := 0) (ns := 0) (nc1 := 19) (ns1 := 15046) (kb_bipush dX12_init_57) KM_c1_DyerBellsModel_59
set_option maxRecDepth 20000 in
theorem KM_c1_DyerBellsModel_56 : fk_B RX12 cX12_init 1 1 [(0, 2)] KM13 Z0 [] 56 KM51 KMz4 [] 225 19 15046 := fk_seq (nc := 0) (ns := 0) (nc1 := 19) (ns1 := 15046) (kb_aload (j := 0) rfl dX12_init_56) KM_c1_DyerBellsModel_57
set_option maxRecDepth 20000 in
theorem KM_c1_DyerBellsModel_53 : fk_B RX12 cX12_init 1 1 [(0, 2)] KM12 Z0 [(8, 0), (2, 0)] 53 KM51 KMz4 [] 225 19 15046 := fk_seq (nc := 0) (ns := 0) (nc1 := 19) (ns1 := 15046) (kb_putR kp_RX12_25 kl_KM12_0 rfl dX12_init_53) KM_c1_DyerBellsModel_56
set_option maxRecDepth 20000 in
theorem KM_c1_DyerBellsModel_51 : fk_B RX12 cX12_init 1 1 [(0, 2)] KM11 Z0 [(0, 26), (2, 0)] 51 KM51 KMz4 [] 225 20 15072 := fk_seq (nc := 1) (ns := 26) (nc1 := 19) (ns1 := 15046) (kb_arr (by decide +kernel) (by decide) rfl wk_ar_long (by decide +kernel) (by decide +kernel) (by decide) dX12_init_51) KM_c1_DyerBellsModel_53
set_option maxRecDepth 20000 in
theorem KM_c1_DyerBellsModel_49 : fk_B RX12 cX12_init 1 1 [(0, 2)] KM11 Z0 [(2, 0)] 49 KM51 KMz4 [] 225 20 15072 := fk_seq (nc := 0) (ns := 0) (nc1 := 20) (ns1 := 15072) (kb_bipush dX12_init_49) KM_c1_DyerBellsModel_51
set_option maxRecDepth 20000 in
theorem KM_c1_DyerBellsModel_48 : fk_B RX12 cX12_init 1 1 [(0, 2)] KM11 Z0 [] 48 KM51 KMz4 [] 225 20 15072 := fk_seq (nc := 0) (ns := 0) (nc1 := 20) (ns1 := 15072) (kb_aload (j := 0) rfl dX12_init_48) KM_c1_DyerBellsModel_49
set_option maxRecDepth 20000 in
theorem KM_c1_DyerBellsModel_45 : fk_B RX12 cX12_init 1 1 [(0, 2)] KM10 Z0 [(7, 0), (2, 0)] 45 KM51 KMz4 [] 225 20 15072 := fk_seq (nc := 0) (ns := 0) (nc1 := 20) (ns1 := 15072) (kb_putR kp_RX12_22 kl_KM10_0 rfl dX12_init_45) KM_c1_DyerBellsModel_48
set_option maxRecDepth 20000 in
theorem KM_c1_DyerBellsModel_43 : fk_B RX12 cX12_init 1 1 [(0, 2)] KM9 Z0 [(0, 120), (2, 0)] 43 KM51 KMz4 [] 225 21 15192 := fk_seq (nc := 1) (ns := 120) (nc1 := 20) (ns1 := 15072) (kb_arr (by decide +kernel) (by decide) rfl wk_ar_int (by decide +kernel) (by decide +kernel) (by decide) dX12_init_43) KM_c1_DyerBellsModel_45
set_option maxRecDepth 20000 in
theorem KM_c1_DyerBellsModel_41 : fk_B RX12 cX12_init 1 1 [(0, 2)] KM9 Z0 [(2, 0)] 41 KM51 KMz4 [] 225 21 15192 := fk_seq (nc := 0) (ns := 0) (nc1 := 21) (ns1 := 15192) (kb_bipush dX12_init_41) KM_c1_DyerBellsModel_43
set_option maxRecDepth 20000 in
theorem KM_c1_DyerBellsModel_40 : fk_B RX12 cX12_init 1 1 [(0, 2)] KM9 Z0 [] 40 KM51 KMz4 [] 225 21 15192 := fk_seq (nc := 0) (ns := 0) (nc1 := 21) (ns1 := 15192) (kb_aload (j := 0) rfl dX12_init_40) KM_c1_DyerBellsModel_41
set_option maxRecDepth 20000 in
theorem KM_c1_DyerBellsModel_37 : fk_B RX12 cX12_init 1 1 [(0, 2)] KM8 Z0 [(6, 0), (2, 0)] 37 KM51 KMz4 [] 225 21 15192 := fk_seq (nc := 0) (ns := 0) (nc1 := 21) (ns1 := 15192) (kb_putR kp_RX12_19 kl_KM8_0 rfl dX12_init_37) KM_c1_DyerBellsModel_40
set_option maxRecDepth 20000 in
theorem KM_c1_DyerBellsModel_35 : fk_B RX12 cX12_init 1 1 [(0, 2)] KM7 Z0 [(0, 1184), (2, 0)] 35 KM51 KMz4 [] 225 22 16376 := fk_seq (nc := 1) (ns := 1184) (nc1 := 21) (ns1 := 15192) (kb_arr (by decide +kernel) (by decide) rfl wk_ar_int (by decide +kernel) (by decide +kernel) (by decide) dX12_init_35) KM_c1_DyerBellsModel_37
set_option maxRecDepth 20000 in
theorem KM_c1_DyerBellsModel_32 : fk_B RX12 cX12_init 1 1 [(0, 2)] KM7 Z0 [(2, 0)] 32 KM51 KMz4 [] 225 22 16376 := fk_seq (nc := 0) (ns := 0) (nc1 := 22) (ns1 := 16376) (kb_sipush dX12_init_32) KM_c1_DyerBellsModel_35
set_option maxRecDepth 20000 in
theorem KM_c1_DyerBellsModel_31 : fk_B RX12 cX12_init 1 1 [(0, 2)] KM7 Z0 [] 31 KM51 KMz4 [] 225 22 16376 := fk_seq (nc := 0) (ns := 0) (nc1 := 22) (ns1 := 16376) (kb_aload (j := 0) rfl dX12_init_31) KM_c1_DyerBellsModel_32
set_option maxRecDepth 20000 in
theorem KM_c1_DyerBellsModel_28 : fk_B RX12 cX12_init 1 1 [(0, 2)] KM6 Z0 [(5, 0), (2, 0)] 28 KM51 KMz4 [] 225 22 16376 := fk_seq (nc := 0) (ns := 0) (nc1 := 22) (ns1 := 16376) (kb_putR kp_RX12_16 kl_KM6_0 rfl dX12_init_28) KM_c1_DyerBellsModel_31
set_option maxRecDepth 20000 in
theorem KM_c1_DyerBellsModel_26 : fk_B RX12 cX12_init 1 1 [(0, 2)] KM5 Z0 [(0, 160), (2, 0)] 26 KM51 KMz4 [] 225 23 16536 := fk_seq (nc := 1) (ns := 160) (nc1 := 22) (ns1 := 16376) (kb_arr (by decide +kernel) (by decide) rfl wk_ar_int (by decide +kernel) (by decide +kernel) (by decide) dX12_init_26) KM_c1_DyerBellsModel_28
set_option maxRecDepth 20000 in
theorem KM_c1_DyerBellsModel_23 : fk_B RX12 cX12_init 1 1 [(0, 2)] KM5 Z0 [(2, 0)] 23 KM51 KMz4 [] 225 23 16536 := fk_seq (nc := 0) (ns := 0) (nc1 := 23) (ns1 := 16536) (kb_sipush dX12_init_23) KM_c1_DyerBellsModel_26
set_option maxRecDepth 20000 in
theorem KM_c1_DyerBellsModel_22 : fk_B RX12 cX12_init 1 1 [(0, 2)] KM5 Z0 [] 22 KM51 KMz4 [] 225 23 16536 := fk_seq (nc := 0) (ns := 0) (nc1 := 23) (ns1 := 16536) (kb_aload (j := 0) rfl dX12_init_22) KM_c1_DyerBellsModel_23
set_option maxRecDepth 20000 in
theorem KM_c1_DyerBellsModel_19 : fk_B RX12 cX12_init 1 1 [(0, 2)] KM4 Z0 [(4, 0), (2, 0)] 19 KM51 KMz4 [] 225 23 16536 := fk_seq (nc := 0) (ns := 0) (nc1 := 23) (ns1 := 16536) (kb_putR kp_RX12_13 kl_KM4_0 rfl dX12_init_19) KM_c1_DyerBellsModel_22
set_option maxRecDepth 20000 in
theorem KM_c1_DyerBellsModel_17 : fk_B RX12 cX12_init 1 1 [(0, 2)] KM3 Z0 [(0, 592), (2, 0)] 17 KM51 KMz4 [] 225 24 17128 := fk_seq (nc := 1) (ns := 592) (nc1 := 23) (ns1 := 16536) (kb_arr (by decide +kernel) (by decide) rfl wk_ar_int (by decide +kernel) (by decide +kernel) (by decide) dX12_init_17) KM_c1_DyerBellsModel_19
set_option maxRecDepth 20000 in
theorem KM_c1_DyerBellsModel_14 : fk_B RX12 cX12_init 1 1 [(0, 2)] KM3 Z0 [(2, 0)] 14 KM51 KMz4 [] 225 24 17128 := fk_seq (nc := 0) (ns := 0) (nc1 := 24) (ns1 := 17128) (kb_sipush dX12_init_14) KM_c1_DyerBellsModel_17
set_option maxRecDepth 20000 in
theorem KM_c1_DyerBellsModel_13 : fk_B RX12 cX12_init 1 1 [(0, 2)] KM3 Z0 [] 13 KM51 KMz4 [] 225 24 17128 := fk_seq (nc := 0) (ns := 0) (nc1 := 24) (ns1 := 17128) (kb_aload (j := 0) rfl dX12_init_13) KM_c1_DyerBellsModel_14
set_option maxRecDepth 20000 in
theorem KM_c1_DyerBellsModel_10 : fk_B RX12 cX12_init 1 1 [(0, 2)] KM2 Z0 [(3, 0), (2, 0)] 10 KM51 KMz4 [] 225 24 17128 := fk_seq (nc := 0) (ns := 0) (nc1 := 24) (ns1 := 17128) (kb_putR kp_RX12_7 kl_KM2_0 rfl dX12_init_10) KM_c1_DyerBellsModel_13
set_option maxRecDepth 20000 in
theorem KM_c1_DyerBellsModel_8 : fk_B RX12 cX12_init 1 1 [(0, 2)] KM1 Z0 [(0, 940), (2, 0)] 8 KM51 KMz4 [] 225 25 18068 := fk_seq (nc := 1) (ns := 940) (nc1 := 24) (ns1 := 17128) (kb_arr (by decide +kernel) (by decide) rfl wk_ar_int (by decide +kernel) (by decide +kernel) (by decide) dX12_init_8) KM_c1_DyerBellsModel_10
set_option maxRecDepth 20000 in
theorem KM_c1_DyerBellsModel_5 : fk_B RX12 cX12_init 1 1 [(0, 2)] KM1 Z0 [(2, 0)] 5 KM51 KMz4 [] 225 25 18068 := fk_seq (nc := 0) (ns := 0) (nc1 := 25) (ns1 := 18068) (kb_sipush dX12_init_5) KM_c1_DyerBellsModel_8
set_option maxRecDepth 20000 in
theorem KM_c1_DyerBellsModel_4 : fk_B RX12 cX12_init 1 1 [(0, 2)] KM1 Z0 [] 4 KM51 KMz4 [] 225 25 18068 := fk_seq (nc := 0) (ns := 0) (nc1 := 25) (ns1 := 18068) (kb_aload (j := 0) rfl dX12_init_4) KM_c1_DyerBellsModel_5
set_option maxRecDepth 20000 in
theorem KM_c1_DyerBellsModel_1 : fk_B RX12 cX12_init 1 1 [(0, 2)] KM1 Z0 [(2, 0)] 1 KM51 KMz4 [] 225 25 18068 := fk_seq (nc := 0) (ns := 0) (nc1 := 25) (ns1 := 18068) (kb_obj ko_RX12_1 (by decide) dX12_init_1) KM_c1_DyerBellsModel_4
set_option maxRecDepth 20000 in
theorem KM_c1_DyerBellsModel_0 : fk_B RX12 cX12_init 1 1 [(0, 2)] KM1 Z0 [] 0 KM51 KMz4 [] 225 25 18068 := fk_seq (nc := 0) (ns := 0) (nc1 := 25) (ns1 := 18068) (kb_aload (j := 0) rfl dX12_init_0) KM_c1_DyerBellsModel_1
theorem KM_c1_DyerBellsModel : fk_C yX12_init cX12_init 1 1 0 KM1 Z0 KM51 KMz4 25 18068 := fk_close (by decide +kernel) rfl (by decide) (show fk_B yX12_init.cls cX12_init 1 1 [(0, 2)] KM1 Z0 [] 0 KM51 KMz4 [] 225 25 18068 from KM_c1_DyerBellsModel_0) dX12_init_225
theorem LM_eq : KM51 = LM := by decide +kernel
