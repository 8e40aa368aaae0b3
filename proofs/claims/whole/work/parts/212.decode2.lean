theorem dX10_resetWork_34 : decode cX10_resetWork 34 = .ok (.iload 5, 2) := by decide +kernel
theorem dX10_resetWork_36 : decode cX10_resetWork 36 = .ok (.iaload, 1) := by decide +kernel
theorem dX10_resetWork_37 : decode cX10_resetWork 37 = .ok (.iconst 1, 1) := by decide +kernel
theorem dX10_resetWork_38 : decode cX10_resetWork 38 = .ok (.iload_n 2, 1) := by decide +kernel
theorem dX10_resetWork_39 : decode cX10_resetWork 39 = .ok (.ishl, 1) := by decide +kernel
theorem dX10_resetWork_40 : decode cX10_resetWork 40 = .ok (.iconst (-1), 1) := by decide +kernel
theorem dX10_resetWork_41 : decode cX10_resetWork 41 = .ok (.ixor, 1) := by decide +kernel
theorem dX10_resetWork_42 : decode cX10_resetWork 42 = .ok (.iand, 1) := by decide +kernel
theorem dX10_resetWork_43 : decode cX10_resetWork 43 = .ok (.aload_n 1, 1) := by decide +kernel
theorem dX10_resetWork_44 : decode cX10_resetWork 44 = .ok (.getfield 75, 3) := by decide +kernel
theorem dX10_resetWork_47 : decode cX10_resetWork 47 = .ok (.iload 5, 2) := by decide +kernel
theorem dX10_resetWork_49 : decode cX10_resetWork 49 = .ok (.iaload, 1) := by decide +kernel
theorem dX10_resetWork_50 : decode cX10_resetWork 50 = .ok (.iconst 1, 1) := by decide +kernel
theorem dX10_resetWork_51 : decode cX10_resetWork 51 = .ok (.iload_n 2, 1) := by decide +kernel
theorem dX10_resetWork_52 : decode cX10_resetWork 52 = .ok (.ishl, 1) := by decide +kernel
theorem dX10_resetWork_53 : decode cX10_resetWork 53 = .ok (.iand, 1) := by decide +kernel
theorem dX10_resetWork_54 : decode cX10_resetWork 54 = .ok (.ior, 1) := by decide +kernel
theorem dX10_resetWork_55 : decode cX10_resetWork 55 = .ok (.iastore, 1) := by decide +kernel
theorem dX10_resetWork_56 : decode cX10_resetWork 56 = .ok (.iinc 5 1, 3) := by decide +kernel
theorem dX10_resetWork_59 : decode cX10_resetWork 59 = .ok (.goto (-52), 3) := by decide +kernel
theorem dX10_resetWork_62 : decode cX10_resetWork 62 = .ok (.return_, 1) := by decide +kernel
theorem dX10_empty_0 : decode cX10_empty 0 = .ok (.iconst 0, 1) := by decide +kernel
theorem dX10_empty_1 : decode cX10_empty 1 = .ok (.istore_n 1, 1) := by decide +kernel
theorem dX10_empty_2 : decode cX10_empty 2 = .ok (.iload_n 1, 1) := by decide +kernel
theorem dX10_empty_3 : decode cX10_empty 3 = .ok (.bipush 40, 2) := by decide +kernel
theorem dX10_empty_5 : decode cX10_empty 5 = .ok (.if_icmp .ge 23, 3) := by decide +kernel
theorem dX10_empty_8 : decode cX10_empty 8 = .ok (.aload_n 0, 1) := by decide +kernel
theorem dX10_empty_9 : decode cX10_empty 9 = .ok (.getfield 21, 3) := by decide +kernel
theorem dX10_empty_12 : decode cX10_empty 12 = .ok (.iload_n 1, 1) := by decide +kernel
theorem dX10_empty_13 : decode cX10_empty 13 = .ok (.iconst 0, 1) := by decide +kernel
theorem dX10_empty_14 : decode cX10_empty 14 = .ok (.iastore, 1) := by decide +kernel
theorem dX10_empty_15 : decode cX10_empty 15 = .ok (.aload_n 0, 1) := by decide +kernel
theorem dX10_empty_16 : decode cX10_empty 16 = .ok (.getfield 24, 3) := by decide +kernel
theorem dX10_empty_19 : decode cX10_empty 19 = .ok (.iload_n 1, 1) := by decide +kernel
theorem dX10_empty_20 : decode cX10_empty 20 = .ok (.iconst 0, 1) := by decide +kernel
theorem dX10_empty_21 : decode cX10_empty 21 = .ok (.iastore, 1) := by decide +kernel
theorem dX10_empty_22 : decode cX10_empty 22 = .ok (.iinc 1 1, 3) := by decide +kernel
theorem dX10_empty_25 : decode cX10_empty 25 = .ok (.goto (-23), 3) := by decide +kernel
theorem dX10_empty_28 : decode cX10_empty 28 = .ok (.return_, 1) := by decide +kernel
theorem dX10_pass_0 : decode cX10_pass 0 = .ok (.aload_n 0, 1) := by decide +kernel
theorem dX10_pass_1 : decode cX10_pass 1 = .ok (.getfield 15, 3) := by decide +kernel
theorem dX10_pass_4 : decode cX10_pass 4 = .ok (.iload_n 2, 1) := by decide +kernel
theorem dX10_pass_5 : decode cX10_pass 5 = .ok (.bipush 24, 2) := by decide +kernel
theorem dX10_pass_7 : decode cX10_pass 7 = .ok (.idiv, 1) := by decide +kernel
theorem dX10_pass_8 : decode cX10_pass 8 = .ok (.iaload, 1) := by decide +kernel
theorem dX10_pass_9 : decode cX10_pass 9 = .ok (.istore_n 3, 1) := by decide +kernel
theorem dX10_pass_10 : decode cX10_pass 10 = .ok (.aload_n 0, 1) := by decide +kernel
theorem dX10_pass_11 : decode cX10_pass 11 = .ok (.aload_n 1, 1) := by decide +kernel
theorem dX10_pass_12 : decode cX10_pass 12 = .ok (.aload_n 0, 1) := by decide +kernel
theorem dX10_pass_13 : decode cX10_pass 13 = .ok (.getfield 18, 3) := by decide +kernel
theorem dX10_pass_16 : decode cX10_pass 16 = .ok (.iload_n 2, 1) := by decide +kernel
theorem dX10_pass_17 : decode cX10_pass 17 = .ok (.iaload, 1) := by decide +kernel
theorem dX10_pass_18 : decode cX10_pass 18 = .ok (.invokevirtual 78, 3) := by decide +kernel
theorem dX10_pass_21 : decode cX10_pass 21 = .ok (.iload_n 3, 1) := by decide +kernel
theorem dX10_pass_22 : decode cX10_pass 22 = .ok (.aload_n 1, 1) := by decide +kernel
theorem dX10_pass_23 : decode cX10_pass 23 = .ok (.invokevirtual 82, 3) := by decide +kernel
theorem dX10_pass_26 : decode cX10_pass 26 = .ok (.if_icmp .lt 8, 3) := by decide +kernel
theorem dX10_pass_29 : decode cX10_pass 29 = .ok (.aload_n 0, 1) := by decide +kernel
theorem dX10_pass_30 : decode cX10_pass 30 = .ok (.aload_n 1, 1) := by decide +kernel
theorem dX10_pass_31 : decode cX10_pass 31 = .ok (.invokevirtual 86, 3) := by decide +kernel
theorem dX10_pass_34 : decode cX10_pass 34 = .ok (.aload_n 0, 1) := by decide +kernel
theorem dX10_pass_35 : decode cX10_pass 35 = .ok (.aload_n 1, 1) := by decide +kernel
theorem dX10_pass_36 : decode cX10_pass 36 = .ok (.iload_n 3, 1) := by decide +kernel
theorem dX10_pass_37 : decode cX10_pass 37 = .ok (.invokevirtual 89, 3) := by decide +kernel
theorem dX10_pass_40 : decode cX10_pass 40 = .ok (.aload_n 0, 1) := by decide +kernel
theorem dX10_pass_41 : decode cX10_pass 41 = .ok (.aload_n 1, 1) := by decide +kernel
theorem dX10_pass_42 : decode cX10_pass 42 = .ok (.invokevirtual 92, 3) := by decide +kernel
theorem dX10_pass_45 : decode cX10_pass 45 = .ok (.return_, 1) := by decide +kernel
theorem dX10_pour_0 : decode cX10_pour 0 = .ok (.iconst 0, 1) := by decide +kernel
theorem dX10_pour_1 : decode cX10_pour 1 = .ok (.istore_n 3, 1) := by decide +kernel
theorem dX10_pour_2 : decode cX10_pour 2 = .ok (.iload_n 3, 1) := by decide +kernel
theorem dX10_pour_3 : decode cX10_pour 3 = .ok (.aload_n 1, 1) := by decide +kernel
theorem dX10_pour_4 : decode cX10_pour 4 = .ok (.getfield 95, 3) := by decide +kernel
theorem dX10_pour_7 : decode cX10_pour 7 = .ok (.if_icmp .ge 65, 3) := by decide +kernel
theorem dX10_pour_10 : decode cX10_pour 10 = .ok (.iload_n 2, 1) := by decide +kernel
theorem dX10_pour_11 : decode cX10_pour 11 = .ok (.iload_n 3, 1) := by decide +kernel
theorem dX10_pour_12 : decode cX10_pour 12 = .ok (.ishr, 1) := by decide +kernel
theorem dX10_pour_13 : decode cX10_pour 13 = .ok (.iconst 1, 1) := by decide +kernel
theorem dX10_pour_14 : decode cX10_pour 14 = .ok (.iand, 1) := by decide +kernel
theorem dX10_pour_15 : decode cX10_pour 15 = .ok (.ifCond .eq 51, 3) := by decide +kernel
theorem dX10_pour_18 : decode cX10_pour 18 = .ok (.iconst 0, 1) := by decide +kernel
theorem dX10_pour_19 : decode cX10_pour 19 = .ok (.istore 4, 2) := by decide +kernel
theorem dX10_pour_21 : decode cX10_pour 21 = .ok (.iload 4, 2) := by decide +kernel
theorem dX10_pour_23 : decode cX10_pour 23 = .ok (.aload_n 1, 1) := by decide +kernel
theorem dX10_pour_24 : decode cX10_pour 24 = .ok (.getfield 98, 3) := by decide +kernel
theorem dX10_pour_27 : decode cX10_pour 27 = .ok (.if_icmp .ge 39, 3) := by decide +kernel
theorem dX10_pour_30 : decode cX10_pour 30 = .ok (.aload_n 0, 1) := by decide +kernel
theorem dX10_pour_31 : decode cX10_pour 31 = .ok (.getfield 21, 3) := by decide +kernel
theorem dX10_pour_34 : decode cX10_pour 34 = .ok (.aload_n 1, 1) := by decide +kernel
theorem dX10_pour_35 : decode cX10_pour 35 = .ok (.getfield 101, 3) := by decide +kernel
theorem dX10_pour_38 : decode cX10_pour 38 = .ok (.iload_n 3, 1) := by decide +kernel
theorem dX10_pour_39 : decode cX10_pour 39 = .ok (.iaload, 1) := by decide +kernel
theorem dX10_pour_40 : decode cX10_pour 40 = .ok (.iconst 4, 1) := by decide +kernel
theorem dX10_pour_41 : decode cX10_pour 41 = .ok (.imul, 1) := by decide +kernel
theorem dX10_pour_42 : decode cX10_pour 42 = .ok (.iload 4, 2) := by decide +kernel
theorem dX10_pour_44 : decode cX10_pour 44 = .ok (.iadd, 1) := by decide +kernel
theorem dX10_pour_45 : decode cX10_pour 45 = .ok (.dup2, 1) := by decide +kernel
theorem dX10_pour_46 : decode cX10_pour 46 = .ok (.iaload, 1) := by decide +kernel
theorem dX10_pour_47 : decode cX10_pour 47 = .ok (.aload_n 1, 1) := by decide +kernel
theorem dX10_pour_48 : decode cX10_pour 48 = .ok (.getfield 104, 3) := by decide +kernel
theorem dX10_pour_51 : decode cX10_pour 51 = .ok (.iload_n 3, 1) := by decide +kernel
theorem dX10_pour_52 : decode cX10_pour 52 = .ok (.iconst 4, 1) := by decide +kernel
theorem dX10_pour_53 : decode cX10_pour 53 = .ok (.imul, 1) := by decide +kernel
theorem dX10_pour_54 : decode cX10_pour 54 = .ok (.iload 4, 2) := by decide +kernel
theorem dX10_pour_56 : decode cX10_pour 56 = .ok (.iadd, 1) := by decide +kernel
theorem dX10_pour_57 : decode cX10_pour 57 = .ok (.iaload, 1) := by decide +kernel
theorem dX10_pour_58 : decode cX10_pour 58 = .ok (.iadd, 1) := by decide +kernel
theorem dX10_pour_59 : decode cX10_pour 59 = .ok (.iastore, 1) := by decide +kernel
theorem dX10_pour_60 : decode cX10_pour 60 = .ok (.iinc 4 1, 3) := by decide +kernel
theorem dX10_pour_63 : decode cX10_pour 63 = .ok (.goto (-42), 3) := by decide +kernel
theorem dX10_pour_66 : decode cX10_pour 66 = .ok (.iinc 3 1, 3) := by decide +kernel
theorem dX10_pour_69 : decode cX10_pour 69 = .ok (.goto (-67), 3) := by decide +kernel
theorem dX10_pour_72 : decode cX10_pour 72 = .ok (.return_, 1) := by decide +kernel
theorem dX10_washUp_0 : decode cX10_washUp 0 = .ok (.iconst 0, 1) := by decide +kernel
theorem dX10_washUp_1 : decode cX10_washUp 1 = .ok (.istore_n 2, 1) := by decide +kernel
theorem dX10_washUp_2 : decode cX10_washUp 2 = .ok (.iload_n 2, 1) := by decide +kernel
theorem dX10_washUp_3 : decode cX10_washUp 3 = .ok (.aload_n 1, 1) := by decide +kernel
theorem dX10_washUp_4 : decode cX10_washUp 4 = .ok (.getfield 107, 3) := by decide +kernel
theorem dX10_washUp_7 : decode cX10_washUp 7 = .ok (.iconst 4, 1) := by decide +kernel
theorem dX10_washUp_8 : decode cX10_washUp 8 = .ok (.imul, 1) := by decide +kernel
theorem dX10_washUp_9 : decode cX10_washUp 9 = .ok (.if_icmp .ge 38, 3) := by decide +kernel
theorem dX10_washUp_12 : decode cX10_washUp 12 = .ok (.aload_n 0, 1) := by decide +kernel
theorem dX10_washUp_13 : decode cX10_washUp 13 = .ok (.getfield 24, 3) := by decide +kernel
theorem dX10_washUp_16 : decode cX10_washUp 16 = .ok (.iload_n 2, 1) := by decide +kernel
theorem dX10_washUp_17 : decode cX10_washUp 17 = .ok (.iaload, 1) := by decide +kernel
theorem dX10_washUp_18 : decode cX10_washUp 18 = .ok (.iconst 2, 1) := by decide +kernel
theorem dX10_washUp_19 : decode cX10_washUp 19 = .ok (.idiv, 1) := by decide +kernel
theorem dX10_washUp_20 : decode cX10_washUp 20 = .ok (.istore_n 3, 1) := by decide +kernel
theorem dX10_washUp_21 : decode cX10_washUp 21 = .ok (.aload_n 0, 1) := by decide +kernel
theorem dX10_washUp_22 : decode cX10_washUp 22 = .ok (.getfield 24, 3) := by decide +kernel
theorem dX10_washUp_25 : decode cX10_washUp 25 = .ok (.iload_n 2, 1) := by decide +kernel
theorem dX10_washUp_26 : decode cX10_washUp 26 = .ok (.dup2, 1) := by decide +kernel
theorem dX10_washUp_27 : decode cX10_washUp 27 = .ok (.iaload, 1) := by decide +kernel
theorem dX10_washUp_28 : decode cX10_washUp 28 = .ok (.iload_n 3, 1) := by decide +kernel
theorem dX10_washUp_29 : decode cX10_washUp 29 = .ok (.isub, 1) := by decide +kernel
theorem dX10_washUp_30 : decode cX10_washUp 30 = .ok (.iastore, 1) := by decide +kernel
theorem dX10_washUp_31 : decode cX10_washUp 31 = .ok (.aload_n 0, 1) := by decide +kernel
theorem dX10_washUp_32 : decode cX10_washUp 32 = .ok (.getfield 21, 3) := by decide +kernel
theorem dX10_washUp_35 : decode cX10_washUp 35 = .ok (.iload_n 2, 1) := by decide +kernel
theorem dX10_washUp_36 : decode cX10_washUp 36 = .ok (.dup2, 1) := by decide +kernel
theorem dX10_washUp_37 : decode cX10_washUp 37 = .ok (.iaload, 1) := by decide +kernel
theorem dX10_washUp_38 : decode cX10_washUp 38 = .ok (.iload_n 3, 1) := by decide +kernel
theorem dX10_washUp_39 : decode cX10_washUp 39 = .ok (.iadd, 1) := by decide +kernel
theorem dX10_washUp_40 : decode cX10_washUp 40 = .ok (.iastore, 1) := by decide +kernel
theorem dX10_washUp_41 : decode cX10_washUp 41 = .ok (.iinc 2 1, 3) := by decide +kernel
theorem dX10_washUp_44 : decode cX10_washUp 44 = .ok (.goto (-42), 3) := by decide +kernel
theorem dX10_washUp_47 : decode cX10_washUp 47 = .ok (.return_, 1) := by decide +kernel
theorem dX10_carry_0 : decode cX10_carry 0 = .ok (.iconst 0, 1) := by decide +kernel
theorem dX10_carry_1 : decode cX10_carry 1 = .ok (.istore_n 3, 1) := by decide +kernel
theorem dX10_carry_2 : decode cX10_carry 2 = .ok (.iload_n 3, 1) := by decide +kernel
theorem dX10_carry_3 : decode cX10_carry 3 = .ok (.aload_n 1, 1) := by decide +kernel
theorem dX10_carry_4 : decode cX10_carry 4 = .ok (.getfield 98, 3) := by decide +kernel
theorem dX10_carry_7 : decode cX10_carry 7 = .ok (.if_icmp .ge 121, 3) := by decide +kernel
theorem dX10_carry_10 : decode cX10_carry 10 = .ok (.aload_n 0, 1) := by decide +kernel
theorem dX10_carry_11 : decode cX10_carry 11 = .ok (.getfield 27, 3) := by decide +kernel
theorem dX10_carry_14 : decode cX10_carry 14 = .ok (.iload_n 3, 1) := by decide +kernel
theorem dX10_carry_15 : decode cX10_carry 15 = .ok (.iconst 0, 1) := by decide +kernel
theorem dX10_carry_16 : decode cX10_carry 16 = .ok (.iastore, 1) := by decide +kernel
theorem dX10_carry_17 : decode cX10_carry 17 = .ok (.aload_n 1, 1) := by decide +kernel
theorem dX10_carry_18 : decode cX10_carry 18 = .ok (.getfield 107, 3) := by decide +kernel
theorem dX10_carry_21 : decode cX10_carry 21 = .ok (.iconst 1, 1) := by decide +kernel
theorem dX10_carry_22 : decode cX10_carry 22 = .ok (.isub, 1) := by decide +kernel
theorem dX10_carry_23 : decode cX10_carry 23 = .ok (.istore 4, 2) := by decide +kernel
theorem dX10_carry_25 : decode cX10_carry 25 = .ok (.iload 4, 2) := by decide +kernel
theorem dX10_carry_27 : decode cX10_carry 27 = .ok (.ifCond .lt 95, 3) := by decide +kernel
theorem dX10_carry_30 : decode cX10_carry 30 = .ok (.iload 4, 2) := by decide +kernel
theorem dX10_carry_32 : decode cX10_carry 32 = .ok (.iconst 4, 1) := by decide +kernel
theorem dX10_carry_33 : decode cX10_carry 33 = .ok (.imul, 1) := by decide +kernel
theorem dX10_carry_34 : decode cX10_carry 34 = .ok (.iload_n 3, 1) := by decide +kernel
theorem dX10_carry_35 : decode cX10_carry 35 = .ok (.iadd, 1) := by decide +kernel
theorem dX10_carry_36 : decode cX10_carry 36 = .ok (.istore 5, 2) := by decide +kernel
theorem dX10_carry_38 : decode cX10_carry 38 = .ok (.aload_n 0, 1) := by decide +kernel
theorem dX10_carry_39 : decode cX10_carry 39 = .ok (.getfield 21, 3) := by decide +kernel
theorem dX10_carry_42 : decode cX10_carry 42 = .ok (.iload 5, 2) := by decide +kernel
theorem dX10_carry_44 : decode cX10_carry 44 = .ok (.iaload, 1) := by decide +kernel
theorem dX10_carry_45 : decode cX10_carry 45 = .ok (.iload_n 2, 1) := by decide +kernel
theorem dX10_carry_46 : decode cX10_carry 46 = .ok (.aload_n 0, 1) := by decide +kernel
theorem dX10_carry_47 : decode cX10_carry 47 = .ok (.getfield 9, 3) := by decide +kernel
theorem dX10_carry_50 : decode cX10_carry 50 = .ok (.iload 4, 2) := by decide +kernel
theorem dX10_carry_52 : decode cX10_carry 52 = .ok (.iaload, 1) := by decide +kernel
theorem dX10_carry_53 : decode cX10_carry 53 = .ok (.invokestatic 110, 3) := by decide +kernel
theorem dX10_carry_56 : decode cX10_carry 56 = .ok (.aload_n 0, 1) := by decide +kernel
theorem dX10_carry_57 : decode cX10_carry 57 = .ok (.getfield 9, 3) := by decide +kernel
theorem dX10_carry_60 : decode cX10_carry 60 = .ok (.iload 4, 2) := by decide +kernel
theorem dX10_carry_62 : decode cX10_carry 62 = .ok (.iaload, 1) := by decide +kernel
theorem dX10_carry_63 : decode cX10_carry 63 = .ok (.invokestatic 113, 3) := by decide +kernel
theorem dX10_carry_66 : decode cX10_carry 66 = .ok (.istore 6, 2) := by decide +kernel
theorem dX10_carry_68 : decode cX10_carry 68 = .ok (.aload_n 0, 1) := by decide +kernel
theorem dX10_carry_69 : decode cX10_carry 69 = .ok (.getfield 21, 3) := by decide +kernel
theorem dX10_carry_72 : decode cX10_carry 72 = .ok (.iload 5, 2) := by decide +kernel
theorem dX10_carry_74 : decode cX10_carry 74 = .ok (.dup2, 1) := by decide +kernel
theorem dX10_carry_75 : decode cX10_carry 75 = .ok (.iaload, 1) := by decide +kernel
theorem dX10_carry_76 : decode cX10_carry 76 = .ok (.iload 6, 2) := by decide +kernel
theorem dX10_carry_78 : decode cX10_carry 78 = .ok (.isub, 1) := by decide +kernel
theorem dX10_carry_79 : decode cX10_carry 79 = .ok (.iastore, 1) := by decide +kernel
theorem dX10_carry_80 : decode cX10_carry 80 = .ok (.iload 4, 2) := by decide +kernel
theorem dX10_carry_82 : decode cX10_carry 82 = .ok (.aload_n 1, 1) := by decide +kernel
theorem dX10_carry_83 : decode cX10_carry 83 = .ok (.getfield 107, 3) := by decide +kernel
theorem dX10_carry_86 : decode cX10_carry 86 = .ok (.iconst 1, 1) := by decide +kernel
theorem dX10_carry_87 : decode cX10_carry 87 = .ok (.isub, 1) := by decide +kernel
theorem dX10_carry_88 : decode cX10_carry 88 = .ok (.if_icmp .ge 20, 3) := by decide +kernel
theorem dX10_carry_91 : decode cX10_carry 91 = .ok (.aload_n 0, 1) := by decide +kernel
theorem dX10_carry_92 : decode cX10_carry 92 = .ok (.getfield 21, 3) := by decide +kernel
theorem dX10_carry_95 : decode cX10_carry 95 = .ok (.iload 5, 2) := by decide +kernel
theorem dX10_carry_97 : decode cX10_carry 97 = .ok (.iconst 4, 1) := by decide +kernel
theorem dX10_carry_98 : decode cX10_carry 98 = .ok (.iadd, 1) := by decide +kernel
theorem dX10_carry_99 : decode cX10_carry 99 = .ok (.dup2, 1) := by decide +kernel
theorem dX10_carry_100 : decode cX10_carry 100 = .ok (.iaload, 1) := by decide +kernel
theorem dX10_carry_101 : decode cX10_carry 101 = .ok (.iload 6, 2) := by decide +kernel
theorem dX10_carry_103 : decode cX10_carry 103 = .ok (.iadd, 1) := by decide +kernel
theorem dX10_carry_104 : decode cX10_carry 104 = .ok (.iastore, 1) := by decide +kernel
theorem dX10_carry_105 : decode cX10_carry 105 = .ok (.goto 11, 3) := by decide +kernel
theorem dX10_carry_108 : decode cX10_carry 108 = .ok (.aload_n 0, 1) := by decide +kernel
theorem dX10_carry_109 : decode cX10_carry 109 = .ok (.getfield 27, 3) := by decide +kernel
theorem dX10_carry_112 : decode cX10_carry 112 = .ok (.iload_n 3, 1) := by decide +kernel
theorem dX10_carry_113 : decode cX10_carry 113 = .ok (.iload 6, 2) := by decide +kernel
theorem dX10_carry_115 : decode cX10_carry 115 = .ok (.iastore, 1) := by decide +kernel
theorem dX10_carry_116 : decode cX10_carry 116 = .ok (.iinc 4 (-1), 3) := by decide +kernel
theorem dX10_carry_119 : decode cX10_carry 119 = .ok (.goto (-94), 3) := by decide +kernel
theorem dX10_carry_122 : decode cX10_carry 122 = .ok (.iinc 3 1, 3) := by decide +kernel
theorem dX10_carry_125 : decode cX10_carry 125 = .ok (.goto (-123), 3) := by decide +kernel
theorem dX10_carry_128 : decode cX10_carry 128 = .ok (.return_, 1) := by decide +kernel
theorem dX10_sink_0 : decode cX10_sink 0 = .ok (.iconst 0, 1) := by decide +kernel
theorem dX10_sink_1 : decode cX10_sink 1 = .ok (.istore_n 2, 1) := by decide +kernel
theorem dX10_sink_2 : decode cX10_sink 2 = .ok (.iload_n 2, 1) := by decide +kernel
theorem dX10_sink_3 : decode cX10_sink 3 = .ok (.aload_n 1, 1) := by decide +kernel
theorem dX10_sink_4 : decode cX10_sink 4 = .ok (.getfield 107, 3) := by decide +kernel
theorem dX10_sink_7 : decode cX10_sink 7 = .ok (.if_icmp .ge 77, 3) := by decide +kernel
theorem dX10_sink_10 : decode cX10_sink 10 = .ok (.iconst 0, 1) := by decide +kernel
theorem dX10_sink_11 : decode cX10_sink 11 = .ok (.istore_n 3, 1) := by decide +kernel
theorem dX10_sink_12 : decode cX10_sink 12 = .ok (.iload_n 3, 1) := by decide +kernel
theorem dX10_sink_13 : decode cX10_sink 13 = .ok (.aload_n 1, 1) := by decide +kernel
theorem dX10_sink_14 : decode cX10_sink 14 = .ok (.getfield 98, 3) := by decide +kernel
theorem dX10_sink_17 : decode cX10_sink 17 = .ok (.if_icmp .ge 61, 3) := by decide +kernel
theorem dX10_sink_20 : decode cX10_sink 20 = .ok (.iload_n 2, 1) := by decide +kernel
theorem dX10_sink_21 : decode cX10_sink 21 = .ok (.iconst 4, 1) := by decide +kernel
theorem dX10_sink_22 : decode cX10_sink 22 = .ok (.imul, 1) := by decide +kernel
theorem dX10_sink_23 : decode cX10_sink 23 = .ok (.iload_n 3, 1) := by decide +kernel
theorem dX10_sink_24 : decode cX10_sink 24 = .ok (.iadd, 1) := by decide +kernel
theorem dX10_sink_25 : decode cX10_sink 25 = .ok (.istore 4, 2) := by decide +kernel
theorem dX10_sink_27 : decode cX10_sink 27 = .ok (.aload_n 0, 1) := by decide +kernel
theorem dX10_sink_28 : decode cX10_sink 28 = .ok (.getfield 21, 3) := by decide +kernel
theorem dX10_sink_31 : decode cX10_sink 31 = .ok (.iload 4, 2) := by decide +kernel
theorem dX10_sink_33 : decode cX10_sink 33 = .ok (.iaload, 1) := by decide +kernel
theorem dX10_sink_34 : decode cX10_sink 34 = .ok (.aload_n 1, 1) := by decide +kernel
theorem dX10_sink_35 : decode cX10_sink 35 = .ok (.getfield 117, 3) := by decide +kernel
theorem dX10_sink_38 : decode cX10_sink 38 = .ok (.iload_n 2, 1) := by decide +kernel
theorem dX10_sink_39 : decode cX10_sink 39 = .ok (.iaload, 1) := by decide +kernel
theorem dX10_sink_40 : decode cX10_sink 40 = .ok (.sipush 1000, 3) := by decide +kernel
theorem dX10_sink_43 : decode cX10_sink 43 = .ok (.invokestatic 113, 3) := by decide +kernel
theorem dX10_sink_46 : decode cX10_sink 46 = .ok (.istore 5, 2) := by decide +kernel
theorem dX10_sink_48 : decode cX10_sink 48 = .ok (.aload_n 0, 1) := by decide +kernel
theorem dX10_sink_49 : decode cX10_sink 49 = .ok (.getfield 21, 3) := by decide +kernel
theorem dX10_sink_52 : decode cX10_sink 52 = .ok (.iload 4, 2) := by decide +kernel
theorem dX10_sink_54 : decode cX10_sink 54 = .ok (.dup2, 1) := by decide +kernel
theorem dX10_sink_55 : decode cX10_sink 55 = .ok (.iaload, 1) := by decide +kernel
theorem dX10_sink_56 : decode cX10_sink 56 = .ok (.iload 5, 2) := by decide +kernel
theorem dX10_sink_58 : decode cX10_sink 58 = .ok (.isub, 1) := by decide +kernel
theorem dX10_sink_59 : decode cX10_sink 59 = .ok (.iastore, 1) := by decide +kernel
theorem dX10_sink_60 : decode cX10_sink 60 = .ok (.aload_n 0, 1) := by decide +kernel
theorem dX10_sink_61 : decode cX10_sink 61 = .ok (.getfield 24, 3) := by decide +kernel
theorem dX10_sink_64 : decode cX10_sink 64 = .ok (.iload 4, 2) := by decide +kernel
theorem dX10_sink_66 : decode cX10_sink 66 = .ok (.dup2, 1) := by decide +kernel
theorem dX10_sink_67 : decode cX10_sink 67 = .ok (.iaload, 1) := by decide +kernel
theorem dX10_sink_68 : decode cX10_sink 68 = .ok (.iload 5, 2) := by decide +kernel
theorem dX10_sink_70 : decode cX10_sink 70 = .ok (.iadd, 1) := by decide +kernel
theorem dX10_sink_71 : decode cX10_sink 71 = .ok (.iastore, 1) := by decide +kernel
theorem dX10_sink_72 : decode cX10_sink 72 = .ok (.iinc 3 1, 3) := by decide +kernel
theorem dX10_sink_75 : decode cX10_sink 75 = .ok (.goto (-63), 3) := by decide +kernel
theorem dX10_sink_78 : decode cX10_sink 78 = .ok (.iinc 2 1, 3) := by decide +kernel
theorem dX10_sink_81 : decode cX10_sink 81 = .ok (.goto (-79), 3) := by decide +kernel
theorem dX10_sink_84 : decode cX10_sink 84 = .ok (.return_, 1) := by decide +kernel
theorem dX10_partOf_0 : decode cX10_partOf 0 = .ok (.iload_n 0, 1) := by decide +kernel
theorem dX10_partOf_1 : decode cX10_partOf 1 = .ok (.ifCond .le 19, 3) := by decide +kernel
theorem dX10_partOf_4 : decode cX10_partOf 4 = .ok (.iload_n 2, 1) := by decide +kernel
theorem dX10_partOf_5 : decode cX10_partOf 5 = .ok (.ifCond .le 15, 3) := by decide +kernel
theorem dX10_partOf_8 : decode cX10_partOf 8 = .ok (.iload_n 0, 1) := by decide +kernel
theorem dX10_partOf_9 : decode cX10_partOf 9 = .ok (.i2l, 1) := by decide +kernel
theorem dX10_partOf_10 : decode cX10_partOf 10 = .ok (.iload_n 1, 1) := by decide +kernel
theorem dX10_partOf_11 : decode cX10_partOf 11 = .ok (.i2l, 1) := by decide +kernel
theorem dX10_partOf_12 : decode cX10_partOf 12 = .ok (.lmul, 1) := by decide +kernel
theorem dX10_partOf_13 : decode cX10_partOf 13 = .ok (.iload_n 2, 1) := by decide +kernel
theorem dX10_partOf_14 : decode cX10_partOf 14 = .ok (.i2l, 1) := by decide +kernel
theorem dX10_partOf_15 : decode cX10_partOf 15 = .ok (.ldiv, 1) := by decide +kernel
theorem dX10_partOf_16 : decode cX10_partOf 16 = .ok (.l2i, 1) := by decide +kernel
theorem dX10_partOf_17 : decode cX10_partOf 17 = .ok (.goto 4, 3) := by decide +kernel
theorem dX10_partOf_20 : decode cX10_partOf 20 = .ok (.iconst 0, 1) := by decide +kernel
theorem dX10_partOf_21 : decode cX10_partOf 21 = .ok (.ireturn, 1) := by decide +kernel
theorem dX10_harmedBehind_0 : decode cX10_harmedBehind 0 = .ok (.iload_n 2, 1) := by decide +kernel
theorem dX10_harmedBehind_1 : decode cX10_harmedBehind 1 = .ok (.bipush 24, 2) := by decide +kernel
theorem dX10_harmedBehind_3 : decode cX10_harmedBehind 3 = .ok (.irem, 1) := by decide +kernel
theorem dX10_harmedBehind_4 : decode cX10_harmedBehind 4 = .ok (.istore_n 3, 1) := by decide +kernel
theorem dX10_harmedBehind_5 : decode cX10_harmedBehind 5 = .ok (.iconst 0, 1) := by decide +kernel
theorem dX10_harmedBehind_6 : decode cX10_harmedBehind 6 = .ok (.istore 4, 2) := by decide +kernel
theorem dX10_harmedBehind_8 : decode cX10_harmedBehind 8 = .ok (.iconst 0, 1) := by decide +kernel
theorem dX10_harmedBehind_9 : decode cX10_harmedBehind 9 = .ok (.istore 5, 2) := by decide +kernel
theorem dX10_harmedBehind_11 : decode cX10_harmedBehind 11 = .ok (.iload 5, 2) := by decide +kernel
theorem dX10_harmedBehind_13 : decode cX10_harmedBehind 13 = .ok (.aload_n 1, 1) := by decide +kernel
theorem dX10_harmedBehind_14 : decode cX10_harmedBehind 14 = .ok (.getfield 120, 3) := by decide +kernel
theorem dX10_harmedBehind_17 : decode cX10_harmedBehind 17 = .ok (.if_icmp .ge 50, 3) := by decide +kernel
theorem dX10_harmedBehind_20 : decode cX10_harmedBehind 20 = .ok (.iload_n 3, 1) := by decide +kernel
theorem dX10_harmedBehind_21 : decode cX10_harmedBehind 21 = .ok (.aload_n 1, 1) := by decide +kernel
theorem dX10_harmedBehind_22 : decode cX10_harmedBehind 22 = .ok (.getfield 123, 3) := by decide +kernel
theorem dX10_harmedBehind_25 : decode cX10_harmedBehind 25 = .ok (.iload 5, 2) := by decide +kernel
theorem dX10_harmedBehind_27 : decode cX10_harmedBehind 27 = .ok (.iaload, 1) := by decide +kernel
theorem dX10_harmedBehind_28 : decode cX10_harmedBehind 28 = .ok (.if_icmp .lt 33, 3) := by decide +kernel
theorem dX10_harmedBehind_31 : decode cX10_harmedBehind 31 = .ok (.iload_n 3, 1) := by decide +kernel
theorem dX10_harmedBehind_32 : decode cX10_harmedBehind 32 = .ok (.aload_n 1, 1) := by decide +kernel
theorem dX10_harmedBehind_33 : decode cX10_harmedBehind 33 = .ok (.getfield 126, 3) := by decide +kernel
theorem dX10_harmedBehind_36 : decode cX10_harmedBehind 36 = .ok (.iload 5, 2) := by decide +kernel
theorem dX10_harmedBehind_38 : decode cX10_harmedBehind 38 = .ok (.iaload, 1) := by decide +kernel
theorem dX10_harmedBehind_39 : decode cX10_harmedBehind 39 = .ok (.if_icmp .ge 22, 3) := by decide +kernel
theorem dX10_harmedBehind_42 : decode cX10_harmedBehind 42 = .ok (.aload_n 0, 1) := by decide +kernel
theorem dX10_harmedBehind_43 : decode cX10_harmedBehind 43 = .ok (.aload_n 1, 1) := by decide +kernel
theorem dX10_harmedBehind_44 : decode cX10_harmedBehind 44 = .ok (.iload 5, 2) := by decide +kernel
theorem dX10_harmedBehind_46 : decode cX10_harmedBehind 46 = .ok (.invokevirtual 129, 3) := by decide +kernel
theorem dX10_harmedBehind_49 : decode cX10_harmedBehind 49 = .ok (.ifCond .eq 12, 3) := by decide +kernel
theorem dX10_harmedBehind_52 : decode cX10_harmedBehind 52 = .ok (.iload 4, 2) := by decide +kernel
theorem dX10_harmedBehind_54 : decode cX10_harmedBehind 54 = .ok (.iconst 1, 1) := by decide +kernel
theorem dX10_harmedBehind_55 : decode cX10_harmedBehind 55 = .ok (.iload 5, 2) := by decide +kernel
theorem dX10_harmedBehind_57 : decode cX10_harmedBehind 57 = .ok (.ishl, 1) := by decide +kernel
theorem dX10_harmedBehind_58 : decode cX10_harmedBehind 58 = .ok (.ior, 1) := by decide +kernel
theorem dX10_harmedBehind_59 : decode cX10_harmedBehind 59 = .ok (.istore 4, 2) := by decide +kernel
theorem dX10_harmedBehind_61 : decode cX10_harmedBehind 61 = .ok (.iinc 5 1, 3) := by decide +kernel
theorem dX10_harmedBehind_64 : decode cX10_harmedBehind 64 = .ok (.goto (-53), 3) := by decide +kernel
theorem dX10_harmedBehind_67 : decode cX10_harmedBehind 67 = .ok (.iload 4, 2) := by decide +kernel
theorem dX10_harmedBehind_69 : decode cX10_harmedBehind 69 = .ok (.ireturn, 1) := by decide +kernel
theorem dX10_suffers_0 : decode cX10_suffers 0 = .ok (.aload_n 1, 1) := by decide +kernel
theorem dX10_suffers_1 : decode cX10_suffers 1 = .ok (.getfield 133, 3) := by decide +kernel
theorem dX10_suffers_4 : decode cX10_suffers 4 = .ok (.iload_n 2, 1) := by decide +kernel
theorem dX10_suffers_5 : decode cX10_suffers 5 = .ok (.iaload, 1) := by decide +kernel
theorem dX10_suffers_6 : decode cX10_suffers 6 = .ok (.istore_n 3, 1) := by decide +kernel
theorem dX10_suffers_7 : decode cX10_suffers 7 = .ok (.iconst 0, 1) := by decide +kernel
theorem dX10_suffers_8 : decode cX10_suffers 8 = .ok (.istore 4, 2) := by decide +kernel
theorem dX10_suffers_10 : decode cX10_suffers 10 = .ok (.iload 4, 2) := by decide +kernel
theorem dX10_suffers_12 : decode cX10_suffers 12 = .ok (.aload_n 1, 1) := by decide +kernel
theorem dX10_suffers_13 : decode cX10_suffers 13 = .ok (.getfield 98, 3) := by decide +kernel
theorem dX10_suffers_16 : decode cX10_suffers 16 = .ok (.if_icmp .ge 55, 3) := by decide +kernel
theorem dX10_suffers_19 : decode cX10_suffers 19 = .ok (.aload_n 1, 1) := by decide +kernel
theorem dX10_suffers_20 : decode cX10_suffers 20 = .ok (.getfield 136, 3) := by decide +kernel
theorem dX10_suffers_23 : decode cX10_suffers 23 = .ok (.iload_n 2, 1) := by decide +kernel
theorem dX10_suffers_24 : decode cX10_suffers 24 = .ok (.iconst 4, 1) := by decide +kernel
theorem dX10_suffers_25 : decode cX10_suffers 25 = .ok (.imul, 1) := by decide +kernel
theorem dX10_suffers_26 : decode cX10_suffers 26 = .ok (.iload 4, 2) := by decide +kernel
theorem dX10_suffers_28 : decode cX10_suffers 28 = .ok (.iadd, 1) := by decide +kernel
theorem dX10_suffers_29 : decode cX10_suffers 29 = .ok (.iaload, 1) := by decide +kernel
theorem dX10_suffers_30 : decode cX10_suffers 30 = .ok (.istore 5, 2) := by decide +kernel
theorem dX10_suffers_32 : decode cX10_suffers 32 = .ok (.iload 5, 2) := by decide +kernel
theorem dX10_suffers_34 : decode cX10_suffers 34 = .ok (.iconst (-1), 1) := by decide +kernel
theorem dX10_suffers_35 : decode cX10_suffers 35 = .ok (.if_icmp .eq 30, 3) := by decide +kernel
theorem dX10_suffers_38 : decode cX10_suffers 38 = .ok (.aload_n 0, 1) := by decide +kernel
theorem dX10_suffers_39 : decode cX10_suffers 39 = .ok (.getfield 21, 3) := by decide +kernel
theorem dX10_suffers_42 : decode cX10_suffers 42 = .ok (.iload_n 3, 1) := by decide +kernel
theorem dX10_suffers_43 : decode cX10_suffers 43 = .ok (.iconst 4, 1) := by decide +kernel
theorem dX10_suffers_44 : decode cX10_suffers 44 = .ok (.imul, 1) := by decide +kernel
theorem dX10_suffers_45 : decode cX10_suffers 45 = .ok (.iload 4, 2) := by decide +kernel
theorem dX10_suffers_47 : decode cX10_suffers 47 = .ok (.iadd, 1) := by decide +kernel
theorem dX10_suffers_48 : decode cX10_suffers 48 = .ok (.iaload, 1) := by decide +kernel
theorem dX10_suffers_49 : decode cX10_suffers 49 = .ok (.aload_n 0, 1) := by decide +kernel
theorem dX10_suffers_50 : decode cX10_suffers 50 = .ok (.getfield 9, 3) := by decide +kernel
theorem dX10_suffers_53 : decode cX10_suffers 53 = .ok (.iload_n 3, 1) := by decide +kernel
theorem dX10_suffers_54 : decode cX10_suffers 54 = .ok (.iaload, 1) := by decide +kernel
theorem dX10_suffers_55 : decode cX10_suffers 55 = .ok (.invokestatic 139, 3) := by decide +kernel
theorem dX10_suffers_58 : decode cX10_suffers 58 = .ok (.iload 5, 2) := by decide +kernel
theorem dX10_suffers_60 : decode cX10_suffers 60 = .ok (.if_icmp .le 5, 3) := by decide +kernel
theorem dX10_suffers_63 : decode cX10_suffers 63 = .ok (.iconst 1, 1) := by decide +kernel
theorem dX10_suffers_64 : decode cX10_suffers 64 = .ok (.ireturn, 1) := by decide +kernel
theorem dX10_suffers_65 : decode cX10_suffers 65 = .ok (.iinc 4 1, 3) := by decide +kernel
theorem dX10_suffers_68 : decode cX10_suffers 68 = .ok (.goto (-58), 3) := by decide +kernel
theorem dX10_suffers_71 : decode cX10_suffers 71 = .ok (.iconst 0, 1) := by decide +kernel
theorem dX10_suffers_72 : decode cX10_suffers 72 = .ok (.ireturn, 1) := by decide +kernel
theorem dX10_harmOfAll_0 : decode cX10_harmOfAll 0 = .ok (.aload_n 0, 1) := by decide +kernel
theorem dX10_harmOfAll_1 : decode cX10_harmOfAll 1 = .ok (.invokevirtual 142, 3) := by decide +kernel
theorem dX10_harmOfAll_4 : decode cX10_harmOfAll 4 = .ok (.aload_n 0, 1) := by decide +kernel
theorem dX10_harmOfAll_5 : decode cX10_harmOfAll 5 = .ok (.aload_n 1, 1) := by decide +kernel
theorem dX10_harmOfAll_6 : decode cX10_harmOfAll 6 = .ok (.iconst 0, 1) := by decide +kernel
theorem dX10_harmOfAll_7 : decode cX10_harmOfAll 7 = .ok (.iconst 0, 1) := by decide +kernel
theorem dX10_harmOfAll_8 : decode cX10_harmOfAll 8 = .ok (.iload_n 2, 1) := by decide +kernel
theorem dX10_harmOfAll_9 : decode cX10_harmOfAll 9 = .ok (.invokevirtual 145, 3) := by decide +kernel
theorem dX10_harmOfAll_12 : decode cX10_harmOfAll 12 = .ok (.ireturn, 1) := by decide +kernel
theorem dX10_harmFrom_0 : decode cX10_harmFrom 0 = .ok (.aload_n 0, 1) := by decide +kernel
theorem dX10_harmFrom_1 : decode cX10_harmFrom 1 = .ok (.aload_n 2, 1) := by decide +kernel
theorem dX10_harmFrom_2 : decode cX10_harmFrom 2 = .ok (.iload_n 3, 1) := by decide +kernel
theorem dX10_harmFrom_3 : decode cX10_harmFrom 3 = .ok (.invokevirtual 149, 3) := by decide +kernel
theorem dX10_harmFrom_6 : decode cX10_harmFrom 6 = .ok (.aload_n 0, 1) := by decide +kernel
theorem dX10_harmFrom_7 : decode cX10_harmFrom 7 = .ok (.aload_n 1, 1) := by decide +kernel
theorem dX10_harmFrom_8 : decode cX10_harmFrom 8 = .ok (.iload_n 3, 1) := by decide +kernel
theorem dX10_harmFrom_9 : decode cX10_harmFrom 9 = .ok (.aload_n 2, 1) := by decide +kernel
theorem dX10_harmFrom_10 : decode cX10_harmFrom 10 = .ok (.getfield 153, 3) := by decide +kernel
theorem dX10_harmFrom_13 : decode cX10_harmFrom 13 = .ok (.iload_n 3, 1) := by decide +kernel
theorem dX10_harmFrom_14 : decode cX10_harmFrom 14 = .ok (.iaload, 1) := by decide +kernel
theorem dX10_harmFrom_15 : decode cX10_harmFrom 15 = .ok (.iload 4, 2) := by decide +kernel
theorem dX10_harmFrom_17 : decode cX10_harmFrom 17 = .ok (.invokevirtual 145, 3) := by decide +kernel
theorem dX10_harmFrom_20 : decode cX10_harmFrom 20 = .ok (.ireturn, 1) := by decide +kernel
theorem dX10_addHarm_0 : decode cX10_addHarm 0 = .ok (.iload_n 3, 1) := by decide +kernel
theorem dX10_addHarm_1 : decode cX10_addHarm 1 = .ok (.istore 5, 2) := by decide +kernel
theorem dX10_addHarm_3 : decode cX10_addHarm 3 = .ok (.iload_n 2, 1) := by decide +kernel
theorem dX10_addHarm_4 : decode cX10_addHarm 4 = .ok (.istore 6, 2) := by decide +kernel
theorem dX10_addHarm_6 : decode cX10_addHarm 6 = .ok (.iload 6, 2) := by decide +kernel
theorem dX10_addHarm_8 : decode cX10_addHarm 8 = .ok (.sipush 168, 3) := by decide +kernel
theorem dX10_addHarm_11 : decode cX10_addHarm 11 = .ok (.if_icmp .ge 38, 3) := by decide +kernel
theorem dX10_addHarm_14 : decode cX10_addHarm 14 = .ok (.iload 5, 2) := by decide +kernel
theorem dX10_addHarm_16 : decode cX10_addHarm 16 = .ok (.iload 4, 2) := by decide +kernel
theorem dX10_addHarm_18 : decode cX10_addHarm 18 = .ok (.if_icmp .ge 31, 3) := by decide +kernel
theorem dX10_addHarm_21 : decode cX10_addHarm 21 = .ok (.aload_n 0, 1) := by decide +kernel
theorem dX10_addHarm_22 : decode cX10_addHarm 22 = .ok (.aload_n 1, 1) := by decide +kernel
theorem dX10_addHarm_23 : decode cX10_addHarm 23 = .ok (.iload 6, 2) := by decide +kernel
theorem dX10_addHarm_25 : decode cX10_addHarm 25 = .ok (.invokevirtual 156, 3) := by decide +kernel
theorem dX10_addHarm_28 : decode cX10_addHarm 28 = .ok (.iload 5, 2) := by decide +kernel
theorem dX10_addHarm_30 : decode cX10_addHarm 30 = .ok (.aload_n 0, 1) := by decide +kernel
theorem dX10_addHarm_31 : decode cX10_addHarm 31 = .ok (.aload_n 1, 1) := by decide +kernel
theorem dX10_addHarm_32 : decode cX10_addHarm 32 = .ok (.iload 6, 2) := by decide +kernel
theorem dX10_addHarm_34 : decode cX10_addHarm 34 = .ok (.invokevirtual 159, 3) := by decide +kernel
theorem dX10_addHarm_37 : decode cX10_addHarm 37 = .ok (.invokestatic 163, 3) := by decide +kernel
theorem dX10_addHarm_40 : decode cX10_addHarm 40 = .ok (.iadd, 1) := by decide +kernel
theorem dX10_addHarm_41 : decode cX10_addHarm 41 = .ok (.istore 5, 2) := by decide +kernel
theorem dX10_addHarm_43 : decode cX10_addHarm 43 = .ok (.iinc 6 1, 3) := by decide +kernel
theorem dX10_addHarm_46 : decode cX10_addHarm 46 = .ok (.goto (-40), 3) := by decide +kernel
theorem dX10_addHarm_49 : decode cX10_addHarm 49 = .ok (.iload 5, 2) := by decide +kernel
theorem dX10_addHarm_51 : decode cX10_addHarm 51 = .ok (.ireturn, 1) := by decide +kernel
theorem dX10_agreesFrom_0 : decode cX10_agreesFrom 0 = .ok (.aload_n 0, 1) := by decide +kernel
theorem dX10_agreesFrom_1 : decode cX10_agreesFrom 1 = .ok (.aload_n 2, 1) := by decide +kernel
theorem dX10_agreesFrom_2 : decode cX10_agreesFrom 2 = .ok (.iload_n 3, 1) := by decide +kernel
theorem dX10_agreesFrom_3 : decode cX10_agreesFrom 3 = .ok (.invokevirtual 149, 3) := by decide +kernel
theorem dX10_agreesFrom_6 : decode cX10_agreesFrom 6 = .ok (.aload 4, 2) := by decide +kernel
theorem dX10_agreesFrom_8 : decode cX10_agreesFrom 8 = .ok (.invokevirtual 168, 3) := by decide +kernel
theorem dX10_agreesFrom_11 : decode cX10_agreesFrom 11 = .ok (.istore 5, 2) := by decide +kernel
theorem dX10_agreesFrom_13 : decode cX10_agreesFrom 13 = .ok (.iload_n 3, 1) := by decide +kernel
theorem dX10_agreesFrom_14 : decode cX10_agreesFrom 14 = .ok (.istore 6, 2) := by decide +kernel
theorem dX10_agreesFrom_16 : decode cX10_agreesFrom 16 = .ok (.iload 6, 2) := by decide +kernel
theorem dX10_agreesFrom_18 : decode cX10_agreesFrom 18 = .ok (.iload 5, 2) := by decide +kernel
theorem dX10_agreesFrom_20 : decode cX10_agreesFrom 20 = .ok (.if_icmp .gt 40, 3) := by decide +kernel
theorem dX10_agreesFrom_23 : decode cX10_agreesFrom 23 = .ok (.iload 6, 2) := by decide +kernel
theorem dX10_agreesFrom_25 : decode cX10_agreesFrom 25 = .ok (.sipush 168, 3) := by decide +kernel
theorem dX10_agreesFrom_28 : decode cX10_agreesFrom 28 = .ok (.if_icmp .ge 32, 3) := by decide +kernel
theorem dX10_agreesFrom_31 : decode cX10_agreesFrom 31 = .ok (.aload_n 0, 1) := by decide +kernel
theorem dX10_agreesFrom_32 : decode cX10_agreesFrom 32 = .ok (.aload_n 1, 1) := by decide +kernel
theorem dX10_agreesFrom_33 : decode cX10_agreesFrom 33 = .ok (.iload 6, 2) := by decide +kernel
theorem dX10_agreesFrom_35 : decode cX10_agreesFrom 35 = .ok (.invokevirtual 156, 3) := by decide +kernel
theorem dX10_agreesFrom_38 : decode cX10_agreesFrom 38 = .ok (.aload 4, 2) := by decide +kernel
theorem dX10_agreesFrom_40 : decode cX10_agreesFrom 40 = .ok (.iload 6, 2) := by decide +kernel
theorem dX10_agreesFrom_42 : decode cX10_agreesFrom 42 = .ok (.aload_n 0, 1) := by decide +kernel
theorem dX10_agreesFrom_43 : decode cX10_agreesFrom 43 = .ok (.getfield 27, 3) := by decide +kernel
theorem dX10_agreesFrom_46 : decode cX10_agreesFrom 46 = .ok (.invokevirtual 173, 3) := by decide +kernel
theorem dX10_agreesFrom_49 : decode cX10_agreesFrom 49 = .ok (.ifCond .ne 5, 3) := by decide +kernel
theorem dX10_agreesFrom_52 : decode cX10_agreesFrom 52 = .ok (.iconst 0, 1) := by decide +kernel
theorem dX10_agreesFrom_53 : decode cX10_agreesFrom 53 = .ok (.ireturn, 1) := by decide +kernel
theorem dX10_agreesFrom_54 : decode cX10_agreesFrom 54 = .ok (.iinc 6 1, 3) := by decide +kernel
theorem dX10_agreesFrom_57 : decode cX10_agreesFrom 57 = .ok (.goto (-41), 3) := by decide +kernel
theorem dX10_agreesFrom_60 : decode cX10_agreesFrom 60 = .ok (.iconst 1, 1) := by decide +kernel
theorem dX10_agreesFrom_61 : decode cX10_agreesFrom 61 = .ok (.ireturn, 1) := by decide +kernel
theorem dX10_beginBehind_0 : decode cX10_beginBehind 0 = .ok (.iload_n 2, 1) := by decide +kernel
theorem dX10_beginBehind_1 : decode cX10_beginBehind 1 = .ok (.ifCond .gt 10, 3) := by decide +kernel
theorem dX10_beginBehind_4 : decode cX10_beginBehind 4 = .ok (.aload_n 0, 1) := by decide +kernel
theorem dX10_beginBehind_5 : decode cX10_beginBehind 5 = .ok (.invokevirtual 142, 3) := by decide +kernel
theorem dX10_beginBehind_8 : decode cX10_beginBehind 8 = .ok (.goto 43, 3) := by decide +kernel
theorem dX10_beginBehind_11 : decode cX10_beginBehind 11 = .ok (.aload_n 1, 1) := by decide +kernel
theorem dX10_beginBehind_12 : decode cX10_beginBehind 12 = .ok (.getfield 177, 3) := by decide +kernel
theorem dX10_beginBehind_15 : decode cX10_beginBehind 15 = .ok (.iload_n 2, 1) := by decide +kernel
theorem dX10_beginBehind_16 : decode cX10_beginBehind 16 = .ok (.iconst 1, 1) := by decide +kernel
theorem dX10_beginBehind_17 : decode cX10_beginBehind 17 = .ok (.isub, 1) := by decide +kernel
theorem dX10_beginBehind_18 : decode cX10_beginBehind 18 = .ok (.bipush 40, 2) := by decide +kernel
theorem dX10_beginBehind_20 : decode cX10_beginBehind 20 = .ok (.imul, 1) := by decide +kernel
theorem dX10_beginBehind_21 : decode cX10_beginBehind 21 = .ok (.aload_n 0, 1) := by decide +kernel
theorem dX10_beginBehind_22 : decode cX10_beginBehind 22 = .ok (.getfield 21, 3) := by decide +kernel
theorem dX10_beginBehind_25 : decode cX10_beginBehind 25 = .ok (.iconst 0, 1) := by decide +kernel
theorem dX10_beginBehind_26 : decode cX10_beginBehind 26 = .ok (.bipush 40, 2) := by decide +kernel
theorem dX10_beginBehind_28 : decode cX10_beginBehind 28 = .ok (.invokestatic 59, 3) := by decide +kernel
theorem dX10_beginBehind_31 : decode cX10_beginBehind 31 = .ok (.aload_n 1, 1) := by decide +kernel
theorem dX10_beginBehind_32 : decode cX10_beginBehind 32 = .ok (.getfield 178, 3) := by decide +kernel
theorem dX10_beginBehind_35 : decode cX10_beginBehind 35 = .ok (.iload_n 2, 1) := by decide +kernel
theorem dX10_beginBehind_36 : decode cX10_beginBehind 36 = .ok (.iconst 1, 1) := by decide +kernel
theorem dX10_beginBehind_37 : decode cX10_beginBehind 37 = .ok (.isub, 1) := by decide +kernel
theorem dX10_beginBehind_38 : decode cX10_beginBehind 38 = .ok (.bipush 40, 2) := by decide +kernel
theorem dX10_beginBehind_40 : decode cX10_beginBehind 40 = .ok (.imul, 1) := by decide +kernel
theorem dX10_beginBehind_41 : decode cX10_beginBehind 41 = .ok (.aload_n 0, 1) := by decide +kernel
theorem dX10_beginBehind_42 : decode cX10_beginBehind 42 = .ok (.getfield 24, 3) := by decide +kernel
theorem dX10_beginBehind_45 : decode cX10_beginBehind 45 = .ok (.iconst 0, 1) := by decide +kernel
theorem dX10_beginBehind_46 : decode cX10_beginBehind 46 = .ok (.bipush 40, 2) := by decide +kernel
theorem dX10_beginBehind_48 : decode cX10_beginBehind 48 = .ok (.invokestatic 59, 3) := by decide +kernel
theorem dX10_beginBehind_51 : decode cX10_beginBehind 51 = .ok (.return_, 1) := by decide +kernel
theorem dX11_init_0 : decode cX11_init 0 = .ok (.aload_n 0, 1) := by decide +kernel
theorem dX11_init_1 : decode cX11_init 1 = .ok (.invokespecial 3, 3) := by decide +kernel
theorem dX11_init_4 : decode cX11_init 4 = .ok (.aload_n 0, 1) := by decide +kernel
theorem dX11_init_5 : decode cX11_init 5 = .ok (.new 9, 3) := by decide +kernel
theorem dX11_init_8 : decode cX11_init 8 = .ok (.dup, 1) := by decide +kernel
theorem dX11_init_9 : decode cX11_init 9 = .ok (.invokespecial 11, 3) := by decide +kernel
theorem dX11_init_12 : decode cX11_init 12 = .ok (.putfield 12, 3) := by decide +kernel
theorem dX11_init_15 : decode cX11_init 15 = .ok (.aload_n 0, 1) := by decide +kernel
theorem dX11_init_16 : decode cX11_init 16 = .ok (.new 16, 3) := by decide +kernel
theorem dX11_init_19 : decode cX11_init 19 = .ok (.dup, 1) := by decide +kernel
theorem dX11_init_20 : decode cX11_init 20 = .ok (.invokespecial 18, 3) := by decide +kernel
theorem dX11_init_23 : decode cX11_init 23 = .ok (.putfield 19, 3) := by decide +kernel
theorem dX11_init_26 : decode cX11_init 26 = .ok (.aload_n 0, 1) := by decide +kernel
theorem dX11_init_27 : decode cX11_init 27 = .ok (.new 16, 3) := by decide +kernel
theorem dX11_init_30 : decode cX11_init 30 = .ok (.dup, 1) := by decide +kernel
theorem dX11_init_31 : decode cX11_init 31 = .ok (.invokespecial 18, 3) := by decide +kernel
theorem dX11_init_34 : decode cX11_init 34 = .ok (.putfield 23, 3) := by decide +kernel
theorem dX11_init_37 : decode cX11_init 37 = .ok (.aload_n 0, 1) := by decide +kernel
theorem dX11_init_38 : decode cX11_init 38 = .ok (.new 16, 3) := by decide +kernel
theorem dX11_init_41 : decode cX11_init 41 = .ok (.dup, 1) := by decide +kernel
theorem dX11_init_42 : decode cX11_init 42 = .ok (.invokespecial 18, 3) := by decide +kernel
theorem dX11_init_45 : decode cX11_init 45 = .ok (.putfield 26, 3) := by decide +kernel
theorem dX11_init_48 : decode cX11_init 48 = .ok (.aload_n 0, 1) := by decide +kernel
theorem dX11_init_49 : decode cX11_init 49 = .ok (.new 16, 3) := by decide +kernel
theorem dX11_init_52 : decode cX11_init 52 = .ok (.dup, 1) := by decide +kernel
theorem dX11_init_53 : decode cX11_init 53 = .ok (.invokespecial 18, 3) := by decide +kernel
theorem dX11_init_56 : decode cX11_init 56 = .ok (.putfield 29, 3) := by decide +kernel
theorem dX11_init_59 : decode cX11_init 59 = .ok (.aload_n 0, 1) := by decide +kernel
theorem dX11_init_60 : decode cX11_init 60 = .ok (.new 32, 3) := by decide +kernel
theorem dX11_init_63 : decode cX11_init 63 = .ok (.dup, 1) := by decide +kernel
theorem dX11_init_64 : decode cX11_init 64 = .ok (.invokespecial 34, 3) := by decide +kernel
theorem dX11_init_67 : decode cX11_init 67 = .ok (.putfield 35, 3) := by decide +kernel
theorem dX11_init_70 : decode cX11_init 70 = .ok (.aload_n 0, 1) := by decide +kernel
theorem dX11_init_71 : decode cX11_init 71 = .ok (.new 39, 3) := by decide +kernel
theorem dX11_init_74 : decode cX11_init 74 = .ok (.dup, 1) := by decide +kernel
theorem dX11_init_75 : decode cX11_init 75 = .ok (.invokespecial 41, 3) := by decide +kernel
theorem dX11_init_78 : decode cX11_init 78 = .ok (.putfield 42, 3) := by decide +kernel
theorem dX11_init_81 : decode cX11_init 81 = .ok (.aload_n 0, 1) := by decide +kernel
theorem dX11_init_82 : decode cX11_init 82 = .ok (.iconst 1, 1) := by decide +kernel
theorem dX11_init_83 : decode cX11_init 83 = .ok (.putfield 46, 3) := by decide +kernel
theorem dX11_init_86 : decode cX11_init 86 = .ok (.aload_n 0, 1) := by decide +kernel
theorem dX11_init_87 : decode cX11_init 87 = .ok (.iconst 4, 1) := by decide +kernel
theorem dX11_init_88 : decode cX11_init 88 = .ok (.newarray .int, 2) := by decide +kernel
theorem dX11_init_90 : decode cX11_init 90 = .ok (.putfield 50, 3) := by decide +kernel
theorem dX11_init_93 : decode cX11_init 93 = .ok (.aload_n 0, 1) := by decide +kernel
theorem dX11_init_94 : decode cX11_init 94 = .ok (.iconst 4, 1) := by decide +kernel
theorem dX11_init_95 : decode cX11_init 95 = .ok (.newarray .int, 2) := by decide +kernel
theorem dX11_init_97 : decode cX11_init 97 = .ok (.putfield 54, 3) := by decide +kernel
theorem dX11_init_100 : decode cX11_init 100 = .ok (.aload_n 0, 1) := by decide +kernel
theorem dX11_init_101 : decode cX11_init 101 = .ok (.iconst 4, 1) := by decide +kernel
theorem dX11_init_102 : decode cX11_init 102 = .ok (.newarray .int, 2) := by decide +kernel
theorem dX11_init_104 : decode cX11_init 104 = .ok (.putfield 57, 3) := by decide +kernel
theorem dX11_init_107 : decode cX11_init 107 = .ok (.aload_n 0, 1) := by decide +kernel
theorem dX11_init_108 : decode cX11_init 108 = .ok (.iconst 3, 1) := by decide +kernel
theorem dX11_init_109 : decode cX11_init 109 = .ok (.newarray .int, 2) := by decide +kernel
theorem dX11_init_111 : decode cX11_init 111 = .ok (.dup, 1) := by decide +kernel
theorem dX11_init_112 : decode cX11_init 112 = .ok (.iconst 0, 1) := by decide +kernel
theorem dX11_init_113 : decode cX11_init 113 = .ok (.iconst (-1), 1) := by decide +kernel
theorem dX11_init_114 : decode cX11_init 114 = .ok (.iastore, 1) := by decide +kernel
theorem dX11_init_115 : decode cX11_init 115 = .ok (.dup, 1) := by decide +kernel
theorem dX11_init_116 : decode cX11_init 116 = .ok (.iconst 1, 1) := by decide +kernel
theorem dX11_init_117 : decode cX11_init 117 = .ok (.iconst (-1), 1) := by decide +kernel
theorem dX11_init_118 : decode cX11_init 118 = .ok (.iastore, 1) := by decide +kernel
theorem dX11_init_119 : decode cX11_init 119 = .ok (.dup, 1) := by decide +kernel
theorem dX11_init_120 : decode cX11_init 120 = .ok (.iconst 2, 1) := by decide +kernel
theorem dX11_init_121 : decode cX11_init 121 = .ok (.iconst (-1), 1) := by decide +kernel
theorem dX11_init_122 : decode cX11_init 122 = .ok (.iastore, 1) := by decide +kernel
theorem dX11_init_123 : decode cX11_init 123 = .ok (.putfield 60, 3) := by decide +kernel
theorem dX11_init_126 : decode cX11_init 126 = .ok (.return_, 1) := by decide +kernel
theorem dX11_feed_0 : decode cX11_feed 0 = .ok (.aload_n 0, 1) := by decide +kernel
theorem dX11_feed_1 : decode cX11_feed 1 = .ok (.getfield 12, 3) := by decide +kernel
theorem dX11_feed_4 : decode cX11_feed 4 = .ok (.getfield 63, 3) := by decide +kernel
theorem dX11_feed_7 : decode cX11_feed 7 = .ok (.sipush 920, 3) := by decide +kernel
theorem dX11_feed_10 : decode cX11_feed 10 = .ok (.if_icmp .le 5, 3) := by decide +kernel
theorem dX11_feed_13 : decode cX11_feed 13 = .ok (.iconst (-1), 1) := by decide +kernel
theorem dX11_feed_14 : decode cX11_feed 14 = .ok (.ireturn, 1) := by decide +kernel
theorem dX11_feed_15 : decode cX11_feed 15 = .ok (.aload_n 0, 1) := by decide +kernel
theorem dX11_feed_16 : decode cX11_feed 16 = .ok (.getfield 12, 3) := by decide +kernel
theorem dX11_feed_19 : decode cX11_feed 19 = .ok (.iload_n 1, 1) := by decide +kernel
theorem dX11_feed_20 : decode cX11_feed 20 = .ok (.invokevirtual 67, 3) := by decide +kernel
theorem dX11_feed_23 : decode cX11_feed 23 = .ok (.aload_n 0, 1) := by decide +kernel
theorem dX11_feed_24 : decode cX11_feed 24 = .ok (.getfield 12, 3) := by decide +kernel
theorem dX11_feed_27 : decode cX11_feed 27 = .ok (.iload_n 2, 1) := by decide +kernel
theorem dX11_feed_28 : decode cX11_feed 28 = .ok (.invokevirtual 67, 3) := by decide +kernel
theorem dX11_feed_31 : decode cX11_feed 31 = .ok (.aload_n 0, 1) := by decide +kernel
theorem dX11_feed_32 : decode cX11_feed 32 = .ok (.getfield 12, 3) := by decide +kernel
theorem dX11_feed_35 : decode cX11_feed 35 = .ok (.iload_n 3, 1) := by decide +kernel
theorem dX11_feed_36 : decode cX11_feed 36 = .ok (.invokevirtual 67, 3) := by decide +kernel
theorem dX11_feed_39 : decode cX11_feed 39 = .ok (.aload_n 0, 1) := by decide +kernel
theorem dX11_feed_40 : decode cX11_feed 40 = .ok (.getfield 12, 3) := by decide +kernel
theorem dX11_feed_43 : decode cX11_feed 43 = .ok (.iload 4, 2) := by decide +kernel
theorem dX11_feed_45 : decode cX11_feed 45 = .ok (.invokevirtual 67, 3) := by decide +kernel
theorem dX11_feed_48 : decode cX11_feed 48 = .ok (.aload_n 0, 1) := by decide +kernel
theorem dX11_feed_49 : decode cX11_feed 49 = .ok (.getfield 12, 3) := by decide +kernel
theorem dX11_feed_52 : decode cX11_feed 52 = .ok (.iload 5, 2) := by decide +kernel
theorem dX11_feed_54 : decode cX11_feed 54 = .ok (.invokevirtual 67, 3) := by decide +kernel
theorem dX11_feed_57 : decode cX11_feed 57 = .ok (.aload_n 0, 1) := by decide +kernel
theorem dX11_feed_58 : decode cX11_feed 58 = .ok (.getfield 12, 3) := by decide +kernel
theorem dX11_feed_61 : decode cX11_feed 61 = .ok (.getfield 63, 3) := by decide +kernel
theorem dX11_feed_64 : decode cX11_feed 64 = .ok (.ireturn, 1) := by decide +kernel
theorem dX11_end_0 : decode cX11_end 0 = .ok (.iload_n 1, 1) := by decide +kernel
theorem dX11_end_1 : decode cX11_end 1 = .ok (.ifCond .lt 14, 3) := by decide +kernel
theorem dX11_end_4 : decode cX11_end 4 = .ok (.iload_n 1, 1) := by decide +kernel
theorem dX11_end_5 : decode cX11_end 5 = .ok (.aload_n 0, 1) := by decide +kernel
theorem dX11_end_6 : decode cX11_end 6 = .ok (.getfield 12, 3) := by decide +kernel
theorem dX11_end_9 : decode cX11_end 9 = .ok (.getfield 63, 3) := by decide +kernel
theorem dX11_end_12 : decode cX11_end 12 = .ok (.if_icmp .le 5, 3) := by decide +kernel
theorem dX11_end_15 : decode cX11_end 15 = .ok (.iconst 0, 1) := by decide +kernel
theorem dX11_end_16 : decode cX11_end 16 = .ok (.ireturn, 1) := by decide +kernel
theorem dX11_end_17 : decode cX11_end 17 = .ok (.aload_n 0, 1) := by decide +kernel
theorem dX11_end_18 : decode cX11_end 18 = .ok (.getfield 12, 3) := by decide +kernel
theorem dX11_end_21 : decode cX11_end 21 = .ok (.iload_n 1, 1) := by decide +kernel
theorem dX11_end_22 : decode cX11_end 22 = .ok (.putfield 63, 3) := by decide +kernel
theorem dX11_end_25 : decode cX11_end 25 = .ok (.iconst 1, 1) := by decide +kernel
theorem dX11_end_26 : decode cX11_end 26 = .ok (.ireturn, 1) := by decide +kernel
theorem dX11_river_0 : decode cX11_river 0 = .ok (.aload_n 0, 1) := by decide +kernel
theorem dX11_river_1 : decode cX11_river 1 = .ok (.getfield 23, 3) := by decide +kernel
theorem dX11_river_4 : decode cX11_river 4 = .ok (.invokevirtual 71, 3) := by decide +kernel
theorem dX11_river_7 : decode cX11_river 7 = .ok (.aload_n 0, 1) := by decide +kernel
theorem dX11_river_8 : decode cX11_river 8 = .ok (.getfield 12, 3) := by decide +kernel
theorem dX11_river_11 : decode cX11_river 11 = .ok (.sipush 900, 3) := by decide +kernel
theorem dX11_river_14 : decode cX11_river 14 = .ok (.invokevirtual 74, 3) := by decide +kernel
theorem dX11_river_17 : decode cX11_river 17 = .ok (.aload_n 0, 1) := by decide +kernel
theorem dX11_river_18 : decode cX11_river 18 = .ok (.getfield 12, 3) := by decide +kernel
theorem dX11_river_21 : decode cX11_river 21 = .ok (.aload_n 0, 1) := by decide +kernel
theorem dX11_river_22 : decode cX11_river 22 = .ok (.getfield 23, 3) := by decide +kernel
theorem dX11_river_25 : decode cX11_river 25 = .ok (.getfield 77, 3) := by decide +kernel
theorem dX11_river_28 : decode cX11_river 28 = .ok (.invokestatic 81, 3) := by decide +kernel
theorem dX11_river_31 : decode cX11_river 31 = .ok (.istore_n 1, 1) := by decide +kernel
theorem dX11_river_32 : decode cX11_river 32 = .ok (.aload_n 0, 1) := by decide +kernel
theorem dX11_river_33 : decode cX11_river 33 = .ok (.invokevirtual 87, 3) := by decide +kernel
theorem dX11_river_36 : decode cX11_river 36 = .ok (.ifCond .eq 13, 3) := by decide +kernel
theorem dX11_river_39 : decode cX11_river 39 = .ok (.iconst (-1), 1) := by decide +kernel
theorem dX11_river_40 : decode cX11_river 40 = .ok (.aload_n 0, 1) := by decide +kernel
theorem dX11_river_41 : decode cX11_river 41 = .ok (.getfield 12, 3) := by decide +kernel
theorem dX11_river_44 : decode cX11_river 44 = .ok (.getfield 91, 3) := by decide +kernel
theorem dX11_river_47 : decode cX11_river 47 = .ok (.isub, 1) := by decide +kernel
theorem dX11_river_48 : decode cX11_river 48 = .ok (.ireturn, 1) := by decide +kernel
theorem dX11_river_49 : decode cX11_river 49 = .ok (.aload_n 0, 1) := by decide +kernel
theorem dX11_river_50 : decode cX11_river 50 = .ok (.getfield 19, 3) := by decide +kernel
theorem dX11_river_53 : decode cX11_river 53 = .ok (.aload_n 0, 1) := by decide +kernel
theorem dX11_river_54 : decode cX11_river 54 = .ok (.getfield 23, 3) := by decide +kernel
theorem dX11_river_57 : decode cX11_river 57 = .ok (.invokevirtual 94, 3) := by decide +kernel
theorem dX11_river_60 : decode cX11_river 60 = .ok (.aload_n 0, 1) := by decide +kernel
theorem dX11_river_61 : decode cX11_river 61 = .ok (.iconst 1, 1) := by decide +kernel
theorem dX11_river_62 : decode cX11_river 62 = .ok (.putfield 46, 3) := by decide +kernel
theorem dX11_river_65 : decode cX11_river 65 = .ok (.iload_n 1, 1) := by decide +kernel
theorem dX11_river_66 : decode cX11_river 66 = .ok (.ireturn, 1) := by decide +kernel
theorem dX11_fault_0 : decode cX11_fault 0 = .ok (.aload_n 0, 1) := by decide +kernel
theorem dX11_fault_1 : decode cX11_fault 1 = .ok (.getfield 98, 3) := by decide +kernel
theorem dX11_fault_4 : decode cX11_fault 4 = .ok (.ireturn, 1) := by decide +kernel
theorem dX11_reach_0 : decode cX11_reach 0 = .ok (.aload_n 0, 1) := by decide +kernel
theorem dX11_reach_1 : decode cX11_reach 1 = .ok (.iload_n 1, 1) := by decide +kernel
theorem dX11_reach_2 : decode cX11_reach 2 = .ok (.invokevirtual 101, 3) := by decide +kernel
theorem dX11_reach_5 : decode cX11_reach 5 = .ok (.ifCond .eq 12, 3) := by decide +kernel
theorem dX11_reach_8 : decode cX11_reach 8 = .ok (.iload_n 2, 1) := by decide +kernel
theorem dX11_reach_9 : decode cX11_reach 9 = .ok (.ifCond .lt 8, 3) := by decide +kernel
theorem dX11_reach_12 : decode cX11_reach 12 = .ok (.iload_n 2, 1) := by decide +kernel
theorem dX11_reach_13 : decode cX11_reach 13 = .ok (.iconst 1, 1) := by decide +kernel
theorem dX11_reach_14 : decode cX11_reach 14 = .ok (.if_icmp .le 11, 3) := by decide +kernel
theorem dX11_reach_17 : decode cX11_reach 17 = .ok (.new 105, 3) := by decide +kernel
theorem dX11_reach_20 : decode cX11_reach 20 = .ok (.dup, 1) := by decide +kernel
theorem dX11_reach_21 : decode cX11_reach 21 = .ok (.invokespecial 107, 3) := by decide +kernel
theorem dX11_reach_24 : decode cX11_reach 24 = .ok (.athrow, 1) := by decide +kernel
theorem dX11_reach_25 : decode cX11_reach 25 = .ok (.iload_n 2, 1) := by decide +kernel
theorem dX11_reach_26 : decode cX11_reach 26 = .ok (.ifCond .ne 18, 3) := by decide +kernel
theorem dX11_reach_29 : decode cX11_reach 29 = .ok (.aload_n 0, 1) := by decide +kernel
theorem dX11_reach_30 : decode cX11_reach 30 = .ok (.getfield 19, 3) := by decide +kernel
theorem dX11_reach_33 : decode cX11_reach 33 = .ok (.getfield 77, 3) := by decide +kernel
theorem dX11_reach_36 : decode cX11_reach 36 = .ok (.getfield 108, 3) := by decide +kernel
theorem dX11_reach_39 : decode cX11_reach 39 = .ok (.iload_n 1, 1) := by decide +kernel
theorem dX11_reach_40 : decode cX11_reach 40 = .ok (.iaload, 1) := by decide +kernel
theorem dX11_reach_41 : decode cX11_reach 41 = .ok (.goto 15, 3) := by decide +kernel
theorem dX11_reach_44 : decode cX11_reach 44 = .ok (.aload_n 0, 1) := by decide +kernel
theorem dX11_reach_45 : decode cX11_reach 45 = .ok (.getfield 19, 3) := by decide +kernel
theorem dX11_reach_48 : decode cX11_reach 48 = .ok (.getfield 77, 3) := by decide +kernel
theorem dX11_reach_51 : decode cX11_reach 51 = .ok (.getfield 113, 3) := by decide +kernel
theorem dX11_reach_54 : decode cX11_reach 54 = .ok (.iload_n 1, 1) := by decide +kernel
theorem dX11_reach_55 : decode cX11_reach 55 = .ok (.iaload, 1) := by decide +kernel
theorem dX11_reach_56 : decode cX11_reach 56 = .ok (.ireturn, 1) := by decide +kernel
theorem dX11_guild_0 : decode cX11_guild 0 = .ok (.aload_n 0, 1) := by decide +kernel
theorem dX11_guild_1 : decode cX11_guild 1 = .ok (.iload_n 1, 1) := by decide +kernel
theorem dX11_guild_2 : decode cX11_guild 2 = .ok (.invokevirtual 116, 3) := by decide +kernel
theorem dX11_guild_5 : decode cX11_guild 5 = .ok (.ifCond .eq 23, 3) := by decide +kernel
theorem dX11_guild_8 : decode cX11_guild 8 = .ok (.iload_n 2, 1) := by decide +kernel
theorem dX11_guild_9 : decode cX11_guild 9 = .ok (.ifCond .lt 19, 3) := by decide +kernel
theorem dX11_guild_12 : decode cX11_guild 12 = .ok (.iload_n 2, 1) := by decide +kernel
theorem dX11_guild_13 : decode cX11_guild 13 = .ok (.iconst 2, 1) := by decide +kernel
theorem dX11_guild_14 : decode cX11_guild 14 = .ok (.aload_n 0, 1) := by decide +kernel
theorem dX11_guild_15 : decode cX11_guild 15 = .ok (.getfield 19, 3) := by decide +kernel
theorem dX11_guild_18 : decode cX11_guild 18 = .ok (.getfield 77, 3) := by decide +kernel
theorem dX11_guild_21 : decode cX11_guild 21 = .ok (.getfield 119, 3) := by decide +kernel
theorem dX11_guild_24 : decode cX11_guild 24 = .ok (.iadd, 1) := by decide +kernel
theorem dX11_guild_25 : decode cX11_guild 25 = .ok (.if_icmp .lt 11, 3) := by decide +kernel
theorem dX11_guild_28 : decode cX11_guild 28 = .ok (.new 105, 3) := by decide +kernel
theorem dX11_guild_31 : decode cX11_guild 31 = .ok (.dup, 1) := by decide +kernel
theorem dX11_guild_32 : decode cX11_guild 32 = .ok (.invokespecial 107, 3) := by decide +kernel
theorem dX11_guild_35 : decode cX11_guild 35 = .ok (.athrow, 1) := by decide +kernel
theorem dX11_guild_36 : decode cX11_guild 36 = .ok (.iload_n 2, 1) := by decide +kernel
theorem dX11_guild_37 : decode cX11_guild 37 = .ok (.ifCond .ne 16, 3) := by decide +kernel
theorem dX11_guild_40 : decode cX11_guild 40 = .ok (.aload_n 0, 1) := by decide +kernel
theorem dX11_guild_41 : decode cX11_guild 41 = .ok (.getfield 19, 3) := by decide +kernel
theorem dX11_guild_44 : decode cX11_guild 44 = .ok (.getfield 77, 3) := by decide +kernel
theorem dX11_guild_47 : decode cX11_guild 47 = .ok (.getfield 122, 3) := by decide +kernel
theorem dX11_guild_50 : decode cX11_guild 50 = .ok (.iload_n 1, 1) := by decide +kernel
theorem dX11_guild_51 : decode cX11_guild 51 = .ok (.iaload, 1) := by decide +kernel
theorem dX11_guild_52 : decode cX11_guild 52 = .ok (.ireturn, 1) := by decide +kernel
theorem dX11_guild_53 : decode cX11_guild 53 = .ok (.iload_n 2, 1) := by decide +kernel
theorem dX11_guild_54 : decode cX11_guild 54 = .ok (.iconst 1, 1) := by decide +kernel
theorem dX11_guild_55 : decode cX11_guild 55 = .ok (.if_icmp .ne 18, 3) := by decide +kernel
theorem dX11_guild_58 : decode cX11_guild 58 = .ok (.aload_n 0, 1) := by decide +kernel
theorem dX11_guild_59 : decode cX11_guild 59 = .ok (.getfield 19, 3) := by decide +kernel
theorem dX11_guild_62 : decode cX11_guild 62 = .ok (.getfield 77, 3) := by decide +kernel
theorem dX11_guild_65 : decode cX11_guild 65 = .ok (.getfield 125, 3) := by decide +kernel
theorem dX11_guild_68 : decode cX11_guild 68 = .ok (.iload_n 1, 1) := by decide +kernel
theorem dX11_guild_69 : decode cX11_guild 69 = .ok (.iaload, 1) := by decide +kernel
theorem dX11_guild_70 : decode cX11_guild 70 = .ok (.goto 21, 3) := by decide +kernel
theorem dX11_guild_73 : decode cX11_guild 73 = .ok (.aload_n 0, 1) := by decide +kernel
theorem dX11_guild_74 : decode cX11_guild 74 = .ok (.getfield 19, 3) := by decide +kernel
theorem dX11_guild_77 : decode cX11_guild 77 = .ok (.getfield 77, 3) := by decide +kernel
theorem dX11_guild_80 : decode cX11_guild 80 = .ok (.getfield 128, 3) := by decide +kernel
theorem dX11_guild_83 : decode cX11_guild 83 = .ok (.iload_n 1, 1) := by decide +kernel
theorem dX11_guild_84 : decode cX11_guild 84 = .ok (.iconst 4, 1) := by decide +kernel
theorem dX11_guild_85 : decode cX11_guild 85 = .ok (.imul, 1) := by decide +kernel
theorem dX11_guild_86 : decode cX11_guild 86 = .ok (.iload_n 2, 1) := by decide +kernel
theorem dX11_guild_87 : decode cX11_guild 87 = .ok (.iadd, 1) := by decide +kernel
theorem dX11_guild_88 : decode cX11_guild 88 = .ok (.iconst 2, 1) := by decide +kernel
theorem dX11_guild_89 : decode cX11_guild 89 = .ok (.isub, 1) := by decide +kernel
theorem dX11_guild_90 : decode cX11_guild 90 = .ok (.iaload, 1) := by decide +kernel
theorem dX11_guild_91 : decode cX11_guild 91 = .ok (.ireturn, 1) := by decide +kernel
theorem dX11_user_0 : decode cX11_user 0 = .ok (.aload_n 0, 1) := by decide +kernel
theorem dX11_user_1 : decode cX11_user 1 = .ok (.iload_n 1, 1) := by decide +kernel
theorem dX11_user_2 : decode cX11_user 2 = .ok (.invokevirtual 131, 3) := by decide +kernel
theorem dX11_user_5 : decode cX11_user 5 = .ok (.ifCond .eq 23, 3) := by decide +kernel
theorem dX11_user_8 : decode cX11_user 8 = .ok (.iload_n 2, 1) := by decide +kernel
theorem dX11_user_9 : decode cX11_user 9 = .ok (.ifCond .lt 19, 3) := by decide +kernel
theorem dX11_user_12 : decode cX11_user 12 = .ok (.iload_n 2, 1) := by decide +kernel
theorem dX11_user_13 : decode cX11_user 13 = .ok (.iconst 3, 1) := by decide +kernel
theorem dX11_user_14 : decode cX11_user 14 = .ok (.aload_n 0, 1) := by decide +kernel
theorem dX11_user_15 : decode cX11_user 15 = .ok (.getfield 19, 3) := by decide +kernel
theorem dX11_user_18 : decode cX11_user 18 = .ok (.getfield 77, 3) := by decide +kernel
theorem dX11_user_21 : decode cX11_user 21 = .ok (.getfield 119, 3) := by decide +kernel
theorem dX11_user_24 : decode cX11_user 24 = .ok (.iadd, 1) := by decide +kernel
theorem dX11_user_25 : decode cX11_user 25 = .ok (.if_icmp .lt 11, 3) := by decide +kernel
theorem dX11_user_28 : decode cX11_user 28 = .ok (.new 105, 3) := by decide +kernel
theorem dX11_user_31 : decode cX11_user 31 = .ok (.dup, 1) := by decide +kernel
theorem dX11_user_32 : decode cX11_user 32 = .ok (.invokespecial 107, 3) := by decide +kernel
theorem dX11_user_35 : decode cX11_user 35 = .ok (.athrow, 1) := by decide +kernel
theorem dX11_user_36 : decode cX11_user 36 = .ok (.iload_n 2, 1) := by decide +kernel
theorem dX11_user_37 : decode cX11_user 37 = .ok (.ifCond .ne 16, 3) := by decide +kernel
theorem dX11_user_40 : decode cX11_user 40 = .ok (.aload_n 0, 1) := by decide +kernel
theorem dX11_user_41 : decode cX11_user 41 = .ok (.getfield 19, 3) := by decide +kernel
theorem dX11_user_44 : decode cX11_user 44 = .ok (.getfield 77, 3) := by decide +kernel
theorem dX11_user_47 : decode cX11_user 47 = .ok (.getfield 134, 3) := by decide +kernel
theorem dX11_user_50 : decode cX11_user 50 = .ok (.iload_n 1, 1) := by decide +kernel
theorem dX11_user_51 : decode cX11_user 51 = .ok (.iaload, 1) := by decide +kernel
theorem dX11_user_52 : decode cX11_user 52 = .ok (.ireturn, 1) := by decide +kernel
theorem dX11_user_53 : decode cX11_user 53 = .ok (.iload_n 2, 1) := by decide +kernel
theorem dX11_user_54 : decode cX11_user 54 = .ok (.iconst 1, 1) := by decide +kernel
theorem dX11_user_55 : decode cX11_user 55 = .ok (.if_icmp .ne 16, 3) := by decide +kernel
theorem dX11_user_58 : decode cX11_user 58 = .ok (.aload_n 0, 1) := by decide +kernel
theorem dX11_user_59 : decode cX11_user 59 = .ok (.getfield 19, 3) := by decide +kernel
theorem dX11_user_62 : decode cX11_user 62 = .ok (.getfield 77, 3) := by decide +kernel
theorem dX11_user_65 : decode cX11_user 65 = .ok (.getfield 137, 3) := by decide +kernel
theorem dX11_user_68 : decode cX11_user 68 = .ok (.iload_n 1, 1) := by decide +kernel
theorem dX11_user_69 : decode cX11_user 69 = .ok (.iaload, 1) := by decide +kernel
theorem dX11_user_70 : decode cX11_user 70 = .ok (.ireturn, 1) := by decide +kernel
theorem dX11_user_71 : decode cX11_user 71 = .ok (.iload_n 2, 1) := by decide +kernel
theorem dX11_user_72 : decode cX11_user 72 = .ok (.iconst 2, 1) := by decide +kernel
theorem dX11_user_73 : decode cX11_user 73 = .ok (.if_icmp .ne 18, 3) := by decide +kernel
theorem dX11_user_76 : decode cX11_user 76 = .ok (.aload_n 0, 1) := by decide +kernel
theorem dX11_user_77 : decode cX11_user 77 = .ok (.getfield 19, 3) := by decide +kernel
theorem dX11_user_80 : decode cX11_user 80 = .ok (.getfield 77, 3) := by decide +kernel
theorem dX11_user_83 : decode cX11_user 83 = .ok (.getfield 140, 3) := by decide +kernel
theorem dX11_user_86 : decode cX11_user 86 = .ok (.iload_n 1, 1) := by decide +kernel
theorem dX11_user_87 : decode cX11_user 87 = .ok (.iaload, 1) := by decide +kernel
theorem dX11_user_88 : decode cX11_user 88 = .ok (.goto 21, 3) := by decide +kernel
theorem dX11_user_91 : decode cX11_user 91 = .ok (.aload_n 0, 1) := by decide +kernel
theorem dX11_user_92 : decode cX11_user 92 = .ok (.getfield 19, 3) := by decide +kernel
theorem dX11_user_95 : decode cX11_user 95 = .ok (.getfield 77, 3) := by decide +kernel
theorem dX11_user_98 : decode cX11_user 98 = .ok (.getfield 143, 3) := by decide +kernel
theorem dX11_user_101 : decode cX11_user 101 = .ok (.iload_n 1, 1) := by decide +kernel
theorem dX11_user_102 : decode cX11_user 102 = .ok (.iconst 4, 1) := by decide +kernel
theorem dX11_user_103 : decode cX11_user 103 = .ok (.imul, 1) := by decide +kernel
theorem dX11_user_104 : decode cX11_user 104 = .ok (.iload_n 2, 1) := by decide +kernel
theorem dX11_user_105 : decode cX11_user 105 = .ok (.iadd, 1) := by decide +kernel
theorem dX11_user_106 : decode cX11_user 106 = .ok (.iconst 3, 1) := by decide +kernel
theorem dX11_user_107 : decode cX11_user 107 = .ok (.isub, 1) := by decide +kernel
theorem dX11_user_108 : decode cX11_user 108 = .ok (.iaload, 1) := by decide +kernel
theorem dX11_user_109 : decode cX11_user 109 = .ok (.ireturn, 1) := by decide +kernel
theorem dX11_flow_0 : decode cX11_flow 0 = .ok (.iload_n 1, 1) := by decide +kernel
theorem dX11_flow_1 : decode cX11_flow 1 = .ok (.ifCond .lt 9, 3) := by decide +kernel
theorem dX11_flow_4 : decode cX11_flow 4 = .ok (.iload_n 1, 1) := by decide +kernel
theorem dX11_flow_5 : decode cX11_flow 5 = .ok (.bipush 7, 2) := by decide +kernel
theorem dX11_flow_7 : decode cX11_flow 7 = .ok (.if_icmp .lt 11, 3) := by decide +kernel
theorem dX11_flow_10 : decode cX11_flow 10 = .ok (.new 105, 3) := by decide +kernel
theorem dX11_flow_13 : decode cX11_flow 13 = .ok (.dup, 1) := by decide +kernel
theorem dX11_flow_14 : decode cX11_flow 14 = .ok (.invokespecial 107, 3) := by decide +kernel
theorem dX11_flow_17 : decode cX11_flow 17 = .ok (.athrow, 1) := by decide +kernel
theorem dX11_flow_18 : decode cX11_flow 18 = .ok (.aload_n 0, 1) := by decide +kernel
theorem dX11_flow_19 : decode cX11_flow 19 = .ok (.getfield 19, 3) := by decide +kernel
theorem dX11_flow_22 : decode cX11_flow 22 = .ok (.getfield 77, 3) := by decide +kernel
theorem dX11_flow_25 : decode cX11_flow 25 = .ok (.iload_n 1, 1) := by decide +kernel
theorem dX11_flow_26 : decode cX11_flow 26 = .ok (.invokevirtual 146, 3) := by decide +kernel
theorem dX11_flow_29 : decode cX11_flow 29 = .ok (.ireturn, 1) := by decide +kernel
theorem dX11_order_0 : decode cX11_order 0 = .ok (.aload_n 0, 1) := by decide +kernel
theorem dX11_order_1 : decode cX11_order 1 = .ok (.getfield 23, 3) := by decide +kernel
theorem dX11_order_4 : decode cX11_order 4 = .ok (.getfield 150, 3) := by decide +kernel
theorem dX11_order_7 : decode cX11_order 7 = .ok (.invokevirtual 154, 3) := by decide +kernel
theorem dX11_order_10 : decode cX11_order 10 = .ok (.aload_n 0, 1) := by decide +kernel
theorem dX11_order_11 : decode cX11_order 11 = .ok (.getfield 12, 3) := by decide +kernel
theorem dX11_order_14 : decode cX11_order 14 = .ok (.sipush 600, 3) := by decide +kernel
theorem dX11_order_17 : decode cX11_order 17 = .ok (.invokevirtual 74, 3) := by decide +kernel
theorem dX11_order_20 : decode cX11_order 20 = .ok (.aload_n 0, 1) := by decide +kernel
theorem dX11_order_21 : decode cX11_order 21 = .ok (.getfield 23, 3) := by decide +kernel
theorem dX11_order_24 : decode cX11_order 24 = .ok (.getfield 150, 3) := by decide +kernel
theorem dX11_order_27 : decode cX11_order 27 = .ok (.aload_n 0, 1) := by decide +kernel
theorem dX11_order_28 : decode cX11_order 28 = .ok (.getfield 12, 3) := by decide +kernel
theorem dX11_order_31 : decode cX11_order 31 = .ok (.aload_n 0, 1) := by decide +kernel
theorem dX11_order_32 : decode cX11_order 32 = .ok (.getfield 19, 3) := by decide +kernel
theorem dX11_order_35 : decode cX11_order 35 = .ok (.getfield 77, 3) := by decide +kernel
theorem dX11_order_38 : decode cX11_order 38 = .ok (.getfield 157, 3) := by decide +kernel
theorem dX11_order_41 : decode cX11_order 41 = .ok (.invokevirtual 161, 3) := by decide +kernel
theorem dX11_order_44 : decode cX11_order 44 = .ok (.aload_n 0, 1) := by decide +kernel
theorem dX11_order_45 : decode cX11_order 45 = .ok (.invokevirtual 87, 3) := by decide +kernel
theorem dX11_order_48 : decode cX11_order 48 = .ok (.ifCond .eq 13, 3) := by decide +kernel
theorem dX11_order_51 : decode cX11_order 51 = .ok (.iconst (-1), 1) := by decide +kernel
theorem dX11_order_52 : decode cX11_order 52 = .ok (.aload_n 0, 1) := by decide +kernel
theorem dX11_order_53 : decode cX11_order 53 = .ok (.getfield 12, 3) := by decide +kernel
theorem dX11_order_56 : decode cX11_order 56 = .ok (.getfield 91, 3) := by decide +kernel
theorem dX11_order_59 : decode cX11_order 59 = .ok (.isub, 1) := by decide +kernel
theorem dX11_order_60 : decode cX11_order 60 = .ok (.ireturn, 1) := by decide +kernel
theorem dX11_order_61 : decode cX11_order 61 = .ok (.aload_n 0, 1) := by decide +kernel
theorem dX11_order_62 : decode cX11_order 62 = .ok (.getfield 19, 3) := by decide +kernel
theorem dX11_order_65 : decode cX11_order 65 = .ok (.getfield 150, 3) := by decide +kernel
theorem dX11_order_68 : decode cX11_order 68 = .ok (.aload_n 0, 1) := by decide +kernel
theorem dX11_order_69 : decode cX11_order 69 = .ok (.getfield 23, 3) := by decide +kernel
theorem dX11_order_72 : decode cX11_order 72 = .ok (.getfield 150, 3) := by decide +kernel
theorem dX11_order_75 : decode cX11_order 75 = .ok (.invokevirtual 165, 3) := by decide +kernel
theorem dX11_order_78 : decode cX11_order 78 = .ok (.aload_n 0, 1) := by decide +kernel
theorem dX11_order_79 : decode cX11_order 79 = .ok (.iconst 1, 1) := by decide +kernel
theorem dX11_order_80 : decode cX11_order 80 = .ok (.putfield 46, 3) := by decide +kernel
theorem dX11_order_83 : decode cX11_order 83 = .ok (.aload_n 0, 1) := by decide +kernel
theorem dX11_order_84 : decode cX11_order 84 = .ok (.getfield 19, 3) := by decide +kernel
theorem dX11_order_87 : decode cX11_order 87 = .ok (.getfield 150, 3) := by decide +kernel
theorem dX11_order_90 : decode cX11_order 90 = .ok (.getfield 168, 3) := by decide +kernel
theorem dX11_order_93 : decode cX11_order 93 = .ok (.ireturn, 1) := by decide +kernel
theorem dX11_ring_0 : decode cX11_ring 0 = .ok (.aload_n 0, 1) := by decide +kernel
theorem dX11_ring_1 : decode cX11_ring 1 = .ok (.iload_n 1, 1) := by decide +kernel
theorem dX11_ring_2 : decode cX11_ring 2 = .ok (.invokevirtual 171, 3) := by decide +kernel
theorem dX11_ring_5 : decode cX11_ring 5 = .ok (.ifCond .eq 35, 3) := by decide +kernel
theorem dX11_ring_8 : decode cX11_ring 8 = .ok (.aload_n 0, 1) := by decide +kernel
theorem dX11_ring_9 : decode cX11_ring 9 = .ok (.iload_n 2, 1) := by decide +kernel
theorem dX11_ring_10 : decode cX11_ring 10 = .ok (.invokevirtual 116, 3) := by decide +kernel
theorem dX11_ring_13 : decode cX11_ring 13 = .ok (.ifCond .eq 27, 3) := by decide +kernel
theorem dX11_ring_16 : decode cX11_ring 16 = .ok (.iload_n 3, 1) := by decide +kernel
theorem dX11_ring_17 : decode cX11_ring 17 = .ok (.iconst 1, 1) := by decide +kernel
theorem dX11_ring_18 : decode cX11_ring 18 = .ok (.if_icmp .lt 22, 3) := by decide +kernel
theorem dX11_ring_21 : decode cX11_ring 21 = .ok (.iload_n 3, 1) := by decide +kernel
theorem dX11_ring_22 : decode cX11_ring 22 = .ok (.bipush 24, 2) := by decide +kernel
theorem dX11_ring_24 : decode cX11_ring 24 = .ok (.if_icmp .gt 16, 3) := by decide +kernel
theorem dX11_ring_27 : decode cX11_ring 27 = .ok (.iload_n 1, 1) := by decide +kernel
theorem dX11_ring_28 : decode cX11_ring 28 = .ok (.iload_n 3, 1) := by decide +kernel
theorem dX11_ring_29 : decode cX11_ring 29 = .ok (.iadd, 1) := by decide +kernel
theorem dX11_ring_30 : decode cX11_ring 30 = .ok (.sipush 168, 3) := by decide +kernel
theorem dX11_ring_33 : decode cX11_ring 33 = .ok (.if_icmp .gt 7, 3) := by decide +kernel
theorem dX11_ring_36 : decode cX11_ring 36 = .ok (.iconst 1, 1) := by decide +kernel
theorem dX11_ring_37 : decode cX11_ring 37 = .ok (.goto 4, 3) := by decide +kernel
theorem dX11_ring_40 : decode cX11_ring 40 = .ok (.iconst 0, 1) := by decide +kernel
theorem dX11_ring_41 : decode cX11_ring 41 = .ok (.istore 4, 2) := by decide +kernel
theorem dX11_ring_43 : decode cX11_ring 43 = .ok (.iload 4, 2) := by decide +kernel
theorem dX11_ring_45 : decode cX11_ring 45 = .ok (.ifCond .eq 18, 3) := by decide +kernel
theorem dX11_ring_48 : decode cX11_ring 48 = .ok (.aload_n 0, 1) := by decide +kernel
theorem dX11_ring_49 : decode cX11_ring 49 = .ok (.getfield 19, 3) := by decide +kernel
theorem dX11_ring_52 : decode cX11_ring 52 = .ok (.getfield 150, 3) := by decide +kernel
theorem dX11_ring_55 : decode cX11_ring 55 = .ok (.getfield 168, 3) := by decide +kernel
theorem dX11_ring_58 : decode cX11_ring 58 = .ok (.bipush 40, 2) := by decide +kernel
theorem dX11_ring_60 : decode cX11_ring 60 = .ok (.if_icmp .lt 5, 3) := by decide +kernel
theorem dX11_ring_63 : decode cX11_ring 63 = .ok (.iconst (-1), 1) := by decide +kernel
theorem dX11_ring_64 : decode cX11_ring 64 = .ok (.ireturn, 1) := by decide +kernel
theorem dX11_ring_65 : decode cX11_ring 65 = .ok (.aload_n 0, 1) := by decide +kernel
theorem dX11_ring_66 : decode cX11_ring 66 = .ok (.getfield 19, 3) := by decide +kernel
theorem dX11_ring_69 : decode cX11_ring 69 = .ok (.getfield 150, 3) := by decide +kernel
theorem dX11_ring_72 : decode cX11_ring 72 = .ok (.iload_n 1, 1) := by decide +kernel
theorem dX11_ring_73 : decode cX11_ring 73 = .ok (.iload_n 2, 1) := by decide +kernel
theorem dX11_ring_74 : decode cX11_ring 74 = .ok (.iload_n 3, 1) := by decide +kernel
theorem dX11_ring_75 : decode cX11_ring 75 = .ok (.invokevirtual 174, 3) := by decide +kernel
theorem dX11_ring_78 : decode cX11_ring 78 = .ok (.aload_n 0, 1) := by decide +kernel
theorem dX11_ring_79 : decode cX11_ring 79 = .ok (.iconst 1, 1) := by decide +kernel
theorem dX11_ring_80 : decode cX11_ring 80 = .ok (.putfield 46, 3) := by decide +kernel
theorem dX11_ring_83 : decode cX11_ring 83 = .ok (.aload_n 0, 1) := by decide +kernel
theorem dX11_ring_84 : decode cX11_ring 84 = .ok (.getfield 19, 3) := by decide +kernel
theorem dX11_ring_87 : decode cX11_ring 87 = .ok (.getfield 150, 3) := by decide +kernel
theorem dX11_ring_90 : decode cX11_ring 90 = .ok (.getfield 168, 3) := by decide +kernel
theorem dX11_ring_93 : decode cX11_ring 93 = .ok (.iconst 1, 1) := by decide +kernel
theorem dX11_ring_94 : decode cX11_ring 94 = .ok (.isub, 1) := by decide +kernel
theorem dX11_ring_95 : decode cX11_ring 95 = .ok (.ireturn, 1) := by decide +kernel
theorem dX11_undo_0 : decode cX11_undo 0 = .ok (.aload_n 0, 1) := by decide +kernel
theorem dX11_undo_1 : decode cX11_undo 1 = .ok (.getfield 19, 3) := by decide +kernel
theorem dX11_undo_4 : decode cX11_undo 4 = .ok (.getfield 150, 3) := by decide +kernel
theorem dX11_undo_7 : decode cX11_undo 7 = .ok (.getfield 168, 3) := by decide +kernel
theorem dX11_undo_10 : decode cX11_undo 10 = .ok (.ifCond .gt 5, 3) := by decide +kernel
theorem dX11_undo_13 : decode cX11_undo 13 = .ok (.iconst (-1), 1) := by decide +kernel
theorem dX11_undo_14 : decode cX11_undo 14 = .ok (.ireturn, 1) := by decide +kernel
theorem dX11_undo_15 : decode cX11_undo 15 = .ok (.aload_n 0, 1) := by decide +kernel
theorem dX11_undo_16 : decode cX11_undo 16 = .ok (.getfield 19, 3) := by decide +kernel
theorem dX11_undo_19 : decode cX11_undo 19 = .ok (.getfield 150, 3) := by decide +kernel
theorem dX11_undo_22 : decode cX11_undo 22 = .ok (.dup, 1) := by decide +kernel
theorem dX11_undo_23 : decode cX11_undo 23 = .ok (.getfield 168, 3) := by decide +kernel
theorem dX11_undo_26 : decode cX11_undo 26 = .ok (.iconst 1, 1) := by decide +kernel
theorem dX11_undo_27 : decode cX11_undo 27 = .ok (.isub, 1) := by decide +kernel
theorem dX11_undo_28 : decode cX11_undo 28 = .ok (.putfield 168, 3) := by decide +kernel
theorem dX11_undo_31 : decode cX11_undo 31 = .ok (.aload_n 0, 1) := by decide +kernel
theorem dX11_undo_32 : decode cX11_undo 32 = .ok (.iconst 1, 1) := by decide +kernel
theorem dX11_undo_33 : decode cX11_undo 33 = .ok (.putfield 46, 3) := by decide +kernel
theorem dX11_undo_36 : decode cX11_undo 36 = .ok (.aload_n 0, 1) := by decide +kernel
theorem dX11_undo_37 : decode cX11_undo 37 = .ok (.getfield 19, 3) := by decide +kernel
theorem dX11_undo_40 : decode cX11_undo 40 = .ok (.getfield 150, 3) := by decide +kernel
theorem dX11_undo_43 : decode cX11_undo 43 = .ok (.getfield 168, 3) := by decide +kernel
theorem dX11_undo_46 : decode cX11_undo 46 = .ok (.ireturn, 1) := by decide +kernel
theorem dX11_bell_0 : decode cX11_bell 0 = .ok (.aload_n 0, 1) := by decide +kernel
theorem dX11_bell_1 : decode cX11_bell 1 = .ok (.iload_n 1, 1) := by decide +kernel
theorem dX11_bell_2 : decode cX11_bell 2 = .ok (.invokevirtual 178, 3) := by decide +kernel
theorem dX11_bell_5 : decode cX11_bell 5 = .ok (.ifCond .eq 12, 3) := by decide +kernel
theorem dX11_bell_8 : decode cX11_bell 8 = .ok (.iload_n 2, 1) := by decide +kernel
theorem dX11_bell_9 : decode cX11_bell 9 = .ok (.ifCond .lt 8, 3) := by decide +kernel
theorem dX11_bell_12 : decode cX11_bell 12 = .ok (.iload_n 2, 1) := by decide +kernel
theorem dX11_bell_13 : decode cX11_bell 13 = .ok (.iconst 2, 1) := by decide +kernel
theorem dX11_bell_14 : decode cX11_bell 14 = .ok (.if_icmp .le 11, 3) := by decide +kernel
theorem dX11_bell_17 : decode cX11_bell 17 = .ok (.new 105, 3) := by decide +kernel
theorem dX11_bell_20 : decode cX11_bell 20 = .ok (.dup, 1) := by decide +kernel
theorem dX11_bell_21 : decode cX11_bell 21 = .ok (.invokespecial 107, 3) := by decide +kernel
theorem dX11_bell_24 : decode cX11_bell 24 = .ok (.athrow, 1) := by decide +kernel
theorem dX11_bell_25 : decode cX11_bell 25 = .ok (.iload_n 2, 1) := by decide +kernel
theorem dX11_bell_26 : decode cX11_bell 26 = .ok (.ifCond .ne 16, 3) := by decide +kernel
theorem dX11_bell_29 : decode cX11_bell 29 = .ok (.aload_n 0, 1) := by decide +kernel
theorem dX11_bell_30 : decode cX11_bell 30 = .ok (.getfield 19, 3) := by decide +kernel
theorem dX11_bell_33 : decode cX11_bell 33 = .ok (.getfield 150, 3) := by decide +kernel
theorem dX11_bell_36 : decode cX11_bell 36 = .ok (.getfield 181, 3) := by decide +kernel
theorem dX11_bell_39 : decode cX11_bell 39 = .ok (.iload_n 1, 1) := by decide +kernel
theorem dX11_bell_40 : decode cX11_bell 40 = .ok (.iaload, 1) := by decide +kernel
theorem dX11_bell_41 : decode cX11_bell 41 = .ok (.ireturn, 1) := by decide +kernel
theorem dX11_bell_42 : decode cX11_bell 42 = .ok (.iload_n 2, 1) := by decide +kernel
theorem dX11_bell_43 : decode cX11_bell 43 = .ok (.iconst 1, 1) := by decide +kernel
theorem dX11_bell_44 : decode cX11_bell 44 = .ok (.if_icmp .ne 18, 3) := by decide +kernel
theorem dX11_bell_47 : decode cX11_bell 47 = .ok (.aload_n 0, 1) := by decide +kernel
theorem dX11_bell_48 : decode cX11_bell 48 = .ok (.getfield 19, 3) := by decide +kernel
theorem dX11_bell_51 : decode cX11_bell 51 = .ok (.getfield 150, 3) := by decide +kernel
theorem dX11_bell_54 : decode cX11_bell 54 = .ok (.getfield 184, 3) := by decide +kernel
theorem dX11_bell_57 : decode cX11_bell 57 = .ok (.iload_n 1, 1) := by decide +kernel
theorem dX11_bell_58 : decode cX11_bell 58 = .ok (.iaload, 1) := by decide +kernel
theorem dX11_bell_59 : decode cX11_bell 59 = .ok (.goto 15, 3) := by decide +kernel
theorem dX11_bell_62 : decode cX11_bell 62 = .ok (.aload_n 0, 1) := by decide +kernel
theorem dX11_bell_63 : decode cX11_bell 63 = .ok (.getfield 19, 3) := by decide +kernel
theorem dX11_bell_66 : decode cX11_bell 66 = .ok (.getfield 150, 3) := by decide +kernel
theorem dX11_bell_69 : decode cX11_bell 69 = .ok (.getfield 187, 3) := by decide +kernel
theorem dX11_bell_72 : decode cX11_bell 72 = .ok (.iload_n 1, 1) := by decide +kernel
theorem dX11_bell_73 : decode cX11_bell 73 = .ok (.iaload, 1) := by decide +kernel
theorem dX11_bell_74 : decode cX11_bell 74 = .ok (.ireturn, 1) := by decide +kernel
theorem dX11_at_0 : decode cX11_at 0 = .ok (.aload_n 0, 1) := by decide +kernel
theorem dX11_at_1 : decode cX11_at 1 = .ok (.iload_n 1, 1) := by decide +kernel
theorem dX11_at_2 : decode cX11_at 2 = .ok (.invokevirtual 171, 3) := by decide +kernel
theorem dX11_at_5 : decode cX11_at 5 = .ok (.ifCond .eq 19, 3) := by decide +kernel
theorem dX11_at_8 : decode cX11_at 8 = .ok (.aload_n 0, 1) := by decide +kernel
theorem dX11_at_9 : decode cX11_at 9 = .ok (.iload_n 2, 1) := by decide +kernel
theorem dX11_at_10 : decode cX11_at 10 = .ok (.invokevirtual 101, 3) := by decide +kernel
theorem dX11_at_13 : decode cX11_at 13 = .ok (.ifCond .eq 11, 3) := by decide +kernel
theorem dX11_at_16 : decode cX11_at 16 = .ok (.aload_n 0, 1) := by decide +kernel
theorem dX11_at_17 : decode cX11_at 17 = .ok (.iload_n 3, 1) := by decide +kernel
theorem dX11_at_18 : decode cX11_at 18 = .ok (.invokevirtual 190, 3) := by decide +kernel
theorem dX11_at_21 : decode cX11_at 21 = .ok (.ifCond .ne 5, 3) := by decide +kernel
theorem dX11_at_24 : decode cX11_at 24 = .ok (.iconst (-1), 1) := by decide +kernel
theorem dX11_at_25 : decode cX11_at 25 = .ok (.ireturn, 1) := by decide +kernel
theorem dX11_at_26 : decode cX11_at 26 = .ok (.aload_n 0, 1) := by decide +kernel
theorem dX11_at_27 : decode cX11_at 27 = .ok (.invokevirtual 193, 3) := by decide +kernel
theorem dX11_at_30 : decode cX11_at 30 = .ok (.astore 5, 2) := by decide +kernel
theorem dX11_at_32 : decode cX11_at 32 = .ok (.iload_n 1, 1) := by decide +kernel
theorem dX11_at_33 : decode cX11_at 33 = .ok (.bipush 40, 2) := by decide +kernel
theorem dX11_at_35 : decode cX11_at 35 = .ok (.imul, 1) := by decide +kernel
theorem dX11_at_36 : decode cX11_at 36 = .ok (.iload_n 2, 1) := by decide +kernel
theorem dX11_at_37 : decode cX11_at 37 = .ok (.iconst 4, 1) := by decide +kernel
theorem dX11_at_38 : decode cX11_at 38 = .ok (.imul, 1) := by decide +kernel
theorem dX11_at_39 : decode cX11_at 39 = .ok (.iadd, 1) := by decide +kernel
theorem dX11_at_40 : decode cX11_at 40 = .ok (.iload_n 3, 1) := by decide +kernel
theorem dX11_at_41 : decode cX11_at 41 = .ok (.iadd, 1) := by decide +kernel
theorem dX11_at_42 : decode cX11_at 42 = .ok (.istore 6, 2) := by decide +kernel
theorem dX11_at_44 : decode cX11_at 44 = .ok (.iload 4, 2) := by decide +kernel
theorem dX11_at_46 : decode cX11_at 46 = .ok (.tableswitch 68 0 2 #[26, 35, 44], 26) := by decide +kernel
theorem dX11_at_72 : decode cX11_at 72 = .ok (.aload 5, 2) := by decide +kernel
theorem dX11_at_74 : decode cX11_at 74 = .ok (.getfield 196, 3) := by decide +kernel
theorem dX11_at_77 : decode cX11_at 77 = .ok (.iload 6, 2) := by decide +kernel
theorem dX11_at_79 : decode cX11_at 79 = .ok (.iaload, 1) := by decide +kernel
theorem dX11_at_80 : decode cX11_at 80 = .ok (.ireturn, 1) := by decide +kernel
theorem dX11_at_81 : decode cX11_at 81 = .ok (.aload 5, 2) := by decide +kernel
theorem dX11_at_83 : decode cX11_at 83 = .ok (.getfield 199, 3) := by decide +kernel
theorem dX11_at_86 : decode cX11_at 86 = .ok (.iload 6, 2) := by decide +kernel
theorem dX11_at_88 : decode cX11_at 88 = .ok (.iaload, 1) := by decide +kernel
theorem dX11_at_89 : decode cX11_at 89 = .ok (.ireturn, 1) := by decide +kernel
theorem dX11_at_90 : decode cX11_at 90 = .ok (.aload 5, 2) := by decide +kernel
theorem dX11_at_92 : decode cX11_at 92 = .ok (.getfield 196, 3) := by decide +kernel
theorem dX11_at_95 : decode cX11_at 95 = .ok (.iload 6, 2) := by decide +kernel
theorem dX11_at_97 : decode cX11_at 97 = .ok (.iaload, 1) := by decide +kernel
theorem dX11_at_98 : decode cX11_at 98 = .ok (.aload_n 0, 1) := by decide +kernel
theorem dX11_at_99 : decode cX11_at 99 = .ok (.getfield 19, 3) := by decide +kernel
theorem dX11_at_102 : decode cX11_at 102 = .ok (.getfield 77, 3) := by decide +kernel
theorem dX11_at_105 : decode cX11_at 105 = .ok (.getfield 108, 3) := by decide +kernel
theorem dX11_at_108 : decode cX11_at 108 = .ok (.iload_n 2, 1) := by decide +kernel
theorem dX11_at_109 : decode cX11_at 109 = .ok (.iaload, 1) := by decide +kernel
theorem dX11_at_110 : decode cX11_at 110 = .ok (.invokestatic 202, 3) := by decide +kernel
theorem dX11_at_113 : decode cX11_at 113 = .ok (.ireturn, 1) := by decide +kernel
theorem dX11_at_114 : decode cX11_at 114 = .ok (.iconst (-1), 1) := by decide +kernel
theorem dX11_at_115 : decode cX11_at 115 = .ok (.ireturn, 1) := by decide +kernel
theorem dX11_passed_0 : decode cX11_passed 0 = .ok (.aload_n 0, 1) := by decide +kernel
theorem dX11_passed_1 : decode cX11_passed 1 = .ok (.iload_n 1, 1) := by decide +kernel
theorem dX11_passed_2 : decode cX11_passed 2 = .ok (.invokevirtual 171, 3) := by decide +kernel
theorem dX11_passed_5 : decode cX11_passed 5 = .ok (.ifCond .eq 11, 3) := by decide +kernel
theorem dX11_passed_8 : decode cX11_passed 8 = .ok (.aload_n 0, 1) := by decide +kernel
theorem dX11_passed_9 : decode cX11_passed 9 = .ok (.iload_n 2, 1) := by decide +kernel
theorem dX11_passed_10 : decode cX11_passed 10 = .ok (.invokevirtual 190, 3) := by decide +kernel
theorem dX11_passed_13 : decode cX11_passed 13 = .ok (.ifCond .ne 5, 3) := by decide +kernel
theorem dX11_passed_16 : decode cX11_passed 16 = .ok (.iconst (-1), 1) := by decide +kernel
theorem dX11_passed_17 : decode cX11_passed 17 = .ok (.ireturn, 1) := by decide +kernel
theorem dX11_passed_18 : decode cX11_passed 18 = .ok (.aload_n 0, 1) := by decide +kernel
theorem dX11_passed_19 : decode cX11_passed 19 = .ok (.invokevirtual 193, 3) := by decide +kernel
theorem dX11_passed_22 : decode cX11_passed 22 = .ok (.getfield 206, 3) := by decide +kernel
theorem dX11_passed_25 : decode cX11_passed 25 = .ok (.iload_n 1, 1) := by decide +kernel
theorem dX11_passed_26 : decode cX11_passed 26 = .ok (.iconst 4, 1) := by decide +kernel
theorem dX11_passed_27 : decode cX11_passed 27 = .ok (.imul, 1) := by decide +kernel
theorem dX11_passed_28 : decode cX11_passed 28 = .ok (.iload_n 2, 1) := by decide +kernel
theorem dX11_passed_29 : decode cX11_passed 29 = .ok (.iadd, 1) := by decide +kernel
theorem dX11_passed_30 : decode cX11_passed 30 = .ok (.iaload, 1) := by decide +kernel
theorem dX11_passed_31 : decode cX11_passed 31 = .ok (.ireturn, 1) := by decide +kernel
theorem dX11_sum_0 : decode cX11_sum 0 = .ok (.aload_n 0, 1) := by decide +kernel
theorem dX11_sum_1 : decode cX11_sum 1 = .ok (.iload_n 1, 1) := by decide +kernel
theorem dX11_sum_2 : decode cX11_sum 2 = .ok (.invokevirtual 190, 3) := by decide +kernel
theorem dX11_sum_5 : decode cX11_sum 5 = .ok (.ifCond .ne 5, 3) := by decide +kernel
theorem dX11_sum_8 : decode cX11_sum 8 = .ok (.iconst (-1), 1) := by decide +kernel
theorem dX11_sum_9 : decode cX11_sum 9 = .ok (.ireturn, 1) := by decide +kernel
theorem dX11_sum_10 : decode cX11_sum 10 = .ok (.aload_n 0, 1) := by decide +kernel
theorem dX11_sum_11 : decode cX11_sum 11 = .ok (.invokevirtual 193, 3) := by decide +kernel
theorem dX11_sum_14 : decode cX11_sum 14 = .ok (.astore_n 3, 1) := by decide +kernel
theorem dX11_sum_15 : decode cX11_sum 15 = .ok (.iload_n 2, 1) := by decide +kernel
theorem dX11_sum_16 : decode cX11_sum 16 = .ok (.tableswitch 71 0 3 #[32, 45, 51, 61], 32) := by decide +kernel
theorem dX11_sum_48 : decode cX11_sum 48 = .ok (.aload_n 3, 1) := by decide +kernel
theorem dX11_sum_49 : decode cX11_sum 49 = .ok (.aload_n 0, 1) := by decide +kernel
theorem dX11_sum_50 : decode cX11_sum 50 = .ok (.getfield 19, 3) := by decide +kernel
theorem dX11_sum_53 : decode cX11_sum 53 = .ok (.getfield 77, 3) := by decide +kernel
theorem dX11_sum_56 : decode cX11_sum 56 = .ok (.iload_n 1, 1) := by decide +kernel
theorem dX11_sum_57 : decode cX11_sum 57 = .ok (.invokevirtual 209, 3) := by decide +kernel
theorem dX11_sum_60 : decode cX11_sum 60 = .ok (.ireturn, 1) := by decide +kernel
theorem dX11_sum_61 : decode cX11_sum 61 = .ok (.aload_n 3, 1) := by decide +kernel
theorem dX11_sum_62 : decode cX11_sum 62 = .ok (.iload_n 1, 1) := by decide +kernel
theorem dX11_sum_63 : decode cX11_sum 63 = .ok (.invokevirtual 213, 3) := by decide +kernel
theorem dX11_sum_66 : decode cX11_sum 66 = .ok (.ireturn, 1) := by decide +kernel
theorem dX11_sum_67 : decode cX11_sum 67 = .ok (.aload_n 3, 1) := by decide +kernel
theorem dX11_sum_68 : decode cX11_sum 68 = .ok (.aload_n 3, 1) := by decide +kernel
theorem dX11_sum_69 : decode cX11_sum 69 = .ok (.getfield 196, 3) := by decide +kernel
theorem dX11_sum_72 : decode cX11_sum 72 = .ok (.iload_n 1, 1) := by decide +kernel
theorem dX11_sum_73 : decode cX11_sum 73 = .ok (.invokevirtual 216, 3) := by decide +kernel
theorem dX11_sum_76 : decode cX11_sum 76 = .ok (.ireturn, 1) := by decide +kernel
theorem dX11_sum_77 : decode cX11_sum 77 = .ok (.aload_n 3, 1) := by decide +kernel
theorem dX11_sum_78 : decode cX11_sum 78 = .ok (.aload_n 3, 1) := by decide +kernel
theorem dX11_sum_79 : decode cX11_sum 79 = .ok (.getfield 199, 3) := by decide +kernel
theorem dX11_sum_82 : decode cX11_sum 82 = .ok (.iload_n 1, 1) := by decide +kernel
theorem dX11_sum_83 : decode cX11_sum 83 = .ok (.invokevirtual 216, 3) := by decide +kernel
theorem dX11_sum_86 : decode cX11_sum 86 = .ok (.ireturn, 1) := by decide +kernel
theorem dX11_sum_87 : decode cX11_sum 87 = .ok (.iconst (-1), 1) := by decide +kernel
theorem dX11_sum_88 : decode cX11_sum 88 = .ok (.ireturn, 1) := by decide +kernel
theorem dX11_fine_0 : decode cX11_fine 0 = .ok (.aload_n 0, 1) := by decide +kernel
theorem dX11_fine_1 : decode cX11_fine 1 = .ok (.iload_n 1, 1) := by decide +kernel
theorem dX11_fine_2 : decode cX11_fine 2 = .ok (.invokevirtual 171, 3) := by decide +kernel
theorem dX11_fine_5 : decode cX11_fine 5 = .ok (.ifCond .eq 11, 3) := by decide +kernel
theorem dX11_fine_8 : decode cX11_fine 8 = .ok (.aload_n 0, 1) := by decide +kernel
theorem dX11_fine_9 : decode cX11_fine 9 = .ok (.iload_n 2, 1) := by decide +kernel
theorem dX11_fine_10 : decode cX11_fine 10 = .ok (.invokevirtual 101, 3) := by decide +kernel
theorem dX11_fine_13 : decode cX11_fine 13 = .ok (.ifCond .ne 5, 3) := by decide +kernel
theorem dX11_fine_16 : decode cX11_fine 16 = .ok (.iconst (-1), 1) := by decide +kernel
theorem dX11_fine_17 : decode cX11_fine 17 = .ok (.ireturn, 1) := by decide +kernel
theorem dX11_fine_18 : decode cX11_fine 18 = .ok (.aload_n 0, 1) := by decide +kernel
theorem dX11_fine_19 : decode cX11_fine 19 = .ok (.invokevirtual 193, 3) := by decide +kernel
theorem dX11_fine_22 : decode cX11_fine 22 = .ok (.astore_n 3, 1) := by decide +kernel
theorem dX11_fine_23 : decode cX11_fine 23 = .ok (.iconst 0, 1) := by decide +kernel
theorem dX11_fine_24 : decode cX11_fine 24 = .ok (.istore 4, 2) := by decide +kernel
theorem dX11_fine_26 : decode cX11_fine 26 = .ok (.iconst 0, 1) := by decide +kernel
theorem dX11_fine_27 : decode cX11_fine 27 = .ok (.istore 5, 2) := by decide +kernel
theorem dX11_fine_29 : decode cX11_fine 29 = .ok (.iload 5, 2) := by decide +kernel
theorem dX11_fine_31 : decode cX11_fine 31 = .ok (.aload_n 0, 1) := by decide +kernel
theorem dX11_fine_32 : decode cX11_fine 32 = .ok (.getfield 19, 3) := by decide +kernel
theorem dX11_fine_35 : decode cX11_fine 35 = .ok (.getfield 77, 3) := by decide +kernel
theorem dX11_fine_38 : decode cX11_fine 38 = .ok (.getfield 119, 3) := by decide +kernel
theorem dX11_fine_41 : decode cX11_fine 41 = .ok (.if_icmp .ge 41, 3) := by decide +kernel
theorem dX11_fine_44 : decode cX11_fine 44 = .ok (.iload 4, 2) := by decide +kernel
theorem dX11_fine_46 : decode cX11_fine 46 = .ok (.aload_n 0, 1) := by decide +kernel
theorem dX11_fine_47 : decode cX11_fine 47 = .ok (.getfield 19, 3) := by decide +kernel
theorem dX11_fine_50 : decode cX11_fine 50 = .ok (.getfield 77, 3) := by decide +kernel
theorem dX11_fine_53 : decode cX11_fine 53 = .ok (.iload 5, 2) := by decide +kernel
theorem dX11_fine_55 : decode cX11_fine 55 = .ok (.aload_n 3, 1) := by decide +kernel
theorem dX11_fine_56 : decode cX11_fine 56 = .ok (.aload_n 0, 1) := by decide +kernel
theorem dX11_fine_57 : decode cX11_fine 57 = .ok (.getfield 19, 3) := by decide +kernel
theorem dX11_fine_60 : decode cX11_fine 60 = .ok (.getfield 77, 3) := by decide +kernel
theorem dX11_fine_63 : decode cX11_fine 63 = .ok (.iload_n 1, 1) := by decide +kernel
theorem dX11_fine_64 : decode cX11_fine 64 = .ok (.iload_n 2, 1) := by decide +kernel
theorem dX11_fine_65 : decode cX11_fine 65 = .ok (.iload 5, 2) := by decide +kernel
theorem dX11_fine_67 : decode cX11_fine 67 = .ok (.invokevirtual 220, 3) := by decide +kernel
theorem dX11_fine_70 : decode cX11_fine 70 = .ok (.invokevirtual 224, 3) := by decide +kernel
theorem dX11_fine_73 : decode cX11_fine 73 = .ok (.iadd, 1) := by decide +kernel
theorem dX11_fine_74 : decode cX11_fine 74 = .ok (.istore 4, 2) := by decide +kernel
theorem dX11_fine_76 : decode cX11_fine 76 = .ok (.iinc 5 1, 3) := by decide +kernel
theorem dX11_fine_79 : decode cX11_fine 79 = .ok (.goto (-50), 3) := by decide +kernel
theorem dX11_fine_82 : decode cX11_fine 82 = .ok (.iload 4, 2) := by decide +kernel
theorem dX11_fine_84 : decode cX11_fine 84 = .ok (.ireturn, 1) := by decide +kernel
theorem dX11_harmed_0 : decode cX11_harmed 0 = .ok (.aload_n 0, 1) := by decide +kernel
theorem dX11_harmed_1 : decode cX11_harmed 1 = .ok (.iload_n 1, 1) := by decide +kernel
theorem dX11_harmed_2 : decode cX11_harmed 2 = .ok (.invokevirtual 131, 3) := by decide +kernel
theorem dX11_harmed_5 : decode cX11_harmed 5 = .ok (.ifCond .eq 8, 3) := by decide +kernel
theorem dX11_harmed_8 : decode cX11_harmed 8 = .ok (.iload_n 2, 1) := by decide +kernel
theorem dX11_harmed_9 : decode cX11_harmed 9 = .ok (.iconst (-1), 1) := by decide +kernel
theorem dX11_harmed_10 : decode cX11_harmed 10 = .ok (.if_icmp .ge 5, 3) := by decide +kernel
theorem dX11_harmed_13 : decode cX11_harmed 13 = .ok (.iconst (-1), 1) := by decide +kernel
theorem dX11_harmed_14 : decode cX11_harmed 14 = .ok (.ireturn, 1) := by decide +kernel
theorem dX11_harmed_15 : decode cX11_harmed 15 = .ok (.aload_n 0, 1) := by decide +kernel
theorem dX11_harmed_16 : decode cX11_harmed 16 = .ok (.invokevirtual 193, 3) := by decide +kernel
theorem dX11_harmed_19 : decode cX11_harmed 19 = .ok (.astore_n 3, 1) := by decide +kernel
theorem dX11_harmed_20 : decode cX11_harmed 20 = .ok (.iconst 0, 1) := by decide +kernel
theorem dX11_harmed_21 : decode cX11_harmed 21 = .ok (.istore 4, 2) := by decide +kernel
theorem dX11_harmed_23 : decode cX11_harmed 23 = .ok (.iconst 0, 1) := by decide +kernel
theorem dX11_harmed_24 : decode cX11_harmed 24 = .ok (.istore 5, 2) := by decide +kernel
theorem dX11_harmed_26 : decode cX11_harmed 26 = .ok (.iload 5, 2) := by decide +kernel
theorem dX11_harmed_28 : decode cX11_harmed 28 = .ok (.sipush 168, 3) := by decide +kernel
theorem dX11_harmed_31 : decode cX11_harmed 31 = .ok (.if_icmp .ge 31, 3) := by decide +kernel
theorem dX11_harmed_34 : decode cX11_harmed 34 = .ok (.aload_n 3, 1) := by decide +kernel
theorem dX11_harmed_35 : decode cX11_harmed 35 = .ok (.iload_n 1, 1) := by decide +kernel
theorem dX11_harmed_36 : decode cX11_harmed 36 = .ok (.iload 5, 2) := by decide +kernel
theorem dX11_harmed_38 : decode cX11_harmed 38 = .ok (.invokevirtual 227, 3) := by decide +kernel
theorem dX11_harmed_41 : decode cX11_harmed 41 = .ok (.ifCond .eq 15, 3) := by decide +kernel
theorem dX11_harmed_44 : decode cX11_harmed 44 = .ok (.iload 4, 2) := by decide +kernel
theorem dX11_harmed_46 : decode cX11_harmed 46 = .ok (.iload_n 2, 1) := by decide +kernel
theorem dX11_harmed_47 : decode cX11_harmed 47 = .ok (.if_icmp .ne 6, 3) := by decide +kernel
theorem dX11_harmed_50 : decode cX11_harmed 50 = .ok (.iload 5, 2) := by decide +kernel
theorem dX11_harmed_52 : decode cX11_harmed 52 = .ok (.ireturn, 1) := by decide +kernel
theorem dX11_harmed_53 : decode cX11_harmed 53 = .ok (.iinc 4 1, 3) := by decide +kernel
theorem dX11_harmed_56 : decode cX11_harmed 56 = .ok (.iinc 5 1, 3) := by decide +kernel
theorem dX11_harmed_59 : decode cX11_harmed 59 = .ok (.goto (-33), 3) := by decide +kernel
theorem dX11_harmed_62 : decode cX11_harmed 62 = .ok (.iload_n 2, 1) := by decide +kernel
theorem dX11_harmed_63 : decode cX11_harmed 63 = .ok (.iconst (-1), 1) := by decide +kernel
theorem dX11_harmed_64 : decode cX11_harmed 64 = .ok (.if_icmp .ne 8, 3) := by decide +kernel
theorem dX11_harmed_67 : decode cX11_harmed 67 = .ok (.iload 4, 2) := by decide +kernel
theorem dX11_harmed_69 : decode cX11_harmed 69 = .ok (.goto 4, 3) := by decide +kernel
theorem dX11_harmed_72 : decode cX11_harmed 72 = .ok (.iconst (-1), 1) := by decide +kernel
theorem dX11_harmed_73 : decode cX11_harmed 73 = .ok (.ireturn, 1) := by decide +kernel
theorem dX11_harm_0 : decode cX11_harm 0 = .ok (.aload_n 0, 1) := by decide +kernel
theorem dX11_harm_1 : decode cX11_harm 1 = .ok (.invokevirtual 193, 3) := by decide +kernel
theorem dX11_harm_4 : decode cX11_harm 4 = .ok (.getfield 231, 3) := by decide +kernel
theorem dX11_harm_7 : decode cX11_harm 7 = .ok (.sipush 168, 3) := by decide +kernel
theorem dX11_harm_10 : decode cX11_harm 10 = .ok (.iaload, 1) := by decide +kernel
theorem dX11_harm_11 : decode cX11_harm 11 = .ok (.ireturn, 1) := by decide +kernel
theorem dX11_blame_0 : decode cX11_blame 0 = .ok (.aload_n 0, 1) := by decide +kernel
theorem dX11_blame_1 : decode cX11_blame 1 = .ok (.iload_n 1, 1) := by decide +kernel
theorem dX11_blame_2 : decode cX11_blame 2 = .ok (.invokevirtual 116, 3) := by decide +kernel
theorem dX11_blame_5 : decode cX11_blame 5 = .ok (.ifCond .eq 11, 3) := by decide +kernel
theorem dX11_blame_8 : decode cX11_blame 8 = .ok (.aload_n 0, 1) := by decide +kernel
theorem dX11_blame_9 : decode cX11_blame 9 = .ok (.iload_n 2, 1) := by decide +kernel
theorem dX11_blame_10 : decode cX11_blame 10 = .ok (.invokevirtual 131, 3) := by decide +kernel
theorem dX11_blame_13 : decode cX11_blame 13 = .ok (.ifCond .ne 5, 3) := by decide +kernel
theorem dX11_blame_16 : decode cX11_blame 16 = .ok (.iconst (-1), 1) := by decide +kernel
theorem dX11_blame_17 : decode cX11_blame 17 = .ok (.ireturn, 1) := by decide +kernel
theorem dX11_blame_18 : decode cX11_blame 18 = .ok (.aload_n 0, 1) := by decide +kernel
theorem dX11_blame_19 : decode cX11_blame 19 = .ok (.invokevirtual 193, 3) := by decide +kernel
theorem dX11_blame_22 : decode cX11_blame 22 = .ok (.astore_n 3, 1) := by decide +kernel
theorem dX11_blame_23 : decode cX11_blame 23 = .ok (.aload_n 0, 1) := by decide +kernel
theorem dX11_blame_24 : decode cX11_blame 24 = .ok (.getfield 35, 3) := by decide +kernel
theorem dX11_blame_27 : decode cX11_blame 27 = .ok (.aload_n 0, 1) := by decide +kernel
theorem dX11_blame_28 : decode cX11_blame 28 = .ok (.getfield 19, 3) := by decide +kernel
theorem dX11_blame_31 : decode cX11_blame 31 = .ok (.getfield 77, 3) := by decide +kernel
theorem dX11_blame_34 : decode cX11_blame 34 = .ok (.aload_n 0, 1) := by decide +kernel
theorem dX11_blame_35 : decode cX11_blame 35 = .ok (.getfield 19, 3) := by decide +kernel
theorem dX11_blame_38 : decode cX11_blame 38 = .ok (.getfield 150, 3) := by decide +kernel
theorem dX11_blame_41 : decode cX11_blame 41 = .ok (.invokevirtual 234, 3) := by decide +kernel
theorem dX11_blame_44 : decode cX11_blame 44 = .ok (.iconst 0, 1) := by decide +kernel
theorem dX11_blame_45 : decode cX11_blame 45 = .ok (.istore 4, 2) := by decide +kernel
theorem dX11_blame_47 : decode cX11_blame 47 = .ok (.iload 4, 2) := by decide +kernel
theorem dX11_blame_49 : decode cX11_blame 49 = .ok (.sipush 168, 3) := by decide +kernel
theorem dX11_blame_52 : decode cX11_blame 52 = .ok (.if_icmp .ge 27, 3) := by decide +kernel
theorem dX11_blame_55 : decode cX11_blame 55 = .ok (.aload_n 0, 1) := by decide +kernel
theorem dX11_blame_56 : decode cX11_blame 56 = .ok (.getfield 35, 3) := by decide +kernel
theorem dX11_blame_59 : decode cX11_blame 59 = .ok (.getfield 238, 3) := by decide +kernel
theorem dX11_blame_62 : decode cX11_blame 62 = .ok (.iload 4, 2) := by decide +kernel
theorem dX11_blame_64 : decode cX11_blame 64 = .ok (.dup2, 1) := by decide +kernel
theorem dX11_blame_65 : decode cX11_blame 65 = .ok (.iaload, 1) := by decide +kernel
theorem dX11_blame_66 : decode cX11_blame 66 = .ok (.iconst 1, 1) := by decide +kernel
theorem dX11_blame_67 : decode cX11_blame 67 = .ok (.iload_n 1, 1) := by decide +kernel
theorem dX11_blame_68 : decode cX11_blame 68 = .ok (.ishl, 1) := by decide +kernel
theorem dX11_blame_69 : decode cX11_blame 69 = .ok (.iconst (-1), 1) := by decide +kernel
theorem dX11_blame_70 : decode cX11_blame 70 = .ok (.ixor, 1) := by decide +kernel
theorem dX11_blame_71 : decode cX11_blame 71 = .ok (.iand, 1) := by decide +kernel
theorem dX11_blame_72 : decode cX11_blame 72 = .ok (.iastore, 1) := by decide +kernel
theorem dX11_blame_73 : decode cX11_blame 73 = .ok (.iinc 4 1, 3) := by decide +kernel
theorem dX11_blame_76 : decode cX11_blame 76 = .ok (.goto (-29), 3) := by decide +kernel
theorem dX11_blame_79 : decode cX11_blame 79 = .ok (.aload_n 0, 1) := by decide +kernel
theorem dX11_blame_80 : decode cX11_blame 80 = .ok (.getfield 35, 3) := by decide +kernel
theorem dX11_blame_83 : decode cX11_blame 83 = .ok (.invokevirtual 241, 3) := by decide +kernel
theorem dX11_blame_86 : decode cX11_blame 86 = .ok (.iconst 0, 1) := by decide +kernel
theorem dX11_blame_87 : decode cX11_blame 87 = .ok (.istore 4, 2) := by decide +kernel
theorem dX11_blame_89 : decode cX11_blame 89 = .ok (.iconst 0, 1) := by decide +kernel
theorem dX11_blame_90 : decode cX11_blame 90 = .ok (.istore 5, 2) := by decide +kernel
theorem dX11_blame_92 : decode cX11_blame 92 = .ok (.iload 5, 2) := by decide +kernel
theorem dX11_blame_94 : decode cX11_blame 94 = .ok (.sipush 168, 3) := by decide +kernel
theorem dX11_blame_97 : decode cX11_blame 97 = .ok (.if_icmp .ge 61, 3) := by decide +kernel
theorem dX11_blame_100 : decode cX11_blame 100 = .ok (.aload_n 0, 1) := by decide +kernel
theorem dX11_blame_101 : decode cX11_blame 101 = .ok (.getfield 35, 3) := by decide +kernel
theorem dX11_blame_104 : decode cX11_blame 104 = .ok (.aload_n 0, 1) := by decide +kernel
theorem dX11_blame_105 : decode cX11_blame 105 = .ok (.getfield 19, 3) := by decide +kernel
theorem dX11_blame_108 : decode cX11_blame 108 = .ok (.getfield 77, 3) := by decide +kernel
theorem dX11_blame_111 : decode cX11_blame 111 = .ok (.iload 5, 2) := by decide +kernel
theorem dX11_blame_113 : decode cX11_blame 113 = .ok (.invokevirtual 244, 3) := by decide +kernel
theorem dX11_blame_116 : decode cX11_blame 116 = .ok (.aload_n 3, 1) := by decide +kernel
theorem dX11_blame_117 : decode cX11_blame 117 = .ok (.iload_n 2, 1) := by decide +kernel
theorem dX11_blame_118 : decode cX11_blame 118 = .ok (.iload 5, 2) := by decide +kernel
theorem dX11_blame_120 : decode cX11_blame 120 = .ok (.invokevirtual 227, 3) := by decide +kernel
theorem dX11_blame_123 : decode cX11_blame 123 = .ok (.ifCond .eq 29, 3) := by decide +kernel
theorem dX11_blame_126 : decode cX11_blame 126 = .ok (.aload_n 0, 1) := by decide +kernel
theorem dX11_blame_127 : decode cX11_blame 127 = .ok (.getfield 35, 3) := by decide +kernel
theorem dX11_blame_130 : decode cX11_blame 130 = .ok (.aload_n 0, 1) := by decide +kernel
theorem dX11_blame_131 : decode cX11_blame 131 = .ok (.getfield 19, 3) := by decide +kernel
theorem dX11_blame_134 : decode cX11_blame 134 = .ok (.getfield 77, 3) := by decide +kernel
theorem dX11_blame_137 : decode cX11_blame 137 = .ok (.iload 5, 2) := by decide +kernel
theorem dX11_blame_139 : decode cX11_blame 139 = .ok (.invokevirtual 248, 3) := by decide +kernel
theorem dX11_blame_142 : decode cX11_blame 142 = .ok (.iload_n 2, 1) := by decide +kernel
theorem dX11_blame_143 : decode cX11_blame 143 = .ok (.ishr, 1) := by decide +kernel
theorem dX11_blame_144 : decode cX11_blame 144 = .ok (.iconst 1, 1) := by decide +kernel
theorem dX11_blame_145 : decode cX11_blame 145 = .ok (.iand, 1) := by decide +kernel
theorem dX11_blame_146 : decode cX11_blame 146 = .ok (.ifCond .ne 6, 3) := by decide +kernel
theorem dX11_blame_149 : decode cX11_blame 149 = .ok (.iinc 4 1, 3) := by decide +kernel
theorem dX11_blame_152 : decode cX11_blame 152 = .ok (.iinc 5 1, 3) := by decide +kernel
theorem dX11_blame_155 : decode cX11_blame 155 = .ok (.goto (-63), 3) := by decide +kernel
theorem dX11_blame_158 : decode cX11_blame 158 = .ok (.iload 4, 2) := by decide +kernel
theorem dX11_blame_160 : decode cX11_blame 160 = .ok (.ireturn, 1) := by decide +kernel
theorem dX11_duty_0 : decode cX11_duty 0 = .ok (.aload_n 0, 1) := by decide +kernel
theorem dX11_duty_1 : decode cX11_duty 1 = .ok (.iload_n 1, 1) := by decide +kernel
theorem dX11_duty_2 : decode cX11_duty 2 = .ok (.invokevirtual 116, 3) := by decide +kernel
theorem dX11_duty_5 : decode cX11_duty 5 = .ok (.ifCond .ne 5, 3) := by decide +kernel
theorem dX11_duty_8 : decode cX11_duty 8 = .ok (.iconst (-1), 1) := by decide +kernel
theorem dX11_duty_9 : decode cX11_duty 9 = .ok (.ireturn, 1) := by decide +kernel
theorem dX11_duty_10 : decode cX11_duty 10 = .ok (.aload_n 0, 1) := by decide +kernel
theorem dX11_duty_11 : decode cX11_duty 11 = .ok (.invokevirtual 193, 3) := by decide +kernel
theorem dX11_duty_14 : decode cX11_duty 14 = .ok (.astore_n 2, 1) := by decide +kernel
theorem dX11_duty_15 : decode cX11_duty 15 = .ok (.aload_n 0, 1) := by decide +kernel
theorem dX11_duty_16 : decode cX11_duty 16 = .ok (.getfield 19, 3) := by decide +kernel
theorem dX11_duty_19 : decode cX11_duty 19 = .ok (.getfield 77, 3) := by decide +kernel
theorem dX11_duty_22 : decode cX11_duty 22 = .ok (.getfield 125, 3) := by decide +kernel
theorem dX11_duty_25 : decode cX11_duty 25 = .ok (.iload_n 1, 1) := by decide +kernel
theorem dX11_duty_26 : decode cX11_duty 26 = .ok (.iaload, 1) := by decide +kernel
theorem dX11_duty_27 : decode cX11_duty 27 = .ok (.istore_n 3, 1) := by decide +kernel
theorem dX11_duty_28 : decode cX11_duty 28 = .ok (.iconst 0, 1) := by decide +kernel
theorem dX11_duty_29 : decode cX11_duty 29 = .ok (.istore 4, 2) := by decide +kernel
theorem dX11_duty_31 : decode cX11_duty 31 = .ok (.iload 4, 2) := by decide +kernel
theorem dX11_duty_33 : decode cX11_duty 33 = .ok (.sipush 168, 3) := by decide +kernel
theorem dX11_duty_36 : decode cX11_duty 36 = .ok (.if_icmp .ge 23, 3) := by decide +kernel
theorem dX11_duty_39 : decode cX11_duty 39 = .ok (.iload_n 3, 1) := by decide +kernel
theorem dX11_duty_40 : decode cX11_duty 40 = .ok (.aload_n 2, 1) := by decide +kernel
theorem dX11_duty_41 : decode cX11_duty 41 = .ok (.getfield 251, 3) := by decide +kernel
theorem dX11_duty_44 : decode cX11_duty 44 = .ok (.iload 4, 2) := by decide +kernel
theorem dX11_duty_46 : decode cX11_duty 46 = .ok (.iaload, 1) := by decide +kernel
theorem dX11_duty_47 : decode cX11_duty 47 = .ok (.iload_n 1, 1) := by decide +kernel
theorem dX11_duty_48 : decode cX11_duty 48 = .ok (.ishr, 1) := by decide +kernel
theorem dX11_duty_49 : decode cX11_duty 49 = .ok (.iconst 1, 1) := by decide +kernel
theorem dX11_duty_50 : decode cX11_duty 50 = .ok (.iand, 1) := by decide +kernel
theorem dX11_duty_51 : decode cX11_duty 51 = .ok (.isub, 1) := by decide +kernel
theorem dX11_duty_52 : decode cX11_duty 52 = .ok (.istore_n 3, 1) := by decide +kernel
theorem dX11_duty_53 : decode cX11_duty 53 = .ok (.iinc 4 1, 3) := by decide +kernel
theorem dX11_duty_56 : decode cX11_duty 56 = .ok (.goto (-25), 3) := by decide +kernel
theorem dX11_duty_59 : decode cX11_duty 59 = .ok (.iload_n 3, 1) := by decide +kernel
theorem dX11_duty_60 : decode cX11_duty 60 = .ok (.iconst 0, 1) := by decide +kernel
theorem dX11_duty_61 : decode cX11_duty 61 = .ok (.invokestatic 252, 3) := by decide +kernel
theorem dX11_duty_64 : decode cX11_duty 64 = .ok (.ireturn, 1) := by decide +kernel
theorem dX11_pulse_0 : decode cX11_pulse 0 = .ok (.aload_n 0, 1) := by decide +kernel
theorem dX11_pulse_1 : decode cX11_pulse 1 = .ok (.iload_n 1, 1) := by decide +kernel
theorem dX11_pulse_2 : decode cX11_pulse 2 = .ok (.invokevirtual 101, 3) := by decide +kernel
theorem dX11_pulse_5 : decode cX11_pulse 5 = .ok (.ifCond .eq 34, 3) := by decide +kernel
theorem dX11_pulse_8 : decode cX11_pulse 8 = .ok (.aload_n 0, 1) := by decide +kernel
theorem dX11_pulse_9 : decode cX11_pulse 9 = .ok (.iload_n 2, 1) := by decide +kernel
theorem dX11_pulse_10 : decode cX11_pulse 10 = .ok (.invokevirtual 190, 3) := by decide +kernel
theorem dX11_pulse_13 : decode cX11_pulse 13 = .ok (.ifCond .eq 26, 3) := by decide +kernel
theorem dX11_pulse_16 : decode cX11_pulse 16 = .ok (.iload_n 3, 1) := by decide +kernel
theorem dX11_pulse_17 : decode cX11_pulse 17 = .ok (.iconst 1, 1) := by decide +kernel
theorem dX11_pulse_18 : decode cX11_pulse 18 = .ok (.if_icmp .lt 21, 3) := by decide +kernel
theorem dX11_pulse_21 : decode cX11_pulse 21 = .ok (.iload_n 3, 1) := by decide +kernel
theorem dX11_pulse_22 : decode cX11_pulse 22 = .ok (.sipush 9999, 3) := by decide +kernel
theorem dX11_pulse_25 : decode cX11_pulse 25 = .ok (.if_icmp .gt 14, 3) := by decide +kernel
theorem dX11_pulse_28 : decode cX11_pulse 28 = .ok (.iload 4, 2) := by decide +kernel
theorem dX11_pulse_30 : decode cX11_pulse 30 = .ok (.ifCond .lt 9, 3) := by decide +kernel
theorem dX11_pulse_33 : decode cX11_pulse 33 = .ok (.iload 4, 2) := by decide +kernel
theorem dX11_pulse_35 : decode cX11_pulse 35 = .ok (.iconst 2, 1) := by decide +kernel
theorem dX11_pulse_36 : decode cX11_pulse 36 = .ok (.if_icmp .le 6, 3) := by decide +kernel
theorem dX11_pulse_39 : decode cX11_pulse 39 = .ok (.bipush (-2), 2) := by decide +kernel
theorem dX11_pulse_41 : decode cX11_pulse 41 = .ok (.ireturn, 1) := by decide +kernel
theorem dX11_pulse_42 : decode cX11_pulse 42 = .ok (.aload_n 0, 1) := by decide +kernel
theorem dX11_pulse_43 : decode cX11_pulse 43 = .ok (.getfield 35, 3) := by decide +kernel
theorem dX11_pulse_46 : decode cX11_pulse 46 = .ok (.aload_n 0, 1) := by decide +kernel
theorem dX11_pulse_47 : decode cX11_pulse 47 = .ok (.getfield 19, 3) := by decide +kernel
theorem dX11_pulse_50 : decode cX11_pulse 50 = .ok (.getfield 77, 3) := by decide +kernel
theorem dX11_pulse_53 : decode cX11_pulse 53 = .ok (.invokevirtual 257, 3) := by decide +kernel
theorem dX11_pulse_56 : decode cX11_pulse 56 = .ok (.aload_n 0, 1) := by decide +kernel
theorem dX11_pulse_57 : decode cX11_pulse 57 = .ok (.getfield 35, 3) := by decide +kernel
theorem dX11_pulse_60 : decode cX11_pulse 60 = .ok (.invokevirtual 261, 3) := by decide +kernel
theorem dX11_pulse_63 : decode cX11_pulse 63 = .ok (.aload_n 0, 1) := by decide +kernel
theorem dX11_pulse_64 : decode cX11_pulse 64 = .ok (.getfield 35, 3) := by decide +kernel
theorem dX11_pulse_67 : decode cX11_pulse 67 = .ok (.invokevirtual 241, 3) := by decide +kernel
theorem dX11_pulse_70 : decode cX11_pulse 70 = .ok (.aload_n 0, 1) := by decide +kernel
theorem dX11_pulse_71 : decode cX11_pulse 71 = .ok (.getfield 35, 3) := by decide +kernel
theorem dX11_pulse_74 : decode cX11_pulse 74 = .ok (.getfield 264, 3) := by decide +kernel
theorem dX11_pulse_77 : decode cX11_pulse 77 = .ok (.iload_n 1, 1) := by decide +kernel
theorem dX11_pulse_78 : decode cX11_pulse 78 = .ok (.iconst 4, 1) := by decide +kernel
theorem dX11_pulse_79 : decode cX11_pulse 79 = .ok (.imul, 1) := by decide +kernel
theorem dX11_pulse_80 : decode cX11_pulse 80 = .ok (.iload_n 2, 1) := by decide +kernel
theorem dX11_pulse_81 : decode cX11_pulse 81 = .ok (.iadd, 1) := by decide +kernel
theorem dX11_pulse_82 : decode cX11_pulse 82 = .ok (.iload_n 3, 1) := by decide +kernel
theorem dX11_pulse_83 : decode cX11_pulse 83 = .ok (.iastore, 1) := by decide +kernel
theorem dX11_pulse_84 : decode cX11_pulse 84 = .ok (.iconst (-1), 1) := by decide +kernel
theorem dX11_pulse_85 : decode cX11_pulse 85 = .ok (.istore 5, 2) := by decide +kernel
theorem dX11_pulse_87 : decode cX11_pulse 87 = .ok (.iconst (-1), 1) := by decide +kernel
theorem dX11_pulse_88 : decode cX11_pulse 88 = .ok (.istore 6, 2) := by decide +kernel
theorem dX11_pulse_90 : decode cX11_pulse 90 = .ok (.iconst 0, 1) := by decide +kernel
theorem dX11_pulse_91 : decode cX11_pulse 91 = .ok (.istore 7, 2) := by decide +kernel
theorem dX11_pulse_93 : decode cX11_pulse 93 = .ok (.iconst 0, 1) := by decide +kernel
theorem dX11_pulse_94 : decode cX11_pulse 94 = .ok (.istore 8, 2) := by decide +kernel
theorem dX11_pulse_96 : decode cX11_pulse 96 = .ok (.iconst 0, 1) := by decide +kernel
theorem dX11_pulse_97 : decode cX11_pulse 97 = .ok (.istore 9, 2) := by decide +kernel
theorem dX11_pulse_99 : decode cX11_pulse 99 = .ok (.iload 9, 2) := by decide +kernel
theorem dX11_pulse_101 : decode cX11_pulse 101 = .ok (.sipush 168, 3) := by decide +kernel
theorem dX11_pulse_104 : decode cX11_pulse 104 = .ok (.if_icmp .ge 73, 3) := by decide +kernel
theorem dX11_pulse_107 : decode cX11_pulse 107 = .ok (.aload_n 0, 1) := by decide +kernel
theorem dX11_pulse_108 : decode cX11_pulse 108 = .ok (.getfield 35, 3) := by decide +kernel
theorem dX11_pulse_111 : decode cX11_pulse 111 = .ok (.aload_n 0, 1) := by decide +kernel
theorem dX11_pulse_112 : decode cX11_pulse 112 = .ok (.getfield 19, 3) := by decide +kernel
theorem dX11_pulse_115 : decode cX11_pulse 115 = .ok (.getfield 77, 3) := by decide +kernel
theorem dX11_pulse_118 : decode cX11_pulse 118 = .ok (.iload 9, 2) := by decide +kernel
theorem dX11_pulse_120 : decode cX11_pulse 120 = .ok (.invokevirtual 244, 3) := by decide +kernel
theorem dX11_pulse_123 : decode cX11_pulse 123 = .ok (.aload_n 0, 1) := by decide +kernel
theorem dX11_pulse_124 : decode cX11_pulse 124 = .ok (.getfield 35, 3) := by decide +kernel
theorem dX11_pulse_127 : decode cX11_pulse 127 = .ok (.getfield 265, 3) := by decide +kernel
theorem dX11_pulse_130 : decode cX11_pulse 130 = .ok (.iload_n 2, 1) := by decide +kernel
theorem dX11_pulse_131 : decode cX11_pulse 131 = .ok (.iaload, 1) := by decide +kernel
theorem dX11_pulse_132 : decode cX11_pulse 132 = .ok (.istore 10, 2) := by decide +kernel
theorem dX11_pulse_134 : decode cX11_pulse 134 = .ok (.iload 8, 2) := by decide +kernel
theorem dX11_pulse_136 : decode cX11_pulse 136 = .ok (.iload 10, 2) := by decide +kernel
theorem dX11_pulse_138 : decode cX11_pulse 138 = .ok (.iadd, 1) := by decide +kernel
theorem dX11_pulse_139 : decode cX11_pulse 139 = .ok (.istore 8, 2) := by decide +kernel
theorem dX11_pulse_141 : decode cX11_pulse 141 = .ok (.iload 10, 2) := by decide +kernel
theorem dX11_pulse_143 : decode cX11_pulse 143 = .ok (.ifCond .le 13, 3) := by decide +kernel
theorem dX11_pulse_146 : decode cX11_pulse 146 = .ok (.iload 5, 2) := by decide +kernel
theorem dX11_pulse_148 : decode cX11_pulse 148 = .ok (.iconst (-1), 1) := by decide +kernel
theorem dX11_pulse_149 : decode cX11_pulse 149 = .ok (.if_icmp .ne 7, 3) := by decide +kernel
theorem dX11_pulse_152 : decode cX11_pulse 152 = .ok (.iload 9, 2) := by decide +kernel
theorem dX11_pulse_154 : decode cX11_pulse 154 = .ok (.istore 5, 2) := by decide +kernel
theorem dX11_pulse_156 : decode cX11_pulse 156 = .ok (.iload 10, 2) := by decide +kernel
theorem dX11_pulse_158 : decode cX11_pulse 158 = .ok (.iload 7, 2) := by decide +kernel
theorem dX11_pulse_160 : decode cX11_pulse 160 = .ok (.if_icmp .le 11, 3) := by decide +kernel
theorem dX11_pulse_163 : decode cX11_pulse 163 = .ok (.iload 10, 2) := by decide +kernel
theorem dX11_pulse_165 : decode cX11_pulse 165 = .ok (.istore 7, 2) := by decide +kernel
theorem dX11_pulse_167 : decode cX11_pulse 167 = .ok (.iload 9, 2) := by decide +kernel
theorem dX11_pulse_169 : decode cX11_pulse 169 = .ok (.istore 6, 2) := by decide +kernel
theorem dX11_pulse_171 : decode cX11_pulse 171 = .ok (.iinc 9 1, 3) := by decide +kernel
theorem dX11_pulse_174 : decode cX11_pulse 174 = .ok (.goto (-75), 3) := by decide +kernel
theorem dX11_pulse_177 : decode cX11_pulse 177 = .ok (.iload 4, 2) := by decide +kernel
theorem dX11_pulse_179 : decode cX11_pulse 179 = .ok (.ifCond .ne 6, 3) := by decide +kernel
theorem dX11_pulse_182 : decode cX11_pulse 182 = .ok (.iload 5, 2) := by decide +kernel
theorem dX11_pulse_184 : decode cX11_pulse 184 = .ok (.ireturn, 1) := by decide +kernel
theorem dX11_pulse_185 : decode cX11_pulse 185 = .ok (.iload 4, 2) := by decide +kernel
theorem dX11_pulse_187 : decode cX11_pulse 187 = .ok (.iconst 1, 1) := by decide +kernel
theorem dX11_pulse_188 : decode cX11_pulse 188 = .ok (.if_icmp .ne 8, 3) := by decide +kernel
theorem dX11_pulse_191 : decode cX11_pulse 191 = .ok (.iload 6, 2) := by decide +kernel
theorem dX11_pulse_193 : decode cX11_pulse 193 = .ok (.goto 5, 3) := by decide +kernel
theorem dX11_pulse_196 : decode cX11_pulse 196 = .ok (.iload 8, 2) := by decide +kernel
theorem dX11_pulse_198 : decode cX11_pulse 198 = .ok (.ireturn, 1) := by decide +kernel
theorem dX11_days_0 : decode cX11_days 0 = .ok (.aload_n 0, 1) := by decide +kernel
theorem dX11_days_1 : decode cX11_days 1 = .ok (.getfield 12, 3) := by decide +kernel
theorem dX11_days_4 : decode cX11_days 4 = .ok (.getfield 63, 3) := by decide +kernel
theorem dX11_days_7 : decode cX11_days 7 = .ok (.istore_n 2, 1) := by decide +kernel
theorem dX11_days_8 : decode cX11_days 8 = .ok (.aload_n 0, 1) := by decide +kernel
theorem dX11_days_9 : decode cX11_days 9 = .ok (.getfield 12, 3) := by decide +kernel
theorem dX11_days_12 : decode cX11_days 12 = .ok (.iconst 0, 1) := by decide +kernel
theorem dX11_days_13 : decode cX11_days 13 = .ok (.putfield 63, 3) := by decide +kernel
theorem dX11_days_16 : decode cX11_days 16 = .ok (.iload_n 1, 1) := by decide +kernel
theorem dX11_days_17 : decode cX11_days 17 = .ok (.ifCond .lt 17, 3) := by decide +kernel
theorem dX11_days_20 : decode cX11_days 20 = .ok (.iload_n 1, 1) := by decide +kernel
theorem dX11_days_21 : decode cX11_days 21 = .ok (.bipush 24, 2) := by decide +kernel
theorem dX11_days_23 : decode cX11_days 23 = .ok (.if_icmp .ge 11, 3) := by decide +kernel
theorem dX11_days_26 : decode cX11_days 26 = .ok (.aload_n 0, 1) := by decide +kernel
theorem dX11_days_27 : decode cX11_days 27 = .ok (.iload_n 2, 1) := by decide +kernel
theorem dX11_days_28 : decode cX11_days 28 = .ok (.invokevirtual 266, 3) := by decide +kernel
theorem dX11_days_31 : decode cX11_days 31 = .ok (.ifCond .ne 6, 3) := by decide +kernel
theorem dX11_days_34 : decode cX11_days 34 = .ok (.bipush (-2), 2) := by decide +kernel
theorem dX11_days_36 : decode cX11_days 36 = .ok (.ireturn, 1) := by decide +kernel
theorem dX11_days_37 : decode cX11_days 37 = .ok (.aload_n 0, 1) := by decide +kernel
theorem dX11_days_38 : decode cX11_days 38 = .ok (.invokevirtual 193, 3) := by decide +kernel
theorem dX11_days_41 : decode cX11_days 41 = .ok (.pop, 1) := by decide +kernel
theorem dX11_days_42 : decode cX11_days 42 = .ok (.aload_n 0, 1) := by decide +kernel
theorem dX11_days_43 : decode cX11_days 43 = .ok (.getfield 35, 3) := by decide +kernel
theorem dX11_days_46 : decode cX11_days 46 = .ok (.aload_n 0, 1) := by decide +kernel
theorem dX11_days_47 : decode cX11_days 47 = .ok (.getfield 19, 3) := by decide +kernel
theorem dX11_days_50 : decode cX11_days 50 = .ok (.getfield 77, 3) := by decide +kernel
theorem dX11_days_53 : decode cX11_days 53 = .ok (.aload_n 0, 1) := by decide +kernel
theorem dX11_days_54 : decode cX11_days 54 = .ok (.getfield 19, 3) := by decide +kernel
theorem dX11_days_57 : decode cX11_days 57 = .ok (.getfield 150, 3) := by decide +kernel
theorem dX11_days_60 : decode cX11_days 60 = .ok (.invokevirtual 234, 3) := by decide +kernel
theorem dX11_days_63 : decode cX11_days 63 = .ok (.aload_n 0, 1) := by decide +kernel
theorem dX11_days_64 : decode cX11_days 64 = .ok (.iconst 0, 1) := by decide +kernel
theorem dX11_days_65 : decode cX11_days 65 = .ok (.iload_n 2, 1) := by decide +kernel
theorem dX11_days_66 : decode cX11_days 66 = .ok (.iload_n 1, 1) := by decide +kernel
theorem dX11_days_67 : decode cX11_days 67 = .ok (.sipush 1009, 3) := by decide +kernel
theorem dX11_days_70 : decode cX11_days 70 = .ok (.invokevirtual 269, 3) := by decide +kernel
theorem dX11_days_73 : decode cX11_days 73 = .ok (.istore_n 3, 1) := by decide +kernel
theorem dX11_days_74 : decode cX11_days 74 = .ok (.iload_n 3, 1) := by decide +kernel
theorem dX11_days_75 : decode cX11_days 75 = .ok (.sipush 1009, 3) := by decide +kernel
theorem dX11_days_78 : decode cX11_days 78 = .ok (.if_icmp .ne 5, 3) := by decide +kernel
theorem dX11_days_81 : decode cX11_days 81 = .ok (.iconst (-1), 1) := by decide +kernel
theorem dX11_days_82 : decode cX11_days 82 = .ok (.ireturn, 1) := by decide +kernel
theorem dX11_days_83 : decode cX11_days 83 = .ok (.aload_n 0, 1) := by decide +kernel
theorem dX11_days_84 : decode cX11_days 84 = .ok (.iload_n 2, 1) := by decide +kernel
theorem dX11_days_85 : decode cX11_days 85 = .ok (.putfield 273, 3) := by decide +kernel
theorem dX11_days_88 : decode cX11_days 88 = .ok (.iload_n 3, 1) := by decide +kernel
theorem dX11_days_89 : decode cX11_days 89 = .ok (.ireturn, 1) := by decide +kernel
theorem dX11_dayOf_0 : decode cX11_dayOf 0 = .ok (.iload_n 1, 1) := by decide +kernel
theorem dX11_dayOf_1 : decode cX11_dayOf 1 = .ok (.ifCond .lt 25, 3) := by decide +kernel
theorem dX11_dayOf_4 : decode cX11_dayOf 4 = .ok (.iload_n 1, 1) := by decide +kernel
theorem dX11_dayOf_5 : decode cX11_dayOf 5 = .ok (.aload_n 0, 1) := by decide +kernel
theorem dX11_dayOf_6 : decode cX11_dayOf 6 = .ok (.getfield 273, 3) := by decide +kernel
theorem dX11_dayOf_9 : decode cX11_dayOf 9 = .ok (.if_icmp .ge 17, 3) := by decide +kernel
theorem dX11_dayOf_12 : decode cX11_dayOf 12 = .ok (.iload_n 1, 1) := by decide +kernel
theorem dX11_dayOf_13 : decode cX11_dayOf 13 = .ok (.iconst 4, 1) := by decide +kernel
theorem dX11_dayOf_14 : decode cX11_dayOf 14 = .ok (.if_icmp .ge 12, 3) := by decide +kernel
theorem dX11_dayOf_17 : decode cX11_dayOf 17 = .ok (.aload_n 0, 1) := by decide +kernel
theorem dX11_dayOf_18 : decode cX11_dayOf 18 = .ok (.getfield 57, 3) := by decide +kernel
theorem dX11_dayOf_21 : decode cX11_dayOf 21 = .ok (.iload_n 1, 1) := by decide +kernel
theorem dX11_dayOf_22 : decode cX11_dayOf 22 = .ok (.iaload, 1) := by decide +kernel
theorem dX11_dayOf_23 : decode cX11_dayOf 23 = .ok (.goto 4, 3) := by decide +kernel
theorem dX11_dayOf_26 : decode cX11_dayOf 26 = .ok (.iconst (-1), 1) := by decide +kernel
theorem dX11_dayOf_27 : decode cX11_dayOf 27 = .ok (.ireturn, 1) := by decide +kernel
theorem dX11_exchange_0 : decode cX11_exchange 0 = .ok (.aload_n 0, 1) := by decide +kernel
theorem dX11_exchange_1 : decode cX11_exchange 1 = .ok (.invokevirtual 193, 3) := by decide +kernel
theorem dX11_exchange_4 : decode cX11_exchange 4 = .ok (.getfield 231, 3) := by decide +kernel
theorem dX11_exchange_7 : decode cX11_exchange 7 = .ok (.sipush 168, 3) := by decide +kernel
theorem dX11_exchange_10 : decode cX11_exchange 10 = .ok (.iaload, 1) := by decide +kernel
theorem dX11_exchange_11 : decode cX11_exchange 11 = .ok (.istore_n 1, 1) := by decide +kernel
theorem dX11_exchange_12 : decode cX11_exchange 12 = .ok (.aload_n 0, 1) := by decide +kernel
theorem dX11_exchange_13 : decode cX11_exchange 13 = .ok (.iconst 0, 1) := by decide +kernel
theorem dX11_exchange_14 : decode cX11_exchange 14 = .ok (.putfield 276, 3) := by decide +kernel
theorem dX11_exchange_17 : decode cX11_exchange 17 = .ok (.iconst 0, 1) := by decide +kernel
theorem dX11_exchange_18 : decode cX11_exchange 18 = .ok (.istore_n 2, 1) := by decide +kernel
theorem dX11_exchange_19 : decode cX11_exchange 19 = .ok (.iload_n 2, 1) := by decide +kernel
theorem dX11_exchange_20 : decode cX11_exchange 20 = .ok (.bipush 50, 2) := by decide +kernel
theorem dX11_exchange_22 : decode cX11_exchange 22 = .ok (.if_icmp .ge 39, 3) := by decide +kernel
theorem dX11_exchange_25 : decode cX11_exchange 25 = .ok (.iload_n 1, 1) := by decide +kernel
theorem dX11_exchange_26 : decode cX11_exchange 26 = .ok (.ifCond .le 35, 3) := by decide +kernel
theorem dX11_exchange_29 : decode cX11_exchange 29 = .ok (.aload_n 0, 1) := by decide +kernel
theorem dX11_exchange_30 : decode cX11_exchange 30 = .ok (.iload_n 1, 1) := by decide +kernel
theorem dX11_exchange_31 : decode cX11_exchange 31 = .ok (.invokevirtual 279, 3) := by decide +kernel
theorem dX11_exchange_34 : decode cX11_exchange 34 = .ok (.istore_n 3, 1) := by decide +kernel
theorem dX11_exchange_35 : decode cX11_exchange 35 = .ok (.iload_n 3, 1) := by decide +kernel
theorem dX11_exchange_36 : decode cX11_exchange 36 = .ok (.iload_n 1, 1) := by decide +kernel
theorem dX11_exchange_37 : decode cX11_exchange 37 = .ok (.if_icmp .lt 6, 3) := by decide +kernel
theorem dX11_exchange_40 : decode cX11_exchange 40 = .ok (.goto 21, 3) := by decide +kernel
theorem dX11_exchange_43 : decode cX11_exchange 43 = .ok (.iload_n 3, 1) := by decide +kernel
theorem dX11_exchange_44 : decode cX11_exchange 44 = .ok (.istore_n 1, 1) := by decide +kernel
theorem dX11_exchange_45 : decode cX11_exchange 45 = .ok (.aload_n 0, 1) := by decide +kernel
theorem dX11_exchange_46 : decode cX11_exchange 46 = .ok (.dup, 1) := by decide +kernel
theorem dX11_exchange_47 : decode cX11_exchange 47 = .ok (.getfield 276, 3) := by decide +kernel
theorem dX11_exchange_50 : decode cX11_exchange 50 = .ok (.iconst 1, 1) := by decide +kernel
theorem dX11_exchange_51 : decode cX11_exchange 51 = .ok (.iadd, 1) := by decide +kernel
theorem dX11_exchange_52 : decode cX11_exchange 52 = .ok (.putfield 276, 3) := by decide +kernel
theorem dX11_exchange_55 : decode cX11_exchange 55 = .ok (.iinc 2 1, 3) := by decide +kernel
theorem dX11_exchange_58 : decode cX11_exchange 58 = .ok (.goto (-39), 3) := by decide +kernel
theorem dX11_exchange_61 : decode cX11_exchange 61 = .ok (.iload_n 1, 1) := by decide +kernel
theorem dX11_exchange_62 : decode cX11_exchange 62 = .ok (.ireturn, 1) := by decide +kernel
theorem dX11_exchanges_0 : decode cX11_exchanges 0 = .ok (.aload_n 0, 1) := by decide +kernel
theorem dX11_exchanges_1 : decode cX11_exchanges 1 = .ok (.getfield 276, 3) := by decide +kernel
theorem dX11_exchanges_4 : decode cX11_exchanges 4 = .ok (.ireturn, 1) := by decide +kernel
theorem dX11_late_0 : decode cX11_late 0 = .ok (.aload_n 0, 1) := by decide +kernel
theorem dX11_late_1 : decode cX11_late 1 = .ok (.iload_n 1, 1) := by decide +kernel
theorem dX11_late_2 : decode cX11_late 2 = .ok (.invokevirtual 178, 3) := by decide +kernel
theorem dX11_late_5 : decode cX11_late 5 = .ok (.ifCond .ne 5, 3) := by decide +kernel
theorem dX11_late_8 : decode cX11_late 8 = .ok (.iconst (-1), 1) := by decide +kernel
theorem dX11_late_9 : decode cX11_late 9 = .ok (.ireturn, 1) := by decide +kernel
theorem dX11_late_10 : decode cX11_late 10 = .ok (.aload_n 0, 1) := by decide +kernel
theorem dX11_late_11 : decode cX11_late 11 = .ok (.invokevirtual 193, 3) := by decide +kernel
theorem dX11_late_14 : decode cX11_late 14 = .ok (.astore_n 2, 1) := by decide +kernel
theorem dX11_late_15 : decode cX11_late 15 = .ok (.aload_n 2, 1) := by decide +kernel
theorem dX11_late_16 : decode cX11_late 16 = .ok (.getfield 231, 3) := by decide +kernel
theorem dX11_late_19 : decode cX11_late 19 = .ok (.sipush 168, 3) := by decide +kernel
theorem dX11_late_22 : decode cX11_late 22 = .ok (.iaload, 1) := by decide +kernel
theorem dX11_late_23 : decode cX11_late 23 = .ok (.istore_n 3, 1) := by decide +kernel
theorem dX11_late_24 : decode cX11_late 24 = .ok (.aload_n 0, 1) := by decide +kernel
theorem dX11_late_25 : decode cX11_late 25 = .ok (.getfield 19, 3) := by decide +kernel
theorem dX11_late_28 : decode cX11_late 28 = .ok (.getfield 150, 3) := by decide +kernel
theorem dX11_late_31 : decode cX11_late 31 = .ok (.getfield 181, 3) := by decide +kernel
theorem dX11_late_34 : decode cX11_late 34 = .ok (.iload_n 1, 1) := by decide +kernel
theorem dX11_late_35 : decode cX11_late 35 = .ok (.iaload, 1) := by decide +kernel
theorem dX11_late_36 : decode cX11_late 36 = .ok (.istore 4, 2) := by decide +kernel
theorem dX11_late_38 : decode cX11_late 38 = .ok (.bipush 24, 2) := by decide +kernel
theorem dX11_late_40 : decode cX11_late 40 = .ok (.sipush 168, 3) := by decide +kernel
theorem dX11_late_43 : decode cX11_late 43 = .ok (.iload 4, 2) := by decide +kernel
theorem dX11_late_45 : decode cX11_late 45 = .ok (.isub, 1) := by decide +kernel
theorem dX11_late_46 : decode cX11_late 46 = .ok (.aload_n 0, 1) := by decide +kernel
theorem dX11_late_47 : decode cX11_late 47 = .ok (.getfield 19, 3) := by decide +kernel
theorem dX11_late_50 : decode cX11_late 50 = .ok (.getfield 150, 3) := by decide +kernel
theorem dX11_late_53 : decode cX11_late 53 = .ok (.getfield 187, 3) := by decide +kernel
theorem dX11_late_56 : decode cX11_late 56 = .ok (.iload_n 1, 1) := by decide +kernel
theorem dX11_late_57 : decode cX11_late 57 = .ok (.iaload, 1) := by decide +kernel
theorem dX11_late_58 : decode cX11_late 58 = .ok (.isub, 1) := by decide +kernel
theorem dX11_late_59 : decode cX11_late 59 = .ok (.invokestatic 282, 3) := by decide +kernel
theorem dX11_late_62 : decode cX11_late 62 = .ok (.istore 5, 2) := by decide +kernel
theorem dX11_late_64 : decode cX11_late 64 = .ok (.iconst 0, 1) := by decide +kernel
theorem dX11_late_65 : decode cX11_late 65 = .ok (.istore 6, 2) := by decide +kernel
theorem dX11_late_67 : decode cX11_late 67 = .ok (.iconst 1, 1) := by decide +kernel
theorem dX11_late_68 : decode cX11_late 68 = .ok (.istore 7, 2) := by decide +kernel
theorem dX11_late_70 : decode cX11_late 70 = .ok (.iload 7, 2) := by decide +kernel
theorem dX11_late_72 : decode cX11_late 72 = .ok (.iload 5, 2) := by decide +kernel
theorem dX11_late_74 : decode cX11_late 74 = .ok (.if_icmp .gt 78, 3) := by decide +kernel
theorem dX11_late_77 : decode cX11_late 77 = .ok (.aload_n 0, 1) := by decide +kernel
theorem dX11_late_78 : decode cX11_late 78 = .ok (.getfield 19, 3) := by decide +kernel
theorem dX11_late_81 : decode cX11_late 81 = .ok (.getfield 150, 3) := by decide +kernel
theorem dX11_late_84 : decode cX11_late 84 = .ok (.getfield 181, 3) := by decide +kernel
theorem dX11_late_87 : decode cX11_late 87 = .ok (.iload_n 1, 1) := by decide +kernel
theorem dX11_late_88 : decode cX11_late 88 = .ok (.iload 4, 2) := by decide +kernel
theorem dX11_late_90 : decode cX11_late 90 = .ok (.iload 7, 2) := by decide +kernel
theorem dX11_late_92 : decode cX11_late 92 = .ok (.iadd, 1) := by decide +kernel
theorem dX11_late_93 : decode cX11_late 93 = .ok (.iastore, 1) := by decide +kernel
theorem dX11_late_94 : decode cX11_late 94 = .ok (.aload_n 0, 1) := by decide +kernel
theorem dX11_late_95 : decode cX11_late 95 = .ok (.getfield 35, 3) := by decide +kernel
theorem dX11_late_98 : decode cX11_late 98 = .ok (.aload_n 0, 1) := by decide +kernel
theorem dX11_late_99 : decode cX11_late 99 = .ok (.getfield 19, 3) := by decide +kernel
theorem dX11_late_102 : decode cX11_late 102 = .ok (.getfield 77, 3) := by decide +kernel
theorem dX11_late_105 : decode cX11_late 105 = .ok (.aload_n 0, 1) := by decide +kernel
theorem dX11_late_106 : decode cX11_late 106 = .ok (.getfield 19, 3) := by decide +kernel
theorem dX11_late_109 : decode cX11_late 109 = .ok (.getfield 150, 3) := by decide +kernel
theorem dX11_late_112 : decode cX11_late 112 = .ok (.invokevirtual 234, 3) := by decide +kernel
theorem dX11_late_115 : decode cX11_late 115 = .ok (.aload_n 0, 1) := by decide +kernel
theorem dX11_late_116 : decode cX11_late 116 = .ok (.getfield 35, 3) := by decide +kernel
theorem dX11_late_119 : decode cX11_late 119 = .ok (.aload_n 0, 1) := by decide +kernel
theorem dX11_late_120 : decode cX11_late 120 = .ok (.getfield 19, 3) := by decide +kernel
theorem dX11_late_123 : decode cX11_late 123 = .ok (.getfield 77, 3) := by decide +kernel
theorem dX11_late_126 : decode cX11_late 126 = .ok (.aload_n 2, 1) := by decide +kernel
theorem dX11_late_127 : decode cX11_late 127 = .ok (.iload 4, 2) := by decide +kernel
theorem dX11_late_129 : decode cX11_late 129 = .ok (.iload_n 3, 1) := by decide +kernel
theorem dX11_late_130 : decode cX11_late 130 = .ok (.iconst 1, 1) := by decide +kernel
theorem dX11_late_131 : decode cX11_late 131 = .ok (.iadd, 1) := by decide +kernel
theorem dX11_late_132 : decode cX11_late 132 = .ok (.invokevirtual 285, 3) := by decide +kernel
theorem dX11_late_135 : decode cX11_late 135 = .ok (.iload_n 3, 1) := by decide +kernel
theorem dX11_late_136 : decode cX11_late 136 = .ok (.if_icmp .le 6, 3) := by decide +kernel
theorem dX11_late_139 : decode cX11_late 139 = .ok (.goto 13, 3) := by decide +kernel
theorem dX11_late_142 : decode cX11_late 142 = .ok (.iload 7, 2) := by decide +kernel
theorem dX11_late_144 : decode cX11_late 144 = .ok (.istore 6, 2) := by decide +kernel
theorem dX11_late_146 : decode cX11_late 146 = .ok (.iinc 7 1, 3) := by decide +kernel
theorem dX11_late_149 : decode cX11_late 149 = .ok (.goto (-79), 3) := by decide +kernel
theorem dX11_late_152 : decode cX11_late 152 = .ok (.aload_n 0, 1) := by decide +kernel
theorem dX11_late_153 : decode cX11_late 153 = .ok (.getfield 19, 3) := by decide +kernel
theorem dX11_late_156 : decode cX11_late 156 = .ok (.getfield 150, 3) := by decide +kernel
theorem dX11_late_159 : decode cX11_late 159 = .ok (.getfield 181, 3) := by decide +kernel
theorem dX11_late_162 : decode cX11_late 162 = .ok (.iload_n 1, 1) := by decide +kernel
theorem dX11_late_163 : decode cX11_late 163 = .ok (.iload 4, 2) := by decide +kernel
theorem dX11_late_165 : decode cX11_late 165 = .ok (.iastore, 1) := by decide +kernel
theorem dX11_late_166 : decode cX11_late 166 = .ok (.iload 6, 2) := by decide +kernel
theorem dX11_late_168 : decode cX11_late 168 = .ok (.ireturn, 1) := by decide +kernel
theorem dX11_see_0 : decode cX11_see 0 = .ok (.aload_n 0, 1) := by decide +kernel
theorem dX11_see_1 : decode cX11_see 1 = .ok (.iload_n 1, 1) := by decide +kernel
theorem dX11_see_2 : decode cX11_see 2 = .ok (.invokevirtual 171, 3) := by decide +kernel
theorem dX11_see_5 : decode cX11_see 5 = .ok (.ifCond .eq 30, 3) := by decide +kernel
theorem dX11_see_8 : decode cX11_see 8 = .ok (.aload_n 0, 1) := by decide +kernel
theorem dX11_see_9 : decode cX11_see 9 = .ok (.iload_n 2, 1) := by decide +kernel
theorem dX11_see_10 : decode cX11_see 10 = .ok (.invokevirtual 190, 3) := by decide +kernel
theorem dX11_see_13 : decode cX11_see 13 = .ok (.ifCond .eq 22, 3) := by decide +kernel
theorem dX11_see_16 : decode cX11_see 16 = .ok (.iload_n 3, 1) := by decide +kernel
theorem dX11_see_17 : decode cX11_see 17 = .ok (.ifCond .lt 18, 3) := by decide +kernel
theorem dX11_see_20 : decode cX11_see 20 = .ok (.aload_n 0, 1) := by decide +kernel
theorem dX11_see_21 : decode cX11_see 21 = .ok (.getfield 19, 3) := by decide +kernel
theorem dX11_see_24 : decode cX11_see 24 = .ok (.getfield 289, 3) := by decide +kernel
theorem dX11_see_27 : decode cX11_see 27 = .ok (.getfield 293, 3) := by decide +kernel
theorem dX11_see_30 : decode cX11_see 30 = .ok (.bipush 20, 2) := by decide +kernel
theorem dX11_see_32 : decode cX11_see 32 = .ok (.if_icmp .lt 5, 3) := by decide +kernel
theorem dX11_see_35 : decode cX11_see 35 = .ok (.iconst (-1), 1) := by decide +kernel
theorem dX11_see_36 : decode cX11_see 36 = .ok (.ireturn, 1) := by decide +kernel
theorem dX11_see_37 : decode cX11_see 37 = .ok (.aload_n 0, 1) := by decide +kernel
theorem dX11_see_38 : decode cX11_see 38 = .ok (.getfield 19, 3) := by decide +kernel
theorem dX11_see_41 : decode cX11_see 41 = .ok (.getfield 289, 3) := by decide +kernel
theorem dX11_see_44 : decode cX11_see 44 = .ok (.iload_n 1, 1) := by decide +kernel
theorem dX11_see_45 : decode cX11_see 45 = .ok (.iload_n 2, 1) := by decide +kernel
theorem dX11_see_46 : decode cX11_see 46 = .ok (.iload_n 3, 1) := by decide +kernel
theorem dX11_see_47 : decode cX11_see 47 = .ok (.invokevirtual 297, 3) := by decide +kernel
theorem dX11_see_50 : decode cX11_see 50 = .ok (.aload_n 0, 1) := by decide +kernel
theorem dX11_see_51 : decode cX11_see 51 = .ok (.getfield 19, 3) := by decide +kernel
theorem dX11_see_54 : decode cX11_see 54 = .ok (.getfield 289, 3) := by decide +kernel
theorem dX11_see_57 : decode cX11_see 57 = .ok (.getfield 293, 3) := by decide +kernel
theorem dX11_see_60 : decode cX11_see 60 = .ok (.iconst 1, 1) := by decide +kernel
theorem dX11_see_61 : decode cX11_see 61 = .ok (.isub, 1) := by decide +kernel
theorem dX11_see_62 : decode cX11_see 62 = .ok (.ireturn, 1) := by decide +kernel
theorem dX11_night_0 : decode cX11_night 0 = .ok (.aload_n 0, 1) := by decide +kernel
theorem dX11_night_1 : decode cX11_night 1 = .ok (.invokevirtual 193, 3) := by decide +kernel
theorem dX11_night_4 : decode cX11_night 4 = .ok (.astore_n 1, 1) := by decide +kernel
theorem dX11_night_5 : decode cX11_night 5 = .ok (.aload_n 0, 1) := by decide +kernel
theorem dX11_night_6 : decode cX11_night 6 = .ok (.getfield 35, 3) := by decide +kernel
theorem dX11_night_9 : decode cX11_night 9 = .ok (.aload_n 0, 1) := by decide +kernel
theorem dX11_night_10 : decode cX11_night 10 = .ok (.getfield 19, 3) := by decide +kernel
theorem dX11_night_13 : decode cX11_night 13 = .ok (.getfield 77, 3) := by decide +kernel
theorem dX11_night_16 : decode cX11_night 16 = .ok (.aload_n 0, 1) := by decide +kernel
theorem dX11_night_17 : decode cX11_night 17 = .ok (.getfield 19, 3) := by decide +kernel
theorem dX11_night_20 : decode cX11_night 20 = .ok (.getfield 150, 3) := by decide +kernel
theorem dX11_night_23 : decode cX11_night 23 = .ok (.invokevirtual 234, 3) := by decide +kernel
theorem dX11_night_26 : decode cX11_night 26 = .ok (.aload_n 0, 1) := by decide +kernel
theorem dX11_night_27 : decode cX11_night 27 = .ok (.getfield 19, 3) := by decide +kernel
theorem dX11_night_30 : decode cX11_night 30 = .ok (.getfield 289, 3) := by decide +kernel
theorem dX11_night_33 : decode cX11_night 33 = .ok (.aload_n 1, 1) := by decide +kernel
theorem dX11_night_34 : decode cX11_night 34 = .ok (.invokevirtual 298, 3) := by decide +kernel
theorem dX11_night_37 : decode cX11_night 37 = .ok (.sipush 167, 3) := by decide +kernel
theorem dX11_night_40 : decode cX11_night 40 = .ok (.invokestatic 282, 3) := by decide +kernel
theorem dX11_night_43 : decode cX11_night 43 = .ok (.istore_n 2, 1) := by decide +kernel
theorem dX11_night_44 : decode cX11_night 44 = .ok (.iconst 0, 1) := by decide +kernel
theorem dX11_night_45 : decode cX11_night 45 = .ok (.istore_n 3, 1) := by decide +kernel
theorem dX11_night_46 : decode cX11_night 46 = .ok (.iconst 0, 1) := by decide +kernel
theorem dX11_night_47 : decode cX11_night 47 = .ok (.istore 4, 2) := by decide +kernel
theorem dX11_night_49 : decode cX11_night 49 = .ok (.iload 4, 2) := by decide +kernel
theorem dX11_night_51 : decode cX11_night 51 = .ok (.aload_n 0, 1) := by decide +kernel
theorem dX11_night_52 : decode cX11_night 52 = .ok (.getfield 19, 3) := by decide +kernel
theorem dX11_night_55 : decode cX11_night 55 = .ok (.getfield 77, 3) := by decide +kernel
theorem dX11_night_58 : decode cX11_night 58 = .ok (.getfield 302, 3) := by decide +kernel
theorem dX11_night_61 : decode cX11_night 61 = .ok (.if_icmp .ge 36, 3) := by decide +kernel
theorem dX11_night_64 : decode cX11_night 64 = .ok (.iconst 0, 1) := by decide +kernel
theorem dX11_night_65 : decode cX11_night 65 = .ok (.istore 5, 2) := by decide +kernel
theorem dX11_night_67 : decode cX11_night 67 = .ok (.iload 5, 2) := by decide +kernel
theorem dX11_night_69 : decode cX11_night 69 = .ok (.iload_n 2, 1) := by decide +kernel
theorem dX11_night_70 : decode cX11_night 70 = .ok (.if_icmp .gt 21, 3) := by decide +kernel
theorem dX11_night_73 : decode cX11_night 73 = .ok (.iload_n 3, 1) := by decide +kernel
theorem dX11_night_74 : decode cX11_night 74 = .ok (.aload_n 0, 1) := by decide +kernel
theorem dX11_night_75 : decode cX11_night 75 = .ok (.iload 4, 2) := by decide +kernel
theorem dX11_night_77 : decode cX11_night 77 = .ok (.iload 5, 2) := by decide +kernel
theorem dX11_night_79 : decode cX11_night 79 = .ok (.iload_n 3, 1) := by decide +kernel
theorem dX11_night_80 : decode cX11_night 80 = .ok (.invokevirtual 305, 3) := by decide +kernel
theorem dX11_night_83 : decode cX11_night 83 = .ok (.iadd, 1) := by decide +kernel
theorem dX11_night_84 : decode cX11_night 84 = .ok (.istore_n 3, 1) := by decide +kernel
theorem dX11_night_85 : decode cX11_night 85 = .ok (.iinc 5 1, 3) := by decide +kernel
theorem dX11_night_88 : decode cX11_night 88 = .ok (.goto (-21), 3) := by decide +kernel
theorem dX11_night_91 : decode cX11_night 91 = .ok (.iinc 4 1, 3) := by decide +kernel
theorem dX11_night_94 : decode cX11_night 94 = .ok (.goto (-45), 3) := by decide +kernel
theorem dX11_night_97 : decode cX11_night 97 = .ok (.iload_n 3, 1) := by decide +kernel
theorem dX11_night_98 : decode cX11_night 98 = .ok (.iconst 1, 1) := by decide +kernel
theorem dX11_night_99 : decode cX11_night 99 = .ok (.if_icmp .eq 24, 3) := by decide +kernel
theorem dX11_night_102 : decode cX11_night 102 = .ok (.aload_n 0, 1) := by decide +kernel
theorem dX11_night_103 : decode cX11_night 103 = .ok (.getfield 60, 3) := by decide +kernel
theorem dX11_night_106 : decode cX11_night 106 = .ok (.iconst 0, 1) := by decide +kernel
theorem dX11_night_107 : decode cX11_night 107 = .ok (.iconst (-1), 1) := by decide +kernel
theorem dX11_night_108 : decode cX11_night 108 = .ok (.iastore, 1) := by decide +kernel
theorem dX11_night_109 : decode cX11_night 109 = .ok (.aload_n 0, 1) := by decide +kernel
theorem dX11_night_110 : decode cX11_night 110 = .ok (.getfield 60, 3) := by decide +kernel
theorem dX11_night_113 : decode cX11_night 113 = .ok (.iconst 1, 1) := by decide +kernel
theorem dX11_night_114 : decode cX11_night 114 = .ok (.iconst (-1), 1) := by decide +kernel
theorem dX11_night_115 : decode cX11_night 115 = .ok (.iastore, 1) := by decide +kernel
theorem dX11_night_116 : decode cX11_night 116 = .ok (.aload_n 0, 1) := by decide +kernel
theorem dX11_night_117 : decode cX11_night 117 = .ok (.getfield 60, 3) := by decide +kernel
theorem dX11_night_120 : decode cX11_night 120 = .ok (.iconst 2, 1) := by decide +kernel
theorem dX11_night_121 : decode cX11_night 121 = .ok (.iconst (-1), 1) := by decide +kernel
theorem dX11_night_122 : decode cX11_night 122 = .ok (.iastore, 1) := by decide +kernel
theorem dX11_night_123 : decode cX11_night 123 = .ok (.iload_n 3, 1) := by decide +kernel
theorem dX11_night_124 : decode cX11_night 124 = .ok (.ireturn, 1) := by decide +kernel
theorem dX11_led_0 : decode cX11_led 0 = .ok (.iload_n 1, 1) := by decide +kernel
theorem dX11_led_1 : decode cX11_led 1 = .ok (.ifCond .lt 17, 3) := by decide +kernel
theorem dX11_led_4 : decode cX11_led 4 = .ok (.iload_n 1, 1) := by decide +kernel
theorem dX11_led_5 : decode cX11_led 5 = .ok (.iconst 2, 1) := by decide +kernel
theorem dX11_led_6 : decode cX11_led 6 = .ok (.if_icmp .gt 12, 3) := by decide +kernel
theorem dX11_led_9 : decode cX11_led 9 = .ok (.aload_n 0, 1) := by decide +kernel
theorem dX11_led_10 : decode cX11_led 10 = .ok (.getfield 60, 3) := by decide +kernel
theorem dX11_led_13 : decode cX11_led 13 = .ok (.iload_n 1, 1) := by decide +kernel
theorem dX11_led_14 : decode cX11_led 14 = .ok (.iaload, 1) := by decide +kernel
theorem dX11_led_15 : decode cX11_led 15 = .ok (.goto 4, 3) := by decide +kernel
theorem dX11_led_18 : decode cX11_led 18 = .ok (.iconst (-1), 1) := by decide +kernel
theorem dX11_led_19 : decode cX11_led 19 = .ok (.ireturn, 1) := by decide +kernel
theorem dX11_dam_0 : decode cX11_dam 0 = .ok (.aload_n 0, 1) := by decide +kernel
theorem dX11_dam_1 : decode cX11_dam 1 = .ok (.iload_n 1, 1) := by decide +kernel
theorem dX11_dam_2 : decode cX11_dam 2 = .ok (.invokevirtual 101, 3) := by decide +kernel
theorem dX11_dam_5 : decode cX11_dam 5 = .ok (.ifCond .eq 15, 3) := by decide +kernel
theorem dX11_dam_8 : decode cX11_dam 8 = .ok (.iload_n 2, 1) := by decide +kernel
theorem dX11_dam_9 : decode cX11_dam 9 = .ok (.iconst 1, 1) := by decide +kernel
theorem dX11_dam_10 : decode cX11_dam 10 = .ok (.if_icmp .lt 10, 3) := by decide +kernel
theorem dX11_dam_13 : decode cX11_dam 13 = .ok (.iload_n 2, 1) := by decide +kernel
theorem dX11_dam_14 : decode cX11_dam 14 = .ok (.sipush 9999, 3) := by decide +kernel
theorem dX11_dam_17 : decode cX11_dam 17 = .ok (.if_icmp .le 5, 3) := by decide +kernel
theorem dX11_dam_20 : decode cX11_dam 20 = .ok (.iconst (-1), 1) := by decide +kernel
theorem dX11_dam_21 : decode cX11_dam 21 = .ok (.ireturn, 1) := by decide +kernel
theorem dX11_dam_22 : decode cX11_dam 22 = .ok (.aload_n 0, 1) := by decide +kernel
theorem dX11_dam_23 : decode cX11_dam 23 = .ok (.getfield 35, 3) := by decide +kernel
theorem dX11_dam_26 : decode cX11_dam 26 = .ok (.aload_n 0, 1) := by decide +kernel
theorem dX11_dam_27 : decode cX11_dam 27 = .ok (.getfield 19, 3) := by decide +kernel
theorem dX11_dam_30 : decode cX11_dam 30 = .ok (.getfield 77, 3) := by decide +kernel
theorem dX11_dam_33 : decode cX11_dam 33 = .ok (.aload_n 0, 1) := by decide +kernel
theorem dX11_dam_34 : decode cX11_dam 34 = .ok (.getfield 19, 3) := by decide +kernel
theorem dX11_dam_37 : decode cX11_dam 37 = .ok (.getfield 150, 3) := by decide +kernel
theorem dX11_dam_40 : decode cX11_dam 40 = .ok (.invokevirtual 234, 3) := by decide +kernel
theorem dX11_dam_43 : decode cX11_dam 43 = .ok (.aload_n 0, 1) := by decide +kernel
theorem dX11_dam_44 : decode cX11_dam 44 = .ok (.getfield 35, 3) := by decide +kernel
theorem dX11_dam_47 : decode cX11_dam 47 = .ok (.getfield 309, 3) := by decide +kernel
theorem dX11_dam_50 : decode cX11_dam 50 = .ok (.iload_n 1, 1) := by decide +kernel
theorem dX11_dam_51 : decode cX11_dam 51 = .ok (.iload_n 2, 1) := by decide +kernel
theorem dX11_dam_52 : decode cX11_dam 52 = .ok (.iastore, 1) := by decide +kernel
theorem dX11_dam_53 : decode cX11_dam 53 = .ok (.aload_n 0, 1) := by decide +kernel
theorem dX11_dam_54 : decode cX11_dam 54 = .ok (.getfield 35, 3) := by decide +kernel
theorem dX11_dam_57 : decode cX11_dam 57 = .ok (.aload_n 0, 1) := by decide +kernel
theorem dX11_dam_58 : decode cX11_dam 58 = .ok (.getfield 19, 3) := by decide +kernel
theorem dX11_dam_61 : decode cX11_dam 61 = .ok (.getfield 77, 3) := by decide +kernel
theorem dX11_dam_64 : decode cX11_dam 64 = .ok (.sipush 1009, 3) := by decide +kernel
theorem dX11_dam_67 : decode cX11_dam 67 = .ok (.invokevirtual 310, 3) := by decide +kernel
theorem dX11_dam_70 : decode cX11_dam 70 = .ok (.ireturn, 1) := by decide +kernel
theorem dX11_rain_0 : decode cX11_rain 0 = .ok (.iload_n 1, 1) := by decide +kernel
theorem dX11_rain_1 : decode cX11_rain 1 = .ok (.iconst 1, 1) := by decide +kernel
theorem dX11_rain_2 : decode cX11_rain 2 = .ok (.if_icmp .lt 9, 3) := by decide +kernel
theorem dX11_rain_5 : decode cX11_rain 5 = .ok (.iload_n 1, 1) := by decide +kernel
theorem dX11_rain_6 : decode cX11_rain 6 = .ok (.bipush 20, 2) := by decide +kernel
theorem dX11_rain_8 : decode cX11_rain 8 = .ok (.if_icmp .le 5, 3) := by decide +kernel
theorem dX11_rain_11 : decode cX11_rain 11 = .ok (.iconst (-1), 1) := by decide +kernel
theorem dX11_rain_12 : decode cX11_rain 12 = .ok (.ireturn, 1) := by decide +kernel
theorem dX11_rain_13 : decode cX11_rain 13 = .ok (.aload_n 0, 1) := by decide +kernel
theorem dX11_rain_14 : decode cX11_rain 14 = .ok (.getfield 35, 3) := by decide +kernel
theorem dX11_rain_17 : decode cX11_rain 17 = .ok (.aload_n 0, 1) := by decide +kernel
theorem dX11_rain_18 : decode cX11_rain 18 = .ok (.getfield 19, 3) := by decide +kernel
theorem dX11_rain_21 : decode cX11_rain 21 = .ok (.getfield 77, 3) := by decide +kernel
theorem dX11_rain_24 : decode cX11_rain 24 = .ok (.aload_n 0, 1) := by decide +kernel
theorem dX11_rain_25 : decode cX11_rain 25 = .ok (.getfield 19, 3) := by decide +kernel
theorem dX11_rain_28 : decode cX11_rain 28 = .ok (.getfield 150, 3) := by decide +kernel
theorem dX11_rain_31 : decode cX11_rain 31 = .ok (.invokevirtual 234, 3) := by decide +kernel
theorem dX11_rain_34 : decode cX11_rain 34 = .ok (.iload_n 2, 1) := by decide +kernel
theorem dX11_rain_35 : decode cX11_rain 35 = .ok (.istore_n 3, 1) := by decide +kernel
theorem dX11_rain_36 : decode cX11_rain 36 = .ok (.iconst 0, 1) := by decide +kernel
theorem dX11_rain_37 : decode cX11_rain 37 = .ok (.istore 4, 2) := by decide +kernel
theorem dX11_rain_39 : decode cX11_rain 39 = .ok (.iconst 0, 1) := by decide +kernel
theorem dX11_rain_40 : decode cX11_rain 40 = .ok (.istore 5, 2) := by decide +kernel
theorem dX11_rain_42 : decode cX11_rain 42 = .ok (.iload 5, 2) := by decide +kernel
theorem dX11_rain_44 : decode cX11_rain 44 = .ok (.iload_n 1, 1) := by decide +kernel
theorem dX11_rain_45 : decode cX11_rain 45 = .ok (.if_icmp .ge 87, 3) := by decide +kernel
theorem dX11_rain_48 : decode cX11_rain 48 = .ok (.iconst 0, 1) := by decide +kernel
theorem dX11_rain_49 : decode cX11_rain 49 = .ok (.istore 6, 2) := by decide +kernel
theorem dX11_rain_51 : decode cX11_rain 51 = .ok (.iload 6, 2) := by decide +kernel
theorem dX11_rain_53 : decode cX11_rain 53 = .ok (.bipush 7, 2) := by decide +kernel
theorem dX11_rain_55 : decode cX11_rain 55 = .ok (.if_icmp .ge 50, 3) := by decide +kernel
theorem dX11_rain_58 : decode cX11_rain 58 = .ok (.iload_n 3, 1) := by decide +kernel
theorem dX11_rain_59 : decode cX11_rain 59 = .ok (.ldc_w 313, 3) := by decide +kernel
theorem dX11_rain_62 : decode cX11_rain 62 = .ok (.imul, 1) := by decide +kernel
theorem dX11_rain_63 : decode cX11_rain 63 = .ok (.sipush 12345, 3) := by decide +kernel
theorem dX11_rain_66 : decode cX11_rain 66 = .ok (.iadd, 1) := by decide +kernel
theorem dX11_rain_67 : decode cX11_rain 67 = .ok (.istore_n 3, 1) := by decide +kernel
theorem dX11_rain_68 : decode cX11_rain 68 = .ok (.aload_n 0, 1) := by decide +kernel
theorem dX11_rain_69 : decode cX11_rain 69 = .ok (.getfield 35, 3) := by decide +kernel
theorem dX11_rain_72 : decode cX11_rain 72 = .ok (.getfield 314, 3) := by decide +kernel
theorem dX11_rain_75 : decode cX11_rain 75 = .ok (.iload 6, 2) := by decide +kernel
theorem dX11_rain_77 : decode cX11_rain 77 = .ok (.aload_n 0, 1) := by decide +kernel
theorem dX11_rain_78 : decode cX11_rain 78 = .ok (.getfield 19, 3) := by decide +kernel
theorem dX11_rain_81 : decode cX11_rain 81 = .ok (.getfield 77, 3) := by decide +kernel
theorem dX11_rain_84 : decode cX11_rain 84 = .ok (.iload 6, 2) := by decide +kernel
theorem dX11_rain_86 : decode cX11_rain 86 = .ok (.invokevirtual 146, 3) := by decide +kernel
theorem dX11_rain_89 : decode cX11_rain 89 = .ok (.iload_n 3, 1) := by decide +kernel
theorem dX11_rain_90 : decode cX11_rain 90 = .ok (.bipush 8, 2) := by decide +kernel
theorem dX11_rain_92 : decode cX11_rain 92 = .ok (.iushr, 1) := by decide +kernel
theorem dX11_rain_93 : decode cX11_rain 93 = .ok (.iconst 5, 1) := by decide +kernel
theorem dX11_rain_94 : decode cX11_rain 94 = .ok (.irem, 1) := by decide +kernel
theorem dX11_rain_95 : decode cX11_rain 95 = .ok (.invokestatic 317, 3) := by decide +kernel
theorem dX11_rain_98 : decode cX11_rain 98 = .ok (.iastore, 1) := by decide +kernel
theorem dX11_rain_99 : decode cX11_rain 99 = .ok (.iinc 6 1, 3) := by decide +kernel
theorem dX11_rain_102 : decode cX11_rain 102 = .ok (.goto (-51), 3) := by decide +kernel
theorem dX11_rain_105 : decode cX11_rain 105 = .ok (.aload_n 0, 1) := by decide +kernel
theorem dX11_rain_106 : decode cX11_rain 106 = .ok (.getfield 35, 3) := by decide +kernel
theorem dX11_rain_109 : decode cX11_rain 109 = .ok (.aload_n 0, 1) := by decide +kernel
theorem dX11_rain_110 : decode cX11_rain 110 = .ok (.getfield 19, 3) := by decide +kernel
theorem dX11_rain_113 : decode cX11_rain 113 = .ok (.getfield 77, 3) := by decide +kernel
theorem dX11_rain_116 : decode cX11_rain 116 = .ok (.iconst 1, 1) := by decide +kernel
theorem dX11_rain_117 : decode cX11_rain 117 = .ok (.invokevirtual 310, 3) := by decide +kernel
theorem dX11_rain_120 : decode cX11_rain 120 = .ok (.ifCond .le 6, 3) := by decide +kernel
theorem dX11_rain_123 : decode cX11_rain 123 = .ok (.iinc 4 1, 3) := by decide +kernel
theorem dX11_rain_126 : decode cX11_rain 126 = .ok (.iinc 5 1, 3) := by decide +kernel
theorem dX11_rain_129 : decode cX11_rain 129 = .ok (.goto (-87), 3) := by decide +kernel
theorem dX11_rain_132 : decode cX11_rain 132 = .ok (.iload 4, 2) := by decide +kernel
theorem dX11_rain_134 : decode cX11_rain 134 = .ok (.ireturn, 1) := by decide +kernel
theorem dX11_sentence_0 : decode cX11_sentence 0 = .ok (.aload_n 0, 1) := by decide +kernel
theorem dX11_sentence_1 : decode cX11_sentence 1 = .ok (.getfield 23, 3) := by decide +kernel
theorem dX11_sentence_4 : decode cX11_sentence 4 = .ok (.getfield 320, 3) := by decide +kernel
theorem dX11_sentence_7 : decode cX11_sentence 7 = .ok (.invokevirtual 324, 3) := by decide +kernel
theorem dX11_sentence_10 : decode cX11_sentence 10 = .ok (.aload_n 0, 1) := by decide +kernel
theorem dX11_sentence_11 : decode cX11_sentence 11 = .ok (.getfield 12, 3) := by decide +kernel
theorem dX11_sentence_14 : decode cX11_sentence 14 = .ok (.sipush 200, 3) := by decide +kernel
theorem dX11_sentence_17 : decode cX11_sentence 17 = .ok (.invokevirtual 74, 3) := by decide +kernel
theorem dX11_sentence_20 : decode cX11_sentence 20 = .ok (.aload_n 0, 1) := by decide +kernel
theorem dX11_sentence_21 : decode cX11_sentence 21 = .ok (.getfield 12, 3) := by decide +kernel
theorem dX11_sentence_24 : decode cX11_sentence 24 = .ok (.aload_n 0, 1) := by decide +kernel
theorem dX11_sentence_25 : decode cX11_sentence 25 = .ok (.getfield 19, 3) := by decide +kernel
theorem dX11_sentence_28 : decode cX11_sentence 28 = .ok (.getfield 77, 3) := by decide +kernel
theorem dX11_sentence_31 : decode cX11_sentence 31 = .ok (.getfield 157, 3) := by decide +kernel
theorem dX11_sentence_34 : decode cX11_sentence 34 = .ok (.aload_n 0, 1) := by decide +kernel
theorem dX11_sentence_35 : decode cX11_sentence 35 = .ok (.getfield 23, 3) := by decide +kernel
theorem dX11_sentence_38 : decode cX11_sentence 38 = .ok (.getfield 320, 3) := by decide +kernel
theorem dX11_sentence_41 : decode cX11_sentence 41 = .ok (.iconst 1, 1) := by decide +kernel
theorem dX11_sentence_42 : decode cX11_sentence 42 = .ok (.invokestatic 327, 3) := by decide +kernel
theorem dX11_sentence_45 : decode cX11_sentence 45 = .ok (.aload_n 0, 1) := by decide +kernel
theorem dX11_sentence_46 : decode cX11_sentence 46 = .ok (.getfield 12, 3) := by decide +kernel
theorem dX11_sentence_49 : decode cX11_sentence 49 = .ok (.invokevirtual 333, 3) := by decide +kernel
theorem dX11_sentence_52 : decode cX11_sentence 52 = .ok (.aload_n 0, 1) := by decide +kernel
theorem dX11_sentence_53 : decode cX11_sentence 53 = .ok (.invokevirtual 87, 3) := by decide +kernel
theorem dX11_sentence_56 : decode cX11_sentence 56 = .ok (.ifCond .eq 13, 3) := by decide +kernel
theorem dX11_sentence_59 : decode cX11_sentence 59 = .ok (.iconst (-1), 1) := by decide +kernel
theorem dX11_sentence_60 : decode cX11_sentence 60 = .ok (.aload_n 0, 1) := by decide +kernel
theorem dX11_sentence_61 : decode cX11_sentence 61 = .ok (.getfield 12, 3) := by decide +kernel
theorem dX11_sentence_64 : decode cX11_sentence 64 = .ok (.getfield 91, 3) := by decide +kernel
theorem dX11_sentence_67 : decode cX11_sentence 67 = .ok (.isub, 1) := by decide +kernel
theorem dX11_sentence_68 : decode cX11_sentence 68 = .ok (.ireturn, 1) := by decide +kernel
theorem dX11_sentence_69 : decode cX11_sentence 69 = .ok (.aload_n 0, 1) := by decide +kernel
theorem dX11_sentence_70 : decode cX11_sentence 70 = .ok (.getfield 19, 3) := by decide +kernel
theorem dX11_sentence_73 : decode cX11_sentence 73 = .ok (.getfield 320, 3) := by decide +kernel
theorem dX11_sentence_76 : decode cX11_sentence 76 = .ok (.aload_n 0, 1) := by decide +kernel
theorem dX11_sentence_77 : decode cX11_sentence 77 = .ok (.getfield 23, 3) := by decide +kernel
theorem dX11_sentence_80 : decode cX11_sentence 80 = .ok (.getfield 320, 3) := by decide +kernel
theorem dX11_sentence_83 : decode cX11_sentence 83 = .ok (.invokevirtual 336, 3) := by decide +kernel
theorem dX11_sentence_86 : decode cX11_sentence 86 = .ok (.aload_n 0, 1) := by decide +kernel
theorem dX11_sentence_87 : decode cX11_sentence 87 = .ok (.getfield 19, 3) := by decide +kernel
theorem dX11_sentence_90 : decode cX11_sentence 90 = .ok (.getfield 320, 3) := by decide +kernel
theorem dX11_sentence_93 : decode cX11_sentence 93 = .ok (.getfield 339, 3) := by decide +kernel
theorem dX11_sentence_96 : decode cX11_sentence 96 = .ok (.ireturn, 1) := by decide +kernel
theorem dX11_said_0 : decode cX11_said 0 = .ok (.iload_n 1, 1) := by decide +kernel
theorem dX11_said_1 : decode cX11_said 1 = .ok (.iconst (-1), 1) := by decide +kernel
theorem dX11_said_2 : decode cX11_said 2 = .ok (.if_icmp .lt 16, 3) := by decide +kernel
theorem dX11_said_5 : decode cX11_said 5 = .ok (.aload_n 0, 1) := by decide +kernel
theorem dX11_said_6 : decode cX11_said 6 = .ok (.getfield 19, 3) := by decide +kernel
theorem dX11_said_9 : decode cX11_said 9 = .ok (.getfield 320, 3) := by decide +kernel
theorem dX11_said_12 : decode cX11_said 12 = .ok (.getfield 339, 3) := by decide +kernel
theorem dX11_said_15 : decode cX11_said 15 = .ok (.ifCond .ne 5, 3) := by decide +kernel
theorem dX11_said_18 : decode cX11_said 18 = .ok (.iconst (-1), 1) := by decide +kernel
theorem dX11_said_19 : decode cX11_said 19 = .ok (.ireturn, 1) := by decide +kernel
theorem dX11_said_20 : decode cX11_said 20 = .ok (.aload_n 0, 1) := by decide +kernel
theorem dX11_said_21 : decode cX11_said 21 = .ok (.invokevirtual 193, 3) := by decide +kernel
theorem dX11_said_24 : decode cX11_said 24 = .ok (.astore_n 2, 1) := by decide +kernel
theorem dX11_said_25 : decode cX11_said 25 = .ok (.iconst 0, 1) := by decide +kernel
theorem dX11_said_26 : decode cX11_said 26 = .ok (.istore_n 3, 1) := by decide +kernel
theorem dX11_said_27 : decode cX11_said 27 = .ok (.iconst 0, 1) := by decide +kernel
theorem dX11_said_28 : decode cX11_said 28 = .ok (.istore 4, 2) := by decide +kernel
theorem dX11_said_30 : decode cX11_said 30 = .ok (.iload 4, 2) := by decide +kernel
theorem dX11_said_32 : decode cX11_said 32 = .ok (.sipush 168, 3) := by decide +kernel
theorem dX11_said_35 : decode cX11_said 35 = .ok (.if_icmp .ge 43, 3) := by decide +kernel
theorem dX11_said_38 : decode cX11_said 38 = .ok (.aload_n 0, 1) := by decide +kernel
theorem dX11_said_39 : decode cX11_said 39 = .ok (.getfield 19, 3) := by decide +kernel
theorem dX11_said_42 : decode cX11_said 42 = .ok (.getfield 320, 3) := by decide +kernel
theorem dX11_said_45 : decode cX11_said 45 = .ok (.aload_n 0, 1) := by decide +kernel
theorem dX11_said_46 : decode cX11_said 46 = .ok (.getfield 19, 3) := by decide +kernel
theorem dX11_said_49 : decode cX11_said 49 = .ok (.getfield 77, 3) := by decide +kernel
theorem dX11_said_52 : decode cX11_said 52 = .ok (.aload_n 2, 1) := by decide +kernel
theorem dX11_said_53 : decode cX11_said 53 = .ok (.iload 4, 2) := by decide +kernel
theorem dX11_said_55 : decode cX11_said 55 = .ok (.invokevirtual 342, 3) := by decide +kernel
theorem dX11_said_58 : decode cX11_said 58 = .ok (.ifCond .eq 14, 3) := by decide +kernel
theorem dX11_said_61 : decode cX11_said 61 = .ok (.iload_n 3, 1) := by decide +kernel
theorem dX11_said_62 : decode cX11_said 62 = .ok (.iload_n 1, 1) := by decide +kernel
theorem dX11_said_63 : decode cX11_said 63 = .ok (.if_icmp .ne 6, 3) := by decide +kernel
theorem dX11_said_66 : decode cX11_said 66 = .ok (.iload 4, 2) := by decide +kernel
theorem dX11_said_68 : decode cX11_said 68 = .ok (.ireturn, 1) := by decide +kernel
theorem dX11_said_69 : decode cX11_said 69 = .ok (.iinc 3 1, 3) := by decide +kernel
theorem dX11_said_72 : decode cX11_said 72 = .ok (.iinc 4 1, 3) := by decide +kernel
theorem dX11_said_75 : decode cX11_said 75 = .ok (.goto (-45), 3) := by decide +kernel
theorem dX11_said_78 : decode cX11_said 78 = .ok (.iload_n 1, 1) := by decide +kernel
theorem dX11_said_79 : decode cX11_said 79 = .ok (.iconst (-1), 1) := by decide +kernel
theorem dX11_said_80 : decode cX11_said 80 = .ok (.if_icmp .ne 7, 3) := by decide +kernel
theorem dX11_said_83 : decode cX11_said 83 = .ok (.iload_n 3, 1) := by decide +kernel
theorem dX11_said_84 : decode cX11_said 84 = .ok (.goto 4, 3) := by decide +kernel
theorem dX11_said_87 : decode cX11_said 87 = .ok (.iconst (-1), 1) := by decide +kernel
theorem dX11_said_88 : decode cX11_said 88 = .ok (.ireturn, 1) := by decide +kernel
theorem dX11_image_0 : decode cX11_image 0 = .ok (.iload_n 1, 1) := by decide +kernel
theorem dX11_image_1 : decode cX11_image 1 = .ok (.ifCond .ne 21, 3) := by decide +kernel
theorem dX11_image_4 : decode cX11_image 4 = .ok (.aload_n 0, 1) := by decide +kernel
theorem dX11_image_5 : decode cX11_image 5 = .ok (.getfield 26, 3) := by decide +kernel
theorem dX11_image_8 : decode cX11_image 8 = .ok (.aload_n 0, 1) := by decide +kernel
theorem dX11_image_9 : decode cX11_image 9 = .ok (.getfield 19, 3) := by decide +kernel
theorem dX11_image_12 : decode cX11_image 12 = .ok (.invokevirtual 94, 3) := by decide +kernel
theorem dX11_image_15 : decode cX11_image 15 = .ok (.aload_n 0, 1) := by decide +kernel
theorem dX11_image_16 : decode cX11_image 16 = .ok (.iconst 1, 1) := by decide +kernel
theorem dX11_image_17 : decode cX11_image 17 = .ok (.putfield 346, 3) := by decide +kernel
theorem dX11_image_20 : decode cX11_image 20 = .ok (.iconst 1, 1) := by decide +kernel
theorem dX11_image_21 : decode cX11_image 21 = .ok (.ireturn, 1) := by decide +kernel
theorem dX11_image_22 : decode cX11_image 22 = .ok (.iload_n 1, 1) := by decide +kernel
theorem dX11_image_23 : decode cX11_image 23 = .ok (.iconst 1, 1) := by decide +kernel
theorem dX11_image_24 : decode cX11_image 24 = .ok (.if_icmp .ne 21, 3) := by decide +kernel
theorem dX11_image_27 : decode cX11_image 27 = .ok (.aload_n 0, 1) := by decide +kernel
theorem dX11_image_28 : decode cX11_image 28 = .ok (.getfield 29, 3) := by decide +kernel
theorem dX11_image_31 : decode cX11_image 31 = .ok (.aload_n 0, 1) := by decide +kernel
theorem dX11_image_32 : decode cX11_image 32 = .ok (.getfield 19, 3) := by decide +kernel
theorem dX11_image_35 : decode cX11_image 35 = .ok (.invokevirtual 94, 3) := by decide +kernel
theorem dX11_image_38 : decode cX11_image 38 = .ok (.aload_n 0, 1) := by decide +kernel
theorem dX11_image_39 : decode cX11_image 39 = .ok (.iconst 1, 1) := by decide +kernel
theorem dX11_image_40 : decode cX11_image 40 = .ok (.putfield 349, 3) := by decide +kernel
theorem dX11_image_43 : decode cX11_image 43 = .ok (.iconst 1, 1) := by decide +kernel
theorem dX11_image_44 : decode cX11_image 44 = .ok (.ireturn, 1) := by decide +kernel
theorem dX11_image_45 : decode cX11_image 45 = .ok (.iconst 0, 1) := by decide +kernel
theorem dX11_image_46 : decode cX11_image 46 = .ok (.ireturn, 1) := by decide +kernel
theorem dX11_restore_0 : decode cX11_restore 0 = .ok (.iload_n 1, 1) := by decide +kernel
theorem dX11_restore_1 : decode cX11_restore 1 = .ok (.ifCond .ne 10, 3) := by decide +kernel
theorem dX11_restore_4 : decode cX11_restore 4 = .ok (.aload_n 0, 1) := by decide +kernel
theorem dX11_restore_5 : decode cX11_restore 5 = .ok (.getfield 346, 3) := by decide +kernel
theorem dX11_restore_8 : decode cX11_restore 8 = .ok (.ifCond .ne 15, 3) := by decide +kernel
theorem dX11_restore_11 : decode cX11_restore 11 = .ok (.iload_n 1, 1) := by decide +kernel
theorem dX11_restore_12 : decode cX11_restore 12 = .ok (.iconst 1, 1) := by decide +kernel
theorem dX11_restore_13 : decode cX11_restore 13 = .ok (.if_icmp .ne 14, 3) := by decide +kernel
theorem dX11_restore_16 : decode cX11_restore 16 = .ok (.aload_n 0, 1) := by decide +kernel
theorem dX11_restore_17 : decode cX11_restore 17 = .ok (.getfield 349, 3) := by decide +kernel
theorem dX11_restore_20 : decode cX11_restore 20 = .ok (.ifCond .eq 7, 3) := by decide +kernel
theorem dX11_restore_23 : decode cX11_restore 23 = .ok (.iconst 1, 1) := by decide +kernel
theorem dX11_restore_24 : decode cX11_restore 24 = .ok (.goto 4, 3) := by decide +kernel
theorem dX11_restore_27 : decode cX11_restore 27 = .ok (.iconst 0, 1) := by decide +kernel
theorem dX11_restore_28 : decode cX11_restore 28 = .ok (.istore_n 2, 1) := by decide +kernel
theorem dX11_restore_29 : decode cX11_restore 29 = .ok (.iload_n 2, 1) := by decide +kernel
theorem dX11_restore_30 : decode cX11_restore 30 = .ok (.ifCond .ne 5, 3) := by decide +kernel
theorem dX11_restore_33 : decode cX11_restore 33 = .ok (.iconst 0, 1) := by decide +kernel
theorem dX11_restore_34 : decode cX11_restore 34 = .ok (.ireturn, 1) := by decide +kernel
theorem dX11_restore_35 : decode cX11_restore 35 = .ok (.aload_n 0, 1) := by decide +kernel
theorem dX11_restore_36 : decode cX11_restore 36 = .ok (.getfield 19, 3) := by decide +kernel
theorem dX11_restore_39 : decode cX11_restore 39 = .ok (.iload_n 1, 1) := by decide +kernel
theorem dX11_restore_40 : decode cX11_restore 40 = .ok (.ifCond .ne 10, 3) := by decide +kernel
theorem dX11_restore_43 : decode cX11_restore 43 = .ok (.aload_n 0, 1) := by decide +kernel
theorem dX11_restore_44 : decode cX11_restore 44 = .ok (.getfield 26, 3) := by decide +kernel
theorem dX11_restore_47 : decode cX11_restore 47 = .ok (.goto 7, 3) := by decide +kernel
theorem dX11_restore_50 : decode cX11_restore 50 = .ok (.aload_n 0, 1) := by decide +kernel
theorem dX11_restore_51 : decode cX11_restore 51 = .ok (.getfield 29, 3) := by decide +kernel
theorem dX11_restore_54 : decode cX11_restore 54 = .ok (.invokevirtual 94, 3) := by decide +kernel
theorem dX11_restore_57 : decode cX11_restore 57 = .ok (.aload_n 0, 1) := by decide +kernel
theorem dX11_restore_58 : decode cX11_restore 58 = .ok (.iconst 1, 1) := by decide +kernel
theorem dX11_restore_59 : decode cX11_restore 59 = .ok (.putfield 46, 3) := by decide +kernel
theorem dX11_restore_62 : decode cX11_restore 62 = .ok (.iconst 1, 1) := by decide +kernel
theorem dX11_restore_63 : decode cX11_restore 63 = .ok (.ireturn, 1) := by decide +kernel
theorem dX11_count_0 : decode cX11_count 0 = .ok (.iload_n 1, 1) := by decide +kernel
theorem dX11_count_1 : decode cX11_count 1 = .ok (.tableswitch 132 0 7 #[47, 58, 69, 80, 91, 102, 113, 124], 47) := by decide +kernel
theorem dX11_count_48 : decode cX11_count 48 = .ok (.aload_n 0, 1) := by decide +kernel
theorem dX11_count_49 : decode cX11_count 49 = .ok (.getfield 19, 3) := by decide +kernel
theorem dX11_count_52 : decode cX11_count 52 = .ok (.getfield 77, 3) := by decide +kernel
theorem dX11_count_55 : decode cX11_count 55 = .ok (.getfield 352, 3) := by decide +kernel
theorem dX11_count_58 : decode cX11_count 58 = .ok (.ireturn, 1) := by decide +kernel
theorem dX11_count_59 : decode cX11_count 59 = .ok (.aload_n 0, 1) := by decide +kernel
theorem dX11_count_60 : decode cX11_count 60 = .ok (.getfield 19, 3) := by decide +kernel
theorem dX11_count_63 : decode cX11_count 63 = .ok (.getfield 77, 3) := by decide +kernel
theorem dX11_count_66 : decode cX11_count 66 = .ok (.getfield 119, 3) := by decide +kernel
theorem dX11_count_69 : decode cX11_count 69 = .ok (.ireturn, 1) := by decide +kernel
theorem dX11_count_70 : decode cX11_count 70 = .ok (.aload_n 0, 1) := by decide +kernel
theorem dX11_count_71 : decode cX11_count 71 = .ok (.getfield 19, 3) := by decide +kernel
theorem dX11_count_74 : decode cX11_count 74 = .ok (.getfield 77, 3) := by decide +kernel
theorem dX11_count_77 : decode cX11_count 77 = .ok (.getfield 302, 3) := by decide +kernel
theorem dX11_count_80 : decode cX11_count 80 = .ok (.ireturn, 1) := by decide +kernel
theorem dX11_count_81 : decode cX11_count 81 = .ok (.aload_n 0, 1) := by decide +kernel
theorem dX11_count_82 : decode cX11_count 82 = .ok (.getfield 19, 3) := by decide +kernel
theorem dX11_count_85 : decode cX11_count 85 = .ok (.getfield 77, 3) := by decide +kernel
theorem dX11_count_88 : decode cX11_count 88 = .ok (.getfield 355, 3) := by decide +kernel
theorem dX11_count_91 : decode cX11_count 91 = .ok (.ireturn, 1) := by decide +kernel
theorem dX11_count_92 : decode cX11_count 92 = .ok (.aload_n 0, 1) := by decide +kernel
theorem dX11_count_93 : decode cX11_count 93 = .ok (.getfield 19, 3) := by decide +kernel
theorem dX11_count_96 : decode cX11_count 96 = .ok (.getfield 77, 3) := by decide +kernel
theorem dX11_count_99 : decode cX11_count 99 = .ok (.getfield 358, 3) := by decide +kernel
theorem dX11_count_102 : decode cX11_count 102 = .ok (.ireturn, 1) := by decide +kernel
theorem dX11_count_103 : decode cX11_count 103 = .ok (.aload_n 0, 1) := by decide +kernel
theorem dX11_count_104 : decode cX11_count 104 = .ok (.getfield 19, 3) := by decide +kernel
theorem dX11_count_107 : decode cX11_count 107 = .ok (.getfield 150, 3) := by decide +kernel
theorem dX11_count_110 : decode cX11_count 110 = .ok (.getfield 168, 3) := by decide +kernel
theorem dX11_count_113 : decode cX11_count 113 = .ok (.ireturn, 1) := by decide +kernel
theorem dX11_count_114 : decode cX11_count 114 = .ok (.aload_n 0, 1) := by decide +kernel
theorem dX11_count_115 : decode cX11_count 115 = .ok (.getfield 19, 3) := by decide +kernel
theorem dX11_count_118 : decode cX11_count 118 = .ok (.getfield 289, 3) := by decide +kernel
theorem dX11_count_121 : decode cX11_count 121 = .ok (.getfield 293, 3) := by decide +kernel
theorem dX11_count_124 : decode cX11_count 124 = .ok (.ireturn, 1) := by decide +kernel
theorem dX11_count_125 : decode cX11_count 125 = .ok (.aload_n 0, 1) := by decide +kernel
theorem dX11_count_126 : decode cX11_count 126 = .ok (.getfield 12, 3) := by decide +kernel
theorem dX11_count_129 : decode cX11_count 129 = .ok (.getfield 63, 3) := by decide +kernel
theorem dX11_count_132 : decode cX11_count 132 = .ok (.ireturn, 1) := by decide +kernel
theorem dX11_count_133 : decode cX11_count 133 = .ok (.iconst (-1), 1) := by decide +kernel
theorem dX11_count_134 : decode cX11_count 134 = .ok (.ireturn, 1) := by decide +kernel
theorem dX11_isRefused_0 : decode cX11_isRefused 0 = .ok (.aload_n 0, 1) := by decide +kernel
theorem dX11_isRefused_1 : decode cX11_isRefused 1 = .ok (.aload_n 0, 1) := by decide +kernel
theorem dX11_isRefused_2 : decode cX11_isRefused 2 = .ok (.getfield 12, 3) := by decide +kernel
theorem dX11_isRefused_5 : decode cX11_isRefused 5 = .ok (.getfield 361, 3) := by decide +kernel
theorem dX11_isRefused_8 : decode cX11_isRefused 8 = .ok (.putfield 98, 3) := by decide +kernel
theorem dX11_isRefused_11 : decode cX11_isRefused 11 = .ok (.aload_n 0, 1) := by decide +kernel
theorem dX11_isRefused_12 : decode cX11_isRefused 12 = .ok (.getfield 98, 3) := by decide +kernel
theorem dX11_isRefused_15 : decode cX11_isRefused 15 = .ok (.ifCond .eq 7, 3) := by decide +kernel
theorem dX11_isRefused_18 : decode cX11_isRefused 18 = .ok (.iconst 1, 1) := by decide +kernel
theorem dX11_isRefused_19 : decode cX11_isRefused 19 = .ok (.goto 4, 3) := by decide +kernel
theorem dX11_isRefused_22 : decode cX11_isRefused 22 = .ok (.iconst 0, 1) := by decide +kernel
theorem dX11_isRefused_23 : decode cX11_isRefused 23 = .ok (.ireturn, 1) := by decide +kernel
theorem dX11_isHour_0 : decode cX11_isHour 0 = .ok (.iload_n 1, 1) := by decide +kernel
theorem dX11_isHour_1 : decode cX11_isHour 1 = .ok (.ifCond .lt 14, 3) := by decide +kernel
theorem dX11_isHour_4 : decode cX11_isHour 4 = .ok (.iload_n 1, 1) := by decide +kernel
theorem dX11_isHour_5 : decode cX11_isHour 5 = .ok (.sipush 168, 3) := by decide +kernel
theorem dX11_isHour_8 : decode cX11_isHour 8 = .ok (.if_icmp .ge 7, 3) := by decide +kernel
theorem dX11_isHour_11 : decode cX11_isHour 11 = .ok (.iconst 1, 1) := by decide +kernel
theorem dX11_isHour_12 : decode cX11_isHour 12 = .ok (.goto 4, 3) := by decide +kernel
theorem dX11_isHour_15 : decode cX11_isHour 15 = .ok (.iconst 0, 1) := by decide +kernel
theorem dX11_isHour_16 : decode cX11_isHour 16 = .ok (.ireturn, 1) := by decide +kernel
theorem dX11_isReach_0 : decode cX11_isReach 0 = .ok (.iload_n 1, 1) := by decide +kernel
theorem dX11_isReach_1 : decode cX11_isReach 1 = .ok (.ifCond .lt 21, 3) := by decide +kernel
theorem dX11_isReach_4 : decode cX11_isReach 4 = .ok (.iload_n 1, 1) := by decide +kernel
theorem dX11_isReach_5 : decode cX11_isReach 5 = .ok (.aload_n 0, 1) := by decide +kernel
theorem dX11_isReach_6 : decode cX11_isReach 6 = .ok (.getfield 19, 3) := by decide +kernel
theorem dX11_isReach_9 : decode cX11_isReach 9 = .ok (.getfield 77, 3) := by decide +kernel
theorem dX11_isReach_12 : decode cX11_isReach 12 = .ok (.getfield 352, 3) := by decide +kernel
theorem dX11_isReach_15 : decode cX11_isReach 15 = .ok (.if_icmp .ge 7, 3) := by decide +kernel
theorem dX11_isReach_18 : decode cX11_isReach 18 = .ok (.iconst 1, 1) := by decide +kernel
theorem dX11_isReach_19 : decode cX11_isReach 19 = .ok (.goto 4, 3) := by decide +kernel
theorem dX11_isReach_22 : decode cX11_isReach 22 = .ok (.iconst 0, 1) := by decide +kernel
theorem dX11_isReach_23 : decode cX11_isReach 23 = .ok (.ireturn, 1) := by decide +kernel
theorem dX11_isColour_0 : decode cX11_isColour 0 = .ok (.iload_n 1, 1) := by decide +kernel
theorem dX11_isColour_1 : decode cX11_isColour 1 = .ok (.ifCond .lt 21, 3) := by decide +kernel
theorem dX11_isColour_4 : decode cX11_isColour 4 = .ok (.iload_n 1, 1) := by decide +kernel
theorem dX11_isColour_5 : decode cX11_isColour 5 = .ok (.aload_n 0, 1) := by decide +kernel
theorem dX11_isColour_6 : decode cX11_isColour 6 = .ok (.getfield 19, 3) := by decide +kernel
theorem dX11_isColour_9 : decode cX11_isColour 9 = .ok (.getfield 77, 3) := by decide +kernel
theorem dX11_isColour_12 : decode cX11_isColour 12 = .ok (.getfield 119, 3) := by decide +kernel
theorem dX11_isColour_15 : decode cX11_isColour 15 = .ok (.if_icmp .ge 7, 3) := by decide +kernel
theorem dX11_isColour_18 : decode cX11_isColour 18 = .ok (.iconst 1, 1) := by decide +kernel
theorem dX11_isColour_19 : decode cX11_isColour 19 = .ok (.goto 4, 3) := by decide +kernel
theorem dX11_isColour_22 : decode cX11_isColour 22 = .ok (.iconst 0, 1) := by decide +kernel
theorem dX11_isColour_23 : decode cX11_isColour 23 = .ok (.ireturn, 1) := by decide +kernel
theorem dX11_isGuild_0 : decode cX11_isGuild 0 = .ok (.iload_n 1, 1) := by decide +kernel
theorem dX11_isGuild_1 : decode cX11_isGuild 1 = .ok (.ifCond .lt 21, 3) := by decide +kernel
theorem dX11_isGuild_4 : decode cX11_isGuild 4 = .ok (.iload_n 1, 1) := by decide +kernel
theorem dX11_isGuild_5 : decode cX11_isGuild 5 = .ok (.aload_n 0, 1) := by decide +kernel
theorem dX11_isGuild_6 : decode cX11_isGuild 6 = .ok (.getfield 19, 3) := by decide +kernel
theorem dX11_isGuild_9 : decode cX11_isGuild 9 = .ok (.getfield 77, 3) := by decide +kernel
theorem dX11_isGuild_12 : decode cX11_isGuild 12 = .ok (.getfield 302, 3) := by decide +kernel
theorem dX11_isGuild_15 : decode cX11_isGuild 15 = .ok (.if_icmp .ge 7, 3) := by decide +kernel
theorem dX11_isGuild_18 : decode cX11_isGuild 18 = .ok (.iconst 1, 1) := by decide +kernel
theorem dX11_isGuild_19 : decode cX11_isGuild 19 = .ok (.goto 4, 3) := by decide +kernel
theorem dX11_isGuild_22 : decode cX11_isGuild 22 = .ok (.iconst 0, 1) := by decide +kernel
theorem dX11_isGuild_23 : decode cX11_isGuild 23 = .ok (.ireturn, 1) := by decide +kernel
theorem dX11_isUser_0 : decode cX11_isUser 0 = .ok (.iload_n 1, 1) := by decide +kernel
theorem dX11_isUser_1 : decode cX11_isUser 1 = .ok (.ifCond .lt 21, 3) := by decide +kernel
theorem dX11_isUser_4 : decode cX11_isUser 4 = .ok (.iload_n 1, 1) := by decide +kernel
theorem dX11_isUser_5 : decode cX11_isUser 5 = .ok (.aload_n 0, 1) := by decide +kernel
theorem dX11_isUser_6 : decode cX11_isUser 6 = .ok (.getfield 19, 3) := by decide +kernel
theorem dX11_isUser_9 : decode cX11_isUser 9 = .ok (.getfield 77, 3) := by decide +kernel
theorem dX11_isUser_12 : decode cX11_isUser 12 = .ok (.getfield 355, 3) := by decide +kernel
theorem dX11_isUser_15 : decode cX11_isUser 15 = .ok (.if_icmp .ge 7, 3) := by decide +kernel
theorem dX11_isUser_18 : decode cX11_isUser 18 = .ok (.iconst 1, 1) := by decide +kernel
theorem dX11_isUser_19 : decode cX11_isUser 19 = .ok (.goto 4, 3) := by decide +kernel
theorem dX11_isUser_22 : decode cX11_isUser 22 = .ok (.iconst 0, 1) := by decide +kernel
theorem dX11_isUser_23 : decode cX11_isUser 23 = .ok (.ireturn, 1) := by decide +kernel
theorem dX11_isBell_0 : decode cX11_isBell 0 = .ok (.iload_n 1, 1) := by decide +kernel
theorem dX11_isBell_1 : decode cX11_isBell 1 = .ok (.ifCond .lt 21, 3) := by decide +kernel
theorem dX11_isBell_4 : decode cX11_isBell 4 = .ok (.iload_n 1, 1) := by decide +kernel
theorem dX11_isBell_5 : decode cX11_isBell 5 = .ok (.aload_n 0, 1) := by decide +kernel
theorem dX11_isBell_6 : decode cX11_isBell 6 = .ok (.getfield 19, 3) := by decide +kernel
theorem dX11_isBell_9 : decode cX11_isBell 9 = .ok (.getfield 150, 3) := by decide +kernel
theorem dX11_isBell_12 : decode cX11_isBell 12 = .ok (.getfield 168, 3) := by decide +kernel
theorem dX11_isBell_15 : decode cX11_isBell 15 = .ok (.if_icmp .ge 7, 3) := by decide +kernel
theorem dX11_isBell_18 : decode cX11_isBell 18 = .ok (.iconst 1, 1) := by decide +kernel
theorem dX11_isBell_19 : decode cX11_isBell 19 = .ok (.goto 4, 3) := by decide +kernel
theorem dX11_isBell_22 : decode cX11_isBell 22 = .ok (.iconst 0, 1) := by decide +kernel
theorem dX11_isBell_23 : decode cX11_isBell 23 = .ok (.ireturn, 1) := by decide +kernel
theorem dX11_shadeOf_0 : decode cX11_shadeOf 0 = .ok (.iload_n 1, 1) := by decide +kernel
theorem dX11_shadeOf_1 : decode cX11_shadeOf 1 = .ok (.ifCond .le 12, 3) := by decide +kernel
theorem dX11_shadeOf_4 : decode cX11_shadeOf 4 = .ok (.iload_n 0, 1) := by decide +kernel
theorem dX11_shadeOf_5 : decode cX11_shadeOf 5 = .ok (.bipush 100, 2) := by decide +kernel
theorem dX11_shadeOf_7 : decode cX11_shadeOf 7 = .ok (.imul, 1) := by decide +kernel
theorem dX11_shadeOf_8 : decode cX11_shadeOf 8 = .ok (.iload_n 1, 1) := by decide +kernel
theorem dX11_shadeOf_9 : decode cX11_shadeOf 9 = .ok (.idiv, 1) := by decide +kernel
theorem dX11_shadeOf_10 : decode cX11_shadeOf 10 = .ok (.goto 4, 3) := by decide +kernel
theorem dX11_shadeOf_13 : decode cX11_shadeOf 13 = .ok (.iconst 0, 1) := by decide +kernel
theorem dX11_shadeOf_14 : decode cX11_shadeOf 14 = .ok (.ireturn, 1) := by decide +kernel
theorem dX11_rainedFlow_0 : decode cX11_rainedFlow 0 = .ok (.iload_n 1, 1) := by decide +kernel
theorem dX11_rainedFlow_1 : decode cX11_rainedFlow 1 = .ok (.ifCond .ne 7, 3) := by decide +kernel
theorem dX11_rainedFlow_4 : decode cX11_rainedFlow 4 = .ok (.iload_n 0, 1) := by decide +kernel
theorem dX11_rainedFlow_5 : decode cX11_rainedFlow 5 = .ok (.iconst 2, 1) := by decide +kernel
theorem dX11_rainedFlow_6 : decode cX11_rainedFlow 6 = .ok (.idiv, 1) := by decide +kernel
theorem dX11_rainedFlow_7 : decode cX11_rainedFlow 7 = .ok (.ireturn, 1) := by decide +kernel
theorem dX11_rainedFlow_8 : decode cX11_rainedFlow 8 = .ok (.iload_n 1, 1) := by decide +kernel
theorem dX11_rainedFlow_9 : decode cX11_rainedFlow 9 = .ok (.iconst 4, 1) := by decide +kernel
theorem dX11_rainedFlow_10 : decode cX11_rainedFlow 10 = .ok (.if_icmp .ne 15, 3) := by decide +kernel
theorem dX11_rainedFlow_13 : decode cX11_rainedFlow 13 = .ok (.iconst 3, 1) := by decide +kernel
theorem dX11_rainedFlow_14 : decode cX11_rainedFlow 14 = .ok (.iload_n 0, 1) := by decide +kernel
theorem dX11_rainedFlow_15 : decode cX11_rainedFlow 15 = .ok (.imul, 1) := by decide +kernel
theorem dX11_rainedFlow_16 : decode cX11_rainedFlow 16 = .ok (.sipush 9999, 3) := by decide +kernel
theorem dX11_rainedFlow_19 : decode cX11_rainedFlow 19 = .ok (.invokestatic 282, 3) := by decide +kernel
theorem dX11_rainedFlow_22 : decode cX11_rainedFlow 22 = .ok (.goto 4, 3) := by decide +kernel
theorem dX11_rainedFlow_25 : decode cX11_rainedFlow 25 = .ok (.iload_n 0, 1) := by decide +kernel
theorem dX11_rainedFlow_26 : decode cX11_rainedFlow 26 = .ok (.ireturn, 1) := by decide +kernel
theorem dX11_past_0 : decode cX11_past 0 = .ok (.aload_n 0, 1) := by decide +kernel
theorem dX11_past_1 : decode cX11_past 1 = .ok (.getfield 46, 3) := by decide +kernel
theorem dX11_past_4 : decode cX11_past 4 = .ok (.ifCond .eq 85, 3) := by decide +kernel
theorem dX11_past_7 : decode cX11_past 7 = .ok (.aload_n 0, 1) := by decide +kernel
theorem dX11_past_8 : decode cX11_past 8 = .ok (.getfield 35, 3) := by decide +kernel
theorem dX11_past_11 : decode cX11_past 11 = .ok (.aload_n 0, 1) := by decide +kernel
theorem dX11_past_12 : decode cX11_past 12 = .ok (.getfield 19, 3) := by decide +kernel
theorem dX11_past_15 : decode cX11_past 15 = .ok (.getfield 77, 3) := by decide +kernel
theorem dX11_past_18 : decode cX11_past 18 = .ok (.aload_n 0, 1) := by decide +kernel
theorem dX11_past_19 : decode cX11_past 19 = .ok (.getfield 19, 3) := by decide +kernel
theorem dX11_past_22 : decode cX11_past 22 = .ok (.getfield 150, 3) := by decide +kernel
theorem dX11_past_25 : decode cX11_past 25 = .ok (.invokevirtual 234, 3) := by decide +kernel
theorem dX11_past_28 : decode cX11_past 28 = .ok (.aload_n 0, 1) := by decide +kernel
theorem dX11_past_29 : decode cX11_past 29 = .ok (.getfield 35, 3) := by decide +kernel
theorem dX11_past_32 : decode cX11_past 32 = .ok (.invokevirtual 241, 3) := by decide +kernel
theorem dX11_past_35 : decode cX11_past 35 = .ok (.iconst 0, 1) := by decide +kernel
theorem dX11_past_36 : decode cX11_past 36 = .ok (.istore_n 1, 1) := by decide +kernel
theorem dX11_past_37 : decode cX11_past 37 = .ok (.iload_n 1, 1) := by decide +kernel
theorem dX11_past_38 : decode cX11_past 38 = .ok (.sipush 168, 3) := by decide +kernel
theorem dX11_past_41 : decode cX11_past 41 = .ok (.if_icmp .ge 43, 3) := by decide +kernel
theorem dX11_past_44 : decode cX11_past 44 = .ok (.aload_n 0, 1) := by decide +kernel
theorem dX11_past_45 : decode cX11_past 45 = .ok (.getfield 35, 3) := by decide +kernel
theorem dX11_past_48 : decode cX11_past 48 = .ok (.aload_n 0, 1) := by decide +kernel
theorem dX11_past_49 : decode cX11_past 49 = .ok (.getfield 19, 3) := by decide +kernel
theorem dX11_past_52 : decode cX11_past 52 = .ok (.getfield 77, 3) := by decide +kernel
theorem dX11_past_55 : decode cX11_past 55 = .ok (.iload_n 1, 1) := by decide +kernel
theorem dX11_past_56 : decode cX11_past 56 = .ok (.invokevirtual 244, 3) := by decide +kernel
theorem dX11_past_59 : decode cX11_past 59 = .ok (.aload_n 0, 1) := by decide +kernel
theorem dX11_past_60 : decode cX11_past 60 = .ok (.getfield 42, 3) := by decide +kernel
theorem dX11_past_63 : decode cX11_past 63 = .ok (.aload_n 0, 1) := by decide +kernel
theorem dX11_past_64 : decode cX11_past 64 = .ok (.getfield 19, 3) := by decide +kernel
theorem dX11_past_67 : decode cX11_past 67 = .ok (.getfield 77, 3) := by decide +kernel
theorem dX11_past_70 : decode cX11_past 70 = .ok (.aload_n 0, 1) := by decide +kernel
theorem dX11_past_71 : decode cX11_past 71 = .ok (.getfield 35, 3) := by decide +kernel
theorem dX11_past_74 : decode cX11_past 74 = .ok (.iload_n 1, 1) := by decide +kernel
theorem dX11_past_75 : decode cX11_past 75 = .ok (.invokevirtual 364, 3) := by decide +kernel
theorem dX11_past_78 : decode cX11_past 78 = .ok (.iinc 1 1, 3) := by decide +kernel
theorem dX11_past_81 : decode cX11_past 81 = .ok (.goto (-44), 3) := by decide +kernel
theorem dX11_past_84 : decode cX11_past 84 = .ok (.aload_n 0, 1) := by decide +kernel
theorem dX11_past_85 : decode cX11_past 85 = .ok (.iconst 0, 1) := by decide +kernel
theorem dX11_past_86 : decode cX11_past 86 = .ok (.putfield 46, 3) := by decide +kernel
theorem dX11_past_89 : decode cX11_past 89 = .ok (.aload_n 0, 1) := by decide +kernel
theorem dX11_past_90 : decode cX11_past 90 = .ok (.getfield 42, 3) := by decide +kernel
theorem dX11_past_93 : decode cX11_past 93 = .ok (.areturn, 1) := by decide +kernel
theorem dX11_chooseGuilds_0 : decode cX11_chooseGuilds 0 = .ok (.iload_n 1, 1) := by decide +kernel
theorem dX11_chooseGuilds_1 : decode cX11_chooseGuilds 1 = .ok (.iconst 1, 1) := by decide +kernel
theorem dX11_chooseGuilds_2 : decode cX11_chooseGuilds 2 = .ok (.if_icmp .lt 25, 3) := by decide +kernel
theorem dX11_chooseGuilds_5 : decode cX11_chooseGuilds 5 = .ok (.iload_n 1, 1) := by decide +kernel
theorem dX11_chooseGuilds_6 : decode cX11_chooseGuilds 6 = .ok (.iconst 4, 1) := by decide +kernel
theorem dX11_chooseGuilds_7 : decode cX11_chooseGuilds 7 = .ok (.if_icmp .gt 20, 3) := by decide +kernel
theorem dX11_chooseGuilds_10 : decode cX11_chooseGuilds 10 = .ok (.aload_n 0, 1) := by decide +kernel
theorem dX11_chooseGuilds_11 : decode cX11_chooseGuilds 11 = .ok (.getfield 19, 3) := by decide +kernel
theorem dX11_chooseGuilds_14 : decode cX11_chooseGuilds 14 = .ok (.getfield 150, 3) := by decide +kernel
theorem dX11_chooseGuilds_17 : decode cX11_chooseGuilds 17 = .ok (.getfield 168, 3) := by decide +kernel
theorem dX11_chooseGuilds_20 : decode cX11_chooseGuilds 20 = .ok (.iload_n 1, 1) := by decide +kernel
theorem dX11_chooseGuilds_21 : decode cX11_chooseGuilds 21 = .ok (.iadd, 1) := by decide +kernel
theorem dX11_chooseGuilds_22 : decode cX11_chooseGuilds 22 = .ok (.bipush 40, 2) := by decide +kernel
theorem dX11_chooseGuilds_24 : decode cX11_chooseGuilds 24 = .ok (.if_icmp .le 5, 3) := by decide +kernel
theorem dX11_chooseGuilds_27 : decode cX11_chooseGuilds 27 = .ok (.iconst 0, 1) := by decide +kernel
theorem dX11_chooseGuilds_28 : decode cX11_chooseGuilds 28 = .ok (.ireturn, 1) := by decide +kernel
theorem dX11_chooseGuilds_29 : decode cX11_chooseGuilds 29 = .ok (.iconst 0, 1) := by decide +kernel
theorem dX11_chooseGuilds_30 : decode cX11_chooseGuilds 30 = .ok (.istore_n 2, 1) := by decide +kernel
theorem dX11_chooseGuilds_31 : decode cX11_chooseGuilds 31 = .ok (.iconst 0, 1) := by decide +kernel
theorem dX11_chooseGuilds_32 : decode cX11_chooseGuilds 32 = .ok (.istore_n 3, 1) := by decide +kernel
theorem dX11_chooseGuilds_33 : decode cX11_chooseGuilds 33 = .ok (.iload_n 3, 1) := by decide +kernel
theorem dX11_chooseGuilds_34 : decode cX11_chooseGuilds 34 = .ok (.iload_n 1, 1) := by decide +kernel
theorem dX11_chooseGuilds_35 : decode cX11_chooseGuilds 35 = .ok (.if_icmp .ge 54, 3) := by decide +kernel
theorem dX11_chooseGuilds_38 : decode cX11_chooseGuilds 38 = .ok (.aload_n 0, 1) := by decide +kernel
theorem dX11_chooseGuilds_39 : decode cX11_chooseGuilds 39 = .ok (.getfield 12, 3) := by decide +kernel
theorem dX11_chooseGuilds_42 : decode cX11_chooseGuilds 42 = .ok (.iload_n 3, 1) := by decide +kernel
theorem dX11_chooseGuilds_43 : decode cX11_chooseGuilds 43 = .ok (.invokevirtual 368, 3) := by decide +kernel
theorem dX11_chooseGuilds_46 : decode cX11_chooseGuilds 46 = .ok (.istore 4, 2) := by decide +kernel
theorem dX11_chooseGuilds_48 : decode cX11_chooseGuilds 48 = .ok (.aload_n 0, 1) := by decide +kernel
theorem dX11_chooseGuilds_49 : decode cX11_chooseGuilds 49 = .ok (.iload 4, 2) := by decide +kernel
theorem dX11_chooseGuilds_51 : decode cX11_chooseGuilds 51 = .ok (.invokevirtual 116, 3) := by decide +kernel
theorem dX11_chooseGuilds_54 : decode cX11_chooseGuilds 54 = .ok (.ifCond .eq 12, 3) := by decide +kernel
theorem dX11_chooseGuilds_57 : decode cX11_chooseGuilds 57 = .ok (.iload_n 2, 1) := by decide +kernel
theorem dX11_chooseGuilds_58 : decode cX11_chooseGuilds 58 = .ok (.iload 4, 2) := by decide +kernel
theorem dX11_chooseGuilds_60 : decode cX11_chooseGuilds 60 = .ok (.ishr, 1) := by decide +kernel
theorem dX11_chooseGuilds_61 : decode cX11_chooseGuilds 61 = .ok (.iconst 1, 1) := by decide +kernel
theorem dX11_chooseGuilds_62 : decode cX11_chooseGuilds 62 = .ok (.iand, 1) := by decide +kernel
theorem dX11_chooseGuilds_63 : decode cX11_chooseGuilds 63 = .ok (.ifCond .eq 5, 3) := by decide +kernel
theorem dX11_chooseGuilds_66 : decode cX11_chooseGuilds 66 = .ok (.iconst 0, 1) := by decide +kernel
theorem dX11_chooseGuilds_67 : decode cX11_chooseGuilds 67 = .ok (.ireturn, 1) := by decide +kernel
theorem dX11_chooseGuilds_68 : decode cX11_chooseGuilds 68 = .ok (.iload_n 2, 1) := by decide +kernel
theorem dX11_chooseGuilds_69 : decode cX11_chooseGuilds 69 = .ok (.iconst 1, 1) := by decide +kernel
theorem dX11_chooseGuilds_70 : decode cX11_chooseGuilds 70 = .ok (.iload 4, 2) := by decide +kernel
theorem dX11_chooseGuilds_72 : decode cX11_chooseGuilds 72 = .ok (.ishl, 1) := by decide +kernel
theorem dX11_chooseGuilds_73 : decode cX11_chooseGuilds 73 = .ok (.ior, 1) := by decide +kernel
theorem dX11_chooseGuilds_74 : decode cX11_chooseGuilds 74 = .ok (.istore_n 2, 1) := by decide +kernel
theorem dX11_chooseGuilds_75 : decode cX11_chooseGuilds 75 = .ok (.aload_n 0, 1) := by decide +kernel
theorem dX11_chooseGuilds_76 : decode cX11_chooseGuilds 76 = .ok (.getfield 50, 3) := by decide +kernel
theorem dX11_chooseGuilds_79 : decode cX11_chooseGuilds 79 = .ok (.iload_n 3, 1) := by decide +kernel
theorem dX11_chooseGuilds_80 : decode cX11_chooseGuilds 80 = .ok (.iload 4, 2) := by decide +kernel
theorem dX11_chooseGuilds_82 : decode cX11_chooseGuilds 82 = .ok (.iastore, 1) := by decide +kernel
theorem dX11_chooseGuilds_83 : decode cX11_chooseGuilds 83 = .ok (.iinc 3 1, 3) := by decide +kernel
theorem dX11_chooseGuilds_86 : decode cX11_chooseGuilds 86 = .ok (.goto (-53), 3) := by decide +kernel
theorem dX11_chooseGuilds_89 : decode cX11_chooseGuilds 89 = .ok (.iconst 1, 1) := by decide +kernel
theorem dX11_chooseGuilds_90 : decode cX11_chooseGuilds 90 = .ok (.ireturn, 1) := by decide +kernel
theorem dX11_tryDays_0 : decode cX11_tryDays 0 = .ok (.iload_n 1, 1) := by decide +kernel
theorem dX11_tryDays_1 : decode cX11_tryDays 1 = .ok (.ifCond .lt 13, 3) := by decide +kernel
theorem dX11_tryDays_4 : decode cX11_tryDays 4 = .ok (.iload_n 1, 1) := by decide +kernel
theorem dX11_tryDays_5 : decode cX11_tryDays 5 = .ok (.iload_n 2, 1) := by decide +kernel
theorem dX11_tryDays_6 : decode cX11_tryDays 6 = .ok (.if_icmp .ge 8, 3) := by decide +kernel
theorem dX11_tryDays_9 : decode cX11_tryDays 9 = .ok (.iload_n 1, 1) := by decide +kernel
theorem dX11_tryDays_10 : decode cX11_tryDays 10 = .ok (.iconst 4, 1) := by decide +kernel
theorem dX11_tryDays_11 : decode cX11_tryDays 11 = .ok (.if_icmp .lt 6, 3) := by decide +kernel
theorem dX11_tryDays_14 : decode cX11_tryDays 14 = .ok (.iload 4, 2) := by decide +kernel
theorem dX11_tryDays_16 : decode cX11_tryDays 16 = .ok (.ireturn, 1) := by decide +kernel
theorem dX11_tryDays_17 : decode cX11_tryDays 17 = .ok (.aload_n 0, 1) := by decide +kernel
theorem dX11_tryDays_18 : decode cX11_tryDays 18 = .ok (.getfield 50, 3) := by decide +kernel
theorem dX11_tryDays_21 : decode cX11_tryDays 21 = .ok (.iload_n 1, 1) := by decide +kernel
theorem dX11_tryDays_22 : decode cX11_tryDays 22 = .ok (.iaload, 1) := by decide +kernel
theorem dX11_tryDays_23 : decode cX11_tryDays 23 = .ok (.istore 5, 2) := by decide +kernel
theorem dX11_tryDays_25 : decode cX11_tryDays 25 = .ok (.aload_n 0, 1) := by decide +kernel
theorem dX11_tryDays_26 : decode cX11_tryDays 26 = .ok (.getfield 19, 3) := by decide +kernel
theorem dX11_tryDays_29 : decode cX11_tryDays 29 = .ok (.getfield 77, 3) := by decide +kernel
theorem dX11_tryDays_32 : decode cX11_tryDays 32 = .ok (.getfield 125, 3) := by decide +kernel
theorem dX11_tryDays_35 : decode cX11_tryDays 35 = .ok (.iload 5, 2) := by decide +kernel
theorem dX11_tryDays_37 : decode cX11_tryDays 37 = .ok (.iaload, 1) := by decide +kernel
theorem dX11_tryDays_38 : decode cX11_tryDays 38 = .ok (.istore 6, 2) := by decide +kernel
theorem dX11_tryDays_40 : decode cX11_tryDays 40 = .ok (.iconst 0, 1) := by decide +kernel
theorem dX11_tryDays_41 : decode cX11_tryDays 41 = .ok (.istore 7, 2) := by decide +kernel
theorem dX11_tryDays_43 : decode cX11_tryDays 43 = .ok (.iload 7, 2) := by decide +kernel
theorem dX11_tryDays_45 : decode cX11_tryDays 45 = .ok (.bipush 7, 2) := by decide +kernel
theorem dX11_tryDays_47 : decode cX11_tryDays 47 = .ok (.if_icmp .ge 153, 3) := by decide +kernel
theorem dX11_tryDays_50 : decode cX11_tryDays 50 = .ok (.iload 7, 2) := by decide +kernel
theorem dX11_tryDays_52 : decode cX11_tryDays 52 = .ok (.bipush 24, 2) := by decide +kernel
theorem dX11_tryDays_54 : decode cX11_tryDays 54 = .ok (.imul, 1) := by decide +kernel
theorem dX11_tryDays_55 : decode cX11_tryDays 55 = .ok (.iload_n 3, 1) := by decide +kernel
theorem dX11_tryDays_56 : decode cX11_tryDays 56 = .ok (.iadd, 1) := by decide +kernel
theorem dX11_tryDays_57 : decode cX11_tryDays 57 = .ok (.istore 8, 2) := by decide +kernel
theorem dX11_tryDays_59 : decode cX11_tryDays 59 = .ok (.iload 8, 2) := by decide +kernel
theorem dX11_tryDays_61 : decode cX11_tryDays 61 = .ok (.iload 6, 2) := by decide +kernel
theorem dX11_tryDays_63 : decode cX11_tryDays 63 = .ok (.iadd, 1) := by decide +kernel
theorem dX11_tryDays_64 : decode cX11_tryDays 64 = .ok (.sipush 168, 3) := by decide +kernel
theorem dX11_tryDays_67 : decode cX11_tryDays 67 = .ok (.if_icmp .le 6, 3) := by decide +kernel
theorem dX11_tryDays_70 : decode cX11_tryDays 70 = .ok (.goto 130, 3) := by decide +kernel
theorem dX11_tryDays_73 : decode cX11_tryDays 73 = .ok (.aload_n 0, 1) := by decide +kernel
theorem dX11_tryDays_74 : decode cX11_tryDays 74 = .ok (.getfield 54, 3) := by decide +kernel
theorem dX11_tryDays_77 : decode cX11_tryDays 77 = .ok (.iload_n 1, 1) := by decide +kernel
theorem dX11_tryDays_78 : decode cX11_tryDays 78 = .ok (.iload 7, 2) := by decide +kernel
theorem dX11_tryDays_80 : decode cX11_tryDays 80 = .ok (.iastore, 1) := by decide +kernel
theorem dX11_tryDays_81 : decode cX11_tryDays 81 = .ok (.aload_n 0, 1) := by decide +kernel
theorem dX11_tryDays_82 : decode cX11_tryDays 82 = .ok (.getfield 35, 3) := by decide +kernel
theorem dX11_tryDays_85 : decode cX11_tryDays 85 = .ok (.iload 5, 2) := by decide +kernel
theorem dX11_tryDays_87 : decode cX11_tryDays 87 = .ok (.iload 8, 2) := by decide +kernel
theorem dX11_tryDays_89 : decode cX11_tryDays 89 = .ok (.iload 6, 2) := by decide +kernel
theorem dX11_tryDays_91 : decode cX11_tryDays 91 = .ok (.invokevirtual 371, 3) := by decide +kernel
theorem dX11_tryDays_94 : decode cX11_tryDays 94 = .ok (.aload_n 0, 1) := by decide +kernel
theorem dX11_tryDays_95 : decode cX11_tryDays 95 = .ok (.getfield 35, 3) := by decide +kernel
theorem dX11_tryDays_98 : decode cX11_tryDays 98 = .ok (.aload_n 0, 1) := by decide +kernel
theorem dX11_tryDays_99 : decode cX11_tryDays 99 = .ok (.getfield 19, 3) := by decide +kernel
theorem dX11_tryDays_102 : decode cX11_tryDays 102 = .ok (.getfield 77, 3) := by decide +kernel
theorem dX11_tryDays_105 : decode cX11_tryDays 105 = .ok (.aload_n 0, 1) := by decide +kernel
theorem dX11_tryDays_106 : decode cX11_tryDays 106 = .ok (.getfield 42, 3) := by decide +kernel
theorem dX11_tryDays_109 : decode cX11_tryDays 109 = .ok (.aload_n 0, 1) := by decide +kernel
theorem dX11_tryDays_110 : decode cX11_tryDays 110 = .ok (.iload_n 1, 1) := by decide +kernel
theorem dX11_tryDays_111 : decode cX11_tryDays 111 = .ok (.iload_n 3, 1) := by decide +kernel
theorem dX11_tryDays_112 : decode cX11_tryDays 112 = .ok (.invokevirtual 374, 3) := by decide +kernel
theorem dX11_tryDays_115 : decode cX11_tryDays 115 = .ok (.iload 4, 2) := by decide +kernel
theorem dX11_tryDays_117 : decode cX11_tryDays 117 = .ok (.invokevirtual 285, 3) := by decide +kernel
theorem dX11_tryDays_120 : decode cX11_tryDays 120 = .ok (.istore 9, 2) := by decide +kernel
theorem dX11_tryDays_122 : decode cX11_tryDays 122 = .ok (.iload 9, 2) := by decide +kernel
theorem dX11_tryDays_124 : decode cX11_tryDays 124 = .ok (.iload 4, 2) := by decide +kernel
theorem dX11_tryDays_126 : decode cX11_tryDays 126 = .ok (.if_icmp .ge 26, 3) := by decide +kernel
theorem dX11_tryDays_129 : decode cX11_tryDays 129 = .ok (.iload_n 1, 1) := by decide +kernel
theorem dX11_tryDays_130 : decode cX11_tryDays 130 = .ok (.iconst 1, 1) := by decide +kernel
theorem dX11_tryDays_131 : decode cX11_tryDays 131 = .ok (.iadd, 1) := by decide +kernel
theorem dX11_tryDays_132 : decode cX11_tryDays 132 = .ok (.iload_n 2, 1) := by decide +kernel
theorem dX11_tryDays_133 : decode cX11_tryDays 133 = .ok (.if_icmp .ge 19, 3) := by decide +kernel
theorem dX11_tryDays_136 : decode cX11_tryDays 136 = .ok (.aload_n 0, 1) := by decide +kernel
theorem dX11_tryDays_137 : decode cX11_tryDays 137 = .ok (.iload_n 1, 1) := by decide +kernel
theorem dX11_tryDays_138 : decode cX11_tryDays 138 = .ok (.iconst 1, 1) := by decide +kernel
theorem dX11_tryDays_139 : decode cX11_tryDays 139 = .ok (.iadd, 1) := by decide +kernel
theorem dX11_tryDays_140 : decode cX11_tryDays 140 = .ok (.iload_n 2, 1) := by decide +kernel
theorem dX11_tryDays_141 : decode cX11_tryDays 141 = .ok (.iload_n 3, 1) := by decide +kernel
theorem dX11_tryDays_142 : decode cX11_tryDays 142 = .ok (.iload 4, 2) := by decide +kernel
theorem dX11_tryDays_144 : decode cX11_tryDays 144 = .ok (.invokevirtual 269, 3) := by decide +kernel
theorem dX11_tryDays_147 : decode cX11_tryDays 147 = .ok (.istore 4, 2) := by decide +kernel
theorem dX11_tryDays_149 : decode cX11_tryDays 149 = .ok (.goto 28, 3) := by decide +kernel
theorem dX11_tryDays_152 : decode cX11_tryDays 152 = .ok (.iload 9, 2) := by decide +kernel
theorem dX11_tryDays_154 : decode cX11_tryDays 154 = .ok (.iload 4, 2) := by decide +kernel
theorem dX11_tryDays_156 : decode cX11_tryDays 156 = .ok (.if_icmp .ge 21, 3) := by decide +kernel
theorem dX11_tryDays_159 : decode cX11_tryDays 159 = .ok (.iload 9, 2) := by decide +kernel
theorem dX11_tryDays_161 : decode cX11_tryDays 161 = .ok (.istore 4, 2) := by decide +kernel
theorem dX11_tryDays_163 : decode cX11_tryDays 163 = .ok (.aload_n 0, 1) := by decide +kernel
theorem dX11_tryDays_164 : decode cX11_tryDays 164 = .ok (.getfield 54, 3) := by decide +kernel
theorem dX11_tryDays_167 : decode cX11_tryDays 167 = .ok (.iconst 0, 1) := by decide +kernel
theorem dX11_tryDays_168 : decode cX11_tryDays 168 = .ok (.aload_n 0, 1) := by decide +kernel
theorem dX11_tryDays_169 : decode cX11_tryDays 169 = .ok (.getfield 57, 3) := by decide +kernel
theorem dX11_tryDays_172 : decode cX11_tryDays 172 = .ok (.iconst 0, 1) := by decide +kernel
theorem dX11_tryDays_173 : decode cX11_tryDays 173 = .ok (.iload_n 2, 1) := by decide +kernel
theorem dX11_tryDays_174 : decode cX11_tryDays 174 = .ok (.invokestatic 377, 3) := by decide +kernel
theorem dX11_tryDays_177 : decode cX11_tryDays 177 = .ok (.aload_n 0, 1) := by decide +kernel
theorem dX11_tryDays_178 : decode cX11_tryDays 178 = .ok (.getfield 35, 3) := by decide +kernel
theorem dX11_tryDays_181 : decode cX11_tryDays 181 = .ok (.aload_n 0, 1) := by decide +kernel
theorem dX11_tryDays_182 : decode cX11_tryDays 182 = .ok (.getfield 42, 3) := by decide +kernel
theorem dX11_tryDays_185 : decode cX11_tryDays 185 = .ok (.iload 5, 2) := by decide +kernel
theorem dX11_tryDays_187 : decode cX11_tryDays 187 = .ok (.iload 8, 2) := by decide +kernel
theorem dX11_tryDays_189 : decode cX11_tryDays 189 = .ok (.iload 6, 2) := by decide +kernel
theorem dX11_tryDays_191 : decode cX11_tryDays 191 = .ok (.invokevirtual 383, 3) := by decide +kernel
theorem dX11_tryDays_194 : decode cX11_tryDays 194 = .ok (.iinc 7 1, 3) := by decide +kernel
theorem dX11_tryDays_197 : decode cX11_tryDays 197 = .ok (.goto (-154), 3) := by decide +kernel
theorem dX11_tryDays_200 : decode cX11_tryDays 200 = .ok (.iload 4, 2) := by decide +kernel
theorem dX11_tryDays_202 : decode cX11_tryDays 202 = .ok (.ireturn, 1) := by decide +kernel
theorem dX11_firstTried_0 : decode cX11_firstTried 0 = .ok (.bipush 6, 2) := by decide +kernel
theorem dX11_firstTried_2 : decode cX11_firstTried 2 = .ok (.istore_n 3, 1) := by decide +kernel
theorem dX11_firstTried_3 : decode cX11_firstTried 3 = .ok (.iconst 0, 1) := by decide +kernel
theorem dX11_firstTried_4 : decode cX11_firstTried 4 = .ok (.istore 4, 2) := by decide +kernel
theorem dX11_firstTried_6 : decode cX11_firstTried 6 = .ok (.iload 4, 2) := by decide +kernel
theorem dX11_firstTried_8 : decode cX11_firstTried 8 = .ok (.iload_n 1, 1) := by decide +kernel
theorem dX11_firstTried_9 : decode cX11_firstTried 9 = .ok (.if_icmp .gt 27, 3) := by decide +kernel
theorem dX11_firstTried_12 : decode cX11_firstTried 12 = .ok (.iload 4, 2) := by decide +kernel
theorem dX11_firstTried_14 : decode cX11_firstTried 14 = .ok (.iconst 4, 1) := by decide +kernel
theorem dX11_firstTried_15 : decode cX11_firstTried 15 = .ok (.if_icmp .ge 21, 3) := by decide +kernel
theorem dX11_firstTried_18 : decode cX11_firstTried 18 = .ok (.iload_n 3, 1) := by decide +kernel
theorem dX11_firstTried_19 : decode cX11_firstTried 19 = .ok (.aload_n 0, 1) := by decide +kernel
theorem dX11_firstTried_20 : decode cX11_firstTried 20 = .ok (.getfield 54, 3) := by decide +kernel
theorem dX11_firstTried_23 : decode cX11_firstTried 23 = .ok (.iload 4, 2) := by decide +kernel
theorem dX11_firstTried_25 : decode cX11_firstTried 25 = .ok (.iaload, 1) := by decide +kernel
theorem dX11_firstTried_26 : decode cX11_firstTried 26 = .ok (.invokestatic 282, 3) := by decide +kernel
theorem dX11_firstTried_29 : decode cX11_firstTried 29 = .ok (.istore_n 3, 1) := by decide +kernel
theorem dX11_firstTried_30 : decode cX11_firstTried 30 = .ok (.iinc 4 1, 3) := by decide +kernel
theorem dX11_firstTried_33 : decode cX11_firstTried 33 = .ok (.goto (-27), 3) := by decide +kernel
theorem dX11_firstTried_36 : decode cX11_firstTried 36 = .ok (.iload_n 3, 1) := by decide +kernel
theorem dX11_firstTried_37 : decode cX11_firstTried 37 = .ok (.bipush 24, 2) := by decide +kernel
theorem dX11_firstTried_39 : decode cX11_firstTried 39 = .ok (.imul, 1) := by decide +kernel
theorem dX11_firstTried_40 : decode cX11_firstTried 40 = .ok (.iload_n 2, 1) := by decide +kernel
theorem dX11_firstTried_41 : decode cX11_firstTried 41 = .ok (.iadd, 1) := by decide +kernel
theorem dX11_firstTried_42 : decode cX11_firstTried 42 = .ok (.ireturn, 1) := by decide +kernel
theorem dX11_exchangeFirst_0 : decode cX11_exchangeFirst 0 = .ok (.aload_n 0, 1) := by decide +kernel
theorem dX11_exchangeFirst_1 : decode cX11_exchangeFirst 1 = .ok (.invokevirtual 193, 3) := by decide +kernel
theorem dX11_exchangeFirst_4 : decode cX11_exchangeFirst 4 = .ok (.astore_n 2, 1) := by decide +kernel
theorem dX11_exchangeFirst_5 : decode cX11_exchangeFirst 5 = .ok (.aload_n 0, 1) := by decide +kernel
theorem dX11_exchangeFirst_6 : decode cX11_exchangeFirst 6 = .ok (.getfield 19, 3) := by decide +kernel
theorem dX11_exchangeFirst_9 : decode cX11_exchangeFirst 9 = .ok (.getfield 150, 3) := by decide +kernel
theorem dX11_exchangeFirst_12 : decode cX11_exchangeFirst 12 = .ok (.astore_n 3, 1) := by decide +kernel
theorem dX11_exchangeFirst_13 : decode cX11_exchangeFirst 13 = .ok (.iconst 0, 1) := by decide +kernel
theorem dX11_exchangeFirst_14 : decode cX11_exchangeFirst 14 = .ok (.istore 4, 2) := by decide +kernel
theorem dX11_exchangeFirst_16 : decode cX11_exchangeFirst 16 = .ok (.iload 4, 2) := by decide +kernel
theorem dX11_exchangeFirst_18 : decode cX11_exchangeFirst 18 = .ok (.aload_n 3, 1) := by decide +kernel
theorem dX11_exchangeFirst_19 : decode cX11_exchangeFirst 19 = .ok (.getfield 168, 3) := by decide +kernel
theorem dX11_exchangeFirst_22 : decode cX11_exchangeFirst 22 = .ok (.if_icmp .ge 127, 3) := by decide +kernel
theorem dX11_exchangeFirst_25 : decode cX11_exchangeFirst 25 = .ok (.iload 4, 2) := by decide +kernel
theorem dX11_exchangeFirst_27 : decode cX11_exchangeFirst 27 = .ok (.iconst 1, 1) := by decide +kernel
theorem dX11_exchangeFirst_28 : decode cX11_exchangeFirst 28 = .ok (.iadd, 1) := by decide +kernel
theorem dX11_exchangeFirst_29 : decode cX11_exchangeFirst 29 = .ok (.istore 5, 2) := by decide +kernel
theorem dX11_exchangeFirst_31 : decode cX11_exchangeFirst 31 = .ok (.iload 5, 2) := by decide +kernel
theorem dX11_exchangeFirst_33 : decode cX11_exchangeFirst 33 = .ok (.aload_n 3, 1) := by decide +kernel
theorem dX11_exchangeFirst_34 : decode cX11_exchangeFirst 34 = .ok (.getfield 168, 3) := by decide +kernel
theorem dX11_exchangeFirst_37 : decode cX11_exchangeFirst 37 = .ok (.if_icmp .ge 106, 3) := by decide +kernel
theorem dX11_exchangeFirst_40 : decode cX11_exchangeFirst 40 = .ok (.aload_n 3, 1) := by decide +kernel
theorem dX11_exchangeFirst_41 : decode cX11_exchangeFirst 41 = .ok (.getfield 184, 3) := by decide +kernel
theorem dX11_exchangeFirst_44 : decode cX11_exchangeFirst 44 = .ok (.iload 4, 2) := by decide +kernel
theorem dX11_exchangeFirst_46 : decode cX11_exchangeFirst 46 = .ok (.iaload, 1) := by decide +kernel
theorem dX11_exchangeFirst_47 : decode cX11_exchangeFirst 47 = .ok (.aload_n 3, 1) := by decide +kernel
theorem dX11_exchangeFirst_48 : decode cX11_exchangeFirst 48 = .ok (.getfield 184, 3) := by decide +kernel
theorem dX11_exchangeFirst_51 : decode cX11_exchangeFirst 51 = .ok (.iload 5, 2) := by decide +kernel
theorem dX11_exchangeFirst_53 : decode cX11_exchangeFirst 53 = .ok (.iaload, 1) := by decide +kernel
theorem dX11_exchangeFirst_54 : decode cX11_exchangeFirst 54 = .ok (.if_icmp .eq 83, 3) := by decide +kernel
theorem dX11_exchangeFirst_57 : decode cX11_exchangeFirst 57 = .ok (.aload_n 3, 1) := by decide +kernel
theorem dX11_exchangeFirst_58 : decode cX11_exchangeFirst 58 = .ok (.iload 4, 2) := by decide +kernel
theorem dX11_exchangeFirst_60 : decode cX11_exchangeFirst 60 = .ok (.iload 5, 2) := by decide +kernel
theorem dX11_exchangeFirst_62 : decode cX11_exchangeFirst 62 = .ok (.invokevirtual 387, 3) := by decide +kernel
theorem dX11_exchangeFirst_65 : decode cX11_exchangeFirst 65 = .ok (.aload_n 0, 1) := by decide +kernel
theorem dX11_exchangeFirst_66 : decode cX11_exchangeFirst 66 = .ok (.getfield 35, 3) := by decide +kernel
theorem dX11_exchangeFirst_69 : decode cX11_exchangeFirst 69 = .ok (.aload_n 0, 1) := by decide +kernel
theorem dX11_exchangeFirst_70 : decode cX11_exchangeFirst 70 = .ok (.getfield 19, 3) := by decide +kernel
theorem dX11_exchangeFirst_73 : decode cX11_exchangeFirst 73 = .ok (.getfield 77, 3) := by decide +kernel
theorem dX11_exchangeFirst_76 : decode cX11_exchangeFirst 76 = .ok (.aload_n 3, 1) := by decide +kernel
theorem dX11_exchangeFirst_77 : decode cX11_exchangeFirst 77 = .ok (.invokevirtual 234, 3) := by decide +kernel
theorem dX11_exchangeFirst_80 : decode cX11_exchangeFirst 80 = .ok (.aload_n 0, 1) := by decide +kernel
theorem dX11_exchangeFirst_81 : decode cX11_exchangeFirst 81 = .ok (.getfield 35, 3) := by decide +kernel
theorem dX11_exchangeFirst_84 : decode cX11_exchangeFirst 84 = .ok (.aload_n 0, 1) := by decide +kernel
theorem dX11_exchangeFirst_85 : decode cX11_exchangeFirst 85 = .ok (.getfield 19, 3) := by decide +kernel
theorem dX11_exchangeFirst_88 : decode cX11_exchangeFirst 88 = .ok (.getfield 77, 3) := by decide +kernel
theorem dX11_exchangeFirst_91 : decode cX11_exchangeFirst 91 = .ok (.aload_n 2, 1) := by decide +kernel
theorem dX11_exchangeFirst_92 : decode cX11_exchangeFirst 92 = .ok (.aload_n 3, 1) := by decide +kernel
theorem dX11_exchangeFirst_93 : decode cX11_exchangeFirst 93 = .ok (.getfield 181, 3) := by decide +kernel
theorem dX11_exchangeFirst_96 : decode cX11_exchangeFirst 96 = .ok (.iload 4, 2) := by decide +kernel
theorem dX11_exchangeFirst_98 : decode cX11_exchangeFirst 98 = .ok (.iaload, 1) := by decide +kernel
theorem dX11_exchangeFirst_99 : decode cX11_exchangeFirst 99 = .ok (.aload_n 3, 1) := by decide +kernel
theorem dX11_exchangeFirst_100 : decode cX11_exchangeFirst 100 = .ok (.getfield 181, 3) := by decide +kernel
theorem dX11_exchangeFirst_103 : decode cX11_exchangeFirst 103 = .ok (.iload 5, 2) := by decide +kernel
theorem dX11_exchangeFirst_105 : decode cX11_exchangeFirst 105 = .ok (.iaload, 1) := by decide +kernel
theorem dX11_exchangeFirst_106 : decode cX11_exchangeFirst 106 = .ok (.invokestatic 282, 3) := by decide +kernel
theorem dX11_exchangeFirst_109 : decode cX11_exchangeFirst 109 = .ok (.iload_n 1, 1) := by decide +kernel
theorem dX11_exchangeFirst_110 : decode cX11_exchangeFirst 110 = .ok (.invokevirtual 285, 3) := by decide +kernel
theorem dX11_exchangeFirst_113 : decode cX11_exchangeFirst 113 = .ok (.istore 6, 2) := by decide +kernel
theorem dX11_exchangeFirst_115 : decode cX11_exchangeFirst 115 = .ok (.iload 6, 2) := by decide +kernel
theorem dX11_exchangeFirst_117 : decode cX11_exchangeFirst 117 = .ok (.iload_n 1, 1) := by decide +kernel
theorem dX11_exchangeFirst_118 : decode cX11_exchangeFirst 118 = .ok (.if_icmp .ge 11, 3) := by decide +kernel
theorem dX11_exchangeFirst_121 : decode cX11_exchangeFirst 121 = .ok (.aload_n 0, 1) := by decide +kernel
theorem dX11_exchangeFirst_122 : decode cX11_exchangeFirst 122 = .ok (.iconst 1, 1) := by decide +kernel
theorem dX11_exchangeFirst_123 : decode cX11_exchangeFirst 123 = .ok (.putfield 46, 3) := by decide +kernel
theorem dX11_exchangeFirst_126 : decode cX11_exchangeFirst 126 = .ok (.iload 6, 2) := by decide +kernel
theorem dX11_exchangeFirst_128 : decode cX11_exchangeFirst 128 = .ok (.ireturn, 1) := by decide +kernel
theorem dX11_exchangeFirst_129 : decode cX11_exchangeFirst 129 = .ok (.aload_n 3, 1) := by decide +kernel
theorem dX11_exchangeFirst_130 : decode cX11_exchangeFirst 130 = .ok (.iload 4, 2) := by decide +kernel
theorem dX11_exchangeFirst_132 : decode cX11_exchangeFirst 132 = .ok (.iload 5, 2) := by decide +kernel
theorem dX11_exchangeFirst_134 : decode cX11_exchangeFirst 134 = .ok (.invokevirtual 387, 3) := by decide +kernel
theorem dX11_exchangeFirst_137 : decode cX11_exchangeFirst 137 = .ok (.iinc 5 1, 3) := by decide +kernel
theorem dX11_exchangeFirst_140 : decode cX11_exchangeFirst 140 = .ok (.goto (-109), 3) := by decide +kernel
theorem dX11_exchangeFirst_143 : decode cX11_exchangeFirst 143 = .ok (.iinc 4 1, 3) := by decide +kernel
theorem dX11_exchangeFirst_146 : decode cX11_exchangeFirst 146 = .ok (.goto (-130), 3) := by decide +kernel
theorem dX11_exchangeFirst_149 : decode cX11_exchangeFirst 149 = .ok (.iload_n 1, 1) := by decide +kernel
theorem dX11_exchangeFirst_150 : decode cX11_exchangeFirst 150 = .ok (.ireturn, 1) := by decide +kernel
theorem dX11_tryNights_0 : decode cX11_tryNights 0 = .ok (.bipush 6, 2) := by decide +kernel
theorem dX11_tryNights_2 : decode cX11_tryNights 2 = .ok (.sipush 168, 3) := by decide +kernel
theorem dX11_tryNights_5 : decode cX11_tryNights 5 = .ok (.iload_n 2, 1) := by decide +kernel
theorem dX11_tryNights_6 : decode cX11_tryNights 6 = .ok (.isub, 1) := by decide +kernel
theorem dX11_tryNights_7 : decode cX11_tryNights 7 = .ok (.invokestatic 282, 3) := by decide +kernel
theorem dX11_tryNights_10 : decode cX11_tryNights 10 = .ok (.istore 4, 2) := by decide +kernel
theorem dX11_tryNights_12 : decode cX11_tryNights 12 = .ok (.iconst 0, 1) := by decide +kernel
theorem dX11_tryNights_13 : decode cX11_tryNights 13 = .ok (.istore 5, 2) := by decide +kernel
theorem dX11_tryNights_15 : decode cX11_tryNights 15 = .ok (.iconst 1, 1) := by decide +kernel
theorem dX11_tryNights_16 : decode cX11_tryNights 16 = .ok (.istore 6, 2) := by decide +kernel
theorem dX11_tryNights_18 : decode cX11_tryNights 18 = .ok (.iload 6, 2) := by decide +kernel
theorem dX11_tryNights_20 : decode cX11_tryNights 20 = .ok (.iload 4, 2) := by decide +kernel
theorem dX11_tryNights_22 : decode cX11_tryNights 22 = .ok (.if_icmp .gt 81, 3) := by decide +kernel
theorem dX11_tryNights_25 : decode cX11_tryNights 25 = .ok (.aload_n 0, 1) := by decide +kernel
theorem dX11_tryNights_26 : decode cX11_tryNights 26 = .ok (.getfield 35, 3) := by decide +kernel
theorem dX11_tryNights_29 : decode cX11_tryNights 29 = .ok (.iload_n 1, 1) := by decide +kernel
theorem dX11_tryNights_30 : decode cX11_tryNights 30 = .ok (.iload_n 2, 1) := by decide +kernel
theorem dX11_tryNights_31 : decode cX11_tryNights 31 = .ok (.iload 6, 2) := by decide +kernel
theorem dX11_tryNights_33 : decode cX11_tryNights 33 = .ok (.invokevirtual 371, 3) := by decide +kernel
theorem dX11_tryNights_36 : decode cX11_tryNights 36 = .ok (.aload_n 0, 1) := by decide +kernel
theorem dX11_tryNights_37 : decode cX11_tryNights 37 = .ok (.getfield 35, 3) := by decide +kernel
theorem dX11_tryNights_40 : decode cX11_tryNights 40 = .ok (.aload_n 0, 1) := by decide +kernel
theorem dX11_tryNights_41 : decode cX11_tryNights 41 = .ok (.getfield 19, 3) := by decide +kernel
theorem dX11_tryNights_44 : decode cX11_tryNights 44 = .ok (.getfield 77, 3) := by decide +kernel
theorem dX11_tryNights_47 : decode cX11_tryNights 47 = .ok (.aload_n 0, 1) := by decide +kernel
theorem dX11_tryNights_48 : decode cX11_tryNights 48 = .ok (.getfield 42, 3) := by decide +kernel
theorem dX11_tryNights_51 : decode cX11_tryNights 51 = .ok (.iload_n 2, 1) := by decide +kernel
theorem dX11_tryNights_52 : decode cX11_tryNights 52 = .ok (.aload_n 0, 1) := by decide +kernel
theorem dX11_tryNights_53 : decode cX11_tryNights 53 = .ok (.getfield 19, 3) := by decide +kernel
theorem dX11_tryNights_56 : decode cX11_tryNights 56 = .ok (.getfield 289, 3) := by decide +kernel
theorem dX11_tryNights_59 : decode cX11_tryNights 59 = .ok (.invokevirtual 391, 3) := by decide +kernel
theorem dX11_tryNights_62 : decode cX11_tryNights 62 = .ok (.ifCond .eq 35, 3) := by decide +kernel
theorem dX11_tryNights_65 : decode cX11_tryNights 65 = .ok (.iload_n 3, 1) := by decide +kernel
theorem dX11_tryNights_66 : decode cX11_tryNights 66 = .ok (.iload 5, 2) := by decide +kernel
theorem dX11_tryNights_68 : decode cX11_tryNights 68 = .ok (.iadd, 1) := by decide +kernel
theorem dX11_tryNights_69 : decode cX11_tryNights 69 = .ok (.ifCond .ne 25, 3) := by decide +kernel
theorem dX11_tryNights_72 : decode cX11_tryNights 72 = .ok (.aload_n 0, 1) := by decide +kernel
theorem dX11_tryNights_73 : decode cX11_tryNights 73 = .ok (.getfield 60, 3) := by decide +kernel
theorem dX11_tryNights_76 : decode cX11_tryNights 76 = .ok (.iconst 0, 1) := by decide +kernel
theorem dX11_tryNights_77 : decode cX11_tryNights 77 = .ok (.iload_n 1, 1) := by decide +kernel
theorem dX11_tryNights_78 : decode cX11_tryNights 78 = .ok (.iastore, 1) := by decide +kernel
theorem dX11_tryNights_79 : decode cX11_tryNights 79 = .ok (.aload_n 0, 1) := by decide +kernel
theorem dX11_tryNights_80 : decode cX11_tryNights 80 = .ok (.getfield 60, 3) := by decide +kernel
theorem dX11_tryNights_83 : decode cX11_tryNights 83 = .ok (.iconst 1, 1) := by decide +kernel
theorem dX11_tryNights_84 : decode cX11_tryNights 84 = .ok (.iload_n 2, 1) := by decide +kernel
theorem dX11_tryNights_85 : decode cX11_tryNights 85 = .ok (.iastore, 1) := by decide +kernel
theorem dX11_tryNights_86 : decode cX11_tryNights 86 = .ok (.aload_n 0, 1) := by decide +kernel
theorem dX11_tryNights_87 : decode cX11_tryNights 87 = .ok (.getfield 60, 3) := by decide +kernel
theorem dX11_tryNights_90 : decode cX11_tryNights 90 = .ok (.iconst 2, 1) := by decide +kernel
theorem dX11_tryNights_91 : decode cX11_tryNights 91 = .ok (.iload 6, 2) := by decide +kernel
theorem dX11_tryNights_93 : decode cX11_tryNights 93 = .ok (.iastore, 1) := by decide +kernel
theorem dX11_tryNights_94 : decode cX11_tryNights 94 = .ok (.iinc 5 1, 3) := by decide +kernel
theorem dX11_tryNights_97 : decode cX11_tryNights 97 = .ok (.iinc 6 1, 3) := by decide +kernel
theorem dX11_tryNights_100 : decode cX11_tryNights 100 = .ok (.goto (-82), 3) := by decide +kernel
theorem dX11_tryNights_103 : decode cX11_tryNights 103 = .ok (.aload_n 0, 1) := by decide +kernel
theorem dX11_tryNights_104 : decode cX11_tryNights 104 = .ok (.getfield 35, 3) := by decide +kernel
theorem dX11_tryNights_107 : decode cX11_tryNights 107 = .ok (.aload_n 0, 1) := by decide +kernel
theorem dX11_tryNights_108 : decode cX11_tryNights 108 = .ok (.getfield 42, 3) := by decide +kernel
theorem dX11_tryNights_111 : decode cX11_tryNights 111 = .ok (.iload_n 1, 1) := by decide +kernel
theorem dX11_tryNights_112 : decode cX11_tryNights 112 = .ok (.iload_n 2, 1) := by decide +kernel
theorem dX11_tryNights_113 : decode cX11_tryNights 113 = .ok (.iload 4, 2) := by decide +kernel
theorem dX11_tryNights_115 : decode cX11_tryNights 115 = .ok (.invokevirtual 383, 3) := by decide +kernel
theorem dX11_tryNights_118 : decode cX11_tryNights 118 = .ok (.iload 5, 2) := by decide +kernel
theorem dX11_tryNights_120 : decode cX11_tryNights 120 = .ok (.ireturn, 1) := by decide +kernel
theorem dX12_init_0 : decode cX12_init 0 = .ok (.aload_n 0, 1) := by decide +kernel
theorem dX12_init_1 : decode cX12_init 1 = .ok (.invokespecial 1, 3) := by decide +kernel
theorem dX12_init_4 : decode cX12_init 4 = .ok (.aload_n 0, 1) := by decide +kernel
theorem dX12_init_5 : decode cX12_init 5 = .ok (.sipush 940, 3) := by decide +kernel
theorem dX12_init_8 : decode cX12_init 8 = .ok (.newarray .int, 2) := by decide +kernel
theorem dX12_init_10 : decode cX12_init 10 = .ok (.putfield 7, 3) := by decide +kernel
theorem dX12_init_13 : decode cX12_init 13 = .ok (.aload_n 0, 1) := by decide +kernel
theorem dX12_init_14 : decode cX12_init 14 = .ok (.sipush 592, 3) := by decide +kernel
theorem dX12_init_17 : decode cX12_init 17 = .ok (.newarray .int, 2) := by decide +kernel
theorem dX12_init_19 : decode cX12_init 19 = .ok (.putfield 13, 3) := by decide +kernel
theorem dX12_init_22 : decode cX12_init 22 = .ok (.aload_n 0, 1) := by decide +kernel
theorem dX12_init_23 : decode cX12_init 23 = .ok (.sipush 160, 3) := by decide +kernel
theorem dX12_init_26 : decode cX12_init 26 = .ok (.newarray .int, 2) := by decide +kernel
theorem dX12_init_28 : decode cX12_init 28 = .ok (.putfield 16, 3) := by decide +kernel
theorem dX12_init_31 : decode cX12_init 31 = .ok (.aload_n 0, 1) := by decide +kernel
theorem dX12_init_32 : decode cX12_init 32 = .ok (.sipush 1184, 3) := by decide +kernel
theorem dX12_init_35 : decode cX12_init 35 = .ok (.newarray .int, 2) := by decide +kernel
theorem dX12_init_37 : decode cX12_init 37 = .ok (.putfield 19, 3) := by decide +kernel
theorem dX12_init_40 : decode cX12_init 40 = .ok (.aload_n 0, 1) := by decide +kernel
theorem dX12_init_41 : decode cX12_init 41 = .ok (.bipush 120, 2) := by decide +kernel
theorem dX12_init_43 : decode cX12_init 43 = .ok (.newarray .int, 2) := by decide +kernel
theorem dX12_init_45 : decode cX12_init 45 = .ok (.putfield 22, 3) := by decide +kernel
theorem dX12_init_48 : decode cX12_init 48 = .ok (.aload_n 0, 1) := by decide +kernel
theorem dX12_init_49 : decode cX12_init 49 = .ok (.bipush 26, 2) := by decide +kernel
theorem dX12_init_51 : decode cX12_init 51 = .ok (.newarray .long, 2) := by decide +kernel
theorem dX12_init_53 : decode cX12_init 53 = .ok (.putfield 25, 3) := by decide +kernel
theorem dX12_init_56 : decode cX12_init 56 = .ok (.aload_n 0, 1) := by decide +kernel
theorem dX12_init_57 : decode cX12_init 57 = .ok (.bipush 26, 2) := by decide +kernel
theorem dX12_init_59 : decode cX12_init 59 = .ok (.newarray .long, 2) := by decide +kernel
theorem dX12_init_61 : decode cX12_init 61 = .ok (.putfield 29, 3) := by decide +kernel
theorem dX12_init_64 : decode cX12_init 64 = .ok (.aload_n 0, 1) := by decide +kernel
theorem dX12_init_65 : decode cX12_init 65 = .ok (.bipush 52, 2) := by decide +kernel
theorem dX12_init_67 : decode cX12_init 67 = .ok (.newarray .long, 2) := by decide +kernel
theorem dX12_init_69 : decode cX12_init 69 = .ok (.putfield 32, 3) := by decide +kernel
theorem dX12_init_72 : decode cX12_init 72 = .ok (.aload_n 0, 1) := by decide +kernel
theorem dX12_init_73 : decode cX12_init 73 = .ok (.iconst 2, 1) := by decide +kernel
theorem dX12_init_74 : decode cX12_init 74 = .ok (.newarray .boolean, 2) := by decide +kernel
theorem dX12_init_76 : decode cX12_init 76 = .ok (.putfield 35, 3) := by decide +kernel
theorem dX12_init_79 : decode cX12_init 79 = .ok (.aload_n 0, 1) := by decide +kernel
theorem dX12_init_80 : decode cX12_init 80 = .ok (.sipush 168, 3) := by decide +kernel
theorem dX12_init_83 : decode cX12_init 83 = .ok (.newarray .int, 2) := by decide +kernel
theorem dX12_init_85 : decode cX12_init 85 = .ok (.putfield 39, 3) := by decide +kernel
theorem dX12_init_88 : decode cX12_init 88 = .ok (.aload_n 0, 1) := by decide +kernel
theorem dX12_init_89 : decode cX12_init 89 = .ok (.bipush 40, 2) := by decide +kernel
theorem dX12_init_91 : decode cX12_init 91 = .ok (.newarray .int, 2) := by decide +kernel
theorem dX12_init_93 : decode cX12_init 93 = .ok (.putfield 42, 3) := by decide +kernel
theorem dX12_init_96 : decode cX12_init 96 = .ok (.aload_n 0, 1) := by decide +kernel
theorem dX12_init_97 : decode cX12_init 97 = .ok (.bipush 40, 2) := by decide +kernel
theorem dX12_init_99 : decode cX12_init 99 = .ok (.newarray .int, 2) := by decide +kernel
theorem dX12_init_101 : decode cX12_init 101 = .ok (.putfield 45, 3) := by decide +kernel
theorem dX12_init_104 : decode cX12_init 104 = .ok (.aload_n 0, 1) := by decide +kernel
theorem dX12_init_105 : decode cX12_init 105 = .ok (.sipush 672, 3) := by decide +kernel
theorem dX12_init_108 : decode cX12_init 108 = .ok (.newarray .int, 2) := by decide +kernel
theorem dX12_init_110 : decode cX12_init 110 = .ok (.putfield 48, 3) := by decide +kernel
theorem dX12_init_113 : decode cX12_init 113 = .ok (.aload_n 0, 1) := by decide +kernel
theorem dX12_init_114 : decode cX12_init 114 = .ok (.iconst 4, 1) := by decide +kernel
theorem dX12_init_115 : decode cX12_init 115 = .ok (.newarray .int, 2) := by decide +kernel
theorem dX12_init_117 : decode cX12_init 117 = .ok (.putfield 51, 3) := by decide +kernel
theorem dX12_init_120 : decode cX12_init 120 = .ok (.aload_n 0, 1) := by decide +kernel
theorem dX12_init_121 : decode cX12_init 121 = .ok (.bipush 7, 2) := by decide +kernel
theorem dX12_init_123 : decode cX12_init 123 = .ok (.newarray .int, 2) := by decide +kernel
theorem dX12_init_125 : decode cX12_init 125 = .ok (.putfield 54, 3) := by decide +kernel
theorem dX12_init_128 : decode cX12_init 128 = .ok (.aload_n 0, 1) := by decide +kernel
theorem dX12_init_129 : decode cX12_init 129 = .ok (.sipush 6720, 3) := by decide +kernel
theorem dX12_init_132 : decode cX12_init 132 = .ok (.newarray .int, 2) := by decide +kernel
theorem dX12_init_134 : decode cX12_init 134 = .ok (.putfield 57, 3) := by decide +kernel
theorem dX12_init_137 : decode cX12_init 137 = .ok (.aload_n 0, 1) := by decide +kernel
theorem dX12_init_138 : decode cX12_init 138 = .ok (.sipush 6720, 3) := by decide +kernel
theorem dX12_init_141 : decode cX12_init 141 = .ok (.newarray .int, 2) := by decide +kernel
theorem dX12_init_143 : decode cX12_init 143 = .ok (.putfield 60, 3) := by decide +kernel
theorem dX12_init_146 : decode cX12_init 146 = .ok (.aload_n 0, 1) := by decide +kernel
theorem dX12_init_147 : decode cX12_init 147 = .ok (.iconst (-1), 1) := by decide +kernel
theorem dX12_init_148 : decode cX12_init 148 = .ok (.putfield 63, 3) := by decide +kernel
theorem dX12_init_151 : decode cX12_init 151 = .ok (.aload_n 0, 1) := by decide +kernel
theorem dX12_init_152 : decode cX12_init 152 = .ok (.sipush 168, 3) := by decide +kernel
theorem dX12_init_155 : decode cX12_init 155 = .ok (.newarray .boolean, 2) := by decide +kernel
theorem dX12_init_157 : decode cX12_init 157 = .ok (.putfield 67, 3) := by decide +kernel
theorem dX12_init_160 : decode cX12_init 160 = .ok (.aload_n 0, 1) := by decide +kernel
theorem dX12_init_161 : decode cX12_init 161 = .ok (.iconst 4, 1) := by decide +kernel
theorem dX12_init_162 : decode cX12_init 162 = .ok (.newarray .int, 2) := by decide +kernel
theorem dX12_init_164 : decode cX12_init 164 = .ok (.putfield 70, 3) := by decide +kernel
theorem dX12_init_167 : decode cX12_init 167 = .ok (.aload_n 0, 1) := by decide +kernel
theorem dX12_init_168 : decode cX12_init 168 = .ok (.iconst 4, 1) := by decide +kernel
theorem dX12_init_169 : decode cX12_init 169 = .ok (.newarray .int, 2) := by decide +kernel
theorem dX12_init_171 : decode cX12_init 171 = .ok (.putfield 73, 3) := by decide +kernel
theorem dX12_init_174 : decode cX12_init 174 = .ok (.aload_n 0, 1) := by decide +kernel
theorem dX12_init_175 : decode cX12_init 175 = .ok (.iconst 4, 1) := by decide +kernel
theorem dX12_init_176 : decode cX12_init 176 = .ok (.newarray .int, 2) := by decide +kernel
theorem dX12_init_178 : decode cX12_init 178 = .ok (.putfield 76, 3) := by decide +kernel
theorem dX12_init_181 : decode cX12_init 181 = .ok (.aload_n 0, 1) := by decide +kernel
theorem dX12_init_182 : decode cX12_init 182 = .ok (.iconst 4, 1) := by decide +kernel
theorem dX12_init_183 : decode cX12_init 183 = .ok (.newarray .int, 2) := by decide +kernel
theorem dX12_init_185 : decode cX12_init 185 = .ok (.putfield 79, 3) := by decide +kernel
theorem dX12_init_188 : decode cX12_init 188 = .ok (.aload_n 0, 1) := by decide +kernel
theorem dX12_init_189 : decode cX12_init 189 = .ok (.iconst 3, 1) := by decide +kernel
theorem dX12_init_190 : decode cX12_init 190 = .ok (.newarray .int, 2) := by decide +kernel
theorem dX12_init_192 : decode cX12_init 192 = .ok (.dup, 1) := by decide +kernel
theorem dX12_init_193 : decode cX12_init 193 = .ok (.iconst 0, 1) := by decide +kernel
theorem dX12_init_194 : decode cX12_init 194 = .ok (.iconst (-1), 1) := by decide +kernel
theorem dX12_init_195 : decode cX12_init 195 = .ok (.iastore, 1) := by decide +kernel
theorem dX12_init_196 : decode cX12_init 196 = .ok (.dup, 1) := by decide +kernel
theorem dX12_init_197 : decode cX12_init 197 = .ok (.iconst 1, 1) := by decide +kernel
theorem dX12_init_198 : decode cX12_init 198 = .ok (.iconst (-1), 1) := by decide +kernel
theorem dX12_init_199 : decode cX12_init 199 = .ok (.iastore, 1) := by decide +kernel
theorem dX12_init_200 : decode cX12_init 200 = .ok (.dup, 1) := by decide +kernel
theorem dX12_init_201 : decode cX12_init 201 = .ok (.iconst 2, 1) := by decide +kernel
theorem dX12_init_202 : decode cX12_init 202 = .ok (.iconst (-1), 1) := by decide +kernel
theorem dX12_init_203 : decode cX12_init 203 = .ok (.iastore, 1) := by decide +kernel
theorem dX12_init_204 : decode cX12_init 204 = .ok (.putfield 82, 3) := by decide +kernel
theorem dX12_init_207 : decode cX12_init 207 = .ok (.aload_n 0, 1) := by decide +kernel
theorem dX12_init_208 : decode cX12_init 208 = .ok (.sipush 168, 3) := by decide +kernel
theorem dX12_init_211 : decode cX12_init 211 = .ok (.newarray .int, 2) := by decide +kernel
theorem dX12_init_213 : decode cX12_init 213 = .ok (.putfield 85, 3) := by decide +kernel
theorem dX12_init_216 : decode cX12_init 216 = .ok (.aload_n 0, 1) := by decide +kernel
theorem dX12_init_217 : decode cX12_init 217 = .ok (.sipush 240, 3) := by decide +kernel
theorem dX12_init_220 : decode cX12_init 220 = .ok (.newarray .int, 2) := by decide +kernel
theorem dX12_init_222 : decode cX12_init 222 = .ok (.putfield 88, 3) := by decide +kernel
theorem dX12_init_225 : decode cX12_init 225 = .ok (.return_, 1) := by decide +kernel
theorem dX12_thrown_0 : decode cX12_thrown 0 = .ok (.aload_n 0, 1) := by decide +kernel
theorem dX12_thrown_1 : decode cX12_thrown 1 = .ok (.getfield 91, 3) := by decide +kernel
theorem dX12_thrown_4 : decode cX12_thrown 4 = .ok (.ireturn, 1) := by decide +kernel
theorem dX12_refuse_0 : decode cX12_refuse 0 = .ok (.aload_n 0, 1) := by decide +kernel
theorem dX12_refuse_1 : decode cX12_refuse 1 = .ok (.iconst 1, 1) := by decide +kernel
theorem dX12_refuse_2 : decode cX12_refuse 2 = .ok (.putfield 91, 3) := by decide +kernel
theorem dX12_refuse_5 : decode cX12_refuse 5 = .ok (.iconst 0, 1) := by decide +kernel
theorem dX12_refuse_6 : decode cX12_refuse 6 = .ok (.ireturn, 1) := by decide +kernel
theorem dX12_come_0 : decode cX12_come 0 = .ok (.bipush 24, 2) := by decide +kernel
theorem dX12_come_2 : decode cX12_come 2 = .ok (.istore_n 2, 1) := by decide +kernel
theorem dX12_come_3 : decode cX12_come 3 = .ok (.iload_n 2, 1) := by decide +kernel
theorem dX12_come_4 : decode cX12_come 4 = .ok (.ifCond .lt 35, 3) := by decide +kernel
theorem dX12_come_7 : decode cX12_come 7 = .ok (.aload_n 0, 1) := by decide +kernel
theorem dX12_come_8 : decode cX12_come 8 = .ok (.getfield 7, 3) := by decide +kernel
theorem dX12_come_11 : decode cX12_come 11 = .ok (.aload_n 0, 1) := by decide +kernel
theorem dX12_come_12 : decode cX12_come 12 = .ok (.getfield 94, 3) := by decide +kernel
theorem dX12_come_15 : decode cX12_come 15 = .ok (.iload_n 1, 1) := by decide +kernel
theorem dX12_come_16 : decode cX12_come 16 = .ok (.iload_n 2, 1) := by decide +kernel
theorem dX12_come_17 : decode cX12_come 17 = .ok (.iushr, 1) := by decide +kernel
theorem dX12_come_18 : decode cX12_come 18 = .ok (.sipush 255, 3) := by decide +kernel
theorem dX12_come_21 : decode cX12_come 21 = .ok (.iand, 1) := by decide +kernel
theorem dX12_come_22 : decode cX12_come 22 = .ok (.iastore, 1) := by decide +kernel
theorem dX12_come_23 : decode cX12_come 23 = .ok (.aload_n 0, 1) := by decide +kernel
theorem dX12_come_24 : decode cX12_come 24 = .ok (.dup, 1) := by decide +kernel
theorem dX12_come_25 : decode cX12_come 25 = .ok (.getfield 94, 3) := by decide +kernel
theorem dX12_come_28 : decode cX12_come 28 = .ok (.iconst 1, 1) := by decide +kernel
theorem dX12_come_29 : decode cX12_come 29 = .ok (.iadd, 1) := by decide +kernel
theorem dX12_come_30 : decode cX12_come 30 = .ok (.putfield 94, 3) := by decide +kernel
theorem dX12_come_33 : decode cX12_come 33 = .ok (.iinc 2 (-8), 3) := by decide +kernel
theorem dX12_come_36 : decode cX12_come 36 = .ok (.goto (-33), 3) := by decide +kernel
theorem dX12_come_39 : decode cX12_come 39 = .ok (.return_, 1) := by decide +kernel
theorem dX12_feed_0 : decode cX12_feed 0 = .ok (.aload_n 0, 1) := by decide +kernel
theorem dX12_feed_1 : decode cX12_feed 1 = .ok (.iconst 0, 1) := by decide +kernel
theorem dX12_feed_2 : decode cX12_feed 2 = .ok (.putfield 91, 3) := by decide +kernel
theorem dX12_feed_5 : decode cX12_feed 5 = .ok (.aload_n 0, 1) := by decide +kernel
theorem dX12_feed_6 : decode cX12_feed 6 = .ok (.getfield 94, 3) := by decide +kernel
theorem dX12_feed_9 : decode cX12_feed 9 = .ok (.bipush 20, 2) := by decide +kernel
theorem dX12_feed_11 : decode cX12_feed 11 = .ok (.iadd, 1) := by decide +kernel
theorem dX12_feed_12 : decode cX12_feed 12 = .ok (.sipush 940, 3) := by decide +kernel
theorem dX12_feed_15 : decode cX12_feed 15 = .ok (.if_icmp .le 5, 3) := by decide +kernel
theorem dX12_feed_18 : decode cX12_feed 18 = .ok (.iconst (-1), 1) := by decide +kernel
theorem dX12_feed_19 : decode cX12_feed 19 = .ok (.ireturn, 1) := by decide +kernel
theorem dX12_feed_20 : decode cX12_feed 20 = .ok (.aload_n 0, 1) := by decide +kernel
theorem dX12_feed_21 : decode cX12_feed 21 = .ok (.iload_n 1, 1) := by decide +kernel
theorem dX12_feed_22 : decode cX12_feed 22 = .ok (.invokevirtual 97, 3) := by decide +kernel
theorem dX12_feed_25 : decode cX12_feed 25 = .ok (.aload_n 0, 1) := by decide +kernel
theorem dX12_feed_26 : decode cX12_feed 26 = .ok (.iload_n 2, 1) := by decide +kernel
theorem dX12_feed_27 : decode cX12_feed 27 = .ok (.invokevirtual 97, 3) := by decide +kernel
theorem dX12_feed_30 : decode cX12_feed 30 = .ok (.aload_n 0, 1) := by decide +kernel
theorem dX12_feed_31 : decode cX12_feed 31 = .ok (.iload_n 3, 1) := by decide +kernel
theorem dX12_feed_32 : decode cX12_feed 32 = .ok (.invokevirtual 97, 3) := by decide +kernel
theorem dX12_feed_35 : decode cX12_feed 35 = .ok (.aload_n 0, 1) := by decide +kernel
theorem dX12_feed_36 : decode cX12_feed 36 = .ok (.iload 4, 2) := by decide +kernel
theorem dX12_feed_38 : decode cX12_feed 38 = .ok (.invokevirtual 97, 3) := by decide +kernel
theorem dX12_feed_41 : decode cX12_feed 41 = .ok (.aload_n 0, 1) := by decide +kernel
theorem dX12_feed_42 : decode cX12_feed 42 = .ok (.iload 5, 2) := by decide +kernel
theorem dX12_feed_44 : decode cX12_feed 44 = .ok (.invokevirtual 97, 3) := by decide +kernel
theorem dX12_feed_47 : decode cX12_feed 47 = .ok (.aload_n 0, 1) := by decide +kernel
theorem dX12_feed_48 : decode cX12_feed 48 = .ok (.getfield 94, 3) := by decide +kernel
theorem dX12_feed_51 : decode cX12_feed 51 = .ok (.ireturn, 1) := by decide +kernel
theorem dX12_end_0 : decode cX12_end 0 = .ok (.aload_n 0, 1) := by decide +kernel
theorem dX12_end_1 : decode cX12_end 1 = .ok (.iconst 0, 1) := by decide +kernel
theorem dX12_end_2 : decode cX12_end 2 = .ok (.putfield 91, 3) := by decide +kernel
theorem dX12_end_5 : decode cX12_end 5 = .ok (.iload_n 1, 1) := by decide +kernel
theorem dX12_end_6 : decode cX12_end 6 = .ok (.ifCond .lt 11, 3) := by decide +kernel
theorem dX12_end_9 : decode cX12_end 9 = .ok (.iload_n 1, 1) := by decide +kernel
theorem dX12_end_10 : decode cX12_end 10 = .ok (.aload_n 0, 1) := by decide +kernel
theorem dX12_end_11 : decode cX12_end 11 = .ok (.getfield 94, 3) := by decide +kernel
theorem dX12_end_14 : decode cX12_end 14 = .ok (.if_icmp .le 5, 3) := by decide +kernel
theorem dX12_end_17 : decode cX12_end 17 = .ok (.iconst 0, 1) := by decide +kernel
theorem dX12_end_18 : decode cX12_end 18 = .ok (.ireturn, 1) := by decide +kernel
theorem dX12_end_19 : decode cX12_end 19 = .ok (.aload_n 0, 1) := by decide +kernel
theorem dX12_end_20 : decode cX12_end 20 = .ok (.iload_n 1, 1) := by decide +kernel
theorem dX12_end_21 : decode cX12_end 21 = .ok (.putfield 94, 3) := by decide +kernel
theorem dX12_end_24 : decode cX12_end 24 = .ok (.iconst 1, 1) := by decide +kernel
theorem dX12_end_25 : decode cX12_end 25 = .ok (.ireturn, 1) := by decide +kernel
theorem dX12_take_0 : decode cX12_take 0 = .ok (.aload_n 0, 1) := by decide +kernel
theorem dX12_take_1 : decode cX12_take 1 = .ok (.getfield 94, 3) := by decide +kernel
theorem dX12_take_4 : decode cX12_take 4 = .ok (.istore_n 1, 1) := by decide +kernel
theorem dX12_take_5 : decode cX12_take 5 = .ok (.aload_n 0, 1) := by decide +kernel
theorem dX12_take_6 : decode cX12_take 6 = .ok (.iconst 0, 1) := by decide +kernel
theorem dX12_take_7 : decode cX12_take 7 = .ok (.putfield 94, 3) := by decide +kernel
theorem dX12_take_10 : decode cX12_take 10 = .ok (.iload_n 1, 1) := by decide +kernel
theorem dX12_take_11 : decode cX12_take 11 = .ok (.ireturn, 1) := by decide +kernel
theorem dX12_isIn_0 : decode cX12_isIn 0 = .ok (.iload_n 0, 1) := by decide +kernel
theorem dX12_isIn_1 : decode cX12_isIn 1 = .ok (.iload_n 1, 1) := by decide +kernel
theorem dX12_isIn_2 : decode cX12_isIn 2 = .ok (.if_icmp .lt 12, 3) := by decide +kernel
theorem dX12_isIn_5 : decode cX12_isIn 5 = .ok (.iload_n 0, 1) := by decide +kernel
theorem dX12_isIn_6 : decode cX12_isIn 6 = .ok (.iload_n 2, 1) := by decide +kernel
theorem dX12_isIn_7 : decode cX12_isIn 7 = .ok (.if_icmp .gt 7, 3) := by decide +kernel
theorem dX12_isIn_10 : decode cX12_isIn 10 = .ok (.iconst 1, 1) := by decide +kernel
theorem dX12_isIn_11 : decode cX12_isIn 11 = .ok (.goto 4, 3) := by decide +kernel
theorem dX12_isIn_14 : decode cX12_isIn 14 = .ok (.iconst 0, 1) := by decide +kernel
theorem dX12_isIn_15 : decode cX12_isIn 15 = .ok (.ireturn, 1) := by decide +kernel
theorem dX12_has_0 : decode cX12_has 0 = .ok (.iload_n 0, 1) := by decide +kernel
theorem dX12_has_1 : decode cX12_has 1 = .ok (.iload_n 1, 1) := by decide +kernel
theorem dX12_has_2 : decode cX12_has 2 = .ok (.ishr, 1) := by decide +kernel
theorem dX12_has_3 : decode cX12_has 3 = .ok (.iconst 1, 1) := by decide +kernel
theorem dX12_has_4 : decode cX12_has 4 = .ok (.iand, 1) := by decide +kernel
theorem dX12_has_5 : decode cX12_has 5 = .ok (.iconst 1, 1) := by decide +kernel
theorem dX12_has_6 : decode cX12_has 6 = .ok (.if_icmp .ne 7, 3) := by decide +kernel
theorem dX12_has_9 : decode cX12_has 9 = .ok (.iconst 1, 1) := by decide +kernel
theorem dX12_has_10 : decode cX12_has 10 = .ok (.goto 4, 3) := by decide +kernel
theorem dX12_has_13 : decode cX12_has 13 = .ok (.iconst 0, 1) := by decide +kernel
theorem dX12_has_14 : decode cX12_has 14 = .ok (.ireturn, 1) := by decide +kernel
theorem dX12_byteAt_0 : decode cX12_byteAt 0 = .ok (.iload_n 1, 1) := by decide +kernel
theorem dX12_byteAt_1 : decode cX12_byteAt 1 = .ok (.aload_n 0, 1) := by decide +kernel
theorem dX12_byteAt_2 : decode cX12_byteAt 2 = .ok (.getfield 101, 3) := by decide +kernel
theorem dX12_byteAt_5 : decode cX12_byteAt 5 = .ok (.if_icmp .ge 12, 3) := by decide +kernel
theorem dX12_byteAt_8 : decode cX12_byteAt 8 = .ok (.aload_n 0, 1) := by decide +kernel
theorem dX12_byteAt_9 : decode cX12_byteAt 9 = .ok (.getfield 7, 3) := by decide +kernel
theorem dX12_byteAt_12 : decode cX12_byteAt 12 = .ok (.iload_n 1, 1) := by decide +kernel
theorem dX12_byteAt_13 : decode cX12_byteAt 13 = .ok (.iaload, 1) := by decide +kernel
theorem dX12_byteAt_14 : decode cX12_byteAt 14 = .ok (.goto 4, 3) := by decide +kernel
theorem dX12_byteAt_17 : decode cX12_byteAt 17 = .ok (.iconst 0, 1) := by decide +kernel
theorem dX12_byteAt_18 : decode cX12_byteAt 18 = .ok (.ireturn, 1) := by decide +kernel
theorem dX12_isDigit_0 : decode cX12_isDigit 0 = .ok (.iload_n 0, 1) := by decide +kernel
theorem dX12_isDigit_1 : decode cX12_isDigit 1 = .ok (.bipush 48, 2) := by decide +kernel
theorem dX12_isDigit_3 : decode cX12_isDigit 3 = .ok (.if_icmp .lt 13, 3) := by decide +kernel
theorem dX12_isDigit_6 : decode cX12_isDigit 6 = .ok (.iload_n 0, 1) := by decide +kernel
theorem dX12_isDigit_7 : decode cX12_isDigit 7 = .ok (.bipush 57, 2) := by decide +kernel
theorem dX12_isDigit_9 : decode cX12_isDigit 9 = .ok (.if_icmp .gt 7, 3) := by decide +kernel
theorem dX12_isDigit_12 : decode cX12_isDigit 12 = .ok (.iconst 1, 1) := by decide +kernel
theorem dX12_isDigit_13 : decode cX12_isDigit 13 = .ok (.goto 4, 3) := by decide +kernel
theorem dX12_isDigit_16 : decode cX12_isDigit 16 = .ok (.iconst 0, 1) := by decide +kernel
theorem dX12_isDigit_17 : decode cX12_isDigit 17 = .ok (.ireturn, 1) := by decide +kernel
theorem dX12_isLetter_0 : decode cX12_isLetter 0 = .ok (.iload_n 0, 1) := by decide +kernel
theorem dX12_isLetter_1 : decode cX12_isLetter 1 = .ok (.bipush 97, 2) := by decide +kernel
theorem dX12_isLetter_3 : decode cX12_isLetter 3 = .ok (.if_icmp .lt 13, 3) := by decide +kernel
theorem dX12_isLetter_6 : decode cX12_isLetter 6 = .ok (.iload_n 0, 1) := by decide +kernel
theorem dX12_isLetter_7 : decode cX12_isLetter 7 = .ok (.bipush 122, 2) := by decide +kernel
theorem dX12_isLetter_9 : decode cX12_isLetter 9 = .ok (.if_icmp .gt 7, 3) := by decide +kernel
theorem dX12_isLetter_12 : decode cX12_isLetter 12 = .ok (.iconst 1, 1) := by decide +kernel
theorem dX12_isLetter_13 : decode cX12_isLetter 13 = .ok (.goto 4, 3) := by decide +kernel
theorem dX12_isLetter_16 : decode cX12_isLetter 16 = .ok (.iconst 0, 1) := by decide +kernel
theorem dX12_isLetter_17 : decode cX12_isLetter 17 = .ok (.ireturn, 1) := by decide +kernel
theorem dX12_go_0 : decode cX12_go 0 = .ok (.aload_n 0, 1) := by decide +kernel
theorem dX12_go_1 : decode cX12_go 1 = .ok (.getfield 104, 3) := by decide +kernel
theorem dX12_go_4 : decode cX12_go 4 = .ok (.aload_n 0, 1) := by decide +kernel
theorem dX12_go_5 : decode cX12_go 5 = .ok (.getfield 101, 3) := by decide +kernel
theorem dX12_go_8 : decode cX12_go 8 = .ok (.if_icmp .ge 44, 3) := by decide +kernel
theorem dX12_go_11 : decode cX12_go 11 = .ok (.aload_n 0, 1) := by decide +kernel
theorem dX12_go_12 : decode cX12_go 12 = .ok (.getfield 7, 3) := by decide +kernel
theorem dX12_go_15 : decode cX12_go 15 = .ok (.aload_n 0, 1) := by decide +kernel
theorem dX12_go_16 : decode cX12_go 16 = .ok (.getfield 104, 3) := by decide +kernel
theorem dX12_go_19 : decode cX12_go 19 = .ok (.iaload, 1) := by decide +kernel
theorem dX12_go_20 : decode cX12_go 20 = .ok (.bipush 32, 2) := by decide +kernel
theorem dX12_go_22 : decode cX12_go 22 = .ok (.if_icmp .eq 17, 3) := by decide +kernel
theorem dX12_go_25 : decode cX12_go 25 = .ok (.aload_n 0, 1) := by decide +kernel
theorem dX12_go_26 : decode cX12_go 26 = .ok (.getfield 7, 3) := by decide +kernel
theorem dX12_go_29 : decode cX12_go 29 = .ok (.aload_n 0, 1) := by decide +kernel
theorem dX12_go_30 : decode cX12_go 30 = .ok (.getfield 104, 3) := by decide +kernel
theorem dX12_go_33 : decode cX12_go 33 = .ok (.iaload, 1) := by decide +kernel
theorem dX12_go_34 : decode cX12_go 34 = .ok (.bipush 10, 2) := by decide +kernel
theorem dX12_go_36 : decode cX12_go 36 = .ok (.if_icmp .ne 16, 3) := by decide +kernel
theorem dX12_go_39 : decode cX12_go 39 = .ok (.aload_n 0, 1) := by decide +kernel
theorem dX12_go_40 : decode cX12_go 40 = .ok (.dup, 1) := by decide +kernel
theorem dX12_go_41 : decode cX12_go 41 = .ok (.getfield 104, 3) := by decide +kernel
theorem dX12_go_44 : decode cX12_go 44 = .ok (.iconst 1, 1) := by decide +kernel
theorem dX12_go_45 : decode cX12_go 45 = .ok (.iadd, 1) := by decide +kernel
theorem dX12_go_46 : decode cX12_go 46 = .ok (.putfield 104, 3) := by decide +kernel
theorem dX12_go_49 : decode cX12_go 49 = .ok (.goto (-49), 3) := by decide +kernel
theorem dX12_go_52 : decode cX12_go 52 = .ok (.aload_n 0, 1) := by decide +kernel
theorem dX12_go_53 : decode cX12_go 53 = .ok (.aload_n 0, 1) := by decide +kernel
theorem dX12_go_54 : decode cX12_go 54 = .ok (.getfield 104, 3) := by decide +kernel
theorem dX12_go_57 : decode cX12_go 57 = .ok (.putfield 107, 3) := by decide +kernel
theorem dX12_go_60 : decode cX12_go 60 = .ok (.aload_n 0, 1) := by decide +kernel
theorem dX12_go_61 : decode cX12_go 61 = .ok (.getfield 101, 3) := by decide +kernel
theorem dX12_go_64 : decode cX12_go 64 = .ok (.aload_n 0, 1) := by decide +kernel
theorem dX12_go_65 : decode cX12_go 65 = .ok (.getfield 110, 3) := by decide +kernel
theorem dX12_go_68 : decode cX12_go 68 = .ok (.if_icmp .le 28, 3) := by decide +kernel
theorem dX12_go_71 : decode cX12_go 71 = .ok (.aload_n 0, 1) := by decide +kernel
theorem dX12_go_72 : decode cX12_go 72 = .ok (.getfield 107, 3) := by decide +kernel
theorem dX12_go_75 : decode cX12_go 75 = .ok (.aload_n 0, 1) := by decide +kernel
theorem dX12_go_76 : decode cX12_go 76 = .ok (.getfield 110, 3) := by decide +kernel
theorem dX12_go_79 : decode cX12_go 79 = .ok (.if_icmp .lt 17, 3) := by decide +kernel
theorem dX12_go_82 : decode cX12_go 82 = .ok (.aload_n 0, 1) := by decide +kernel
theorem dX12_go_83 : decode cX12_go 83 = .ok (.aload_n 0, 1) := by decide +kernel
theorem dX12_go_84 : decode cX12_go 84 = .ok (.getfield 110, 3) := by decide +kernel
theorem dX12_go_87 : decode cX12_go 87 = .ok (.putfield 107, 3) := by decide +kernel
theorem dX12_go_90 : decode cX12_go 90 = .ok (.aload_n 0, 1) := by decide +kernel
theorem dX12_go_91 : decode cX12_go 91 = .ok (.iconst 1, 1) := by decide +kernel
theorem dX12_go_92 : decode cX12_go 92 = .ok (.putfield 113, 3) := by decide +kernel
theorem dX12_go_95 : decode cX12_go 95 = .ok (.return_, 1) := by decide +kernel
theorem dX12_go_96 : decode cX12_go 96 = .ok (.aload_n 0, 1) := by decide +kernel
theorem dX12_go_97 : decode cX12_go 97 = .ok (.getfield 104, 3) := by decide +kernel
theorem dX12_go_100 : decode cX12_go 100 = .ok (.aload_n 0, 1) := by decide +kernel
theorem dX12_go_101 : decode cX12_go 101 = .ok (.getfield 101, 3) := by decide +kernel
theorem dX12_go_104 : decode cX12_go 104 = .ok (.if_icmp .lt 9, 3) := by decide +kernel
theorem dX12_go_107 : decode cX12_go 107 = .ok (.aload_n 0, 1) := by decide +kernel
theorem dX12_go_108 : decode cX12_go 108 = .ok (.iconst 0, 1) := by decide +kernel
theorem dX12_go_109 : decode cX12_go 109 = .ok (.putfield 113, 3) := by decide +kernel
theorem dX12_go_112 : decode cX12_go 112 = .ok (.return_, 1) := by decide +kernel
theorem dX12_go_113 : decode cX12_go 113 = .ok (.aload_n 0, 1) := by decide +kernel
theorem dX12_go_114 : decode cX12_go 114 = .ok (.getfield 7, 3) := by decide +kernel
theorem dX12_go_117 : decode cX12_go 117 = .ok (.aload_n 0, 1) := by decide +kernel
theorem dX12_go_118 : decode cX12_go 118 = .ok (.getfield 104, 3) := by decide +kernel
theorem dX12_go_121 : decode cX12_go 121 = .ok (.iaload, 1) := by decide +kernel
theorem dX12_go_122 : decode cX12_go 122 = .ok (.istore_n 1, 1) := by decide +kernel
theorem dX12_go_123 : decode cX12_go 123 = .ok (.iload_n 1, 1) := by decide +kernel
theorem dX12_go_124 : decode cX12_go 124 = .ok (.invokestatic 116, 3) := by decide +kernel
theorem dX12_go_127 : decode cX12_go 127 = .ok (.ifCond .ne 71, 3) := by decide +kernel
theorem dX12_go_130 : decode cX12_go 130 = .ok (.iload_n 1, 1) := by decide +kernel
theorem dX12_go_131 : decode cX12_go 131 = .ok (.invokestatic 120, 3) := by decide +kernel
theorem dX12_go_134 : decode cX12_go 134 = .ok (.ifCond .ne 64, 3) := by decide +kernel
theorem dX12_go_137 : decode cX12_go 137 = .ok (.aload_n 0, 1) := by decide +kernel
theorem dX12_go_138 : decode cX12_go 138 = .ok (.iload_n 1, 1) := by decide +kernel
theorem dX12_go_139 : decode cX12_go 139 = .ok (.bipush 59, 2) := by decide +kernel
theorem dX12_go_141 : decode cX12_go 141 = .ok (.if_icmp .eq 33, 3) := by decide +kernel
theorem dX12_go_144 : decode cX12_go 144 = .ok (.iload_n 1, 1) := by decide +kernel
theorem dX12_go_145 : decode cX12_go 145 = .ok (.bipush 60, 2) := by decide +kernel
theorem dX12_go_147 : decode cX12_go 147 = .ok (.if_icmp .eq 27, 3) := by decide +kernel
theorem dX12_go_150 : decode cX12_go 150 = .ok (.iload_n 1, 1) := by decide +kernel
theorem dX12_go_151 : decode cX12_go 151 = .ok (.bipush 61, 2) := by decide +kernel
theorem dX12_go_153 : decode cX12_go 153 = .ok (.if_icmp .eq 21, 3) := by decide +kernel
theorem dX12_go_156 : decode cX12_go 156 = .ok (.iload_n 1, 1) := by decide +kernel
theorem dX12_go_157 : decode cX12_go 157 = .ok (.bipush 62, 2) := by decide +kernel
theorem dX12_go_159 : decode cX12_go 159 = .ok (.if_icmp .eq 15, 3) := by decide +kernel
theorem dX12_go_162 : decode cX12_go 162 = .ok (.iload_n 1, 1) := by decide +kernel
