theorem dX0_init_0 : decode cX0_init 0 = .ok (.aload_n 0, 1) := by decide +kernel
theorem dX0_init_1 : decode cX0_init 1 = .ok (.invokespecial 3, 3) := by decide +kernel
theorem dX0_init_4 : decode cX0_init 4 = .ok (.aload_n 0, 1) := by decide +kernel
theorem dX0_init_5 : decode cX0_init 5 = .ok (.bipush 26, 2) := by decide +kernel
theorem dX0_init_7 : decode cX0_init 7 = .ok (.newarray .long, 2) := by decide +kernel
theorem dX0_init_9 : decode cX0_init 9 = .ok (.putfield 11, 3) := by decide +kernel
theorem dX0_init_12 : decode cX0_init 12 = .ok (.aload_n 0, 1) := by decide +kernel
theorem dX0_init_13 : decode cX0_init 13 = .ok (.bipush 26, 2) := by decide +kernel
theorem dX0_init_15 : decode cX0_init 15 = .ok (.newarray .int, 2) := by decide +kernel
theorem dX0_init_17 : decode cX0_init 17 = .ok (.putfield 15, 3) := by decide +kernel
theorem dX0_init_20 : decode cX0_init 20 = .ok (.aload_n 0, 1) := by decide +kernel
theorem dX0_init_21 : decode cX0_init 21 = .ok (.bipush 26, 2) := by decide +kernel
theorem dX0_init_23 : decode cX0_init 23 = .ok (.newarray .int, 2) := by decide +kernel
theorem dX0_init_25 : decode cX0_init 25 = .ok (.putfield 19, 3) := by decide +kernel
theorem dX0_init_28 : decode cX0_init 28 = .ok (.return_, 1) := by decide +kernel
theorem dX0_copyFrom_0 : decode cX0_copyFrom 0 = .ok (.aload_n 0, 1) := by decide +kernel
theorem dX0_copyFrom_1 : decode cX0_copyFrom 1 = .ok (.aload_n 1, 1) := by decide +kernel
theorem dX0_copyFrom_2 : decode cX0_copyFrom 2 = .ok (.getfield 22, 3) := by decide +kernel
theorem dX0_copyFrom_5 : decode cX0_copyFrom 5 = .ok (.putfield 22, 3) := by decide +kernel
theorem dX0_copyFrom_8 : decode cX0_copyFrom 8 = .ok (.aload_n 1, 1) := by decide +kernel
theorem dX0_copyFrom_9 : decode cX0_copyFrom 9 = .ok (.getfield 11, 3) := by decide +kernel
theorem dX0_copyFrom_12 : decode cX0_copyFrom 12 = .ok (.iconst 0, 1) := by decide +kernel
theorem dX0_copyFrom_13 : decode cX0_copyFrom 13 = .ok (.aload_n 0, 1) := by decide +kernel
theorem dX0_copyFrom_14 : decode cX0_copyFrom 14 = .ok (.getfield 11, 3) := by decide +kernel
theorem dX0_copyFrom_17 : decode cX0_copyFrom 17 = .ok (.iconst 0, 1) := by decide +kernel
theorem dX0_copyFrom_18 : decode cX0_copyFrom 18 = .ok (.bipush 26, 2) := by decide +kernel
theorem dX0_copyFrom_20 : decode cX0_copyFrom 20 = .ok (.invokestatic 26, 3) := by decide +kernel
theorem dX0_copyFrom_23 : decode cX0_copyFrom 23 = .ok (.aload_n 1, 1) := by decide +kernel
theorem dX0_copyFrom_24 : decode cX0_copyFrom 24 = .ok (.getfield 15, 3) := by decide +kernel
theorem dX0_copyFrom_27 : decode cX0_copyFrom 27 = .ok (.iconst 0, 1) := by decide +kernel
theorem dX0_copyFrom_28 : decode cX0_copyFrom 28 = .ok (.aload_n 0, 1) := by decide +kernel
theorem dX0_copyFrom_29 : decode cX0_copyFrom 29 = .ok (.getfield 15, 3) := by decide +kernel
theorem dX0_copyFrom_32 : decode cX0_copyFrom 32 = .ok (.iconst 0, 1) := by decide +kernel
theorem dX0_copyFrom_33 : decode cX0_copyFrom 33 = .ok (.bipush 26, 2) := by decide +kernel
theorem dX0_copyFrom_35 : decode cX0_copyFrom 35 = .ok (.invokestatic 26, 3) := by decide +kernel
theorem dX0_copyFrom_38 : decode cX0_copyFrom 38 = .ok (.aload_n 1, 1) := by decide +kernel
theorem dX0_copyFrom_39 : decode cX0_copyFrom 39 = .ok (.getfield 19, 3) := by decide +kernel
theorem dX0_copyFrom_42 : decode cX0_copyFrom 42 = .ok (.iconst 0, 1) := by decide +kernel
theorem dX0_copyFrom_43 : decode cX0_copyFrom 43 = .ok (.aload_n 0, 1) := by decide +kernel
theorem dX0_copyFrom_44 : decode cX0_copyFrom 44 = .ok (.getfield 19, 3) := by decide +kernel
theorem dX0_copyFrom_47 : decode cX0_copyFrom 47 = .ok (.iconst 0, 1) := by decide +kernel
theorem dX0_copyFrom_48 : decode cX0_copyFrom 48 = .ok (.bipush 26, 2) := by decide +kernel
theorem dX0_copyFrom_50 : decode cX0_copyFrom 50 = .ok (.invokestatic 26, 3) := by decide +kernel
theorem dX0_copyFrom_53 : decode cX0_copyFrom 53 = .ok (.return_, 1) := by decide +kernel
theorem dX0_takeNew_0 : decode cX0_takeNew 0 = .ok (.aload_n 1, 1) := by decide +kernel
theorem dX0_takeNew_1 : decode cX0_takeNew 1 = .ok (.invokevirtual 32, 3) := by decide +kernel
theorem dX0_takeNew_4 : decode cX0_takeNew 4 = .ok (.ifCond .ne 11, 3) := by decide +kernel
theorem dX0_takeNew_7 : decode cX0_takeNew 7 = .ok (.aload_n 1, 1) := by decide +kernel
theorem dX0_takeNew_8 : decode cX0_takeNew 8 = .ok (.iconst 1, 1) := by decide +kernel
theorem dX0_takeNew_9 : decode cX0_takeNew 9 = .ok (.invokevirtual 38, 3) := by decide +kernel
theorem dX0_takeNew_12 : decode cX0_takeNew 12 = .ok (.goto 79, 3) := by decide +kernel
theorem dX0_takeNew_15 : decode cX0_takeNew 15 = .ok (.aload_n 0, 1) := by decide +kernel
theorem dX0_takeNew_16 : decode cX0_takeNew 16 = .ok (.aload_n 1, 1) := by decide +kernel
theorem dX0_takeNew_17 : decode cX0_takeNew 17 = .ok (.getfield 42, 3) := by decide +kernel
theorem dX0_takeNew_20 : decode cX0_takeNew 20 = .ok (.invokevirtual 45, 3) := by decide +kernel
theorem dX0_takeNew_23 : decode cX0_takeNew 23 = .ok (.iconst (-1), 1) := by decide +kernel
theorem dX0_takeNew_24 : decode cX0_takeNew 24 = .ok (.if_icmp .ne 12, 3) := by decide +kernel
theorem dX0_takeNew_27 : decode cX0_takeNew 27 = .ok (.aload_n 0, 1) := by decide +kernel
theorem dX0_takeNew_28 : decode cX0_takeNew 28 = .ok (.getfield 22, 3) := by decide +kernel
theorem dX0_takeNew_31 : decode cX0_takeNew 31 = .ok (.bipush 26, 2) := by decide +kernel
theorem dX0_takeNew_33 : decode cX0_takeNew 33 = .ok (.if_icmp .lt 11, 3) := by decide +kernel
theorem dX0_takeNew_36 : decode cX0_takeNew 36 = .ok (.aload_n 1, 1) := by decide +kernel
theorem dX0_takeNew_37 : decode cX0_takeNew 37 = .ok (.iconst 3, 1) := by decide +kernel
theorem dX0_takeNew_38 : decode cX0_takeNew 38 = .ok (.invokevirtual 38, 3) := by decide +kernel
theorem dX0_takeNew_41 : decode cX0_takeNew 41 = .ok (.goto 50, 3) := by decide +kernel
theorem dX0_takeNew_44 : decode cX0_takeNew 44 = .ok (.aload_n 0, 1) := by decide +kernel
theorem dX0_takeNew_45 : decode cX0_takeNew 45 = .ok (.getfield 11, 3) := by decide +kernel
theorem dX0_takeNew_48 : decode cX0_takeNew 48 = .ok (.aload_n 0, 1) := by decide +kernel
theorem dX0_takeNew_49 : decode cX0_takeNew 49 = .ok (.getfield 22, 3) := by decide +kernel
theorem dX0_takeNew_52 : decode cX0_takeNew 52 = .ok (.aload_n 1, 1) := by decide +kernel
theorem dX0_takeNew_53 : decode cX0_takeNew 53 = .ok (.getfield 42, 3) := by decide +kernel
theorem dX0_takeNew_56 : decode cX0_takeNew 56 = .ok (.lastore, 1) := by decide +kernel
theorem dX0_takeNew_57 : decode cX0_takeNew 57 = .ok (.aload_n 0, 1) := by decide +kernel
theorem dX0_takeNew_58 : decode cX0_takeNew 58 = .ok (.getfield 15, 3) := by decide +kernel
theorem dX0_takeNew_61 : decode cX0_takeNew 61 = .ok (.aload_n 0, 1) := by decide +kernel
theorem dX0_takeNew_62 : decode cX0_takeNew 62 = .ok (.getfield 22, 3) := by decide +kernel
theorem dX0_takeNew_65 : decode cX0_takeNew 65 = .ok (.iload_n 2, 1) := by decide +kernel
theorem dX0_takeNew_66 : decode cX0_takeNew 66 = .ok (.iastore, 1) := by decide +kernel
theorem dX0_takeNew_67 : decode cX0_takeNew 67 = .ok (.aload_n 0, 1) := by decide +kernel
theorem dX0_takeNew_68 : decode cX0_takeNew 68 = .ok (.getfield 19, 3) := by decide +kernel
theorem dX0_takeNew_71 : decode cX0_takeNew 71 = .ok (.aload_n 0, 1) := by decide +kernel
theorem dX0_takeNew_72 : decode cX0_takeNew 72 = .ok (.getfield 22, 3) := by decide +kernel
theorem dX0_takeNew_75 : decode cX0_takeNew 75 = .ok (.iload_n 3, 1) := by decide +kernel
theorem dX0_takeNew_76 : decode cX0_takeNew 76 = .ok (.iastore, 1) := by decide +kernel
theorem dX0_takeNew_77 : decode cX0_takeNew 77 = .ok (.aload_n 0, 1) := by decide +kernel
theorem dX0_takeNew_78 : decode cX0_takeNew 78 = .ok (.dup, 1) := by decide +kernel
theorem dX0_takeNew_79 : decode cX0_takeNew 79 = .ok (.getfield 22, 3) := by decide +kernel
theorem dX0_takeNew_82 : decode cX0_takeNew 82 = .ok (.iconst 1, 1) := by decide +kernel
theorem dX0_takeNew_83 : decode cX0_takeNew 83 = .ok (.iadd, 1) := by decide +kernel
theorem dX0_takeNew_84 : decode cX0_takeNew 84 = .ok (.putfield 22, 3) := by decide +kernel
theorem dX0_takeNew_87 : decode cX0_takeNew 87 = .ok (.aload_n 1, 1) := by decide +kernel
theorem dX0_takeNew_88 : decode cX0_takeNew 88 = .ok (.invokevirtual 49, 3) := by decide +kernel
theorem dX0_takeNew_91 : decode cX0_takeNew 91 = .ok (.return_, 1) := by decide +kernel
theorem dX0_takeTold_0 : decode cX0_takeTold 0 = .ok (.aload_n 1, 1) := by decide +kernel
theorem dX0_takeTold_1 : decode cX0_takeTold 1 = .ok (.invokevirtual 32, 3) := by decide +kernel
theorem dX0_takeTold_4 : decode cX0_takeTold 4 = .ok (.ifCond .ne 10, 3) := by decide +kernel
theorem dX0_takeTold_7 : decode cX0_takeTold 7 = .ok (.aload_n 1, 1) := by decide +kernel
theorem dX0_takeTold_8 : decode cX0_takeTold 8 = .ok (.iconst 1, 1) := by decide +kernel
theorem dX0_takeTold_9 : decode cX0_takeTold 9 = .ok (.invokevirtual 38, 3) := by decide +kernel
theorem dX0_takeTold_12 : decode cX0_takeTold 12 = .ok (.iconst (-1), 1) := by decide +kernel
theorem dX0_takeTold_13 : decode cX0_takeTold 13 = .ok (.ireturn, 1) := by decide +kernel
theorem dX0_takeTold_14 : decode cX0_takeTold 14 = .ok (.aload_n 0, 1) := by decide +kernel
theorem dX0_takeTold_15 : decode cX0_takeTold 15 = .ok (.aload_n 1, 1) := by decide +kernel
theorem dX0_takeTold_16 : decode cX0_takeTold 16 = .ok (.getfield 42, 3) := by decide +kernel
theorem dX0_takeTold_19 : decode cX0_takeTold 19 = .ok (.invokevirtual 45, 3) := by decide +kernel
theorem dX0_takeTold_22 : decode cX0_takeTold 22 = .ok (.istore_n 3, 1) := by decide +kernel
theorem dX0_takeTold_23 : decode cX0_takeTold 23 = .ok (.iload_n 3, 1) := by decide +kernel
theorem dX0_takeTold_24 : decode cX0_takeTold 24 = .ok (.iconst (-1), 1) := by decide +kernel
theorem dX0_takeTold_25 : decode cX0_takeTold 25 = .ok (.if_icmp .eq 13, 3) := by decide +kernel
theorem dX0_takeTold_28 : decode cX0_takeTold 28 = .ok (.aload_n 0, 1) := by decide +kernel
theorem dX0_takeTold_29 : decode cX0_takeTold 29 = .ok (.getfield 15, 3) := by decide +kernel
theorem dX0_takeTold_32 : decode cX0_takeTold 32 = .ok (.iload_n 3, 1) := by decide +kernel
theorem dX0_takeTold_33 : decode cX0_takeTold 33 = .ok (.iaload, 1) := by decide +kernel
theorem dX0_takeTold_34 : decode cX0_takeTold 34 = .ok (.iload_n 2, 1) := by decide +kernel
theorem dX0_takeTold_35 : decode cX0_takeTold 35 = .ok (.if_icmp .eq 10, 3) := by decide +kernel
theorem dX0_takeTold_38 : decode cX0_takeTold 38 = .ok (.aload_n 1, 1) := by decide +kernel
theorem dX0_takeTold_39 : decode cX0_takeTold 39 = .ok (.iconst 3, 1) := by decide +kernel
theorem dX0_takeTold_40 : decode cX0_takeTold 40 = .ok (.invokevirtual 38, 3) := by decide +kernel
theorem dX0_takeTold_43 : decode cX0_takeTold 43 = .ok (.iconst (-1), 1) := by decide +kernel
theorem dX0_takeTold_44 : decode cX0_takeTold 44 = .ok (.ireturn, 1) := by decide +kernel
theorem dX0_takeTold_45 : decode cX0_takeTold 45 = .ok (.aload_n 1, 1) := by decide +kernel
theorem dX0_takeTold_46 : decode cX0_takeTold 46 = .ok (.invokevirtual 49, 3) := by decide +kernel
theorem dX0_takeTold_49 : decode cX0_takeTold 49 = .ok (.aload_n 1, 1) := by decide +kernel
theorem dX0_takeTold_50 : decode cX0_takeTold 50 = .ok (.getfield 52, 3) := by decide +kernel
theorem dX0_takeTold_53 : decode cX0_takeTold 53 = .ok (.ifCond .ne 12, 3) := by decide +kernel
theorem dX0_takeTold_56 : decode cX0_takeTold 56 = .ok (.aload_n 0, 1) := by decide +kernel
theorem dX0_takeTold_57 : decode cX0_takeTold 57 = .ok (.getfield 19, 3) := by decide +kernel
theorem dX0_takeTold_60 : decode cX0_takeTold 60 = .ok (.iload_n 3, 1) := by decide +kernel
theorem dX0_takeTold_61 : decode cX0_takeTold 61 = .ok (.iaload, 1) := by decide +kernel
theorem dX0_takeTold_62 : decode cX0_takeTold 62 = .ok (.goto 4, 3) := by decide +kernel
theorem dX0_takeTold_65 : decode cX0_takeTold 65 = .ok (.iconst (-1), 1) := by decide +kernel
theorem dX0_takeTold_66 : decode cX0_takeTold 66 = .ok (.ireturn, 1) := by decide +kernel
theorem dX0_find_0 : decode cX0_find 0 = .ok (.iconst 0, 1) := by decide +kernel
theorem dX0_find_1 : decode cX0_find 1 = .ok (.istore_n 3, 1) := by decide +kernel
theorem dX0_find_2 : decode cX0_find 2 = .ok (.iload_n 3, 1) := by decide +kernel
theorem dX0_find_3 : decode cX0_find 3 = .ok (.aload_n 0, 1) := by decide +kernel
theorem dX0_find_4 : decode cX0_find 4 = .ok (.getfield 22, 3) := by decide +kernel
theorem dX0_find_7 : decode cX0_find 7 = .ok (.if_icmp .ge 22, 3) := by decide +kernel
theorem dX0_find_10 : decode cX0_find 10 = .ok (.aload_n 0, 1) := by decide +kernel
theorem dX0_find_11 : decode cX0_find 11 = .ok (.getfield 11, 3) := by decide +kernel
theorem dX0_find_14 : decode cX0_find 14 = .ok (.iload_n 3, 1) := by decide +kernel
theorem dX0_find_15 : decode cX0_find 15 = .ok (.laload, 1) := by decide +kernel
theorem dX0_find_16 : decode cX0_find 16 = .ok (.lload_n 1, 1) := by decide +kernel
theorem dX0_find_17 : decode cX0_find 17 = .ok (.lcmp, 1) := by decide +kernel
theorem dX0_find_18 : decode cX0_find 18 = .ok (.ifCond .ne 5, 3) := by decide +kernel
theorem dX0_find_21 : decode cX0_find 21 = .ok (.iload_n 3, 1) := by decide +kernel
theorem dX0_find_22 : decode cX0_find 22 = .ok (.ireturn, 1) := by decide +kernel
theorem dX0_find_23 : decode cX0_find 23 = .ok (.iinc 3 1, 3) := by decide +kernel
theorem dX0_find_26 : decode cX0_find 26 = .ok (.goto (-24), 3) := by decide +kernel
theorem dX0_find_29 : decode cX0_find 29 = .ok (.iconst (-1), 1) := by decide +kernel
theorem dX0_find_30 : decode cX0_find 30 = .ok (.ireturn, 1) := by decide +kernel
theorem dX1_init_0 : decode cX1_init 0 = .ok (.aload_n 0, 1) := by decide +kernel
theorem dX1_init_1 : decode cX1_init 1 = .ok (.invokespecial 3, 3) := by decide +kernel
theorem dX1_init_4 : decode cX1_init 4 = .ok (.aload_n 0, 1) := by decide +kernel
theorem dX1_init_5 : decode cX1_init 5 = .ok (.bipush 40, 2) := by decide +kernel
theorem dX1_init_7 : decode cX1_init 7 = .ok (.newarray .int, 2) := by decide +kernel
theorem dX1_init_9 : decode cX1_init 9 = .ok (.putfield 9, 3) := by decide +kernel
theorem dX1_init_12 : decode cX1_init 12 = .ok (.aload_n 0, 1) := by decide +kernel
theorem dX1_init_13 : decode cX1_init 13 = .ok (.bipush 40, 2) := by decide +kernel
theorem dX1_init_15 : decode cX1_init 15 = .ok (.newarray .int, 2) := by decide +kernel
theorem dX1_init_17 : decode cX1_init 17 = .ok (.putfield 15, 3) := by decide +kernel
theorem dX1_init_20 : decode cX1_init 20 = .ok (.aload_n 0, 1) := by decide +kernel
theorem dX1_init_21 : decode cX1_init 21 = .ok (.bipush 40, 2) := by decide +kernel
theorem dX1_init_23 : decode cX1_init 23 = .ok (.newarray .int, 2) := by decide +kernel
theorem dX1_init_25 : decode cX1_init 25 = .ok (.putfield 18, 3) := by decide +kernel
theorem dX1_init_28 : decode cX1_init 28 = .ok (.return_, 1) := by decide +kernel
theorem dX1_forget_0 : decode cX1_forget 0 = .ok (.aload_n 0, 1) := by decide +kernel
theorem dX1_forget_1 : decode cX1_forget 1 = .ok (.iconst 0, 1) := by decide +kernel
theorem dX1_forget_2 : decode cX1_forget 2 = .ok (.putfield 21, 3) := by decide +kernel
theorem dX1_forget_5 : decode cX1_forget 5 = .ok (.return_, 1) := by decide +kernel
theorem dX1_copyFrom_0 : decode cX1_copyFrom 0 = .ok (.aload_n 0, 1) := by decide +kernel
theorem dX1_copyFrom_1 : decode cX1_copyFrom 1 = .ok (.aload_n 1, 1) := by decide +kernel
theorem dX1_copyFrom_2 : decode cX1_copyFrom 2 = .ok (.getfield 21, 3) := by decide +kernel
theorem dX1_copyFrom_5 : decode cX1_copyFrom 5 = .ok (.putfield 21, 3) := by decide +kernel
theorem dX1_copyFrom_8 : decode cX1_copyFrom 8 = .ok (.aload_n 1, 1) := by decide +kernel
theorem dX1_copyFrom_9 : decode cX1_copyFrom 9 = .ok (.getfield 9, 3) := by decide +kernel
theorem dX1_copyFrom_12 : decode cX1_copyFrom 12 = .ok (.iconst 0, 1) := by decide +kernel
theorem dX1_copyFrom_13 : decode cX1_copyFrom 13 = .ok (.aload_n 0, 1) := by decide +kernel
theorem dX1_copyFrom_14 : decode cX1_copyFrom 14 = .ok (.getfield 9, 3) := by decide +kernel
theorem dX1_copyFrom_17 : decode cX1_copyFrom 17 = .ok (.iconst 0, 1) := by decide +kernel
theorem dX1_copyFrom_18 : decode cX1_copyFrom 18 = .ok (.bipush 40, 2) := by decide +kernel
theorem dX1_copyFrom_20 : decode cX1_copyFrom 20 = .ok (.invokestatic 25, 3) := by decide +kernel
theorem dX1_copyFrom_23 : decode cX1_copyFrom 23 = .ok (.aload_n 1, 1) := by decide +kernel
theorem dX1_copyFrom_24 : decode cX1_copyFrom 24 = .ok (.getfield 15, 3) := by decide +kernel
theorem dX1_copyFrom_27 : decode cX1_copyFrom 27 = .ok (.iconst 0, 1) := by decide +kernel
theorem dX1_copyFrom_28 : decode cX1_copyFrom 28 = .ok (.aload_n 0, 1) := by decide +kernel
theorem dX1_copyFrom_29 : decode cX1_copyFrom 29 = .ok (.getfield 15, 3) := by decide +kernel
theorem dX1_copyFrom_32 : decode cX1_copyFrom 32 = .ok (.iconst 0, 1) := by decide +kernel
theorem dX1_copyFrom_33 : decode cX1_copyFrom 33 = .ok (.bipush 40, 2) := by decide +kernel
theorem dX1_copyFrom_35 : decode cX1_copyFrom 35 = .ok (.invokestatic 25, 3) := by decide +kernel
theorem dX1_copyFrom_38 : decode cX1_copyFrom 38 = .ok (.aload_n 1, 1) := by decide +kernel
theorem dX1_copyFrom_39 : decode cX1_copyFrom 39 = .ok (.getfield 18, 3) := by decide +kernel
theorem dX1_copyFrom_42 : decode cX1_copyFrom 42 = .ok (.iconst 0, 1) := by decide +kernel
theorem dX1_copyFrom_43 : decode cX1_copyFrom 43 = .ok (.aload_n 0, 1) := by decide +kernel
theorem dX1_copyFrom_44 : decode cX1_copyFrom 44 = .ok (.getfield 18, 3) := by decide +kernel
theorem dX1_copyFrom_47 : decode cX1_copyFrom 47 = .ok (.iconst 0, 1) := by decide +kernel
theorem dX1_copyFrom_48 : decode cX1_copyFrom 48 = .ok (.bipush 40, 2) := by decide +kernel
theorem dX1_copyFrom_50 : decode cX1_copyFrom 50 = .ok (.invokestatic 25, 3) := by decide +kernel
theorem dX1_copyFrom_53 : decode cX1_copyFrom 53 = .ok (.return_, 1) := by decide +kernel
theorem dX1_add_0 : decode cX1_add 0 = .ok (.aload_n 0, 1) := by decide +kernel
theorem dX1_add_1 : decode cX1_add 1 = .ok (.getfield 21, 3) := by decide +kernel
theorem dX1_add_4 : decode cX1_add 4 = .ok (.bipush 40, 2) := by decide +kernel
theorem dX1_add_6 : decode cX1_add 6 = .ok (.if_icmp .ge 43, 3) := by decide +kernel
theorem dX1_add_9 : decode cX1_add 9 = .ok (.aload_n 0, 1) := by decide +kernel
theorem dX1_add_10 : decode cX1_add 10 = .ok (.getfield 9, 3) := by decide +kernel
theorem dX1_add_13 : decode cX1_add 13 = .ok (.aload_n 0, 1) := by decide +kernel
theorem dX1_add_14 : decode cX1_add 14 = .ok (.getfield 21, 3) := by decide +kernel
theorem dX1_add_17 : decode cX1_add 17 = .ok (.iload_n 1, 1) := by decide +kernel
theorem dX1_add_18 : decode cX1_add 18 = .ok (.iastore, 1) := by decide +kernel
theorem dX1_add_19 : decode cX1_add 19 = .ok (.aload_n 0, 1) := by decide +kernel
theorem dX1_add_20 : decode cX1_add 20 = .ok (.getfield 15, 3) := by decide +kernel
theorem dX1_add_23 : decode cX1_add 23 = .ok (.aload_n 0, 1) := by decide +kernel
theorem dX1_add_24 : decode cX1_add 24 = .ok (.getfield 21, 3) := by decide +kernel
theorem dX1_add_27 : decode cX1_add 27 = .ok (.iload_n 2, 1) := by decide +kernel
theorem dX1_add_28 : decode cX1_add 28 = .ok (.iastore, 1) := by decide +kernel
theorem dX1_add_29 : decode cX1_add 29 = .ok (.aload_n 0, 1) := by decide +kernel
theorem dX1_add_30 : decode cX1_add 30 = .ok (.getfield 18, 3) := by decide +kernel
theorem dX1_add_33 : decode cX1_add 33 = .ok (.aload_n 0, 1) := by decide +kernel
theorem dX1_add_34 : decode cX1_add 34 = .ok (.getfield 21, 3) := by decide +kernel
theorem dX1_add_37 : decode cX1_add 37 = .ok (.iload_n 3, 1) := by decide +kernel
theorem dX1_add_38 : decode cX1_add 38 = .ok (.iastore, 1) := by decide +kernel
theorem dX1_add_39 : decode cX1_add 39 = .ok (.aload_n 0, 1) := by decide +kernel
theorem dX1_add_40 : decode cX1_add 40 = .ok (.dup, 1) := by decide +kernel
theorem dX1_add_41 : decode cX1_add 41 = .ok (.getfield 21, 3) := by decide +kernel
theorem dX1_add_44 : decode cX1_add 44 = .ok (.iconst 1, 1) := by decide +kernel
theorem dX1_add_45 : decode cX1_add 45 = .ok (.iadd, 1) := by decide +kernel
theorem dX1_add_46 : decode cX1_add 46 = .ok (.putfield 21, 3) := by decide +kernel
theorem dX1_add_49 : decode cX1_add 49 = .ok (.return_, 1) := by decide +kernel
theorem dX1_swapGuilds_0 : decode cX1_swapGuilds 0 = .ok (.aload_n 0, 1) := by decide +kernel
theorem dX1_swapGuilds_1 : decode cX1_swapGuilds 1 = .ok (.getfield 15, 3) := by decide +kernel
theorem dX1_swapGuilds_4 : decode cX1_swapGuilds 4 = .ok (.iload_n 1, 1) := by decide +kernel
theorem dX1_swapGuilds_5 : decode cX1_swapGuilds 5 = .ok (.iaload, 1) := by decide +kernel
theorem dX1_swapGuilds_6 : decode cX1_swapGuilds 6 = .ok (.istore_n 3, 1) := by decide +kernel
theorem dX1_swapGuilds_7 : decode cX1_swapGuilds 7 = .ok (.aload_n 0, 1) := by decide +kernel
theorem dX1_swapGuilds_8 : decode cX1_swapGuilds 8 = .ok (.getfield 15, 3) := by decide +kernel
theorem dX1_swapGuilds_11 : decode cX1_swapGuilds 11 = .ok (.iload_n 1, 1) := by decide +kernel
theorem dX1_swapGuilds_12 : decode cX1_swapGuilds 12 = .ok (.aload_n 0, 1) := by decide +kernel
theorem dX1_swapGuilds_13 : decode cX1_swapGuilds 13 = .ok (.getfield 15, 3) := by decide +kernel
theorem dX1_swapGuilds_16 : decode cX1_swapGuilds 16 = .ok (.iload_n 2, 1) := by decide +kernel
theorem dX1_swapGuilds_17 : decode cX1_swapGuilds 17 = .ok (.iaload, 1) := by decide +kernel
theorem dX1_swapGuilds_18 : decode cX1_swapGuilds 18 = .ok (.iastore, 1) := by decide +kernel
theorem dX1_swapGuilds_19 : decode cX1_swapGuilds 19 = .ok (.aload_n 0, 1) := by decide +kernel
theorem dX1_swapGuilds_20 : decode cX1_swapGuilds 20 = .ok (.getfield 15, 3) := by decide +kernel
theorem dX1_swapGuilds_23 : decode cX1_swapGuilds 23 = .ok (.iload_n 2, 1) := by decide +kernel
theorem dX1_swapGuilds_24 : decode cX1_swapGuilds 24 = .ok (.iload_n 3, 1) := by decide +kernel
theorem dX1_swapGuilds_25 : decode cX1_swapGuilds 25 = .ok (.iastore, 1) := by decide +kernel
theorem dX1_swapGuilds_26 : decode cX1_swapGuilds 26 = .ok (.return_, 1) := by decide +kernel
theorem dX1_readBells_0 : decode cX1_readBells 0 = .ok (.iconst 0, 1) := by decide +kernel
theorem dX1_readBells_1 : decode cX1_readBells 1 = .ok (.istore_n 3, 1) := by decide +kernel
theorem dX1_readBells_2 : decode cX1_readBells 2 = .ok (.iload_n 3, 1) := by decide +kernel
theorem dX1_readBells_3 : decode cX1_readBells 3 = .ok (.bipush 40, 2) := by decide +kernel
theorem dX1_readBells_5 : decode cX1_readBells 5 = .ok (.if_icmp .gt 22, 3) := by decide +kernel
theorem dX1_readBells_8 : decode cX1_readBells 8 = .ok (.aload_n 1, 1) := by decide +kernel
theorem dX1_readBells_9 : decode cX1_readBells 9 = .ok (.invokevirtual 31, 3) := by decide +kernel
theorem dX1_readBells_12 : decode cX1_readBells 12 = .ok (.ifCond .eq 15, 3) := by decide +kernel
theorem dX1_readBells_15 : decode cX1_readBells 15 = .ok (.aload_n 0, 1) := by decide +kernel
theorem dX1_readBells_16 : decode cX1_readBells 16 = .ok (.aload_n 1, 1) := by decide +kernel
theorem dX1_readBells_17 : decode cX1_readBells 17 = .ok (.aload_n 2, 1) := by decide +kernel
theorem dX1_readBells_18 : decode cX1_readBells 18 = .ok (.invokevirtual 37, 3) := by decide +kernel
theorem dX1_readBells_21 : decode cX1_readBells 21 = .ok (.iinc 3 1, 3) := by decide +kernel
theorem dX1_readBells_24 : decode cX1_readBells 24 = .ok (.goto (-22), 3) := by decide +kernel
theorem dX1_readBells_27 : decode cX1_readBells 27 = .ok (.aload_n 1, 1) := by decide +kernel
theorem dX1_readBells_28 : decode cX1_readBells 28 = .ok (.invokevirtual 41, 3) := by decide +kernel
theorem dX1_readBells_31 : decode cX1_readBells 31 = .ok (.return_, 1) := by decide +kernel
theorem dX1_readBell_0 : decode cX1_readBell 0 = .ok (.aload_n 1, 1) := by decide +kernel
theorem dX1_readBell_1 : decode cX1_readBell 1 = .ok (.ldc2_w 44, 3) := by decide +kernel
theorem dX1_readBell_4 : decode cX1_readBell 4 = .ok (.invokevirtual 46, 3) := by decide +kernel
theorem dX1_readBell_7 : decode cX1_readBell 7 = .ok (.ifCond .ne 9, 3) := by decide +kernel
theorem dX1_readBell_10 : decode cX1_readBell 10 = .ok (.aload_n 1, 1) := by decide +kernel
theorem dX1_readBell_11 : decode cX1_readBell 11 = .ok (.iconst 1, 1) := by decide +kernel
theorem dX1_readBell_12 : decode cX1_readBell 12 = .ok (.invokevirtual 50, 3) := by decide +kernel
theorem dX1_readBell_15 : decode cX1_readBell 15 = .ok (.return_, 1) := by decide +kernel
theorem dX1_readBell_16 : decode cX1_readBell 16 = .ok (.aload_n 0, 1) := by decide +kernel
theorem dX1_readBell_17 : decode cX1_readBell 17 = .ok (.getfield 21, 3) := by decide +kernel
theorem dX1_readBell_20 : decode cX1_readBell 20 = .ok (.bipush 40, 2) := by decide +kernel
theorem dX1_readBell_22 : decode cX1_readBell 22 = .ok (.if_icmp .lt 9, 3) := by decide +kernel
theorem dX1_readBell_25 : decode cX1_readBell 25 = .ok (.aload_n 1, 1) := by decide +kernel
theorem dX1_readBell_26 : decode cX1_readBell 26 = .ok (.iconst 4, 1) := by decide +kernel
theorem dX1_readBell_27 : decode cX1_readBell 27 = .ok (.invokevirtual 50, 3) := by decide +kernel
theorem dX1_readBell_30 : decode cX1_readBell 30 = .ok (.return_, 1) := by decide +kernel
theorem dX1_readBell_31 : decode cX1_readBell 31 = .ok (.aload_n 1, 1) := by decide +kernel
theorem dX1_readBell_32 : decode cX1_readBell 32 = .ok (.invokevirtual 54, 3) := by decide +kernel
theorem dX1_readBell_35 : decode cX1_readBell 35 = .ok (.aload_n 1, 1) := by decide +kernel
theorem dX1_readBell_36 : decode cX1_readBell 36 = .ok (.iconst 0, 1) := by decide +kernel
theorem dX1_readBell_37 : decode cX1_readBell 37 = .ok (.bipush 6, 2) := by decide +kernel
theorem dX1_readBell_39 : decode cX1_readBell 39 = .ok (.invokevirtual 57, 3) := by decide +kernel
theorem dX1_readBell_42 : decode cX1_readBell 42 = .ok (.istore_n 3, 1) := by decide +kernel
theorem dX1_readBell_43 : decode cX1_readBell 43 = .ok (.iload_n 3, 1) := by decide +kernel
theorem dX1_readBell_44 : decode cX1_readBell 44 = .ok (.bipush 24, 2) := by decide +kernel
theorem dX1_readBell_46 : decode cX1_readBell 46 = .ok (.imul, 1) := by decide +kernel
theorem dX1_readBell_47 : decode cX1_readBell 47 = .ok (.aload_n 1, 1) := by decide +kernel
theorem dX1_readBell_48 : decode cX1_readBell 48 = .ok (.iconst 0, 1) := by decide +kernel
theorem dX1_readBell_49 : decode cX1_readBell 49 = .ok (.bipush 23, 2) := by decide +kernel
theorem dX1_readBell_51 : decode cX1_readBell 51 = .ok (.invokevirtual 57, 3) := by decide +kernel
theorem dX1_readBell_54 : decode cX1_readBell 54 = .ok (.iadd, 1) := by decide +kernel
theorem dX1_readBell_55 : decode cX1_readBell 55 = .ok (.istore 4, 2) := by decide +kernel
theorem dX1_readBell_57 : decode cX1_readBell 57 = .ok (.aload_n 2, 1) := by decide +kernel
theorem dX1_readBell_58 : decode cX1_readBell 58 = .ok (.aload_n 1, 1) := by decide +kernel
theorem dX1_readBell_59 : decode cX1_readBell 59 = .ok (.iconst 2, 1) := by decide +kernel
theorem dX1_readBell_60 : decode cX1_readBell 60 = .ok (.invokevirtual 63, 3) := by decide +kernel
theorem dX1_readBell_63 : decode cX1_readBell 63 = .ok (.istore 5, 2) := by decide +kernel
theorem dX1_readBell_65 : decode cX1_readBell 65 = .ok (.aload_n 1, 1) := by decide +kernel
theorem dX1_readBell_66 : decode cX1_readBell 66 = .ok (.iconst 1, 1) := by decide +kernel
theorem dX1_readBell_67 : decode cX1_readBell 67 = .ok (.bipush 24, 2) := by decide +kernel
theorem dX1_readBell_69 : decode cX1_readBell 69 = .ok (.sipush 168, 3) := by decide +kernel
theorem dX1_readBell_72 : decode cX1_readBell 72 = .ok (.iload 4, 2) := by decide +kernel
theorem dX1_readBell_74 : decode cX1_readBell 74 = .ok (.isub, 1) := by decide +kernel
theorem dX1_readBell_75 : decode cX1_readBell 75 = .ok (.invokestatic 67, 3) := by decide +kernel
theorem dX1_readBell_78 : decode cX1_readBell 78 = .ok (.invokevirtual 57, 3) := by decide +kernel
theorem dX1_readBell_81 : decode cX1_readBell 81 = .ok (.istore 6, 2) := by decide +kernel
theorem dX1_readBell_83 : decode cX1_readBell 83 = .ok (.aload_n 1, 1) := by decide +kernel
theorem dX1_readBell_84 : decode cX1_readBell 84 = .ok (.bipush 59, 2) := by decide +kernel
theorem dX1_readBell_86 : decode cX1_readBell 86 = .ok (.invokevirtual 72, 3) := by decide +kernel
theorem dX1_readBell_89 : decode cX1_readBell 89 = .ok (.aload_n 1, 1) := by decide +kernel
theorem dX1_readBell_90 : decode cX1_readBell 90 = .ok (.getfield 75, 3) := by decide +kernel
theorem dX1_readBell_93 : decode cX1_readBell 93 = .ok (.ifCond .ne 13, 3) := by decide +kernel
theorem dX1_readBell_96 : decode cX1_readBell 96 = .ok (.aload_n 0, 1) := by decide +kernel
theorem dX1_readBell_97 : decode cX1_readBell 97 = .ok (.iload 4, 2) := by decide +kernel
theorem dX1_readBell_99 : decode cX1_readBell 99 = .ok (.iload 5, 2) := by decide +kernel
theorem dX1_readBell_101 : decode cX1_readBell 101 = .ok (.iload 6, 2) := by decide +kernel
theorem dX1_readBell_103 : decode cX1_readBell 103 = .ok (.invokevirtual 78, 3) := by decide +kernel
theorem dX1_readBell_106 : decode cX1_readBell 106 = .ok (.return_, 1) := by decide +kernel
theorem dX2_init_0 : decode cX2_init 0 = .ok (.aload_n 0, 1) := by decide +kernel
theorem dX2_init_1 : decode cX2_init 1 = .ok (.invokespecial 3, 3) := by decide +kernel
theorem dX2_init_4 : decode cX2_init 4 = .ok (.aload_n 0, 1) := by decide +kernel
theorem dX2_init_5 : decode cX2_init 5 = .ok (.sipush 6720, 3) := by decide +kernel
theorem dX2_init_8 : decode cX2_init 8 = .ok (.newarray .int, 2) := by decide +kernel
theorem dX2_init_10 : decode cX2_init 10 = .ok (.putfield 9, 3) := by decide +kernel
theorem dX2_init_13 : decode cX2_init 13 = .ok (.aload_n 0, 1) := by decide +kernel
theorem dX2_init_14 : decode cX2_init 14 = .ok (.sipush 6720, 3) := by decide +kernel
theorem dX2_init_17 : decode cX2_init 17 = .ok (.newarray .int, 2) := by decide +kernel
theorem dX2_init_19 : decode cX2_init 19 = .ok (.putfield 15, 3) := by decide +kernel
theorem dX2_init_22 : decode cX2_init 22 = .ok (.aload_n 0, 1) := by decide +kernel
theorem dX2_init_23 : decode cX2_init 23 = .ok (.sipush 672, 3) := by decide +kernel
theorem dX2_init_26 : decode cX2_init 26 = .ok (.newarray .int, 2) := by decide +kernel
theorem dX2_init_28 : decode cX2_init 28 = .ok (.putfield 18, 3) := by decide +kernel
theorem dX2_init_31 : decode cX2_init 31 = .ok (.aload_n 0, 1) := by decide +kernel
theorem dX2_init_32 : decode cX2_init 32 = .ok (.sipush 168, 3) := by decide +kernel
theorem dX2_init_35 : decode cX2_init 35 = .ok (.newarray .int, 2) := by decide +kernel
theorem dX2_init_37 : decode cX2_init 37 = .ok (.putfield 21, 3) := by decide +kernel
theorem dX2_init_40 : decode cX2_init 40 = .ok (.aload_n 0, 1) := by decide +kernel
theorem dX2_init_41 : decode cX2_init 41 = .ok (.sipush 168, 3) := by decide +kernel
theorem dX2_init_44 : decode cX2_init 44 = .ok (.newarray .int, 2) := by decide +kernel
theorem dX2_init_46 : decode cX2_init 46 = .ok (.putfield 24, 3) := by decide +kernel
theorem dX2_init_49 : decode cX2_init 49 = .ok (.aload_n 0, 1) := by decide +kernel
theorem dX2_init_50 : decode cX2_init 50 = .ok (.sipush 169, 3) := by decide +kernel
theorem dX2_init_53 : decode cX2_init 53 = .ok (.newarray .int, 2) := by decide +kernel
theorem dX2_init_55 : decode cX2_init 55 = .ok (.putfield 27, 3) := by decide +kernel
theorem dX2_init_58 : decode cX2_init 58 = .ok (.return_, 1) := by decide +kernel
theorem dX2_keep_0 : decode cX2_keep 0 = .ok (.aload_n 2, 1) := by decide +kernel
theorem dX2_keep_1 : decode cX2_keep 1 = .ok (.getfield 30, 3) := by decide +kernel
theorem dX2_keep_4 : decode cX2_keep 4 = .ok (.iconst 0, 1) := by decide +kernel
theorem dX2_keep_5 : decode cX2_keep 5 = .ok (.aload_n 0, 1) := by decide +kernel
theorem dX2_keep_6 : decode cX2_keep 6 = .ok (.getfield 9, 3) := by decide +kernel
theorem dX2_keep_9 : decode cX2_keep 9 = .ok (.iload_n 3, 1) := by decide +kernel
theorem dX2_keep_10 : decode cX2_keep 10 = .ok (.bipush 40, 2) := by decide +kernel
theorem dX2_keep_12 : decode cX2_keep 12 = .ok (.imul, 1) := by decide +kernel
theorem dX2_keep_13 : decode cX2_keep 13 = .ok (.bipush 40, 2) := by decide +kernel
theorem dX2_keep_15 : decode cX2_keep 15 = .ok (.invokestatic 33, 3) := by decide +kernel
theorem dX2_keep_18 : decode cX2_keep 18 = .ok (.aload_n 2, 1) := by decide +kernel
theorem dX2_keep_19 : decode cX2_keep 19 = .ok (.getfield 39, 3) := by decide +kernel
theorem dX2_keep_22 : decode cX2_keep 22 = .ok (.iconst 0, 1) := by decide +kernel
theorem dX2_keep_23 : decode cX2_keep 23 = .ok (.aload_n 0, 1) := by decide +kernel
theorem dX2_keep_24 : decode cX2_keep 24 = .ok (.getfield 15, 3) := by decide +kernel
theorem dX2_keep_27 : decode cX2_keep 27 = .ok (.iload_n 3, 1) := by decide +kernel
theorem dX2_keep_28 : decode cX2_keep 28 = .ok (.bipush 40, 2) := by decide +kernel
theorem dX2_keep_30 : decode cX2_keep 30 = .ok (.imul, 1) := by decide +kernel
theorem dX2_keep_31 : decode cX2_keep 31 = .ok (.bipush 40, 2) := by decide +kernel
theorem dX2_keep_33 : decode cX2_keep 33 = .ok (.invokestatic 33, 3) := by decide +kernel
theorem dX2_keep_36 : decode cX2_keep 36 = .ok (.aload_n 2, 1) := by decide +kernel
theorem dX2_keep_37 : decode cX2_keep 37 = .ok (.getfield 40, 3) := by decide +kernel
theorem dX2_keep_40 : decode cX2_keep 40 = .ok (.iconst 0, 1) := by decide +kernel
theorem dX2_keep_41 : decode cX2_keep 41 = .ok (.aload_n 0, 1) := by decide +kernel
theorem dX2_keep_42 : decode cX2_keep 42 = .ok (.getfield 18, 3) := by decide +kernel
theorem dX2_keep_45 : decode cX2_keep 45 = .ok (.iload_n 3, 1) := by decide +kernel
theorem dX2_keep_46 : decode cX2_keep 46 = .ok (.iconst 4, 1) := by decide +kernel
theorem dX2_keep_47 : decode cX2_keep 47 = .ok (.imul, 1) := by decide +kernel
theorem dX2_keep_48 : decode cX2_keep 48 = .ok (.iconst 4, 1) := by decide +kernel
theorem dX2_keep_49 : decode cX2_keep 49 = .ok (.invokestatic 33, 3) := by decide +kernel
theorem dX2_keep_52 : decode cX2_keep 52 = .ok (.aload_n 0, 1) := by decide +kernel
theorem dX2_keep_53 : decode cX2_keep 53 = .ok (.getfield 21, 3) := by decide +kernel
theorem dX2_keep_56 : decode cX2_keep 56 = .ok (.iload_n 3, 1) := by decide +kernel
theorem dX2_keep_57 : decode cX2_keep 57 = .ok (.aload_n 2, 1) := by decide +kernel
theorem dX2_keep_58 : decode cX2_keep 58 = .ok (.getfield 41, 3) := by decide +kernel
theorem dX2_keep_61 : decode cX2_keep 61 = .ok (.iload_n 3, 1) := by decide +kernel
theorem dX2_keep_62 : decode cX2_keep 62 = .ok (.iaload, 1) := by decide +kernel
theorem dX2_keep_63 : decode cX2_keep 63 = .ok (.iastore, 1) := by decide +kernel
theorem dX2_keep_64 : decode cX2_keep 64 = .ok (.aload_n 0, 1) := by decide +kernel
theorem dX2_keep_65 : decode cX2_keep 65 = .ok (.getfield 24, 3) := by decide +kernel
theorem dX2_keep_68 : decode cX2_keep 68 = .ok (.iload_n 3, 1) := by decide +kernel
theorem dX2_keep_69 : decode cX2_keep 69 = .ok (.aload_n 2, 1) := by decide +kernel
theorem dX2_keep_70 : decode cX2_keep 70 = .ok (.aload_n 1, 1) := by decide +kernel
theorem dX2_keep_71 : decode cX2_keep 71 = .ok (.iload_n 3, 1) := by decide +kernel
theorem dX2_keep_72 : decode cX2_keep 72 = .ok (.invokevirtual 42, 3) := by decide +kernel
theorem dX2_keep_75 : decode cX2_keep 75 = .ok (.iastore, 1) := by decide +kernel
theorem dX2_keep_76 : decode cX2_keep 76 = .ok (.aload_n 0, 1) := by decide +kernel
theorem dX2_keep_77 : decode cX2_keep 77 = .ok (.getfield 27, 3) := by decide +kernel
theorem dX2_keep_80 : decode cX2_keep 80 = .ok (.iload_n 3, 1) := by decide +kernel
theorem dX2_keep_81 : decode cX2_keep 81 = .ok (.iconst 1, 1) := by decide +kernel
theorem dX2_keep_82 : decode cX2_keep 82 = .ok (.iadd, 1) := by decide +kernel
theorem dX2_keep_83 : decode cX2_keep 83 = .ok (.aload_n 0, 1) := by decide +kernel
theorem dX2_keep_84 : decode cX2_keep 84 = .ok (.getfield 27, 3) := by decide +kernel
theorem dX2_keep_87 : decode cX2_keep 87 = .ok (.iload_n 3, 1) := by decide +kernel
theorem dX2_keep_88 : decode cX2_keep 88 = .ok (.iaload, 1) := by decide +kernel
theorem dX2_keep_89 : decode cX2_keep 89 = .ok (.aload_n 0, 1) := by decide +kernel
theorem dX2_keep_90 : decode cX2_keep 90 = .ok (.getfield 24, 3) := by decide +kernel
theorem dX2_keep_93 : decode cX2_keep 93 = .ok (.iload_n 3, 1) := by decide +kernel
theorem dX2_keep_94 : decode cX2_keep 94 = .ok (.iaload, 1) := by decide +kernel
theorem dX2_keep_95 : decode cX2_keep 95 = .ok (.invokestatic 46, 3) := by decide +kernel
theorem dX2_keep_98 : decode cX2_keep 98 = .ok (.iadd, 1) := by decide +kernel
theorem dX2_keep_99 : decode cX2_keep 99 = .ok (.iastore, 1) := by decide +kernel
theorem dX2_keep_100 : decode cX2_keep 100 = .ok (.return_, 1) := by decide +kernel
theorem dX2_isHarmed_0 : decode cX2_isHarmed 0 = .ok (.aload_n 0, 1) := by decide +kernel
theorem dX2_isHarmed_1 : decode cX2_isHarmed 1 = .ok (.getfield 24, 3) := by decide +kernel
theorem dX2_isHarmed_4 : decode cX2_isHarmed 4 = .ok (.iload_n 2, 1) := by decide +kernel
theorem dX2_isHarmed_5 : decode cX2_isHarmed 5 = .ok (.iaload, 1) := by decide +kernel
theorem dX2_isHarmed_6 : decode cX2_isHarmed 6 = .ok (.iload_n 1, 1) := by decide +kernel
theorem dX2_isHarmed_7 : decode cX2_isHarmed 7 = .ok (.ishr, 1) := by decide +kernel
theorem dX2_isHarmed_8 : decode cX2_isHarmed 8 = .ok (.iconst 1, 1) := by decide +kernel
theorem dX2_isHarmed_9 : decode cX2_isHarmed 9 = .ok (.iand, 1) := by decide +kernel
theorem dX2_isHarmed_10 : decode cX2_isHarmed 10 = .ok (.ifCond .eq 7, 3) := by decide +kernel
theorem dX2_isHarmed_13 : decode cX2_isHarmed 13 = .ok (.iconst 1, 1) := by decide +kernel
theorem dX2_isHarmed_14 : decode cX2_isHarmed 14 = .ok (.goto 4, 3) := by decide +kernel
theorem dX2_isHarmed_17 : decode cX2_isHarmed 17 = .ok (.iconst 0, 1) := by decide +kernel
theorem dX2_isHarmed_18 : decode cX2_isHarmed 18 = .ok (.ireturn, 1) := by decide +kernel
theorem dX2_shadeAt_0 : decode cX2_shadeAt 0 = .ok (.aload_n 0, 1) := by decide +kernel
theorem dX2_shadeAt_1 : decode cX2_shadeAt 1 = .ok (.getfield 9, 3) := by decide +kernel
theorem dX2_shadeAt_4 : decode cX2_shadeAt 4 = .ok (.iload_n 2, 1) := by decide +kernel
theorem dX2_shadeAt_5 : decode cX2_shadeAt 5 = .ok (.bipush 40, 2) := by decide +kernel
theorem dX2_shadeAt_7 : decode cX2_shadeAt 7 = .ok (.imul, 1) := by decide +kernel
theorem dX2_shadeAt_8 : decode cX2_shadeAt 8 = .ok (.iload_n 3, 1) := by decide +kernel
theorem dX2_shadeAt_9 : decode cX2_shadeAt 9 = .ok (.iconst 4, 1) := by decide +kernel
theorem dX2_shadeAt_10 : decode cX2_shadeAt 10 = .ok (.imul, 1) := by decide +kernel
theorem dX2_shadeAt_11 : decode cX2_shadeAt 11 = .ok (.iadd, 1) := by decide +kernel
theorem dX2_shadeAt_12 : decode cX2_shadeAt 12 = .ok (.iload 4, 2) := by decide +kernel
theorem dX2_shadeAt_14 : decode cX2_shadeAt 14 = .ok (.iadd, 1) := by decide +kernel
theorem dX2_shadeAt_15 : decode cX2_shadeAt 15 = .ok (.iaload, 1) := by decide +kernel
theorem dX2_shadeAt_16 : decode cX2_shadeAt 16 = .ok (.aload_n 1, 1) := by decide +kernel
theorem dX2_shadeAt_17 : decode cX2_shadeAt 17 = .ok (.getfield 52, 3) := by decide +kernel
theorem dX2_shadeAt_20 : decode cX2_shadeAt 20 = .ok (.iload_n 3, 1) := by decide +kernel
theorem dX2_shadeAt_21 : decode cX2_shadeAt 21 = .ok (.iaload, 1) := by decide +kernel
theorem dX2_shadeAt_22 : decode cX2_shadeAt 22 = .ok (.invokestatic 57, 3) := by decide +kernel
theorem dX2_shadeAt_25 : decode cX2_shadeAt 25 = .ok (.ireturn, 1) := by decide +kernel
theorem dX2_passedOfAll_0 : decode cX2_passedOfAll 0 = .ok (.iconst 0, 1) := by decide +kernel
theorem dX2_passedOfAll_1 : decode cX2_passedOfAll 1 = .ok (.istore_n 3, 1) := by decide +kernel
theorem dX2_passedOfAll_2 : decode cX2_passedOfAll 2 = .ok (.iconst 0, 1) := by decide +kernel
theorem dX2_passedOfAll_3 : decode cX2_passedOfAll 3 = .ok (.istore 4, 2) := by decide +kernel
theorem dX2_passedOfAll_5 : decode cX2_passedOfAll 5 = .ok (.iload 4, 2) := by decide +kernel
theorem dX2_passedOfAll_7 : decode cX2_passedOfAll 7 = .ok (.aload_n 1, 1) := by decide +kernel
theorem dX2_passedOfAll_8 : decode cX2_passedOfAll 8 = .ok (.getfield 61, 3) := by decide +kernel
theorem dX2_passedOfAll_11 : decode cX2_passedOfAll 11 = .ok (.if_icmp .ge 23, 3) := by decide +kernel
theorem dX2_passedOfAll_14 : decode cX2_passedOfAll 14 = .ok (.iload_n 3, 1) := by decide +kernel
theorem dX2_passedOfAll_15 : decode cX2_passedOfAll 15 = .ok (.aload_n 0, 1) := by decide +kernel
theorem dX2_passedOfAll_16 : decode cX2_passedOfAll 16 = .ok (.getfield 18, 3) := by decide +kernel
theorem dX2_passedOfAll_19 : decode cX2_passedOfAll 19 = .ok (.iload_n 2, 1) := by decide +kernel
theorem dX2_passedOfAll_20 : decode cX2_passedOfAll 20 = .ok (.iconst 4, 1) := by decide +kernel
theorem dX2_passedOfAll_21 : decode cX2_passedOfAll 21 = .ok (.imul, 1) := by decide +kernel
theorem dX2_passedOfAll_22 : decode cX2_passedOfAll 22 = .ok (.iload 4, 2) := by decide +kernel
theorem dX2_passedOfAll_24 : decode cX2_passedOfAll 24 = .ok (.iadd, 1) := by decide +kernel
theorem dX2_passedOfAll_25 : decode cX2_passedOfAll 25 = .ok (.iaload, 1) := by decide +kernel
theorem dX2_passedOfAll_26 : decode cX2_passedOfAll 26 = .ok (.iadd, 1) := by decide +kernel
theorem dX2_passedOfAll_27 : decode cX2_passedOfAll 27 = .ok (.istore_n 3, 1) := by decide +kernel
theorem dX2_passedOfAll_28 : decode cX2_passedOfAll 28 = .ok (.iinc 4 1, 3) := by decide +kernel
theorem dX2_passedOfAll_31 : decode cX2_passedOfAll 31 = .ok (.goto (-26), 3) := by decide +kernel
theorem dX2_passedOfAll_34 : decode cX2_passedOfAll 34 = .ok (.iload_n 3, 1) := by decide +kernel
theorem dX2_passedOfAll_35 : decode cX2_passedOfAll 35 = .ok (.ireturn, 1) := by decide +kernel
theorem dX2_sumPut_0 : decode cX2_sumPut 0 = .ok (.iconst 0, 1) := by decide +kernel
theorem dX2_sumPut_1 : decode cX2_sumPut 1 = .ok (.istore_n 3, 1) := by decide +kernel
theorem dX2_sumPut_2 : decode cX2_sumPut 2 = .ok (.iconst 0, 1) := by decide +kernel
theorem dX2_sumPut_3 : decode cX2_sumPut 3 = .ok (.istore 4, 2) := by decide +kernel
theorem dX2_sumPut_5 : decode cX2_sumPut 5 = .ok (.iload 4, 2) := by decide +kernel
theorem dX2_sumPut_7 : decode cX2_sumPut 7 = .ok (.sipush 168, 3) := by decide +kernel
theorem dX2_sumPut_10 : decode cX2_sumPut 10 = .ok (.if_icmp .ge 56, 3) := by decide +kernel
theorem dX2_sumPut_13 : decode cX2_sumPut 13 = .ok (.iconst 0, 1) := by decide +kernel
theorem dX2_sumPut_14 : decode cX2_sumPut 14 = .ok (.istore 5, 2) := by decide +kernel
theorem dX2_sumPut_16 : decode cX2_sumPut 16 = .ok (.iload 5, 2) := by decide +kernel
theorem dX2_sumPut_18 : decode cX2_sumPut 18 = .ok (.aload_n 1, 1) := by decide +kernel
theorem dX2_sumPut_19 : decode cX2_sumPut 19 = .ok (.getfield 65, 3) := by decide +kernel
theorem dX2_sumPut_22 : decode cX2_sumPut 22 = .ok (.if_icmp .ge 38, 3) := by decide +kernel
theorem dX2_sumPut_25 : decode cX2_sumPut 25 = .ok (.aload_n 0, 1) := by decide +kernel
theorem dX2_sumPut_26 : decode cX2_sumPut 26 = .ok (.getfield 21, 3) := by decide +kernel
theorem dX2_sumPut_29 : decode cX2_sumPut 29 = .ok (.iload 4, 2) := by decide +kernel
theorem dX2_sumPut_31 : decode cX2_sumPut 31 = .ok (.iaload, 1) := by decide +kernel
theorem dX2_sumPut_32 : decode cX2_sumPut 32 = .ok (.iload 5, 2) := by decide +kernel
theorem dX2_sumPut_34 : decode cX2_sumPut 34 = .ok (.ishr, 1) := by decide +kernel
theorem dX2_sumPut_35 : decode cX2_sumPut 35 = .ok (.iconst 1, 1) := by decide +kernel
theorem dX2_sumPut_36 : decode cX2_sumPut 36 = .ok (.iand, 1) := by decide +kernel
theorem dX2_sumPut_37 : decode cX2_sumPut 37 = .ok (.ifCond .eq 17, 3) := by decide +kernel
theorem dX2_sumPut_40 : decode cX2_sumPut 40 = .ok (.iload_n 3, 1) := by decide +kernel
theorem dX2_sumPut_41 : decode cX2_sumPut 41 = .ok (.aload_n 1, 1) := by decide +kernel
theorem dX2_sumPut_42 : decode cX2_sumPut 42 = .ok (.getfield 68, 3) := by decide +kernel
theorem dX2_sumPut_45 : decode cX2_sumPut 45 = .ok (.iload 5, 2) := by decide +kernel
theorem dX2_sumPut_47 : decode cX2_sumPut 47 = .ok (.iconst 4, 1) := by decide +kernel
theorem dX2_sumPut_48 : decode cX2_sumPut 48 = .ok (.imul, 1) := by decide +kernel
theorem dX2_sumPut_49 : decode cX2_sumPut 49 = .ok (.iload_n 2, 1) := by decide +kernel
theorem dX2_sumPut_50 : decode cX2_sumPut 50 = .ok (.iadd, 1) := by decide +kernel
theorem dX2_sumPut_51 : decode cX2_sumPut 51 = .ok (.iaload, 1) := by decide +kernel
theorem dX2_sumPut_52 : decode cX2_sumPut 52 = .ok (.iadd, 1) := by decide +kernel
theorem dX2_sumPut_53 : decode cX2_sumPut 53 = .ok (.istore_n 3, 1) := by decide +kernel
theorem dX2_sumPut_54 : decode cX2_sumPut 54 = .ok (.iinc 5 1, 3) := by decide +kernel
theorem dX2_sumPut_57 : decode cX2_sumPut 57 = .ok (.goto (-41), 3) := by decide +kernel
theorem dX2_sumPut_60 : decode cX2_sumPut 60 = .ok (.iinc 4 1, 3) := by decide +kernel
theorem dX2_sumPut_63 : decode cX2_sumPut 63 = .ok (.goto (-58), 3) := by decide +kernel
theorem dX2_sumPut_66 : decode cX2_sumPut 66 = .ok (.iload_n 3, 1) := by decide +kernel
theorem dX2_sumPut_67 : decode cX2_sumPut 67 = .ok (.ireturn, 1) := by decide +kernel
theorem dX2_sumPassed_0 : decode cX2_sumPassed 0 = .ok (.iconst 0, 1) := by decide +kernel
theorem dX2_sumPassed_1 : decode cX2_sumPassed 1 = .ok (.istore_n 2, 1) := by decide +kernel
theorem dX2_sumPassed_2 : decode cX2_sumPassed 2 = .ok (.iconst 0, 1) := by decide +kernel
theorem dX2_sumPassed_3 : decode cX2_sumPassed 3 = .ok (.istore_n 3, 1) := by decide +kernel
theorem dX2_sumPassed_4 : decode cX2_sumPassed 4 = .ok (.iload_n 3, 1) := by decide +kernel
theorem dX2_sumPassed_5 : decode cX2_sumPassed 5 = .ok (.sipush 168, 3) := by decide +kernel
theorem dX2_sumPassed_8 : decode cX2_sumPassed 8 = .ok (.if_icmp .ge 22, 3) := by decide +kernel
theorem dX2_sumPassed_11 : decode cX2_sumPassed 11 = .ok (.iload_n 2, 1) := by decide +kernel
theorem dX2_sumPassed_12 : decode cX2_sumPassed 12 = .ok (.aload_n 0, 1) := by decide +kernel
theorem dX2_sumPassed_13 : decode cX2_sumPassed 13 = .ok (.getfield 18, 3) := by decide +kernel
theorem dX2_sumPassed_16 : decode cX2_sumPassed 16 = .ok (.iload_n 3, 1) := by decide +kernel
theorem dX2_sumPassed_17 : decode cX2_sumPassed 17 = .ok (.iconst 4, 1) := by decide +kernel
theorem dX2_sumPassed_18 : decode cX2_sumPassed 18 = .ok (.imul, 1) := by decide +kernel
theorem dX2_sumPassed_19 : decode cX2_sumPassed 19 = .ok (.iload_n 1, 1) := by decide +kernel
theorem dX2_sumPassed_20 : decode cX2_sumPassed 20 = .ok (.iadd, 1) := by decide +kernel
theorem dX2_sumPassed_21 : decode cX2_sumPassed 21 = .ok (.iaload, 1) := by decide +kernel
theorem dX2_sumPassed_22 : decode cX2_sumPassed 22 = .ok (.iadd, 1) := by decide +kernel
theorem dX2_sumPassed_23 : decode cX2_sumPassed 23 = .ok (.istore_n 2, 1) := by decide +kernel
theorem dX2_sumPassed_24 : decode cX2_sumPassed 24 = .ok (.iinc 3 1, 3) := by decide +kernel
theorem dX2_sumPassed_27 : decode cX2_sumPassed 27 = .ok (.goto (-23), 3) := by decide +kernel
theorem dX2_sumPassed_30 : decode cX2_sumPassed 30 = .ok (.iload_n 2, 1) := by decide +kernel
theorem dX2_sumPassed_31 : decode cX2_sumPassed 31 = .ok (.ireturn, 1) := by decide +kernel
theorem dX2_sumLast_0 : decode cX2_sumLast 0 = .ok (.iconst 0, 1) := by decide +kernel
theorem dX2_sumLast_1 : decode cX2_sumLast 1 = .ok (.istore_n 3, 1) := by decide +kernel
theorem dX2_sumLast_2 : decode cX2_sumLast 2 = .ok (.iconst 0, 1) := by decide +kernel
theorem dX2_sumLast_3 : decode cX2_sumLast 3 = .ok (.istore 4, 2) := by decide +kernel
theorem dX2_sumLast_5 : decode cX2_sumLast 5 = .ok (.iload 4, 2) := by decide +kernel
theorem dX2_sumLast_7 : decode cX2_sumLast 7 = .ok (.bipush 10, 2) := by decide +kernel
theorem dX2_sumLast_9 : decode cX2_sumLast 9 = .ok (.if_icmp .ge 40, 3) := by decide +kernel
theorem dX2_sumLast_12 : decode cX2_sumLast 12 = .ok (.sipush 6680, 3) := by decide +kernel
theorem dX2_sumLast_15 : decode cX2_sumLast 15 = .ok (.iload 4, 2) := by decide +kernel
theorem dX2_sumLast_17 : decode cX2_sumLast 17 = .ok (.iconst 4, 1) := by decide +kernel
theorem dX2_sumLast_18 : decode cX2_sumLast 18 = .ok (.imul, 1) := by decide +kernel
theorem dX2_sumLast_19 : decode cX2_sumLast 19 = .ok (.iadd, 1) := by decide +kernel
theorem dX2_sumLast_20 : decode cX2_sumLast 20 = .ok (.iload_n 2, 1) := by decide +kernel
theorem dX2_sumLast_21 : decode cX2_sumLast 21 = .ok (.iadd, 1) := by decide +kernel
theorem dX2_sumLast_22 : decode cX2_sumLast 22 = .ok (.istore 5, 2) := by decide +kernel
theorem dX2_sumLast_24 : decode cX2_sumLast 24 = .ok (.iload 5, 2) := by decide +kernel
theorem dX2_sumLast_26 : decode cX2_sumLast 26 = .ok (.ifCond .lt 17, 3) := by decide +kernel
theorem dX2_sumLast_29 : decode cX2_sumLast 29 = .ok (.iload 5, 2) := by decide +kernel
theorem dX2_sumLast_31 : decode cX2_sumLast 31 = .ok (.aload_n 1, 1) := by decide +kernel
theorem dX2_sumLast_32 : decode cX2_sumLast 32 = .ok (.arraylength, 1) := by decide +kernel
theorem dX2_sumLast_33 : decode cX2_sumLast 33 = .ok (.if_icmp .ge 10, 3) := by decide +kernel
theorem dX2_sumLast_36 : decode cX2_sumLast 36 = .ok (.iload_n 3, 1) := by decide +kernel
theorem dX2_sumLast_37 : decode cX2_sumLast 37 = .ok (.aload_n 1, 1) := by decide +kernel
theorem dX2_sumLast_38 : decode cX2_sumLast 38 = .ok (.iload 5, 2) := by decide +kernel
theorem dX2_sumLast_40 : decode cX2_sumLast 40 = .ok (.iaload, 1) := by decide +kernel
theorem dX2_sumLast_41 : decode cX2_sumLast 41 = .ok (.iadd, 1) := by decide +kernel
theorem dX2_sumLast_42 : decode cX2_sumLast 42 = .ok (.istore_n 3, 1) := by decide +kernel
theorem dX2_sumLast_43 : decode cX2_sumLast 43 = .ok (.iinc 4 1, 3) := by decide +kernel
theorem dX2_sumLast_46 : decode cX2_sumLast 46 = .ok (.goto (-41), 3) := by decide +kernel
theorem dX2_sumLast_49 : decode cX2_sumLast 49 = .ok (.iload_n 3, 1) := by decide +kernel
theorem dX2_sumLast_50 : decode cX2_sumLast 50 = .ok (.ireturn, 1) := by decide +kernel
theorem dX3_init_0 : decode cX3_init 0 = .ok (.aload_n 0, 1) := by decide +kernel
theorem dX3_init_1 : decode cX3_init 1 = .ok (.invokespecial 3, 3) := by decide +kernel
theorem dX3_init_4 : decode cX3_init 4 = .ok (.aload_n 0, 1) := by decide +kernel
theorem dX3_init_5 : decode cX3_init 5 = .ok (.new 9, 3) := by decide +kernel
theorem dX3_init_8 : decode cX3_init 8 = .ok (.dup, 1) := by decide +kernel
theorem dX3_init_9 : decode cX3_init 9 = .ok (.invokespecial 11, 3) := by decide +kernel
theorem dX3_init_12 : decode cX3_init 12 = .ok (.putfield 12, 3) := by decide +kernel
theorem dX3_init_15 : decode cX3_init 15 = .ok (.aload_n 0, 1) := by decide +kernel
theorem dX3_init_16 : decode cX3_init 16 = .ok (.bipush 10, 2) := by decide +kernel
theorem dX3_init_18 : decode cX3_init 18 = .ok (.newarray .int, 2) := by decide +kernel
theorem dX3_init_20 : decode cX3_init 20 = .ok (.putfield 18, 3) := by decide +kernel
theorem dX3_init_23 : decode cX3_init 23 = .ok (.aload_n 0, 1) := by decide +kernel
theorem dX3_init_24 : decode cX3_init 24 = .ok (.bipush 10, 2) := by decide +kernel
theorem dX3_init_26 : decode cX3_init 26 = .ok (.newarray .int, 2) := by decide +kernel
theorem dX3_init_28 : decode cX3_init 28 = .ok (.putfield 22, 3) := by decide +kernel
theorem dX3_init_31 : decode cX3_init 31 = .ok (.aload_n 0, 1) := by decide +kernel
theorem dX3_init_32 : decode cX3_init 32 = .ok (.bipush 6, 2) := by decide +kernel
theorem dX3_init_34 : decode cX3_init 34 = .ok (.newarray .int, 2) := by decide +kernel
theorem dX3_init_36 : decode cX3_init 36 = .ok (.putfield 25, 3) := by decide +kernel
theorem dX3_init_39 : decode cX3_init 39 = .ok (.aload_n 0, 1) := by decide +kernel
theorem dX3_init_40 : decode cX3_init 40 = .ok (.bipush 6, 2) := by decide +kernel
theorem dX3_init_42 : decode cX3_init 42 = .ok (.newarray .int, 2) := by decide +kernel
theorem dX3_init_44 : decode cX3_init 44 = .ok (.putfield 28, 3) := by decide +kernel
theorem dX3_init_47 : decode cX3_init 47 = .ok (.aload_n 0, 1) := by decide +kernel
theorem dX3_init_48 : decode cX3_init 48 = .ok (.bipush 24, 2) := by decide +kernel
theorem dX3_init_50 : decode cX3_init 50 = .ok (.newarray .int, 2) := by decide +kernel
theorem dX3_init_52 : decode cX3_init 52 = .ok (.putfield 31, 3) := by decide +kernel
theorem dX3_init_55 : decode cX3_init 55 = .ok (.aload_n 0, 1) := by decide +kernel
theorem dX3_init_56 : decode cX3_init 56 = .ok (.bipush 6, 2) := by decide +kernel
theorem dX3_init_58 : decode cX3_init 58 = .ok (.newarray .int, 2) := by decide +kernel
theorem dX3_init_60 : decode cX3_init 60 = .ok (.putfield 34, 3) := by decide +kernel
theorem dX3_init_63 : decode cX3_init 63 = .ok (.aload_n 0, 1) := by decide +kernel
theorem dX3_init_64 : decode cX3_init 64 = .ok (.bipush 6, 2) := by decide +kernel
theorem dX3_init_66 : decode cX3_init 66 = .ok (.newarray .int, 2) := by decide +kernel
theorem dX3_init_68 : decode cX3_init 68 = .ok (.putfield 37, 3) := by decide +kernel
theorem dX3_init_71 : decode cX3_init 71 = .ok (.aload_n 0, 1) := by decide +kernel
theorem dX3_init_72 : decode cX3_init 72 = .ok (.bipush 6, 2) := by decide +kernel
theorem dX3_init_74 : decode cX3_init 74 = .ok (.newarray .int, 2) := by decide +kernel
theorem dX3_init_76 : decode cX3_init 76 = .ok (.putfield 40, 3) := by decide +kernel
theorem dX3_init_79 : decode cX3_init 79 = .ok (.aload_n 0, 1) := by decide +kernel
theorem dX3_init_80 : decode cX3_init 80 = .ok (.bipush 24, 2) := by decide +kernel
theorem dX3_init_82 : decode cX3_init 82 = .ok (.newarray .int, 2) := by decide +kernel
theorem dX3_init_84 : decode cX3_init 84 = .ok (.putfield 43, 3) := by decide +kernel
theorem dX3_init_87 : decode cX3_init 87 = .ok (.aload_n 0, 1) := by decide +kernel
theorem dX3_init_88 : decode cX3_init 88 = .ok (.bipush 7, 2) := by decide +kernel
theorem dX3_init_90 : decode cX3_init 90 = .ok (.newarray .int, 2) := by decide +kernel
theorem dX3_init_92 : decode cX3_init 92 = .ok (.dup, 1) := by decide +kernel
theorem dX3_init_93 : decode cX3_init 93 = .ok (.iconst 0, 1) := by decide +kernel
theorem dX3_init_94 : decode cX3_init 94 = .ok (.iconst (-1), 1) := by decide +kernel
theorem dX3_init_95 : decode cX3_init 95 = .ok (.iastore, 1) := by decide +kernel
theorem dX3_init_96 : decode cX3_init 96 = .ok (.dup, 1) := by decide +kernel
theorem dX3_init_97 : decode cX3_init 97 = .ok (.iconst 1, 1) := by decide +kernel
theorem dX3_init_98 : decode cX3_init 98 = .ok (.iconst (-1), 1) := by decide +kernel
theorem dX3_init_99 : decode cX3_init 99 = .ok (.iastore, 1) := by decide +kernel
theorem dX3_init_100 : decode cX3_init 100 = .ok (.dup, 1) := by decide +kernel
theorem dX3_init_101 : decode cX3_init 101 = .ok (.iconst 2, 1) := by decide +kernel
theorem dX3_init_102 : decode cX3_init 102 = .ok (.iconst (-1), 1) := by decide +kernel
theorem dX3_init_103 : decode cX3_init 103 = .ok (.iastore, 1) := by decide +kernel
theorem dX3_init_104 : decode cX3_init 104 = .ok (.dup, 1) := by decide +kernel
theorem dX3_init_105 : decode cX3_init 105 = .ok (.iconst 3, 1) := by decide +kernel
theorem dX3_init_106 : decode cX3_init 106 = .ok (.iconst (-1), 1) := by decide +kernel
theorem dX3_init_107 : decode cX3_init 107 = .ok (.iastore, 1) := by decide +kernel
theorem dX3_init_108 : decode cX3_init 108 = .ok (.dup, 1) := by decide +kernel
theorem dX3_init_109 : decode cX3_init 109 = .ok (.iconst 4, 1) := by decide +kernel
theorem dX3_init_110 : decode cX3_init 110 = .ok (.iconst (-1), 1) := by decide +kernel
theorem dX3_init_111 : decode cX3_init 111 = .ok (.iastore, 1) := by decide +kernel
theorem dX3_init_112 : decode cX3_init 112 = .ok (.dup, 1) := by decide +kernel
theorem dX3_init_113 : decode cX3_init 113 = .ok (.iconst 5, 1) := by decide +kernel
theorem dX3_init_114 : decode cX3_init 114 = .ok (.iconst (-1), 1) := by decide +kernel
theorem dX3_init_115 : decode cX3_init 115 = .ok (.iastore, 1) := by decide +kernel
theorem dX3_init_116 : decode cX3_init 116 = .ok (.dup, 1) := by decide +kernel
theorem dX3_init_117 : decode cX3_init 117 = .ok (.bipush 6, 2) := by decide +kernel
theorem dX3_init_119 : decode cX3_init 119 = .ok (.iconst (-1), 1) := by decide +kernel
theorem dX3_init_120 : decode cX3_init 120 = .ok (.iastore, 1) := by decide +kernel
theorem dX3_init_121 : decode cX3_init 121 = .ok (.putfield 46, 3) := by decide +kernel
theorem dX3_init_124 : decode cX3_init 124 = .ok (.aload_n 0, 1) := by decide +kernel
theorem dX3_init_125 : decode cX3_init 125 = .ok (.iconst (-1), 1) := by decide +kernel
theorem dX3_init_126 : decode cX3_init 126 = .ok (.putfield 49, 3) := by decide +kernel
theorem dX3_init_129 : decode cX3_init 129 = .ok (.aload_n 0, 1) := by decide +kernel
theorem dX3_init_130 : decode cX3_init 130 = .ok (.bipush 12, 2) := by decide +kernel
theorem dX3_init_132 : decode cX3_init 132 = .ok (.newarray .int, 2) := by decide +kernel
theorem dX3_init_134 : decode cX3_init 134 = .ok (.putfield 53, 3) := by decide +kernel
theorem dX3_init_137 : decode cX3_init 137 = .ok (.aload_n 0, 1) := by decide +kernel
theorem dX3_init_138 : decode cX3_init 138 = .ok (.bipush 12, 2) := by decide +kernel
theorem dX3_init_140 : decode cX3_init 140 = .ok (.newarray .int, 2) := by decide +kernel
theorem dX3_init_142 : decode cX3_init 142 = .ok (.putfield 56, 3) := by decide +kernel
theorem dX3_init_145 : decode cX3_init 145 = .ok (.aload_n 0, 1) := by decide +kernel
theorem dX3_init_146 : decode cX3_init 146 = .ok (.bipush 12, 2) := by decide +kernel
theorem dX3_init_148 : decode cX3_init 148 = .ok (.newarray .int, 2) := by decide +kernel
theorem dX3_init_150 : decode cX3_init 150 = .ok (.putfield 59, 3) := by decide +kernel
theorem dX3_init_153 : decode cX3_init 153 = .ok (.return_, 1) := by decide +kernel
theorem dX3_forget_0 : decode cX3_forget 0 = .ok (.aload_n 0, 1) := by decide +kernel
theorem dX3_forget_1 : decode cX3_forget 1 = .ok (.getfield 12, 3) := by decide +kernel
theorem dX3_forget_4 : decode cX3_forget 4 = .ok (.iconst 0, 1) := by decide +kernel
theorem dX3_forget_5 : decode cX3_forget 5 = .ok (.putfield 62, 3) := by decide +kernel
theorem dX3_forget_8 : decode cX3_forget 8 = .ok (.aload_n 0, 1) := by decide +kernel
theorem dX3_forget_9 : decode cX3_forget 9 = .ok (.iconst 0, 1) := by decide +kernel
theorem dX3_forget_10 : decode cX3_forget 10 = .ok (.putfield 64, 3) := by decide +kernel
theorem dX3_forget_13 : decode cX3_forget 13 = .ok (.aload_n 0, 1) := by decide +kernel
theorem dX3_forget_14 : decode cX3_forget 14 = .ok (.iconst 0, 1) := by decide +kernel
theorem dX3_forget_15 : decode cX3_forget 15 = .ok (.putfield 67, 3) := by decide +kernel
theorem dX3_forget_18 : decode cX3_forget 18 = .ok (.aload_n 0, 1) := by decide +kernel
theorem dX3_forget_19 : decode cX3_forget 19 = .ok (.iconst 0, 1) := by decide +kernel
theorem dX3_forget_20 : decode cX3_forget 20 = .ok (.putfield 70, 3) := by decide +kernel
theorem dX3_forget_23 : decode cX3_forget 23 = .ok (.aload_n 0, 1) := by decide +kernel
theorem dX3_forget_24 : decode cX3_forget 24 = .ok (.iconst 0, 1) := by decide +kernel
theorem dX3_forget_25 : decode cX3_forget 25 = .ok (.putfield 73, 3) := by decide +kernel
theorem dX3_forget_28 : decode cX3_forget 28 = .ok (.aload_n 0, 1) := by decide +kernel
theorem dX3_forget_29 : decode cX3_forget 29 = .ok (.iconst 0, 1) := by decide +kernel
theorem dX3_forget_30 : decode cX3_forget 30 = .ok (.putfield 76, 3) := by decide +kernel
theorem dX3_forget_33 : decode cX3_forget 33 = .ok (.aload_n 0, 1) := by decide +kernel
theorem dX3_forget_34 : decode cX3_forget 34 = .ok (.iconst (-1), 1) := by decide +kernel
theorem dX3_forget_35 : decode cX3_forget 35 = .ok (.putfield 49, 3) := by decide +kernel
theorem dX3_forget_38 : decode cX3_forget 38 = .ok (.iconst 0, 1) := by decide +kernel
theorem dX3_forget_39 : decode cX3_forget 39 = .ok (.istore_n 1, 1) := by decide +kernel
theorem dX3_forget_40 : decode cX3_forget 40 = .ok (.iload_n 1, 1) := by decide +kernel
theorem dX3_forget_41 : decode cX3_forget 41 = .ok (.bipush 7, 2) := by decide +kernel
theorem dX3_forget_43 : decode cX3_forget 43 = .ok (.if_icmp .ge 16, 3) := by decide +kernel
theorem dX3_forget_46 : decode cX3_forget 46 = .ok (.aload_n 0, 1) := by decide +kernel
theorem dX3_forget_47 : decode cX3_forget 47 = .ok (.getfield 46, 3) := by decide +kernel
theorem dX3_forget_50 : decode cX3_forget 50 = .ok (.iload_n 1, 1) := by decide +kernel
theorem dX3_forget_51 : decode cX3_forget 51 = .ok (.iconst (-1), 1) := by decide +kernel
theorem dX3_forget_52 : decode cX3_forget 52 = .ok (.iastore, 1) := by decide +kernel
theorem dX3_forget_53 : decode cX3_forget 53 = .ok (.iinc 1 1, 3) := by decide +kernel
theorem dX3_forget_56 : decode cX3_forget 56 = .ok (.goto (-16), 3) := by decide +kernel
theorem dX3_forget_59 : decode cX3_forget 59 = .ok (.iconst 0, 1) := by decide +kernel
theorem dX3_forget_60 : decode cX3_forget 60 = .ok (.istore_n 1, 1) := by decide +kernel
theorem dX3_forget_61 : decode cX3_forget 61 = .ok (.iload_n 1, 1) := by decide +kernel
theorem dX3_forget_62 : decode cX3_forget 62 = .ok (.bipush 24, 2) := by decide +kernel
theorem dX3_forget_64 : decode cX3_forget 64 = .ok (.if_icmp .ge 16, 3) := by decide +kernel
theorem dX3_forget_67 : decode cX3_forget 67 = .ok (.aload_n 0, 1) := by decide +kernel
theorem dX3_forget_68 : decode cX3_forget 68 = .ok (.getfield 31, 3) := by decide +kernel
theorem dX3_forget_71 : decode cX3_forget 71 = .ok (.iload_n 1, 1) := by decide +kernel
theorem dX3_forget_72 : decode cX3_forget 72 = .ok (.iconst 0, 1) := by decide +kernel
theorem dX3_forget_73 : decode cX3_forget 73 = .ok (.iastore, 1) := by decide +kernel
theorem dX3_forget_74 : decode cX3_forget 74 = .ok (.iinc 1 1, 3) := by decide +kernel
theorem dX3_forget_77 : decode cX3_forget 77 = .ok (.goto (-16), 3) := by decide +kernel
theorem dX3_forget_80 : decode cX3_forget 80 = .ok (.iconst 0, 1) := by decide +kernel
theorem dX3_forget_81 : decode cX3_forget 81 = .ok (.istore_n 1, 1) := by decide +kernel
theorem dX3_forget_82 : decode cX3_forget 82 = .ok (.iload_n 1, 1) := by decide +kernel
theorem dX3_forget_83 : decode cX3_forget 83 = .ok (.bipush 24, 2) := by decide +kernel
theorem dX3_forget_85 : decode cX3_forget 85 = .ok (.if_icmp .ge 16, 3) := by decide +kernel
theorem dX3_forget_88 : decode cX3_forget 88 = .ok (.aload_n 0, 1) := by decide +kernel
theorem dX3_forget_89 : decode cX3_forget 89 = .ok (.getfield 43, 3) := by decide +kernel
theorem dX3_forget_92 : decode cX3_forget 92 = .ok (.iload_n 1, 1) := by decide +kernel
theorem dX3_forget_93 : decode cX3_forget 93 = .ok (.iconst (-1), 1) := by decide +kernel
theorem dX3_forget_94 : decode cX3_forget 94 = .ok (.iastore, 1) := by decide +kernel
theorem dX3_forget_95 : decode cX3_forget 95 = .ok (.iinc 1 1, 3) := by decide +kernel
theorem dX3_forget_98 : decode cX3_forget 98 = .ok (.goto (-16), 3) := by decide +kernel
theorem dX3_forget_101 : decode cX3_forget 101 = .ok (.return_, 1) := by decide +kernel
theorem dX3_copyFrom_0 : decode cX3_copyFrom 0 = .ok (.aload_n 0, 1) := by decide +kernel
theorem dX3_copyFrom_1 : decode cX3_copyFrom 1 = .ok (.getfield 12, 3) := by decide +kernel
theorem dX3_copyFrom_4 : decode cX3_copyFrom 4 = .ok (.aload_n 1, 1) := by decide +kernel
theorem dX3_copyFrom_5 : decode cX3_copyFrom 5 = .ok (.getfield 12, 3) := by decide +kernel
theorem dX3_copyFrom_8 : decode cX3_copyFrom 8 = .ok (.invokevirtual 79, 3) := by decide +kernel
theorem dX3_copyFrom_11 : decode cX3_copyFrom 11 = .ok (.aload_n 0, 1) := by decide +kernel
theorem dX3_copyFrom_12 : decode cX3_copyFrom 12 = .ok (.aload_n 1, 1) := by decide +kernel
theorem dX3_copyFrom_13 : decode cX3_copyFrom 13 = .ok (.getfield 64, 3) := by decide +kernel
theorem dX3_copyFrom_16 : decode cX3_copyFrom 16 = .ok (.putfield 64, 3) := by decide +kernel
theorem dX3_copyFrom_19 : decode cX3_copyFrom 19 = .ok (.aload_n 1, 1) := by decide +kernel
theorem dX3_copyFrom_20 : decode cX3_copyFrom 20 = .ok (.getfield 18, 3) := by decide +kernel
theorem dX3_copyFrom_23 : decode cX3_copyFrom 23 = .ok (.iconst 0, 1) := by decide +kernel
theorem dX3_copyFrom_24 : decode cX3_copyFrom 24 = .ok (.aload_n 0, 1) := by decide +kernel
theorem dX3_copyFrom_25 : decode cX3_copyFrom 25 = .ok (.getfield 18, 3) := by decide +kernel
theorem dX3_copyFrom_28 : decode cX3_copyFrom 28 = .ok (.iconst 0, 1) := by decide +kernel
theorem dX3_copyFrom_29 : decode cX3_copyFrom 29 = .ok (.bipush 10, 2) := by decide +kernel
theorem dX3_copyFrom_31 : decode cX3_copyFrom 31 = .ok (.invokestatic 83, 3) := by decide +kernel
theorem dX3_copyFrom_34 : decode cX3_copyFrom 34 = .ok (.aload_n 1, 1) := by decide +kernel
theorem dX3_copyFrom_35 : decode cX3_copyFrom 35 = .ok (.getfield 22, 3) := by decide +kernel
theorem dX3_copyFrom_38 : decode cX3_copyFrom 38 = .ok (.iconst 0, 1) := by decide +kernel
theorem dX3_copyFrom_39 : decode cX3_copyFrom 39 = .ok (.aload_n 0, 1) := by decide +kernel
theorem dX3_copyFrom_40 : decode cX3_copyFrom 40 = .ok (.getfield 22, 3) := by decide +kernel
theorem dX3_copyFrom_43 : decode cX3_copyFrom 43 = .ok (.iconst 0, 1) := by decide +kernel
theorem dX3_copyFrom_44 : decode cX3_copyFrom 44 = .ok (.bipush 10, 2) := by decide +kernel
theorem dX3_copyFrom_46 : decode cX3_copyFrom 46 = .ok (.invokestatic 83, 3) := by decide +kernel
theorem dX3_copyFrom_49 : decode cX3_copyFrom 49 = .ok (.aload_n 0, 1) := by decide +kernel
theorem dX3_copyFrom_50 : decode cX3_copyFrom 50 = .ok (.aload_n 1, 1) := by decide +kernel
theorem dX3_copyFrom_51 : decode cX3_copyFrom 51 = .ok (.getfield 67, 3) := by decide +kernel
theorem dX3_copyFrom_54 : decode cX3_copyFrom 54 = .ok (.putfield 67, 3) := by decide +kernel
theorem dX3_copyFrom_57 : decode cX3_copyFrom 57 = .ok (.aload_n 0, 1) := by decide +kernel
theorem dX3_copyFrom_58 : decode cX3_copyFrom 58 = .ok (.aload_n 1, 1) := by decide +kernel
theorem dX3_copyFrom_59 : decode cX3_copyFrom 59 = .ok (.getfield 70, 3) := by decide +kernel
theorem dX3_copyFrom_62 : decode cX3_copyFrom 62 = .ok (.putfield 70, 3) := by decide +kernel
theorem dX3_copyFrom_65 : decode cX3_copyFrom 65 = .ok (.aload_n 1, 1) := by decide +kernel
theorem dX3_copyFrom_66 : decode cX3_copyFrom 66 = .ok (.getfield 25, 3) := by decide +kernel
theorem dX3_copyFrom_69 : decode cX3_copyFrom 69 = .ok (.iconst 0, 1) := by decide +kernel
theorem dX3_copyFrom_70 : decode cX3_copyFrom 70 = .ok (.aload_n 0, 1) := by decide +kernel
theorem dX3_copyFrom_71 : decode cX3_copyFrom 71 = .ok (.getfield 25, 3) := by decide +kernel
theorem dX3_copyFrom_74 : decode cX3_copyFrom 74 = .ok (.iconst 0, 1) := by decide +kernel
theorem dX3_copyFrom_75 : decode cX3_copyFrom 75 = .ok (.bipush 6, 2) := by decide +kernel
theorem dX3_copyFrom_77 : decode cX3_copyFrom 77 = .ok (.invokestatic 83, 3) := by decide +kernel
theorem dX3_copyFrom_80 : decode cX3_copyFrom 80 = .ok (.aload_n 1, 1) := by decide +kernel
theorem dX3_copyFrom_81 : decode cX3_copyFrom 81 = .ok (.getfield 28, 3) := by decide +kernel
theorem dX3_copyFrom_84 : decode cX3_copyFrom 84 = .ok (.iconst 0, 1) := by decide +kernel
theorem dX3_copyFrom_85 : decode cX3_copyFrom 85 = .ok (.aload_n 0, 1) := by decide +kernel
theorem dX3_copyFrom_86 : decode cX3_copyFrom 86 = .ok (.getfield 28, 3) := by decide +kernel
theorem dX3_copyFrom_89 : decode cX3_copyFrom 89 = .ok (.iconst 0, 1) := by decide +kernel
theorem dX3_copyFrom_90 : decode cX3_copyFrom 90 = .ok (.bipush 6, 2) := by decide +kernel
theorem dX3_copyFrom_92 : decode cX3_copyFrom 92 = .ok (.invokestatic 83, 3) := by decide +kernel
theorem dX3_copyFrom_95 : decode cX3_copyFrom 95 = .ok (.aload_n 1, 1) := by decide +kernel
theorem dX3_copyFrom_96 : decode cX3_copyFrom 96 = .ok (.getfield 31, 3) := by decide +kernel
theorem dX3_copyFrom_99 : decode cX3_copyFrom 99 = .ok (.iconst 0, 1) := by decide +kernel
theorem dX3_copyFrom_100 : decode cX3_copyFrom 100 = .ok (.aload_n 0, 1) := by decide +kernel
theorem dX3_copyFrom_101 : decode cX3_copyFrom 101 = .ok (.getfield 31, 3) := by decide +kernel
theorem dX3_copyFrom_104 : decode cX3_copyFrom 104 = .ok (.iconst 0, 1) := by decide +kernel
theorem dX3_copyFrom_105 : decode cX3_copyFrom 105 = .ok (.bipush 24, 2) := by decide +kernel
theorem dX3_copyFrom_107 : decode cX3_copyFrom 107 = .ok (.invokestatic 83, 3) := by decide +kernel
theorem dX3_copyFrom_110 : decode cX3_copyFrom 110 = .ok (.aload_n 0, 1) := by decide +kernel
theorem dX3_copyFrom_111 : decode cX3_copyFrom 111 = .ok (.aload_n 1, 1) := by decide +kernel
theorem dX3_copyFrom_112 : decode cX3_copyFrom 112 = .ok (.getfield 73, 3) := by decide +kernel
theorem dX3_copyFrom_115 : decode cX3_copyFrom 115 = .ok (.putfield 73, 3) := by decide +kernel
theorem dX3_copyFrom_118 : decode cX3_copyFrom 118 = .ok (.aload_n 1, 1) := by decide +kernel
theorem dX3_copyFrom_119 : decode cX3_copyFrom 119 = .ok (.getfield 34, 3) := by decide +kernel
theorem dX3_copyFrom_122 : decode cX3_copyFrom 122 = .ok (.iconst 0, 1) := by decide +kernel
theorem dX3_copyFrom_123 : decode cX3_copyFrom 123 = .ok (.aload_n 0, 1) := by decide +kernel
theorem dX3_copyFrom_124 : decode cX3_copyFrom 124 = .ok (.getfield 34, 3) := by decide +kernel
theorem dX3_copyFrom_127 : decode cX3_copyFrom 127 = .ok (.iconst 0, 1) := by decide +kernel
theorem dX3_copyFrom_128 : decode cX3_copyFrom 128 = .ok (.bipush 6, 2) := by decide +kernel
theorem dX3_copyFrom_130 : decode cX3_copyFrom 130 = .ok (.invokestatic 83, 3) := by decide +kernel
theorem dX3_copyFrom_133 : decode cX3_copyFrom 133 = .ok (.aload_n 1, 1) := by decide +kernel
theorem dX3_copyFrom_134 : decode cX3_copyFrom 134 = .ok (.getfield 37, 3) := by decide +kernel
theorem dX3_copyFrom_137 : decode cX3_copyFrom 137 = .ok (.iconst 0, 1) := by decide +kernel
theorem dX3_copyFrom_138 : decode cX3_copyFrom 138 = .ok (.aload_n 0, 1) := by decide +kernel
theorem dX3_copyFrom_139 : decode cX3_copyFrom 139 = .ok (.getfield 37, 3) := by decide +kernel
theorem dX3_copyFrom_142 : decode cX3_copyFrom 142 = .ok (.iconst 0, 1) := by decide +kernel
theorem dX3_copyFrom_143 : decode cX3_copyFrom 143 = .ok (.bipush 6, 2) := by decide +kernel
theorem dX3_copyFrom_145 : decode cX3_copyFrom 145 = .ok (.invokestatic 83, 3) := by decide +kernel
theorem dX3_copyFrom_148 : decode cX3_copyFrom 148 = .ok (.aload_n 1, 1) := by decide +kernel
theorem dX3_copyFrom_149 : decode cX3_copyFrom 149 = .ok (.getfield 40, 3) := by decide +kernel
theorem dX3_copyFrom_152 : decode cX3_copyFrom 152 = .ok (.iconst 0, 1) := by decide +kernel
theorem dX3_copyFrom_153 : decode cX3_copyFrom 153 = .ok (.aload_n 0, 1) := by decide +kernel
theorem dX3_copyFrom_154 : decode cX3_copyFrom 154 = .ok (.getfield 40, 3) := by decide +kernel
theorem dX3_copyFrom_157 : decode cX3_copyFrom 157 = .ok (.iconst 0, 1) := by decide +kernel
theorem dX3_copyFrom_158 : decode cX3_copyFrom 158 = .ok (.bipush 6, 2) := by decide +kernel
theorem dX3_copyFrom_160 : decode cX3_copyFrom 160 = .ok (.invokestatic 83, 3) := by decide +kernel
theorem dX3_copyFrom_163 : decode cX3_copyFrom 163 = .ok (.aload_n 1, 1) := by decide +kernel
theorem dX3_copyFrom_164 : decode cX3_copyFrom 164 = .ok (.getfield 43, 3) := by decide +kernel
theorem dX3_copyFrom_167 : decode cX3_copyFrom 167 = .ok (.iconst 0, 1) := by decide +kernel
theorem dX3_copyFrom_168 : decode cX3_copyFrom 168 = .ok (.aload_n 0, 1) := by decide +kernel
theorem dX3_copyFrom_169 : decode cX3_copyFrom 169 = .ok (.getfield 43, 3) := by decide +kernel
theorem dX3_copyFrom_172 : decode cX3_copyFrom 172 = .ok (.iconst 0, 1) := by decide +kernel
theorem dX3_copyFrom_173 : decode cX3_copyFrom 173 = .ok (.bipush 24, 2) := by decide +kernel
theorem dX3_copyFrom_175 : decode cX3_copyFrom 175 = .ok (.invokestatic 83, 3) := by decide +kernel
theorem dX3_copyFrom_178 : decode cX3_copyFrom 178 = .ok (.aload_n 1, 1) := by decide +kernel
theorem dX3_copyFrom_179 : decode cX3_copyFrom 179 = .ok (.getfield 46, 3) := by decide +kernel
theorem dX3_copyFrom_182 : decode cX3_copyFrom 182 = .ok (.iconst 0, 1) := by decide +kernel
theorem dX3_copyFrom_183 : decode cX3_copyFrom 183 = .ok (.aload_n 0, 1) := by decide +kernel
theorem dX3_copyFrom_184 : decode cX3_copyFrom 184 = .ok (.getfield 46, 3) := by decide +kernel
theorem dX3_copyFrom_187 : decode cX3_copyFrom 187 = .ok (.iconst 0, 1) := by decide +kernel
theorem dX3_copyFrom_188 : decode cX3_copyFrom 188 = .ok (.bipush 7, 2) := by decide +kernel
theorem dX3_copyFrom_190 : decode cX3_copyFrom 190 = .ok (.invokestatic 83, 3) := by decide +kernel
theorem dX3_copyFrom_193 : decode cX3_copyFrom 193 = .ok (.aload_n 0, 1) := by decide +kernel
theorem dX3_copyFrom_194 : decode cX3_copyFrom 194 = .ok (.aload_n 1, 1) := by decide +kernel
theorem dX3_copyFrom_195 : decode cX3_copyFrom 195 = .ok (.getfield 49, 3) := by decide +kernel
theorem dX3_copyFrom_198 : decode cX3_copyFrom 198 = .ok (.putfield 49, 3) := by decide +kernel
theorem dX3_copyFrom_201 : decode cX3_copyFrom 201 = .ok (.aload_n 0, 1) := by decide +kernel
theorem dX3_copyFrom_202 : decode cX3_copyFrom 202 = .ok (.aload_n 1, 1) := by decide +kernel
theorem dX3_copyFrom_203 : decode cX3_copyFrom 203 = .ok (.getfield 76, 3) := by decide +kernel
theorem dX3_copyFrom_206 : decode cX3_copyFrom 206 = .ok (.putfield 76, 3) := by decide +kernel
theorem dX3_copyFrom_209 : decode cX3_copyFrom 209 = .ok (.aload_n 1, 1) := by decide +kernel
theorem dX3_copyFrom_210 : decode cX3_copyFrom 210 = .ok (.getfield 53, 3) := by decide +kernel
theorem dX3_copyFrom_213 : decode cX3_copyFrom 213 = .ok (.iconst 0, 1) := by decide +kernel
theorem dX3_copyFrom_214 : decode cX3_copyFrom 214 = .ok (.aload_n 0, 1) := by decide +kernel
theorem dX3_copyFrom_215 : decode cX3_copyFrom 215 = .ok (.getfield 53, 3) := by decide +kernel
theorem dX3_copyFrom_218 : decode cX3_copyFrom 218 = .ok (.iconst 0, 1) := by decide +kernel
theorem dX3_copyFrom_219 : decode cX3_copyFrom 219 = .ok (.bipush 12, 2) := by decide +kernel
theorem dX3_copyFrom_221 : decode cX3_copyFrom 221 = .ok (.invokestatic 83, 3) := by decide +kernel
theorem dX3_copyFrom_224 : decode cX3_copyFrom 224 = .ok (.aload_n 1, 1) := by decide +kernel
theorem dX3_copyFrom_225 : decode cX3_copyFrom 225 = .ok (.getfield 56, 3) := by decide +kernel
theorem dX3_copyFrom_228 : decode cX3_copyFrom 228 = .ok (.iconst 0, 1) := by decide +kernel
theorem dX3_copyFrom_229 : decode cX3_copyFrom 229 = .ok (.aload_n 0, 1) := by decide +kernel
theorem dX3_copyFrom_230 : decode cX3_copyFrom 230 = .ok (.getfield 56, 3) := by decide +kernel
theorem dX3_copyFrom_233 : decode cX3_copyFrom 233 = .ok (.iconst 0, 1) := by decide +kernel
theorem dX3_copyFrom_234 : decode cX3_copyFrom 234 = .ok (.bipush 12, 2) := by decide +kernel
theorem dX3_copyFrom_236 : decode cX3_copyFrom 236 = .ok (.invokestatic 83, 3) := by decide +kernel
theorem dX3_copyFrom_239 : decode cX3_copyFrom 239 = .ok (.aload_n 1, 1) := by decide +kernel
theorem dX3_copyFrom_240 : decode cX3_copyFrom 240 = .ok (.getfield 59, 3) := by decide +kernel
theorem dX3_copyFrom_243 : decode cX3_copyFrom 243 = .ok (.iconst 0, 1) := by decide +kernel
theorem dX3_copyFrom_244 : decode cX3_copyFrom 244 = .ok (.aload_n 0, 1) := by decide +kernel
theorem dX3_copyFrom_245 : decode cX3_copyFrom 245 = .ok (.getfield 59, 3) := by decide +kernel
theorem dX3_copyFrom_248 : decode cX3_copyFrom 248 = .ok (.iconst 0, 1) := by decide +kernel
theorem dX3_copyFrom_249 : decode cX3_copyFrom 249 = .ok (.bipush 12, 2) := by decide +kernel
theorem dX3_copyFrom_251 : decode cX3_copyFrom 251 = .ok (.invokestatic 83, 3) := by decide +kernel
theorem dX3_copyFrom_254 : decode cX3_copyFrom 254 = .ok (.return_, 1) := by decide +kernel
theorem dX3_flowOn_0 : decode cX3_flowOn 0 = .ok (.aload_n 0, 1) := by decide +kernel
theorem dX3_flowOn_1 : decode cX3_flowOn 1 = .ok (.getfield 46, 3) := by decide +kernel
theorem dX3_flowOn_4 : decode cX3_flowOn 4 = .ok (.iload_n 1, 1) := by decide +kernel
theorem dX3_flowOn_5 : decode cX3_flowOn 5 = .ok (.iaload, 1) := by decide +kernel
theorem dX3_flowOn_6 : decode cX3_flowOn 6 = .ok (.iconst (-1), 1) := by decide +kernel
theorem dX3_flowOn_7 : decode cX3_flowOn 7 = .ok (.if_icmp .ne 8, 3) := by decide +kernel
theorem dX3_flowOn_10 : decode cX3_flowOn 10 = .ok (.bipush 100, 2) := by decide +kernel
theorem dX3_flowOn_12 : decode cX3_flowOn 12 = .ok (.goto 9, 3) := by decide +kernel
theorem dX3_flowOn_15 : decode cX3_flowOn 15 = .ok (.aload_n 0, 1) := by decide +kernel
theorem dX3_flowOn_16 : decode cX3_flowOn 16 = .ok (.getfield 46, 3) := by decide +kernel
theorem dX3_flowOn_19 : decode cX3_flowOn 19 = .ok (.iload_n 1, 1) := by decide +kernel
theorem dX3_flowOn_20 : decode cX3_flowOn 20 = .ok (.iaload, 1) := by decide +kernel
theorem dX3_flowOn_21 : decode cX3_flowOn 21 = .ok (.ireturn, 1) := by decide +kernel
theorem dX3_floodFrom_0 : decode cX3_floodFrom 0 = .ok (.aload_n 0, 1) := by decide +kernel
theorem dX3_floodFrom_1 : decode cX3_floodFrom 1 = .ok (.getfield 49, 3) := by decide +kernel
theorem dX3_floodFrom_4 : decode cX3_floodFrom 4 = .ok (.iconst (-1), 1) := by decide +kernel
theorem dX3_floodFrom_5 : decode cX3_floodFrom 5 = .ok (.if_icmp .ne 9, 3) := by decide +kernel
theorem dX3_floodFrom_8 : decode cX3_floodFrom 8 = .ok (.sipush 9999, 3) := by decide +kernel
theorem dX3_floodFrom_11 : decode cX3_floodFrom 11 = .ok (.goto 7, 3) := by decide +kernel
theorem dX3_floodFrom_14 : decode cX3_floodFrom 14 = .ok (.aload_n 0, 1) := by decide +kernel
theorem dX3_floodFrom_15 : decode cX3_floodFrom 15 = .ok (.getfield 49, 3) := by decide +kernel
theorem dX3_floodFrom_18 : decode cX3_floodFrom 18 = .ok (.ireturn, 1) := by decide +kernel
theorem dX3_hasPebble_0 : decode cX3_hasPebble 0 = .ok (.iconst 0, 1) := by decide +kernel
theorem dX3_hasPebble_1 : decode cX3_hasPebble 1 = .ok (.istore_n 3, 1) := by decide +kernel
theorem dX3_hasPebble_2 : decode cX3_hasPebble 2 = .ok (.iload_n 3, 1) := by decide +kernel
theorem dX3_hasPebble_3 : decode cX3_hasPebble 3 = .ok (.aload_n 0, 1) := by decide +kernel
theorem dX3_hasPebble_4 : decode cX3_hasPebble 4 = .ok (.getfield 76, 3) := by decide +kernel
theorem dX3_hasPebble_7 : decode cX3_hasPebble 7 = .ok (.if_icmp .ge 31, 3) := by decide +kernel
theorem dX3_hasPebble_10 : decode cX3_hasPebble 10 = .ok (.aload_n 0, 1) := by decide +kernel
theorem dX3_hasPebble_11 : decode cX3_hasPebble 11 = .ok (.getfield 53, 3) := by decide +kernel
theorem dX3_hasPebble_14 : decode cX3_hasPebble 14 = .ok (.iload_n 3, 1) := by decide +kernel
theorem dX3_hasPebble_15 : decode cX3_hasPebble 15 = .ok (.iaload, 1) := by decide +kernel
theorem dX3_hasPebble_16 : decode cX3_hasPebble 16 = .ok (.iload_n 1, 1) := by decide +kernel
theorem dX3_hasPebble_17 : decode cX3_hasPebble 17 = .ok (.if_icmp .ne 15, 3) := by decide +kernel
theorem dX3_hasPebble_20 : decode cX3_hasPebble 20 = .ok (.aload_n 0, 1) := by decide +kernel
theorem dX3_hasPebble_21 : decode cX3_hasPebble 21 = .ok (.getfield 56, 3) := by decide +kernel
theorem dX3_hasPebble_24 : decode cX3_hasPebble 24 = .ok (.iload_n 3, 1) := by decide +kernel
theorem dX3_hasPebble_25 : decode cX3_hasPebble 25 = .ok (.iaload, 1) := by decide +kernel
theorem dX3_hasPebble_26 : decode cX3_hasPebble 26 = .ok (.iload_n 2, 1) := by decide +kernel
theorem dX3_hasPebble_27 : decode cX3_hasPebble 27 = .ok (.if_icmp .ne 5, 3) := by decide +kernel
theorem dX3_hasPebble_30 : decode cX3_hasPebble 30 = .ok (.iconst 1, 1) := by decide +kernel
theorem dX3_hasPebble_31 : decode cX3_hasPebble 31 = .ok (.ireturn, 1) := by decide +kernel
theorem dX3_hasPebble_32 : decode cX3_hasPebble 32 = .ok (.iinc 3 1, 3) := by decide +kernel
theorem dX3_hasPebble_35 : decode cX3_hasPebble 35 = .ok (.goto (-33), 3) := by decide +kernel
theorem dX3_hasPebble_38 : decode cX3_hasPebble 38 = .ok (.iconst 0, 1) := by decide +kernel
theorem dX3_hasPebble_39 : decode cX3_hasPebble 39 = .ok (.ireturn, 1) := by decide +kernel
theorem dX3_fineOf_0 : decode cX3_fineOf 0 = .ok (.iconst 0, 1) := by decide +kernel
theorem dX3_fineOf_1 : decode cX3_fineOf 1 = .ok (.istore_n 3, 1) := by decide +kernel
theorem dX3_fineOf_2 : decode cX3_fineOf 2 = .ok (.iconst 0, 1) := by decide +kernel
theorem dX3_fineOf_3 : decode cX3_fineOf 3 = .ok (.istore 4, 2) := by decide +kernel
theorem dX3_fineOf_5 : decode cX3_fineOf 5 = .ok (.iconst 0, 1) := by decide +kernel
theorem dX3_fineOf_6 : decode cX3_fineOf 6 = .ok (.istore 5, 2) := by decide +kernel
theorem dX3_fineOf_8 : decode cX3_fineOf 8 = .ok (.iload 5, 2) := by decide +kernel
theorem dX3_fineOf_10 : decode cX3_fineOf 10 = .ok (.aload_n 0, 1) := by decide +kernel
theorem dX3_fineOf_11 : decode cX3_fineOf 11 = .ok (.getfield 76, 3) := by decide +kernel
theorem dX3_fineOf_14 : decode cX3_fineOf 14 = .ok (.if_icmp .ge 59, 3) := by decide +kernel
theorem dX3_fineOf_17 : decode cX3_fineOf 17 = .ok (.aload_n 0, 1) := by decide +kernel
theorem dX3_fineOf_18 : decode cX3_fineOf 18 = .ok (.getfield 53, 3) := by decide +kernel
theorem dX3_fineOf_21 : decode cX3_fineOf 21 = .ok (.iload 5, 2) := by decide +kernel
theorem dX3_fineOf_23 : decode cX3_fineOf 23 = .ok (.iaload, 1) := by decide +kernel
theorem dX3_fineOf_24 : decode cX3_fineOf 24 = .ok (.iload_n 1, 1) := by decide +kernel
theorem dX3_fineOf_25 : decode cX3_fineOf 25 = .ok (.if_icmp .ne 42, 3) := by decide +kernel
theorem dX3_fineOf_28 : decode cX3_fineOf 28 = .ok (.aload_n 0, 1) := by decide +kernel
theorem dX3_fineOf_29 : decode cX3_fineOf 29 = .ok (.getfield 56, 3) := by decide +kernel
theorem dX3_fineOf_32 : decode cX3_fineOf 32 = .ok (.iload 5, 2) := by decide +kernel
theorem dX3_fineOf_34 : decode cX3_fineOf 34 = .ok (.iaload, 1) := by decide +kernel
theorem dX3_fineOf_35 : decode cX3_fineOf 35 = .ok (.iload_n 2, 1) := by decide +kernel
theorem dX3_fineOf_36 : decode cX3_fineOf 36 = .ok (.if_icmp .gt 31, 3) := by decide +kernel
theorem dX3_fineOf_39 : decode cX3_fineOf 39 = .ok (.aload_n 0, 1) := by decide +kernel
theorem dX3_fineOf_40 : decode cX3_fineOf 40 = .ok (.getfield 56, 3) := by decide +kernel
theorem dX3_fineOf_43 : decode cX3_fineOf 43 = .ok (.iload 5, 2) := by decide +kernel
theorem dX3_fineOf_45 : decode cX3_fineOf 45 = .ok (.iaload, 1) := by decide +kernel
theorem dX3_fineOf_46 : decode cX3_fineOf 46 = .ok (.iload_n 3, 1) := by decide +kernel
theorem dX3_fineOf_47 : decode cX3_fineOf 47 = .ok (.if_icmp .le 20, 3) := by decide +kernel
theorem dX3_fineOf_50 : decode cX3_fineOf 50 = .ok (.aload_n 0, 1) := by decide +kernel
theorem dX3_fineOf_51 : decode cX3_fineOf 51 = .ok (.getfield 56, 3) := by decide +kernel
theorem dX3_fineOf_54 : decode cX3_fineOf 54 = .ok (.iload 5, 2) := by decide +kernel
theorem dX3_fineOf_56 : decode cX3_fineOf 56 = .ok (.iaload, 1) := by decide +kernel
theorem dX3_fineOf_57 : decode cX3_fineOf 57 = .ok (.istore_n 3, 1) := by decide +kernel
theorem dX3_fineOf_58 : decode cX3_fineOf 58 = .ok (.aload_n 0, 1) := by decide +kernel
theorem dX3_fineOf_59 : decode cX3_fineOf 59 = .ok (.getfield 59, 3) := by decide +kernel
theorem dX3_fineOf_62 : decode cX3_fineOf 62 = .ok (.iload 5, 2) := by decide +kernel
theorem dX3_fineOf_64 : decode cX3_fineOf 64 = .ok (.iaload, 1) := by decide +kernel
theorem dX3_fineOf_65 : decode cX3_fineOf 65 = .ok (.istore 4, 2) := by decide +kernel
theorem dX3_fineOf_67 : decode cX3_fineOf 67 = .ok (.iinc 5 1, 3) := by decide +kernel
theorem dX3_fineOf_70 : decode cX3_fineOf 70 = .ok (.goto (-62), 3) := by decide +kernel
theorem dX3_fineOf_73 : decode cX3_fineOf 73 = .ok (.iload 4, 2) := by decide +kernel
theorem dX3_fineOf_75 : decode cX3_fineOf 75 = .ok (.ireturn, 1) := by decide +kernel
theorem dX4_readLines_0 : decode cX4_readLines 0 = .ok (.iconst 0, 1) := by decide +kernel
theorem dX4_readLines_1 : decode cX4_readLines 1 = .ok (.istore_n 2, 1) := by decide +kernel
theorem dX4_readLines_2 : decode cX4_readLines 2 = .ok (.iload_n 2, 1) := by decide +kernel
theorem dX4_readLines_3 : decode cX4_readLines 3 = .ok (.sipush 900, 3) := by decide +kernel
theorem dX4_readLines_6 : decode cX4_readLines 6 = .ok (.if_icmp .ge 153, 3) := by decide +kernel
theorem dX4_readLines_9 : decode cX4_readLines 9 = .ok (.aload_n 0, 1) := by decide +kernel
theorem dX4_readLines_10 : decode cX4_readLines 10 = .ok (.invokevirtual 9, 3) := by decide +kernel
theorem dX4_readLines_13 : decode cX4_readLines 13 = .ok (.ifCond .eq 146, 3) := by decide +kernel
theorem dX4_readLines_16 : decode cX4_readLines 16 = .ok (.aload_n 0, 1) := by decide +kernel
theorem dX4_readLines_17 : decode cX4_readLines 17 = .ok (.ldc2_w 15, 3) := by decide +kernel
theorem dX4_readLines_20 : decode cX4_readLines 20 = .ok (.invokevirtual 17, 3) := by decide +kernel
theorem dX4_readLines_23 : decode cX4_readLines 23 = .ok (.ifCond .eq 11, 3) := by decide +kernel
theorem dX4_readLines_26 : decode cX4_readLines 26 = .ok (.aload_n 0, 1) := by decide +kernel
theorem dX4_readLines_27 : decode cX4_readLines 27 = .ok (.aload_n 1, 1) := by decide +kernel
theorem dX4_readLines_28 : decode cX4_readLines 28 = .ok (.invokestatic 21, 3) := by decide +kernel
theorem dX4_readLines_31 : decode cX4_readLines 31 = .ok (.goto 116, 3) := by decide +kernel
theorem dX4_readLines_34 : decode cX4_readLines 34 = .ok (.aload_n 0, 1) := by decide +kernel
theorem dX4_readLines_35 : decode cX4_readLines 35 = .ok (.ldc2_w 27, 3) := by decide +kernel
theorem dX4_readLines_38 : decode cX4_readLines 38 = .ok (.invokevirtual 17, 3) := by decide +kernel
theorem dX4_readLines_41 : decode cX4_readLines 41 = .ok (.ifCond .eq 11, 3) := by decide +kernel
theorem dX4_readLines_44 : decode cX4_readLines 44 = .ok (.aload_n 0, 1) := by decide +kernel
theorem dX4_readLines_45 : decode cX4_readLines 45 = .ok (.aload_n 1, 1) := by decide +kernel
theorem dX4_readLines_46 : decode cX4_readLines 46 = .ok (.invokestatic 29, 3) := by decide +kernel
theorem dX4_readLines_49 : decode cX4_readLines 49 = .ok (.goto 98, 3) := by decide +kernel
theorem dX4_readLines_52 : decode cX4_readLines 52 = .ok (.aload_n 0, 1) := by decide +kernel
theorem dX4_readLines_53 : decode cX4_readLines 53 = .ok (.ldc2_w 32, 3) := by decide +kernel
theorem dX4_readLines_56 : decode cX4_readLines 56 = .ok (.invokevirtual 17, 3) := by decide +kernel
theorem dX4_readLines_59 : decode cX4_readLines 59 = .ok (.ifCond .eq 11, 3) := by decide +kernel
theorem dX4_readLines_62 : decode cX4_readLines 62 = .ok (.aload_n 0, 1) := by decide +kernel
theorem dX4_readLines_63 : decode cX4_readLines 63 = .ok (.aload_n 1, 1) := by decide +kernel
theorem dX4_readLines_64 : decode cX4_readLines 64 = .ok (.invokestatic 34, 3) := by decide +kernel
theorem dX4_readLines_67 : decode cX4_readLines 67 = .ok (.goto 80, 3) := by decide +kernel
theorem dX4_readLines_70 : decode cX4_readLines 70 = .ok (.aload_n 0, 1) := by decide +kernel
theorem dX4_readLines_71 : decode cX4_readLines 71 = .ok (.ldc2_w 37, 3) := by decide +kernel
theorem dX4_readLines_74 : decode cX4_readLines 74 = .ok (.invokevirtual 17, 3) := by decide +kernel
theorem dX4_readLines_77 : decode cX4_readLines 77 = .ok (.ifCond .eq 11, 3) := by decide +kernel
theorem dX4_readLines_80 : decode cX4_readLines 80 = .ok (.aload_n 0, 1) := by decide +kernel
theorem dX4_readLines_81 : decode cX4_readLines 81 = .ok (.aload_n 1, 1) := by decide +kernel
theorem dX4_readLines_82 : decode cX4_readLines 82 = .ok (.invokestatic 39, 3) := by decide +kernel
theorem dX4_readLines_85 : decode cX4_readLines 85 = .ok (.goto 62, 3) := by decide +kernel
theorem dX4_readLines_88 : decode cX4_readLines 88 = .ok (.aload_n 0, 1) := by decide +kernel
theorem dX4_readLines_89 : decode cX4_readLines 89 = .ok (.ldc2_w 42, 3) := by decide +kernel
theorem dX4_readLines_92 : decode cX4_readLines 92 = .ok (.invokevirtual 17, 3) := by decide +kernel
theorem dX4_readLines_95 : decode cX4_readLines 95 = .ok (.ifCond .eq 11, 3) := by decide +kernel
theorem dX4_readLines_98 : decode cX4_readLines 98 = .ok (.aload_n 0, 1) := by decide +kernel
theorem dX4_readLines_99 : decode cX4_readLines 99 = .ok (.aload_n 1, 1) := by decide +kernel
theorem dX4_readLines_100 : decode cX4_readLines 100 = .ok (.invokestatic 44, 3) := by decide +kernel
theorem dX4_readLines_103 : decode cX4_readLines 103 = .ok (.goto 44, 3) := by decide +kernel
theorem dX4_readLines_106 : decode cX4_readLines 106 = .ok (.aload_n 0, 1) := by decide +kernel
theorem dX4_readLines_107 : decode cX4_readLines 107 = .ok (.ldc2_w 47, 3) := by decide +kernel
theorem dX4_readLines_110 : decode cX4_readLines 110 = .ok (.invokevirtual 17, 3) := by decide +kernel
theorem dX4_readLines_113 : decode cX4_readLines 113 = .ok (.ifCond .eq 11, 3) := by decide +kernel
theorem dX4_readLines_116 : decode cX4_readLines 116 = .ok (.aload_n 0, 1) := by decide +kernel
theorem dX4_readLines_117 : decode cX4_readLines 117 = .ok (.aload_n 1, 1) := by decide +kernel
theorem dX4_readLines_118 : decode cX4_readLines 118 = .ok (.invokestatic 49, 3) := by decide +kernel
theorem dX4_readLines_121 : decode cX4_readLines 121 = .ok (.goto 26, 3) := by decide +kernel
theorem dX4_readLines_124 : decode cX4_readLines 124 = .ok (.aload_n 0, 1) := by decide +kernel
theorem dX4_readLines_125 : decode cX4_readLines 125 = .ok (.ldc2_w 52, 3) := by decide +kernel
theorem dX4_readLines_128 : decode cX4_readLines 128 = .ok (.invokevirtual 17, 3) := by decide +kernel
theorem dX4_readLines_131 : decode cX4_readLines 131 = .ok (.ifCond .eq 11, 3) := by decide +kernel
theorem dX4_readLines_134 : decode cX4_readLines 134 = .ok (.aload_n 0, 1) := by decide +kernel
theorem dX4_readLines_135 : decode cX4_readLines 135 = .ok (.aload_n 1, 1) := by decide +kernel
theorem dX4_readLines_136 : decode cX4_readLines 136 = .ok (.invokestatic 54, 3) := by decide +kernel
theorem dX4_readLines_139 : decode cX4_readLines 139 = .ok (.goto 8, 3) := by decide +kernel
theorem dX4_readLines_142 : decode cX4_readLines 142 = .ok (.aload_n 0, 1) := by decide +kernel
theorem dX4_readLines_143 : decode cX4_readLines 143 = .ok (.iconst 1, 1) := by decide +kernel
theorem dX4_readLines_144 : decode cX4_readLines 144 = .ok (.invokevirtual 57, 3) := by decide +kernel
theorem dX4_readLines_147 : decode cX4_readLines 147 = .ok (.aload_n 0, 1) := by decide +kernel
theorem dX4_readLines_148 : decode cX4_readLines 148 = .ok (.bipush 59, 2) := by decide +kernel
theorem dX4_readLines_150 : decode cX4_readLines 150 = .ok (.invokevirtual 61, 3) := by decide +kernel
theorem dX4_readLines_153 : decode cX4_readLines 153 = .ok (.iinc 2 1, 3) := by decide +kernel
theorem dX4_readLines_156 : decode cX4_readLines 156 = .ok (.goto (-154), 3) := by decide +kernel
theorem dX4_readLines_159 : decode cX4_readLines 159 = .ok (.aload_n 0, 1) := by decide +kernel
theorem dX4_readLines_160 : decode cX4_readLines 160 = .ok (.invokevirtual 64, 3) := by decide +kernel
theorem dX4_readLines_163 : decode cX4_readLines 163 = .ok (.iload_n 2, 1) := by decide +kernel
theorem dX4_readLines_164 : decode cX4_readLines 164 = .ok (.ireturn, 1) := by decide +kernel
theorem dX4_readReach_0 : decode cX4_readReach 0 = .ok (.aload_n 1, 1) := by decide +kernel
theorem dX4_readReach_1 : decode cX4_readReach 1 = .ok (.getfield 67, 3) := by decide +kernel
theorem dX4_readReach_4 : decode cX4_readReach 4 = .ok (.istore_n 2, 1) := by decide +kernel
theorem dX4_readReach_5 : decode cX4_readReach 5 = .ok (.iload_n 2, 1) := by decide +kernel
theorem dX4_readReach_6 : decode cX4_readReach 6 = .ok (.bipush 10, 2) := by decide +kernel
theorem dX4_readReach_8 : decode cX4_readReach 8 = .ok (.if_icmp .lt 9, 3) := by decide +kernel
theorem dX4_readReach_11 : decode cX4_readReach 11 = .ok (.aload_n 0, 1) := by decide +kernel
theorem dX4_readReach_12 : decode cX4_readReach 12 = .ok (.iconst 4, 1) := by decide +kernel
theorem dX4_readReach_13 : decode cX4_readReach 13 = .ok (.invokevirtual 57, 3) := by decide +kernel
theorem dX4_readReach_16 : decode cX4_readReach 16 = .ok (.return_, 1) := by decide +kernel
theorem dX4_readReach_17 : decode cX4_readReach 17 = .ok (.aload_n 0, 1) := by decide +kernel
theorem dX4_readReach_18 : decode cX4_readReach 18 = .ok (.invokevirtual 73, 3) := by decide +kernel
theorem dX4_readReach_21 : decode cX4_readReach 21 = .ok (.aload_n 1, 1) := by decide +kernel
theorem dX4_readReach_22 : decode cX4_readReach 22 = .ok (.getfield 76, 3) := by decide +kernel
theorem dX4_readReach_25 : decode cX4_readReach 25 = .ok (.aload_n 0, 1) := by decide +kernel
theorem dX4_readReach_26 : decode cX4_readReach 26 = .ok (.iconst 0, 1) := by decide +kernel
theorem dX4_readReach_27 : decode cX4_readReach 27 = .ok (.iload_n 2, 1) := by decide +kernel
theorem dX4_readReach_28 : decode cX4_readReach 28 = .ok (.invokevirtual 82, 3) := by decide +kernel
theorem dX4_readReach_31 : decode cX4_readReach 31 = .ok (.aload_n 1, 1) := by decide +kernel
theorem dX4_readReach_32 : decode cX4_readReach 32 = .ok (.getfield 86, 3) := by decide +kernel
theorem dX4_readReach_35 : decode cX4_readReach 35 = .ok (.iload_n 2, 1) := by decide +kernel
theorem dX4_readReach_36 : decode cX4_readReach 36 = .ok (.aload_n 0, 1) := by decide +kernel
theorem dX4_readReach_37 : decode cX4_readReach 37 = .ok (.iconst 1, 1) := by decide +kernel
theorem dX4_readReach_38 : decode cX4_readReach 38 = .ok (.sipush 9999, 3) := by decide +kernel
theorem dX4_readReach_41 : decode cX4_readReach 41 = .ok (.invokevirtual 90, 3) := by decide +kernel
theorem dX4_readReach_44 : decode cX4_readReach 44 = .ok (.iastore, 1) := by decide +kernel
theorem dX4_readReach_45 : decode cX4_readReach 45 = .ok (.aload_n 1, 1) := by decide +kernel
theorem dX4_readReach_46 : decode cX4_readReach 46 = .ok (.getfield 94, 3) := by decide +kernel
theorem dX4_readReach_49 : decode cX4_readReach 49 = .ok (.iload_n 2, 1) := by decide +kernel
theorem dX4_readReach_50 : decode cX4_readReach 50 = .ok (.aload_n 0, 1) := by decide +kernel
theorem dX4_readReach_51 : decode cX4_readReach 51 = .ok (.iconst 0, 1) := by decide +kernel
theorem dX4_readReach_52 : decode cX4_readReach 52 = .ok (.sipush 500, 3) := by decide +kernel
theorem dX4_readReach_55 : decode cX4_readReach 55 = .ok (.invokevirtual 90, 3) := by decide +kernel
theorem dX4_readReach_58 : decode cX4_readReach 58 = .ok (.iastore, 1) := by decide +kernel
theorem dX4_readReach_59 : decode cX4_readReach 59 = .ok (.aload_n 1, 1) := by decide +kernel
theorem dX4_readReach_60 : decode cX4_readReach 60 = .ok (.iload_n 2, 1) := by decide +kernel
theorem dX4_readReach_61 : decode cX4_readReach 61 = .ok (.iconst 1, 1) := by decide +kernel
theorem dX4_readReach_62 : decode cX4_readReach 62 = .ok (.iadd, 1) := by decide +kernel
theorem dX4_readReach_63 : decode cX4_readReach 63 = .ok (.putfield 67, 3) := by decide +kernel
theorem dX4_readReach_66 : decode cX4_readReach 66 = .ok (.return_, 1) := by decide +kernel
theorem dX4_readColour_0 : decode cX4_readColour 0 = .ok (.aload_n 1, 1) := by decide +kernel
theorem dX4_readColour_1 : decode cX4_readColour 1 = .ok (.getfield 97, 3) := by decide +kernel
theorem dX4_readColour_4 : decode cX4_readColour 4 = .ok (.istore_n 2, 1) := by decide +kernel
theorem dX4_readColour_5 : decode cX4_readColour 5 = .ok (.iload_n 2, 1) := by decide +kernel
theorem dX4_readColour_6 : decode cX4_readColour 6 = .ok (.iconst 4, 1) := by decide +kernel
theorem dX4_readColour_7 : decode cX4_readColour 7 = .ok (.if_icmp .lt 9, 3) := by decide +kernel
theorem dX4_readColour_10 : decode cX4_readColour 10 = .ok (.aload_n 0, 1) := by decide +kernel
theorem dX4_readColour_11 : decode cX4_readColour 11 = .ok (.iconst 4, 1) := by decide +kernel
theorem dX4_readColour_12 : decode cX4_readColour 12 = .ok (.invokevirtual 57, 3) := by decide +kernel
theorem dX4_readColour_15 : decode cX4_readColour 15 = .ok (.return_, 1) := by decide +kernel
theorem dX4_readColour_16 : decode cX4_readColour 16 = .ok (.aload_n 0, 1) := by decide +kernel
theorem dX4_readColour_17 : decode cX4_readColour 17 = .ok (.invokevirtual 73, 3) := by decide +kernel
theorem dX4_readColour_20 : decode cX4_readColour 20 = .ok (.aload_n 1, 1) := by decide +kernel
theorem dX4_readColour_21 : decode cX4_readColour 21 = .ok (.getfield 76, 3) := by decide +kernel
theorem dX4_readColour_24 : decode cX4_readColour 24 = .ok (.aload_n 0, 1) := by decide +kernel
theorem dX4_readColour_25 : decode cX4_readColour 25 = .ok (.iconst 1, 1) := by decide +kernel
theorem dX4_readColour_26 : decode cX4_readColour 26 = .ok (.iload_n 2, 1) := by decide +kernel
theorem dX4_readColour_27 : decode cX4_readColour 27 = .ok (.invokevirtual 82, 3) := by decide +kernel
theorem dX4_readColour_30 : decode cX4_readColour 30 = .ok (.aload_n 1, 1) := by decide +kernel
theorem dX4_readColour_31 : decode cX4_readColour 31 = .ok (.iload_n 2, 1) := by decide +kernel
theorem dX4_readColour_32 : decode cX4_readColour 32 = .ok (.iconst 1, 1) := by decide +kernel
theorem dX4_readColour_33 : decode cX4_readColour 33 = .ok (.iadd, 1) := by decide +kernel
theorem dX4_readColour_34 : decode cX4_readColour 34 = .ok (.putfield 97, 3) := by decide +kernel
theorem dX4_readColour_37 : decode cX4_readColour 37 = .ok (.return_, 1) := by decide +kernel
theorem dX4_readGuild_0 : decode cX4_readGuild 0 = .ok (.aload_n 1, 1) := by decide +kernel
theorem dX4_readGuild_1 : decode cX4_readGuild 1 = .ok (.getfield 100, 3) := by decide +kernel
theorem dX4_readGuild_4 : decode cX4_readGuild 4 = .ok (.istore_n 2, 1) := by decide +kernel
theorem dX4_readGuild_5 : decode cX4_readGuild 5 = .ok (.iload_n 2, 1) := by decide +kernel
theorem dX4_readGuild_6 : decode cX4_readGuild 6 = .ok (.bipush 6, 2) := by decide +kernel
theorem dX4_readGuild_8 : decode cX4_readGuild 8 = .ok (.if_icmp .lt 9, 3) := by decide +kernel
theorem dX4_readGuild_11 : decode cX4_readGuild 11 = .ok (.aload_n 0, 1) := by decide +kernel
theorem dX4_readGuild_12 : decode cX4_readGuild 12 = .ok (.iconst 4, 1) := by decide +kernel
theorem dX4_readGuild_13 : decode cX4_readGuild 13 = .ok (.invokevirtual 57, 3) := by decide +kernel
theorem dX4_readGuild_16 : decode cX4_readGuild 16 = .ok (.return_, 1) := by decide +kernel
theorem dX4_readGuild_17 : decode cX4_readGuild 17 = .ok (.aload_n 0, 1) := by decide +kernel
theorem dX4_readGuild_18 : decode cX4_readGuild 18 = .ok (.invokevirtual 73, 3) := by decide +kernel
theorem dX4_readGuild_21 : decode cX4_readGuild 21 = .ok (.aload_n 1, 1) := by decide +kernel
theorem dX4_readGuild_22 : decode cX4_readGuild 22 = .ok (.getfield 76, 3) := by decide +kernel
theorem dX4_readGuild_25 : decode cX4_readGuild 25 = .ok (.aload_n 0, 1) := by decide +kernel
theorem dX4_readGuild_26 : decode cX4_readGuild 26 = .ok (.iconst 2, 1) := by decide +kernel
theorem dX4_readGuild_27 : decode cX4_readGuild 27 = .ok (.iload_n 2, 1) := by decide +kernel
theorem dX4_readGuild_28 : decode cX4_readGuild 28 = .ok (.invokevirtual 82, 3) := by decide +kernel
theorem dX4_readGuild_31 : decode cX4_readGuild 31 = .ok (.aload_n 1, 1) := by decide +kernel
theorem dX4_readGuild_32 : decode cX4_readGuild 32 = .ok (.getfield 103, 3) := by decide +kernel
theorem dX4_readGuild_35 : decode cX4_readGuild 35 = .ok (.iload_n 2, 1) := by decide +kernel
theorem dX4_readGuild_36 : decode cX4_readGuild 36 = .ok (.aload_n 1, 1) := by decide +kernel
theorem dX4_readGuild_37 : decode cX4_readGuild 37 = .ok (.getfield 76, 3) := by decide +kernel
theorem dX4_readGuild_40 : decode cX4_readGuild 40 = .ok (.aload_n 0, 1) := by decide +kernel
theorem dX4_readGuild_41 : decode cX4_readGuild 41 = .ok (.iconst 0, 1) := by decide +kernel
theorem dX4_readGuild_42 : decode cX4_readGuild 42 = .ok (.invokevirtual 106, 3) := by decide +kernel
theorem dX4_readGuild_45 : decode cX4_readGuild 45 = .ok (.iastore, 1) := by decide +kernel
theorem dX4_readGuild_46 : decode cX4_readGuild 46 = .ok (.aload_n 1, 1) := by decide +kernel
theorem dX4_readGuild_47 : decode cX4_readGuild 47 = .ok (.getfield 110, 3) := by decide +kernel
theorem dX4_readGuild_50 : decode cX4_readGuild 50 = .ok (.iload_n 2, 1) := by decide +kernel
theorem dX4_readGuild_51 : decode cX4_readGuild 51 = .ok (.aload_n 0, 1) := by decide +kernel
theorem dX4_readGuild_52 : decode cX4_readGuild 52 = .ok (.iconst 1, 1) := by decide +kernel
theorem dX4_readGuild_53 : decode cX4_readGuild 53 = .ok (.bipush 24, 2) := by decide +kernel
theorem dX4_readGuild_55 : decode cX4_readGuild 55 = .ok (.invokevirtual 90, 3) := by decide +kernel
theorem dX4_readGuild_58 : decode cX4_readGuild 58 = .ok (.iastore, 1) := by decide +kernel
theorem dX4_readGuild_59 : decode cX4_readGuild 59 = .ok (.aload_n 0, 1) := by decide +kernel
theorem dX4_readGuild_60 : decode cX4_readGuild 60 = .ok (.bipush 59, 2) := by decide +kernel
theorem dX4_readGuild_62 : decode cX4_readGuild 62 = .ok (.invokevirtual 113, 3) := by decide +kernel
theorem dX4_readGuild_65 : decode cX4_readGuild 65 = .ok (.ifCond .eq 8, 3) := by decide +kernel
theorem dX4_readGuild_68 : decode cX4_readGuild 68 = .ok (.aload_n 0, 1) := by decide +kernel
theorem dX4_readGuild_69 : decode cX4_readGuild 69 = .ok (.iconst 1, 1) := by decide +kernel
theorem dX4_readGuild_70 : decode cX4_readGuild 70 = .ok (.invokevirtual 57, 3) := by decide +kernel
theorem dX4_readGuild_73 : decode cX4_readGuild 73 = .ok (.aload_n 0, 1) := by decide +kernel
theorem dX4_readGuild_74 : decode cX4_readGuild 74 = .ok (.aload_n 1, 1) := by decide +kernel
theorem dX4_readGuild_75 : decode cX4_readGuild 75 = .ok (.getfield 76, 3) := by decide +kernel
theorem dX4_readGuild_78 : decode cX4_readGuild 78 = .ok (.aload_n 1, 1) := by decide +kernel
theorem dX4_readGuild_79 : decode cX4_readGuild 79 = .ok (.getfield 117, 3) := by decide +kernel
theorem dX4_readGuild_82 : decode cX4_readGuild 82 = .ok (.iload_n 2, 1) := by decide +kernel
theorem dX4_readGuild_83 : decode cX4_readGuild 83 = .ok (.iconst 4, 1) := by decide +kernel
theorem dX4_readGuild_84 : decode cX4_readGuild 84 = .ok (.imul, 1) := by decide +kernel
theorem dX4_readGuild_85 : decode cX4_readGuild 85 = .ok (.iconst 1, 1) := by decide +kernel
theorem dX4_readGuild_86 : decode cX4_readGuild 86 = .ok (.invokestatic 120, 3) := by decide +kernel
theorem dX4_readGuild_89 : decode cX4_readGuild 89 = .ok (.aload_n 1, 1) := by decide +kernel
theorem dX4_readGuild_90 : decode cX4_readGuild 90 = .ok (.iload_n 2, 1) := by decide +kernel
theorem dX4_readGuild_91 : decode cX4_readGuild 91 = .ok (.iconst 1, 1) := by decide +kernel
theorem dX4_readGuild_92 : decode cX4_readGuild 92 = .ok (.iadd, 1) := by decide +kernel
theorem dX4_readGuild_93 : decode cX4_readGuild 93 = .ok (.putfield 100, 3) := by decide +kernel
theorem dX4_readGuild_96 : decode cX4_readGuild 96 = .ok (.return_, 1) := by decide +kernel
theorem dX4_readUser_0 : decode cX4_readUser 0 = .ok (.aload_n 1, 1) := by decide +kernel
theorem dX4_readUser_1 : decode cX4_readUser 1 = .ok (.getfield 124, 3) := by decide +kernel
theorem dX4_readUser_4 : decode cX4_readUser 4 = .ok (.istore_n 2, 1) := by decide +kernel
theorem dX4_readUser_5 : decode cX4_readUser 5 = .ok (.iload_n 2, 1) := by decide +kernel
theorem dX4_readUser_6 : decode cX4_readUser 6 = .ok (.bipush 6, 2) := by decide +kernel
theorem dX4_readUser_8 : decode cX4_readUser 8 = .ok (.if_icmp .lt 9, 3) := by decide +kernel
theorem dX4_readUser_11 : decode cX4_readUser 11 = .ok (.aload_n 0, 1) := by decide +kernel
theorem dX4_readUser_12 : decode cX4_readUser 12 = .ok (.iconst 4, 1) := by decide +kernel
theorem dX4_readUser_13 : decode cX4_readUser 13 = .ok (.invokevirtual 57, 3) := by decide +kernel
theorem dX4_readUser_16 : decode cX4_readUser 16 = .ok (.return_, 1) := by decide +kernel
theorem dX4_readUser_17 : decode cX4_readUser 17 = .ok (.aload_n 0, 1) := by decide +kernel
theorem dX4_readUser_18 : decode cX4_readUser 18 = .ok (.invokevirtual 73, 3) := by decide +kernel
theorem dX4_readUser_21 : decode cX4_readUser 21 = .ok (.aload_n 1, 1) := by decide +kernel
theorem dX4_readUser_22 : decode cX4_readUser 22 = .ok (.getfield 76, 3) := by decide +kernel
theorem dX4_readUser_25 : decode cX4_readUser 25 = .ok (.aload_n 0, 1) := by decide +kernel
theorem dX4_readUser_26 : decode cX4_readUser 26 = .ok (.iconst 3, 1) := by decide +kernel
theorem dX4_readUser_27 : decode cX4_readUser 27 = .ok (.iload_n 2, 1) := by decide +kernel
theorem dX4_readUser_28 : decode cX4_readUser 28 = .ok (.invokevirtual 82, 3) := by decide +kernel
theorem dX4_readUser_31 : decode cX4_readUser 31 = .ok (.aload_n 1, 1) := by decide +kernel
theorem dX4_readUser_32 : decode cX4_readUser 32 = .ok (.getfield 127, 3) := by decide +kernel
theorem dX4_readUser_35 : decode cX4_readUser 35 = .ok (.iload_n 2, 1) := by decide +kernel
theorem dX4_readUser_36 : decode cX4_readUser 36 = .ok (.aload_n 1, 1) := by decide +kernel
theorem dX4_readUser_37 : decode cX4_readUser 37 = .ok (.getfield 76, 3) := by decide +kernel
theorem dX4_readUser_40 : decode cX4_readUser 40 = .ok (.aload_n 0, 1) := by decide +kernel
theorem dX4_readUser_41 : decode cX4_readUser 41 = .ok (.iconst 0, 1) := by decide +kernel
theorem dX4_readUser_42 : decode cX4_readUser 42 = .ok (.invokevirtual 106, 3) := by decide +kernel
theorem dX4_readUser_45 : decode cX4_readUser 45 = .ok (.iastore, 1) := by decide +kernel
theorem dX4_readUser_46 : decode cX4_readUser 46 = .ok (.aload_n 0, 1) := by decide +kernel
theorem dX4_readUser_47 : decode cX4_readUser 47 = .ok (.iconst 0, 1) := by decide +kernel
theorem dX4_readUser_48 : decode cX4_readUser 48 = .ok (.bipush 23, 2) := by decide +kernel
theorem dX4_readUser_50 : decode cX4_readUser 50 = .ok (.invokevirtual 90, 3) := by decide +kernel
theorem dX4_readUser_53 : decode cX4_readUser 53 = .ok (.istore_n 3, 1) := by decide +kernel
theorem dX4_readUser_54 : decode cX4_readUser 54 = .ok (.aload_n 1, 1) := by decide +kernel
theorem dX4_readUser_55 : decode cX4_readUser 55 = .ok (.getfield 130, 3) := by decide +kernel
theorem dX4_readUser_58 : decode cX4_readUser 58 = .ok (.iload_n 2, 1) := by decide +kernel
theorem dX4_readUser_59 : decode cX4_readUser 59 = .ok (.iload_n 3, 1) := by decide +kernel
theorem dX4_readUser_60 : decode cX4_readUser 60 = .ok (.iastore, 1) := by decide +kernel
theorem dX4_readUser_61 : decode cX4_readUser 61 = .ok (.aload_n 1, 1) := by decide +kernel
theorem dX4_readUser_62 : decode cX4_readUser 62 = .ok (.getfield 133, 3) := by decide +kernel
theorem dX4_readUser_65 : decode cX4_readUser 65 = .ok (.iload_n 2, 1) := by decide +kernel
theorem dX4_readUser_66 : decode cX4_readUser 66 = .ok (.aload_n 0, 1) := by decide +kernel
theorem dX4_readUser_67 : decode cX4_readUser 67 = .ok (.iload_n 3, 1) := by decide +kernel
theorem dX4_readUser_68 : decode cX4_readUser 68 = .ok (.iconst 1, 1) := by decide +kernel
theorem dX4_readUser_69 : decode cX4_readUser 69 = .ok (.iadd, 1) := by decide +kernel
theorem dX4_readUser_70 : decode cX4_readUser 70 = .ok (.bipush 24, 2) := by decide +kernel
theorem dX4_readUser_72 : decode cX4_readUser 72 = .ok (.invokevirtual 90, 3) := by decide +kernel
theorem dX4_readUser_75 : decode cX4_readUser 75 = .ok (.iastore, 1) := by decide +kernel
theorem dX4_readUser_76 : decode cX4_readUser 76 = .ok (.aload_n 0, 1) := by decide +kernel
theorem dX4_readUser_77 : decode cX4_readUser 77 = .ok (.aload_n 1, 1) := by decide +kernel
theorem dX4_readUser_78 : decode cX4_readUser 78 = .ok (.getfield 76, 3) := by decide +kernel
theorem dX4_readUser_81 : decode cX4_readUser 81 = .ok (.aload_n 1, 1) := by decide +kernel
theorem dX4_readUser_82 : decode cX4_readUser 82 = .ok (.getfield 136, 3) := by decide +kernel
theorem dX4_readUser_85 : decode cX4_readUser 85 = .ok (.iload_n 2, 1) := by decide +kernel
theorem dX4_readUser_86 : decode cX4_readUser 86 = .ok (.iconst 4, 1) := by decide +kernel
theorem dX4_readUser_87 : decode cX4_readUser 87 = .ok (.imul, 1) := by decide +kernel
theorem dX4_readUser_88 : decode cX4_readUser 88 = .ok (.iconst 0, 1) := by decide +kernel
theorem dX4_readUser_89 : decode cX4_readUser 89 = .ok (.invokestatic 120, 3) := by decide +kernel
theorem dX4_readUser_92 : decode cX4_readUser 92 = .ok (.aload_n 1, 1) := by decide +kernel
theorem dX4_readUser_93 : decode cX4_readUser 93 = .ok (.iload_n 2, 1) := by decide +kernel
theorem dX4_readUser_94 : decode cX4_readUser 94 = .ok (.iconst 1, 1) := by decide +kernel
theorem dX4_readUser_95 : decode cX4_readUser 95 = .ok (.iadd, 1) := by decide +kernel
theorem dX4_readUser_96 : decode cX4_readUser 96 = .ok (.putfield 124, 3) := by decide +kernel
theorem dX4_readUser_99 : decode cX4_readUser 99 = .ok (.return_, 1) := by decide +kernel
theorem dX4_readShares_0 : decode cX4_readShares 0 = .ok (.iconst 0, 1) := by decide +kernel
theorem dX4_readShares_1 : decode cX4_readShares 1 = .ok (.istore 5, 2) := by decide +kernel
theorem dX4_readShares_3 : decode cX4_readShares 3 = .ok (.iconst 0, 1) := by decide +kernel
theorem dX4_readShares_4 : decode cX4_readShares 4 = .ok (.istore 6, 2) := by decide +kernel
theorem dX4_readShares_6 : decode cX4_readShares 6 = .ok (.iload 6, 2) := by decide +kernel
theorem dX4_readShares_8 : decode cX4_readShares 8 = .ok (.iconst 4, 1) := by decide +kernel
theorem dX4_readShares_9 : decode cX4_readShares 9 = .ok (.if_icmp .gt 92, 3) := by decide +kernel
theorem dX4_readShares_12 : decode cX4_readShares 12 = .ok (.aload_n 0, 1) := by decide +kernel
theorem dX4_readShares_13 : decode cX4_readShares 13 = .ok (.getfield 139, 3) := by decide +kernel
theorem dX4_readShares_16 : decode cX4_readShares 16 = .ok (.ifCond .ne 85, 3) := by decide +kernel
theorem dX4_readShares_19 : decode cX4_readShares 19 = .ok (.aload_n 0, 1) := by decide +kernel
theorem dX4_readShares_20 : decode cX4_readShares 20 = .ok (.bipush 59, 2) := by decide +kernel
theorem dX4_readShares_22 : decode cX4_readShares 22 = .ok (.invokevirtual 113, 3) := by decide +kernel
theorem dX4_readShares_25 : decode cX4_readShares 25 = .ok (.ifCond .ne 76, 3) := by decide +kernel
theorem dX4_readShares_28 : decode cX4_readShares 28 = .ok (.aload_n 1, 1) := by decide +kernel
theorem dX4_readShares_29 : decode cX4_readShares 29 = .ok (.aload_n 0, 1) := by decide +kernel
theorem dX4_readShares_30 : decode cX4_readShares 30 = .ok (.iconst 1, 1) := by decide +kernel
theorem dX4_readShares_31 : decode cX4_readShares 31 = .ok (.invokevirtual 106, 3) := by decide +kernel
theorem dX4_readShares_34 : decode cX4_readShares 34 = .ok (.istore 7, 2) := by decide +kernel
theorem dX4_readShares_36 : decode cX4_readShares 36 = .ok (.iload 7, 2) := by decide +kernel
theorem dX4_readShares_38 : decode cX4_readShares 38 = .ok (.ifCond .lt 18, 3) := by decide +kernel
theorem dX4_readShares_41 : decode cX4_readShares 41 = .ok (.iload 5, 2) := by decide +kernel
theorem dX4_readShares_43 : decode cX4_readShares 43 = .ok (.iload 7, 2) := by decide +kernel
theorem dX4_readShares_45 : decode cX4_readShares 45 = .ok (.ishr, 1) := by decide +kernel
theorem dX4_readShares_46 : decode cX4_readShares 46 = .ok (.iconst 1, 1) := by decide +kernel
theorem dX4_readShares_47 : decode cX4_readShares 47 = .ok (.iand, 1) := by decide +kernel
theorem dX4_readShares_48 : decode cX4_readShares 48 = .ok (.ifCond .eq 8, 3) := by decide +kernel
theorem dX4_readShares_51 : decode cX4_readShares 51 = .ok (.aload_n 0, 1) := by decide +kernel
theorem dX4_readShares_52 : decode cX4_readShares 52 = .ok (.iconst 3, 1) := by decide +kernel
theorem dX4_readShares_53 : decode cX4_readShares 53 = .ok (.invokevirtual 142, 3) := by decide +kernel
theorem dX4_readShares_56 : decode cX4_readShares 56 = .ok (.aload_n 0, 1) := by decide +kernel
theorem dX4_readShares_57 : decode cX4_readShares 57 = .ok (.iload 4, 2) := by decide +kernel
theorem dX4_readShares_59 : decode cX4_readShares 59 = .ok (.sipush 9999, 3) := by decide +kernel
theorem dX4_readShares_62 : decode cX4_readShares 62 = .ok (.invokevirtual 90, 3) := by decide +kernel
theorem dX4_readShares_65 : decode cX4_readShares 65 = .ok (.istore 8, 2) := by decide +kernel
theorem dX4_readShares_67 : decode cX4_readShares 67 = .ok (.iload 7, 2) := by decide +kernel
theorem dX4_readShares_69 : decode cX4_readShares 69 = .ok (.ifCond .lt 26, 3) := by decide +kernel
theorem dX4_readShares_72 : decode cX4_readShares 72 = .ok (.iload 7, 2) := by decide +kernel
theorem dX4_readShares_74 : decode cX4_readShares 74 = .ok (.iconst 4, 1) := by decide +kernel
theorem dX4_readShares_75 : decode cX4_readShares 75 = .ok (.if_icmp .ge 20, 3) := by decide +kernel
theorem dX4_readShares_78 : decode cX4_readShares 78 = .ok (.aload_n 2, 1) := by decide +kernel
theorem dX4_readShares_79 : decode cX4_readShares 79 = .ok (.iload_n 3, 1) := by decide +kernel
theorem dX4_readShares_80 : decode cX4_readShares 80 = .ok (.iload 7, 2) := by decide +kernel
theorem dX4_readShares_82 : decode cX4_readShares 82 = .ok (.iadd, 1) := by decide +kernel
theorem dX4_readShares_83 : decode cX4_readShares 83 = .ok (.iload 8, 2) := by decide +kernel
theorem dX4_readShares_85 : decode cX4_readShares 85 = .ok (.iastore, 1) := by decide +kernel
theorem dX4_readShares_86 : decode cX4_readShares 86 = .ok (.iload 5, 2) := by decide +kernel
theorem dX4_readShares_88 : decode cX4_readShares 88 = .ok (.iconst 1, 1) := by decide +kernel
theorem dX4_readShares_89 : decode cX4_readShares 89 = .ok (.iload 7, 2) := by decide +kernel
theorem dX4_readShares_91 : decode cX4_readShares 91 = .ok (.ishl, 1) := by decide +kernel
theorem dX4_readShares_92 : decode cX4_readShares 92 = .ok (.ior, 1) := by decide +kernel
theorem dX4_readShares_93 : decode cX4_readShares 93 = .ok (.istore 5, 2) := by decide +kernel
theorem dX4_readShares_95 : decode cX4_readShares 95 = .ok (.iinc 6 1, 3) := by decide +kernel
theorem dX4_readShares_98 : decode cX4_readShares 98 = .ok (.goto (-92), 3) := by decide +kernel
theorem dX4_readShares_101 : decode cX4_readShares 101 = .ok (.return_, 1) := by decide +kernel
theorem dX4_readFlow_0 : decode cX4_readFlow 0 = .ok (.aload_n 0, 1) := by decide +kernel
theorem dX4_readFlow_1 : decode cX4_readFlow 1 = .ok (.invokevirtual 73, 3) := by decide +kernel
theorem dX4_readFlow_4 : decode cX4_readFlow 4 = .ok (.aload_n 0, 1) := by decide +kernel
theorem dX4_readFlow_5 : decode cX4_readFlow 5 = .ok (.iconst 0, 1) := by decide +kernel
theorem dX4_readFlow_6 : decode cX4_readFlow 6 = .ok (.bipush 6, 2) := by decide +kernel
theorem dX4_readFlow_8 : decode cX4_readFlow 8 = .ok (.invokevirtual 90, 3) := by decide +kernel
theorem dX4_readFlow_11 : decode cX4_readFlow 11 = .ok (.istore_n 2, 1) := by decide +kernel
theorem dX4_readFlow_12 : decode cX4_readFlow 12 = .ok (.aload_n 1, 1) := by decide +kernel
theorem dX4_readFlow_13 : decode cX4_readFlow 13 = .ok (.getfield 145, 3) := by decide +kernel
theorem dX4_readFlow_16 : decode cX4_readFlow 16 = .ok (.iload_n 2, 1) := by decide +kernel
theorem dX4_readFlow_17 : decode cX4_readFlow 17 = .ok (.iaload, 1) := by decide +kernel
theorem dX4_readFlow_18 : decode cX4_readFlow 18 = .ok (.iconst (-1), 1) := by decide +kernel
theorem dX4_readFlow_19 : decode cX4_readFlow 19 = .ok (.if_icmp .eq 8, 3) := by decide +kernel
theorem dX4_readFlow_22 : decode cX4_readFlow 22 = .ok (.aload_n 0, 1) := by decide +kernel
theorem dX4_readFlow_23 : decode cX4_readFlow 23 = .ok (.iconst 3, 1) := by decide +kernel
theorem dX4_readFlow_24 : decode cX4_readFlow 24 = .ok (.invokevirtual 142, 3) := by decide +kernel
theorem dX4_readFlow_27 : decode cX4_readFlow 27 = .ok (.aload_n 1, 1) := by decide +kernel
theorem dX4_readFlow_28 : decode cX4_readFlow 28 = .ok (.getfield 145, 3) := by decide +kernel
theorem dX4_readFlow_31 : decode cX4_readFlow 31 = .ok (.iload_n 2, 1) := by decide +kernel
theorem dX4_readFlow_32 : decode cX4_readFlow 32 = .ok (.aload_n 0, 1) := by decide +kernel
theorem dX4_readFlow_33 : decode cX4_readFlow 33 = .ok (.iconst 0, 1) := by decide +kernel
theorem dX4_readFlow_34 : decode cX4_readFlow 34 = .ok (.sipush 9999, 3) := by decide +kernel
theorem dX4_readFlow_37 : decode cX4_readFlow 37 = .ok (.invokevirtual 90, 3) := by decide +kernel
theorem dX4_readFlow_40 : decode cX4_readFlow 40 = .ok (.iastore, 1) := by decide +kernel
theorem dX4_readFlow_41 : decode cX4_readFlow 41 = .ok (.return_, 1) := by decide +kernel
theorem dX4_readFlood_0 : decode cX4_readFlood 0 = .ok (.aload_n 1, 1) := by decide +kernel
theorem dX4_readFlood_1 : decode cX4_readFlood 1 = .ok (.getfield 148, 3) := by decide +kernel
theorem dX4_readFlood_4 : decode cX4_readFlood 4 = .ok (.iconst (-1), 1) := by decide +kernel
theorem dX4_readFlood_5 : decode cX4_readFlood 5 = .ok (.if_icmp .eq 9, 3) := by decide +kernel
theorem dX4_readFlood_8 : decode cX4_readFlood 8 = .ok (.aload_n 0, 1) := by decide +kernel
theorem dX4_readFlood_9 : decode cX4_readFlood 9 = .ok (.iconst 3, 1) := by decide +kernel
theorem dX4_readFlood_10 : decode cX4_readFlood 10 = .ok (.invokevirtual 57, 3) := by decide +kernel
theorem dX4_readFlood_13 : decode cX4_readFlood 13 = .ok (.return_, 1) := by decide +kernel
theorem dX4_readFlood_14 : decode cX4_readFlood 14 = .ok (.aload_n 0, 1) := by decide +kernel
theorem dX4_readFlood_15 : decode cX4_readFlood 15 = .ok (.invokevirtual 73, 3) := by decide +kernel
theorem dX4_readFlood_18 : decode cX4_readFlood 18 = .ok (.aload_n 1, 1) := by decide +kernel
theorem dX4_readFlood_19 : decode cX4_readFlood 19 = .ok (.aload_n 0, 1) := by decide +kernel
theorem dX4_readFlood_20 : decode cX4_readFlood 20 = .ok (.iconst 1, 1) := by decide +kernel
theorem dX4_readFlood_21 : decode cX4_readFlood 21 = .ok (.sipush 9999, 3) := by decide +kernel
theorem dX4_readFlood_24 : decode cX4_readFlood 24 = .ok (.invokevirtual 90, 3) := by decide +kernel
theorem dX4_readFlood_27 : decode cX4_readFlood 27 = .ok (.putfield 148, 3) := by decide +kernel
theorem dX4_readFlood_30 : decode cX4_readFlood 30 = .ok (.return_, 1) := by decide +kernel
theorem dX4_readPebble_0 : decode cX4_readPebble 0 = .ok (.aload_n 1, 1) := by decide +kernel
theorem dX4_readPebble_1 : decode cX4_readPebble 1 = .ok (.getfield 151, 3) := by decide +kernel
theorem dX4_readPebble_4 : decode cX4_readPebble 4 = .ok (.istore_n 2, 1) := by decide +kernel
theorem dX4_readPebble_5 : decode cX4_readPebble 5 = .ok (.iload_n 2, 1) := by decide +kernel
theorem dX4_readPebble_6 : decode cX4_readPebble 6 = .ok (.bipush 12, 2) := by decide +kernel
theorem dX4_readPebble_8 : decode cX4_readPebble 8 = .ok (.if_icmp .lt 9, 3) := by decide +kernel
theorem dX4_readPebble_11 : decode cX4_readPebble 11 = .ok (.aload_n 0, 1) := by decide +kernel
theorem dX4_readPebble_12 : decode cX4_readPebble 12 = .ok (.iconst 4, 1) := by decide +kernel
theorem dX4_readPebble_13 : decode cX4_readPebble 13 = .ok (.invokevirtual 57, 3) := by decide +kernel
theorem dX4_readPebble_16 : decode cX4_readPebble 16 = .ok (.return_, 1) := by decide +kernel
theorem dX4_readPebble_17 : decode cX4_readPebble 17 = .ok (.aload_n 0, 1) := by decide +kernel
theorem dX4_readPebble_18 : decode cX4_readPebble 18 = .ok (.invokevirtual 73, 3) := by decide +kernel
theorem dX4_readPebble_21 : decode cX4_readPebble 21 = .ok (.aload_n 1, 1) := by decide +kernel
theorem dX4_readPebble_22 : decode cX4_readPebble 22 = .ok (.getfield 76, 3) := by decide +kernel
theorem dX4_readPebble_25 : decode cX4_readPebble 25 = .ok (.aload_n 0, 1) := by decide +kernel
theorem dX4_readPebble_26 : decode cX4_readPebble 26 = .ok (.iconst 1, 1) := by decide +kernel
theorem dX4_readPebble_27 : decode cX4_readPebble 27 = .ok (.invokevirtual 106, 3) := by decide +kernel
theorem dX4_readPebble_30 : decode cX4_readPebble 30 = .ok (.istore_n 3, 1) := by decide +kernel
theorem dX4_readPebble_31 : decode cX4_readPebble 31 = .ok (.aload_n 0, 1) := by decide +kernel
theorem dX4_readPebble_32 : decode cX4_readPebble 32 = .ok (.iconst 1, 1) := by decide +kernel
theorem dX4_readPebble_33 : decode cX4_readPebble 33 = .ok (.sipush 9999, 3) := by decide +kernel
theorem dX4_readPebble_36 : decode cX4_readPebble 36 = .ok (.invokevirtual 90, 3) := by decide +kernel
theorem dX4_readPebble_39 : decode cX4_readPebble 39 = .ok (.istore 4, 2) := by decide +kernel
theorem dX4_readPebble_41 : decode cX4_readPebble 41 = .ok (.aload_n 1, 1) := by decide +kernel
theorem dX4_readPebble_42 : decode cX4_readPebble 42 = .ok (.iload_n 3, 1) := by decide +kernel
theorem dX4_readPebble_43 : decode cX4_readPebble 43 = .ok (.iload 4, 2) := by decide +kernel
theorem dX4_readPebble_45 : decode cX4_readPebble 45 = .ok (.invokevirtual 154, 3) := by decide +kernel
theorem dX4_readPebble_48 : decode cX4_readPebble 48 = .ok (.ifCond .eq 8, 3) := by decide +kernel
theorem dX4_readPebble_51 : decode cX4_readPebble 51 = .ok (.aload_n 0, 1) := by decide +kernel
theorem dX4_readPebble_52 : decode cX4_readPebble 52 = .ok (.iconst 3, 1) := by decide +kernel
theorem dX4_readPebble_53 : decode cX4_readPebble 53 = .ok (.invokevirtual 142, 3) := by decide +kernel
theorem dX4_readPebble_56 : decode cX4_readPebble 56 = .ok (.aload_n 1, 1) := by decide +kernel
theorem dX4_readPebble_57 : decode cX4_readPebble 57 = .ok (.getfield 158, 3) := by decide +kernel
theorem dX4_readPebble_60 : decode cX4_readPebble 60 = .ok (.iload_n 2, 1) := by decide +kernel
theorem dX4_readPebble_61 : decode cX4_readPebble 61 = .ok (.iload_n 3, 1) := by decide +kernel
theorem dX4_readPebble_62 : decode cX4_readPebble 62 = .ok (.iastore, 1) := by decide +kernel
theorem dX4_readPebble_63 : decode cX4_readPebble 63 = .ok (.aload_n 1, 1) := by decide +kernel
theorem dX4_readPebble_64 : decode cX4_readPebble 64 = .ok (.getfield 161, 3) := by decide +kernel
theorem dX4_readPebble_67 : decode cX4_readPebble 67 = .ok (.iload_n 2, 1) := by decide +kernel
theorem dX4_readPebble_68 : decode cX4_readPebble 68 = .ok (.iload 4, 2) := by decide +kernel
theorem dX4_readPebble_70 : decode cX4_readPebble 70 = .ok (.iastore, 1) := by decide +kernel
theorem dX4_readPebble_71 : decode cX4_readPebble 71 = .ok (.aload_n 1, 1) := by decide +kernel
theorem dX4_readPebble_72 : decode cX4_readPebble 72 = .ok (.getfield 164, 3) := by decide +kernel
theorem dX4_readPebble_75 : decode cX4_readPebble 75 = .ok (.iload_n 2, 1) := by decide +kernel
theorem dX4_readPebble_76 : decode cX4_readPebble 76 = .ok (.aload_n 0, 1) := by decide +kernel
theorem dX4_readPebble_77 : decode cX4_readPebble 77 = .ok (.iconst 0, 1) := by decide +kernel
theorem dX4_readPebble_78 : decode cX4_readPebble 78 = .ok (.sipush 999, 3) := by decide +kernel
theorem dX4_readPebble_81 : decode cX4_readPebble 81 = .ok (.invokevirtual 90, 3) := by decide +kernel
theorem dX4_readPebble_84 : decode cX4_readPebble 84 = .ok (.iastore, 1) := by decide +kernel
theorem dX4_readPebble_85 : decode cX4_readPebble 85 = .ok (.aload_n 1, 1) := by decide +kernel
theorem dX4_readPebble_86 : decode cX4_readPebble 86 = .ok (.iload_n 2, 1) := by decide +kernel
theorem dX4_readPebble_87 : decode cX4_readPebble 87 = .ok (.iconst 1, 1) := by decide +kernel
theorem dX4_readPebble_88 : decode cX4_readPebble 88 = .ok (.iadd, 1) := by decide +kernel
theorem dX4_readPebble_89 : decode cX4_readPebble 89 = .ok (.putfield 151, 3) := by decide +kernel
theorem dX4_readPebble_92 : decode cX4_readPebble 92 = .ok (.return_, 1) := by decide +kernel
theorem dX5_init_0 : decode cX5_init 0 = .ok (.aload_n 0, 1) := by decide +kernel
theorem dX5_init_1 : decode cX5_init 1 = .ok (.invokespecial 1, 3) := by decide +kernel
theorem dX5_init_4 : decode cX5_init 4 = .ok (.aload_n 0, 1) := by decide +kernel
theorem dX5_init_5 : decode cX5_init 5 = .ok (.new 7, 3) := by decide +kernel
theorem dX5_init_8 : decode cX5_init 8 = .ok (.dup, 1) := by decide +kernel
theorem dX5_init_9 : decode cX5_init 9 = .ok (.invokespecial 9, 3) := by decide +kernel
theorem dX5_init_12 : decode cX5_init 12 = .ok (.putfield 10, 3) := by decide +kernel
theorem dX5_init_15 : decode cX5_init 15 = .ok (.aload_n 0, 1) := by decide +kernel
theorem dX5_init_16 : decode cX5_init 16 = .ok (.new 16, 3) := by decide +kernel
theorem dX5_init_19 : decode cX5_init 19 = .ok (.dup, 1) := by decide +kernel
theorem dX5_init_20 : decode cX5_init 20 = .ok (.invokespecial 18, 3) := by decide +kernel
theorem dX5_init_23 : decode cX5_init 23 = .ok (.putfield 19, 3) := by decide +kernel
theorem dX5_init_26 : decode cX5_init 26 = .ok (.aload_n 0, 1) := by decide +kernel
theorem dX5_init_27 : decode cX5_init 27 = .ok (.new 23, 3) := by decide +kernel
theorem dX5_init_30 : decode cX5_init 30 = .ok (.dup, 1) := by decide +kernel
theorem dX5_init_31 : decode cX5_init 31 = .ok (.invokespecial 25, 3) := by decide +kernel
theorem dX5_init_34 : decode cX5_init 34 = .ok (.putfield 26, 3) := by decide +kernel
theorem dX5_init_37 : decode cX5_init 37 = .ok (.aload_n 0, 1) := by decide +kernel
theorem dX5_init_38 : decode cX5_init 38 = .ok (.new 30, 3) := by decide +kernel
theorem dX5_init_41 : decode cX5_init 41 = .ok (.dup, 1) := by decide +kernel
theorem dX5_init_42 : decode cX5_init 42 = .ok (.invokespecial 32, 3) := by decide +kernel
theorem dX5_init_45 : decode cX5_init 45 = .ok (.putfield 33, 3) := by decide +kernel
theorem dX5_init_48 : decode cX5_init 48 = .ok (.return_, 1) := by decide +kernel
theorem dX5_forget_0 : decode cX5_forget 0 = .ok (.aload_n 0, 1) := by decide +kernel
theorem dX5_forget_1 : decode cX5_forget 1 = .ok (.getfield 10, 3) := by decide +kernel
theorem dX5_forget_4 : decode cX5_forget 4 = .ok (.invokevirtual 37, 3) := by decide +kernel
theorem dX5_forget_7 : decode cX5_forget 7 = .ok (.aload_n 0, 1) := by decide +kernel
theorem dX5_forget_8 : decode cX5_forget 8 = .ok (.getfield 19, 3) := by decide +kernel
theorem dX5_forget_11 : decode cX5_forget 11 = .ok (.invokevirtual 40, 3) := by decide +kernel
theorem dX5_forget_14 : decode cX5_forget 14 = .ok (.aload_n 0, 1) := by decide +kernel
theorem dX5_forget_15 : decode cX5_forget 15 = .ok (.getfield 26, 3) := by decide +kernel
theorem dX5_forget_18 : decode cX5_forget 18 = .ok (.iconst 0, 1) := by decide +kernel
theorem dX5_forget_19 : decode cX5_forget 19 = .ok (.putfield 41, 3) := by decide +kernel
theorem dX5_forget_22 : decode cX5_forget 22 = .ok (.aload_n 0, 1) := by decide +kernel
theorem dX5_forget_23 : decode cX5_forget 23 = .ok (.getfield 33, 3) := by decide +kernel
theorem dX5_forget_26 : decode cX5_forget 26 = .ok (.invokevirtual 44, 3) := by decide +kernel
theorem dX5_forget_29 : decode cX5_forget 29 = .ok (.return_, 1) := by decide +kernel
theorem dX5_copyFrom_0 : decode cX5_copyFrom 0 = .ok (.aload_n 0, 1) := by decide +kernel
theorem dX5_copyFrom_1 : decode cX5_copyFrom 1 = .ok (.getfield 10, 3) := by decide +kernel
theorem dX5_copyFrom_4 : decode cX5_copyFrom 4 = .ok (.aload_n 1, 1) := by decide +kernel
theorem dX5_copyFrom_5 : decode cX5_copyFrom 5 = .ok (.getfield 10, 3) := by decide +kernel
theorem dX5_copyFrom_8 : decode cX5_copyFrom 8 = .ok (.invokevirtual 45, 3) := by decide +kernel
theorem dX5_copyFrom_11 : decode cX5_copyFrom 11 = .ok (.aload_n 0, 1) := by decide +kernel
theorem dX5_copyFrom_12 : decode cX5_copyFrom 12 = .ok (.getfield 19, 3) := by decide +kernel
theorem dX5_copyFrom_15 : decode cX5_copyFrom 15 = .ok (.aload_n 1, 1) := by decide +kernel
theorem dX5_copyFrom_16 : decode cX5_copyFrom 16 = .ok (.getfield 19, 3) := by decide +kernel
theorem dX5_copyFrom_19 : decode cX5_copyFrom 19 = .ok (.invokevirtual 49, 3) := by decide +kernel
theorem dX5_copyFrom_22 : decode cX5_copyFrom 22 = .ok (.aload_n 0, 1) := by decide +kernel
theorem dX5_copyFrom_23 : decode cX5_copyFrom 23 = .ok (.getfield 26, 3) := by decide +kernel
theorem dX5_copyFrom_26 : decode cX5_copyFrom 26 = .ok (.aload_n 1, 1) := by decide +kernel
theorem dX5_copyFrom_27 : decode cX5_copyFrom 27 = .ok (.getfield 26, 3) := by decide +kernel
theorem dX5_copyFrom_30 : decode cX5_copyFrom 30 = .ok (.invokevirtual 52, 3) := by decide +kernel
theorem dX5_copyFrom_33 : decode cX5_copyFrom 33 = .ok (.aload_n 0, 1) := by decide +kernel
theorem dX5_copyFrom_34 : decode cX5_copyFrom 34 = .ok (.getfield 33, 3) := by decide +kernel
theorem dX5_copyFrom_37 : decode cX5_copyFrom 37 = .ok (.aload_n 1, 1) := by decide +kernel
theorem dX5_copyFrom_38 : decode cX5_copyFrom 38 = .ok (.getfield 33, 3) := by decide +kernel
theorem dX5_copyFrom_41 : decode cX5_copyFrom 41 = .ok (.invokevirtual 55, 3) := by decide +kernel
theorem dX5_copyFrom_44 : decode cX5_copyFrom 44 = .ok (.return_, 1) := by decide +kernel
theorem dX6_init_0 : decode cX6_init 0 = .ok (.aload_n 0, 1) := by decide +kernel
theorem dX6_init_1 : decode cX6_init 1 = .ok (.invokespecial 5, 3) := by decide +kernel
theorem dX6_init_4 : decode cX6_init 4 = .ok (.aload_n 0, 1) := by decide +kernel
theorem dX6_init_5 : decode cX6_init 5 = .ok (.bipush 40, 2) := by decide +kernel
theorem dX6_init_7 : decode cX6_init 7 = .ok (.newarray .int, 2) := by decide +kernel
theorem dX6_init_9 : decode cX6_init 9 = .ok (.putfield 11, 3) := by decide +kernel
theorem dX6_init_12 : decode cX6_init 12 = .ok (.aload_n 0, 1) := by decide +kernel
theorem dX6_init_13 : decode cX6_init 13 = .ok (.bipush 40, 2) := by decide +kernel
theorem dX6_init_15 : decode cX6_init 15 = .ok (.newarray .int, 2) := by decide +kernel
theorem dX6_init_17 : decode cX6_init 17 = .ok (.putfield 15, 3) := by decide +kernel
theorem dX6_init_20 : decode cX6_init 20 = .ok (.aload_n 0, 1) := by decide +kernel
theorem dX6_init_21 : decode cX6_init 21 = .ok (.bipush 40, 2) := by decide +kernel
theorem dX6_init_23 : decode cX6_init 23 = .ok (.newarray .int, 2) := by decide +kernel
theorem dX6_init_25 : decode cX6_init 25 = .ok (.putfield 18, 3) := by decide +kernel
theorem dX6_init_28 : decode cX6_init 28 = .ok (.aload_n 0, 1) := by decide +kernel
theorem dX6_init_29 : decode cX6_init 29 = .ok (.bipush 40, 2) := by decide +kernel
theorem dX6_init_31 : decode cX6_init 31 = .ok (.newarray .int, 2) := by decide +kernel
theorem dX6_init_33 : decode cX6_init 33 = .ok (.putfield 21, 3) := by decide +kernel
theorem dX6_init_36 : decode cX6_init 36 = .ok (.aload_n 0, 1) := by decide +kernel
theorem dX6_init_37 : decode cX6_init 37 = .ok (.bipush 40, 2) := by decide +kernel
theorem dX6_init_39 : decode cX6_init 39 = .ok (.newarray .int, 2) := by decide +kernel
theorem dX6_init_41 : decode cX6_init 41 = .ok (.putfield 24, 3) := by decide +kernel
theorem dX6_init_44 : decode cX6_init 44 = .ok (.return_, 1) := by decide +kernel
theorem dX6_forget_0 : decode cX6_forget 0 = .ok (.aload_n 0, 1) := by decide +kernel
theorem dX6_forget_1 : decode cX6_forget 1 = .ok (.iconst 0, 1) := by decide +kernel
theorem dX6_forget_2 : decode cX6_forget 2 = .ok (.putfield 27, 3) := by decide +kernel
theorem dX6_forget_5 : decode cX6_forget 5 = .ok (.aload_n 0, 1) := by decide +kernel
theorem dX6_forget_6 : decode cX6_forget 6 = .ok (.iconst 0, 1) := by decide +kernel
theorem dX6_forget_7 : decode cX6_forget 7 = .ok (.putfield 31, 3) := by decide +kernel
theorem dX6_forget_10 : decode cX6_forget 10 = .ok (.return_, 1) := by decide +kernel
theorem dX6_copyFrom_0 : decode cX6_copyFrom 0 = .ok (.aload_n 0, 1) := by decide +kernel
theorem dX6_copyFrom_1 : decode cX6_copyFrom 1 = .ok (.aload_n 1, 1) := by decide +kernel
theorem dX6_copyFrom_2 : decode cX6_copyFrom 2 = .ok (.getfield 27, 3) := by decide +kernel
theorem dX6_copyFrom_5 : decode cX6_copyFrom 5 = .ok (.putfield 27, 3) := by decide +kernel
theorem dX6_copyFrom_8 : decode cX6_copyFrom 8 = .ok (.aload_n 0, 1) := by decide +kernel
theorem dX6_copyFrom_9 : decode cX6_copyFrom 9 = .ok (.aload_n 1, 1) := by decide +kernel
theorem dX6_copyFrom_10 : decode cX6_copyFrom 10 = .ok (.getfield 31, 3) := by decide +kernel
theorem dX6_copyFrom_13 : decode cX6_copyFrom 13 = .ok (.putfield 31, 3) := by decide +kernel
theorem dX6_copyFrom_16 : decode cX6_copyFrom 16 = .ok (.aload_n 1, 1) := by decide +kernel
theorem dX6_copyFrom_17 : decode cX6_copyFrom 17 = .ok (.getfield 11, 3) := by decide +kernel
theorem dX6_copyFrom_20 : decode cX6_copyFrom 20 = .ok (.iconst 0, 1) := by decide +kernel
theorem dX6_copyFrom_21 : decode cX6_copyFrom 21 = .ok (.aload_n 0, 1) := by decide +kernel
theorem dX6_copyFrom_22 : decode cX6_copyFrom 22 = .ok (.getfield 11, 3) := by decide +kernel
theorem dX6_copyFrom_25 : decode cX6_copyFrom 25 = .ok (.iconst 0, 1) := by decide +kernel
theorem dX6_copyFrom_26 : decode cX6_copyFrom 26 = .ok (.bipush 40, 2) := by decide +kernel
theorem dX6_copyFrom_28 : decode cX6_copyFrom 28 = .ok (.invokestatic 34, 3) := by decide +kernel
theorem dX6_copyFrom_31 : decode cX6_copyFrom 31 = .ok (.aload_n 1, 1) := by decide +kernel
theorem dX6_copyFrom_32 : decode cX6_copyFrom 32 = .ok (.getfield 15, 3) := by decide +kernel
theorem dX6_copyFrom_35 : decode cX6_copyFrom 35 = .ok (.iconst 0, 1) := by decide +kernel
theorem dX6_copyFrom_36 : decode cX6_copyFrom 36 = .ok (.aload_n 0, 1) := by decide +kernel
theorem dX6_copyFrom_37 : decode cX6_copyFrom 37 = .ok (.getfield 15, 3) := by decide +kernel
theorem dX6_copyFrom_40 : decode cX6_copyFrom 40 = .ok (.iconst 0, 1) := by decide +kernel
theorem dX6_copyFrom_41 : decode cX6_copyFrom 41 = .ok (.bipush 40, 2) := by decide +kernel
theorem dX6_copyFrom_43 : decode cX6_copyFrom 43 = .ok (.invokestatic 34, 3) := by decide +kernel
theorem dX6_copyFrom_46 : decode cX6_copyFrom 46 = .ok (.aload_n 1, 1) := by decide +kernel
theorem dX6_copyFrom_47 : decode cX6_copyFrom 47 = .ok (.getfield 18, 3) := by decide +kernel
theorem dX6_copyFrom_50 : decode cX6_copyFrom 50 = .ok (.iconst 0, 1) := by decide +kernel
theorem dX6_copyFrom_51 : decode cX6_copyFrom 51 = .ok (.aload_n 0, 1) := by decide +kernel
theorem dX6_copyFrom_52 : decode cX6_copyFrom 52 = .ok (.getfield 18, 3) := by decide +kernel
theorem dX6_copyFrom_55 : decode cX6_copyFrom 55 = .ok (.iconst 0, 1) := by decide +kernel
theorem dX6_copyFrom_56 : decode cX6_copyFrom 56 = .ok (.bipush 40, 2) := by decide +kernel
theorem dX6_copyFrom_58 : decode cX6_copyFrom 58 = .ok (.invokestatic 34, 3) := by decide +kernel
theorem dX6_copyFrom_61 : decode cX6_copyFrom 61 = .ok (.aload_n 1, 1) := by decide +kernel
theorem dX6_copyFrom_62 : decode cX6_copyFrom 62 = .ok (.getfield 21, 3) := by decide +kernel
theorem dX6_copyFrom_65 : decode cX6_copyFrom 65 = .ok (.iconst 0, 1) := by decide +kernel
theorem dX6_copyFrom_66 : decode cX6_copyFrom 66 = .ok (.aload_n 0, 1) := by decide +kernel
theorem dX6_copyFrom_67 : decode cX6_copyFrom 67 = .ok (.getfield 21, 3) := by decide +kernel
theorem dX6_copyFrom_70 : decode cX6_copyFrom 70 = .ok (.iconst 0, 1) := by decide +kernel
theorem dX6_copyFrom_71 : decode cX6_copyFrom 71 = .ok (.bipush 40, 2) := by decide +kernel
theorem dX6_copyFrom_73 : decode cX6_copyFrom 73 = .ok (.invokestatic 34, 3) := by decide +kernel
theorem dX6_copyFrom_76 : decode cX6_copyFrom 76 = .ok (.aload_n 1, 1) := by decide +kernel
theorem dX6_copyFrom_77 : decode cX6_copyFrom 77 = .ok (.getfield 24, 3) := by decide +kernel
theorem dX6_copyFrom_80 : decode cX6_copyFrom 80 = .ok (.iconst 0, 1) := by decide +kernel
theorem dX6_copyFrom_81 : decode cX6_copyFrom 81 = .ok (.aload_n 0, 1) := by decide +kernel
theorem dX6_copyFrom_82 : decode cX6_copyFrom 82 = .ok (.getfield 24, 3) := by decide +kernel
theorem dX6_copyFrom_85 : decode cX6_copyFrom 85 = .ok (.iconst 0, 1) := by decide +kernel
theorem dX6_copyFrom_86 : decode cX6_copyFrom 86 = .ok (.bipush 40, 2) := by decide +kernel
theorem dX6_copyFrom_88 : decode cX6_copyFrom 88 = .ok (.invokestatic 34, 3) := by decide +kernel
theorem dX6_copyFrom_91 : decode cX6_copyFrom 91 = .ok (.return_, 1) := by decide +kernel
theorem dX6_addStep_0 : decode cX6_addStep 0 = .ok (.aload_n 0, 1) := by decide +kernel
theorem dX6_addStep_1 : decode cX6_addStep 1 = .ok (.getfield 31, 3) := by decide +kernel
theorem dX6_addStep_4 : decode cX6_addStep 4 = .ok (.bipush 40, 2) := by decide +kernel
theorem dX6_addStep_6 : decode cX6_addStep 6 = .ok (.if_icmp .ge 65, 3) := by decide +kernel
theorem dX6_addStep_9 : decode cX6_addStep 9 = .ok (.aload_n 0, 1) := by decide +kernel
theorem dX6_addStep_10 : decode cX6_addStep 10 = .ok (.getfield 11, 3) := by decide +kernel
theorem dX6_addStep_13 : decode cX6_addStep 13 = .ok (.aload_n 0, 1) := by decide +kernel
theorem dX6_addStep_14 : decode cX6_addStep 14 = .ok (.getfield 31, 3) := by decide +kernel
theorem dX6_addStep_17 : decode cX6_addStep 17 = .ok (.iload_n 1, 1) := by decide +kernel
theorem dX6_addStep_18 : decode cX6_addStep 18 = .ok (.iastore, 1) := by decide +kernel
theorem dX6_addStep_19 : decode cX6_addStep 19 = .ok (.aload_n 0, 1) := by decide +kernel
theorem dX6_addStep_20 : decode cX6_addStep 20 = .ok (.getfield 15, 3) := by decide +kernel
theorem dX6_addStep_23 : decode cX6_addStep 23 = .ok (.aload_n 0, 1) := by decide +kernel
theorem dX6_addStep_24 : decode cX6_addStep 24 = .ok (.getfield 31, 3) := by decide +kernel
theorem dX6_addStep_27 : decode cX6_addStep 27 = .ok (.iload_n 2, 1) := by decide +kernel
theorem dX6_addStep_28 : decode cX6_addStep 28 = .ok (.iastore, 1) := by decide +kernel
theorem dX6_addStep_29 : decode cX6_addStep 29 = .ok (.aload_n 0, 1) := by decide +kernel
theorem dX6_addStep_30 : decode cX6_addStep 30 = .ok (.getfield 18, 3) := by decide +kernel
theorem dX6_addStep_33 : decode cX6_addStep 33 = .ok (.aload_n 0, 1) := by decide +kernel
theorem dX6_addStep_34 : decode cX6_addStep 34 = .ok (.getfield 31, 3) := by decide +kernel
theorem dX6_addStep_37 : decode cX6_addStep 37 = .ok (.iload_n 3, 1) := by decide +kernel
theorem dX6_addStep_38 : decode cX6_addStep 38 = .ok (.iastore, 1) := by decide +kernel
theorem dX6_addStep_39 : decode cX6_addStep 39 = .ok (.aload_n 0, 1) := by decide +kernel
theorem dX6_addStep_40 : decode cX6_addStep 40 = .ok (.getfield 21, 3) := by decide +kernel
theorem dX6_addStep_43 : decode cX6_addStep 43 = .ok (.aload_n 0, 1) := by decide +kernel
theorem dX6_addStep_44 : decode cX6_addStep 44 = .ok (.getfield 31, 3) := by decide +kernel
theorem dX6_addStep_47 : decode cX6_addStep 47 = .ok (.iload 4, 2) := by decide +kernel
theorem dX6_addStep_49 : decode cX6_addStep 49 = .ok (.iastore, 1) := by decide +kernel
theorem dX6_addStep_50 : decode cX6_addStep 50 = .ok (.aload_n 0, 1) := by decide +kernel
theorem dX6_addStep_51 : decode cX6_addStep 51 = .ok (.getfield 24, 3) := by decide +kernel
theorem dX6_addStep_54 : decode cX6_addStep 54 = .ok (.aload_n 0, 1) := by decide +kernel
theorem dX6_addStep_55 : decode cX6_addStep 55 = .ok (.getfield 31, 3) := by decide +kernel
theorem dX6_addStep_58 : decode cX6_addStep 58 = .ok (.iload 5, 2) := by decide +kernel
theorem dX6_addStep_60 : decode cX6_addStep 60 = .ok (.iastore, 1) := by decide +kernel
theorem dX6_addStep_61 : decode cX6_addStep 61 = .ok (.aload_n 0, 1) := by decide +kernel
theorem dX6_addStep_62 : decode cX6_addStep 62 = .ok (.dup, 1) := by decide +kernel
theorem dX6_addStep_63 : decode cX6_addStep 63 = .ok (.getfield 31, 3) := by decide +kernel
theorem dX6_addStep_66 : decode cX6_addStep 66 = .ok (.iconst 1, 1) := by decide +kernel
theorem dX6_addStep_67 : decode cX6_addStep 67 = .ok (.iadd, 1) := by decide +kernel
theorem dX6_addStep_68 : decode cX6_addStep 68 = .ok (.putfield 31, 3) := by decide +kernel
theorem dX6_addStep_71 : decode cX6_addStep 71 = .ok (.return_, 1) := by decide +kernel
theorem dX6_holds_0 : decode cX6_holds 0 = .ok (.iconst 0, 1) := by decide +kernel
theorem dX6_holds_1 : decode cX6_holds 1 = .ok (.istore 4, 2) := by decide +kernel
theorem dX6_holds_3 : decode cX6_holds 3 = .ok (.iconst 0, 1) := by decide +kernel
theorem dX6_holds_4 : decode cX6_holds 4 = .ok (.istore 5, 2) := by decide +kernel
theorem dX6_holds_6 : decode cX6_holds 6 = .ok (.iload 5, 2) := by decide +kernel
theorem dX6_holds_8 : decode cX6_holds 8 = .ok (.aload_n 0, 1) := by decide +kernel
theorem dX6_holds_9 : decode cX6_holds 9 = .ok (.getfield 31, 3) := by decide +kernel
theorem dX6_holds_12 : decode cX6_holds 12 = .ok (.if_icmp .ge 125, 3) := by decide +kernel
theorem dX6_holds_15 : decode cX6_holds 15 = .ok (.iload 4, 2) := by decide +kernel
theorem dX6_holds_17 : decode cX6_holds 17 = .ok (.iconst 1, 1) := by decide +kernel
theorem dX6_holds_18 : decode cX6_holds 18 = .ok (.iand, 1) := by decide +kernel
theorem dX6_holds_19 : decode cX6_holds 19 = .ok (.istore 6, 2) := by decide +kernel
theorem dX6_holds_21 : decode cX6_holds 21 = .ok (.iload 4, 2) := by decide +kernel
theorem dX6_holds_23 : decode cX6_holds 23 = .ok (.iconst 1, 1) := by decide +kernel
theorem dX6_holds_24 : decode cX6_holds 24 = .ok (.iushr, 1) := by decide +kernel
theorem dX6_holds_25 : decode cX6_holds 25 = .ok (.iconst 1, 1) := by decide +kernel
theorem dX6_holds_26 : decode cX6_holds 26 = .ok (.iand, 1) := by decide +kernel
theorem dX6_holds_27 : decode cX6_holds 27 = .ok (.istore 7, 2) := by decide +kernel
theorem dX6_holds_29 : decode cX6_holds 29 = .ok (.aload_n 0, 1) := by decide +kernel
theorem dX6_holds_30 : decode cX6_holds 30 = .ok (.getfield 11, 3) := by decide +kernel
theorem dX6_holds_33 : decode cX6_holds 33 = .ok (.iload 5, 2) := by decide +kernel
theorem dX6_holds_35 : decode cX6_holds 35 = .ok (.iaload, 1) := by decide +kernel
theorem dX6_holds_36 : decode cX6_holds 36 = .ok (.tableswitch 71 0 2 #[28, 37, 54], 28) := by decide +kernel
theorem dX6_holds_64 : decode cX6_holds 64 = .ok (.iload 4, 2) := by decide +kernel
theorem dX6_holds_66 : decode cX6_holds 66 = .ok (.iconst 1, 1) := by decide +kernel
theorem dX6_holds_67 : decode cX6_holds 67 = .ok (.ixor, 1) := by decide +kernel
theorem dX6_holds_68 : decode cX6_holds 68 = .ok (.istore 4, 2) := by decide +kernel
theorem dX6_holds_70 : decode cX6_holds 70 = .ok (.goto 61, 3) := by decide +kernel
theorem dX6_holds_73 : decode cX6_holds 73 = .ok (.iload 4, 2) := by decide +kernel
theorem dX6_holds_75 : decode cX6_holds 75 = .ok (.iconst 2, 1) := by decide +kernel
theorem dX6_holds_76 : decode cX6_holds 76 = .ok (.iushr, 1) := by decide +kernel
theorem dX6_holds_77 : decode cX6_holds 77 = .ok (.iconst 1, 1) := by decide +kernel
theorem dX6_holds_78 : decode cX6_holds 78 = .ok (.ishl, 1) := by decide +kernel
theorem dX6_holds_79 : decode cX6_holds 79 = .ok (.iload 6, 2) := by decide +kernel
theorem dX6_holds_81 : decode cX6_holds 81 = .ok (.iload 7, 2) := by decide +kernel
theorem dX6_holds_83 : decode cX6_holds 83 = .ok (.iand, 1) := by decide +kernel
theorem dX6_holds_84 : decode cX6_holds 84 = .ok (.ior, 1) := by decide +kernel
theorem dX6_holds_85 : decode cX6_holds 85 = .ok (.istore 4, 2) := by decide +kernel
theorem dX6_holds_87 : decode cX6_holds 87 = .ok (.goto 44, 3) := by decide +kernel
theorem dX6_holds_90 : decode cX6_holds 90 = .ok (.iload 4, 2) := by decide +kernel
theorem dX6_holds_92 : decode cX6_holds 92 = .ok (.iconst 2, 1) := by decide +kernel
theorem dX6_holds_93 : decode cX6_holds 93 = .ok (.iushr, 1) := by decide +kernel
theorem dX6_holds_94 : decode cX6_holds 94 = .ok (.iconst 1, 1) := by decide +kernel
theorem dX6_holds_95 : decode cX6_holds 95 = .ok (.ishl, 1) := by decide +kernel
theorem dX6_holds_96 : decode cX6_holds 96 = .ok (.iload 6, 2) := by decide +kernel
theorem dX6_holds_98 : decode cX6_holds 98 = .ok (.iload 7, 2) := by decide +kernel
theorem dX6_holds_100 : decode cX6_holds 100 = .ok (.ior, 1) := by decide +kernel
theorem dX6_holds_101 : decode cX6_holds 101 = .ok (.ior, 1) := by decide +kernel
theorem dX6_holds_102 : decode cX6_holds 102 = .ok (.istore 4, 2) := by decide +kernel
theorem dX6_holds_104 : decode cX6_holds 104 = .ok (.goto 27, 3) := by decide +kernel
theorem dX6_holds_107 : decode cX6_holds 107 = .ok (.iload 4, 2) := by decide +kernel
theorem dX6_holds_109 : decode cX6_holds 109 = .ok (.iconst 1, 1) := by decide +kernel
theorem dX6_holds_110 : decode cX6_holds 110 = .ok (.ishl, 1) := by decide +kernel
theorem dX6_holds_111 : decode cX6_holds 111 = .ok (.aload_n 0, 1) := by decide +kernel
theorem dX6_holds_112 : decode cX6_holds 112 = .ok (.iload 5, 2) := by decide +kernel
theorem dX6_holds_114 : decode cX6_holds 114 = .ok (.aload_n 1, 1) := by decide +kernel
theorem dX6_holds_115 : decode cX6_holds 115 = .ok (.aload_n 2, 1) := by decide +kernel
theorem dX6_holds_116 : decode cX6_holds 116 = .ok (.iload_n 3, 1) := by decide +kernel
theorem dX6_holds_117 : decode cX6_holds 117 = .ok (.invokevirtual 40, 3) := by decide +kernel
theorem dX6_holds_120 : decode cX6_holds 120 = .ok (.ifCond .eq 7, 3) := by decide +kernel
theorem dX6_holds_123 : decode cX6_holds 123 = .ok (.iconst 1, 1) := by decide +kernel
theorem dX6_holds_124 : decode cX6_holds 124 = .ok (.goto 4, 3) := by decide +kernel
theorem dX6_holds_127 : decode cX6_holds 127 = .ok (.iconst 0, 1) := by decide +kernel
theorem dX6_holds_128 : decode cX6_holds 128 = .ok (.ior, 1) := by decide +kernel
theorem dX6_holds_129 : decode cX6_holds 129 = .ok (.istore 4, 2) := by decide +kernel
theorem dX6_holds_131 : decode cX6_holds 131 = .ok (.iinc 5 1, 3) := by decide +kernel
theorem dX6_holds_134 : decode cX6_holds 134 = .ok (.goto (-128), 3) := by decide +kernel
theorem dX6_holds_137 : decode cX6_holds 137 = .ok (.iload 4, 2) := by decide +kernel
theorem dX6_holds_139 : decode cX6_holds 139 = .ok (.iconst 1, 1) := by decide +kernel
theorem dX6_holds_140 : decode cX6_holds 140 = .ok (.iand, 1) := by decide +kernel
theorem dX6_holds_141 : decode cX6_holds 141 = .ok (.ifCond .eq 7, 3) := by decide +kernel
theorem dX6_holds_144 : decode cX6_holds 144 = .ok (.iconst 1, 1) := by decide +kernel
theorem dX6_holds_145 : decode cX6_holds 145 = .ok (.goto 4, 3) := by decide +kernel
theorem dX6_holds_148 : decode cX6_holds 148 = .ok (.iconst 0, 1) := by decide +kernel
theorem dX6_holds_149 : decode cX6_holds 149 = .ok (.ireturn, 1) := by decide +kernel
theorem dX6_isSo_0 : decode cX6_isSo 0 = .ok (.aload_n 0, 1) := by decide +kernel
theorem dX6_isSo_1 : decode cX6_isSo 1 = .ok (.getfield 11, 3) := by decide +kernel
theorem dX6_isSo_4 : decode cX6_isSo 4 = .ok (.iload_n 1, 1) := by decide +kernel
theorem dX6_isSo_5 : decode cX6_isSo 5 = .ok (.iaload, 1) := by decide +kernel
theorem dX6_isSo_6 : decode cX6_isSo 6 = .ok (.tableswitch 116 3 7 #[34, 59, 72, 97, 105], 34) := by decide +kernel
theorem dX6_isSo_40 : decode cX6_isSo 40 = .ok (.aload_n 3, 1) := by decide +kernel
theorem dX6_isSo_41 : decode cX6_isSo 41 = .ok (.getfield 44, 3) := by decide +kernel
theorem dX6_isSo_44 : decode cX6_isSo 44 = .ok (.iload 4, 2) := by decide +kernel
theorem dX6_isSo_46 : decode cX6_isSo 46 = .ok (.iaload, 1) := by decide +kernel
theorem dX6_isSo_47 : decode cX6_isSo 47 = .ok (.aload_n 0, 1) := by decide +kernel
theorem dX6_isSo_48 : decode cX6_isSo 48 = .ok (.getfield 15, 3) := by decide +kernel
theorem dX6_isSo_51 : decode cX6_isSo 51 = .ok (.iload_n 1, 1) := by decide +kernel
theorem dX6_isSo_52 : decode cX6_isSo 52 = .ok (.iaload, 1) := by decide +kernel
theorem dX6_isSo_53 : decode cX6_isSo 53 = .ok (.ishr, 1) := by decide +kernel
theorem dX6_isSo_54 : decode cX6_isSo 54 = .ok (.iconst 1, 1) := by decide +kernel
theorem dX6_isSo_55 : decode cX6_isSo 55 = .ok (.iand, 1) := by decide +kernel
theorem dX6_isSo_56 : decode cX6_isSo 56 = .ok (.ifCond .eq 7, 3) := by decide +kernel
theorem dX6_isSo_59 : decode cX6_isSo 59 = .ok (.iconst 1, 1) := by decide +kernel
theorem dX6_isSo_60 : decode cX6_isSo 60 = .ok (.goto 4, 3) := by decide +kernel
theorem dX6_isSo_63 : decode cX6_isSo 63 = .ok (.iconst 0, 1) := by decide +kernel
theorem dX6_isSo_64 : decode cX6_isSo 64 = .ok (.ireturn, 1) := by decide +kernel
theorem dX6_isSo_65 : decode cX6_isSo 65 = .ok (.aload_n 3, 1) := by decide +kernel
theorem dX6_isSo_66 : decode cX6_isSo 66 = .ok (.aload_n 0, 1) := by decide +kernel
theorem dX6_isSo_67 : decode cX6_isSo 67 = .ok (.getfield 15, 3) := by decide +kernel
theorem dX6_isSo_70 : decode cX6_isSo 70 = .ok (.iload_n 1, 1) := by decide +kernel
theorem dX6_isSo_71 : decode cX6_isSo 71 = .ok (.iaload, 1) := by decide +kernel
theorem dX6_isSo_72 : decode cX6_isSo 72 = .ok (.iload 4, 2) := by decide +kernel
theorem dX6_isSo_74 : decode cX6_isSo 74 = .ok (.invokevirtual 49, 3) := by decide +kernel
theorem dX6_isSo_77 : decode cX6_isSo 77 = .ok (.ireturn, 1) := by decide +kernel
theorem dX6_isSo_78 : decode cX6_isSo 78 = .ok (.aload_n 0, 1) := by decide +kernel
theorem dX6_isSo_79 : decode cX6_isSo 79 = .ok (.aload_n 3, 1) := by decide +kernel
theorem dX6_isSo_80 : decode cX6_isSo 80 = .ok (.aload_n 2, 1) := by decide +kernel
theorem dX6_isSo_81 : decode cX6_isSo 81 = .ok (.iload 4, 2) := by decide +kernel
theorem dX6_isSo_83 : decode cX6_isSo 83 = .ok (.aload_n 0, 1) := by decide +kernel
theorem dX6_isSo_84 : decode cX6_isSo 84 = .ok (.getfield 18, 3) := by decide +kernel
theorem dX6_isSo_87 : decode cX6_isSo 87 = .ok (.iload_n 1, 1) := by decide +kernel
theorem dX6_isSo_88 : decode cX6_isSo 88 = .ok (.iaload, 1) := by decide +kernel
theorem dX6_isSo_89 : decode cX6_isSo 89 = .ok (.aload_n 0, 1) := by decide +kernel
theorem dX6_isSo_90 : decode cX6_isSo 90 = .ok (.getfield 15, 3) := by decide +kernel
theorem dX6_isSo_93 : decode cX6_isSo 93 = .ok (.iload_n 1, 1) := by decide +kernel
theorem dX6_isSo_94 : decode cX6_isSo 94 = .ok (.iaload, 1) := by decide +kernel
theorem dX6_isSo_95 : decode cX6_isSo 95 = .ok (.invokevirtual 53, 3) := by decide +kernel
theorem dX6_isSo_98 : decode cX6_isSo 98 = .ok (.iload_n 1, 1) := by decide +kernel
theorem dX6_isSo_99 : decode cX6_isSo 99 = .ok (.invokevirtual 57, 3) := by decide +kernel
theorem dX6_isSo_102 : decode cX6_isSo 102 = .ok (.ireturn, 1) := by decide +kernel
theorem dX6_isSo_103 : decode cX6_isSo 103 = .ok (.aload_n 0, 1) := by decide +kernel
theorem dX6_isSo_104 : decode cX6_isSo 104 = .ok (.iload 4, 2) := by decide +kernel
theorem dX6_isSo_106 : decode cX6_isSo 106 = .ok (.iload_n 1, 1) := by decide +kernel
theorem dX6_isSo_107 : decode cX6_isSo 107 = .ok (.invokevirtual 57, 3) := by decide +kernel
theorem dX6_isSo_110 : decode cX6_isSo 110 = .ok (.ireturn, 1) := by decide +kernel
theorem dX6_isSo_111 : decode cX6_isSo 111 = .ok (.aload_n 0, 1) := by decide +kernel
theorem dX6_isSo_112 : decode cX6_isSo 112 = .ok (.iload 4, 2) := by decide +kernel
theorem dX6_isSo_114 : decode cX6_isSo 114 = .ok (.bipush 24, 2) := by decide +kernel
theorem dX6_isSo_116 : decode cX6_isSo 116 = .ok (.idiv, 1) := by decide +kernel
theorem dX6_isSo_117 : decode cX6_isSo 117 = .ok (.iload_n 1, 1) := by decide +kernel
theorem dX6_isSo_118 : decode cX6_isSo 118 = .ok (.invokevirtual 57, 3) := by decide +kernel
theorem dX6_isSo_121 : decode cX6_isSo 121 = .ok (.ireturn, 1) := by decide +kernel
theorem dX6_isSo_122 : decode cX6_isSo 122 = .ok (.aload_n 0, 1) := by decide +kernel
theorem dX6_isSo_123 : decode cX6_isSo 123 = .ok (.aload_n 3, 1) := by decide +kernel
theorem dX6_isSo_124 : decode cX6_isSo 124 = .ok (.aload_n 2, 1) := by decide +kernel
theorem dX6_isSo_125 : decode cX6_isSo 125 = .ok (.iload 4, 2) := by decide +kernel
theorem dX6_isSo_127 : decode cX6_isSo 127 = .ok (.invokevirtual 60, 3) := by decide +kernel
theorem dX6_isSo_130 : decode cX6_isSo 130 = .ok (.iload_n 1, 1) := by decide +kernel
theorem dX6_isSo_131 : decode cX6_isSo 131 = .ok (.invokevirtual 57, 3) := by decide +kernel
theorem dX6_isSo_134 : decode cX6_isSo 134 = .ok (.ireturn, 1) := by decide +kernel
theorem dX6_compares_0 : decode cX6_compares 0 = .ok (.aload_n 0, 1) := by decide +kernel
theorem dX6_compares_1 : decode cX6_compares 1 = .ok (.getfield 21, 3) := by decide +kernel
theorem dX6_compares_4 : decode cX6_compares 4 = .ok (.iload_n 2, 1) := by decide +kernel
theorem dX6_compares_5 : decode cX6_compares 5 = .ok (.iaload, 1) := by decide +kernel
theorem dX6_compares_6 : decode cX6_compares 6 = .ok (.bipush 60, 2) := by decide +kernel
theorem dX6_compares_8 : decode cX6_compares 8 = .ok (.if_icmp .ne 19, 3) := by decide +kernel
theorem dX6_compares_11 : decode cX6_compares 11 = .ok (.iload_n 1, 1) := by decide +kernel
theorem dX6_compares_12 : decode cX6_compares 12 = .ok (.aload_n 0, 1) := by decide +kernel
theorem dX6_compares_13 : decode cX6_compares 13 = .ok (.getfield 24, 3) := by decide +kernel
theorem dX6_compares_16 : decode cX6_compares 16 = .ok (.iload_n 2, 1) := by decide +kernel
theorem dX6_compares_17 : decode cX6_compares 17 = .ok (.iaload, 1) := by decide +kernel
theorem dX6_compares_18 : decode cX6_compares 18 = .ok (.if_icmp .ge 7, 3) := by decide +kernel
theorem dX6_compares_21 : decode cX6_compares 21 = .ok (.iconst 1, 1) := by decide +kernel
theorem dX6_compares_22 : decode cX6_compares 22 = .ok (.goto 4, 3) := by decide +kernel
theorem dX6_compares_25 : decode cX6_compares 25 = .ok (.iconst 0, 1) := by decide +kernel
theorem dX6_compares_26 : decode cX6_compares 26 = .ok (.ireturn, 1) := by decide +kernel
theorem dX6_compares_27 : decode cX6_compares 27 = .ok (.aload_n 0, 1) := by decide +kernel
theorem dX6_compares_28 : decode cX6_compares 28 = .ok (.getfield 21, 3) := by decide +kernel
theorem dX6_compares_31 : decode cX6_compares 31 = .ok (.iload_n 2, 1) := by decide +kernel
theorem dX6_compares_32 : decode cX6_compares 32 = .ok (.iaload, 1) := by decide +kernel
theorem dX6_compares_33 : decode cX6_compares 33 = .ok (.bipush 62, 2) := by decide +kernel
theorem dX6_compares_35 : decode cX6_compares 35 = .ok (.if_icmp .ne 21, 3) := by decide +kernel
theorem dX6_compares_38 : decode cX6_compares 38 = .ok (.iload_n 1, 1) := by decide +kernel
theorem dX6_compares_39 : decode cX6_compares 39 = .ok (.aload_n 0, 1) := by decide +kernel
theorem dX6_compares_40 : decode cX6_compares 40 = .ok (.getfield 24, 3) := by decide +kernel
theorem dX6_compares_43 : decode cX6_compares 43 = .ok (.iload_n 2, 1) := by decide +kernel
theorem dX6_compares_44 : decode cX6_compares 44 = .ok (.iaload, 1) := by decide +kernel
theorem dX6_compares_45 : decode cX6_compares 45 = .ok (.if_icmp .le 7, 3) := by decide +kernel
theorem dX6_compares_48 : decode cX6_compares 48 = .ok (.iconst 1, 1) := by decide +kernel
theorem dX6_compares_49 : decode cX6_compares 49 = .ok (.goto 22, 3) := by decide +kernel
theorem dX6_compares_52 : decode cX6_compares 52 = .ok (.iconst 0, 1) := by decide +kernel
theorem dX6_compares_53 : decode cX6_compares 53 = .ok (.goto 18, 3) := by decide +kernel
theorem dX6_compares_56 : decode cX6_compares 56 = .ok (.iload_n 1, 1) := by decide +kernel
theorem dX6_compares_57 : decode cX6_compares 57 = .ok (.aload_n 0, 1) := by decide +kernel
theorem dX6_compares_58 : decode cX6_compares 58 = .ok (.getfield 24, 3) := by decide +kernel
theorem dX6_compares_61 : decode cX6_compares 61 = .ok (.iload_n 2, 1) := by decide +kernel
theorem dX6_compares_62 : decode cX6_compares 62 = .ok (.iaload, 1) := by decide +kernel
theorem dX6_compares_63 : decode cX6_compares 63 = .ok (.if_icmp .ne 7, 3) := by decide +kernel
theorem dX6_compares_66 : decode cX6_compares 66 = .ok (.iconst 1, 1) := by decide +kernel
theorem dX6_compares_67 : decode cX6_compares 67 = .ok (.goto 4, 3) := by decide +kernel
theorem dX6_compares_70 : decode cX6_compares 70 = .ok (.iconst 0, 1) := by decide +kernel
theorem dX6_compares_71 : decode cX6_compares 71 = .ok (.ireturn, 1) := by decide +kernel
theorem dX7_readCond_0 : decode cX7_readCond 0 = .ok (.aload_n 0, 1) := by decide +kernel
theorem dX7_readCond_1 : decode cX7_readCond 1 = .ok (.aload_n 1, 1) := by decide +kernel
theorem dX7_readCond_2 : decode cX7_readCond 2 = .ok (.aload_n 2, 1) := by decide +kernel
theorem dX7_readCond_3 : decode cX7_readCond 3 = .ok (.iload_n 3, 1) := by decide +kernel
theorem dX7_readCond_4 : decode cX7_readCond 4 = .ok (.invokestatic 9, 3) := by decide +kernel
theorem dX7_readCond_7 : decode cX7_readCond 7 = .ok (.iconst 0, 1) := by decide +kernel
theorem dX7_readCond_8 : decode cX7_readCond 8 = .ok (.istore 4, 2) := by decide +kernel
theorem dX7_readCond_10 : decode cX7_readCond 10 = .ok (.iload 4, 2) := by decide +kernel
theorem dX7_readCond_12 : decode cX7_readCond 12 = .ok (.bipush 20, 2) := by decide +kernel
theorem dX7_readCond_14 : decode cX7_readCond 14 = .ok (.if_icmp .ge 39, 3) := by decide +kernel
theorem dX7_readCond_17 : decode cX7_readCond 17 = .ok (.aload_n 0, 1) := by decide +kernel
theorem dX7_readCond_18 : decode cX7_readCond 18 = .ok (.ldc2_w 19, 3) := by decide +kernel
theorem dX7_readCond_21 : decode cX7_readCond 21 = .ok (.invokevirtual 21, 3) := by decide +kernel
theorem dX7_readCond_24 : decode cX7_readCond 24 = .ok (.ifCond .eq 29, 3) := by decide +kernel
theorem dX7_readCond_27 : decode cX7_readCond 27 = .ok (.aload_n 0, 1) := by decide +kernel
theorem dX7_readCond_28 : decode cX7_readCond 28 = .ok (.invokevirtual 25, 3) := by decide +kernel
theorem dX7_readCond_31 : decode cX7_readCond 31 = .ok (.aload_n 0, 1) := by decide +kernel
theorem dX7_readCond_32 : decode cX7_readCond 32 = .ok (.aload_n 1, 1) := by decide +kernel
theorem dX7_readCond_33 : decode cX7_readCond 33 = .ok (.aload_n 2, 1) := by decide +kernel
theorem dX7_readCond_34 : decode cX7_readCond 34 = .ok (.iload_n 3, 1) := by decide +kernel
theorem dX7_readCond_35 : decode cX7_readCond 35 = .ok (.invokestatic 9, 3) := by decide +kernel
theorem dX7_readCond_38 : decode cX7_readCond 38 = .ok (.aload_n 2, 1) := by decide +kernel
theorem dX7_readCond_39 : decode cX7_readCond 39 = .ok (.iconst 2, 1) := by decide +kernel
theorem dX7_readCond_40 : decode cX7_readCond 40 = .ok (.iconst 0, 1) := by decide +kernel
theorem dX7_readCond_41 : decode cX7_readCond 41 = .ok (.iconst 0, 1) := by decide +kernel
theorem dX7_readCond_42 : decode cX7_readCond 42 = .ok (.iconst 0, 1) := by decide +kernel
theorem dX7_readCond_43 : decode cX7_readCond 43 = .ok (.iconst 0, 1) := by decide +kernel
theorem dX7_readCond_44 : decode cX7_readCond 44 = .ok (.invokevirtual 28, 3) := by decide +kernel
theorem dX7_readCond_47 : decode cX7_readCond 47 = .ok (.iinc 4 1, 3) := by decide +kernel
theorem dX7_readCond_50 : decode cX7_readCond 50 = .ok (.goto (-40), 3) := by decide +kernel
theorem dX7_readCond_53 : decode cX7_readCond 53 = .ok (.return_, 1) := by decide +kernel
theorem dX7_readAll_0 : decode cX7_readAll 0 = .ok (.aload_n 0, 1) := by decide +kernel
theorem dX7_readAll_1 : decode cX7_readAll 1 = .ok (.aload_n 1, 1) := by decide +kernel
theorem dX7_readAll_2 : decode cX7_readAll 2 = .ok (.aload_n 2, 1) := by decide +kernel
theorem dX7_readAll_3 : decode cX7_readAll 3 = .ok (.iload_n 3, 1) := by decide +kernel
theorem dX7_readAll_4 : decode cX7_readAll 4 = .ok (.invokestatic 32, 3) := by decide +kernel
theorem dX7_readAll_7 : decode cX7_readAll 7 = .ok (.iconst 0, 1) := by decide +kernel
theorem dX7_readAll_8 : decode cX7_readAll 8 = .ok (.istore 4, 2) := by decide +kernel
theorem dX7_readAll_10 : decode cX7_readAll 10 = .ok (.iload 4, 2) := by decide +kernel
theorem dX7_readAll_12 : decode cX7_readAll 12 = .ok (.bipush 20, 2) := by decide +kernel
theorem dX7_readAll_14 : decode cX7_readAll 14 = .ok (.if_icmp .ge 39, 3) := by decide +kernel
theorem dX7_readAll_17 : decode cX7_readAll 17 = .ok (.aload_n 0, 1) := by decide +kernel
theorem dX7_readAll_18 : decode cX7_readAll 18 = .ok (.ldc2_w 35, 3) := by decide +kernel
theorem dX7_readAll_21 : decode cX7_readAll 21 = .ok (.invokevirtual 21, 3) := by decide +kernel
theorem dX7_readAll_24 : decode cX7_readAll 24 = .ok (.ifCond .eq 29, 3) := by decide +kernel
theorem dX7_readAll_27 : decode cX7_readAll 27 = .ok (.aload_n 0, 1) := by decide +kernel
theorem dX7_readAll_28 : decode cX7_readAll 28 = .ok (.invokevirtual 25, 3) := by decide +kernel
theorem dX7_readAll_31 : decode cX7_readAll 31 = .ok (.aload_n 0, 1) := by decide +kernel
theorem dX7_readAll_32 : decode cX7_readAll 32 = .ok (.aload_n 1, 1) := by decide +kernel
theorem dX7_readAll_33 : decode cX7_readAll 33 = .ok (.aload_n 2, 1) := by decide +kernel
theorem dX7_readAll_34 : decode cX7_readAll 34 = .ok (.iload_n 3, 1) := by decide +kernel
theorem dX7_readAll_35 : decode cX7_readAll 35 = .ok (.invokestatic 32, 3) := by decide +kernel
theorem dX7_readAll_38 : decode cX7_readAll 38 = .ok (.aload_n 2, 1) := by decide +kernel
theorem dX7_readAll_39 : decode cX7_readAll 39 = .ok (.iconst 1, 1) := by decide +kernel
theorem dX7_readAll_40 : decode cX7_readAll 40 = .ok (.iconst 0, 1) := by decide +kernel
theorem dX7_readAll_41 : decode cX7_readAll 41 = .ok (.iconst 0, 1) := by decide +kernel
theorem dX7_readAll_42 : decode cX7_readAll 42 = .ok (.iconst 0, 1) := by decide +kernel
theorem dX7_readAll_43 : decode cX7_readAll 43 = .ok (.iconst 0, 1) := by decide +kernel
theorem dX7_readAll_44 : decode cX7_readAll 44 = .ok (.invokevirtual 28, 3) := by decide +kernel
theorem dX7_readAll_47 : decode cX7_readAll 47 = .ok (.iinc 4 1, 3) := by decide +kernel
theorem dX7_readAll_50 : decode cX7_readAll 50 = .ok (.goto (-40), 3) := by decide +kernel
theorem dX7_readAll_53 : decode cX7_readAll 53 = .ok (.return_, 1) := by decide +kernel
theorem dX7_readOne_0 : decode cX7_readOne 0 = .ok (.aload_n 0, 1) := by decide +kernel
theorem dX7_readOne_1 : decode cX7_readOne 1 = .ok (.ldc2_w 37, 3) := by decide +kernel
theorem dX7_readOne_4 : decode cX7_readOne 4 = .ok (.invokevirtual 21, 3) := by decide +kernel
theorem dX7_readOne_7 : decode cX7_readOne 7 = .ok (.istore 4, 2) := by decide +kernel
theorem dX7_readOne_9 : decode cX7_readOne 9 = .ok (.aload_n 0, 1) := by decide +kernel
theorem dX7_readOne_10 : decode cX7_readOne 10 = .ok (.bipush 40, 2) := by decide +kernel
theorem dX7_readOne_12 : decode cX7_readOne 12 = .ok (.invokevirtual 39, 3) := by decide +kernel
theorem dX7_readOne_15 : decode cX7_readOne 15 = .ok (.istore 5, 2) := by decide +kernel
theorem dX7_readOne_17 : decode cX7_readOne 17 = .ok (.iload 4, 2) := by decide +kernel
theorem dX7_readOne_19 : decode cX7_readOne 19 = .ok (.ifCond .ne 21, 3) := by decide +kernel
theorem dX7_readOne_22 : decode cX7_readOne 22 = .ok (.iload 5, 2) := by decide +kernel
theorem dX7_readOne_24 : decode cX7_readOne 24 = .ok (.ifCond .ne 16, 3) := by decide +kernel
theorem dX7_readOne_27 : decode cX7_readOne 27 = .ok (.aload_n 0, 1) := by decide +kernel
theorem dX7_readOne_28 : decode cX7_readOne 28 = .ok (.invokestatic 43, 3) := by decide +kernel
theorem dX7_readOne_31 : decode cX7_readOne 31 = .ok (.ifCond .ne 9, 3) := by decide +kernel
theorem dX7_readOne_34 : decode cX7_readOne 34 = .ok (.aload_n 0, 1) := by decide +kernel
theorem dX7_readOne_35 : decode cX7_readOne 35 = .ok (.iconst 1, 1) := by decide +kernel
theorem dX7_readOne_36 : decode cX7_readOne 36 = .ok (.invokevirtual 47, 3) := by decide +kernel
theorem dX7_readOne_39 : decode cX7_readOne 39 = .ok (.return_, 1) := by decide +kernel
theorem dX7_readOne_40 : decode cX7_readOne 40 = .ok (.aload_n 2, 1) := by decide +kernel
theorem dX7_readOne_41 : decode cX7_readOne 41 = .ok (.getfield 51, 3) := by decide +kernel
theorem dX7_readOne_44 : decode cX7_readOne 44 = .ok (.bipush 20, 2) := by decide +kernel
theorem dX7_readOne_46 : decode cX7_readOne 46 = .ok (.if_icmp .ge 9, 3) := by decide +kernel
theorem dX7_readOne_49 : decode cX7_readOne 49 = .ok (.iload_n 3, 1) := by decide +kernel
theorem dX7_readOne_50 : decode cX7_readOne 50 = .ok (.bipush 8, 2) := by decide +kernel
theorem dX7_readOne_52 : decode cX7_readOne 52 = .ok (.if_icmp .le 9, 3) := by decide +kernel
theorem dX7_readOne_55 : decode cX7_readOne 55 = .ok (.aload_n 0, 1) := by decide +kernel
theorem dX7_readOne_56 : decode cX7_readOne 56 = .ok (.iconst 4, 1) := by decide +kernel
theorem dX7_readOne_57 : decode cX7_readOne 57 = .ok (.invokevirtual 47, 3) := by decide +kernel
theorem dX7_readOne_60 : decode cX7_readOne 60 = .ok (.return_, 1) := by decide +kernel
theorem dX7_readOne_61 : decode cX7_readOne 61 = .ok (.aload_n 2, 1) := by decide +kernel
theorem dX7_readOne_62 : decode cX7_readOne 62 = .ok (.dup, 1) := by decide +kernel
theorem dX7_readOne_63 : decode cX7_readOne 63 = .ok (.getfield 51, 3) := by decide +kernel
theorem dX7_readOne_66 : decode cX7_readOne 66 = .ok (.iconst 1, 1) := by decide +kernel
theorem dX7_readOne_67 : decode cX7_readOne 67 = .ok (.iadd, 1) := by decide +kernel
theorem dX7_readOne_68 : decode cX7_readOne 68 = .ok (.putfield 51, 3) := by decide +kernel
theorem dX7_readOne_71 : decode cX7_readOne 71 = .ok (.iload 4, 2) := by decide +kernel
theorem dX7_readOne_73 : decode cX7_readOne 73 = .ok (.ifCond .eq 28, 3) := by decide +kernel
theorem dX7_readOne_76 : decode cX7_readOne 76 = .ok (.aload_n 0, 1) := by decide +kernel
theorem dX7_readOne_77 : decode cX7_readOne 77 = .ok (.invokevirtual 25, 3) := by decide +kernel
theorem dX7_readOne_80 : decode cX7_readOne 80 = .ok (.aload_n 0, 1) := by decide +kernel
theorem dX7_readOne_81 : decode cX7_readOne 81 = .ok (.aload_n 1, 1) := by decide +kernel
theorem dX7_readOne_82 : decode cX7_readOne 82 = .ok (.aload_n 2, 1) := by decide +kernel
theorem dX7_readOne_83 : decode cX7_readOne 83 = .ok (.iload_n 3, 1) := by decide +kernel
theorem dX7_readOne_84 : decode cX7_readOne 84 = .ok (.iconst 1, 1) := by decide +kernel
theorem dX7_readOne_85 : decode cX7_readOne 85 = .ok (.iadd, 1) := by decide +kernel
theorem dX7_readOne_86 : decode cX7_readOne 86 = .ok (.invokestatic 32, 3) := by decide +kernel
theorem dX7_readOne_89 : decode cX7_readOne 89 = .ok (.aload_n 2, 1) := by decide +kernel
theorem dX7_readOne_90 : decode cX7_readOne 90 = .ok (.iconst 0, 1) := by decide +kernel
theorem dX7_readOne_91 : decode cX7_readOne 91 = .ok (.iconst 0, 1) := by decide +kernel
theorem dX7_readOne_92 : decode cX7_readOne 92 = .ok (.iconst 0, 1) := by decide +kernel
theorem dX7_readOne_93 : decode cX7_readOne 93 = .ok (.iconst 0, 1) := by decide +kernel
theorem dX7_readOne_94 : decode cX7_readOne 94 = .ok (.iconst 0, 1) := by decide +kernel
theorem dX7_readOne_95 : decode cX7_readOne 95 = .ok (.invokevirtual 28, 3) := by decide +kernel
theorem dX7_readOne_98 : decode cX7_readOne 98 = .ok (.goto 36, 3) := by decide +kernel
theorem dX7_readOne_101 : decode cX7_readOne 101 = .ok (.iload 5, 2) := by decide +kernel
theorem dX7_readOne_103 : decode cX7_readOne 103 = .ok (.ifCond .eq 25, 3) := by decide +kernel
theorem dX7_readOne_106 : decode cX7_readOne 106 = .ok (.aload_n 0, 1) := by decide +kernel
theorem dX7_readOne_107 : decode cX7_readOne 107 = .ok (.invokevirtual 25, 3) := by decide +kernel
theorem dX7_readOne_110 : decode cX7_readOne 110 = .ok (.aload_n 0, 1) := by decide +kernel
theorem dX7_readOne_111 : decode cX7_readOne 111 = .ok (.aload_n 1, 1) := by decide +kernel
theorem dX7_readOne_112 : decode cX7_readOne 112 = .ok (.aload_n 2, 1) := by decide +kernel
theorem dX7_readOne_113 : decode cX7_readOne 113 = .ok (.iload_n 3, 1) := by decide +kernel
theorem dX7_readOne_114 : decode cX7_readOne 114 = .ok (.iconst 1, 1) := by decide +kernel
theorem dX7_readOne_115 : decode cX7_readOne 115 = .ok (.iadd, 1) := by decide +kernel
theorem dX7_readOne_116 : decode cX7_readOne 116 = .ok (.invokestatic 55, 3) := by decide +kernel
theorem dX7_readOne_119 : decode cX7_readOne 119 = .ok (.aload_n 0, 1) := by decide +kernel
theorem dX7_readOne_120 : decode cX7_readOne 120 = .ok (.bipush 41, 2) := by decide +kernel
theorem dX7_readOne_122 : decode cX7_readOne 122 = .ok (.invokevirtual 58, 3) := by decide +kernel
theorem dX7_readOne_125 : decode cX7_readOne 125 = .ok (.goto 9, 3) := by decide +kernel
theorem dX7_readOne_128 : decode cX7_readOne 128 = .ok (.aload_n 0, 1) := by decide +kernel
theorem dX7_readOne_129 : decode cX7_readOne 129 = .ok (.aload_n 1, 1) := by decide +kernel
theorem dX7_readOne_130 : decode cX7_readOne 130 = .ok (.aload_n 2, 1) := by decide +kernel
theorem dX7_readOne_131 : decode cX7_readOne 131 = .ok (.invokestatic 61, 3) := by decide +kernel
theorem dX7_readOne_134 : decode cX7_readOne 134 = .ok (.return_, 1) := by decide +kernel
theorem dX7_beginsPlain_0 : decode cX7_beginsPlain 0 = .ok (.aload_n 0, 1) := by decide +kernel
theorem dX7_beginsPlain_1 : decode cX7_beginsPlain 1 = .ok (.ldc2_w 65, 3) := by decide +kernel
theorem dX7_beginsPlain_4 : decode cX7_beginsPlain 4 = .ok (.invokevirtual 21, 3) := by decide +kernel
theorem dX7_beginsPlain_7 : decode cX7_beginsPlain 7 = .ok (.ifCond .ne 53, 3) := by decide +kernel
theorem dX7_beginsPlain_10 : decode cX7_beginsPlain 10 = .ok (.aload_n 0, 1) := by decide +kernel
theorem dX7_beginsPlain_11 : decode cX7_beginsPlain 11 = .ok (.ldc2_w 67, 3) := by decide +kernel
theorem dX7_beginsPlain_14 : decode cX7_beginsPlain 14 = .ok (.invokevirtual 21, 3) := by decide +kernel
theorem dX7_beginsPlain_17 : decode cX7_beginsPlain 17 = .ok (.ifCond .ne 43, 3) := by decide +kernel
theorem dX7_beginsPlain_20 : decode cX7_beginsPlain 20 = .ok (.aload_n 0, 1) := by decide +kernel
theorem dX7_beginsPlain_21 : decode cX7_beginsPlain 21 = .ok (.ldc2_w 69, 3) := by decide +kernel
theorem dX7_beginsPlain_24 : decode cX7_beginsPlain 24 = .ok (.invokevirtual 21, 3) := by decide +kernel
theorem dX7_beginsPlain_27 : decode cX7_beginsPlain 27 = .ok (.ifCond .ne 33, 3) := by decide +kernel
theorem dX7_beginsPlain_30 : decode cX7_beginsPlain 30 = .ok (.aload_n 0, 1) := by decide +kernel
theorem dX7_beginsPlain_31 : decode cX7_beginsPlain 31 = .ok (.ldc2_w 71, 3) := by decide +kernel
theorem dX7_beginsPlain_34 : decode cX7_beginsPlain 34 = .ok (.invokevirtual 21, 3) := by decide +kernel
theorem dX7_beginsPlain_37 : decode cX7_beginsPlain 37 = .ok (.ifCond .ne 23, 3) := by decide +kernel
theorem dX7_beginsPlain_40 : decode cX7_beginsPlain 40 = .ok (.aload_n 0, 1) := by decide +kernel
theorem dX7_beginsPlain_41 : decode cX7_beginsPlain 41 = .ok (.ldc2_w 73, 3) := by decide +kernel
theorem dX7_beginsPlain_44 : decode cX7_beginsPlain 44 = .ok (.invokevirtual 21, 3) := by decide +kernel
theorem dX7_beginsPlain_47 : decode cX7_beginsPlain 47 = .ok (.ifCond .ne 13, 3) := by decide +kernel
theorem dX7_beginsPlain_50 : decode cX7_beginsPlain 50 = .ok (.aload_n 0, 1) := by decide +kernel
theorem dX7_beginsPlain_51 : decode cX7_beginsPlain 51 = .ok (.ldc2_w 75, 3) := by decide +kernel
theorem dX7_beginsPlain_54 : decode cX7_beginsPlain 54 = .ok (.invokevirtual 21, 3) := by decide +kernel
theorem dX7_beginsPlain_57 : decode cX7_beginsPlain 57 = .ok (.ifCond .eq 7, 3) := by decide +kernel
theorem dX7_beginsPlain_60 : decode cX7_beginsPlain 60 = .ok (.iconst 1, 1) := by decide +kernel
theorem dX7_beginsPlain_61 : decode cX7_beginsPlain 61 = .ok (.goto 4, 3) := by decide +kernel
theorem dX7_beginsPlain_64 : decode cX7_beginsPlain 64 = .ok (.iconst 0, 1) := by decide +kernel
theorem dX7_beginsPlain_65 : decode cX7_beginsPlain 65 = .ok (.ireturn, 1) := by decide +kernel
theorem dX7_readPlain_0 : decode cX7_readPlain 0 = .ok (.aload_n 0, 1) := by decide +kernel
theorem dX7_readPlain_1 : decode cX7_readPlain 1 = .ok (.ldc2_w 65, 3) := by decide +kernel
theorem dX7_readPlain_4 : decode cX7_readPlain 4 = .ok (.invokevirtual 21, 3) := by decide +kernel
theorem dX7_readPlain_7 : decode cX7_readPlain 7 = .ok (.ifCond .eq 24, 3) := by decide +kernel
theorem dX7_readPlain_10 : decode cX7_readPlain 10 = .ok (.aload_n 0, 1) := by decide +kernel
theorem dX7_readPlain_11 : decode cX7_readPlain 11 = .ok (.invokevirtual 25, 3) := by decide +kernel
theorem dX7_readPlain_14 : decode cX7_readPlain 14 = .ok (.aload_n 2, 1) := by decide +kernel
theorem dX7_readPlain_15 : decode cX7_readPlain 15 = .ok (.iconst 3, 1) := by decide +kernel
theorem dX7_readPlain_16 : decode cX7_readPlain 16 = .ok (.aload_n 1, 1) := by decide +kernel
theorem dX7_readPlain_17 : decode cX7_readPlain 17 = .ok (.aload_n 0, 1) := by decide +kernel
theorem dX7_readPlain_18 : decode cX7_readPlain 18 = .ok (.iconst 2, 1) := by decide +kernel
theorem dX7_readPlain_19 : decode cX7_readPlain 19 = .ok (.invokevirtual 79, 3) := by decide +kernel
theorem dX7_readPlain_22 : decode cX7_readPlain 22 = .ok (.iconst 0, 1) := by decide +kernel
theorem dX7_readPlain_23 : decode cX7_readPlain 23 = .ok (.iconst 0, 1) := by decide +kernel
theorem dX7_readPlain_24 : decode cX7_readPlain 24 = .ok (.iconst 0, 1) := by decide +kernel
theorem dX7_readPlain_25 : decode cX7_readPlain 25 = .ok (.invokevirtual 28, 3) := by decide +kernel
theorem dX7_readPlain_28 : decode cX7_readPlain 28 = .ok (.goto 140, 3) := by decide +kernel
theorem dX7_readPlain_31 : decode cX7_readPlain 31 = .ok (.aload_n 0, 1) := by decide +kernel
theorem dX7_readPlain_32 : decode cX7_readPlain 32 = .ok (.ldc2_w 67, 3) := by decide +kernel
theorem dX7_readPlain_35 : decode cX7_readPlain 35 = .ok (.invokevirtual 21, 3) := by decide +kernel
theorem dX7_readPlain_38 : decode cX7_readPlain 38 = .ok (.ifCond .eq 24, 3) := by decide +kernel
theorem dX7_readPlain_41 : decode cX7_readPlain 41 = .ok (.aload_n 0, 1) := by decide +kernel
theorem dX7_readPlain_42 : decode cX7_readPlain 42 = .ok (.invokevirtual 25, 3) := by decide +kernel
theorem dX7_readPlain_45 : decode cX7_readPlain 45 = .ok (.aload_n 2, 1) := by decide +kernel
theorem dX7_readPlain_46 : decode cX7_readPlain 46 = .ok (.iconst 4, 1) := by decide +kernel
theorem dX7_readPlain_47 : decode cX7_readPlain 47 = .ok (.aload_n 1, 1) := by decide +kernel
theorem dX7_readPlain_48 : decode cX7_readPlain 48 = .ok (.aload_n 0, 1) := by decide +kernel
theorem dX7_readPlain_49 : decode cX7_readPlain 49 = .ok (.iconst 3, 1) := by decide +kernel
theorem dX7_readPlain_50 : decode cX7_readPlain 50 = .ok (.invokevirtual 79, 3) := by decide +kernel
theorem dX7_readPlain_53 : decode cX7_readPlain 53 = .ok (.iconst 0, 1) := by decide +kernel
theorem dX7_readPlain_54 : decode cX7_readPlain 54 = .ok (.iconst 0, 1) := by decide +kernel
theorem dX7_readPlain_55 : decode cX7_readPlain 55 = .ok (.iconst 0, 1) := by decide +kernel
theorem dX7_readPlain_56 : decode cX7_readPlain 56 = .ok (.invokevirtual 28, 3) := by decide +kernel
theorem dX7_readPlain_59 : decode cX7_readPlain 59 = .ok (.goto 109, 3) := by decide +kernel
theorem dX7_readPlain_62 : decode cX7_readPlain 62 = .ok (.aload_n 0, 1) := by decide +kernel
theorem dX7_readPlain_63 : decode cX7_readPlain 63 = .ok (.ldc2_w 69, 3) := by decide +kernel
theorem dX7_readPlain_66 : decode cX7_readPlain 66 = .ok (.invokevirtual 21, 3) := by decide +kernel
theorem dX7_readPlain_69 : decode cX7_readPlain 69 = .ok (.ifCond .eq 34, 3) := by decide +kernel
theorem dX7_readPlain_72 : decode cX7_readPlain 72 = .ok (.aload_n 0, 1) := by decide +kernel
theorem dX7_readPlain_73 : decode cX7_readPlain 73 = .ok (.invokevirtual 25, 3) := by decide +kernel
theorem dX7_readPlain_76 : decode cX7_readPlain 76 = .ok (.aload_n 1, 1) := by decide +kernel
theorem dX7_readPlain_77 : decode cX7_readPlain 77 = .ok (.aload_n 0, 1) := by decide +kernel
theorem dX7_readPlain_78 : decode cX7_readPlain 78 = .ok (.iconst 1, 1) := by decide +kernel
theorem dX7_readPlain_79 : decode cX7_readPlain 79 = .ok (.invokevirtual 79, 3) := by decide +kernel
theorem dX7_readPlain_82 : decode cX7_readPlain 82 = .ok (.istore_n 3, 1) := by decide +kernel
theorem dX7_readPlain_83 : decode cX7_readPlain 83 = .ok (.aload_n 1, 1) := by decide +kernel
theorem dX7_readPlain_84 : decode cX7_readPlain 84 = .ok (.aload_n 0, 1) := by decide +kernel
theorem dX7_readPlain_85 : decode cX7_readPlain 85 = .ok (.iconst 0, 1) := by decide +kernel
theorem dX7_readPlain_86 : decode cX7_readPlain 86 = .ok (.invokevirtual 79, 3) := by decide +kernel
theorem dX7_readPlain_89 : decode cX7_readPlain 89 = .ok (.istore 4, 2) := by decide +kernel
theorem dX7_readPlain_91 : decode cX7_readPlain 91 = .ok (.aload_n 0, 1) := by decide +kernel
theorem dX7_readPlain_92 : decode cX7_readPlain 92 = .ok (.aload_n 2, 1) := by decide +kernel
theorem dX7_readPlain_93 : decode cX7_readPlain 93 = .ok (.iconst 5, 1) := by decide +kernel
theorem dX7_readPlain_94 : decode cX7_readPlain 94 = .ok (.iload_n 3, 1) := by decide +kernel
theorem dX7_readPlain_95 : decode cX7_readPlain 95 = .ok (.iload 4, 2) := by decide +kernel
theorem dX7_readPlain_97 : decode cX7_readPlain 97 = .ok (.invokestatic 83, 3) := by decide +kernel
theorem dX7_readPlain_100 : decode cX7_readPlain 100 = .ok (.goto 68, 3) := by decide +kernel
theorem dX7_readPlain_103 : decode cX7_readPlain 103 = .ok (.aload_n 0, 1) := by decide +kernel
theorem dX7_readPlain_104 : decode cX7_readPlain 104 = .ok (.ldc2_w 71, 3) := by decide +kernel
theorem dX7_readPlain_107 : decode cX7_readPlain 107 = .ok (.invokevirtual 21, 3) := by decide +kernel
theorem dX7_readPlain_110 : decode cX7_readPlain 110 = .ok (.ifCond .eq 19, 3) := by decide +kernel
theorem dX7_readPlain_113 : decode cX7_readPlain 113 = .ok (.aload_n 0, 1) := by decide +kernel
theorem dX7_readPlain_114 : decode cX7_readPlain 114 = .ok (.invokevirtual 25, 3) := by decide +kernel
theorem dX7_readPlain_117 : decode cX7_readPlain 117 = .ok (.aload_n 0, 1) := by decide +kernel
theorem dX7_readPlain_118 : decode cX7_readPlain 118 = .ok (.aload_n 2, 1) := by decide +kernel
theorem dX7_readPlain_119 : decode cX7_readPlain 119 = .ok (.bipush 6, 2) := by decide +kernel
theorem dX7_readPlain_121 : decode cX7_readPlain 121 = .ok (.iconst 0, 1) := by decide +kernel
theorem dX7_readPlain_122 : decode cX7_readPlain 122 = .ok (.iconst 0, 1) := by decide +kernel
theorem dX7_readPlain_123 : decode cX7_readPlain 123 = .ok (.invokestatic 83, 3) := by decide +kernel
theorem dX7_readPlain_126 : decode cX7_readPlain 126 = .ok (.goto 42, 3) := by decide +kernel
theorem dX7_readPlain_129 : decode cX7_readPlain 129 = .ok (.aload_n 0, 1) := by decide +kernel
theorem dX7_readPlain_130 : decode cX7_readPlain 130 = .ok (.ldc2_w 73, 3) := by decide +kernel
theorem dX7_readPlain_133 : decode cX7_readPlain 133 = .ok (.invokevirtual 21, 3) := by decide +kernel
theorem dX7_readPlain_136 : decode cX7_readPlain 136 = .ok (.ifCond .eq 19, 3) := by decide +kernel
theorem dX7_readPlain_139 : decode cX7_readPlain 139 = .ok (.aload_n 0, 1) := by decide +kernel
theorem dX7_readPlain_140 : decode cX7_readPlain 140 = .ok (.invokevirtual 25, 3) := by decide +kernel
theorem dX7_readPlain_143 : decode cX7_readPlain 143 = .ok (.aload_n 0, 1) := by decide +kernel
theorem dX7_readPlain_144 : decode cX7_readPlain 144 = .ok (.aload_n 2, 1) := by decide +kernel
theorem dX7_readPlain_145 : decode cX7_readPlain 145 = .ok (.bipush 7, 2) := by decide +kernel
theorem dX7_readPlain_147 : decode cX7_readPlain 147 = .ok (.iconst 0, 1) := by decide +kernel
theorem dX7_readPlain_148 : decode cX7_readPlain 148 = .ok (.iconst 0, 1) := by decide +kernel
theorem dX7_readPlain_149 : decode cX7_readPlain 149 = .ok (.invokestatic 83, 3) := by decide +kernel
theorem dX7_readPlain_152 : decode cX7_readPlain 152 = .ok (.goto 16, 3) := by decide +kernel
theorem dX7_readPlain_155 : decode cX7_readPlain 155 = .ok (.aload_n 0, 1) := by decide +kernel
theorem dX7_readPlain_156 : decode cX7_readPlain 156 = .ok (.invokevirtual 25, 3) := by decide +kernel
theorem dX7_readPlain_159 : decode cX7_readPlain 159 = .ok (.aload_n 0, 1) := by decide +kernel
theorem dX7_readPlain_160 : decode cX7_readPlain 160 = .ok (.aload_n 2, 1) := by decide +kernel
theorem dX7_readPlain_161 : decode cX7_readPlain 161 = .ok (.bipush 8, 2) := by decide +kernel
theorem dX7_readPlain_163 : decode cX7_readPlain 163 = .ok (.iconst 0, 1) := by decide +kernel
theorem dX7_readPlain_164 : decode cX7_readPlain 164 = .ok (.iconst 0, 1) := by decide +kernel
theorem dX7_readPlain_165 : decode cX7_readPlain 165 = .ok (.invokestatic 83, 3) := by decide +kernel
theorem dX7_readPlain_168 : decode cX7_readPlain 168 = .ok (.return_, 1) := by decide +kernel
theorem dX7_readComparison_0 : decode cX7_readComparison 0 = .ok (.aload_n 0, 1) := by decide +kernel
theorem dX7_readComparison_1 : decode cX7_readComparison 1 = .ok (.invokevirtual 87, 3) := by decide +kernel
theorem dX7_readComparison_4 : decode cX7_readComparison 4 = .ok (.istore 5, 2) := by decide +kernel
theorem dX7_readComparison_6 : decode cX7_readComparison 6 = .ok (.aload_n 1, 1) := by decide +kernel
theorem dX7_readComparison_7 : decode cX7_readComparison 7 = .ok (.iload_n 2, 1) := by decide +kernel
theorem dX7_readComparison_8 : decode cX7_readComparison 8 = .ok (.iload_n 3, 1) := by decide +kernel
theorem dX7_readComparison_9 : decode cX7_readComparison 9 = .ok (.iload 4, 2) := by decide +kernel
theorem dX7_readComparison_11 : decode cX7_readComparison 11 = .ok (.iload 5, 2) := by decide +kernel
theorem dX7_readComparison_13 : decode cX7_readComparison 13 = .ok (.aload_n 0, 1) := by decide +kernel
theorem dX7_readComparison_14 : decode cX7_readComparison 14 = .ok (.iconst 0, 1) := by decide +kernel
theorem dX7_readComparison_15 : decode cX7_readComparison 15 = .ok (.sipush 9999, 3) := by decide +kernel
theorem dX7_readComparison_18 : decode cX7_readComparison 18 = .ok (.invokevirtual 91, 3) := by decide +kernel
theorem dX7_readComparison_21 : decode cX7_readComparison 21 = .ok (.invokevirtual 28, 3) := by decide +kernel
theorem dX7_readComparison_24 : decode cX7_readComparison 24 = .ok (.return_, 1) := by decide +kernel
theorem dX8_init_0 : decode cX8_init 0 = .ok (.aload_n 0, 1) := by decide +kernel
theorem dX8_init_1 : decode cX8_init 1 = .ok (.invokespecial 3, 3) := by decide +kernel
theorem dX8_init_4 : decode cX8_init 4 = .ok (.aload_n 0, 1) := by decide +kernel
theorem dX8_init_5 : decode cX8_init 5 = .ok (.bipush 20, 2) := by decide +kernel
theorem dX8_init_7 : decode cX8_init 7 = .ok (.newarray .int, 2) := by decide +kernel
theorem dX8_init_9 : decode cX8_init 9 = .ok (.putfield 9, 3) := by decide +kernel
theorem dX8_init_12 : decode cX8_init 12 = .ok (.aload_n 0, 1) := by decide +kernel
theorem dX8_init_13 : decode cX8_init 13 = .ok (.bipush 20, 2) := by decide +kernel
theorem dX8_init_15 : decode cX8_init 15 = .ok (.newarray .int, 2) := by decide +kernel
theorem dX8_init_17 : decode cX8_init 17 = .ok (.putfield 15, 3) := by decide +kernel
theorem dX8_init_20 : decode cX8_init 20 = .ok (.aload_n 0, 1) := by decide +kernel
theorem dX8_init_21 : decode cX8_init 21 = .ok (.bipush 20, 2) := by decide +kernel
theorem dX8_init_23 : decode cX8_init 23 = .ok (.newarray .int, 2) := by decide +kernel
theorem dX8_init_25 : decode cX8_init 25 = .ok (.putfield 18, 3) := by decide +kernel
theorem dX8_init_28 : decode cX8_init 28 = .ok (.return_, 1) := by decide +kernel
theorem dX8_copyFrom_0 : decode cX8_copyFrom 0 = .ok (.aload_n 0, 1) := by decide +kernel
theorem dX8_copyFrom_1 : decode cX8_copyFrom 1 = .ok (.aload_n 1, 1) := by decide +kernel
theorem dX8_copyFrom_2 : decode cX8_copyFrom 2 = .ok (.getfield 21, 3) := by decide +kernel
theorem dX8_copyFrom_5 : decode cX8_copyFrom 5 = .ok (.putfield 21, 3) := by decide +kernel
theorem dX8_copyFrom_8 : decode cX8_copyFrom 8 = .ok (.aload_n 1, 1) := by decide +kernel
theorem dX8_copyFrom_9 : decode cX8_copyFrom 9 = .ok (.getfield 9, 3) := by decide +kernel
theorem dX8_copyFrom_12 : decode cX8_copyFrom 12 = .ok (.iconst 0, 1) := by decide +kernel
theorem dX8_copyFrom_13 : decode cX8_copyFrom 13 = .ok (.aload_n 0, 1) := by decide +kernel
theorem dX8_copyFrom_14 : decode cX8_copyFrom 14 = .ok (.getfield 9, 3) := by decide +kernel
theorem dX8_copyFrom_17 : decode cX8_copyFrom 17 = .ok (.iconst 0, 1) := by decide +kernel
theorem dX8_copyFrom_18 : decode cX8_copyFrom 18 = .ok (.bipush 20, 2) := by decide +kernel
theorem dX8_copyFrom_20 : decode cX8_copyFrom 20 = .ok (.invokestatic 25, 3) := by decide +kernel
theorem dX8_copyFrom_23 : decode cX8_copyFrom 23 = .ok (.aload_n 1, 1) := by decide +kernel
theorem dX8_copyFrom_24 : decode cX8_copyFrom 24 = .ok (.getfield 15, 3) := by decide +kernel
theorem dX8_copyFrom_27 : decode cX8_copyFrom 27 = .ok (.iconst 0, 1) := by decide +kernel
theorem dX8_copyFrom_28 : decode cX8_copyFrom 28 = .ok (.aload_n 0, 1) := by decide +kernel
theorem dX8_copyFrom_29 : decode cX8_copyFrom 29 = .ok (.getfield 15, 3) := by decide +kernel
theorem dX8_copyFrom_32 : decode cX8_copyFrom 32 = .ok (.iconst 0, 1) := by decide +kernel
theorem dX8_copyFrom_33 : decode cX8_copyFrom 33 = .ok (.bipush 20, 2) := by decide +kernel
theorem dX8_copyFrom_35 : decode cX8_copyFrom 35 = .ok (.invokestatic 25, 3) := by decide +kernel
theorem dX8_copyFrom_38 : decode cX8_copyFrom 38 = .ok (.aload_n 1, 1) := by decide +kernel
theorem dX8_copyFrom_39 : decode cX8_copyFrom 39 = .ok (.getfield 18, 3) := by decide +kernel
theorem dX8_copyFrom_42 : decode cX8_copyFrom 42 = .ok (.iconst 0, 1) := by decide +kernel
theorem dX8_copyFrom_43 : decode cX8_copyFrom 43 = .ok (.aload_n 0, 1) := by decide +kernel
theorem dX8_copyFrom_44 : decode cX8_copyFrom 44 = .ok (.getfield 18, 3) := by decide +kernel
theorem dX8_copyFrom_47 : decode cX8_copyFrom 47 = .ok (.iconst 0, 1) := by decide +kernel
theorem dX8_copyFrom_48 : decode cX8_copyFrom 48 = .ok (.bipush 20, 2) := by decide +kernel
theorem dX8_copyFrom_50 : decode cX8_copyFrom 50 = .ok (.invokestatic 25, 3) := by decide +kernel
theorem dX8_copyFrom_53 : decode cX8_copyFrom 53 = .ok (.return_, 1) := by decide +kernel
theorem dX8_add_0 : decode cX8_add 0 = .ok (.aload_n 0, 1) := by decide +kernel
theorem dX8_add_1 : decode cX8_add 1 = .ok (.getfield 21, 3) := by decide +kernel
theorem dX8_add_4 : decode cX8_add 4 = .ok (.bipush 20, 2) := by decide +kernel
theorem dX8_add_6 : decode cX8_add 6 = .ok (.if_icmp .ge 43, 3) := by decide +kernel
theorem dX8_add_9 : decode cX8_add 9 = .ok (.aload_n 0, 1) := by decide +kernel
theorem dX8_add_10 : decode cX8_add 10 = .ok (.getfield 9, 3) := by decide +kernel
theorem dX8_add_13 : decode cX8_add 13 = .ok (.aload_n 0, 1) := by decide +kernel
theorem dX8_add_14 : decode cX8_add 14 = .ok (.getfield 21, 3) := by decide +kernel
theorem dX8_add_17 : decode cX8_add 17 = .ok (.iload_n 1, 1) := by decide +kernel
theorem dX8_add_18 : decode cX8_add 18 = .ok (.iastore, 1) := by decide +kernel
theorem dX8_add_19 : decode cX8_add 19 = .ok (.aload_n 0, 1) := by decide +kernel
theorem dX8_add_20 : decode cX8_add 20 = .ok (.getfield 15, 3) := by decide +kernel
theorem dX8_add_23 : decode cX8_add 23 = .ok (.aload_n 0, 1) := by decide +kernel
theorem dX8_add_24 : decode cX8_add 24 = .ok (.getfield 21, 3) := by decide +kernel
theorem dX8_add_27 : decode cX8_add 27 = .ok (.iload_n 2, 1) := by decide +kernel
theorem dX8_add_28 : decode cX8_add 28 = .ok (.iastore, 1) := by decide +kernel
theorem dX8_add_29 : decode cX8_add 29 = .ok (.aload_n 0, 1) := by decide +kernel
theorem dX8_add_30 : decode cX8_add 30 = .ok (.getfield 18, 3) := by decide +kernel
theorem dX8_add_33 : decode cX8_add 33 = .ok (.aload_n 0, 1) := by decide +kernel
theorem dX8_add_34 : decode cX8_add 34 = .ok (.getfield 21, 3) := by decide +kernel
theorem dX8_add_37 : decode cX8_add 37 = .ok (.iload_n 3, 1) := by decide +kernel
theorem dX8_add_38 : decode cX8_add 38 = .ok (.iastore, 1) := by decide +kernel
theorem dX8_add_39 : decode cX8_add 39 = .ok (.aload_n 0, 1) := by decide +kernel
theorem dX8_add_40 : decode cX8_add 40 = .ok (.dup, 1) := by decide +kernel
theorem dX8_add_41 : decode cX8_add 41 = .ok (.getfield 21, 3) := by decide +kernel
theorem dX8_add_44 : decode cX8_add 44 = .ok (.iconst 1, 1) := by decide +kernel
theorem dX8_add_45 : decode cX8_add 45 = .ok (.iadd, 1) := by decide +kernel
theorem dX8_add_46 : decode cX8_add 46 = .ok (.putfield 21, 3) := by decide +kernel
theorem dX8_add_49 : decode cX8_add 49 = .ok (.return_, 1) := by decide +kernel
theorem dX8_lastHour_0 : decode cX8_lastHour 0 = .ok (.iconst (-1), 1) := by decide +kernel
theorem dX8_lastHour_1 : decode cX8_lastHour 1 = .ok (.istore_n 1, 1) := by decide +kernel
theorem dX8_lastHour_2 : decode cX8_lastHour 2 = .ok (.iconst 0, 1) := by decide +kernel
theorem dX8_lastHour_3 : decode cX8_lastHour 3 = .ok (.istore_n 2, 1) := by decide +kernel
theorem dX8_lastHour_4 : decode cX8_lastHour 4 = .ok (.iload_n 2, 1) := by decide +kernel
theorem dX8_lastHour_5 : decode cX8_lastHour 5 = .ok (.aload_n 0, 1) := by decide +kernel
theorem dX8_lastHour_6 : decode cX8_lastHour 6 = .ok (.getfield 21, 3) := by decide +kernel
theorem dX8_lastHour_9 : decode cX8_lastHour 9 = .ok (.if_icmp .ge 20, 3) := by decide +kernel
theorem dX8_lastHour_12 : decode cX8_lastHour 12 = .ok (.iload_n 1, 1) := by decide +kernel
theorem dX8_lastHour_13 : decode cX8_lastHour 13 = .ok (.aload_n 0, 1) := by decide +kernel
theorem dX8_lastHour_14 : decode cX8_lastHour 14 = .ok (.getfield 9, 3) := by decide +kernel
theorem dX8_lastHour_17 : decode cX8_lastHour 17 = .ok (.iload_n 2, 1) := by decide +kernel
theorem dX8_lastHour_18 : decode cX8_lastHour 18 = .ok (.iaload, 1) := by decide +kernel
theorem dX8_lastHour_19 : decode cX8_lastHour 19 = .ok (.invokestatic 31, 3) := by decide +kernel
theorem dX8_lastHour_22 : decode cX8_lastHour 22 = .ok (.istore_n 1, 1) := by decide +kernel
theorem dX8_lastHour_23 : decode cX8_lastHour 23 = .ok (.iinc 2 1, 3) := by decide +kernel
theorem dX8_lastHour_26 : decode cX8_lastHour 26 = .ok (.goto (-22), 3) := by decide +kernel
theorem dX8_lastHour_29 : decode cX8_lastHour 29 = .ok (.iload_n 1, 1) := by decide +kernel
theorem dX8_lastHour_30 : decode cX8_lastHour 30 = .ok (.ireturn, 1) := by decide +kernel
theorem dX8_firstUnlike_0 : decode cX8_firstUnlike 0 = .ok (.sipush 168, 3) := by decide +kernel
theorem dX8_firstUnlike_3 : decode cX8_firstUnlike 3 = .ok (.istore_n 2, 1) := by decide +kernel
theorem dX8_firstUnlike_4 : decode cX8_firstUnlike 4 = .ok (.iconst 0, 1) := by decide +kernel
theorem dX8_firstUnlike_5 : decode cX8_firstUnlike 5 = .ok (.istore_n 3, 1) := by decide +kernel
theorem dX8_firstUnlike_6 : decode cX8_firstUnlike 6 = .ok (.iload_n 3, 1) := by decide +kernel
theorem dX8_firstUnlike_7 : decode cX8_firstUnlike 7 = .ok (.aload_n 0, 1) := by decide +kernel
theorem dX8_firstUnlike_8 : decode cX8_firstUnlike 8 = .ok (.getfield 21, 3) := by decide +kernel
theorem dX8_firstUnlike_11 : decode cX8_firstUnlike 11 = .ok (.if_icmp .ge 49, 3) := by decide +kernel
theorem dX8_firstUnlike_14 : decode cX8_firstUnlike 14 = .ok (.aload_n 1, 1) := by decide +kernel
theorem dX8_firstUnlike_15 : decode cX8_firstUnlike 15 = .ok (.getfield 37, 3) := by decide +kernel
theorem dX8_firstUnlike_18 : decode cX8_firstUnlike 18 = .ok (.aload_n 0, 1) := by decide +kernel
theorem dX8_firstUnlike_19 : decode cX8_firstUnlike 19 = .ok (.getfield 9, 3) := by decide +kernel
theorem dX8_firstUnlike_22 : decode cX8_firstUnlike 22 = .ok (.iload_n 3, 1) := by decide +kernel
theorem dX8_firstUnlike_23 : decode cX8_firstUnlike 23 = .ok (.iaload, 1) := by decide +kernel
theorem dX8_firstUnlike_24 : decode cX8_firstUnlike 24 = .ok (.iconst 4, 1) := by decide +kernel
theorem dX8_firstUnlike_25 : decode cX8_firstUnlike 25 = .ok (.imul, 1) := by decide +kernel
theorem dX8_firstUnlike_26 : decode cX8_firstUnlike 26 = .ok (.aload_n 0, 1) := by decide +kernel
theorem dX8_firstUnlike_27 : decode cX8_firstUnlike 27 = .ok (.getfield 15, 3) := by decide +kernel
theorem dX8_firstUnlike_30 : decode cX8_firstUnlike 30 = .ok (.iload_n 3, 1) := by decide +kernel
theorem dX8_firstUnlike_31 : decode cX8_firstUnlike 31 = .ok (.iaload, 1) := by decide +kernel
theorem dX8_firstUnlike_32 : decode cX8_firstUnlike 32 = .ok (.iadd, 1) := by decide +kernel
theorem dX8_firstUnlike_33 : decode cX8_firstUnlike 33 = .ok (.iaload, 1) := by decide +kernel
theorem dX8_firstUnlike_34 : decode cX8_firstUnlike 34 = .ok (.aload_n 0, 1) := by decide +kernel
theorem dX8_firstUnlike_35 : decode cX8_firstUnlike 35 = .ok (.getfield 18, 3) := by decide +kernel
theorem dX8_firstUnlike_38 : decode cX8_firstUnlike 38 = .ok (.iload_n 3, 1) := by decide +kernel
theorem dX8_firstUnlike_39 : decode cX8_firstUnlike 39 = .ok (.iaload, 1) := by decide +kernel
theorem dX8_firstUnlike_40 : decode cX8_firstUnlike 40 = .ok (.if_icmp .eq 14, 3) := by decide +kernel
theorem dX8_firstUnlike_43 : decode cX8_firstUnlike 43 = .ok (.iload_n 2, 1) := by decide +kernel
theorem dX8_firstUnlike_44 : decode cX8_firstUnlike 44 = .ok (.aload_n 0, 1) := by decide +kernel
theorem dX8_firstUnlike_45 : decode cX8_firstUnlike 45 = .ok (.getfield 9, 3) := by decide +kernel
theorem dX8_firstUnlike_48 : decode cX8_firstUnlike 48 = .ok (.iload_n 3, 1) := by decide +kernel
theorem dX8_firstUnlike_49 : decode cX8_firstUnlike 49 = .ok (.iaload, 1) := by decide +kernel
theorem dX8_firstUnlike_50 : decode cX8_firstUnlike 50 = .ok (.invokestatic 42, 3) := by decide +kernel
theorem dX8_firstUnlike_53 : decode cX8_firstUnlike 53 = .ok (.istore_n 2, 1) := by decide +kernel
theorem dX8_firstUnlike_54 : decode cX8_firstUnlike 54 = .ok (.iinc 3 1, 3) := by decide +kernel
theorem dX8_firstUnlike_57 : decode cX8_firstUnlike 57 = .ok (.goto (-51), 3) := by decide +kernel
theorem dX8_firstUnlike_60 : decode cX8_firstUnlike 60 = .ok (.iload_n 2, 1) := by decide +kernel
theorem dX8_firstUnlike_61 : decode cX8_firstUnlike 61 = .ok (.ireturn, 1) := by decide +kernel
theorem dX8_agree_0 : decode cX8_agree 0 = .ok (.iconst 0, 1) := by decide +kernel
theorem dX8_agree_1 : decode cX8_agree 1 = .ok (.istore_n 3, 1) := by decide +kernel
theorem dX8_agree_2 : decode cX8_agree 2 = .ok (.iload_n 3, 1) := by decide +kernel
theorem dX8_agree_3 : decode cX8_agree 3 = .ok (.aload_n 0, 1) := by decide +kernel
theorem dX8_agree_4 : decode cX8_agree 4 = .ok (.getfield 21, 3) := by decide +kernel
theorem dX8_agree_7 : decode cX8_agree 7 = .ok (.if_icmp .ge 38, 3) := by decide +kernel
theorem dX8_agree_10 : decode cX8_agree 10 = .ok (.aload_n 0, 1) := by decide +kernel
theorem dX8_agree_11 : decode cX8_agree 11 = .ok (.getfield 9, 3) := by decide +kernel
theorem dX8_agree_14 : decode cX8_agree 14 = .ok (.iload_n 3, 1) := by decide +kernel
theorem dX8_agree_15 : decode cX8_agree 15 = .ok (.iaload, 1) := by decide +kernel
theorem dX8_agree_16 : decode cX8_agree 16 = .ok (.iload_n 1, 1) := by decide +kernel
theorem dX8_agree_17 : decode cX8_agree 17 = .ok (.if_icmp .ne 22, 3) := by decide +kernel
theorem dX8_agree_20 : decode cX8_agree 20 = .ok (.aload_n 2, 1) := by decide +kernel
theorem dX8_agree_21 : decode cX8_agree 21 = .ok (.aload_n 0, 1) := by decide +kernel
theorem dX8_agree_22 : decode cX8_agree 22 = .ok (.getfield 15, 3) := by decide +kernel
theorem dX8_agree_25 : decode cX8_agree 25 = .ok (.iload_n 3, 1) := by decide +kernel
theorem dX8_agree_26 : decode cX8_agree 26 = .ok (.iaload, 1) := by decide +kernel
theorem dX8_agree_27 : decode cX8_agree 27 = .ok (.iaload, 1) := by decide +kernel
theorem dX8_agree_28 : decode cX8_agree 28 = .ok (.aload_n 0, 1) := by decide +kernel
theorem dX8_agree_29 : decode cX8_agree 29 = .ok (.getfield 18, 3) := by decide +kernel
theorem dX8_agree_32 : decode cX8_agree 32 = .ok (.iload_n 3, 1) := by decide +kernel
theorem dX8_agree_33 : decode cX8_agree 33 = .ok (.iaload, 1) := by decide +kernel
theorem dX8_agree_34 : decode cX8_agree 34 = .ok (.if_icmp .eq 5, 3) := by decide +kernel
theorem dX8_agree_37 : decode cX8_agree 37 = .ok (.iconst 0, 1) := by decide +kernel
theorem dX8_agree_38 : decode cX8_agree 38 = .ok (.ireturn, 1) := by decide +kernel
theorem dX8_agree_39 : decode cX8_agree 39 = .ok (.iinc 3 1, 3) := by decide +kernel
theorem dX8_agree_42 : decode cX8_agree 42 = .ok (.goto (-40), 3) := by decide +kernel
theorem dX8_agree_45 : decode cX8_agree 45 = .ok (.iconst 1, 1) := by decide +kernel
theorem dX8_agree_46 : decode cX8_agree 46 = .ok (.ireturn, 1) := by decide +kernel
theorem dX9_init_0 : decode cX9_init 0 = .ok (.aload_n 0, 1) := by decide +kernel
theorem dX9_init_1 : decode cX9_init 1 = .ok (.invokespecial 3, 3) := by decide +kernel
theorem dX9_init_4 : decode cX9_init 4 = .ok (.aload_n 0, 1) := by decide +kernel
theorem dX9_init_5 : decode cX9_init 5 = .ok (.sipush 940, 3) := by decide +kernel
theorem dX9_init_8 : decode cX9_init 8 = .ok (.newarray .byte, 2) := by decide +kernel
theorem dX9_init_10 : decode cX9_init 10 = .ok (.putfield 9, 3) := by decide +kernel
theorem dX9_init_13 : decode cX9_init 13 = .ok (.return_, 1) := by decide +kernel
theorem dX9_put_0 : decode cX9_put 0 = .ok (.bipush 24, 2) := by decide +kernel
theorem dX9_put_2 : decode cX9_put 2 = .ok (.istore_n 2, 1) := by decide +kernel
theorem dX9_put_3 : decode cX9_put 3 = .ok (.iload_n 2, 1) := by decide +kernel
theorem dX9_put_4 : decode cX9_put 4 = .ok (.ifCond .lt 42, 3) := by decide +kernel
theorem dX9_put_7 : decode cX9_put 7 = .ok (.aload_n 0, 1) := by decide +kernel
theorem dX9_put_8 : decode cX9_put 8 = .ok (.getfield 15, 3) := by decide +kernel
theorem dX9_put_11 : decode cX9_put 11 = .ok (.sipush 940, 3) := by decide +kernel
theorem dX9_put_14 : decode cX9_put 14 = .ok (.if_icmp .ge 26, 3) := by decide +kernel
theorem dX9_put_17 : decode cX9_put 17 = .ok (.aload_n 0, 1) := by decide +kernel
theorem dX9_put_18 : decode cX9_put 18 = .ok (.getfield 9, 3) := by decide +kernel
theorem dX9_put_21 : decode cX9_put 21 = .ok (.aload_n 0, 1) := by decide +kernel
theorem dX9_put_22 : decode cX9_put 22 = .ok (.getfield 15, 3) := by decide +kernel
theorem dX9_put_25 : decode cX9_put 25 = .ok (.iload_n 1, 1) := by decide +kernel
theorem dX9_put_26 : decode cX9_put 26 = .ok (.iload_n 2, 1) := by decide +kernel
theorem dX9_put_27 : decode cX9_put 27 = .ok (.iushr, 1) := by decide +kernel
theorem dX9_put_28 : decode cX9_put 28 = .ok (.i2b, 1) := by decide +kernel
theorem dX9_put_29 : decode cX9_put 29 = .ok (.bastore, 1) := by decide +kernel
theorem dX9_put_30 : decode cX9_put 30 = .ok (.aload_n 0, 1) := by decide +kernel
theorem dX9_put_31 : decode cX9_put 31 = .ok (.dup, 1) := by decide +kernel
theorem dX9_put_32 : decode cX9_put 32 = .ok (.getfield 15, 3) := by decide +kernel
theorem dX9_put_35 : decode cX9_put 35 = .ok (.iconst 1, 1) := by decide +kernel
theorem dX9_put_36 : decode cX9_put 36 = .ok (.iadd, 1) := by decide +kernel
theorem dX9_put_37 : decode cX9_put 37 = .ok (.putfield 15, 3) := by decide +kernel
theorem dX9_put_40 : decode cX9_put 40 = .ok (.iinc 2 (-8), 3) := by decide +kernel
theorem dX9_put_43 : decode cX9_put 43 = .ok (.goto (-40), 3) := by decide +kernel
theorem dX9_put_46 : decode cX9_put 46 = .ok (.return_, 1) := by decide +kernel
theorem dX9_byteAt_0 : decode cX9_byteAt 0 = .ok (.iload_n 1, 1) := by decide +kernel
theorem dX9_byteAt_1 : decode cX9_byteAt 1 = .ok (.ifCond .lt 23, 3) := by decide +kernel
theorem dX9_byteAt_4 : decode cX9_byteAt 4 = .ok (.iload_n 1, 1) := by decide +kernel
theorem dX9_byteAt_5 : decode cX9_byteAt 5 = .ok (.sipush 940, 3) := by decide +kernel
theorem dX9_byteAt_8 : decode cX9_byteAt 8 = .ok (.if_icmp .ge 16, 3) := by decide +kernel
theorem dX9_byteAt_11 : decode cX9_byteAt 11 = .ok (.aload_n 0, 1) := by decide +kernel
theorem dX9_byteAt_12 : decode cX9_byteAt 12 = .ok (.getfield 9, 3) := by decide +kernel
theorem dX9_byteAt_15 : decode cX9_byteAt 15 = .ok (.iload_n 1, 1) := by decide +kernel
theorem dX9_byteAt_16 : decode cX9_byteAt 16 = .ok (.baload, 1) := by decide +kernel
theorem dX9_byteAt_17 : decode cX9_byteAt 17 = .ok (.sipush 255, 3) := by decide +kernel
theorem dX9_byteAt_20 : decode cX9_byteAt 20 = .ok (.iand, 1) := by decide +kernel
theorem dX9_byteAt_21 : decode cX9_byteAt 21 = .ok (.goto 4, 3) := by decide +kernel
theorem dX9_byteAt_24 : decode cX9_byteAt 24 = .ok (.iconst (-1), 1) := by decide +kernel
theorem dX9_byteAt_25 : decode cX9_byteAt 25 = .ok (.ireturn, 1) := by decide +kernel
theorem dX9_open_0 : decode cX9_open 0 = .ok (.aload_n 0, 1) := by decide +kernel
theorem dX9_open_1 : decode cX9_open 1 = .ok (.aload_n 0, 1) := by decide +kernel
theorem dX9_open_2 : decode cX9_open 2 = .ok (.getfield 15, 3) := by decide +kernel
theorem dX9_open_5 : decode cX9_open 5 = .ok (.putfield 19, 3) := by decide +kernel
theorem dX9_open_8 : decode cX9_open 8 = .ok (.aload_n 0, 1) := by decide +kernel
theorem dX9_open_9 : decode cX9_open 9 = .ok (.iconst 0, 1) := by decide +kernel
theorem dX9_open_10 : decode cX9_open 10 = .ok (.putfield 15, 3) := by decide +kernel
theorem dX9_open_13 : decode cX9_open 13 = .ok (.aload_n 0, 1) := by decide +kernel
theorem dX9_open_14 : decode cX9_open 14 = .ok (.aload_n 0, 1) := by decide +kernel
theorem dX9_open_15 : decode cX9_open 15 = .ok (.getfield 19, 3) := by decide +kernel
theorem dX9_open_18 : decode cX9_open 18 = .ok (.iload_n 1, 1) := by decide +kernel
theorem dX9_open_19 : decode cX9_open 19 = .ok (.invokestatic 22, 3) := by decide +kernel
theorem dX9_open_22 : decode cX9_open 22 = .ok (.putfield 28, 3) := by decide +kernel
theorem dX9_open_25 : decode cX9_open 25 = .ok (.aload_n 0, 1) := by decide +kernel
theorem dX9_open_26 : decode cX9_open 26 = .ok (.iconst 0, 1) := by decide +kernel
theorem dX9_open_27 : decode cX9_open 27 = .ok (.putfield 31, 3) := by decide +kernel
theorem dX9_open_30 : decode cX9_open 30 = .ok (.aload_n 0, 1) := by decide +kernel
theorem dX9_open_31 : decode cX9_open 31 = .ok (.iconst 0, 1) := by decide +kernel
theorem dX9_open_32 : decode cX9_open 32 = .ok (.putfield 34, 3) := by decide +kernel
theorem dX9_open_35 : decode cX9_open 35 = .ok (.aload_n 0, 1) := by decide +kernel
theorem dX9_open_36 : decode cX9_open 36 = .ok (.iconst 0, 1) := by decide +kernel
theorem dX9_open_37 : decode cX9_open 37 = .ok (.putfield 37, 3) := by decide +kernel
theorem dX9_open_40 : decode cX9_open 40 = .ok (.aload_n 0, 1) := by decide +kernel
theorem dX9_open_41 : decode cX9_open 41 = .ok (.iconst 0, 1) := by decide +kernel
theorem dX9_open_42 : decode cX9_open 42 = .ok (.putfield 40, 3) := by decide +kernel
theorem dX9_open_45 : decode cX9_open 45 = .ok (.aload_n 0, 1) := by decide +kernel
theorem dX9_open_46 : decode cX9_open 46 = .ok (.invokevirtual 43, 3) := by decide +kernel
theorem dX9_open_49 : decode cX9_open 49 = .ok (.return_, 1) := by decide +kernel
theorem dX9_advance_0 : decode cX9_advance 0 = .ok (.aload_n 0, 1) := by decide +kernel
theorem dX9_advance_1 : decode cX9_advance 1 = .ok (.getfield 37, 3) := by decide +kernel
theorem dX9_advance_4 : decode cX9_advance 4 = .ok (.ifCond .eq 4, 3) := by decide +kernel
theorem dX9_advance_7 : decode cX9_advance 7 = .ok (.return_, 1) := by decide +kernel
theorem dX9_advance_8 : decode cX9_advance 8 = .ok (.aload_n 0, 1) := by decide +kernel
theorem dX9_advance_9 : decode cX9_advance 9 = .ok (.aload_n 0, 1) := by decide +kernel
theorem dX9_advance_10 : decode cX9_advance 10 = .ok (.getfield 34, 3) := by decide +kernel
theorem dX9_advance_13 : decode cX9_advance 13 = .ok (.putfield 46, 3) := by decide +kernel
theorem dX9_advance_16 : decode cX9_advance 16 = .ok (.aload_n 0, 1) := by decide +kernel
theorem dX9_advance_17 : decode cX9_advance 17 = .ok (.getfield 31, 3) := by decide +kernel
theorem dX9_advance_20 : decode cX9_advance 20 = .ok (.istore_n 1, 1) := by decide +kernel
theorem dX9_advance_21 : decode cX9_advance 21 = .ok (.iload_n 1, 1) := by decide +kernel
theorem dX9_advance_22 : decode cX9_advance 22 = .ok (.aload_n 0, 1) := by decide +kernel
theorem dX9_advance_23 : decode cX9_advance 23 = .ok (.getfield 28, 3) := by decide +kernel
theorem dX9_advance_26 : decode cX9_advance 26 = .ok (.if_icmp .ge 31, 3) := by decide +kernel
theorem dX9_advance_29 : decode cX9_advance 29 = .ok (.aload_n 0, 1) := by decide +kernel
theorem dX9_advance_30 : decode cX9_advance 30 = .ok (.getfield 9, 3) := by decide +kernel
theorem dX9_advance_33 : decode cX9_advance 33 = .ok (.iload_n 1, 1) := by decide +kernel
theorem dX9_advance_34 : decode cX9_advance 34 = .ok (.baload, 1) := by decide +kernel
theorem dX9_advance_35 : decode cX9_advance 35 = .ok (.bipush 32, 2) := by decide +kernel
theorem dX9_advance_37 : decode cX9_advance 37 = .ok (.if_icmp .eq 14, 3) := by decide +kernel
theorem dX9_advance_40 : decode cX9_advance 40 = .ok (.aload_n 0, 1) := by decide +kernel
theorem dX9_advance_41 : decode cX9_advance 41 = .ok (.getfield 9, 3) := by decide +kernel
theorem dX9_advance_44 : decode cX9_advance 44 = .ok (.iload_n 1, 1) := by decide +kernel
theorem dX9_advance_45 : decode cX9_advance 45 = .ok (.baload, 1) := by decide +kernel
theorem dX9_advance_46 : decode cX9_advance 46 = .ok (.bipush 10, 2) := by decide +kernel
theorem dX9_advance_48 : decode cX9_advance 48 = .ok (.if_icmp .ne 9, 3) := by decide +kernel
theorem dX9_advance_51 : decode cX9_advance 51 = .ok (.iinc 1 1, 3) := by decide +kernel
theorem dX9_advance_54 : decode cX9_advance 54 = .ok (.goto (-33), 3) := by decide +kernel
theorem dX9_advance_57 : decode cX9_advance 57 = .ok (.aload_n 0, 1) := by decide +kernel
theorem dX9_advance_58 : decode cX9_advance 58 = .ok (.iload_n 1, 1) := by decide +kernel
theorem dX9_advance_59 : decode cX9_advance 59 = .ok (.aload_n 0, 1) := by decide +kernel
theorem dX9_advance_60 : decode cX9_advance 60 = .ok (.getfield 28, 3) := by decide +kernel
theorem dX9_advance_63 : decode cX9_advance 63 = .ok (.invokestatic 22, 3) := by decide +kernel
theorem dX9_advance_66 : decode cX9_advance 66 = .ok (.putfield 34, 3) := by decide +kernel
theorem dX9_advance_69 : decode cX9_advance 69 = .ok (.iload_n 1, 1) := by decide +kernel
theorem dX9_advance_70 : decode cX9_advance 70 = .ok (.aload_n 0, 1) := by decide +kernel
theorem dX9_advance_71 : decode cX9_advance 71 = .ok (.getfield 28, 3) := by decide +kernel
theorem dX9_advance_74 : decode cX9_advance 74 = .ok (.if_icmp .lt 11, 3) := by decide +kernel
theorem dX9_advance_77 : decode cX9_advance 77 = .ok (.aload_n 0, 1) := by decide +kernel
theorem dX9_advance_78 : decode cX9_advance 78 = .ok (.iconst 0, 1) := by decide +kernel
theorem dX9_advance_79 : decode cX9_advance 79 = .ok (.putfield 49, 3) := by decide +kernel
theorem dX9_advance_82 : decode cX9_advance 82 = .ok (.goto 16, 3) := by decide +kernel
theorem dX9_advance_85 : decode cX9_advance 85 = .ok (.aload_n 0, 1) := by decide +kernel
theorem dX9_advance_86 : decode cX9_advance 86 = .ok (.iload_n 1, 1) := by decide +kernel
theorem dX9_advance_87 : decode cX9_advance 87 = .ok (.invokevirtual 52, 3) := by decide +kernel
theorem dX9_advance_90 : decode cX9_advance 90 = .ok (.ifCond .ne 8, 3) := by decide +kernel
theorem dX9_advance_93 : decode cX9_advance 93 = .ok (.aload_n 0, 1) := by decide +kernel
theorem dX9_advance_94 : decode cX9_advance 94 = .ok (.iload_n 1, 1) := by decide +kernel
theorem dX9_advance_95 : decode cX9_advance 95 = .ok (.invokevirtual 56, 3) := by decide +kernel
theorem dX9_advance_98 : decode cX9_advance 98 = .ok (.return_, 1) := by decide +kernel
theorem dX9_readRun_0 : decode cX9_readRun 0 = .ok (.iconst 0, 1) := by decide +kernel
theorem dX9_readRun_1 : decode cX9_readRun 1 = .ok (.istore_n 2, 1) := by decide +kernel
theorem dX9_readRun_2 : decode cX9_readRun 2 = .ok (.iconst 0, 1) := by decide +kernel
theorem dX9_readRun_3 : decode cX9_readRun 3 = .ok (.istore_n 3, 1) := by decide +kernel
theorem dX9_readRun_4 : decode cX9_readRun 4 = .ok (.iload_n 1, 1) := by decide +kernel
theorem dX9_readRun_5 : decode cX9_readRun 5 = .ok (.istore 4, 2) := by decide +kernel
theorem dX9_readRun_7 : decode cX9_readRun 7 = .ok (.aload_n 0, 1) := by decide +kernel
theorem dX9_readRun_8 : decode cX9_readRun 8 = .ok (.lconst 0, 1) := by decide +kernel
theorem dX9_readRun_9 : decode cX9_readRun 9 = .ok (.putfield 60, 3) := by decide +kernel
theorem dX9_readRun_12 : decode cX9_readRun 12 = .ok (.aload_n 0, 1) := by decide +kernel
theorem dX9_readRun_13 : decode cX9_readRun 13 = .ok (.iconst 0, 1) := by decide +kernel
theorem dX9_readRun_14 : decode cX9_readRun 14 = .ok (.putfield 64, 3) := by decide +kernel
theorem dX9_readRun_17 : decode cX9_readRun 17 = .ok (.iload 4, 2) := by decide +kernel
theorem dX9_readRun_19 : decode cX9_readRun 19 = .ok (.aload_n 0, 1) := by decide +kernel
theorem dX9_readRun_20 : decode cX9_readRun 20 = .ok (.getfield 19, 3) := by decide +kernel
theorem dX9_readRun_23 : decode cX9_readRun 23 = .ok (.if_icmp .ge 87, 3) := by decide +kernel
theorem dX9_readRun_26 : decode cX9_readRun 26 = .ok (.aload_n 0, 1) := by decide +kernel
theorem dX9_readRun_27 : decode cX9_readRun 27 = .ok (.getfield 9, 3) := by decide +kernel
theorem dX9_readRun_30 : decode cX9_readRun 30 = .ok (.iload 4, 2) := by decide +kernel
theorem dX9_readRun_32 : decode cX9_readRun 32 = .ok (.baload, 1) := by decide +kernel
theorem dX9_readRun_33 : decode cX9_readRun 33 = .ok (.istore 5, 2) := by decide +kernel
theorem dX9_readRun_35 : decode cX9_readRun 35 = .ok (.iload 5, 2) := by decide +kernel
theorem dX9_readRun_37 : decode cX9_readRun 37 = .ok (.bipush 97, 2) := by decide +kernel
theorem dX9_readRun_39 : decode cX9_readRun 39 = .ok (.if_icmp .lt 31, 3) := by decide +kernel
theorem dX9_readRun_42 : decode cX9_readRun 42 = .ok (.iload 5, 2) := by decide +kernel
theorem dX9_readRun_44 : decode cX9_readRun 44 = .ok (.bipush 122, 2) := by decide +kernel
theorem dX9_readRun_46 : decode cX9_readRun 46 = .ok (.if_icmp .gt 24, 3) := by decide +kernel
theorem dX9_readRun_49 : decode cX9_readRun 49 = .ok (.iinc 2 1, 3) := by decide +kernel
theorem dX9_readRun_52 : decode cX9_readRun 52 = .ok (.aload_n 0, 1) := by decide +kernel
theorem dX9_readRun_53 : decode cX9_readRun 53 = .ok (.aload_n 0, 1) := by decide +kernel
theorem dX9_readRun_54 : decode cX9_readRun 54 = .ok (.getfield 60, 3) := by decide +kernel
theorem dX9_readRun_57 : decode cX9_readRun 57 = .ok (.bipush 8, 2) := by decide +kernel
theorem dX9_readRun_59 : decode cX9_readRun 59 = .ok (.lshl, 1) := by decide +kernel
theorem dX9_readRun_60 : decode cX9_readRun 60 = .ok (.iload 5, 2) := by decide +kernel
theorem dX9_readRun_62 : decode cX9_readRun 62 = .ok (.i2l, 1) := by decide +kernel
theorem dX9_readRun_63 : decode cX9_readRun 63 = .ok (.lor, 1) := by decide +kernel
theorem dX9_readRun_64 : decode cX9_readRun 64 = .ok (.putfield 60, 3) := by decide +kernel
theorem dX9_readRun_67 : decode cX9_readRun 67 = .ok (.goto 37, 3) := by decide +kernel
theorem dX9_readRun_70 : decode cX9_readRun 70 = .ok (.iload 5, 2) := by decide +kernel
theorem dX9_readRun_72 : decode cX9_readRun 72 = .ok (.bipush 48, 2) := by decide +kernel
theorem dX9_readRun_74 : decode cX9_readRun 74 = .ok (.if_icmp .lt 36, 3) := by decide +kernel
theorem dX9_readRun_77 : decode cX9_readRun 77 = .ok (.iload 5, 2) := by decide +kernel
theorem dX9_readRun_79 : decode cX9_readRun 79 = .ok (.bipush 57, 2) := by decide +kernel
theorem dX9_readRun_81 : decode cX9_readRun 81 = .ok (.if_icmp .gt 29, 3) := by decide +kernel
theorem dX9_readRun_84 : decode cX9_readRun 84 = .ok (.iinc 3 1, 3) := by decide +kernel
theorem dX9_readRun_87 : decode cX9_readRun 87 = .ok (.aload_n 0, 1) := by decide +kernel
theorem dX9_readRun_88 : decode cX9_readRun 88 = .ok (.aload_n 0, 1) := by decide +kernel
theorem dX9_readRun_89 : decode cX9_readRun 89 = .ok (.getfield 64, 3) := by decide +kernel
theorem dX9_readRun_92 : decode cX9_readRun 92 = .ok (.bipush 10, 2) := by decide +kernel
theorem dX9_readRun_94 : decode cX9_readRun 94 = .ok (.imul, 1) := by decide +kernel
theorem dX9_readRun_95 : decode cX9_readRun 95 = .ok (.iload 5, 2) := by decide +kernel
theorem dX9_readRun_97 : decode cX9_readRun 97 = .ok (.iadd, 1) := by decide +kernel
theorem dX9_readRun_98 : decode cX9_readRun 98 = .ok (.bipush 48, 2) := by decide +kernel
theorem dX9_readRun_100 : decode cX9_readRun 100 = .ok (.isub, 1) := by decide +kernel
theorem dX9_readRun_101 : decode cX9_readRun 101 = .ok (.putfield 64, 3) := by decide +kernel
theorem dX9_readRun_104 : decode cX9_readRun 104 = .ok (.iinc 4 1, 3) := by decide +kernel
theorem dX9_readRun_107 : decode cX9_readRun 107 = .ok (.goto (-90), 3) := by decide +kernel
theorem dX9_readRun_110 : decode cX9_readRun 110 = .ok (.aload_n 0, 1) := by decide +kernel
theorem dX9_readRun_111 : decode cX9_readRun 111 = .ok (.iload 4, 2) := by decide +kernel
theorem dX9_readRun_113 : decode cX9_readRun 113 = .ok (.putfield 31, 3) := by decide +kernel
theorem dX9_readRun_116 : decode cX9_readRun 116 = .ok (.iload_n 3, 1) := by decide +kernel
theorem dX9_readRun_117 : decode cX9_readRun 117 = .ok (.ifCond .ne 17, 3) := by decide +kernel
theorem dX9_readRun_120 : decode cX9_readRun 120 = .ok (.iload_n 2, 1) := by decide +kernel
theorem dX9_readRun_121 : decode cX9_readRun 121 = .ok (.bipush 6, 2) := by decide +kernel
theorem dX9_readRun_123 : decode cX9_readRun 123 = .ok (.if_icmp .gt 11, 3) := by decide +kernel
theorem dX9_readRun_126 : decode cX9_readRun 126 = .ok (.aload_n 0, 1) := by decide +kernel
theorem dX9_readRun_127 : decode cX9_readRun 127 = .ok (.iconst 1, 1) := by decide +kernel
theorem dX9_readRun_128 : decode cX9_readRun 128 = .ok (.putfield 49, 3) := by decide +kernel
theorem dX9_readRun_131 : decode cX9_readRun 131 = .ok (.goto 21, 3) := by decide +kernel
theorem dX9_readRun_134 : decode cX9_readRun 134 = .ok (.aload_n 0, 1) := by decide +kernel
theorem dX9_readRun_135 : decode cX9_readRun 135 = .ok (.iload_n 2, 1) := by decide +kernel
theorem dX9_readRun_136 : decode cX9_readRun 136 = .ok (.ifCond .ne 12, 3) := by decide +kernel
theorem dX9_readRun_139 : decode cX9_readRun 139 = .ok (.iload_n 3, 1) := by decide +kernel
theorem dX9_readRun_140 : decode cX9_readRun 140 = .ok (.iconst 4, 1) := by decide +kernel
theorem dX9_readRun_141 : decode cX9_readRun 141 = .ok (.if_icmp .gt 7, 3) := by decide +kernel
theorem dX9_readRun_144 : decode cX9_readRun 144 = .ok (.iconst 2, 1) := by decide +kernel
theorem dX9_readRun_145 : decode cX9_readRun 145 = .ok (.goto 4, 3) := by decide +kernel
theorem dX9_readRun_148 : decode cX9_readRun 148 = .ok (.iconst 4, 1) := by decide +kernel
theorem dX9_readRun_149 : decode cX9_readRun 149 = .ok (.putfield 49, 3) := by decide +kernel
theorem dX9_readRun_152 : decode cX9_readRun 152 = .ok (.iload_n 2, 1) := by decide +kernel
theorem dX9_readRun_153 : decode cX9_readRun 153 = .ok (.iload_n 3, 1) := by decide +kernel
theorem dX9_readRun_154 : decode cX9_readRun 154 = .ok (.iadd, 1) := by decide +kernel
theorem dX9_readRun_155 : decode cX9_readRun 155 = .ok (.ifCond .le 7, 3) := by decide +kernel
theorem dX9_readRun_158 : decode cX9_readRun 158 = .ok (.iconst 1, 1) := by decide +kernel
theorem dX9_readRun_159 : decode cX9_readRun 159 = .ok (.goto 4, 3) := by decide +kernel
theorem dX9_readRun_162 : decode cX9_readRun 162 = .ok (.iconst 0, 1) := by decide +kernel
theorem dX9_readRun_163 : decode cX9_readRun 163 = .ok (.ireturn, 1) := by decide +kernel
theorem dX9_readSign_0 : decode cX9_readSign 0 = .ok (.aload_n 0, 1) := by decide +kernel
theorem dX9_readSign_1 : decode cX9_readSign 1 = .ok (.aload_n 0, 1) := by decide +kernel
theorem dX9_readSign_2 : decode cX9_readSign 2 = .ok (.getfield 9, 3) := by decide +kernel
theorem dX9_readSign_5 : decode cX9_readSign 5 = .ok (.iload_n 1, 1) := by decide +kernel
theorem dX9_readSign_6 : decode cX9_readSign 6 = .ok (.baload, 1) := by decide +kernel
theorem dX9_readSign_7 : decode cX9_readSign 7 = .ok (.putfield 64, 3) := by decide +kernel
theorem dX9_readSign_10 : decode cX9_readSign 10 = .ok (.aload_n 0, 1) := by decide +kernel
theorem dX9_readSign_11 : decode cX9_readSign 11 = .ok (.getfield 64, 3) := by decide +kernel
theorem dX9_readSign_14 : decode cX9_readSign 14 = .ok (.bipush 59, 2) := by decide +kernel
theorem dX9_readSign_16 : decode cX9_readSign 16 = .ok (.if_icmp .lt 12, 3) := by decide +kernel
theorem dX9_readSign_19 : decode cX9_readSign 19 = .ok (.aload_n 0, 1) := by decide +kernel
theorem dX9_readSign_20 : decode cX9_readSign 20 = .ok (.getfield 64, 3) := by decide +kernel
theorem dX9_readSign_23 : decode cX9_readSign 23 = .ok (.bipush 62, 2) := by decide +kernel
theorem dX9_readSign_25 : decode cX9_readSign 25 = .ok (.if_icmp .le 21, 3) := by decide +kernel
theorem dX9_readSign_28 : decode cX9_readSign 28 = .ok (.aload_n 0, 1) := by decide +kernel
theorem dX9_readSign_29 : decode cX9_readSign 29 = .ok (.getfield 64, 3) := by decide +kernel
theorem dX9_readSign_32 : decode cX9_readSign 32 = .ok (.bipush 40, 2) := by decide +kernel
theorem dX9_readSign_34 : decode cX9_readSign 34 = .ok (.if_icmp .eq 12, 3) := by decide +kernel
theorem dX9_readSign_37 : decode cX9_readSign 37 = .ok (.aload_n 0, 1) := by decide +kernel
theorem dX9_readSign_38 : decode cX9_readSign 38 = .ok (.getfield 64, 3) := by decide +kernel
theorem dX9_readSign_41 : decode cX9_readSign 41 = .ok (.bipush 41, 2) := by decide +kernel
theorem dX9_readSign_43 : decode cX9_readSign 43 = .ok (.if_icmp .ne 7, 3) := by decide +kernel
theorem dX9_readSign_46 : decode cX9_readSign 46 = .ok (.iconst 1, 1) := by decide +kernel
theorem dX9_readSign_47 : decode cX9_readSign 47 = .ok (.goto 4, 3) := by decide +kernel
theorem dX9_readSign_50 : decode cX9_readSign 50 = .ok (.iconst 0, 1) := by decide +kernel
theorem dX9_readSign_51 : decode cX9_readSign 51 = .ok (.istore_n 2, 1) := by decide +kernel
theorem dX9_readSign_52 : decode cX9_readSign 52 = .ok (.aload_n 0, 1) := by decide +kernel
theorem dX9_readSign_53 : decode cX9_readSign 53 = .ok (.iload_n 2, 1) := by decide +kernel
theorem dX9_readSign_54 : decode cX9_readSign 54 = .ok (.ifCond .eq 7, 3) := by decide +kernel
theorem dX9_readSign_57 : decode cX9_readSign 57 = .ok (.iconst 3, 1) := by decide +kernel
theorem dX9_readSign_58 : decode cX9_readSign 58 = .ok (.goto 4, 3) := by decide +kernel
theorem dX9_readSign_61 : decode cX9_readSign 61 = .ok (.iconst 4, 1) := by decide +kernel
theorem dX9_readSign_62 : decode cX9_readSign 62 = .ok (.putfield 49, 3) := by decide +kernel
theorem dX9_readSign_65 : decode cX9_readSign 65 = .ok (.aload_n 0, 1) := by decide +kernel
theorem dX9_readSign_66 : decode cX9_readSign 66 = .ok (.iload_n 1, 1) := by decide +kernel
theorem dX9_readSign_67 : decode cX9_readSign 67 = .ok (.iconst 1, 1) := by decide +kernel
theorem dX9_readSign_68 : decode cX9_readSign 68 = .ok (.iadd, 1) := by decide +kernel
theorem dX9_readSign_69 : decode cX9_readSign 69 = .ok (.putfield 31, 3) := by decide +kernel
theorem dX9_readSign_72 : decode cX9_readSign 72 = .ok (.return_, 1) := by decide +kernel
theorem dX9_goesOn_0 : decode cX9_goesOn 0 = .ok (.aload_n 0, 1) := by decide +kernel
theorem dX9_goesOn_1 : decode cX9_goesOn 1 = .ok (.getfield 37, 3) := by decide +kernel
theorem dX9_goesOn_4 : decode cX9_goesOn 4 = .ok (.ifCond .ne 14, 3) := by decide +kernel
theorem dX9_goesOn_7 : decode cX9_goesOn 7 = .ok (.aload_n 0, 1) := by decide +kernel
theorem dX9_goesOn_8 : decode cX9_goesOn 8 = .ok (.getfield 49, 3) := by decide +kernel
theorem dX9_goesOn_11 : decode cX9_goesOn 11 = .ok (.ifCond .eq 7, 3) := by decide +kernel
theorem dX9_goesOn_14 : decode cX9_goesOn 14 = .ok (.iconst 1, 1) := by decide +kernel
theorem dX9_goesOn_15 : decode cX9_goesOn 15 = .ok (.goto 4, 3) := by decide +kernel
theorem dX9_goesOn_18 : decode cX9_goesOn 18 = .ok (.iconst 0, 1) := by decide +kernel
theorem dX9_goesOn_19 : decode cX9_goesOn 19 = .ok (.ireturn, 1) := by decide +kernel
theorem dX9_isAtSign_0 : decode cX9_isAtSign 0 = .ok (.aload_n 0, 1) := by decide +kernel
theorem dX9_isAtSign_1 : decode cX9_isAtSign 1 = .ok (.getfield 37, 3) := by decide +kernel
theorem dX9_isAtSign_4 : decode cX9_isAtSign 4 = .ok (.ifCond .ne 23, 3) := by decide +kernel
theorem dX9_isAtSign_7 : decode cX9_isAtSign 7 = .ok (.aload_n 0, 1) := by decide +kernel
theorem dX9_isAtSign_8 : decode cX9_isAtSign 8 = .ok (.getfield 49, 3) := by decide +kernel
theorem dX9_isAtSign_11 : decode cX9_isAtSign 11 = .ok (.iconst 3, 1) := by decide +kernel
theorem dX9_isAtSign_12 : decode cX9_isAtSign 12 = .ok (.if_icmp .ne 15, 3) := by decide +kernel
theorem dX9_isAtSign_15 : decode cX9_isAtSign 15 = .ok (.aload_n 0, 1) := by decide +kernel
theorem dX9_isAtSign_16 : decode cX9_isAtSign 16 = .ok (.getfield 64, 3) := by decide +kernel
theorem dX9_isAtSign_19 : decode cX9_isAtSign 19 = .ok (.iload_n 1, 1) := by decide +kernel
theorem dX9_isAtSign_20 : decode cX9_isAtSign 20 = .ok (.if_icmp .ne 7, 3) := by decide +kernel
theorem dX9_isAtSign_23 : decode cX9_isAtSign 23 = .ok (.iconst 1, 1) := by decide +kernel
theorem dX9_isAtSign_24 : decode cX9_isAtSign 24 = .ok (.goto 4, 3) := by decide +kernel
theorem dX9_isAtSign_27 : decode cX9_isAtSign 27 = .ok (.iconst 0, 1) := by decide +kernel
theorem dX9_isAtSign_28 : decode cX9_isAtSign 28 = .ok (.ireturn, 1) := by decide +kernel
theorem dX9_isWord_0 : decode cX9_isWord 0 = .ok (.aload_n 0, 1) := by decide +kernel
theorem dX9_isWord_1 : decode cX9_isWord 1 = .ok (.getfield 37, 3) := by decide +kernel
theorem dX9_isWord_4 : decode cX9_isWord 4 = .ok (.ifCond .ne 24, 3) := by decide +kernel
theorem dX9_isWord_7 : decode cX9_isWord 7 = .ok (.aload_n 0, 1) := by decide +kernel
theorem dX9_isWord_8 : decode cX9_isWord 8 = .ok (.getfield 49, 3) := by decide +kernel
theorem dX9_isWord_11 : decode cX9_isWord 11 = .ok (.iconst 1, 1) := by decide +kernel
theorem dX9_isWord_12 : decode cX9_isWord 12 = .ok (.if_icmp .ne 16, 3) := by decide +kernel
theorem dX9_isWord_15 : decode cX9_isWord 15 = .ok (.aload_n 0, 1) := by decide +kernel
theorem dX9_isWord_16 : decode cX9_isWord 16 = .ok (.getfield 60, 3) := by decide +kernel
theorem dX9_isWord_19 : decode cX9_isWord 19 = .ok (.lload_n 1, 1) := by decide +kernel
theorem dX9_isWord_20 : decode cX9_isWord 20 = .ok (.lcmp, 1) := by decide +kernel
theorem dX9_isWord_21 : decode cX9_isWord 21 = .ok (.ifCond .ne 7, 3) := by decide +kernel
theorem dX9_isWord_24 : decode cX9_isWord 24 = .ok (.iconst 1, 1) := by decide +kernel
theorem dX9_isWord_25 : decode cX9_isWord 25 = .ok (.goto 4, 3) := by decide +kernel
theorem dX9_isWord_28 : decode cX9_isWord 28 = .ok (.iconst 0, 1) := by decide +kernel
theorem dX9_isWord_29 : decode cX9_isWord 29 = .ok (.ireturn, 1) := by decide +kernel
theorem dX9_isName_0 : decode cX9_isName 0 = .ok (.aload_n 0, 1) := by decide +kernel
theorem dX9_isName_1 : decode cX9_isName 1 = .ok (.getfield 49, 3) := by decide +kernel
theorem dX9_isName_4 : decode cX9_isName 4 = .ok (.iconst 1, 1) := by decide +kernel
theorem dX9_isName_5 : decode cX9_isName 5 = .ok (.if_icmp .ne 32, 3) := by decide +kernel
theorem dX9_isName_8 : decode cX9_isName 8 = .ok (.aload_n 0, 1) := by decide +kernel
theorem dX9_isName_9 : decode cX9_isName 9 = .ok (.invokevirtual 67, 3) := by decide +kernel
theorem dX9_isName_12 : decode cX9_isName 12 = .ok (.ifCond .ne 25, 3) := by decide +kernel
theorem dX9_isName_15 : decode cX9_isName 15 = .ok (.aload_n 0, 1) := by decide +kernel
theorem dX9_isName_16 : decode cX9_isName 16 = .ok (.getfield 60, 3) := by decide +kernel
theorem dX9_isName_19 : decode cX9_isName 19 = .ok (.ldc2_w 71, 3) := by decide +kernel
theorem dX9_isName_22 : decode cX9_isName 22 = .ok (.lcmp, 1) := by decide +kernel
theorem dX9_isName_23 : decode cX9_isName 23 = .ok (.ifCond .eq 14, 3) := by decide +kernel
theorem dX9_isName_26 : decode cX9_isName 26 = .ok (.aload_n 0, 1) := by decide +kernel
theorem dX9_isName_27 : decode cX9_isName 27 = .ok (.invokevirtual 73, 3) := by decide +kernel
theorem dX9_isName_30 : decode cX9_isName 30 = .ok (.ifCond .ne 7, 3) := by decide +kernel
theorem dX9_isName_33 : decode cX9_isName 33 = .ok (.iconst 1, 1) := by decide +kernel
theorem dX9_isName_34 : decode cX9_isName 34 = .ok (.goto 4, 3) := by decide +kernel
theorem dX9_isName_37 : decode cX9_isName 37 = .ok (.iconst 0, 1) := by decide +kernel
theorem dX9_isName_38 : decode cX9_isName 38 = .ok (.ireturn, 1) := by decide +kernel
theorem dX9_isRiverWord_0 : decode cX9_isRiverWord 0 = .ok (.aload_n 0, 1) := by decide +kernel
theorem dX9_isRiverWord_1 : decode cX9_isRiverWord 1 = .ok (.getfield 60, 3) := by decide +kernel
theorem dX9_isRiverWord_4 : decode cX9_isRiverWord 4 = .ok (.ldc2_w 76, 3) := by decide +kernel
theorem dX9_isRiverWord_7 : decode cX9_isRiverWord 7 = .ok (.lcmp, 1) := by decide +kernel
theorem dX9_isRiverWord_8 : decode cX9_isRiverWord 8 = .ok (.ifCond .eq 69, 3) := by decide +kernel
theorem dX9_isRiverWord_11 : decode cX9_isRiverWord 11 = .ok (.aload_n 0, 1) := by decide +kernel
theorem dX9_isRiverWord_12 : decode cX9_isRiverWord 12 = .ok (.getfield 60, 3) := by decide +kernel
theorem dX9_isRiverWord_15 : decode cX9_isRiverWord 15 = .ok (.ldc2_w 78, 3) := by decide +kernel
theorem dX9_isRiverWord_18 : decode cX9_isRiverWord 18 = .ok (.lcmp, 1) := by decide +kernel
theorem dX9_isRiverWord_19 : decode cX9_isRiverWord 19 = .ok (.ifCond .eq 58, 3) := by decide +kernel
theorem dX9_isRiverWord_22 : decode cX9_isRiverWord 22 = .ok (.aload_n 0, 1) := by decide +kernel
theorem dX9_isRiverWord_23 : decode cX9_isRiverWord 23 = .ok (.getfield 60, 3) := by decide +kernel
theorem dX9_isRiverWord_26 : decode cX9_isRiverWord 26 = .ok (.ldc2_w 80, 3) := by decide +kernel
theorem dX9_isRiverWord_29 : decode cX9_isRiverWord 29 = .ok (.lcmp, 1) := by decide +kernel
theorem dX9_isRiverWord_30 : decode cX9_isRiverWord 30 = .ok (.ifCond .eq 47, 3) := by decide +kernel
theorem dX9_isRiverWord_33 : decode cX9_isRiverWord 33 = .ok (.aload_n 0, 1) := by decide +kernel
theorem dX9_isRiverWord_34 : decode cX9_isRiverWord 34 = .ok (.getfield 60, 3) := by decide +kernel
theorem dX9_isRiverWord_37 : decode cX9_isRiverWord 37 = .ok (.ldc2_w 82, 3) := by decide +kernel
theorem dX9_isRiverWord_40 : decode cX9_isRiverWord 40 = .ok (.lcmp, 1) := by decide +kernel
theorem dX9_isRiverWord_41 : decode cX9_isRiverWord 41 = .ok (.ifCond .eq 36, 3) := by decide +kernel
theorem dX9_isRiverWord_44 : decode cX9_isRiverWord 44 = .ok (.aload_n 0, 1) := by decide +kernel
theorem dX9_isRiverWord_45 : decode cX9_isRiverWord 45 = .ok (.getfield 60, 3) := by decide +kernel
theorem dX9_isRiverWord_48 : decode cX9_isRiverWord 48 = .ok (.ldc2_w 84, 3) := by decide +kernel
theorem dX9_isRiverWord_51 : decode cX9_isRiverWord 51 = .ok (.lcmp, 1) := by decide +kernel
theorem dX9_isRiverWord_52 : decode cX9_isRiverWord 52 = .ok (.ifCond .eq 25, 3) := by decide +kernel
theorem dX9_isRiverWord_55 : decode cX9_isRiverWord 55 = .ok (.aload_n 0, 1) := by decide +kernel
theorem dX9_isRiverWord_56 : decode cX9_isRiverWord 56 = .ok (.getfield 60, 3) := by decide +kernel
theorem dX9_isRiverWord_59 : decode cX9_isRiverWord 59 = .ok (.ldc2_w 86, 3) := by decide +kernel
theorem dX9_isRiverWord_62 : decode cX9_isRiverWord 62 = .ok (.lcmp, 1) := by decide +kernel
theorem dX9_isRiverWord_63 : decode cX9_isRiverWord 63 = .ok (.ifCond .eq 14, 3) := by decide +kernel
theorem dX9_isRiverWord_66 : decode cX9_isRiverWord 66 = .ok (.aload_n 0, 1) := by decide +kernel
theorem dX9_isRiverWord_67 : decode cX9_isRiverWord 67 = .ok (.getfield 60, 3) := by decide +kernel
theorem dX9_isRiverWord_70 : decode cX9_isRiverWord 70 = .ok (.ldc2_w 88, 3) := by decide +kernel
theorem dX9_isRiverWord_73 : decode cX9_isRiverWord 73 = .ok (.lcmp, 1) := by decide +kernel
theorem dX9_isRiverWord_74 : decode cX9_isRiverWord 74 = .ok (.ifCond .ne 7, 3) := by decide +kernel
theorem dX9_isRiverWord_77 : decode cX9_isRiverWord 77 = .ok (.iconst 1, 1) := by decide +kernel
theorem dX9_isRiverWord_78 : decode cX9_isRiverWord 78 = .ok (.goto 4, 3) := by decide +kernel
theorem dX9_isRiverWord_81 : decode cX9_isRiverWord 81 = .ok (.iconst 0, 1) := by decide +kernel
theorem dX9_isRiverWord_82 : decode cX9_isRiverWord 82 = .ok (.ireturn, 1) := by decide +kernel
theorem dX9_isSentenceWord_0 : decode cX9_isSentenceWord 0 = .ok (.aload_n 0, 1) := by decide +kernel
theorem dX9_isSentenceWord_1 : decode cX9_isSentenceWord 1 = .ok (.getfield 60, 3) := by decide +kernel
theorem dX9_isSentenceWord_4 : decode cX9_isSentenceWord 4 = .ok (.ldc2_w 90, 3) := by decide +kernel
theorem dX9_isSentenceWord_7 : decode cX9_isSentenceWord 7 = .ok (.lcmp, 1) := by decide +kernel
theorem dX9_isSentenceWord_8 : decode cX9_isSentenceWord 8 = .ok (.ifCond .eq 91, 3) := by decide +kernel
theorem dX9_isSentenceWord_11 : decode cX9_isSentenceWord 11 = .ok (.aload_n 0, 1) := by decide +kernel
theorem dX9_isSentenceWord_12 : decode cX9_isSentenceWord 12 = .ok (.getfield 60, 3) := by decide +kernel
theorem dX9_isSentenceWord_15 : decode cX9_isSentenceWord 15 = .ok (.ldc2_w 92, 3) := by decide +kernel
theorem dX9_isSentenceWord_18 : decode cX9_isSentenceWord 18 = .ok (.lcmp, 1) := by decide +kernel
theorem dX9_isSentenceWord_19 : decode cX9_isSentenceWord 19 = .ok (.ifCond .eq 80, 3) := by decide +kernel
theorem dX9_isSentenceWord_22 : decode cX9_isSentenceWord 22 = .ok (.aload_n 0, 1) := by decide +kernel
theorem dX9_isSentenceWord_23 : decode cX9_isSentenceWord 23 = .ok (.getfield 60, 3) := by decide +kernel
theorem dX9_isSentenceWord_26 : decode cX9_isSentenceWord 26 = .ok (.ldc2_w 94, 3) := by decide +kernel
theorem dX9_isSentenceWord_29 : decode cX9_isSentenceWord 29 = .ok (.lcmp, 1) := by decide +kernel
theorem dX9_isSentenceWord_30 : decode cX9_isSentenceWord 30 = .ok (.ifCond .eq 69, 3) := by decide +kernel
theorem dX9_isSentenceWord_33 : decode cX9_isSentenceWord 33 = .ok (.aload_n 0, 1) := by decide +kernel
theorem dX9_isSentenceWord_34 : decode cX9_isSentenceWord 34 = .ok (.getfield 60, 3) := by decide +kernel
theorem dX9_isSentenceWord_37 : decode cX9_isSentenceWord 37 = .ok (.ldc2_w 96, 3) := by decide +kernel
theorem dX9_isSentenceWord_40 : decode cX9_isSentenceWord 40 = .ok (.lcmp, 1) := by decide +kernel
theorem dX9_isSentenceWord_41 : decode cX9_isSentenceWord 41 = .ok (.ifCond .eq 58, 3) := by decide +kernel
theorem dX9_isSentenceWord_44 : decode cX9_isSentenceWord 44 = .ok (.aload_n 0, 1) := by decide +kernel
theorem dX9_isSentenceWord_45 : decode cX9_isSentenceWord 45 = .ok (.getfield 60, 3) := by decide +kernel
theorem dX9_isSentenceWord_48 : decode cX9_isSentenceWord 48 = .ok (.ldc2_w 98, 3) := by decide +kernel
theorem dX9_isSentenceWord_51 : decode cX9_isSentenceWord 51 = .ok (.lcmp, 1) := by decide +kernel
theorem dX9_isSentenceWord_52 : decode cX9_isSentenceWord 52 = .ok (.ifCond .eq 47, 3) := by decide +kernel
theorem dX9_isSentenceWord_55 : decode cX9_isSentenceWord 55 = .ok (.aload_n 0, 1) := by decide +kernel
theorem dX9_isSentenceWord_56 : decode cX9_isSentenceWord 56 = .ok (.getfield 60, 3) := by decide +kernel
theorem dX9_isSentenceWord_59 : decode cX9_isSentenceWord 59 = .ok (.ldc2_w 100, 3) := by decide +kernel
theorem dX9_isSentenceWord_62 : decode cX9_isSentenceWord 62 = .ok (.lcmp, 1) := by decide +kernel
theorem dX9_isSentenceWord_63 : decode cX9_isSentenceWord 63 = .ok (.ifCond .eq 36, 3) := by decide +kernel
theorem dX9_isSentenceWord_66 : decode cX9_isSentenceWord 66 = .ok (.aload_n 0, 1) := by decide +kernel
theorem dX9_isSentenceWord_67 : decode cX9_isSentenceWord 67 = .ok (.getfield 60, 3) := by decide +kernel
theorem dX9_isSentenceWord_70 : decode cX9_isSentenceWord 70 = .ok (.ldc2_w 102, 3) := by decide +kernel
theorem dX9_isSentenceWord_73 : decode cX9_isSentenceWord 73 = .ok (.lcmp, 1) := by decide +kernel
theorem dX9_isSentenceWord_74 : decode cX9_isSentenceWord 74 = .ok (.ifCond .eq 25, 3) := by decide +kernel
theorem dX9_isSentenceWord_77 : decode cX9_isSentenceWord 77 = .ok (.aload_n 0, 1) := by decide +kernel
theorem dX9_isSentenceWord_78 : decode cX9_isSentenceWord 78 = .ok (.getfield 60, 3) := by decide +kernel
theorem dX9_isSentenceWord_81 : decode cX9_isSentenceWord 81 = .ok (.ldc2_w 104, 3) := by decide +kernel
theorem dX9_isSentenceWord_84 : decode cX9_isSentenceWord 84 = .ok (.lcmp, 1) := by decide +kernel
theorem dX9_isSentenceWord_85 : decode cX9_isSentenceWord 85 = .ok (.ifCond .eq 14, 3) := by decide +kernel
theorem dX9_isSentenceWord_88 : decode cX9_isSentenceWord 88 = .ok (.aload_n 0, 1) := by decide +kernel
theorem dX9_isSentenceWord_89 : decode cX9_isSentenceWord 89 = .ok (.getfield 60, 3) := by decide +kernel
theorem dX9_isSentenceWord_92 : decode cX9_isSentenceWord 92 = .ok (.ldc2_w 106, 3) := by decide +kernel
theorem dX9_isSentenceWord_95 : decode cX9_isSentenceWord 95 = .ok (.lcmp, 1) := by decide +kernel
theorem dX9_isSentenceWord_96 : decode cX9_isSentenceWord 96 = .ok (.ifCond .ne 7, 3) := by decide +kernel
theorem dX9_isSentenceWord_99 : decode cX9_isSentenceWord 99 = .ok (.iconst 1, 1) := by decide +kernel
theorem dX9_isSentenceWord_100 : decode cX9_isSentenceWord 100 = .ok (.goto 4, 3) := by decide +kernel
theorem dX9_isSentenceWord_103 : decode cX9_isSentenceWord 103 = .ok (.iconst 0, 1) := by decide +kernel
theorem dX9_isSentenceWord_104 : decode cX9_isSentenceWord 104 = .ok (.ireturn, 1) := by decide +kernel
theorem dX9_takeNumber_0 : decode cX9_takeNumber 0 = .ok (.aload_n 0, 1) := by decide +kernel
theorem dX9_takeNumber_1 : decode cX9_takeNumber 1 = .ok (.getfield 49, 3) := by decide +kernel
theorem dX9_takeNumber_4 : decode cX9_takeNumber 4 = .ok (.iconst 2, 1) := by decide +kernel
theorem dX9_takeNumber_5 : decode cX9_takeNumber 5 = .ok (.if_icmp .eq 11, 3) := by decide +kernel
theorem dX9_takeNumber_8 : decode cX9_takeNumber 8 = .ok (.aload_n 0, 1) := by decide +kernel
theorem dX9_takeNumber_9 : decode cX9_takeNumber 9 = .ok (.iconst 1, 1) := by decide +kernel
theorem dX9_takeNumber_10 : decode cX9_takeNumber 10 = .ok (.invokevirtual 108, 3) := by decide +kernel
theorem dX9_takeNumber_13 : decode cX9_takeNumber 13 = .ok (.goto 24, 3) := by decide +kernel
theorem dX9_takeNumber_16 : decode cX9_takeNumber 16 = .ok (.aload_n 0, 1) := by decide +kernel
theorem dX9_takeNumber_17 : decode cX9_takeNumber 17 = .ok (.getfield 64, 3) := by decide +kernel
theorem dX9_takeNumber_20 : decode cX9_takeNumber 20 = .ok (.iload_n 1, 1) := by decide +kernel
theorem dX9_takeNumber_21 : decode cX9_takeNumber 21 = .ok (.if_icmp .lt 11, 3) := by decide +kernel
theorem dX9_takeNumber_24 : decode cX9_takeNumber 24 = .ok (.aload_n 0, 1) := by decide +kernel
theorem dX9_takeNumber_25 : decode cX9_takeNumber 25 = .ok (.getfield 64, 3) := by decide +kernel
theorem dX9_takeNumber_28 : decode cX9_takeNumber 28 = .ok (.iload_n 2, 1) := by decide +kernel
theorem dX9_takeNumber_29 : decode cX9_takeNumber 29 = .ok (.if_icmp .le 8, 3) := by decide +kernel
theorem dX9_takeNumber_32 : decode cX9_takeNumber 32 = .ok (.aload_n 0, 1) := by decide +kernel
theorem dX9_takeNumber_33 : decode cX9_takeNumber 33 = .ok (.iconst 2, 1) := by decide +kernel
theorem dX9_takeNumber_34 : decode cX9_takeNumber 34 = .ok (.invokevirtual 108, 3) := by decide +kernel
theorem dX9_takeNumber_37 : decode cX9_takeNumber 37 = .ok (.aload_n 0, 1) := by decide +kernel
theorem dX9_takeNumber_38 : decode cX9_takeNumber 38 = .ok (.getfield 64, 3) := by decide +kernel
theorem dX9_takeNumber_41 : decode cX9_takeNumber 41 = .ok (.istore_n 3, 1) := by decide +kernel
theorem dX9_takeNumber_42 : decode cX9_takeNumber 42 = .ok (.aload_n 0, 1) := by decide +kernel
theorem dX9_takeNumber_43 : decode cX9_takeNumber 43 = .ok (.invokevirtual 43, 3) := by decide +kernel
theorem dX9_takeNumber_46 : decode cX9_takeNumber 46 = .ok (.aload_n 0, 1) := by decide +kernel
theorem dX9_takeNumber_47 : decode cX9_takeNumber 47 = .ok (.getfield 37, 3) := by decide +kernel
theorem dX9_takeNumber_50 : decode cX9_takeNumber 50 = .ok (.ifCond .ne 7, 3) := by decide +kernel
theorem dX9_takeNumber_53 : decode cX9_takeNumber 53 = .ok (.iload_n 3, 1) := by decide +kernel
theorem dX9_takeNumber_54 : decode cX9_takeNumber 54 = .ok (.goto 4, 3) := by decide +kernel
theorem dX9_takeNumber_57 : decode cX9_takeNumber 57 = .ok (.iconst 0, 1) := by decide +kernel
theorem dX9_takeNumber_58 : decode cX9_takeNumber 58 = .ok (.ireturn, 1) := by decide +kernel
theorem dX9_takeSign_0 : decode cX9_takeSign 0 = .ok (.aload_n 0, 1) := by decide +kernel
theorem dX9_takeSign_1 : decode cX9_takeSign 1 = .ok (.iload_n 1, 1) := by decide +kernel
theorem dX9_takeSign_2 : decode cX9_takeSign 2 = .ok (.invokevirtual 111, 3) := by decide +kernel
theorem dX9_takeSign_5 : decode cX9_takeSign 5 = .ok (.ifCond .ne 8, 3) := by decide +kernel
theorem dX9_takeSign_8 : decode cX9_takeSign 8 = .ok (.aload_n 0, 1) := by decide +kernel
theorem dX9_takeSign_9 : decode cX9_takeSign 9 = .ok (.iconst 1, 1) := by decide +kernel
theorem dX9_takeSign_10 : decode cX9_takeSign 10 = .ok (.invokevirtual 108, 3) := by decide +kernel
theorem dX9_takeSign_13 : decode cX9_takeSign 13 = .ok (.aload_n 0, 1) := by decide +kernel
theorem dX9_takeSign_14 : decode cX9_takeSign 14 = .ok (.invokevirtual 43, 3) := by decide +kernel
theorem dX9_takeSign_17 : decode cX9_takeSign 17 = .ok (.return_, 1) := by decide +kernel
theorem dX9_takeComparison_0 : decode cX9_takeComparison 0 = .ok (.aload_n 0, 1) := by decide +kernel
theorem dX9_takeComparison_1 : decode cX9_takeComparison 1 = .ok (.bipush 60, 2) := by decide +kernel
theorem dX9_takeComparison_3 : decode cX9_takeComparison 3 = .ok (.invokevirtual 111, 3) := by decide +kernel
theorem dX9_takeComparison_6 : decode cX9_takeComparison 6 = .ok (.ifCond .ne 26, 3) := by decide +kernel
theorem dX9_takeComparison_9 : decode cX9_takeComparison 9 = .ok (.aload_n 0, 1) := by decide +kernel
theorem dX9_takeComparison_10 : decode cX9_takeComparison 10 = .ok (.bipush 61, 2) := by decide +kernel
theorem dX9_takeComparison_12 : decode cX9_takeComparison 12 = .ok (.invokevirtual 111, 3) := by decide +kernel
theorem dX9_takeComparison_15 : decode cX9_takeComparison 15 = .ok (.ifCond .ne 17, 3) := by decide +kernel
theorem dX9_takeComparison_18 : decode cX9_takeComparison 18 = .ok (.aload_n 0, 1) := by decide +kernel
theorem dX9_takeComparison_19 : decode cX9_takeComparison 19 = .ok (.bipush 62, 2) := by decide +kernel
theorem dX9_takeComparison_21 : decode cX9_takeComparison 21 = .ok (.invokevirtual 111, 3) := by decide +kernel
theorem dX9_takeComparison_24 : decode cX9_takeComparison 24 = .ok (.ifCond .ne 8, 3) := by decide +kernel
theorem dX9_takeComparison_27 : decode cX9_takeComparison 27 = .ok (.aload_n 0, 1) := by decide +kernel
theorem dX9_takeComparison_28 : decode cX9_takeComparison 28 = .ok (.iconst 1, 1) := by decide +kernel
theorem dX9_takeComparison_29 : decode cX9_takeComparison 29 = .ok (.invokevirtual 108, 3) := by decide +kernel
theorem dX9_takeComparison_32 : decode cX9_takeComparison 32 = .ok (.aload_n 0, 1) := by decide +kernel
theorem dX9_takeComparison_33 : decode cX9_takeComparison 33 = .ok (.getfield 64, 3) := by decide +kernel
theorem dX9_takeComparison_36 : decode cX9_takeComparison 36 = .ok (.istore_n 1, 1) := by decide +kernel
theorem dX9_takeComparison_37 : decode cX9_takeComparison 37 = .ok (.aload_n 0, 1) := by decide +kernel
theorem dX9_takeComparison_38 : decode cX9_takeComparison 38 = .ok (.invokevirtual 43, 3) := by decide +kernel
theorem dX9_takeComparison_41 : decode cX9_takeComparison 41 = .ok (.aload_n 0, 1) := by decide +kernel
theorem dX9_takeComparison_42 : decode cX9_takeComparison 42 = .ok (.getfield 37, 3) := by decide +kernel
theorem dX9_takeComparison_45 : decode cX9_takeComparison 45 = .ok (.ifCond .ne 7, 3) := by decide +kernel
theorem dX9_takeComparison_48 : decode cX9_takeComparison 48 = .ok (.iload_n 1, 1) := by decide +kernel
theorem dX9_takeComparison_49 : decode cX9_takeComparison 49 = .ok (.goto 4, 3) := by decide +kernel
theorem dX9_takeComparison_52 : decode cX9_takeComparison 52 = .ok (.iconst 0, 1) := by decide +kernel
theorem dX9_takeComparison_53 : decode cX9_takeComparison 53 = .ok (.ireturn, 1) := by decide +kernel
theorem dX9_refuse_0 : decode cX9_refuse 0 = .ok (.aload_n 0, 1) := by decide +kernel
theorem dX9_refuse_1 : decode cX9_refuse 1 = .ok (.aload_n 0, 1) := by decide +kernel
theorem dX9_refuse_2 : decode cX9_refuse 2 = .ok (.getfield 34, 3) := by decide +kernel
theorem dX9_refuse_5 : decode cX9_refuse 5 = .ok (.iload_n 1, 1) := by decide +kernel
theorem dX9_refuse_6 : decode cX9_refuse 6 = .ok (.invokevirtual 114, 3) := by decide +kernel
theorem dX9_refuse_9 : decode cX9_refuse 9 = .ok (.return_, 1) := by decide +kernel
theorem dX9_refuseTaken_0 : decode cX9_refuseTaken 0 = .ok (.aload_n 0, 1) := by decide +kernel
theorem dX9_refuseTaken_1 : decode cX9_refuseTaken 1 = .ok (.aload_n 0, 1) := by decide +kernel
theorem dX9_refuseTaken_2 : decode cX9_refuseTaken 2 = .ok (.getfield 46, 3) := by decide +kernel
theorem dX9_refuseTaken_5 : decode cX9_refuseTaken 5 = .ok (.iload_n 1, 1) := by decide +kernel
theorem dX9_refuseTaken_6 : decode cX9_refuseTaken 6 = .ok (.invokevirtual 114, 3) := by decide +kernel
theorem dX9_refuseTaken_9 : decode cX9_refuseTaken 9 = .ok (.return_, 1) := by decide +kernel
theorem dX9_refuseAt_0 : decode cX9_refuseAt 0 = .ok (.aload_n 0, 1) := by decide +kernel
theorem dX9_refuseAt_1 : decode cX9_refuseAt 1 = .ok (.getfield 37, 3) := by decide +kernel
theorem dX9_refuseAt_4 : decode cX9_refuseAt 4 = .ok (.ifCond .ne 13, 3) := by decide +kernel
theorem dX9_refuseAt_7 : decode cX9_refuseAt 7 = .ok (.aload_n 0, 1) := by decide +kernel
theorem dX9_refuseAt_8 : decode cX9_refuseAt 8 = .ok (.iload_n 2, 1) := by decide +kernel
theorem dX9_refuseAt_9 : decode cX9_refuseAt 9 = .ok (.putfield 37, 3) := by decide +kernel
theorem dX9_refuseAt_12 : decode cX9_refuseAt 12 = .ok (.aload_n 0, 1) := by decide +kernel
theorem dX9_refuseAt_13 : decode cX9_refuseAt 13 = .ok (.iload_n 1, 1) := by decide +kernel
theorem dX9_refuseAt_14 : decode cX9_refuseAt 14 = .ok (.putfield 40, 3) := by decide +kernel
theorem dX9_refuseAt_17 : decode cX9_refuseAt 17 = .ok (.return_, 1) := by decide +kernel
theorem dX9_close_0 : decode cX9_close 0 = .ok (.aload_n 0, 1) := by decide +kernel
theorem dX9_close_1 : decode cX9_close 1 = .ok (.getfield 49, 3) := by decide +kernel
theorem dX9_close_4 : decode cX9_close 4 = .ok (.ifCond .ne 14, 3) := by decide +kernel
theorem dX9_close_7 : decode cX9_close 7 = .ok (.aload_n 0, 1) := by decide +kernel
theorem dX9_close_8 : decode cX9_close 8 = .ok (.getfield 19, 3) := by decide +kernel
theorem dX9_close_11 : decode cX9_close 11 = .ok (.aload_n 0, 1) := by decide +kernel
theorem dX9_close_12 : decode cX9_close 12 = .ok (.getfield 28, 3) := by decide +kernel
theorem dX9_close_15 : decode cX9_close 15 = .ok (.if_icmp .le 8, 3) := by decide +kernel
theorem dX9_close_18 : decode cX9_close 18 = .ok (.aload_n 0, 1) := by decide +kernel
theorem dX9_close_19 : decode cX9_close 19 = .ok (.iconst 1, 1) := by decide +kernel
theorem dX9_close_20 : decode cX9_close 20 = .ok (.invokevirtual 108, 3) := by decide +kernel
theorem dX9_close_23 : decode cX9_close 23 = .ok (.return_, 1) := by decide +kernel
theorem dX10_init_0 : decode cX10_init 0 = .ok (.aload_n 0, 1) := by decide +kernel
theorem dX10_init_1 : decode cX10_init 1 = .ok (.invokespecial 3, 3) := by decide +kernel
theorem dX10_init_4 : decode cX10_init 4 = .ok (.aload_n 0, 1) := by decide +kernel
theorem dX10_init_5 : decode cX10_init 5 = .ok (.bipush 10, 2) := by decide +kernel
theorem dX10_init_7 : decode cX10_init 7 = .ok (.newarray .int, 2) := by decide +kernel
theorem dX10_init_9 : decode cX10_init 9 = .ok (.putfield 9, 3) := by decide +kernel
theorem dX10_init_12 : decode cX10_init 12 = .ok (.aload_n 0, 1) := by decide +kernel
theorem dX10_init_13 : decode cX10_init 13 = .ok (.bipush 7, 2) := by decide +kernel
theorem dX10_init_15 : decode cX10_init 15 = .ok (.newarray .int, 2) := by decide +kernel
theorem dX10_init_17 : decode cX10_init 17 = .ok (.putfield 15, 3) := by decide +kernel
theorem dX10_init_20 : decode cX10_init 20 = .ok (.aload_n 0, 1) := by decide +kernel
theorem dX10_init_21 : decode cX10_init 21 = .ok (.sipush 168, 3) := by decide +kernel
theorem dX10_init_24 : decode cX10_init 24 = .ok (.newarray .int, 2) := by decide +kernel
theorem dX10_init_26 : decode cX10_init 26 = .ok (.putfield 18, 3) := by decide +kernel
theorem dX10_init_29 : decode cX10_init 29 = .ok (.aload_n 0, 1) := by decide +kernel
theorem dX10_init_30 : decode cX10_init 30 = .ok (.bipush 40, 2) := by decide +kernel
theorem dX10_init_32 : decode cX10_init 32 = .ok (.newarray .int, 2) := by decide +kernel
theorem dX10_init_34 : decode cX10_init 34 = .ok (.putfield 21, 3) := by decide +kernel
theorem dX10_init_37 : decode cX10_init 37 = .ok (.aload_n 0, 1) := by decide +kernel
theorem dX10_init_38 : decode cX10_init 38 = .ok (.bipush 40, 2) := by decide +kernel
theorem dX10_init_40 : decode cX10_init 40 = .ok (.newarray .int, 2) := by decide +kernel
theorem dX10_init_42 : decode cX10_init 42 = .ok (.putfield 24, 3) := by decide +kernel
theorem dX10_init_45 : decode cX10_init 45 = .ok (.aload_n 0, 1) := by decide +kernel
theorem dX10_init_46 : decode cX10_init 46 = .ok (.iconst 4, 1) := by decide +kernel
theorem dX10_init_47 : decode cX10_init 47 = .ok (.newarray .int, 2) := by decide +kernel
theorem dX10_init_49 : decode cX10_init 49 = .ok (.putfield 27, 3) := by decide +kernel
theorem dX10_init_52 : decode cX10_init 52 = .ok (.return_, 1) := by decide +kernel
theorem dX10_prepare_0 : decode cX10_prepare 0 = .ok (.aload_n 0, 1) := by decide +kernel
theorem dX10_prepare_1 : decode cX10_prepare 1 = .ok (.aload_n 1, 1) := by decide +kernel
theorem dX10_prepare_2 : decode cX10_prepare 2 = .ok (.invokevirtual 30, 3) := by decide +kernel
theorem dX10_prepare_5 : decode cX10_prepare 5 = .ok (.aload_n 0, 1) := by decide +kernel
theorem dX10_prepare_6 : decode cX10_prepare 6 = .ok (.invokevirtual 34, 3) := by decide +kernel
theorem dX10_prepare_9 : decode cX10_prepare 9 = .ok (.iconst 0, 1) := by decide +kernel
theorem dX10_prepare_10 : decode cX10_prepare 10 = .ok (.istore_n 3, 1) := by decide +kernel
theorem dX10_prepare_11 : decode cX10_prepare 11 = .ok (.iload_n 3, 1) := by decide +kernel
theorem dX10_prepare_12 : decode cX10_prepare 12 = .ok (.aload_n 2, 1) := by decide +kernel
theorem dX10_prepare_13 : decode cX10_prepare 13 = .ok (.getfield 37, 3) := by decide +kernel
theorem dX10_prepare_16 : decode cX10_prepare 16 = .ok (.if_icmp .ge 31, 3) := by decide +kernel
theorem dX10_prepare_19 : decode cX10_prepare 19 = .ok (.aload_n 0, 1) := by decide +kernel
theorem dX10_prepare_20 : decode cX10_prepare 20 = .ok (.aload_n 2, 1) := by decide +kernel
theorem dX10_prepare_21 : decode cX10_prepare 21 = .ok (.getfield 43, 3) := by decide +kernel
theorem dX10_prepare_24 : decode cX10_prepare 24 = .ok (.iload_n 3, 1) := by decide +kernel
theorem dX10_prepare_25 : decode cX10_prepare 25 = .ok (.iaload, 1) := by decide +kernel
theorem dX10_prepare_26 : decode cX10_prepare 26 = .ok (.aload_n 2, 1) := by decide +kernel
theorem dX10_prepare_27 : decode cX10_prepare 27 = .ok (.getfield 46, 3) := by decide +kernel
theorem dX10_prepare_30 : decode cX10_prepare 30 = .ok (.iload_n 3, 1) := by decide +kernel
theorem dX10_prepare_31 : decode cX10_prepare 31 = .ok (.iaload, 1) := by decide +kernel
theorem dX10_prepare_32 : decode cX10_prepare 32 = .ok (.aload_n 2, 1) := by decide +kernel
theorem dX10_prepare_33 : decode cX10_prepare 33 = .ok (.getfield 49, 3) := by decide +kernel
theorem dX10_prepare_36 : decode cX10_prepare 36 = .ok (.iload_n 3, 1) := by decide +kernel
theorem dX10_prepare_37 : decode cX10_prepare 37 = .ok (.iaload, 1) := by decide +kernel
theorem dX10_prepare_38 : decode cX10_prepare 38 = .ok (.invokevirtual 52, 3) := by decide +kernel
theorem dX10_prepare_41 : decode cX10_prepare 41 = .ok (.iinc 3 1, 3) := by decide +kernel
theorem dX10_prepare_44 : decode cX10_prepare 44 = .ok (.goto (-33), 3) := by decide +kernel
theorem dX10_prepare_47 : decode cX10_prepare 47 = .ok (.return_, 1) := by decide +kernel
theorem dX10_takeFrom_0 : decode cX10_takeFrom 0 = .ok (.aload_n 1, 1) := by decide +kernel
theorem dX10_takeFrom_1 : decode cX10_takeFrom 1 = .ok (.getfield 56, 3) := by decide +kernel
theorem dX10_takeFrom_4 : decode cX10_takeFrom 4 = .ok (.iconst 0, 1) := by decide +kernel
theorem dX10_takeFrom_5 : decode cX10_takeFrom 5 = .ok (.aload_n 0, 1) := by decide +kernel
theorem dX10_takeFrom_6 : decode cX10_takeFrom 6 = .ok (.getfield 9, 3) := by decide +kernel
theorem dX10_takeFrom_9 : decode cX10_takeFrom 9 = .ok (.iconst 0, 1) := by decide +kernel
theorem dX10_takeFrom_10 : decode cX10_takeFrom 10 = .ok (.bipush 10, 2) := by decide +kernel
theorem dX10_takeFrom_12 : decode cX10_takeFrom 12 = .ok (.invokestatic 59, 3) := by decide +kernel
theorem dX10_takeFrom_15 : decode cX10_takeFrom 15 = .ok (.iconst 0, 1) := by decide +kernel
theorem dX10_takeFrom_16 : decode cX10_takeFrom 16 = .ok (.istore_n 2, 1) := by decide +kernel
theorem dX10_takeFrom_17 : decode cX10_takeFrom 17 = .ok (.iload_n 2, 1) := by decide +kernel
theorem dX10_takeFrom_18 : decode cX10_takeFrom 18 = .ok (.bipush 7, 2) := by decide +kernel
theorem dX10_takeFrom_20 : decode cX10_takeFrom 20 = .ok (.if_icmp .ge 20, 3) := by decide +kernel
theorem dX10_takeFrom_23 : decode cX10_takeFrom 23 = .ok (.aload_n 0, 1) := by decide +kernel
theorem dX10_takeFrom_24 : decode cX10_takeFrom 24 = .ok (.getfield 15, 3) := by decide +kernel
theorem dX10_takeFrom_27 : decode cX10_takeFrom 27 = .ok (.iload_n 2, 1) := by decide +kernel
theorem dX10_takeFrom_28 : decode cX10_takeFrom 28 = .ok (.aload_n 1, 1) := by decide +kernel
theorem dX10_takeFrom_29 : decode cX10_takeFrom 29 = .ok (.iload_n 2, 1) := by decide +kernel
theorem dX10_takeFrom_30 : decode cX10_takeFrom 30 = .ok (.invokevirtual 65, 3) := by decide +kernel
theorem dX10_takeFrom_33 : decode cX10_takeFrom 33 = .ok (.iastore, 1) := by decide +kernel
theorem dX10_takeFrom_34 : decode cX10_takeFrom 34 = .ok (.iinc 2 1, 3) := by decide +kernel
theorem dX10_takeFrom_37 : decode cX10_takeFrom 37 = .ok (.goto (-20), 3) := by decide +kernel
theorem dX10_takeFrom_40 : decode cX10_takeFrom 40 = .ok (.return_, 1) := by decide +kernel
theorem dX10_rest_0 : decode cX10_rest 0 = .ok (.iconst 0, 1) := by decide +kernel
theorem dX10_rest_1 : decode cX10_rest 1 = .ok (.istore_n 1, 1) := by decide +kernel
theorem dX10_rest_2 : decode cX10_rest 2 = .ok (.iload_n 1, 1) := by decide +kernel
theorem dX10_rest_3 : decode cX10_rest 3 = .ok (.sipush 168, 3) := by decide +kernel
theorem dX10_rest_6 : decode cX10_rest 6 = .ok (.if_icmp .ge 16, 3) := by decide +kernel
theorem dX10_rest_9 : decode cX10_rest 9 = .ok (.aload_n 0, 1) := by decide +kernel
theorem dX10_rest_10 : decode cX10_rest 10 = .ok (.getfield 18, 3) := by decide +kernel
theorem dX10_rest_13 : decode cX10_rest 13 = .ok (.iload_n 1, 1) := by decide +kernel
theorem dX10_rest_14 : decode cX10_rest 14 = .ok (.iconst 0, 1) := by decide +kernel
theorem dX10_rest_15 : decode cX10_rest 15 = .ok (.iastore, 1) := by decide +kernel
theorem dX10_rest_16 : decode cX10_rest 16 = .ok (.iinc 1 1, 3) := by decide +kernel
theorem dX10_rest_19 : decode cX10_rest 19 = .ok (.goto (-17), 3) := by decide +kernel
theorem dX10_rest_22 : decode cX10_rest 22 = .ok (.return_, 1) := by decide +kernel
theorem dX10_setWork_0 : decode cX10_setWork 0 = .ok (.iload_n 2, 1) := by decide +kernel
theorem dX10_setWork_1 : decode cX10_setWork 1 = .ok (.iconst 0, 1) := by decide +kernel
theorem dX10_setWork_2 : decode cX10_setWork 2 = .ok (.invokestatic 69, 3) := by decide +kernel
theorem dX10_setWork_5 : decode cX10_setWork 5 = .ok (.istore 4, 2) := by decide +kernel
theorem dX10_setWork_7 : decode cX10_setWork 7 = .ok (.iload 4, 2) := by decide +kernel
theorem dX10_setWork_9 : decode cX10_setWork 9 = .ok (.iload_n 2, 1) := by decide +kernel
theorem dX10_setWork_10 : decode cX10_setWork 10 = .ok (.iload_n 3, 1) := by decide +kernel
theorem dX10_setWork_11 : decode cX10_setWork 11 = .ok (.iadd, 1) := by decide +kernel
theorem dX10_setWork_12 : decode cX10_setWork 12 = .ok (.if_icmp .ge 30, 3) := by decide +kernel
theorem dX10_setWork_15 : decode cX10_setWork 15 = .ok (.iload 4, 2) := by decide +kernel
theorem dX10_setWork_17 : decode cX10_setWork 17 = .ok (.sipush 168, 3) := by decide +kernel
theorem dX10_setWork_20 : decode cX10_setWork 20 = .ok (.if_icmp .ge 22, 3) := by decide +kernel
theorem dX10_setWork_23 : decode cX10_setWork 23 = .ok (.aload_n 0, 1) := by decide +kernel
theorem dX10_setWork_24 : decode cX10_setWork 24 = .ok (.getfield 18, 3) := by decide +kernel
theorem dX10_setWork_27 : decode cX10_setWork 27 = .ok (.iload 4, 2) := by decide +kernel
theorem dX10_setWork_29 : decode cX10_setWork 29 = .ok (.dup2, 1) := by decide +kernel
theorem dX10_setWork_30 : decode cX10_setWork 30 = .ok (.iaload, 1) := by decide +kernel
theorem dX10_setWork_31 : decode cX10_setWork 31 = .ok (.iconst 1, 1) := by decide +kernel
theorem dX10_setWork_32 : decode cX10_setWork 32 = .ok (.iload_n 1, 1) := by decide +kernel
theorem dX10_setWork_33 : decode cX10_setWork 33 = .ok (.ishl, 1) := by decide +kernel
theorem dX10_setWork_34 : decode cX10_setWork 34 = .ok (.ior, 1) := by decide +kernel
theorem dX10_setWork_35 : decode cX10_setWork 35 = .ok (.iastore, 1) := by decide +kernel
theorem dX10_setWork_36 : decode cX10_setWork 36 = .ok (.iinc 4 1, 3) := by decide +kernel
theorem dX10_setWork_39 : decode cX10_setWork 39 = .ok (.goto (-32), 3) := by decide +kernel
theorem dX10_setWork_42 : decode cX10_setWork 42 = .ok (.return_, 1) := by decide +kernel
theorem dX10_resetWork_0 : decode cX10_resetWork 0 = .ok (.iload_n 3, 1) := by decide +kernel
theorem dX10_resetWork_1 : decode cX10_resetWork 1 = .ok (.iconst 0, 1) := by decide +kernel
theorem dX10_resetWork_2 : decode cX10_resetWork 2 = .ok (.invokestatic 69, 3) := by decide +kernel
theorem dX10_resetWork_5 : decode cX10_resetWork 5 = .ok (.istore 5, 2) := by decide +kernel
theorem dX10_resetWork_7 : decode cX10_resetWork 7 = .ok (.iload 5, 2) := by decide +kernel
theorem dX10_resetWork_9 : decode cX10_resetWork 9 = .ok (.iload_n 3, 1) := by decide +kernel
theorem dX10_resetWork_10 : decode cX10_resetWork 10 = .ok (.iload 4, 2) := by decide +kernel
theorem dX10_resetWork_12 : decode cX10_resetWork 12 = .ok (.iadd, 1) := by decide +kernel
theorem dX10_resetWork_13 : decode cX10_resetWork 13 = .ok (.if_icmp .ge 49, 3) := by decide +kernel
theorem dX10_resetWork_16 : decode cX10_resetWork 16 = .ok (.iload 5, 2) := by decide +kernel
theorem dX10_resetWork_18 : decode cX10_resetWork 18 = .ok (.sipush 168, 3) := by decide +kernel
theorem dX10_resetWork_21 : decode cX10_resetWork 21 = .ok (.if_icmp .ge 41, 3) := by decide +kernel
theorem dX10_resetWork_24 : decode cX10_resetWork 24 = .ok (.aload_n 0, 1) := by decide +kernel
theorem dX10_resetWork_25 : decode cX10_resetWork 25 = .ok (.getfield 18, 3) := by decide +kernel
theorem dX10_resetWork_28 : decode cX10_resetWork 28 = .ok (.iload 5, 2) := by decide +kernel
theorem dX10_resetWork_30 : decode cX10_resetWork 30 = .ok (.aload_n 0, 1) := by decide +kernel
theorem dX10_resetWork_31 : decode cX10_resetWork 31 = .ok (.getfield 18, 3) := by decide +kernel
