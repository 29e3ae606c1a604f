theorem dX0_init_0 : decode cX0_init 0 = .ok (.aload_n 0, 1) := by decide +kernel
theorem dX0_init_1 : decode cX0_init 1 = .ok (.invokespecial 3, 3) := by decide +kernel
theorem dX0_init_4 : decode cX0_init 4 = .ok (.aload_n 0, 1) := by decide +kernel
theorem dX0_init_5 : decode cX0_init 5 = .ok (.iconst 5, 1) := by decide +kernel
theorem dX0_init_6 : decode cX0_init 6 = .ok (.newarray .int, 2) := by decide +kernel
theorem dX0_init_8 : decode cX0_init 8 = .ok (.putfield 9, 3) := by decide +kernel
theorem dX0_init_11 : decode cX0_init 11 = .ok (.aload_n 0, 1) := by decide +kernel
theorem dX0_init_12 : decode cX0_init 12 = .ok (.iconst 5, 1) := by decide +kernel
theorem dX0_init_13 : decode cX0_init 13 = .ok (.newarray .int, 2) := by decide +kernel
theorem dX0_init_15 : decode cX0_init 15 = .ok (.putfield 15, 3) := by decide +kernel
theorem dX0_init_18 : decode cX0_init 18 = .ok (.aload_n 0, 1) := by decide +kernel
theorem dX0_init_19 : decode cX0_init 19 = .ok (.iconst 5, 1) := by decide +kernel
theorem dX0_init_20 : decode cX0_init 20 = .ok (.newarray .int, 2) := by decide +kernel
theorem dX0_init_22 : decode cX0_init 22 = .ok (.putfield 18, 3) := by decide +kernel
theorem dX0_init_25 : decode cX0_init 25 = .ok (.return_, 1) := by decide +kernel
theorem dX0_plan_0 : decode cX0_plan 0 = .ok (.aload_n 3, 1) := by decide +kernel
theorem dX0_plan_1 : decode cX0_plan 1 = .ok (.iconst 0, 1) := by decide +kernel
theorem dX0_plan_2 : decode cX0_plan 2 = .ok (.aload_n 0, 1) := by decide +kernel
theorem dX0_plan_3 : decode cX0_plan 3 = .ok (.getfield 18, 3) := by decide +kernel
theorem dX0_plan_6 : decode cX0_plan 6 = .ok (.iconst 0, 1) := by decide +kernel
theorem dX0_plan_7 : decode cX0_plan 7 = .ok (.iconst 5, 1) := by decide +kernel
theorem dX0_plan_8 : decode cX0_plan 8 = .ok (.invokestatic 21, 3) := by decide +kernel
theorem dX0_plan_11 : decode cX0_plan 11 = .ok (.aload_n 0, 1) := by decide +kernel
theorem dX0_plan_12 : decode cX0_plan 12 = .ok (.aload_n 1, 1) := by decide +kernel
theorem dX0_plan_13 : decode cX0_plan 13 = .ok (.getfield 27, 3) := by decide +kernel
theorem dX0_plan_16 : decode cX0_plan 16 = .ok (.aload_n 2, 1) := by decide +kernel
theorem dX0_plan_17 : decode cX0_plan 17 = .ok (.getfield 33, 3) := by decide +kernel
theorem dX0_plan_20 : decode cX0_plan 20 = .ok (.isub, 1) := by decide +kernel
theorem dX0_plan_21 : decode cX0_plan 21 = .ok (.putfield 38, 3) := by decide +kernel
theorem dX0_plan_24 : decode cX0_plan 24 = .ok (.aload_n 0, 1) := by decide +kernel
theorem dX0_plan_25 : decode cX0_plan 25 = .ok (.iconst 0, 1) := by decide +kernel
theorem dX0_plan_26 : decode cX0_plan 26 = .ok (.putfield 41, 3) := by decide +kernel
theorem dX0_plan_29 : decode cX0_plan 29 = .ok (.aload_n 0, 1) := by decide +kernel
theorem dX0_plan_30 : decode cX0_plan 30 = .ok (.iconst 0, 1) := by decide +kernel
theorem dX0_plan_31 : decode cX0_plan 31 = .ok (.putfield 44, 3) := by decide +kernel
theorem dX0_plan_34 : decode cX0_plan 34 = .ok (.aload_n 0, 1) := by decide +kernel
theorem dX0_plan_35 : decode cX0_plan 35 = .ok (.iconst 0, 1) := by decide +kernel
theorem dX0_plan_36 : decode cX0_plan 36 = .ok (.putfield 47, 3) := by decide +kernel
theorem dX0_plan_39 : decode cX0_plan 39 = .ok (.aload_n 0, 1) := by decide +kernel
theorem dX0_plan_40 : decode cX0_plan 40 = .ok (.aload_n 1, 1) := by decide +kernel
theorem dX0_plan_41 : decode cX0_plan 41 = .ok (.iconst 0, 1) := by decide +kernel
theorem dX0_plan_42 : decode cX0_plan 42 = .ok (.aload_n 2, 1) := by decide +kernel
theorem dX0_plan_43 : decode cX0_plan 43 = .ok (.getfield 50, 3) := by decide +kernel
theorem dX0_plan_46 : decode cX0_plan 46 = .ok (.iconst 0, 1) := by decide +kernel
theorem dX0_plan_47 : decode cX0_plan 47 = .ok (.iconst 0, 1) := by decide +kernel
theorem dX0_plan_48 : decode cX0_plan 48 = .ok (.iconst 0, 1) := by decide +kernel
theorem dX0_plan_49 : decode cX0_plan 49 = .ok (.invokevirtual 53, 3) := by decide +kernel
theorem dX0_plan_52 : decode cX0_plan 52 = .ok (.return_, 1) := by decide +kernel
theorem dX0_extend_0 : decode cX0_extend 0 = .ok (.iload_n 2, 1) := by decide +kernel
theorem dX0_extend_1 : decode cX0_extend 1 = .ok (.iconst 5, 1) := by decide +kernel
theorem dX0_extend_2 : decode cX0_extend 2 = .ok (.if_icmp .lt 4, 3) := by decide +kernel
theorem dX0_extend_5 : decode cX0_extend 5 = .ok (.return_, 1) := by decide +kernel
theorem dX0_extend_6 : decode cX0_extend 6 = .ok (.iconst 0, 1) := by decide +kernel
theorem dX0_extend_7 : decode cX0_extend 7 = .ok (.istore 7, 2) := by decide +kernel
theorem dX0_extend_9 : decode cX0_extend 9 = .ok (.iload 7, 2) := by decide +kernel
theorem dX0_extend_11 : decode cX0_extend 11 = .ok (.aload_n 1, 1) := by decide +kernel
theorem dX0_extend_12 : decode cX0_extend 12 = .ok (.getfield 57, 3) := by decide +kernel
theorem dX0_extend_15 : decode cX0_extend 15 = .ok (.if_icmp .ge 112, 3) := by decide +kernel
theorem dX0_extend_18 : decode cX0_extend 18 = .ok (.aload_n 0, 1) := by decide +kernel
theorem dX0_extend_19 : decode cX0_extend 19 = .ok (.getfield 18, 3) := by decide +kernel
theorem dX0_extend_22 : decode cX0_extend 22 = .ok (.iload 7, 2) := by decide +kernel
theorem dX0_extend_24 : decode cX0_extend 24 = .ok (.iaload, 1) := by decide +kernel
theorem dX0_extend_25 : decode cX0_extend 25 = .ok (.bipush (-9), 2) := by decide +kernel
theorem dX0_extend_27 : decode cX0_extend 27 = .ok (.if_icmp .eq 94, 3) := by decide +kernel
theorem dX0_extend_30 : decode cX0_extend 30 = .ok (.iload 6, 2) := by decide +kernel
theorem dX0_extend_32 : decode cX0_extend 32 = .ok (.iload 7, 2) := by decide +kernel
theorem dX0_extend_34 : decode cX0_extend 34 = .ok (.ishr, 1) := by decide +kernel
theorem dX0_extend_35 : decode cX0_extend 35 = .ok (.iconst 1, 1) := by decide +kernel
theorem dX0_extend_36 : decode cX0_extend 36 = .ok (.iand, 1) := by decide +kernel
theorem dX0_extend_37 : decode cX0_extend 37 = .ok (.ifCond .ne 84, 3) := by decide +kernel
theorem dX0_extend_40 : decode cX0_extend 40 = .ok (.iload 4, 2) := by decide +kernel
theorem dX0_extend_42 : decode cX0_extend 42 = .ok (.aload_n 1, 1) := by decide +kernel
theorem dX0_extend_43 : decode cX0_extend 43 = .ok (.iload_n 3, 1) := by decide +kernel
theorem dX0_extend_44 : decode cX0_extend 44 = .ok (.iload 7, 2) := by decide +kernel
theorem dX0_extend_46 : decode cX0_extend 46 = .ok (.invokevirtual 60, 3) := by decide +kernel
theorem dX0_extend_49 : decode cX0_extend 49 = .ok (.iadd, 1) := by decide +kernel
theorem dX0_extend_50 : decode cX0_extend 50 = .ok (.aload_n 0, 1) := by decide +kernel
theorem dX0_extend_51 : decode cX0_extend 51 = .ok (.getfield 18, 3) := by decide +kernel
theorem dX0_extend_54 : decode cX0_extend 54 = .ok (.iload 7, 2) := by decide +kernel
theorem dX0_extend_56 : decode cX0_extend 56 = .ok (.iaload, 1) := by decide +kernel
theorem dX0_extend_57 : decode cX0_extend 57 = .ok (.iadd, 1) := by decide +kernel
theorem dX0_extend_58 : decode cX0_extend 58 = .ok (.istore 8, 2) := by decide +kernel
theorem dX0_extend_60 : decode cX0_extend 60 = .ok (.iload 5, 2) := by decide +kernel
theorem dX0_extend_62 : decode cX0_extend 62 = .ok (.aload_n 1, 1) := by decide +kernel
theorem dX0_extend_63 : decode cX0_extend 63 = .ok (.getfield 64, 3) := by decide +kernel
theorem dX0_extend_66 : decode cX0_extend 66 = .ok (.iload 7, 2) := by decide +kernel
theorem dX0_extend_68 : decode cX0_extend 68 = .ok (.iaload, 1) := by decide +kernel
theorem dX0_extend_69 : decode cX0_extend 69 = .ok (.iadd, 1) := by decide +kernel
theorem dX0_extend_70 : decode cX0_extend 70 = .ok (.istore 9, 2) := by decide +kernel
theorem dX0_extend_72 : decode cX0_extend 72 = .ok (.iload 8, 2) := by decide +kernel
theorem dX0_extend_74 : decode cX0_extend 74 = .ok (.aload_n 0, 1) := by decide +kernel
theorem dX0_extend_75 : decode cX0_extend 75 = .ok (.getfield 38, 3) := by decide +kernel
theorem dX0_extend_78 : decode cX0_extend 78 = .ok (.if_icmp .gt 43, 3) := by decide +kernel
theorem dX0_extend_81 : decode cX0_extend 81 = .ok (.aload_n 0, 1) := by decide +kernel
theorem dX0_extend_82 : decode cX0_extend 82 = .ok (.getfield 15, 3) := by decide +kernel
theorem dX0_extend_85 : decode cX0_extend 85 = .ok (.iload_n 2, 1) := by decide +kernel
theorem dX0_extend_86 : decode cX0_extend 86 = .ok (.iload 7, 2) := by decide +kernel
theorem dX0_extend_88 : decode cX0_extend 88 = .ok (.iastore, 1) := by decide +kernel
theorem dX0_extend_89 : decode cX0_extend 89 = .ok (.aload_n 0, 1) := by decide +kernel
theorem dX0_extend_90 : decode cX0_extend 90 = .ok (.iload_n 2, 1) := by decide +kernel
theorem dX0_extend_91 : decode cX0_extend 91 = .ok (.iconst 1, 1) := by decide +kernel
theorem dX0_extend_92 : decode cX0_extend 92 = .ok (.iadd, 1) := by decide +kernel
theorem dX0_extend_93 : decode cX0_extend 93 = .ok (.iload 9, 2) := by decide +kernel
theorem dX0_extend_95 : decode cX0_extend 95 = .ok (.iload 8, 2) := by decide +kernel
theorem dX0_extend_97 : decode cX0_extend 97 = .ok (.invokevirtual 67, 3) := by decide +kernel
theorem dX0_extend_100 : decode cX0_extend 100 = .ok (.aload_n 0, 1) := by decide +kernel
theorem dX0_extend_101 : decode cX0_extend 101 = .ok (.aload_n 1, 1) := by decide +kernel
theorem dX0_extend_102 : decode cX0_extend 102 = .ok (.iload_n 2, 1) := by decide +kernel
theorem dX0_extend_103 : decode cX0_extend 103 = .ok (.iconst 1, 1) := by decide +kernel
theorem dX0_extend_104 : decode cX0_extend 104 = .ok (.iadd, 1) := by decide +kernel
theorem dX0_extend_105 : decode cX0_extend 105 = .ok (.iload 7, 2) := by decide +kernel
theorem dX0_extend_107 : decode cX0_extend 107 = .ok (.iload 8, 2) := by decide +kernel
theorem dX0_extend_109 : decode cX0_extend 109 = .ok (.iload 9, 2) := by decide +kernel
theorem dX0_extend_111 : decode cX0_extend 111 = .ok (.iload 6, 2) := by decide +kernel
theorem dX0_extend_113 : decode cX0_extend 113 = .ok (.iconst 1, 1) := by decide +kernel
theorem dX0_extend_114 : decode cX0_extend 114 = .ok (.iload 7, 2) := by decide +kernel
theorem dX0_extend_116 : decode cX0_extend 116 = .ok (.ishl, 1) := by decide +kernel
theorem dX0_extend_117 : decode cX0_extend 117 = .ok (.ior, 1) := by decide +kernel
theorem dX0_extend_118 : decode cX0_extend 118 = .ok (.invokevirtual 53, 3) := by decide +kernel
theorem dX0_extend_121 : decode cX0_extend 121 = .ok (.iinc 7 1, 3) := by decide +kernel
theorem dX0_extend_124 : decode cX0_extend 124 = .ok (.goto (-115), 3) := by decide +kernel
theorem dX0_extend_127 : decode cX0_extend 127 = .ok (.return_, 1) := by decide +kernel
theorem dX0_weigh_0 : decode cX0_weigh 0 = .ok (.iload_n 2, 1) := by decide +kernel
theorem dX0_weigh_1 : decode cX0_weigh 1 = .ok (.aload_n 0, 1) := by decide +kernel
theorem dX0_weigh_2 : decode cX0_weigh 2 = .ok (.getfield 44, 3) := by decide +kernel
theorem dX0_weigh_5 : decode cX0_weigh 5 = .ok (.if_icmp .gt 19, 3) := by decide +kernel
theorem dX0_weigh_8 : decode cX0_weigh 8 = .ok (.iload_n 2, 1) := by decide +kernel
theorem dX0_weigh_9 : decode cX0_weigh 9 = .ok (.aload_n 0, 1) := by decide +kernel
theorem dX0_weigh_10 : decode cX0_weigh 10 = .ok (.getfield 44, 3) := by decide +kernel
theorem dX0_weigh_13 : decode cX0_weigh 13 = .ok (.if_icmp .ne 40, 3) := by decide +kernel
theorem dX0_weigh_16 : decode cX0_weigh 16 = .ok (.iload_n 3, 1) := by decide +kernel
theorem dX0_weigh_17 : decode cX0_weigh 17 = .ok (.aload_n 0, 1) := by decide +kernel
theorem dX0_weigh_18 : decode cX0_weigh 18 = .ok (.getfield 47, 3) := by decide +kernel
theorem dX0_weigh_21 : decode cX0_weigh 21 = .ok (.if_icmp .ge 32, 3) := by decide +kernel
theorem dX0_weigh_24 : decode cX0_weigh 24 = .ok (.aload_n 0, 1) := by decide +kernel
theorem dX0_weigh_25 : decode cX0_weigh 25 = .ok (.iload_n 1, 1) := by decide +kernel
theorem dX0_weigh_26 : decode cX0_weigh 26 = .ok (.putfield 41, 3) := by decide +kernel
theorem dX0_weigh_29 : decode cX0_weigh 29 = .ok (.aload_n 0, 1) := by decide +kernel
theorem dX0_weigh_30 : decode cX0_weigh 30 = .ok (.iload_n 2, 1) := by decide +kernel
theorem dX0_weigh_31 : decode cX0_weigh 31 = .ok (.putfield 44, 3) := by decide +kernel
theorem dX0_weigh_34 : decode cX0_weigh 34 = .ok (.aload_n 0, 1) := by decide +kernel
theorem dX0_weigh_35 : decode cX0_weigh 35 = .ok (.iload_n 3, 1) := by decide +kernel
theorem dX0_weigh_36 : decode cX0_weigh 36 = .ok (.putfield 47, 3) := by decide +kernel
theorem dX0_weigh_39 : decode cX0_weigh 39 = .ok (.aload_n 0, 1) := by decide +kernel
theorem dX0_weigh_40 : decode cX0_weigh 40 = .ok (.getfield 15, 3) := by decide +kernel
theorem dX0_weigh_43 : decode cX0_weigh 43 = .ok (.iconst 0, 1) := by decide +kernel
theorem dX0_weigh_44 : decode cX0_weigh 44 = .ok (.aload_n 0, 1) := by decide +kernel
theorem dX0_weigh_45 : decode cX0_weigh 45 = .ok (.getfield 9, 3) := by decide +kernel
theorem dX0_weigh_48 : decode cX0_weigh 48 = .ok (.iconst 0, 1) := by decide +kernel
theorem dX0_weigh_49 : decode cX0_weigh 49 = .ok (.iload_n 1, 1) := by decide +kernel
theorem dX0_weigh_50 : decode cX0_weigh 50 = .ok (.invokestatic 21, 3) := by decide +kernel
theorem dX0_weigh_53 : decode cX0_weigh 53 = .ok (.return_, 1) := by decide +kernel
theorem dX1_init_0 : decode cX1_init 0 = .ok (.aload_n 0, 1) := by decide +kernel
theorem dX1_init_1 : decode cX1_init 1 = .ok (.invokespecial 3, 3) := by decide +kernel
theorem dX1_init_4 : decode cX1_init 4 = .ok (.aload_n 0, 1) := by decide +kernel
theorem dX1_init_5 : decode cX1_init 5 = .ok (.sipush 186, 3) := by decide +kernel
theorem dX1_init_8 : decode cX1_init 8 = .ok (.newarray .int, 2) := by decide +kernel
theorem dX1_init_10 : decode cX1_init 10 = .ok (.putfield 11, 3) := by decide +kernel
theorem dX1_init_13 : decode cX1_init 13 = .ok (.aload_n 0, 1) := by decide +kernel
theorem dX1_init_14 : decode cX1_init 14 = .ok (.iconst 5, 1) := by decide +kernel
theorem dX1_init_15 : decode cX1_init 15 = .ok (.newarray .int, 2) := by decide +kernel
theorem dX1_init_17 : decode cX1_init 17 = .ok (.putfield 15, 3) := by decide +kernel
theorem dX1_init_20 : decode cX1_init 20 = .ok (.aload_n 0, 1) := by decide +kernel
theorem dX1_init_21 : decode cX1_init 21 = .ok (.iconst 5, 1) := by decide +kernel
theorem dX1_init_22 : decode cX1_init 22 = .ok (.newarray .int, 2) := by decide +kernel
theorem dX1_init_24 : decode cX1_init 24 = .ok (.putfield 18, 3) := by decide +kernel
theorem dX1_init_27 : decode cX1_init 27 = .ok (.aload_n 0, 1) := by decide +kernel
theorem dX1_init_28 : decode cX1_init 28 = .ok (.iconst 5, 1) := by decide +kernel
theorem dX1_init_29 : decode cX1_init 29 = .ok (.newarray .int, 2) := by decide +kernel
theorem dX1_init_31 : decode cX1_init 31 = .ok (.putfield 21, 3) := by decide +kernel
theorem dX1_init_34 : decode cX1_init 34 = .ok (.return_, 1) := by decide +kernel
theorem dX1_solve_0 : decode cX1_solve 0 = .ok (.aload_n 0, 1) := by decide +kernel
theorem dX1_solve_1 : decode cX1_solve 1 = .ok (.aload_n 1, 1) := by decide +kernel
theorem dX1_solve_2 : decode cX1_solve 2 = .ok (.getfield 24, 3) := by decide +kernel
theorem dX1_solve_5 : decode cX1_solve 5 = .ok (.putfield 30, 3) := by decide +kernel
theorem dX1_solve_8 : decode cX1_solve 8 = .ok (.iconst 0, 1) := by decide +kernel
theorem dX1_solve_9 : decode cX1_solve 9 = .ok (.istore 4, 2) := by decide +kernel
theorem dX1_solve_11 : decode cX1_solve 11 = .ok (.iload 4, 2) := by decide +kernel
theorem dX1_solve_13 : decode cX1_solve 13 = .ok (.aload_n 0, 1) := by decide +kernel
theorem dX1_solve_14 : decode cX1_solve 14 = .ok (.getfield 30, 3) := by decide +kernel
theorem dX1_solve_17 : decode cX1_solve 17 = .ok (.if_icmp .ge 37, 3) := by decide +kernel
theorem dX1_solve_20 : decode cX1_solve 20 = .ok (.aload_n 0, 1) := by decide +kernel
theorem dX1_solve_21 : decode cX1_solve 21 = .ok (.getfield 18, 3) := by decide +kernel
theorem dX1_solve_24 : decode cX1_solve 24 = .ok (.iload 4, 2) := by decide +kernel
theorem dX1_solve_26 : decode cX1_solve 26 = .ok (.aload_n 1, 1) := by decide +kernel
theorem dX1_solve_27 : decode cX1_solve 27 = .ok (.iload_n 3, 1) := by decide +kernel
theorem dX1_solve_28 : decode cX1_solve 28 = .ok (.iload 4, 2) := by decide +kernel
theorem dX1_solve_30 : decode cX1_solve 30 = .ok (.invokevirtual 31, 3) := by decide +kernel
theorem dX1_solve_33 : decode cX1_solve 33 = .ok (.iastore, 1) := by decide +kernel
theorem dX1_solve_34 : decode cX1_solve 34 = .ok (.aload_n 0, 1) := by decide +kernel
theorem dX1_solve_35 : decode cX1_solve 35 = .ok (.getfield 21, 3) := by decide +kernel
theorem dX1_solve_38 : decode cX1_solve 38 = .ok (.iload 4, 2) := by decide +kernel
theorem dX1_solve_40 : decode cX1_solve 40 = .ok (.aload_n 1, 1) := by decide +kernel
theorem dX1_solve_41 : decode cX1_solve 41 = .ok (.getfield 35, 3) := by decide +kernel
theorem dX1_solve_44 : decode cX1_solve 44 = .ok (.iload 4, 2) := by decide +kernel
theorem dX1_solve_46 : decode cX1_solve 46 = .ok (.iaload, 1) := by decide +kernel
theorem dX1_solve_47 : decode cX1_solve 47 = .ok (.iastore, 1) := by decide +kernel
theorem dX1_solve_48 : decode cX1_solve 48 = .ok (.iinc 4 1, 3) := by decide +kernel
theorem dX1_solve_51 : decode cX1_solve 51 = .ok (.goto (-40), 3) := by decide +kernel
theorem dX1_solve_54 : decode cX1_solve 54 = .ok (.aload_n 0, 1) := by decide +kernel
theorem dX1_solve_55 : decode cX1_solve 55 = .ok (.iconst 0, 1) := by decide +kernel
theorem dX1_solve_56 : decode cX1_solve 56 = .ok (.aload_n 2, 1) := by decide +kernel
theorem dX1_solve_57 : decode cX1_solve 57 = .ok (.getfield 36, 3) := by decide +kernel
theorem dX1_solve_60 : decode cX1_solve 60 = .ok (.iload_n 3, 1) := by decide +kernel
theorem dX1_solve_61 : decode cX1_solve 61 = .ok (.iaload, 1) := by decide +kernel
theorem dX1_solve_62 : decode cX1_solve 62 = .ok (.bipush 30, 2) := by decide +kernel
theorem dX1_solve_64 : decode cX1_solve 64 = .ok (.invokestatic 41, 3) := by decide +kernel
theorem dX1_solve_67 : decode cX1_solve 67 = .ok (.invokestatic 46, 3) := by decide +kernel
theorem dX1_solve_70 : decode cX1_solve 70 = .ok (.putfield 49, 3) := by decide +kernel
theorem dX1_solve_73 : decode cX1_solve 73 = .ok (.aload_n 0, 1) := by decide +kernel
theorem dX1_solve_74 : decode cX1_solve 74 = .ok (.aload_n 2, 1) := by decide +kernel
theorem dX1_solve_75 : decode cX1_solve 75 = .ok (.getfield 51, 3) := by decide +kernel
theorem dX1_solve_78 : decode cX1_solve 78 = .ok (.iload_n 3, 1) := by decide +kernel
theorem dX1_solve_79 : decode cX1_solve 79 = .ok (.iaload, 1) := by decide +kernel
theorem dX1_solve_80 : decode cX1_solve 80 = .ok (.bipush (-9), 2) := by decide +kernel
theorem dX1_solve_82 : decode cX1_solve 82 = .ok (.if_icmp .ne 7, 3) := by decide +kernel
theorem dX1_solve_85 : decode cX1_solve 85 = .ok (.iconst 5, 1) := by decide +kernel
theorem dX1_solve_86 : decode cX1_solve 86 = .ok (.goto 9, 3) := by decide +kernel
theorem dX1_solve_89 : decode cX1_solve 89 = .ok (.aload_n 2, 1) := by decide +kernel
theorem dX1_solve_90 : decode cX1_solve 90 = .ok (.getfield 51, 3) := by decide +kernel
theorem dX1_solve_93 : decode cX1_solve 93 = .ok (.iload_n 3, 1) := by decide +kernel
theorem dX1_solve_94 : decode cX1_solve 94 = .ok (.iaload, 1) := by decide +kernel
theorem dX1_solve_95 : decode cX1_solve 95 = .ok (.putfield 54, 3) := by decide +kernel
theorem dX1_solve_98 : decode cX1_solve 98 = .ok (.aload_n 0, 1) := by decide +kernel
theorem dX1_solve_99 : decode cX1_solve 99 = .ok (.getfield 11, 3) := by decide +kernel
theorem dX1_solve_102 : decode cX1_solve 102 = .ok (.ldc 57, 2) := by decide +kernel
theorem dX1_solve_104 : decode cX1_solve 104 = .ok (.invokestatic 58, 3) := by decide +kernel
theorem dX1_solve_107 : decode cX1_solve 107 = .ok (.iconst 0, 1) := by decide +kernel
theorem dX1_solve_108 : decode cX1_solve 108 = .ok (.istore 4, 2) := by decide +kernel
theorem dX1_solve_110 : decode cX1_solve 110 = .ok (.iload 4, 2) := by decide +kernel
theorem dX1_solve_112 : decode cX1_solve 112 = .ok (.aload_n 0, 1) := by decide +kernel
theorem dX1_solve_113 : decode cX1_solve 113 = .ok (.getfield 49, 3) := by decide +kernel
theorem dX1_solve_116 : decode cX1_solve 116 = .ok (.if_icmp .gt 21, 3) := by decide +kernel
theorem dX1_solve_119 : decode cX1_solve 119 = .ok (.aload_n 0, 1) := by decide +kernel
theorem dX1_solve_120 : decode cX1_solve 120 = .ok (.iload 4, 2) := by decide +kernel
theorem dX1_solve_122 : decode cX1_solve 122 = .ok (.invokevirtual 64, 3) := by decide +kernel
theorem dX1_solve_125 : decode cX1_solve 125 = .ok (.aload_n 0, 1) := by decide +kernel
theorem dX1_solve_126 : decode cX1_solve 126 = .ok (.iload 4, 2) := by decide +kernel
theorem dX1_solve_128 : decode cX1_solve 128 = .ok (.invokevirtual 64, 3) := by decide +kernel
theorem dX1_solve_131 : decode cX1_solve 131 = .ok (.iinc 4 1, 3) := by decide +kernel
theorem dX1_solve_134 : decode cX1_solve 134 = .ok (.goto (-24), 3) := by decide +kernel
theorem dX1_solve_137 : decode cX1_solve 137 = .ok (.return_, 1) := by decide +kernel
theorem dX1_solveLevel_0 : decode cX1_solveLevel 0 = .ok (.iconst 0, 1) := by decide +kernel
theorem dX1_solveLevel_1 : decode cX1_solveLevel 1 = .ok (.istore_n 2, 1) := by decide +kernel
theorem dX1_solveLevel_2 : decode cX1_solveLevel 2 = .ok (.iload_n 2, 1) := by decide +kernel
theorem dX1_solveLevel_3 : decode cX1_solveLevel 3 = .ok (.bipush 6, 2) := by decide +kernel
theorem dX1_solveLevel_5 : decode cX1_solveLevel 5 = .ok (.if_icmp .ge 56, 3) := by decide +kernel
theorem dX1_solveLevel_8 : decode cX1_solveLevel 8 = .ok (.iconst 0, 1) := by decide +kernel
theorem dX1_solveLevel_9 : decode cX1_solveLevel 9 = .ok (.istore_n 3, 1) := by decide +kernel
theorem dX1_solveLevel_10 : decode cX1_solveLevel 10 = .ok (.iload_n 3, 1) := by decide +kernel
theorem dX1_solveLevel_11 : decode cX1_solveLevel 11 = .ok (.aload_n 0, 1) := by decide +kernel
theorem dX1_solveLevel_12 : decode cX1_solveLevel 12 = .ok (.getfield 30, 3) := by decide +kernel
theorem dX1_solveLevel_15 : decode cX1_solveLevel 15 = .ok (.if_icmp .ge 40, 3) := by decide +kernel
theorem dX1_solveLevel_18 : decode cX1_solveLevel 18 = .ok (.iload_n 1, 1) := by decide +kernel
theorem dX1_solveLevel_19 : decode cX1_solveLevel 19 = .ok (.iload_n 2, 1) := by decide +kernel
theorem dX1_solveLevel_20 : decode cX1_solveLevel 20 = .ok (.invokestatic 68, 3) := by decide +kernel
theorem dX1_solveLevel_23 : decode cX1_solveLevel 23 = .ok (.istore 4, 2) := by decide +kernel
theorem dX1_solveLevel_25 : decode cX1_solveLevel 25 = .ok (.aload_n 0, 1) := by decide +kernel
theorem dX1_solveLevel_26 : decode cX1_solveLevel 26 = .ok (.getfield 11, 3) := by decide +kernel
theorem dX1_solveLevel_29 : decode cX1_solveLevel 29 = .ok (.iload 4, 2) := by decide +kernel
theorem dX1_solveLevel_31 : decode cX1_solveLevel 31 = .ok (.aload_n 0, 1) := by decide +kernel
theorem dX1_solveLevel_32 : decode cX1_solveLevel 32 = .ok (.getfield 11, 3) := by decide +kernel
theorem dX1_solveLevel_35 : decode cX1_solveLevel 35 = .ok (.iload 4, 2) := by decide +kernel
theorem dX1_solveLevel_37 : decode cX1_solveLevel 37 = .ok (.iaload, 1) := by decide +kernel
theorem dX1_solveLevel_38 : decode cX1_solveLevel 38 = .ok (.aload_n 0, 1) := by decide +kernel
theorem dX1_solveLevel_39 : decode cX1_solveLevel 39 = .ok (.iload_n 1, 1) := by decide +kernel
theorem dX1_solveLevel_40 : decode cX1_solveLevel 40 = .ok (.iload_n 2, 1) := by decide +kernel
theorem dX1_solveLevel_41 : decode cX1_solveLevel 41 = .ok (.iload_n 3, 1) := by decide +kernel
theorem dX1_solveLevel_42 : decode cX1_solveLevel 42 = .ok (.invokevirtual 71, 3) := by decide +kernel
theorem dX1_solveLevel_45 : decode cX1_solveLevel 45 = .ok (.invokestatic 41, 3) := by decide +kernel
theorem dX1_solveLevel_48 : decode cX1_solveLevel 48 = .ok (.iastore, 1) := by decide +kernel
theorem dX1_solveLevel_49 : decode cX1_solveLevel 49 = .ok (.iinc 3 1, 3) := by decide +kernel
theorem dX1_solveLevel_52 : decode cX1_solveLevel 52 = .ok (.goto (-42), 3) := by decide +kernel
theorem dX1_solveLevel_55 : decode cX1_solveLevel 55 = .ok (.iinc 2 1, 3) := by decide +kernel
theorem dX1_solveLevel_58 : decode cX1_solveLevel 58 = .ok (.goto (-56), 3) := by decide +kernel
theorem dX1_solveLevel_61 : decode cX1_solveLevel 61 = .ok (.return_, 1) := by decide +kernel
theorem dX1_indexOf_0 : decode cX1_indexOf 0 = .ok (.iload_n 0, 1) := by decide +kernel
theorem dX1_indexOf_1 : decode cX1_indexOf 1 = .ok (.bipush 6, 2) := by decide +kernel
theorem dX1_indexOf_3 : decode cX1_indexOf 3 = .ok (.imul, 1) := by decide +kernel
theorem dX1_indexOf_4 : decode cX1_indexOf 4 = .ok (.iload_n 1, 1) := by decide +kernel
theorem dX1_indexOf_5 : decode cX1_indexOf 5 = .ok (.iadd, 1) := by decide +kernel
theorem dX1_indexOf_6 : decode cX1_indexOf 6 = .ok (.ireturn, 1) := by decide +kernel
theorem dX1_costThrough_0 : decode cX1_costThrough 0 = .ok (.iload_n 1, 1) := by decide +kernel
theorem dX1_costThrough_1 : decode cX1_costThrough 1 = .ok (.aload_n 0, 1) := by decide +kernel
theorem dX1_costThrough_2 : decode cX1_costThrough 2 = .ok (.getfield 18, 3) := by decide +kernel
theorem dX1_costThrough_5 : decode cX1_costThrough 5 = .ok (.iload_n 3, 1) := by decide +kernel
theorem dX1_costThrough_6 : decode cX1_costThrough 6 = .ok (.iaload, 1) := by decide +kernel
theorem dX1_costThrough_7 : decode cX1_costThrough 7 = .ok (.iload_n 2, 1) := by decide +kernel
theorem dX1_costThrough_8 : decode cX1_costThrough 8 = .ok (.iload_n 3, 1) := by decide +kernel
theorem dX1_costThrough_9 : decode cX1_costThrough 9 = .ok (.if_icmp .ne 7, 3) := by decide +kernel
theorem dX1_costThrough_12 : decode cX1_costThrough 12 = .ok (.iconst 1, 1) := by decide +kernel
theorem dX1_costThrough_13 : decode cX1_costThrough 13 = .ok (.goto 4, 3) := by decide +kernel
theorem dX1_costThrough_16 : decode cX1_costThrough 16 = .ok (.iconst 0, 1) := by decide +kernel
theorem dX1_costThrough_17 : decode cX1_costThrough 17 = .ok (.invokestatic 75, 3) := by decide +kernel
theorem dX1_costThrough_20 : decode cX1_costThrough 20 = .ok (.isub, 1) := by decide +kernel
theorem dX1_costThrough_21 : decode cX1_costThrough 21 = .ok (.istore 4, 2) := by decide +kernel
theorem dX1_costThrough_23 : decode cX1_costThrough 23 = .ok (.iload 4, 2) := by decide +kernel
theorem dX1_costThrough_25 : decode cX1_costThrough 25 = .ok (.ifCond .ge 7, 3) := by decide +kernel
theorem dX1_costThrough_28 : decode cX1_costThrough 28 = .ok (.iconst 0, 1) := by decide +kernel
theorem dX1_costThrough_29 : decode cX1_costThrough 29 = .ok (.goto 14, 3) := by decide +kernel
theorem dX1_costThrough_32 : decode cX1_costThrough 32 = .ok (.aload_n 0, 1) := by decide +kernel
theorem dX1_costThrough_33 : decode cX1_costThrough 33 = .ok (.getfield 11, 3) := by decide +kernel
theorem dX1_costThrough_36 : decode cX1_costThrough 36 = .ok (.iload 4, 2) := by decide +kernel
theorem dX1_costThrough_38 : decode cX1_costThrough 38 = .ok (.iload_n 3, 1) := by decide +kernel
theorem dX1_costThrough_39 : decode cX1_costThrough 39 = .ok (.invokestatic 68, 3) := by decide +kernel
theorem dX1_costThrough_42 : decode cX1_costThrough 42 = .ok (.iaload, 1) := by decide +kernel
theorem dX1_costThrough_43 : decode cX1_costThrough 43 = .ok (.istore 5, 2) := by decide +kernel
theorem dX1_costThrough_45 : decode cX1_costThrough 45 = .ok (.iload 5, 2) := by decide +kernel
theorem dX1_costThrough_47 : decode cX1_costThrough 47 = .ok (.ldc 57, 2) := by decide +kernel
theorem dX1_costThrough_49 : decode cX1_costThrough 49 = .ok (.if_icmp .lt 8, 3) := by decide +kernel
theorem dX1_costThrough_52 : decode cX1_costThrough 52 = .ok (.ldc 57, 2) := by decide +kernel
theorem dX1_costThrough_54 : decode cX1_costThrough 54 = .ok (.goto 18, 3) := by decide +kernel
theorem dX1_costThrough_57 : decode cX1_costThrough 57 = .ok (.aload_n 0, 1) := by decide +kernel
theorem dX1_costThrough_58 : decode cX1_costThrough 58 = .ok (.getfield 21, 3) := by decide +kernel
theorem dX1_costThrough_61 : decode cX1_costThrough 61 = .ok (.iload_n 3, 1) := by decide +kernel
theorem dX1_costThrough_62 : decode cX1_costThrough 62 = .ok (.iaload, 1) := by decide +kernel
theorem dX1_costThrough_63 : decode cX1_costThrough 63 = .ok (.sipush 1000, 3) := by decide +kernel
theorem dX1_costThrough_66 : decode cX1_costThrough 66 = .ok (.imul, 1) := by decide +kernel
theorem dX1_costThrough_67 : decode cX1_costThrough 67 = .ok (.iconst 1, 1) := by decide +kernel
theorem dX1_costThrough_68 : decode cX1_costThrough 68 = .ok (.iadd, 1) := by decide +kernel
theorem dX1_costThrough_69 : decode cX1_costThrough 69 = .ok (.iload 5, 2) := by decide +kernel
theorem dX1_costThrough_71 : decode cX1_costThrough 71 = .ok (.iadd, 1) := by decide +kernel
theorem dX1_costThrough_72 : decode cX1_costThrough 72 = .ok (.ireturn, 1) := by decide +kernel
theorem dX1_costNow_0 : decode cX1_costNow 0 = .ok (.aload_n 0, 1) := by decide +kernel
theorem dX1_costNow_1 : decode cX1_costNow 1 = .ok (.getfield 11, 3) := by decide +kernel
theorem dX1_costNow_4 : decode cX1_costNow 4 = .ok (.aload_n 0, 1) := by decide +kernel
theorem dX1_costNow_5 : decode cX1_costNow 5 = .ok (.getfield 49, 3) := by decide +kernel
theorem dX1_costNow_8 : decode cX1_costNow 8 = .ok (.aload_n 0, 1) := by decide +kernel
theorem dX1_costNow_9 : decode cX1_costNow 9 = .ok (.getfield 54, 3) := by decide +kernel
theorem dX1_costNow_12 : decode cX1_costNow 12 = .ok (.invokestatic 68, 3) := by decide +kernel
theorem dX1_costNow_15 : decode cX1_costNow 15 = .ok (.iaload, 1) := by decide +kernel
theorem dX1_costNow_16 : decode cX1_costNow 16 = .ok (.ireturn, 1) := by decide +kernel
theorem dX1_isNever_0 : decode cX1_isNever 0 = .ok (.aload_n 0, 1) := by decide +kernel
theorem dX1_isNever_1 : decode cX1_isNever 1 = .ok (.invokevirtual 79, 3) := by decide +kernel
theorem dX1_isNever_4 : decode cX1_isNever 4 = .ok (.ldc 57, 2) := by decide +kernel
theorem dX1_isNever_6 : decode cX1_isNever 6 = .ok (.if_icmp .lt 7, 3) := by decide +kernel
theorem dX1_isNever_9 : decode cX1_isNever 9 = .ok (.iconst 1, 1) := by decide +kernel
theorem dX1_isNever_10 : decode cX1_isNever 10 = .ok (.goto 4, 3) := by decide +kernel
theorem dX1_isNever_13 : decode cX1_isNever 13 = .ok (.iconst 0, 1) := by decide +kernel
theorem dX1_isNever_14 : decode cX1_isNever 14 = .ok (.ireturn, 1) := by decide +kernel
theorem dX1_minutesNeeded_0 : decode cX1_minutesNeeded 0 = .ok (.aload_n 0, 1) := by decide +kernel
theorem dX1_minutesNeeded_1 : decode cX1_minutesNeeded 1 = .ok (.invokevirtual 79, 3) := by decide +kernel
theorem dX1_minutesNeeded_4 : decode cX1_minutesNeeded 4 = .ok (.sipush 1000, 3) := by decide +kernel
theorem dX1_minutesNeeded_7 : decode cX1_minutesNeeded 7 = .ok (.idiv, 1) := by decide +kernel
theorem dX1_minutesNeeded_8 : decode cX1_minutesNeeded 8 = .ok (.ireturn, 1) := by decide +kernel
theorem dX1_doingsNeeded_0 : decode cX1_doingsNeeded 0 = .ok (.aload_n 0, 1) := by decide +kernel
theorem dX1_doingsNeeded_1 : decode cX1_doingsNeeded 1 = .ok (.invokevirtual 79, 3) := by decide +kernel
theorem dX1_doingsNeeded_4 : decode cX1_doingsNeeded 4 = .ok (.sipush 1000, 3) := by decide +kernel
theorem dX1_doingsNeeded_7 : decode cX1_doingsNeeded 7 = .ok (.irem, 1) := by decide +kernel
theorem dX1_doingsNeeded_8 : decode cX1_doingsNeeded 8 = .ok (.ireturn, 1) := by decide +kernel
theorem dX1_doingAt_0 : decode cX1_doingAt 0 = .ok (.iload_n 1, 1) := by decide +kernel
theorem dX1_doingAt_1 : decode cX1_doingAt 1 = .ok (.ifCond .lt 11, 3) := by decide +kernel
theorem dX1_doingAt_4 : decode cX1_doingAt 4 = .ok (.iload_n 1, 1) := by decide +kernel
theorem dX1_doingAt_5 : decode cX1_doingAt 5 = .ok (.aload_n 0, 1) := by decide +kernel
theorem dX1_doingAt_6 : decode cX1_doingAt 6 = .ok (.invokevirtual 83, 3) := by decide +kernel
theorem dX1_doingAt_9 : decode cX1_doingAt 9 = .ok (.if_icmp .lt 6, 3) := by decide +kernel
theorem dX1_doingAt_12 : decode cX1_doingAt 12 = .ok (.bipush (-5), 2) := by decide +kernel
theorem dX1_doingAt_14 : decode cX1_doingAt 14 = .ok (.ireturn, 1) := by decide +kernel
theorem dX1_doingAt_15 : decode cX1_doingAt 15 = .ok (.aload_n 0, 1) := by decide +kernel
theorem dX1_doingAt_16 : decode cX1_doingAt 16 = .ok (.getfield 49, 3) := by decide +kernel
theorem dX1_doingAt_19 : decode cX1_doingAt 19 = .ok (.istore_n 2, 1) := by decide +kernel
theorem dX1_doingAt_20 : decode cX1_doingAt 20 = .ok (.aload_n 0, 1) := by decide +kernel
theorem dX1_doingAt_21 : decode cX1_doingAt 21 = .ok (.getfield 54, 3) := by decide +kernel
theorem dX1_doingAt_24 : decode cX1_doingAt 24 = .ok (.istore_n 3, 1) := by decide +kernel
theorem dX1_doingAt_25 : decode cX1_doingAt 25 = .ok (.iconst 0, 1) := by decide +kernel
theorem dX1_doingAt_26 : decode cX1_doingAt 26 = .ok (.istore 4, 2) := by decide +kernel
theorem dX1_doingAt_28 : decode cX1_doingAt 28 = .ok (.iload 4, 2) := by decide +kernel
theorem dX1_doingAt_30 : decode cX1_doingAt 30 = .ok (.iload_n 1, 1) := by decide +kernel
theorem dX1_doingAt_31 : decode cX1_doingAt 31 = .ok (.if_icmp .ge 48, 3) := by decide +kernel
theorem dX1_doingAt_34 : decode cX1_doingAt 34 = .ok (.iload_n 2, 1) := by decide +kernel
theorem dX1_doingAt_35 : decode cX1_doingAt 35 = .ok (.ifCond .lt 44, 3) := by decide +kernel
theorem dX1_doingAt_38 : decode cX1_doingAt 38 = .ok (.aload_n 0, 1) := by decide +kernel
theorem dX1_doingAt_39 : decode cX1_doingAt 39 = .ok (.iload_n 2, 1) := by decide +kernel
theorem dX1_doingAt_40 : decode cX1_doingAt 40 = .ok (.iload_n 3, 1) := by decide +kernel
theorem dX1_doingAt_41 : decode cX1_doingAt 41 = .ok (.invokevirtual 86, 3) := by decide +kernel
theorem dX1_doingAt_44 : decode cX1_doingAt 44 = .ok (.istore 5, 2) := by decide +kernel
theorem dX1_doingAt_46 : decode cX1_doingAt 46 = .ok (.iload_n 2, 1) := by decide +kernel
theorem dX1_doingAt_47 : decode cX1_doingAt 47 = .ok (.aload_n 0, 1) := by decide +kernel
theorem dX1_doingAt_48 : decode cX1_doingAt 48 = .ok (.getfield 18, 3) := by decide +kernel
theorem dX1_doingAt_51 : decode cX1_doingAt 51 = .ok (.iload 5, 2) := by decide +kernel
theorem dX1_doingAt_53 : decode cX1_doingAt 53 = .ok (.iaload, 1) := by decide +kernel
theorem dX1_doingAt_54 : decode cX1_doingAt 54 = .ok (.iload_n 3, 1) := by decide +kernel
theorem dX1_doingAt_55 : decode cX1_doingAt 55 = .ok (.iload 5, 2) := by decide +kernel
theorem dX1_doingAt_57 : decode cX1_doingAt 57 = .ok (.if_icmp .ne 7, 3) := by decide +kernel
theorem dX1_doingAt_60 : decode cX1_doingAt 60 = .ok (.iconst 1, 1) := by decide +kernel
theorem dX1_doingAt_61 : decode cX1_doingAt 61 = .ok (.goto 4, 3) := by decide +kernel
theorem dX1_doingAt_64 : decode cX1_doingAt 64 = .ok (.iconst 0, 1) := by decide +kernel
theorem dX1_doingAt_65 : decode cX1_doingAt 65 = .ok (.invokestatic 75, 3) := by decide +kernel
theorem dX1_doingAt_68 : decode cX1_doingAt 68 = .ok (.isub, 1) := by decide +kernel
theorem dX1_doingAt_69 : decode cX1_doingAt 69 = .ok (.istore_n 2, 1) := by decide +kernel
theorem dX1_doingAt_70 : decode cX1_doingAt 70 = .ok (.iload 5, 2) := by decide +kernel
theorem dX1_doingAt_72 : decode cX1_doingAt 72 = .ok (.istore_n 3, 1) := by decide +kernel
theorem dX1_doingAt_73 : decode cX1_doingAt 73 = .ok (.iinc 4 1, 3) := by decide +kernel
theorem dX1_doingAt_76 : decode cX1_doingAt 76 = .ok (.goto (-48), 3) := by decide +kernel
theorem dX1_doingAt_79 : decode cX1_doingAt 79 = .ok (.iload_n 2, 1) := by decide +kernel
theorem dX1_doingAt_80 : decode cX1_doingAt 80 = .ok (.ifCond .ge 8, 3) := by decide +kernel
theorem dX1_doingAt_83 : decode cX1_doingAt 83 = .ok (.bipush (-5), 2) := by decide +kernel
theorem dX1_doingAt_85 : decode cX1_doingAt 85 = .ok (.goto 9, 3) := by decide +kernel
theorem dX1_doingAt_88 : decode cX1_doingAt 88 = .ok (.aload_n 0, 1) := by decide +kernel
theorem dX1_doingAt_89 : decode cX1_doingAt 89 = .ok (.iload_n 2, 1) := by decide +kernel
theorem dX1_doingAt_90 : decode cX1_doingAt 90 = .ok (.iload_n 3, 1) := by decide +kernel
theorem dX1_doingAt_91 : decode cX1_doingAt 91 = .ok (.invokevirtual 86, 3) := by decide +kernel
theorem dX1_doingAt_94 : decode cX1_doingAt 94 = .ok (.ireturn, 1) := by decide +kernel
theorem dX1_firstOfBest_0 : decode cX1_firstOfBest 0 = .ok (.iconst 0, 1) := by decide +kernel
theorem dX1_firstOfBest_1 : decode cX1_firstOfBest 1 = .ok (.istore_n 3, 1) := by decide +kernel
theorem dX1_firstOfBest_2 : decode cX1_firstOfBest 2 = .ok (.iload_n 3, 1) := by decide +kernel
theorem dX1_firstOfBest_3 : decode cX1_firstOfBest 3 = .ok (.aload_n 0, 1) := by decide +kernel
theorem dX1_firstOfBest_4 : decode cX1_firstOfBest 4 = .ok (.getfield 30, 3) := by decide +kernel
theorem dX1_firstOfBest_7 : decode cX1_firstOfBest 7 = .ok (.if_icmp .ge 31, 3) := by decide +kernel
theorem dX1_firstOfBest_10 : decode cX1_firstOfBest 10 = .ok (.aload_n 0, 1) := by decide +kernel
theorem dX1_firstOfBest_11 : decode cX1_firstOfBest 11 = .ok (.iload_n 1, 1) := by decide +kernel
theorem dX1_firstOfBest_12 : decode cX1_firstOfBest 12 = .ok (.iload_n 2, 1) := by decide +kernel
theorem dX1_firstOfBest_13 : decode cX1_firstOfBest 13 = .ok (.iload_n 3, 1) := by decide +kernel
theorem dX1_firstOfBest_14 : decode cX1_firstOfBest 14 = .ok (.invokevirtual 71, 3) := by decide +kernel
theorem dX1_firstOfBest_17 : decode cX1_firstOfBest 17 = .ok (.aload_n 0, 1) := by decide +kernel
theorem dX1_firstOfBest_18 : decode cX1_firstOfBest 18 = .ok (.getfield 11, 3) := by decide +kernel
theorem dX1_firstOfBest_21 : decode cX1_firstOfBest 21 = .ok (.iload_n 1, 1) := by decide +kernel
theorem dX1_firstOfBest_22 : decode cX1_firstOfBest 22 = .ok (.iload_n 2, 1) := by decide +kernel
theorem dX1_firstOfBest_23 : decode cX1_firstOfBest 23 = .ok (.invokestatic 68, 3) := by decide +kernel
theorem dX1_firstOfBest_26 : decode cX1_firstOfBest 26 = .ok (.iaload, 1) := by decide +kernel
theorem dX1_firstOfBest_27 : decode cX1_firstOfBest 27 = .ok (.if_icmp .ne 5, 3) := by decide +kernel
theorem dX1_firstOfBest_30 : decode cX1_firstOfBest 30 = .ok (.iload_n 3, 1) := by decide +kernel
theorem dX1_firstOfBest_31 : decode cX1_firstOfBest 31 = .ok (.ireturn, 1) := by decide +kernel
theorem dX1_firstOfBest_32 : decode cX1_firstOfBest 32 = .ok (.iinc 3 1, 3) := by decide +kernel
theorem dX1_firstOfBest_35 : decode cX1_firstOfBest 35 = .ok (.goto (-33), 3) := by decide +kernel
theorem dX1_firstOfBest_38 : decode cX1_firstOfBest 38 = .ok (.iconst 0, 1) := by decide +kernel
theorem dX1_firstOfBest_39 : decode cX1_firstOfBest 39 = .ok (.ireturn, 1) := by decide +kernel
theorem dX1_solveAll_0 : decode cX1_solveAll 0 = .ok (.aload_n 0, 1) := by decide +kernel
theorem dX1_solveAll_1 : decode cX1_solveAll 1 = .ok (.getfield 15, 3) := by decide +kernel
theorem dX1_solveAll_4 : decode cX1_solveAll 4 = .ok (.bipush (-9), 2) := by decide +kernel
theorem dX1_solveAll_6 : decode cX1_solveAll 6 = .ok (.invokestatic 58, 3) := by decide +kernel
theorem dX1_solveAll_9 : decode cX1_solveAll 9 = .ok (.iconst 0, 1) := by decide +kernel
theorem dX1_solveAll_10 : decode cX1_solveAll 10 = .ok (.istore_n 3, 1) := by decide +kernel
theorem dX1_solveAll_11 : decode cX1_solveAll 11 = .ok (.iload_n 3, 1) := by decide +kernel
theorem dX1_solveAll_12 : decode cX1_solveAll 12 = .ok (.aload_n 1, 1) := by decide +kernel
theorem dX1_solveAll_13 : decode cX1_solveAll 13 = .ok (.getfield 89, 3) := by decide +kernel
theorem dX1_solveAll_16 : decode cX1_solveAll 16 = .ok (.if_icmp .ge 46, 3) := by decide +kernel
theorem dX1_solveAll_19 : decode cX1_solveAll 19 = .ok (.aload_n 2, 1) := by decide +kernel
theorem dX1_solveAll_20 : decode cX1_solveAll 20 = .ok (.iload_n 3, 1) := by decide +kernel
theorem dX1_solveAll_21 : decode cX1_solveAll 21 = .ok (.invokevirtual 92, 3) := by decide +kernel
theorem dX1_solveAll_24 : decode cX1_solveAll 24 = .ok (.ifCond .ne 32, 3) := by decide +kernel
theorem dX1_solveAll_27 : decode cX1_solveAll 27 = .ok (.aload_n 0, 1) := by decide +kernel
theorem dX1_solveAll_28 : decode cX1_solveAll 28 = .ok (.aload_n 1, 1) := by decide +kernel
theorem dX1_solveAll_29 : decode cX1_solveAll 29 = .ok (.aload_n 2, 1) := by decide +kernel
theorem dX1_solveAll_30 : decode cX1_solveAll 30 = .ok (.iload_n 3, 1) := by decide +kernel
theorem dX1_solveAll_31 : decode cX1_solveAll 31 = .ok (.invokevirtual 96, 3) := by decide +kernel
theorem dX1_solveAll_34 : decode cX1_solveAll 34 = .ok (.aload_n 0, 1) := by decide +kernel
theorem dX1_solveAll_35 : decode cX1_solveAll 35 = .ok (.getfield 15, 3) := by decide +kernel
theorem dX1_solveAll_38 : decode cX1_solveAll 38 = .ok (.iload_n 3, 1) := by decide +kernel
theorem dX1_solveAll_39 : decode cX1_solveAll 39 = .ok (.aload_n 0, 1) := by decide +kernel
theorem dX1_solveAll_40 : decode cX1_solveAll 40 = .ok (.invokevirtual 100, 3) := by decide +kernel
theorem dX1_solveAll_43 : decode cX1_solveAll 43 = .ok (.ifCond .eq 8, 3) := by decide +kernel
theorem dX1_solveAll_46 : decode cX1_solveAll 46 = .ok (.bipush (-9), 2) := by decide +kernel
theorem dX1_solveAll_48 : decode cX1_solveAll 48 = .ok (.goto 7, 3) := by decide +kernel
theorem dX1_solveAll_51 : decode cX1_solveAll 51 = .ok (.aload_n 0, 1) := by decide +kernel
theorem dX1_solveAll_52 : decode cX1_solveAll 52 = .ok (.invokevirtual 104, 3) := by decide +kernel
theorem dX1_solveAll_55 : decode cX1_solveAll 55 = .ok (.iastore, 1) := by decide +kernel
theorem dX1_solveAll_56 : decode cX1_solveAll 56 = .ok (.iinc 3 1, 3) := by decide +kernel
theorem dX1_solveAll_59 : decode cX1_solveAll 59 = .ok (.goto (-48), 3) := by decide +kernel
theorem dX1_solveAll_62 : decode cX1_solveAll 62 = .ok (.return_, 1) := by decide +kernel
theorem dX1_cheapestBut_0 : decode cX1_cheapestBut 0 = .ok (.bipush (-9), 2) := by decide +kernel
theorem dX1_cheapestBut_2 : decode cX1_cheapestBut 2 = .ok (.istore_n 2, 1) := by decide +kernel
theorem dX1_cheapestBut_3 : decode cX1_cheapestBut 3 = .ok (.ldc 57, 2) := by decide +kernel
theorem dX1_cheapestBut_5 : decode cX1_cheapestBut 5 = .ok (.istore_n 3, 1) := by decide +kernel
theorem dX1_cheapestBut_6 : decode cX1_cheapestBut 6 = .ok (.iconst 0, 1) := by decide +kernel
theorem dX1_cheapestBut_7 : decode cX1_cheapestBut 7 = .ok (.istore 4, 2) := by decide +kernel
theorem dX1_cheapestBut_9 : decode cX1_cheapestBut 9 = .ok (.iload 4, 2) := by decide +kernel
theorem dX1_cheapestBut_11 : decode cX1_cheapestBut 11 = .ok (.iconst 5, 1) := by decide +kernel
theorem dX1_cheapestBut_12 : decode cX1_cheapestBut 12 = .ok (.if_icmp .ge 64, 3) := by decide +kernel
theorem dX1_cheapestBut_15 : decode cX1_cheapestBut 15 = .ok (.aload_n 0, 1) := by decide +kernel
theorem dX1_cheapestBut_16 : decode cX1_cheapestBut 16 = .ok (.getfield 15, 3) := by decide +kernel
theorem dX1_cheapestBut_19 : decode cX1_cheapestBut 19 = .ok (.iload 4, 2) := by decide +kernel
theorem dX1_cheapestBut_21 : decode cX1_cheapestBut 21 = .ok (.iaload, 1) := by decide +kernel
theorem dX1_cheapestBut_22 : decode cX1_cheapestBut 22 = .ok (.bipush (-9), 2) := by decide +kernel
theorem dX1_cheapestBut_24 : decode cX1_cheapestBut 24 = .ok (.if_icmp .eq 16, 3) := by decide +kernel
theorem dX1_cheapestBut_27 : decode cX1_cheapestBut 27 = .ok (.iload_n 1, 1) := by decide +kernel
theorem dX1_cheapestBut_28 : decode cX1_cheapestBut 28 = .ok (.iload 4, 2) := by decide +kernel
theorem dX1_cheapestBut_30 : decode cX1_cheapestBut 30 = .ok (.ishr, 1) := by decide +kernel
theorem dX1_cheapestBut_31 : decode cX1_cheapestBut 31 = .ok (.iconst 1, 1) := by decide +kernel
theorem dX1_cheapestBut_32 : decode cX1_cheapestBut 32 = .ok (.iand, 1) := by decide +kernel
theorem dX1_cheapestBut_33 : decode cX1_cheapestBut 33 = .ok (.ifCond .ne 7, 3) := by decide +kernel
theorem dX1_cheapestBut_36 : decode cX1_cheapestBut 36 = .ok (.iconst 1, 1) := by decide +kernel
theorem dX1_cheapestBut_37 : decode cX1_cheapestBut 37 = .ok (.goto 4, 3) := by decide +kernel
theorem dX1_cheapestBut_40 : decode cX1_cheapestBut 40 = .ok (.iconst 0, 1) := by decide +kernel
theorem dX1_cheapestBut_41 : decode cX1_cheapestBut 41 = .ok (.istore 5, 2) := by decide +kernel
theorem dX1_cheapestBut_43 : decode cX1_cheapestBut 43 = .ok (.iload 5, 2) := by decide +kernel
theorem dX1_cheapestBut_45 : decode cX1_cheapestBut 45 = .ok (.ifCond .eq 25, 3) := by decide +kernel
theorem dX1_cheapestBut_48 : decode cX1_cheapestBut 48 = .ok (.aload_n 0, 1) := by decide +kernel
theorem dX1_cheapestBut_49 : decode cX1_cheapestBut 49 = .ok (.getfield 15, 3) := by decide +kernel
theorem dX1_cheapestBut_52 : decode cX1_cheapestBut 52 = .ok (.iload 4, 2) := by decide +kernel
theorem dX1_cheapestBut_54 : decode cX1_cheapestBut 54 = .ok (.iaload, 1) := by decide +kernel
theorem dX1_cheapestBut_55 : decode cX1_cheapestBut 55 = .ok (.iload_n 3, 1) := by decide +kernel
theorem dX1_cheapestBut_56 : decode cX1_cheapestBut 56 = .ok (.if_icmp .ge 14, 3) := by decide +kernel
theorem dX1_cheapestBut_59 : decode cX1_cheapestBut 59 = .ok (.aload_n 0, 1) := by decide +kernel
theorem dX1_cheapestBut_60 : decode cX1_cheapestBut 60 = .ok (.getfield 15, 3) := by decide +kernel
theorem dX1_cheapestBut_63 : decode cX1_cheapestBut 63 = .ok (.iload 4, 2) := by decide +kernel
theorem dX1_cheapestBut_65 : decode cX1_cheapestBut 65 = .ok (.iaload, 1) := by decide +kernel
theorem dX1_cheapestBut_66 : decode cX1_cheapestBut 66 = .ok (.istore_n 3, 1) := by decide +kernel
theorem dX1_cheapestBut_67 : decode cX1_cheapestBut 67 = .ok (.iload 4, 2) := by decide +kernel
theorem dX1_cheapestBut_69 : decode cX1_cheapestBut 69 = .ok (.istore_n 2, 1) := by decide +kernel
theorem dX1_cheapestBut_70 : decode cX1_cheapestBut 70 = .ok (.iinc 4 1, 3) := by decide +kernel
theorem dX1_cheapestBut_73 : decode cX1_cheapestBut 73 = .ok (.goto (-64), 3) := by decide +kernel
theorem dX1_cheapestBut_76 : decode cX1_cheapestBut 76 = .ok (.iload_n 2, 1) := by decide +kernel
theorem dX1_cheapestBut_77 : decode cX1_cheapestBut 77 = .ok (.ireturn, 1) := by decide +kernel
theorem dX2_init_0 : decode cX2_init 0 = .ok (.aload_n 0, 1) := by decide +kernel
theorem dX2_init_1 : decode cX2_init 1 = .ok (.invokespecial 3, 3) := by decide +kernel
theorem dX2_init_4 : decode cX2_init 4 = .ok (.aload_n 0, 1) := by decide +kernel
theorem dX2_init_5 : decode cX2_init 5 = .ok (.iconst 5, 1) := by decide +kernel
theorem dX2_init_6 : decode cX2_init 6 = .ok (.newarray .int, 2) := by decide +kernel
theorem dX2_init_8 : decode cX2_init 8 = .ok (.putfield 9, 3) := by decide +kernel
theorem dX2_init_11 : decode cX2_init 11 = .ok (.aload_n 0, 1) := by decide +kernel
theorem dX2_init_12 : decode cX2_init 12 = .ok (.iconst 5, 1) := by decide +kernel
theorem dX2_init_13 : decode cX2_init 13 = .ok (.newarray .int, 2) := by decide +kernel
theorem dX2_init_15 : decode cX2_init 15 = .ok (.putfield 15, 3) := by decide +kernel
theorem dX2_init_18 : decode cX2_init 18 = .ok (.aload_n 0, 1) := by decide +kernel
theorem dX2_init_19 : decode cX2_init 19 = .ok (.iconst 5, 1) := by decide +kernel
theorem dX2_init_20 : decode cX2_init 20 = .ok (.newarray .int, 2) := by decide +kernel
theorem dX2_init_22 : decode cX2_init 22 = .ok (.putfield 18, 3) := by decide +kernel
theorem dX2_init_25 : decode cX2_init 25 = .ok (.aload_n 0, 1) := by decide +kernel
theorem dX2_init_26 : decode cX2_init 26 = .ok (.iconst 5, 1) := by decide +kernel
theorem dX2_init_27 : decode cX2_init 27 = .ok (.newarray .int, 2) := by decide +kernel
theorem dX2_init_29 : decode cX2_init 29 = .ok (.putfield 21, 3) := by decide +kernel
theorem dX2_init_32 : decode cX2_init 32 = .ok (.aload_n 0, 1) := by decide +kernel
theorem dX2_init_33 : decode cX2_init 33 = .ok (.iconst 5, 1) := by decide +kernel
theorem dX2_init_34 : decode cX2_init 34 = .ok (.newarray .int, 2) := by decide +kernel
theorem dX2_init_36 : decode cX2_init 36 = .ok (.putfield 24, 3) := by decide +kernel
theorem dX2_init_39 : decode cX2_init 39 = .ok (.aload_n 0, 1) := by decide +kernel
theorem dX2_init_40 : decode cX2_init 40 = .ok (.bipush 6, 2) := by decide +kernel
theorem dX2_init_42 : decode cX2_init 42 = .ok (.newarray .int, 2) := by decide +kernel
theorem dX2_init_44 : decode cX2_init 44 = .ok (.putfield 27, 3) := by decide +kernel
theorem dX2_init_47 : decode cX2_init 47 = .ok (.aload_n 0, 1) := by decide +kernel
theorem dX2_init_48 : decode cX2_init 48 = .ok (.invokevirtual 30, 3) := by decide +kernel
theorem dX2_init_51 : decode cX2_init 51 = .ok (.return_, 1) := by decide +kernel
theorem dX2_tellNothing_0 : decode cX2_tellNothing 0 = .ok (.aload_n 0, 1) := by decide +kernel
theorem dX2_tellNothing_1 : decode cX2_tellNothing 1 = .ok (.iconst 0, 1) := by decide +kernel
theorem dX2_tellNothing_2 : decode cX2_tellNothing 2 = .ok (.putfield 33, 3) := by decide +kernel
theorem dX2_tellNothing_5 : decode cX2_tellNothing 5 = .ok (.aload_n 0, 1) := by decide +kernel
theorem dX2_tellNothing_6 : decode cX2_tellNothing 6 = .ok (.iconst 0, 1) := by decide +kernel
theorem dX2_tellNothing_7 : decode cX2_tellNothing 7 = .ok (.putfield 37, 3) := by decide +kernel
theorem dX2_tellNothing_10 : decode cX2_tellNothing 10 = .ok (.aload_n 0, 1) := by decide +kernel
theorem dX2_tellNothing_11 : decode cX2_tellNothing 11 = .ok (.iconst 0, 1) := by decide +kernel
theorem dX2_tellNothing_12 : decode cX2_tellNothing 12 = .ok (.putfield 40, 3) := by decide +kernel
theorem dX2_tellNothing_15 : decode cX2_tellNothing 15 = .ok (.aload_n 0, 1) := by decide +kernel
theorem dX2_tellNothing_16 : decode cX2_tellNothing 16 = .ok (.iconst 0, 1) := by decide +kernel
theorem dX2_tellNothing_17 : decode cX2_tellNothing 17 = .ok (.putfield 43, 3) := by decide +kernel
theorem dX2_tellNothing_20 : decode cX2_tellNothing 20 = .ok (.aload_n 0, 1) := by decide +kernel
theorem dX2_tellNothing_21 : decode cX2_tellNothing 21 = .ok (.iconst 1, 1) := by decide +kernel
theorem dX2_tellNothing_22 : decode cX2_tellNothing 22 = .ok (.putfield 46, 3) := by decide +kernel
theorem dX2_tellNothing_25 : decode cX2_tellNothing 25 = .ok (.aload_n 0, 1) := by decide +kernel
theorem dX2_tellNothing_26 : decode cX2_tellNothing 26 = .ok (.bipush 120, 2) := by decide +kernel
theorem dX2_tellNothing_28 : decode cX2_tellNothing 28 = .ok (.putfield 49, 3) := by decide +kernel
theorem dX2_tellNothing_31 : decode cX2_tellNothing 31 = .ok (.return_, 1) := by decide +kernel
theorem dX2_hasRoom_0 : decode cX2_hasRoom 0 = .ok (.iload_n 1, 1) := by decide +kernel
theorem dX2_hasRoom_1 : decode cX2_hasRoom 1 = .ok (.ifCond .lt 15, 3) := by decide +kernel
theorem dX2_hasRoom_4 : decode cX2_hasRoom 4 = .ok (.iload_n 1, 1) := by decide +kernel
theorem dX2_hasRoom_5 : decode cX2_hasRoom 5 = .ok (.aload_n 0, 1) := by decide +kernel
theorem dX2_hasRoom_6 : decode cX2_hasRoom 6 = .ok (.getfield 33, 3) := by decide +kernel
theorem dX2_hasRoom_9 : decode cX2_hasRoom 9 = .ok (.if_icmp .ge 7, 3) := by decide +kernel
theorem dX2_hasRoom_12 : decode cX2_hasRoom 12 = .ok (.iconst 1, 1) := by decide +kernel
theorem dX2_hasRoom_13 : decode cX2_hasRoom 13 = .ok (.goto 4, 3) := by decide +kernel
theorem dX2_hasRoom_16 : decode cX2_hasRoom 16 = .ok (.iconst 0, 1) := by decide +kernel
theorem dX2_hasRoom_17 : decode cX2_hasRoom 17 = .ok (.ireturn, 1) := by decide +kernel
theorem dX2_hasDoing_0 : decode cX2_hasDoing 0 = .ok (.iload_n 1, 1) := by decide +kernel
theorem dX2_hasDoing_1 : decode cX2_hasDoing 1 = .ok (.ifCond .lt 15, 3) := by decide +kernel
theorem dX2_hasDoing_4 : decode cX2_hasDoing 4 = .ok (.iload_n 1, 1) := by decide +kernel
theorem dX2_hasDoing_5 : decode cX2_hasDoing 5 = .ok (.aload_n 0, 1) := by decide +kernel
theorem dX2_hasDoing_6 : decode cX2_hasDoing 6 = .ok (.getfield 37, 3) := by decide +kernel
theorem dX2_hasDoing_9 : decode cX2_hasDoing 9 = .ok (.if_icmp .ge 7, 3) := by decide +kernel
theorem dX2_hasDoing_12 : decode cX2_hasDoing 12 = .ok (.iconst 1, 1) := by decide +kernel
theorem dX2_hasDoing_13 : decode cX2_hasDoing 13 = .ok (.goto 4, 3) := by decide +kernel
theorem dX2_hasDoing_16 : decode cX2_hasDoing 16 = .ok (.iconst 0, 1) := by decide +kernel
theorem dX2_hasDoing_17 : decode cX2_hasDoing 17 = .ok (.ireturn, 1) := by decide +kernel
theorem dX2_walkBetween_0 : decode cX2_walkBetween 0 = .ok (.aload_n 0, 1) := by decide +kernel
theorem dX2_walkBetween_1 : decode cX2_walkBetween 1 = .ok (.getfield 46, 3) := by decide +kernel
theorem dX2_walkBetween_4 : decode cX2_walkBetween 4 = .ok (.iload_n 2, 1) := by decide +kernel
theorem dX2_walkBetween_5 : decode cX2_walkBetween 5 = .ok (.iload_n 1, 1) := by decide +kernel
theorem dX2_walkBetween_6 : decode cX2_walkBetween 6 = .ok (.bipush (-9), 2) := by decide +kernel
theorem dX2_walkBetween_8 : decode cX2_walkBetween 8 = .ok (.if_icmp .ne 7, 3) := by decide +kernel
theorem dX2_walkBetween_11 : decode cX2_walkBetween 11 = .ok (.iconst 0, 1) := by decide +kernel
theorem dX2_walkBetween_12 : decode cX2_walkBetween 12 = .ok (.goto 4, 3) := by decide +kernel
theorem dX2_walkBetween_15 : decode cX2_walkBetween 15 = .ok (.iload_n 1, 1) := by decide +kernel
theorem dX2_walkBetween_16 : decode cX2_walkBetween 16 = .ok (.isub, 1) := by decide +kernel
theorem dX2_walkBetween_17 : decode cX2_walkBetween 17 = .ok (.invokestatic 52, 3) := by decide +kernel
theorem dX2_walkBetween_20 : decode cX2_walkBetween 20 = .ok (.imul, 1) := by decide +kernel
theorem dX2_walkBetween_21 : decode cX2_walkBetween 21 = .ok (.ireturn, 1) := by decide +kernel
theorem dX2_fullLoss_0 : decode cX2_fullLoss 0 = .ok (.aload_n 0, 1) := by decide +kernel
theorem dX2_fullLoss_1 : decode cX2_fullLoss 1 = .ok (.getfield 21, 3) := by decide +kernel
theorem dX2_fullLoss_4 : decode cX2_fullLoss 4 = .ok (.iload_n 2, 1) := by decide +kernel
theorem dX2_fullLoss_5 : decode cX2_fullLoss 5 = .ok (.iaload, 1) := by decide +kernel
theorem dX2_fullLoss_6 : decode cX2_fullLoss 6 = .ok (.aload_n 0, 1) := by decide +kernel
theorem dX2_fullLoss_7 : decode cX2_fullLoss 7 = .ok (.getfield 15, 3) := by decide +kernel
theorem dX2_fullLoss_10 : decode cX2_fullLoss 10 = .ok (.iload_n 1, 1) := by decide +kernel
theorem dX2_fullLoss_11 : decode cX2_fullLoss 11 = .ok (.iaload, 1) := by decide +kernel
theorem dX2_fullLoss_12 : decode cX2_fullLoss 12 = .ok (.imul, 1) := by decide +kernel
theorem dX2_fullLoss_13 : decode cX2_fullLoss 13 = .ok (.ireturn, 1) := by decide +kernel
theorem dX3_init_0 : decode cX3_init 0 = .ok (.aload_n 0, 1) := by decide +kernel
theorem dX3_init_1 : decode cX3_init 1 = .ok (.invokespecial 3, 3) := by decide +kernel
theorem dX3_init_4 : decode cX3_init 4 = .ok (.aload_n 0, 1) := by decide +kernel
theorem dX3_init_5 : decode cX3_init 5 = .ok (.iconst 5, 1) := by decide +kernel
theorem dX3_init_6 : decode cX3_init 6 = .ok (.newarray .int, 2) := by decide +kernel
theorem dX3_init_8 : decode cX3_init 8 = .ok (.putfield 9, 3) := by decide +kernel
theorem dX3_init_11 : decode cX3_init 11 = .ok (.aload_n 0, 1) := by decide +kernel
theorem dX3_init_12 : decode cX3_init 12 = .ok (.bipush 64, 2) := by decide +kernel
theorem dX3_init_14 : decode cX3_init 14 = .ok (.newarray .int, 2) := by decide +kernel
theorem dX3_init_16 : decode cX3_init 16 = .ok (.putfield 15, 3) := by decide +kernel
theorem dX3_init_19 : decode cX3_init 19 = .ok (.return_, 1) := by decide +kernel
theorem dX3_leftOf_0 : decode cX3_leftOf 0 = .ok (.iconst 0, 1) := by decide +kernel
theorem dX3_leftOf_1 : decode cX3_leftOf 1 = .ok (.istore_n 2, 1) := by decide +kernel
theorem dX3_leftOf_2 : decode cX3_leftOf 2 = .ok (.iconst 0, 1) := by decide +kernel
theorem dX3_leftOf_3 : decode cX3_leftOf 3 = .ok (.istore_n 3, 1) := by decide +kernel
theorem dX3_leftOf_4 : decode cX3_leftOf 4 = .ok (.iload_n 3, 1) := by decide +kernel
theorem dX3_leftOf_5 : decode cX3_leftOf 5 = .ok (.aload_n 0, 1) := by decide +kernel
theorem dX3_leftOf_6 : decode cX3_leftOf 6 = .ok (.getfield 18, 3) := by decide +kernel
theorem dX3_leftOf_9 : decode cX3_leftOf 9 = .ok (.if_icmp .ge 40, 3) := by decide +kernel
theorem dX3_leftOf_12 : decode cX3_leftOf 12 = .ok (.aload_n 0, 1) := by decide +kernel
theorem dX3_leftOf_13 : decode cX3_leftOf 13 = .ok (.getfield 24, 3) := by decide +kernel
theorem dX3_leftOf_16 : decode cX3_leftOf 16 = .ok (.iload_n 3, 1) := by decide +kernel
theorem dX3_leftOf_17 : decode cX3_leftOf 17 = .ok (.iaload, 1) := by decide +kernel
theorem dX3_leftOf_18 : decode cX3_leftOf 18 = .ok (.aload_n 0, 1) := by decide +kernel
theorem dX3_leftOf_19 : decode cX3_leftOf 19 = .ok (.getfield 24, 3) := by decide +kernel
theorem dX3_leftOf_22 : decode cX3_leftOf 22 = .ok (.aload_n 0, 1) := by decide +kernel
theorem dX3_leftOf_23 : decode cX3_leftOf 23 = .ok (.getfield 27, 3) := by decide +kernel
theorem dX3_leftOf_26 : decode cX3_leftOf 26 = .ok (.iaload, 1) := by decide +kernel
theorem dX3_leftOf_27 : decode cX3_leftOf 27 = .ok (.ixor, 1) := by decide +kernel
theorem dX3_leftOf_28 : decode cX3_leftOf 28 = .ok (.istore 4, 2) := by decide +kernel
theorem dX3_leftOf_30 : decode cX3_leftOf 30 = .ok (.iload 4, 2) := by decide +kernel
theorem dX3_leftOf_32 : decode cX3_leftOf 32 = .ok (.iload_n 1, 1) := by decide +kernel
theorem dX3_leftOf_33 : decode cX3_leftOf 33 = .ok (.iand, 1) := by decide +kernel
theorem dX3_leftOf_34 : decode cX3_leftOf 34 = .ok (.ifCond .ne 9, 3) := by decide +kernel
theorem dX3_leftOf_37 : decode cX3_leftOf 37 = .ok (.iload_n 2, 1) := by decide +kernel
theorem dX3_leftOf_38 : decode cX3_leftOf 38 = .ok (.iconst 1, 1) := by decide +kernel
theorem dX3_leftOf_39 : decode cX3_leftOf 39 = .ok (.iload_n 3, 1) := by decide +kernel
theorem dX3_leftOf_40 : decode cX3_leftOf 40 = .ok (.ishl, 1) := by decide +kernel
theorem dX3_leftOf_41 : decode cX3_leftOf 41 = .ok (.ior, 1) := by decide +kernel
theorem dX3_leftOf_42 : decode cX3_leftOf 42 = .ok (.istore_n 2, 1) := by decide +kernel
theorem dX3_leftOf_43 : decode cX3_leftOf 43 = .ok (.iinc 3 1, 3) := by decide +kernel
theorem dX3_leftOf_46 : decode cX3_leftOf 46 = .ok (.goto (-42), 3) := by decide +kernel
theorem dX3_leftOf_49 : decode cX3_leftOf 49 = .ok (.iload_n 2, 1) := by decide +kernel
theorem dX3_leftOf_50 : decode cX3_leftOf 50 = .ok (.ireturn, 1) := by decide +kernel
theorem dX3_withTrait_0 : decode cX3_withTrait 0 = .ok (.iconst 0, 1) := by decide +kernel
theorem dX3_withTrait_1 : decode cX3_withTrait 1 = .ok (.istore_n 2, 1) := by decide +kernel
theorem dX3_withTrait_2 : decode cX3_withTrait 2 = .ok (.iconst 0, 1) := by decide +kernel
theorem dX3_withTrait_3 : decode cX3_withTrait 3 = .ok (.istore_n 3, 1) := by decide +kernel
theorem dX3_withTrait_4 : decode cX3_withTrait 4 = .ok (.iload_n 3, 1) := by decide +kernel
theorem dX3_withTrait_5 : decode cX3_withTrait 5 = .ok (.aload_n 0, 1) := by decide +kernel
theorem dX3_withTrait_6 : decode cX3_withTrait 6 = .ok (.getfield 18, 3) := by decide +kernel
theorem dX3_withTrait_9 : decode cX3_withTrait 9 = .ok (.if_icmp .ge 24, 3) := by decide +kernel
theorem dX3_withTrait_12 : decode cX3_withTrait 12 = .ok (.iload_n 2, 1) := by decide +kernel
theorem dX3_withTrait_13 : decode cX3_withTrait 13 = .ok (.aload_n 0, 1) := by decide +kernel
theorem dX3_withTrait_14 : decode cX3_withTrait 14 = .ok (.getfield 24, 3) := by decide +kernel
theorem dX3_withTrait_17 : decode cX3_withTrait 17 = .ok (.iload_n 3, 1) := by decide +kernel
theorem dX3_withTrait_18 : decode cX3_withTrait 18 = .ok (.iaload, 1) := by decide +kernel
theorem dX3_withTrait_19 : decode cX3_withTrait 19 = .ok (.iload_n 1, 1) := by decide +kernel
theorem dX3_withTrait_20 : decode cX3_withTrait 20 = .ok (.ishr, 1) := by decide +kernel
theorem dX3_withTrait_21 : decode cX3_withTrait 21 = .ok (.iconst 1, 1) := by decide +kernel
theorem dX3_withTrait_22 : decode cX3_withTrait 22 = .ok (.iand, 1) := by decide +kernel
theorem dX3_withTrait_23 : decode cX3_withTrait 23 = .ok (.iload_n 3, 1) := by decide +kernel
theorem dX3_withTrait_24 : decode cX3_withTrait 24 = .ok (.ishl, 1) := by decide +kernel
theorem dX3_withTrait_25 : decode cX3_withTrait 25 = .ok (.ior, 1) := by decide +kernel
theorem dX3_withTrait_26 : decode cX3_withTrait 26 = .ok (.istore_n 2, 1) := by decide +kernel
theorem dX3_withTrait_27 : decode cX3_withTrait 27 = .ok (.iinc 3 1, 3) := by decide +kernel
theorem dX3_withTrait_30 : decode cX3_withTrait 30 = .ok (.goto (-26), 3) := by decide +kernel
theorem dX3_withTrait_33 : decode cX3_withTrait 33 = .ok (.iload_n 2, 1) := by decide +kernel
theorem dX3_withTrait_34 : decode cX3_withTrait 34 = .ok (.ireturn, 1) := by decide +kernel
theorem dX3_bestTrait_0 : decode cX3_bestTrait 0 = .ok (.aload_n 0, 1) := by decide +kernel
theorem dX3_bestTrait_1 : decode cX3_bestTrait 1 = .ok (.iload_n 1, 1) := by decide +kernel
theorem dX3_bestTrait_2 : decode cX3_bestTrait 2 = .ok (.invokestatic 30, 3) := by decide +kernel
theorem dX3_bestTrait_5 : decode cX3_bestTrait 5 = .ok (.istore_n 2, 1) := by decide +kernel
theorem dX3_bestTrait_6 : decode cX3_bestTrait 6 = .ok (.iload_n 2, 1) := by decide +kernel
theorem dX3_bestTrait_7 : decode cX3_bestTrait 7 = .ok (.invokestatic 34, 3) := by decide +kernel
theorem dX3_bestTrait_10 : decode cX3_bestTrait 10 = .ok (.istore_n 3, 1) := by decide +kernel
theorem dX3_bestTrait_11 : decode cX3_bestTrait 11 = .ok (.iload_n 3, 1) := by decide +kernel
theorem dX3_bestTrait_12 : decode cX3_bestTrait 12 = .ok (.iconst 1, 1) := by decide +kernel
theorem dX3_bestTrait_13 : decode cX3_bestTrait 13 = .ok (.if_icmp .gt 6, 3) := by decide +kernel
theorem dX3_bestTrait_16 : decode cX3_bestTrait 16 = .ok (.bipush (-9), 2) := by decide +kernel
theorem dX3_bestTrait_18 : decode cX3_bestTrait 18 = .ok (.ireturn, 1) := by decide +kernel
theorem dX3_bestTrait_19 : decode cX3_bestTrait 19 = .ok (.bipush (-9), 2) := by decide +kernel
theorem dX3_bestTrait_21 : decode cX3_bestTrait 21 = .ok (.istore 4, 2) := by decide +kernel
theorem dX3_bestTrait_23 : decode cX3_bestTrait 23 = .ok (.iload_n 3, 1) := by decide +kernel
theorem dX3_bestTrait_24 : decode cX3_bestTrait 24 = .ok (.iconst 1, 1) := by decide +kernel
theorem dX3_bestTrait_25 : decode cX3_bestTrait 25 = .ok (.iadd, 1) := by decide +kernel
theorem dX3_bestTrait_26 : decode cX3_bestTrait 26 = .ok (.istore 5, 2) := by decide +kernel
theorem dX3_bestTrait_28 : decode cX3_bestTrait 28 = .ok (.iconst 0, 1) := by decide +kernel
theorem dX3_bestTrait_29 : decode cX3_bestTrait 29 = .ok (.istore 6, 2) := by decide +kernel
theorem dX3_bestTrait_31 : decode cX3_bestTrait 31 = .ok (.iload 6, 2) := by decide +kernel
theorem dX3_bestTrait_33 : decode cX3_bestTrait 33 = .ok (.iconst 5, 1) := by decide +kernel
theorem dX3_bestTrait_34 : decode cX3_bestTrait 34 = .ok (.if_icmp .ge 57, 3) := by decide +kernel
theorem dX3_bestTrait_37 : decode cX3_bestTrait 37 = .ok (.iload_n 2, 1) := by decide +kernel
theorem dX3_bestTrait_38 : decode cX3_bestTrait 38 = .ok (.aload_n 0, 1) := by decide +kernel
theorem dX3_bestTrait_39 : decode cX3_bestTrait 39 = .ok (.iload 6, 2) := by decide +kernel
theorem dX3_bestTrait_41 : decode cX3_bestTrait 41 = .ok (.invokestatic 40, 3) := by decide +kernel
theorem dX3_bestTrait_44 : decode cX3_bestTrait 44 = .ok (.iand, 1) := by decide +kernel
theorem dX3_bestTrait_45 : decode cX3_bestTrait 45 = .ok (.invokestatic 34, 3) := by decide +kernel
theorem dX3_bestTrait_48 : decode cX3_bestTrait 48 = .ok (.istore 7, 2) := by decide +kernel
theorem dX3_bestTrait_50 : decode cX3_bestTrait 50 = .ok (.iload 7, 2) := by decide +kernel
theorem dX3_bestTrait_52 : decode cX3_bestTrait 52 = .ok (.iload_n 3, 1) := by decide +kernel
theorem dX3_bestTrait_53 : decode cX3_bestTrait 53 = .ok (.iload 7, 2) := by decide +kernel
theorem dX3_bestTrait_55 : decode cX3_bestTrait 55 = .ok (.isub, 1) := by decide +kernel
theorem dX3_bestTrait_56 : decode cX3_bestTrait 56 = .ok (.invokestatic 43, 3) := by decide +kernel
theorem dX3_bestTrait_59 : decode cX3_bestTrait 59 = .ok (.istore 8, 2) := by decide +kernel
theorem dX3_bestTrait_61 : decode cX3_bestTrait 61 = .ok (.iload_n 1, 1) := by decide +kernel
theorem dX3_bestTrait_62 : decode cX3_bestTrait 62 = .ok (.iload 6, 2) := by decide +kernel
theorem dX3_bestTrait_64 : decode cX3_bestTrait 64 = .ok (.ishr, 1) := by decide +kernel
theorem dX3_bestTrait_65 : decode cX3_bestTrait 65 = .ok (.iconst 1, 1) := by decide +kernel
theorem dX3_bestTrait_66 : decode cX3_bestTrait 66 = .ok (.iand, 1) := by decide +kernel
theorem dX3_bestTrait_67 : decode cX3_bestTrait 67 = .ok (.ifCond .ne 18, 3) := by decide +kernel
theorem dX3_bestTrait_70 : decode cX3_bestTrait 70 = .ok (.iload 8, 2) := by decide +kernel
theorem dX3_bestTrait_72 : decode cX3_bestTrait 72 = .ok (.iload 5, 2) := by decide +kernel
theorem dX3_bestTrait_74 : decode cX3_bestTrait 74 = .ok (.if_icmp .ge 11, 3) := by decide +kernel
theorem dX3_bestTrait_77 : decode cX3_bestTrait 77 = .ok (.iload 8, 2) := by decide +kernel
theorem dX3_bestTrait_79 : decode cX3_bestTrait 79 = .ok (.istore 5, 2) := by decide +kernel
theorem dX3_bestTrait_81 : decode cX3_bestTrait 81 = .ok (.iload 6, 2) := by decide +kernel
theorem dX3_bestTrait_83 : decode cX3_bestTrait 83 = .ok (.istore 4, 2) := by decide +kernel
theorem dX3_bestTrait_85 : decode cX3_bestTrait 85 = .ok (.iinc 6 1, 3) := by decide +kernel
theorem dX3_bestTrait_88 : decode cX3_bestTrait 88 = .ok (.goto (-57), 3) := by decide +kernel
theorem dX3_bestTrait_91 : decode cX3_bestTrait 91 = .ok (.iload 4, 2) := by decide +kernel
theorem dX3_bestTrait_93 : decode cX3_bestTrait 93 = .ok (.ireturn, 1) := by decide +kernel
theorem dX3_mostNeeded_0 : decode cX3_mostNeeded 0 = .ok (.iconst 0, 1) := by decide +kernel
theorem dX3_mostNeeded_1 : decode cX3_mostNeeded 1 = .ok (.istore_n 3, 1) := by decide +kernel
theorem dX3_mostNeeded_2 : decode cX3_mostNeeded 2 = .ok (.iload_n 3, 1) := by decide +kernel
theorem dX3_mostNeeded_3 : decode cX3_mostNeeded 3 = .ok (.iconst 5, 1) := by decide +kernel
theorem dX3_mostNeeded_4 : decode cX3_mostNeeded 4 = .ok (.if_icmp .ge 20, 3) := by decide +kernel
theorem dX3_mostNeeded_7 : decode cX3_mostNeeded 7 = .ok (.aload_n 0, 1) := by decide +kernel
theorem dX3_mostNeeded_8 : decode cX3_mostNeeded 8 = .ok (.getfield 9, 3) := by decide +kernel
theorem dX3_mostNeeded_11 : decode cX3_mostNeeded 11 = .ok (.iload_n 3, 1) := by decide +kernel
theorem dX3_mostNeeded_12 : decode cX3_mostNeeded 12 = .ok (.aload_n 1, 1) := by decide +kernel
theorem dX3_mostNeeded_13 : decode cX3_mostNeeded 13 = .ok (.iload_n 3, 1) := by decide +kernel
theorem dX3_mostNeeded_14 : decode cX3_mostNeeded 14 = .ok (.invokestatic 40, 3) := by decide +kernel
theorem dX3_mostNeeded_17 : decode cX3_mostNeeded 17 = .ok (.iastore, 1) := by decide +kernel
theorem dX3_mostNeeded_18 : decode cX3_mostNeeded 18 = .ok (.iinc 3 1, 3) := by decide +kernel
theorem dX3_mostNeeded_21 : decode cX3_mostNeeded 21 = .ok (.goto (-19), 3) := by decide +kernel
theorem dX3_mostNeeded_24 : decode cX3_mostNeeded 24 = .ok (.iconst 0, 1) := by decide +kernel
theorem dX3_mostNeeded_25 : decode cX3_mostNeeded 25 = .ok (.istore_n 3, 1) := by decide +kernel
theorem dX3_mostNeeded_26 : decode cX3_mostNeeded 26 = .ok (.iload_n 3, 1) := by decide +kernel
theorem dX3_mostNeeded_27 : decode cX3_mostNeeded 27 = .ok (.iload_n 2, 1) := by decide +kernel
theorem dX3_mostNeeded_28 : decode cX3_mostNeeded 28 = .ok (.if_icmp .gt 20, 3) := by decide +kernel
theorem dX3_mostNeeded_31 : decode cX3_mostNeeded 31 = .ok (.aload_n 0, 1) := by decide +kernel
theorem dX3_mostNeeded_32 : decode cX3_mostNeeded 32 = .ok (.getfield 15, 3) := by decide +kernel
theorem dX3_mostNeeded_35 : decode cX3_mostNeeded 35 = .ok (.iload_n 3, 1) := by decide +kernel
theorem dX3_mostNeeded_36 : decode cX3_mostNeeded 36 = .ok (.aload_n 0, 1) := by decide +kernel
theorem dX3_mostNeeded_37 : decode cX3_mostNeeded 37 = .ok (.iload_n 3, 1) := by decide +kernel
theorem dX3_mostNeeded_38 : decode cX3_mostNeeded 38 = .ok (.invokevirtual 49, 3) := by decide +kernel
theorem dX3_mostNeeded_41 : decode cX3_mostNeeded 41 = .ok (.iastore, 1) := by decide +kernel
theorem dX3_mostNeeded_42 : decode cX3_mostNeeded 42 = .ok (.iinc 3 1, 3) := by decide +kernel
theorem dX3_mostNeeded_45 : decode cX3_mostNeeded 45 = .ok (.goto (-19), 3) := by decide +kernel
theorem dX3_mostNeeded_48 : decode cX3_mostNeeded 48 = .ok (.aload_n 0, 1) := by decide +kernel
theorem dX3_mostNeeded_49 : decode cX3_mostNeeded 49 = .ok (.getfield 15, 3) := by decide +kernel
theorem dX3_mostNeeded_52 : decode cX3_mostNeeded 52 = .ok (.iload_n 2, 1) := by decide +kernel
theorem dX3_mostNeeded_53 : decode cX3_mostNeeded 53 = .ok (.iaload, 1) := by decide +kernel
theorem dX3_mostNeeded_54 : decode cX3_mostNeeded 54 = .ok (.ireturn, 1) := by decide +kernel
theorem dX3_neededOf_0 : decode cX3_neededOf 0 = .ok (.bipush 6, 2) := by decide +kernel
theorem dX3_neededOf_2 : decode cX3_neededOf 2 = .ok (.istore_n 2, 1) := by decide +kernel
theorem dX3_neededOf_3 : decode cX3_neededOf 3 = .ok (.iconst 0, 1) := by decide +kernel
theorem dX3_neededOf_4 : decode cX3_neededOf 4 = .ok (.istore_n 3, 1) := by decide +kernel
theorem dX3_neededOf_5 : decode cX3_neededOf 5 = .ok (.iload_n 3, 1) := by decide +kernel
theorem dX3_neededOf_6 : decode cX3_neededOf 6 = .ok (.iconst 5, 1) := by decide +kernel
theorem dX3_neededOf_7 : decode cX3_neededOf 7 = .ok (.if_icmp .ge 65, 3) := by decide +kernel
theorem dX3_neededOf_10 : decode cX3_neededOf 10 = .ok (.iload_n 1, 1) := by decide +kernel
theorem dX3_neededOf_11 : decode cX3_neededOf 11 = .ok (.aload_n 0, 1) := by decide +kernel
theorem dX3_neededOf_12 : decode cX3_neededOf 12 = .ok (.getfield 9, 3) := by decide +kernel
theorem dX3_neededOf_15 : decode cX3_neededOf 15 = .ok (.iload_n 3, 1) := by decide +kernel
theorem dX3_neededOf_16 : decode cX3_neededOf 16 = .ok (.iaload, 1) := by decide +kernel
theorem dX3_neededOf_17 : decode cX3_neededOf 17 = .ok (.iand, 1) := by decide +kernel
theorem dX3_neededOf_18 : decode cX3_neededOf 18 = .ok (.istore 4, 2) := by decide +kernel
theorem dX3_neededOf_20 : decode cX3_neededOf 20 = .ok (.iload_n 1, 1) := by decide +kernel
theorem dX3_neededOf_21 : decode cX3_neededOf 21 = .ok (.aload_n 0, 1) := by decide +kernel
theorem dX3_neededOf_22 : decode cX3_neededOf 22 = .ok (.getfield 9, 3) := by decide +kernel
theorem dX3_neededOf_25 : decode cX3_neededOf 25 = .ok (.iload_n 3, 1) := by decide +kernel
theorem dX3_neededOf_26 : decode cX3_neededOf 26 = .ok (.iaload, 1) := by decide +kernel
theorem dX3_neededOf_27 : decode cX3_neededOf 27 = .ok (.iconst (-1), 1) := by decide +kernel
theorem dX3_neededOf_28 : decode cX3_neededOf 28 = .ok (.ixor, 1) := by decide +kernel
theorem dX3_neededOf_29 : decode cX3_neededOf 29 = .ok (.iand, 1) := by decide +kernel
theorem dX3_neededOf_30 : decode cX3_neededOf 30 = .ok (.istore 5, 2) := by decide +kernel
theorem dX3_neededOf_32 : decode cX3_neededOf 32 = .ok (.iload 4, 2) := by decide +kernel
theorem dX3_neededOf_34 : decode cX3_neededOf 34 = .ok (.ifCond .eq 32, 3) := by decide +kernel
theorem dX3_neededOf_37 : decode cX3_neededOf 37 = .ok (.iload 5, 2) := by decide +kernel
theorem dX3_neededOf_39 : decode cX3_neededOf 39 = .ok (.ifCond .eq 27, 3) := by decide +kernel
theorem dX3_neededOf_42 : decode cX3_neededOf 42 = .ok (.iload_n 2, 1) := by decide +kernel
theorem dX3_neededOf_43 : decode cX3_neededOf 43 = .ok (.iconst 1, 1) := by decide +kernel
theorem dX3_neededOf_44 : decode cX3_neededOf 44 = .ok (.aload_n 0, 1) := by decide +kernel
theorem dX3_neededOf_45 : decode cX3_neededOf 45 = .ok (.getfield 15, 3) := by decide +kernel
theorem dX3_neededOf_48 : decode cX3_neededOf 48 = .ok (.iload 4, 2) := by decide +kernel
theorem dX3_neededOf_50 : decode cX3_neededOf 50 = .ok (.iaload, 1) := by decide +kernel
theorem dX3_neededOf_51 : decode cX3_neededOf 51 = .ok (.aload_n 0, 1) := by decide +kernel
theorem dX3_neededOf_52 : decode cX3_neededOf 52 = .ok (.getfield 15, 3) := by decide +kernel
theorem dX3_neededOf_55 : decode cX3_neededOf 55 = .ok (.iload 5, 2) := by decide +kernel
theorem dX3_neededOf_57 : decode cX3_neededOf 57 = .ok (.iaload, 1) := by decide +kernel
theorem dX3_neededOf_58 : decode cX3_neededOf 58 = .ok (.invokestatic 43, 3) := by decide +kernel
theorem dX3_neededOf_61 : decode cX3_neededOf 61 = .ok (.iadd, 1) := by decide +kernel
theorem dX3_neededOf_62 : decode cX3_neededOf 62 = .ok (.invokestatic 52, 3) := by decide +kernel
theorem dX3_neededOf_65 : decode cX3_neededOf 65 = .ok (.istore_n 2, 1) := by decide +kernel
theorem dX3_neededOf_66 : decode cX3_neededOf 66 = .ok (.iinc 3 1, 3) := by decide +kernel
theorem dX3_neededOf_69 : decode cX3_neededOf 69 = .ok (.goto (-64), 3) := by decide +kernel
theorem dX3_neededOf_72 : decode cX3_neededOf 72 = .ok (.iload_n 2, 1) := by decide +kernel
theorem dX3_neededOf_73 : decode cX3_neededOf 73 = .ok (.iconst 5, 1) := by decide +kernel
theorem dX3_neededOf_74 : decode cX3_neededOf 74 = .ok (.if_icmp .le 7, 3) := by decide +kernel
theorem dX3_neededOf_77 : decode cX3_neededOf 77 = .ok (.iconst 0, 1) := by decide +kernel
theorem dX3_neededOf_78 : decode cX3_neededOf 78 = .ok (.goto 4, 3) := by decide +kernel
theorem dX3_neededOf_81 : decode cX3_neededOf 81 = .ok (.iload_n 2, 1) := by decide +kernel
theorem dX3_neededOf_82 : decode cX3_neededOf 82 = .ok (.ireturn, 1) := by decide +kernel
theorem dX4_init_0 : decode cX4_init 0 = .ok (.aload_n 0, 1) := by decide +kernel
theorem dX4_init_1 : decode cX4_init 1 = .ok (.invokespecial 3, 3) := by decide +kernel
theorem dX4_init_4 : decode cX4_init 4 = .ok (.aload_n 0, 1) := by decide +kernel
theorem dX4_init_5 : decode cX4_init 5 = .ok (.iconst 5, 1) := by decide +kernel
theorem dX4_init_6 : decode cX4_init 6 = .ok (.newarray .int, 2) := by decide +kernel
theorem dX4_init_8 : decode cX4_init 8 = .ok (.putfield 9, 3) := by decide +kernel
theorem dX4_init_11 : decode cX4_init 11 = .ok (.aload_n 0, 1) := by decide +kernel
theorem dX4_init_12 : decode cX4_init 12 = .ok (.iconst 5, 1) := by decide +kernel
theorem dX4_init_13 : decode cX4_init 13 = .ok (.newarray .int, 2) := by decide +kernel
theorem dX4_init_15 : decode cX4_init 15 = .ok (.putfield 15, 3) := by decide +kernel
theorem dX4_init_18 : decode cX4_init 18 = .ok (.aload_n 0, 1) := by decide +kernel
theorem dX4_init_19 : decode cX4_init 19 = .ok (.iconst 0, 1) := by decide +kernel
theorem dX4_init_20 : decode cX4_init 20 = .ok (.putfield 18, 3) := by decide +kernel
theorem dX4_init_23 : decode cX4_init 23 = .ok (.return_, 1) := by decide +kernel
theorem dX4_add_0 : decode cX4_add 0 = .ok (.aload_n 0, 1) := by decide +kernel
theorem dX4_add_1 : decode cX4_add 1 = .ok (.getfield 18, 3) := by decide +kernel
theorem dX4_add_4 : decode cX4_add 4 = .ok (.iconst 5, 1) := by decide +kernel
theorem dX4_add_5 : decode cX4_add 5 = .ok (.if_icmp .ge 33, 3) := by decide +kernel
theorem dX4_add_8 : decode cX4_add 8 = .ok (.aload_n 0, 1) := by decide +kernel
theorem dX4_add_9 : decode cX4_add 9 = .ok (.getfield 9, 3) := by decide +kernel
theorem dX4_add_12 : decode cX4_add 12 = .ok (.aload_n 0, 1) := by decide +kernel
theorem dX4_add_13 : decode cX4_add 13 = .ok (.getfield 18, 3) := by decide +kernel
theorem dX4_add_16 : decode cX4_add 16 = .ok (.iload_n 1, 1) := by decide +kernel
theorem dX4_add_17 : decode cX4_add 17 = .ok (.iastore, 1) := by decide +kernel
theorem dX4_add_18 : decode cX4_add 18 = .ok (.aload_n 0, 1) := by decide +kernel
theorem dX4_add_19 : decode cX4_add 19 = .ok (.getfield 15, 3) := by decide +kernel
theorem dX4_add_22 : decode cX4_add 22 = .ok (.aload_n 0, 1) := by decide +kernel
theorem dX4_add_23 : decode cX4_add 23 = .ok (.getfield 18, 3) := by decide +kernel
theorem dX4_add_26 : decode cX4_add 26 = .ok (.iload_n 2, 1) := by decide +kernel
theorem dX4_add_27 : decode cX4_add 27 = .ok (.iastore, 1) := by decide +kernel
theorem dX4_add_28 : decode cX4_add 28 = .ok (.aload_n 0, 1) := by decide +kernel
theorem dX4_add_29 : decode cX4_add 29 = .ok (.dup, 1) := by decide +kernel
theorem dX4_add_30 : decode cX4_add 30 = .ok (.getfield 18, 3) := by decide +kernel
theorem dX4_add_33 : decode cX4_add 33 = .ok (.iconst 1, 1) := by decide +kernel
theorem dX4_add_34 : decode cX4_add 34 = .ok (.iadd, 1) := by decide +kernel
theorem dX4_add_35 : decode cX4_add 35 = .ok (.putfield 18, 3) := by decide +kernel
theorem dX4_add_38 : decode cX4_add 38 = .ok (.return_, 1) := by decide +kernel
theorem dX4_agreesWith_0 : decode cX4_agreesWith 0 = .ok (.iconst 0, 1) := by decide +kernel
theorem dX4_agreesWith_1 : decode cX4_agreesWith 1 = .ok (.istore_n 3, 1) := by decide +kernel
theorem dX4_agreesWith_2 : decode cX4_agreesWith 2 = .ok (.iload_n 3, 1) := by decide +kernel
theorem dX4_agreesWith_3 : decode cX4_agreesWith 3 = .ok (.aload_n 0, 1) := by decide +kernel
theorem dX4_agreesWith_4 : decode cX4_agreesWith 4 = .ok (.getfield 18, 3) := by decide +kernel
theorem dX4_agreesWith_7 : decode cX4_agreesWith 7 = .ok (.if_icmp .ge 33, 3) := by decide +kernel
theorem dX4_agreesWith_10 : decode cX4_agreesWith 10 = .ok (.aload_n 1, 1) := by decide +kernel
theorem dX4_agreesWith_11 : decode cX4_agreesWith 11 = .ok (.getfield 22, 3) := by decide +kernel
theorem dX4_agreesWith_14 : decode cX4_agreesWith 14 = .ok (.aload_n 0, 1) := by decide +kernel
theorem dX4_agreesWith_15 : decode cX4_agreesWith 15 = .ok (.getfield 9, 3) := by decide +kernel
theorem dX4_agreesWith_18 : decode cX4_agreesWith 18 = .ok (.iload_n 3, 1) := by decide +kernel
theorem dX4_agreesWith_19 : decode cX4_agreesWith 19 = .ok (.iaload, 1) := by decide +kernel
theorem dX4_agreesWith_20 : decode cX4_agreesWith 20 = .ok (.iaload, 1) := by decide +kernel
theorem dX4_agreesWith_21 : decode cX4_agreesWith 21 = .ok (.iload_n 2, 1) := by decide +kernel
theorem dX4_agreesWith_22 : decode cX4_agreesWith 22 = .ok (.imul, 1) := by decide +kernel
theorem dX4_agreesWith_23 : decode cX4_agreesWith 23 = .ok (.aload_n 0, 1) := by decide +kernel
theorem dX4_agreesWith_24 : decode cX4_agreesWith 24 = .ok (.getfield 15, 3) := by decide +kernel
theorem dX4_agreesWith_27 : decode cX4_agreesWith 27 = .ok (.iload_n 3, 1) := by decide +kernel
theorem dX4_agreesWith_28 : decode cX4_agreesWith 28 = .ok (.iaload, 1) := by decide +kernel
theorem dX4_agreesWith_29 : decode cX4_agreesWith 29 = .ok (.if_icmp .eq 5, 3) := by decide +kernel
theorem dX4_agreesWith_32 : decode cX4_agreesWith 32 = .ok (.iconst 0, 1) := by decide +kernel
theorem dX4_agreesWith_33 : decode cX4_agreesWith 33 = .ok (.ireturn, 1) := by decide +kernel
theorem dX4_agreesWith_34 : decode cX4_agreesWith 34 = .ok (.iinc 3 1, 3) := by decide +kernel
theorem dX4_agreesWith_37 : decode cX4_agreesWith 37 = .ok (.goto (-35), 3) := by decide +kernel
theorem dX4_agreesWith_40 : decode cX4_agreesWith 40 = .ok (.iconst 1, 1) := by decide +kernel
theorem dX4_agreesWith_41 : decode cX4_agreesWith 41 = .ok (.ireturn, 1) := by decide +kernel
theorem dX5_init_0 : decode cX5_init 0 = .ok (.aload_n 0, 1) := by decide +kernel
theorem dX5_init_1 : decode cX5_init 1 = .ok (.invokespecial 3, 3) := by decide +kernel
theorem dX5_init_4 : decode cX5_init 4 = .ok (.aload_n 0, 1) := by decide +kernel
theorem dX5_init_5 : decode cX5_init 5 = .ok (.bipush 10, 2) := by decide +kernel
theorem dX5_init_7 : decode cX5_init 7 = .ok (.anewarray 9, 3) := by decide +kernel
theorem dX5_init_10 : decode cX5_init 10 = .ok (.putfield 11, 3) := by decide +kernel
theorem dX5_init_13 : decode cX5_init 13 = .ok (.iconst 0, 1) := by decide +kernel
theorem dX5_init_14 : decode cX5_init 14 = .ok (.istore_n 1, 1) := by decide +kernel
theorem dX5_init_15 : decode cX5_init 15 = .ok (.iload_n 1, 1) := by decide +kernel
theorem dX5_init_16 : decode cX5_init 16 = .ok (.bipush 10, 2) := by decide +kernel
theorem dX5_init_18 : decode cX5_init 18 = .ok (.if_icmp .ge 22, 3) := by decide +kernel
theorem dX5_init_21 : decode cX5_init 21 = .ok (.aload_n 0, 1) := by decide +kernel
theorem dX5_init_22 : decode cX5_init 22 = .ok (.getfield 11, 3) := by decide +kernel
theorem dX5_init_25 : decode cX5_init 25 = .ok (.iload_n 1, 1) := by decide +kernel
theorem dX5_init_26 : decode cX5_init 26 = .ok (.new 9, 3) := by decide +kernel
theorem dX5_init_29 : decode cX5_init 29 = .ok (.dup, 1) := by decide +kernel
theorem dX5_init_30 : decode cX5_init 30 = .ok (.invokespecial 17, 3) := by decide +kernel
theorem dX5_init_33 : decode cX5_init 33 = .ok (.aastore, 1) := by decide +kernel
theorem dX5_init_34 : decode cX5_init 34 = .ok (.iinc 1 1, 3) := by decide +kernel
theorem dX5_init_37 : decode cX5_init 37 = .ok (.goto (-22), 3) := by decide +kernel
theorem dX5_init_40 : decode cX5_init 40 = .ok (.aload_n 0, 1) := by decide +kernel
theorem dX5_init_41 : decode cX5_init 41 = .ok (.iconst 0, 1) := by decide +kernel
theorem dX5_init_42 : decode cX5_init 42 = .ok (.putfield 18, 3) := by decide +kernel
theorem dX5_init_45 : decode cX5_init 45 = .ok (.aload_n 0, 1) := by decide +kernel
theorem dX5_init_46 : decode cX5_init 46 = .ok (.iconst 0, 1) := by decide +kernel
theorem dX5_init_47 : decode cX5_init 47 = .ok (.putfield 22, 3) := by decide +kernel
theorem dX5_init_50 : decode cX5_init 50 = .ok (.return_, 1) := by decide +kernel
theorem dX5_lose_0 : decode cX5_lose 0 = .ok (.aload_n 0, 1) := by decide +kernel
theorem dX5_lose_1 : decode cX5_lose 1 = .ok (.iconst 0, 1) := by decide +kernel
theorem dX5_lose_2 : decode cX5_lose 2 = .ok (.putfield 22, 3) := by decide +kernel
theorem dX5_lose_5 : decode cX5_lose 5 = .ok (.return_, 1) := by decide +kernel
theorem dX5_remember_0 : decode cX5_remember 0 = .ok (.aload_n 0, 1) := by decide +kernel
theorem dX5_remember_1 : decode cX5_remember 1 = .ok (.getfield 11, 3) := by decide +kernel
theorem dX5_remember_4 : decode cX5_remember 4 = .ok (.aload_n 0, 1) := by decide +kernel
theorem dX5_remember_5 : decode cX5_remember 5 = .ok (.getfield 18, 3) := by decide +kernel
theorem dX5_remember_8 : decode cX5_remember 8 = .ok (.aaload, 1) := by decide +kernel
theorem dX5_remember_9 : decode cX5_remember 9 = .ok (.aload_n 1, 1) := by decide +kernel
theorem dX5_remember_10 : decode cX5_remember 10 = .ok (.invokevirtual 25, 3) := by decide +kernel
theorem dX5_remember_13 : decode cX5_remember 13 = .ok (.aload_n 0, 1) := by decide +kernel
theorem dX5_remember_14 : decode cX5_remember 14 = .ok (.aload_n 0, 1) := by decide +kernel
theorem dX5_remember_15 : decode cX5_remember 15 = .ok (.getfield 18, 3) := by decide +kernel
theorem dX5_remember_18 : decode cX5_remember 18 = .ok (.iconst 1, 1) := by decide +kernel
theorem dX5_remember_19 : decode cX5_remember 19 = .ok (.iadd, 1) := by decide +kernel
theorem dX5_remember_20 : decode cX5_remember 20 = .ok (.bipush 10, 2) := by decide +kernel
theorem dX5_remember_22 : decode cX5_remember 22 = .ok (.irem, 1) := by decide +kernel
theorem dX5_remember_23 : decode cX5_remember 23 = .ok (.putfield 18, 3) := by decide +kernel
theorem dX5_remember_26 : decode cX5_remember 26 = .ok (.aload_n 0, 1) := by decide +kernel
theorem dX5_remember_27 : decode cX5_remember 27 = .ok (.aload_n 0, 1) := by decide +kernel
theorem dX5_remember_28 : decode cX5_remember 28 = .ok (.getfield 22, 3) := by decide +kernel
theorem dX5_remember_31 : decode cX5_remember 31 = .ok (.iconst 1, 1) := by decide +kernel
theorem dX5_remember_32 : decode cX5_remember 32 = .ok (.iadd, 1) := by decide +kernel
theorem dX5_remember_33 : decode cX5_remember 33 = .ok (.bipush 10, 2) := by decide +kernel
theorem dX5_remember_35 : decode cX5_remember 35 = .ok (.invokestatic 29, 3) := by decide +kernel
theorem dX5_remember_38 : decode cX5_remember 38 = .ok (.putfield 22, 3) := by decide +kernel
theorem dX5_remember_41 : decode cX5_remember 41 = .ok (.return_, 1) := by decide +kernel
theorem dX5_restore_0 : decode cX5_restore 0 = .ok (.aload_n 0, 1) := by decide +kernel
theorem dX5_restore_1 : decode cX5_restore 1 = .ok (.aload_n 0, 1) := by decide +kernel
theorem dX5_restore_2 : decode cX5_restore 2 = .ok (.getfield 18, 3) := by decide +kernel
theorem dX5_restore_5 : decode cX5_restore 5 = .ok (.bipush 10, 2) := by decide +kernel
theorem dX5_restore_7 : decode cX5_restore 7 = .ok (.iadd, 1) := by decide +kernel
theorem dX5_restore_8 : decode cX5_restore 8 = .ok (.iconst 1, 1) := by decide +kernel
theorem dX5_restore_9 : decode cX5_restore 9 = .ok (.isub, 1) := by decide +kernel
theorem dX5_restore_10 : decode cX5_restore 10 = .ok (.bipush 10, 2) := by decide +kernel
theorem dX5_restore_12 : decode cX5_restore 12 = .ok (.irem, 1) := by decide +kernel
theorem dX5_restore_13 : decode cX5_restore 13 = .ok (.putfield 18, 3) := by decide +kernel
theorem dX5_restore_16 : decode cX5_restore 16 = .ok (.aload_n 1, 1) := by decide +kernel
theorem dX5_restore_17 : decode cX5_restore 17 = .ok (.aload_n 0, 1) := by decide +kernel
theorem dX5_restore_18 : decode cX5_restore 18 = .ok (.getfield 11, 3) := by decide +kernel
theorem dX5_restore_21 : decode cX5_restore 21 = .ok (.aload_n 0, 1) := by decide +kernel
theorem dX5_restore_22 : decode cX5_restore 22 = .ok (.getfield 18, 3) := by decide +kernel
theorem dX5_restore_25 : decode cX5_restore 25 = .ok (.aaload, 1) := by decide +kernel
theorem dX5_restore_26 : decode cX5_restore 26 = .ok (.invokevirtual 25, 3) := by decide +kernel
theorem dX5_restore_29 : decode cX5_restore 29 = .ok (.aload_n 0, 1) := by decide +kernel
theorem dX5_restore_30 : decode cX5_restore 30 = .ok (.dup, 1) := by decide +kernel
theorem dX5_restore_31 : decode cX5_restore 31 = .ok (.getfield 22, 3) := by decide +kernel
theorem dX5_restore_34 : decode cX5_restore 34 = .ok (.iconst 1, 1) := by decide +kernel
theorem dX5_restore_35 : decode cX5_restore 35 = .ok (.isub, 1) := by decide +kernel
theorem dX5_restore_36 : decode cX5_restore 36 = .ok (.putfield 22, 3) := by decide +kernel
theorem dX5_restore_39 : decode cX5_restore 39 = .ok (.return_, 1) := by decide +kernel
theorem dX6_init_0 : decode cX6_init 0 = .ok (.aload_n 0, 1) := by decide +kernel
theorem dX6_init_1 : decode cX6_init 1 = .ok (.invokespecial 3, 3) := by decide +kernel
theorem dX6_init_4 : decode cX6_init 4 = .ok (.aload_n 0, 1) := by decide +kernel
theorem dX6_init_5 : decode cX6_init 5 = .ok (.sipush 200, 3) := by decide +kernel
theorem dX6_init_8 : decode cX6_init 8 = .ok (.newarray .int, 2) := by decide +kernel
theorem dX6_init_10 : decode cX6_init 10 = .ok (.putfield 9, 3) := by decide +kernel
theorem dX6_init_13 : decode cX6_init 13 = .ok (.aload_n 0, 1) := by decide +kernel
theorem dX6_init_14 : decode cX6_init 14 = .ok (.iconst 0, 1) := by decide +kernel
theorem dX6_init_15 : decode cX6_init 15 = .ok (.putfield 15, 3) := by decide +kernel
theorem dX6_init_18 : decode cX6_init 18 = .ok (.aload_n 0, 1) := by decide +kernel
theorem dX6_init_19 : decode cX6_init 19 = .ok (.iconst 0, 1) := by decide +kernel
theorem dX6_init_20 : decode cX6_init 20 = .ok (.putfield 19, 3) := by decide +kernel
theorem dX6_init_23 : decode cX6_init 23 = .ok (.return_, 1) := by decide +kernel
theorem dX6_add_0 : decode cX6_add 0 = .ok (.aload_n 0, 1) := by decide +kernel
theorem dX6_add_1 : decode cX6_add 1 = .ok (.getfield 15, 3) := by decide +kernel
theorem dX6_add_4 : decode cX6_add 4 = .ok (.sipush 200, 3) := by decide +kernel
theorem dX6_add_7 : decode cX6_add 7 = .ok (.if_icmp .ge 23, 3) := by decide +kernel
theorem dX6_add_10 : decode cX6_add 10 = .ok (.aload_n 0, 1) := by decide +kernel
theorem dX6_add_11 : decode cX6_add 11 = .ok (.getfield 9, 3) := by decide +kernel
theorem dX6_add_14 : decode cX6_add 14 = .ok (.aload_n 0, 1) := by decide +kernel
theorem dX6_add_15 : decode cX6_add 15 = .ok (.getfield 15, 3) := by decide +kernel
theorem dX6_add_18 : decode cX6_add 18 = .ok (.iload_n 1, 1) := by decide +kernel
theorem dX6_add_19 : decode cX6_add 19 = .ok (.iastore, 1) := by decide +kernel
theorem dX6_add_20 : decode cX6_add 20 = .ok (.aload_n 0, 1) := by decide +kernel
theorem dX6_add_21 : decode cX6_add 21 = .ok (.dup, 1) := by decide +kernel
theorem dX6_add_22 : decode cX6_add 22 = .ok (.getfield 15, 3) := by decide +kernel
theorem dX6_add_25 : decode cX6_add 25 = .ok (.iconst 1, 1) := by decide +kernel
theorem dX6_add_26 : decode cX6_add 26 = .ok (.iadd, 1) := by decide +kernel
theorem dX6_add_27 : decode cX6_add 27 = .ok (.putfield 15, 3) := by decide +kernel
theorem dX6_add_30 : decode cX6_add 30 = .ok (.return_, 1) := by decide +kernel
theorem dX6_readInto_0 : decode cX6_readInto 0 = .ok (.aload_n 1, 1) := by decide +kernel
theorem dX6_readInto_1 : decode cX6_readInto 1 = .ok (.invokevirtual 22, 3) := by decide +kernel
theorem dX6_readInto_4 : decode cX6_readInto 4 = .ok (.aload_n 0, 1) := by decide +kernel
theorem dX6_readInto_5 : decode cX6_readInto 5 = .ok (.iconst 0, 1) := by decide +kernel
theorem dX6_readInto_6 : decode cX6_readInto 6 = .ok (.putfield 27, 3) := by decide +kernel
theorem dX6_readInto_9 : decode cX6_readInto 9 = .ok (.aload_n 0, 1) := by decide +kernel
theorem dX6_readInto_10 : decode cX6_readInto 10 = .ok (.iconst 0, 1) := by decide +kernel
theorem dX6_readInto_11 : decode cX6_readInto 11 = .ok (.putfield 30, 3) := by decide +kernel
theorem dX6_readInto_14 : decode cX6_readInto 14 = .ok (.aload_n 0, 1) := by decide +kernel
theorem dX6_readInto_15 : decode cX6_readInto 15 = .ok (.iconst 0, 1) := by decide +kernel
theorem dX6_readInto_16 : decode cX6_readInto 16 = .ok (.putfield 34, 3) := by decide +kernel
theorem dX6_readInto_19 : decode cX6_readInto 19 = .ok (.aload_n 0, 1) := by decide +kernel
theorem dX6_readInto_20 : decode cX6_readInto 20 = .ok (.iconst 0, 1) := by decide +kernel
theorem dX6_readInto_21 : decode cX6_readInto 21 = .ok (.putfield 37, 3) := by decide +kernel
theorem dX6_readInto_24 : decode cX6_readInto 24 = .ok (.aload_n 0, 1) := by decide +kernel
theorem dX6_readInto_25 : decode cX6_readInto 25 = .ok (.invokevirtual 40, 3) := by decide +kernel
theorem dX6_readInto_28 : decode cX6_readInto 28 = .ok (.iconst 0, 1) := by decide +kernel
theorem dX6_readInto_29 : decode cX6_readInto 29 = .ok (.istore_n 2, 1) := by decide +kernel
theorem dX6_readInto_30 : decode cX6_readInto 30 = .ok (.iconst 0, 1) := by decide +kernel
theorem dX6_readInto_31 : decode cX6_readInto 31 = .ok (.istore_n 3, 1) := by decide +kernel
theorem dX6_readInto_32 : decode cX6_readInto 32 = .ok (.iload_n 3, 1) := by decide +kernel
theorem dX6_readInto_33 : decode cX6_readInto 33 = .ok (.sipush 200, 3) := by decide +kernel
theorem dX6_readInto_36 : decode cX6_readInto 36 = .ok (.if_icmp .ge 37, 3) := by decide +kernel
theorem dX6_readInto_39 : decode cX6_readInto 39 = .ok (.aload_n 0, 1) := by decide +kernel
theorem dX6_readInto_40 : decode cX6_readInto 40 = .ok (.getfield 27, 3) := by decide +kernel
theorem dX6_readInto_43 : decode cX6_readInto 43 = .ok (.aload_n 0, 1) := by decide +kernel
theorem dX6_readInto_44 : decode cX6_readInto 44 = .ok (.getfield 15, 3) := by decide +kernel
theorem dX6_readInto_47 : decode cX6_readInto 47 = .ok (.if_icmp .ge 26, 3) := by decide +kernel
theorem dX6_readInto_50 : decode cX6_readInto 50 = .ok (.aload_n 0, 1) := by decide +kernel
theorem dX6_readInto_51 : decode cX6_readInto 51 = .ok (.aload_n 1, 1) := by decide +kernel
theorem dX6_readInto_52 : decode cX6_readInto 52 = .ok (.invokevirtual 43, 3) := by decide +kernel
theorem dX6_readInto_55 : decode cX6_readInto 55 = .ok (.ifCond .ne 5, 3) := by decide +kernel
theorem dX6_readInto_58 : decode cX6_readInto 58 = .ok (.iconst (-1), 1) := by decide +kernel
theorem dX6_readInto_59 : decode cX6_readInto 59 = .ok (.ireturn, 1) := by decide +kernel
theorem dX6_readInto_60 : decode cX6_readInto 60 = .ok (.iinc 2 1, 3) := by decide +kernel
theorem dX6_readInto_63 : decode cX6_readInto 63 = .ok (.aload_n 0, 1) := by decide +kernel
theorem dX6_readInto_64 : decode cX6_readInto 64 = .ok (.invokevirtual 40, 3) := by decide +kernel
theorem dX6_readInto_67 : decode cX6_readInto 67 = .ok (.iinc 3 1, 3) := by decide +kernel
theorem dX6_readInto_70 : decode cX6_readInto 70 = .ok (.goto (-38), 3) := by decide +kernel
theorem dX6_readInto_73 : decode cX6_readInto 73 = .ok (.iload_n 2, 1) := by decide +kernel
theorem dX6_readInto_74 : decode cX6_readInto 74 = .ok (.ireturn, 1) := by decide +kernel
theorem dX6_readItem_0 : decode cX6_readItem 0 = .ok (.aload_n 0, 1) := by decide +kernel
theorem dX6_readItem_1 : decode cX6_readItem 1 = .ok (.getfield 9, 3) := by decide +kernel
theorem dX6_readItem_4 : decode cX6_readItem 4 = .ok (.aload_n 0, 1) := by decide +kernel
theorem dX6_readItem_5 : decode cX6_readItem 5 = .ok (.getfield 27, 3) := by decide +kernel
theorem dX6_readItem_8 : decode cX6_readItem 8 = .ok (.iaload, 1) := by decide +kernel
theorem dX6_readItem_9 : decode cX6_readItem 9 = .ok (.lookupswitch 185 #[(99, 122), (100, 80), (110, 164), (114, 59), (115, 101), (119, 143)], 59) := by decide +kernel
theorem dX6_readItem_68 : decode cX6_readItem 68 = .ok (.aload_n 0, 1) := by decide +kernel
theorem dX6_readItem_69 : decode cX6_readItem 69 = .ok (.aload_n 1, 1) := by decide +kernel
theorem dX6_readItem_70 : decode cX6_readItem 70 = .ok (.invokevirtual 47, 3) := by decide +kernel
theorem dX6_readItem_73 : decode cX6_readItem 73 = .ok (.ifCond .eq 14, 3) := by decide +kernel
theorem dX6_readItem_76 : decode cX6_readItem 76 = .ok (.aload_n 0, 1) := by decide +kernel
theorem dX6_readItem_77 : decode cX6_readItem 77 = .ok (.invokevirtual 50, 3) := by decide +kernel
theorem dX6_readItem_80 : decode cX6_readItem 80 = .ok (.ifCond .eq 7, 3) := by decide +kernel
theorem dX6_readItem_83 : decode cX6_readItem 83 = .ok (.iconst 1, 1) := by decide +kernel
theorem dX6_readItem_84 : decode cX6_readItem 84 = .ok (.goto 4, 3) := by decide +kernel
theorem dX6_readItem_87 : decode cX6_readItem 87 = .ok (.iconst 0, 1) := by decide +kernel
theorem dX6_readItem_88 : decode cX6_readItem 88 = .ok (.ireturn, 1) := by decide +kernel
theorem dX6_readItem_89 : decode cX6_readItem 89 = .ok (.aload_n 0, 1) := by decide +kernel
theorem dX6_readItem_90 : decode cX6_readItem 90 = .ok (.aload_n 1, 1) := by decide +kernel
theorem dX6_readItem_91 : decode cX6_readItem 91 = .ok (.invokevirtual 54, 3) := by decide +kernel
theorem dX6_readItem_94 : decode cX6_readItem 94 = .ok (.ifCond .eq 14, 3) := by decide +kernel
theorem dX6_readItem_97 : decode cX6_readItem 97 = .ok (.aload_n 0, 1) := by decide +kernel
theorem dX6_readItem_98 : decode cX6_readItem 98 = .ok (.invokevirtual 50, 3) := by decide +kernel
theorem dX6_readItem_101 : decode cX6_readItem 101 = .ok (.ifCond .eq 7, 3) := by decide +kernel
theorem dX6_readItem_104 : decode cX6_readItem 104 = .ok (.iconst 1, 1) := by decide +kernel
theorem dX6_readItem_105 : decode cX6_readItem 105 = .ok (.goto 4, 3) := by decide +kernel
theorem dX6_readItem_108 : decode cX6_readItem 108 = .ok (.iconst 0, 1) := by decide +kernel
theorem dX6_readItem_109 : decode cX6_readItem 109 = .ok (.ireturn, 1) := by decide +kernel
theorem dX6_readItem_110 : decode cX6_readItem 110 = .ok (.aload_n 0, 1) := by decide +kernel
theorem dX6_readItem_111 : decode cX6_readItem 111 = .ok (.aload_n 1, 1) := by decide +kernel
theorem dX6_readItem_112 : decode cX6_readItem 112 = .ok (.invokevirtual 57, 3) := by decide +kernel
theorem dX6_readItem_115 : decode cX6_readItem 115 = .ok (.ifCond .eq 14, 3) := by decide +kernel
theorem dX6_readItem_118 : decode cX6_readItem 118 = .ok (.aload_n 0, 1) := by decide +kernel
theorem dX6_readItem_119 : decode cX6_readItem 119 = .ok (.invokevirtual 50, 3) := by decide +kernel
theorem dX6_readItem_122 : decode cX6_readItem 122 = .ok (.ifCond .eq 7, 3) := by decide +kernel
theorem dX6_readItem_125 : decode cX6_readItem 125 = .ok (.iconst 1, 1) := by decide +kernel
theorem dX6_readItem_126 : decode cX6_readItem 126 = .ok (.goto 4, 3) := by decide +kernel
theorem dX6_readItem_129 : decode cX6_readItem 129 = .ok (.iconst 0, 1) := by decide +kernel
theorem dX6_readItem_130 : decode cX6_readItem 130 = .ok (.ireturn, 1) := by decide +kernel
theorem dX6_readItem_131 : decode cX6_readItem 131 = .ok (.aload_n 0, 1) := by decide +kernel
theorem dX6_readItem_132 : decode cX6_readItem 132 = .ok (.aload_n 1, 1) := by decide +kernel
theorem dX6_readItem_133 : decode cX6_readItem 133 = .ok (.invokevirtual 60, 3) := by decide +kernel
theorem dX6_readItem_136 : decode cX6_readItem 136 = .ok (.ifCond .eq 14, 3) := by decide +kernel
theorem dX6_readItem_139 : decode cX6_readItem 139 = .ok (.aload_n 0, 1) := by decide +kernel
theorem dX6_readItem_140 : decode cX6_readItem 140 = .ok (.invokevirtual 50, 3) := by decide +kernel
theorem dX6_readItem_143 : decode cX6_readItem 143 = .ok (.ifCond .eq 7, 3) := by decide +kernel
theorem dX6_readItem_146 : decode cX6_readItem 146 = .ok (.iconst 1, 1) := by decide +kernel
theorem dX6_readItem_147 : decode cX6_readItem 147 = .ok (.goto 4, 3) := by decide +kernel
theorem dX6_readItem_150 : decode cX6_readItem 150 = .ok (.iconst 0, 1) := by decide +kernel
theorem dX6_readItem_151 : decode cX6_readItem 151 = .ok (.ireturn, 1) := by decide +kernel
theorem dX6_readItem_152 : decode cX6_readItem 152 = .ok (.aload_n 0, 1) := by decide +kernel
theorem dX6_readItem_153 : decode cX6_readItem 153 = .ok (.aload_n 1, 1) := by decide +kernel
theorem dX6_readItem_154 : decode cX6_readItem 154 = .ok (.invokevirtual 63, 3) := by decide +kernel
theorem dX6_readItem_157 : decode cX6_readItem 157 = .ok (.ifCond .eq 14, 3) := by decide +kernel
theorem dX6_readItem_160 : decode cX6_readItem 160 = .ok (.aload_n 0, 1) := by decide +kernel
theorem dX6_readItem_161 : decode cX6_readItem 161 = .ok (.invokevirtual 50, 3) := by decide +kernel
theorem dX6_readItem_164 : decode cX6_readItem 164 = .ok (.ifCond .eq 7, 3) := by decide +kernel
theorem dX6_readItem_167 : decode cX6_readItem 167 = .ok (.iconst 1, 1) := by decide +kernel
theorem dX6_readItem_168 : decode cX6_readItem 168 = .ok (.goto 4, 3) := by decide +kernel
theorem dX6_readItem_171 : decode cX6_readItem 171 = .ok (.iconst 0, 1) := by decide +kernel
theorem dX6_readItem_172 : decode cX6_readItem 172 = .ok (.ireturn, 1) := by decide +kernel
theorem dX6_readItem_173 : decode cX6_readItem 173 = .ok (.aload_n 0, 1) := by decide +kernel
theorem dX6_readItem_174 : decode cX6_readItem 174 = .ok (.aload_n 1, 1) := by decide +kernel
theorem dX6_readItem_175 : decode cX6_readItem 175 = .ok (.invokevirtual 66, 3) := by decide +kernel
theorem dX6_readItem_178 : decode cX6_readItem 178 = .ok (.ifCond .eq 14, 3) := by decide +kernel
theorem dX6_readItem_181 : decode cX6_readItem 181 = .ok (.aload_n 0, 1) := by decide +kernel
theorem dX6_readItem_182 : decode cX6_readItem 182 = .ok (.invokevirtual 50, 3) := by decide +kernel
theorem dX6_readItem_185 : decode cX6_readItem 185 = .ok (.ifCond .eq 7, 3) := by decide +kernel
theorem dX6_readItem_188 : decode cX6_readItem 188 = .ok (.iconst 1, 1) := by decide +kernel
theorem dX6_readItem_189 : decode cX6_readItem 189 = .ok (.goto 4, 3) := by decide +kernel
theorem dX6_readItem_192 : decode cX6_readItem 192 = .ok (.iconst 0, 1) := by decide +kernel
theorem dX6_readItem_193 : decode cX6_readItem 193 = .ok (.ireturn, 1) := by decide +kernel
theorem dX6_readItem_194 : decode cX6_readItem 194 = .ok (.aload_n 0, 1) := by decide +kernel
theorem dX6_readItem_195 : decode cX6_readItem 195 = .ok (.aload_n 0, 1) := by decide +kernel
theorem dX6_readItem_196 : decode cX6_readItem 196 = .ok (.getfield 27, 3) := by decide +kernel
theorem dX6_readItem_199 : decode cX6_readItem 199 = .ok (.invokevirtual 69, 3) := by decide +kernel
theorem dX6_readItem_202 : decode cX6_readItem 202 = .ok (.ireturn, 1) := by decide +kernel
theorem dX6_readRoom_0 : decode cX6_readRoom 0 = .ok (.aload_n 1, 1) := by decide +kernel
theorem dX6_readRoom_1 : decode cX6_readRoom 1 = .ok (.getfield 73, 3) := by decide +kernel
theorem dX6_readRoom_4 : decode cX6_readRoom 4 = .ok (.istore_n 2, 1) := by decide +kernel
theorem dX6_readRoom_5 : decode cX6_readRoom 5 = .ok (.iload_n 2, 1) := by decide +kernel
theorem dX6_readRoom_6 : decode cX6_readRoom 6 = .ok (.iconst 5, 1) := by decide +kernel
theorem dX6_readRoom_7 : decode cX6_readRoom 7 = .ok (.if_icmp .lt 12, 3) := by decide +kernel
theorem dX6_readRoom_10 : decode cX6_readRoom 10 = .ok (.aload_n 0, 1) := by decide +kernel
theorem dX6_readRoom_11 : decode cX6_readRoom 11 = .ok (.aload_n 0, 1) := by decide +kernel
theorem dX6_readRoom_12 : decode cX6_readRoom 12 = .ok (.getfield 27, 3) := by decide +kernel
theorem dX6_readRoom_15 : decode cX6_readRoom 15 = .ok (.invokevirtual 69, 3) := by decide +kernel
theorem dX6_readRoom_18 : decode cX6_readRoom 18 = .ok (.ireturn, 1) := by decide +kernel
theorem dX6_readRoom_19 : decode cX6_readRoom 19 = .ok (.aload_n 0, 1) := by decide +kernel
theorem dX6_readRoom_20 : decode cX6_readRoom 20 = .ok (.dup, 1) := by decide +kernel
theorem dX6_readRoom_21 : decode cX6_readRoom 21 = .ok (.getfield 27, 3) := by decide +kernel
theorem dX6_readRoom_24 : decode cX6_readRoom 24 = .ok (.iconst 1, 1) := by decide +kernel
theorem dX6_readRoom_25 : decode cX6_readRoom 25 = .ok (.iadd, 1) := by decide +kernel
theorem dX6_readRoom_26 : decode cX6_readRoom 26 = .ok (.putfield 27, 3) := by decide +kernel
theorem dX6_readRoom_29 : decode cX6_readRoom 29 = .ok (.aload_n 1, 1) := by decide +kernel
theorem dX6_readRoom_30 : decode cX6_readRoom 30 = .ok (.getfield 76, 3) := by decide +kernel
theorem dX6_readRoom_33 : decode cX6_readRoom 33 = .ok (.iload_n 2, 1) := by decide +kernel
theorem dX6_readRoom_34 : decode cX6_readRoom 34 = .ok (.aload_n 0, 1) := by decide +kernel
theorem dX6_readRoom_35 : decode cX6_readRoom 35 = .ok (.iconst 0, 1) := by decide +kernel
theorem dX6_readRoom_36 : decode cX6_readRoom 36 = .ok (.bipush 30, 2) := by decide +kernel
theorem dX6_readRoom_38 : decode cX6_readRoom 38 = .ok (.invokevirtual 79, 3) := by decide +kernel
theorem dX6_readRoom_41 : decode cX6_readRoom 41 = .ok (.iastore, 1) := by decide +kernel
theorem dX6_readRoom_42 : decode cX6_readRoom 42 = .ok (.aload_n 1, 1) := by decide +kernel
theorem dX6_readRoom_43 : decode cX6_readRoom 43 = .ok (.getfield 76, 3) := by decide +kernel
theorem dX6_readRoom_46 : decode cX6_readRoom 46 = .ok (.iload_n 2, 1) := by decide +kernel
theorem dX6_readRoom_47 : decode cX6_readRoom 47 = .ok (.iaload, 1) := by decide +kernel
theorem dX6_readRoom_48 : decode cX6_readRoom 48 = .ok (.ifCond .ge 5, 3) := by decide +kernel
theorem dX6_readRoom_51 : decode cX6_readRoom 51 = .ok (.iconst 0, 1) := by decide +kernel
theorem dX6_readRoom_52 : decode cX6_readRoom 52 = .ok (.ireturn, 1) := by decide +kernel
theorem dX6_readRoom_53 : decode cX6_readRoom 53 = .ok (.aload_n 1, 1) := by decide +kernel
theorem dX6_readRoom_54 : decode cX6_readRoom 54 = .ok (.getfield 83, 3) := by decide +kernel
theorem dX6_readRoom_57 : decode cX6_readRoom 57 = .ok (.iload_n 2, 1) := by decide +kernel
theorem dX6_readRoom_58 : decode cX6_readRoom 58 = .ok (.aload_n 0, 1) := by decide +kernel
theorem dX6_readRoom_59 : decode cX6_readRoom 59 = .ok (.iconst 0, 1) := by decide +kernel
theorem dX6_readRoom_60 : decode cX6_readRoom 60 = .ok (.iconst 3, 1) := by decide +kernel
theorem dX6_readRoom_61 : decode cX6_readRoom 61 = .ok (.invokevirtual 79, 3) := by decide +kernel
theorem dX6_readRoom_64 : decode cX6_readRoom 64 = .ok (.iastore, 1) := by decide +kernel
theorem dX6_readRoom_65 : decode cX6_readRoom 65 = .ok (.aload_n 1, 1) := by decide +kernel
theorem dX6_readRoom_66 : decode cX6_readRoom 66 = .ok (.getfield 83, 3) := by decide +kernel
theorem dX6_readRoom_69 : decode cX6_readRoom 69 = .ok (.iload_n 2, 1) := by decide +kernel
theorem dX6_readRoom_70 : decode cX6_readRoom 70 = .ok (.iaload, 1) := by decide +kernel
theorem dX6_readRoom_71 : decode cX6_readRoom 71 = .ok (.ifCond .ge 5, 3) := by decide +kernel
theorem dX6_readRoom_74 : decode cX6_readRoom 74 = .ok (.iconst 0, 1) := by decide +kernel
theorem dX6_readRoom_75 : decode cX6_readRoom 75 = .ok (.ireturn, 1) := by decide +kernel
theorem dX6_readRoom_76 : decode cX6_readRoom 76 = .ok (.aload_n 1, 1) := by decide +kernel
theorem dX6_readRoom_77 : decode cX6_readRoom 77 = .ok (.getfield 86, 3) := by decide +kernel
theorem dX6_readRoom_80 : decode cX6_readRoom 80 = .ok (.iload_n 2, 1) := by decide +kernel
theorem dX6_readRoom_81 : decode cX6_readRoom 81 = .ok (.aload_n 0, 1) := by decide +kernel
theorem dX6_readRoom_82 : decode cX6_readRoom 82 = .ok (.iconst 0, 1) := by decide +kernel
theorem dX6_readRoom_83 : decode cX6_readRoom 83 = .ok (.bipush 99, 2) := by decide +kernel
theorem dX6_readRoom_85 : decode cX6_readRoom 85 = .ok (.invokevirtual 79, 3) := by decide +kernel
theorem dX6_readRoom_88 : decode cX6_readRoom 88 = .ok (.iastore, 1) := by decide +kernel
theorem dX6_readRoom_89 : decode cX6_readRoom 89 = .ok (.aload_n 1, 1) := by decide +kernel
theorem dX6_readRoom_90 : decode cX6_readRoom 90 = .ok (.dup, 1) := by decide +kernel
theorem dX6_readRoom_91 : decode cX6_readRoom 91 = .ok (.getfield 73, 3) := by decide +kernel
theorem dX6_readRoom_94 : decode cX6_readRoom 94 = .ok (.iconst 1, 1) := by decide +kernel
theorem dX6_readRoom_95 : decode cX6_readRoom 95 = .ok (.iadd, 1) := by decide +kernel
theorem dX6_readRoom_96 : decode cX6_readRoom 96 = .ok (.putfield 73, 3) := by decide +kernel
theorem dX6_readRoom_99 : decode cX6_readRoom 99 = .ok (.aload_n 1, 1) := by decide +kernel
theorem dX6_readRoom_100 : decode cX6_readRoom 100 = .ok (.getfield 86, 3) := by decide +kernel
theorem dX6_readRoom_103 : decode cX6_readRoom 103 = .ok (.iload_n 2, 1) := by decide +kernel
theorem dX6_readRoom_104 : decode cX6_readRoom 104 = .ok (.iaload, 1) := by decide +kernel
theorem dX6_readRoom_105 : decode cX6_readRoom 105 = .ok (.ifCond .lt 7, 3) := by decide +kernel
theorem dX6_readRoom_108 : decode cX6_readRoom 108 = .ok (.iconst 1, 1) := by decide +kernel
theorem dX6_readRoom_109 : decode cX6_readRoom 109 = .ok (.goto 4, 3) := by decide +kernel
theorem dX6_readRoom_112 : decode cX6_readRoom 112 = .ok (.iconst 0, 1) := by decide +kernel
theorem dX6_readRoom_113 : decode cX6_readRoom 113 = .ok (.ireturn, 1) := by decide +kernel
theorem dX6_readDoing_0 : decode cX6_readDoing 0 = .ok (.aload_n 1, 1) := by decide +kernel
theorem dX6_readDoing_1 : decode cX6_readDoing 1 = .ok (.getfield 89, 3) := by decide +kernel
theorem dX6_readDoing_4 : decode cX6_readDoing 4 = .ok (.istore_n 2, 1) := by decide +kernel
theorem dX6_readDoing_5 : decode cX6_readDoing 5 = .ok (.iload_n 2, 1) := by decide +kernel
theorem dX6_readDoing_6 : decode cX6_readDoing 6 = .ok (.iconst 5, 1) := by decide +kernel
theorem dX6_readDoing_7 : decode cX6_readDoing 7 = .ok (.if_icmp .lt 12, 3) := by decide +kernel
theorem dX6_readDoing_10 : decode cX6_readDoing 10 = .ok (.aload_n 0, 1) := by decide +kernel
theorem dX6_readDoing_11 : decode cX6_readDoing 11 = .ok (.aload_n 0, 1) := by decide +kernel
theorem dX6_readDoing_12 : decode cX6_readDoing 12 = .ok (.getfield 27, 3) := by decide +kernel
theorem dX6_readDoing_15 : decode cX6_readDoing 15 = .ok (.invokevirtual 69, 3) := by decide +kernel
theorem dX6_readDoing_18 : decode cX6_readDoing 18 = .ok (.ireturn, 1) := by decide +kernel
theorem dX6_readDoing_19 : decode cX6_readDoing 19 = .ok (.aload_n 0, 1) := by decide +kernel
theorem dX6_readDoing_20 : decode cX6_readDoing 20 = .ok (.dup, 1) := by decide +kernel
theorem dX6_readDoing_21 : decode cX6_readDoing 21 = .ok (.getfield 27, 3) := by decide +kernel
theorem dX6_readDoing_24 : decode cX6_readDoing 24 = .ok (.iconst 1, 1) := by decide +kernel
theorem dX6_readDoing_25 : decode cX6_readDoing 25 = .ok (.iadd, 1) := by decide +kernel
theorem dX6_readDoing_26 : decode cX6_readDoing 26 = .ok (.putfield 27, 3) := by decide +kernel
theorem dX6_readDoing_29 : decode cX6_readDoing 29 = .ok (.aload_n 1, 1) := by decide +kernel
theorem dX6_readDoing_30 : decode cX6_readDoing 30 = .ok (.getfield 92, 3) := by decide +kernel
theorem dX6_readDoing_33 : decode cX6_readDoing 33 = .ok (.iload_n 2, 1) := by decide +kernel
theorem dX6_readDoing_34 : decode cX6_readDoing 34 = .ok (.aload_n 0, 1) := by decide +kernel
theorem dX6_readDoing_35 : decode cX6_readDoing 35 = .ok (.iconst 0, 1) := by decide +kernel
theorem dX6_readDoing_36 : decode cX6_readDoing 36 = .ok (.bipush 9, 2) := by decide +kernel
theorem dX6_readDoing_38 : decode cX6_readDoing 38 = .ok (.invokevirtual 79, 3) := by decide +kernel
theorem dX6_readDoing_41 : decode cX6_readDoing 41 = .ok (.iastore, 1) := by decide +kernel
theorem dX6_readDoing_42 : decode cX6_readDoing 42 = .ok (.aload_n 1, 1) := by decide +kernel
theorem dX6_readDoing_43 : decode cX6_readDoing 43 = .ok (.getfield 92, 3) := by decide +kernel
theorem dX6_readDoing_46 : decode cX6_readDoing 46 = .ok (.iload_n 2, 1) := by decide +kernel
theorem dX6_readDoing_47 : decode cX6_readDoing 47 = .ok (.iaload, 1) := by decide +kernel
theorem dX6_readDoing_48 : decode cX6_readDoing 48 = .ok (.ifCond .ge 5, 3) := by decide +kernel
theorem dX6_readDoing_51 : decode cX6_readDoing 51 = .ok (.iconst 0, 1) := by decide +kernel
theorem dX6_readDoing_52 : decode cX6_readDoing 52 = .ok (.ireturn, 1) := by decide +kernel
theorem dX6_readDoing_53 : decode cX6_readDoing 53 = .ok (.aload_n 1, 1) := by decide +kernel
theorem dX6_readDoing_54 : decode cX6_readDoing 54 = .ok (.getfield 95, 3) := by decide +kernel
theorem dX6_readDoing_57 : decode cX6_readDoing 57 = .ok (.iload_n 2, 1) := by decide +kernel
theorem dX6_readDoing_58 : decode cX6_readDoing 58 = .ok (.aload_n 0, 1) := by decide +kernel
theorem dX6_readDoing_59 : decode cX6_readDoing 59 = .ok (.iconst 1, 1) := by decide +kernel
theorem dX6_readDoing_60 : decode cX6_readDoing 60 = .ok (.bipush 30, 2) := by decide +kernel
theorem dX6_readDoing_62 : decode cX6_readDoing 62 = .ok (.invokevirtual 79, 3) := by decide +kernel
theorem dX6_readDoing_65 : decode cX6_readDoing 65 = .ok (.iastore, 1) := by decide +kernel
theorem dX6_readDoing_66 : decode cX6_readDoing 66 = .ok (.aload_n 1, 1) := by decide +kernel
theorem dX6_readDoing_67 : decode cX6_readDoing 67 = .ok (.dup, 1) := by decide +kernel
theorem dX6_readDoing_68 : decode cX6_readDoing 68 = .ok (.getfield 89, 3) := by decide +kernel
theorem dX6_readDoing_71 : decode cX6_readDoing 71 = .ok (.iconst 1, 1) := by decide +kernel
theorem dX6_readDoing_72 : decode cX6_readDoing 72 = .ok (.iadd, 1) := by decide +kernel
theorem dX6_readDoing_73 : decode cX6_readDoing 73 = .ok (.putfield 89, 3) := by decide +kernel
theorem dX6_readDoing_76 : decode cX6_readDoing 76 = .ok (.aload_n 1, 1) := by decide +kernel
theorem dX6_readDoing_77 : decode cX6_readDoing 77 = .ok (.getfield 95, 3) := by decide +kernel
theorem dX6_readDoing_80 : decode cX6_readDoing 80 = .ok (.iload_n 2, 1) := by decide +kernel
theorem dX6_readDoing_81 : decode cX6_readDoing 81 = .ok (.iaload, 1) := by decide +kernel
theorem dX6_readDoing_82 : decode cX6_readDoing 82 = .ok (.ifCond .lt 7, 3) := by decide +kernel
theorem dX6_readDoing_85 : decode cX6_readDoing 85 = .ok (.iconst 1, 1) := by decide +kernel
theorem dX6_readDoing_86 : decode cX6_readDoing 86 = .ok (.goto 4, 3) := by decide +kernel
theorem dX6_readDoing_89 : decode cX6_readDoing 89 = .ok (.iconst 0, 1) := by decide +kernel
theorem dX6_readDoing_90 : decode cX6_readDoing 90 = .ok (.ireturn, 1) := by decide +kernel
theorem dX6_readSuspect_0 : decode cX6_readSuspect 0 = .ok (.aload_n 1, 1) := by decide +kernel
theorem dX6_readSuspect_1 : decode cX6_readSuspect 1 = .ok (.getfield 98, 3) := by decide +kernel
theorem dX6_readSuspect_4 : decode cX6_readSuspect 4 = .ok (.istore_n 2, 1) := by decide +kernel
theorem dX6_readSuspect_5 : decode cX6_readSuspect 5 = .ok (.iload_n 2, 1) := by decide +kernel
theorem dX6_readSuspect_6 : decode cX6_readSuspect 6 = .ok (.bipush 6, 2) := by decide +kernel
theorem dX6_readSuspect_8 : decode cX6_readSuspect 8 = .ok (.if_icmp .lt 12, 3) := by decide +kernel
theorem dX6_readSuspect_11 : decode cX6_readSuspect 11 = .ok (.aload_n 0, 1) := by decide +kernel
theorem dX6_readSuspect_12 : decode cX6_readSuspect 12 = .ok (.aload_n 0, 1) := by decide +kernel
theorem dX6_readSuspect_13 : decode cX6_readSuspect 13 = .ok (.getfield 27, 3) := by decide +kernel
theorem dX6_readSuspect_16 : decode cX6_readSuspect 16 = .ok (.invokevirtual 69, 3) := by decide +kernel
theorem dX6_readSuspect_19 : decode cX6_readSuspect 19 = .ok (.ireturn, 1) := by decide +kernel
theorem dX6_readSuspect_20 : decode cX6_readSuspect 20 = .ok (.aload_n 0, 1) := by decide +kernel
theorem dX6_readSuspect_21 : decode cX6_readSuspect 21 = .ok (.dup, 1) := by decide +kernel
theorem dX6_readSuspect_22 : decode cX6_readSuspect 22 = .ok (.getfield 27, 3) := by decide +kernel
theorem dX6_readSuspect_25 : decode cX6_readSuspect 25 = .ok (.iconst 1, 1) := by decide +kernel
theorem dX6_readSuspect_26 : decode cX6_readSuspect 26 = .ok (.iadd, 1) := by decide +kernel
theorem dX6_readSuspect_27 : decode cX6_readSuspect 27 = .ok (.putfield 27, 3) := by decide +kernel
theorem dX6_readSuspect_30 : decode cX6_readSuspect 30 = .ok (.aload_n 1, 1) := by decide +kernel
theorem dX6_readSuspect_31 : decode cX6_readSuspect 31 = .ok (.getfield 101, 3) := by decide +kernel
theorem dX6_readSuspect_34 : decode cX6_readSuspect 34 = .ok (.iload_n 2, 1) := by decide +kernel
theorem dX6_readSuspect_35 : decode cX6_readSuspect 35 = .ok (.aload_n 0, 1) := by decide +kernel
theorem dX6_readSuspect_36 : decode cX6_readSuspect 36 = .ok (.iconst 0, 1) := by decide +kernel
theorem dX6_readSuspect_37 : decode cX6_readSuspect 37 = .ok (.bipush 31, 2) := by decide +kernel
theorem dX6_readSuspect_39 : decode cX6_readSuspect 39 = .ok (.invokevirtual 79, 3) := by decide +kernel
theorem dX6_readSuspect_42 : decode cX6_readSuspect 42 = .ok (.iastore, 1) := by decide +kernel
theorem dX6_readSuspect_43 : decode cX6_readSuspect 43 = .ok (.aload_n 1, 1) := by decide +kernel
theorem dX6_readSuspect_44 : decode cX6_readSuspect 44 = .ok (.dup, 1) := by decide +kernel
theorem dX6_readSuspect_45 : decode cX6_readSuspect 45 = .ok (.getfield 98, 3) := by decide +kernel
theorem dX6_readSuspect_48 : decode cX6_readSuspect 48 = .ok (.iconst 1, 1) := by decide +kernel
theorem dX6_readSuspect_49 : decode cX6_readSuspect 49 = .ok (.iadd, 1) := by decide +kernel
theorem dX6_readSuspect_50 : decode cX6_readSuspect 50 = .ok (.putfield 98, 3) := by decide +kernel
theorem dX6_readSuspect_53 : decode cX6_readSuspect 53 = .ok (.aload_n 1, 1) := by decide +kernel
theorem dX6_readSuspect_54 : decode cX6_readSuspect 54 = .ok (.getfield 101, 3) := by decide +kernel
theorem dX6_readSuspect_57 : decode cX6_readSuspect 57 = .ok (.iload_n 2, 1) := by decide +kernel
theorem dX6_readSuspect_58 : decode cX6_readSuspect 58 = .ok (.iaload, 1) := by decide +kernel
theorem dX6_readSuspect_59 : decode cX6_readSuspect 59 = .ok (.ifCond .lt 7, 3) := by decide +kernel
theorem dX6_readSuspect_62 : decode cX6_readSuspect 62 = .ok (.iconst 1, 1) := by decide +kernel
theorem dX6_readSuspect_63 : decode cX6_readSuspect 63 = .ok (.goto 4, 3) := by decide +kernel
theorem dX6_readSuspect_66 : decode cX6_readSuspect 66 = .ok (.iconst 0, 1) := by decide +kernel
theorem dX6_readSuspect_67 : decode cX6_readSuspect 67 = .ok (.ireturn, 1) := by decide +kernel
theorem dX6_readCulprit_0 : decode cX6_readCulprit 0 = .ok (.aload_n 0, 1) := by decide +kernel
theorem dX6_readCulprit_1 : decode cX6_readCulprit 1 = .ok (.getfield 30, 3) := by decide +kernel
theorem dX6_readCulprit_4 : decode cX6_readCulprit 4 = .ok (.ifCond .eq 12, 3) := by decide +kernel
theorem dX6_readCulprit_7 : decode cX6_readCulprit 7 = .ok (.aload_n 0, 1) := by decide +kernel
theorem dX6_readCulprit_8 : decode cX6_readCulprit 8 = .ok (.aload_n 0, 1) := by decide +kernel
theorem dX6_readCulprit_9 : decode cX6_readCulprit 9 = .ok (.getfield 27, 3) := by decide +kernel
theorem dX6_readCulprit_12 : decode cX6_readCulprit 12 = .ok (.invokevirtual 69, 3) := by decide +kernel
theorem dX6_readCulprit_15 : decode cX6_readCulprit 15 = .ok (.ireturn, 1) := by decide +kernel
theorem dX6_readCulprit_16 : decode cX6_readCulprit 16 = .ok (.aload_n 0, 1) := by decide +kernel
theorem dX6_readCulprit_17 : decode cX6_readCulprit 17 = .ok (.iconst 1, 1) := by decide +kernel
theorem dX6_readCulprit_18 : decode cX6_readCulprit 18 = .ok (.putfield 30, 3) := by decide +kernel
theorem dX6_readCulprit_21 : decode cX6_readCulprit 21 = .ok (.aload_n 0, 1) := by decide +kernel
theorem dX6_readCulprit_22 : decode cX6_readCulprit 22 = .ok (.dup, 1) := by decide +kernel
theorem dX6_readCulprit_23 : decode cX6_readCulprit 23 = .ok (.getfield 27, 3) := by decide +kernel
theorem dX6_readCulprit_26 : decode cX6_readCulprit 26 = .ok (.iconst 1, 1) := by decide +kernel
theorem dX6_readCulprit_27 : decode cX6_readCulprit 27 = .ok (.iadd, 1) := by decide +kernel
theorem dX6_readCulprit_28 : decode cX6_readCulprit 28 = .ok (.putfield 27, 3) := by decide +kernel
theorem dX6_readCulprit_31 : decode cX6_readCulprit 31 = .ok (.aload_n 1, 1) := by decide +kernel
theorem dX6_readCulprit_32 : decode cX6_readCulprit 32 = .ok (.aload_n 0, 1) := by decide +kernel
theorem dX6_readCulprit_33 : decode cX6_readCulprit 33 = .ok (.iconst 0, 1) := by decide +kernel
theorem dX6_readCulprit_34 : decode cX6_readCulprit 34 = .ok (.aload_n 1, 1) := by decide +kernel
theorem dX6_readCulprit_35 : decode cX6_readCulprit 35 = .ok (.getfield 98, 3) := by decide +kernel
theorem dX6_readCulprit_38 : decode cX6_readCulprit 38 = .ok (.iconst 1, 1) := by decide +kernel
theorem dX6_readCulprit_39 : decode cX6_readCulprit 39 = .ok (.isub, 1) := by decide +kernel
theorem dX6_readCulprit_40 : decode cX6_readCulprit 40 = .ok (.invokevirtual 79, 3) := by decide +kernel
theorem dX6_readCulprit_43 : decode cX6_readCulprit 43 = .ok (.putfield 104, 3) := by decide +kernel
theorem dX6_readCulprit_46 : decode cX6_readCulprit 46 = .ok (.aload_n 1, 1) := by decide +kernel
theorem dX6_readCulprit_47 : decode cX6_readCulprit 47 = .ok (.getfield 104, 3) := by decide +kernel
theorem dX6_readCulprit_50 : decode cX6_readCulprit 50 = .ok (.ifCond .lt 7, 3) := by decide +kernel
theorem dX6_readCulprit_53 : decode cX6_readCulprit 53 = .ok (.iconst 1, 1) := by decide +kernel
theorem dX6_readCulprit_54 : decode cX6_readCulprit 54 = .ok (.goto 4, 3) := by decide +kernel
theorem dX6_readCulprit_57 : decode cX6_readCulprit 57 = .ok (.iconst 0, 1) := by decide +kernel
theorem dX6_readCulprit_58 : decode cX6_readCulprit 58 = .ok (.ireturn, 1) := by decide +kernel
theorem dX6_readWalk_0 : decode cX6_readWalk 0 = .ok (.aload_n 0, 1) := by decide +kernel
theorem dX6_readWalk_1 : decode cX6_readWalk 1 = .ok (.getfield 34, 3) := by decide +kernel
theorem dX6_readWalk_4 : decode cX6_readWalk 4 = .ok (.ifCond .eq 12, 3) := by decide +kernel
theorem dX6_readWalk_7 : decode cX6_readWalk 7 = .ok (.aload_n 0, 1) := by decide +kernel
theorem dX6_readWalk_8 : decode cX6_readWalk 8 = .ok (.aload_n 0, 1) := by decide +kernel
theorem dX6_readWalk_9 : decode cX6_readWalk 9 = .ok (.getfield 27, 3) := by decide +kernel
theorem dX6_readWalk_12 : decode cX6_readWalk 12 = .ok (.invokevirtual 69, 3) := by decide +kernel
theorem dX6_readWalk_15 : decode cX6_readWalk 15 = .ok (.ireturn, 1) := by decide +kernel
theorem dX6_readWalk_16 : decode cX6_readWalk 16 = .ok (.aload_n 0, 1) := by decide +kernel
theorem dX6_readWalk_17 : decode cX6_readWalk 17 = .ok (.iconst 1, 1) := by decide +kernel
theorem dX6_readWalk_18 : decode cX6_readWalk 18 = .ok (.putfield 34, 3) := by decide +kernel
theorem dX6_readWalk_21 : decode cX6_readWalk 21 = .ok (.aload_n 0, 1) := by decide +kernel
theorem dX6_readWalk_22 : decode cX6_readWalk 22 = .ok (.dup, 1) := by decide +kernel
theorem dX6_readWalk_23 : decode cX6_readWalk 23 = .ok (.getfield 27, 3) := by decide +kernel
theorem dX6_readWalk_26 : decode cX6_readWalk 26 = .ok (.iconst 1, 1) := by decide +kernel
theorem dX6_readWalk_27 : decode cX6_readWalk 27 = .ok (.iadd, 1) := by decide +kernel
theorem dX6_readWalk_28 : decode cX6_readWalk 28 = .ok (.putfield 27, 3) := by decide +kernel
theorem dX6_readWalk_31 : decode cX6_readWalk 31 = .ok (.aload_n 1, 1) := by decide +kernel
theorem dX6_readWalk_32 : decode cX6_readWalk 32 = .ok (.aload_n 0, 1) := by decide +kernel
theorem dX6_readWalk_33 : decode cX6_readWalk 33 = .ok (.iconst 0, 1) := by decide +kernel
theorem dX6_readWalk_34 : decode cX6_readWalk 34 = .ok (.bipush 9, 2) := by decide +kernel
theorem dX6_readWalk_36 : decode cX6_readWalk 36 = .ok (.invokevirtual 79, 3) := by decide +kernel
theorem dX6_readWalk_39 : decode cX6_readWalk 39 = .ok (.putfield 107, 3) := by decide +kernel
theorem dX6_readWalk_42 : decode cX6_readWalk 42 = .ok (.aload_n 1, 1) := by decide +kernel
theorem dX6_readWalk_43 : decode cX6_readWalk 43 = .ok (.getfield 107, 3) := by decide +kernel
theorem dX6_readWalk_46 : decode cX6_readWalk 46 = .ok (.ifCond .lt 7, 3) := by decide +kernel
theorem dX6_readWalk_49 : decode cX6_readWalk 49 = .ok (.iconst 1, 1) := by decide +kernel
theorem dX6_readWalk_50 : decode cX6_readWalk 50 = .ok (.goto 4, 3) := by decide +kernel
theorem dX6_readWalk_53 : decode cX6_readWalk 53 = .ok (.iconst 0, 1) := by decide +kernel
theorem dX6_readWalk_54 : decode cX6_readWalk 54 = .ok (.ireturn, 1) := by decide +kernel
theorem dX6_readNight_0 : decode cX6_readNight 0 = .ok (.aload_n 0, 1) := by decide +kernel
theorem dX6_readNight_1 : decode cX6_readNight 1 = .ok (.getfield 37, 3) := by decide +kernel
theorem dX6_readNight_4 : decode cX6_readNight 4 = .ok (.ifCond .eq 12, 3) := by decide +kernel
theorem dX6_readNight_7 : decode cX6_readNight 7 = .ok (.aload_n 0, 1) := by decide +kernel
theorem dX6_readNight_8 : decode cX6_readNight 8 = .ok (.aload_n 0, 1) := by decide +kernel
theorem dX6_readNight_9 : decode cX6_readNight 9 = .ok (.getfield 27, 3) := by decide +kernel
theorem dX6_readNight_12 : decode cX6_readNight 12 = .ok (.invokevirtual 69, 3) := by decide +kernel
theorem dX6_readNight_15 : decode cX6_readNight 15 = .ok (.ireturn, 1) := by decide +kernel
theorem dX6_readNight_16 : decode cX6_readNight 16 = .ok (.aload_n 0, 1) := by decide +kernel
theorem dX6_readNight_17 : decode cX6_readNight 17 = .ok (.iconst 1, 1) := by decide +kernel
theorem dX6_readNight_18 : decode cX6_readNight 18 = .ok (.putfield 37, 3) := by decide +kernel
theorem dX6_readNight_21 : decode cX6_readNight 21 = .ok (.aload_n 0, 1) := by decide +kernel
theorem dX6_readNight_22 : decode cX6_readNight 22 = .ok (.dup, 1) := by decide +kernel
theorem dX6_readNight_23 : decode cX6_readNight 23 = .ok (.getfield 27, 3) := by decide +kernel
theorem dX6_readNight_26 : decode cX6_readNight 26 = .ok (.iconst 1, 1) := by decide +kernel
theorem dX6_readNight_27 : decode cX6_readNight 27 = .ok (.iadd, 1) := by decide +kernel
theorem dX6_readNight_28 : decode cX6_readNight 28 = .ok (.putfield 27, 3) := by decide +kernel
theorem dX6_readNight_31 : decode cX6_readNight 31 = .ok (.aload_n 1, 1) := by decide +kernel
theorem dX6_readNight_32 : decode cX6_readNight 32 = .ok (.aload_n 0, 1) := by decide +kernel
theorem dX6_readNight_33 : decode cX6_readNight 33 = .ok (.iconst 1, 1) := by decide +kernel
theorem dX6_readNight_34 : decode cX6_readNight 34 = .ok (.sipush 500, 3) := by decide +kernel
theorem dX6_readNight_37 : decode cX6_readNight 37 = .ok (.invokevirtual 79, 3) := by decide +kernel
theorem dX6_readNight_40 : decode cX6_readNight 40 = .ok (.putfield 110, 3) := by decide +kernel
theorem dX6_readNight_43 : decode cX6_readNight 43 = .ok (.aload_n 1, 1) := by decide +kernel
theorem dX6_readNight_44 : decode cX6_readNight 44 = .ok (.getfield 110, 3) := by decide +kernel
theorem dX6_readNight_47 : decode cX6_readNight 47 = .ok (.ifCond .lt 7, 3) := by decide +kernel
theorem dX6_readNight_50 : decode cX6_readNight 50 = .ok (.iconst 1, 1) := by decide +kernel
theorem dX6_readNight_51 : decode cX6_readNight 51 = .ok (.goto 4, 3) := by decide +kernel
theorem dX6_readNight_54 : decode cX6_readNight 54 = .ok (.iconst 0, 1) := by decide +kernel
theorem dX6_readNight_55 : decode cX6_readNight 55 = .ok (.ireturn, 1) := by decide +kernel
theorem dX6_readEnd_0 : decode cX6_readEnd 0 = .ok (.aload_n 0, 1) := by decide +kernel
theorem dX6_readEnd_1 : decode cX6_readEnd 1 = .ok (.invokevirtual 40, 3) := by decide +kernel
theorem dX6_readEnd_4 : decode cX6_readEnd 4 = .ok (.aload_n 0, 1) := by decide +kernel
theorem dX6_readEnd_5 : decode cX6_readEnd 5 = .ok (.getfield 27, 3) := by decide +kernel
theorem dX6_readEnd_8 : decode cX6_readEnd 8 = .ok (.aload_n 0, 1) := by decide +kernel
theorem dX6_readEnd_9 : decode cX6_readEnd 9 = .ok (.getfield 15, 3) := by decide +kernel
theorem dX6_readEnd_12 : decode cX6_readEnd 12 = .ok (.if_icmp .ge 17, 3) := by decide +kernel
theorem dX6_readEnd_15 : decode cX6_readEnd 15 = .ok (.aload_n 0, 1) := by decide +kernel
theorem dX6_readEnd_16 : decode cX6_readEnd 16 = .ok (.getfield 9, 3) := by decide +kernel
theorem dX6_readEnd_19 : decode cX6_readEnd 19 = .ok (.aload_n 0, 1) := by decide +kernel
theorem dX6_readEnd_20 : decode cX6_readEnd 20 = .ok (.getfield 27, 3) := by decide +kernel
theorem dX6_readEnd_23 : decode cX6_readEnd 23 = .ok (.iaload, 1) := by decide +kernel
theorem dX6_readEnd_24 : decode cX6_readEnd 24 = .ok (.bipush 59, 2) := by decide +kernel
theorem dX6_readEnd_26 : decode cX6_readEnd 26 = .ok (.if_icmp .eq 12, 3) := by decide +kernel
theorem dX6_readEnd_29 : decode cX6_readEnd 29 = .ok (.aload_n 0, 1) := by decide +kernel
theorem dX6_readEnd_30 : decode cX6_readEnd 30 = .ok (.aload_n 0, 1) := by decide +kernel
theorem dX6_readEnd_31 : decode cX6_readEnd 31 = .ok (.getfield 27, 3) := by decide +kernel
theorem dX6_readEnd_34 : decode cX6_readEnd 34 = .ok (.invokevirtual 69, 3) := by decide +kernel
theorem dX6_readEnd_37 : decode cX6_readEnd 37 = .ok (.ireturn, 1) := by decide +kernel
theorem dX6_readEnd_38 : decode cX6_readEnd 38 = .ok (.aload_n 0, 1) := by decide +kernel
theorem dX6_readEnd_39 : decode cX6_readEnd 39 = .ok (.dup, 1) := by decide +kernel
theorem dX6_readEnd_40 : decode cX6_readEnd 40 = .ok (.getfield 27, 3) := by decide +kernel
theorem dX6_readEnd_43 : decode cX6_readEnd 43 = .ok (.iconst 1, 1) := by decide +kernel
theorem dX6_readEnd_44 : decode cX6_readEnd 44 = .ok (.iadd, 1) := by decide +kernel
theorem dX6_readEnd_45 : decode cX6_readEnd 45 = .ok (.putfield 27, 3) := by decide +kernel
theorem dX6_readEnd_48 : decode cX6_readEnd 48 = .ok (.iconst 1, 1) := by decide +kernel
theorem dX6_readEnd_49 : decode cX6_readEnd 49 = .ok (.ireturn, 1) := by decide +kernel
theorem dX6_readNumber_0 : decode cX6_readNumber 0 = .ok (.aload_n 0, 1) := by decide +kernel
theorem dX6_readNumber_1 : decode cX6_readNumber 1 = .ok (.invokevirtual 40, 3) := by decide +kernel
theorem dX6_readNumber_4 : decode cX6_readNumber 4 = .ok (.aload_n 0, 1) := by decide +kernel
theorem dX6_readNumber_5 : decode cX6_readNumber 5 = .ok (.getfield 27, 3) := by decide +kernel
theorem dX6_readNumber_8 : decode cX6_readNumber 8 = .ok (.istore_n 3, 1) := by decide +kernel
theorem dX6_readNumber_9 : decode cX6_readNumber 9 = .ok (.iconst 0, 1) := by decide +kernel
theorem dX6_readNumber_10 : decode cX6_readNumber 10 = .ok (.istore 4, 2) := by decide +kernel
theorem dX6_readNumber_12 : decode cX6_readNumber 12 = .ok (.iload_n 3, 1) := by decide +kernel
theorem dX6_readNumber_13 : decode cX6_readNumber 13 = .ok (.istore 5, 2) := by decide +kernel
theorem dX6_readNumber_15 : decode cX6_readNumber 15 = .ok (.iload 5, 2) := by decide +kernel
theorem dX6_readNumber_17 : decode cX6_readNumber 17 = .ok (.aload_n 0, 1) := by decide +kernel
theorem dX6_readNumber_18 : decode cX6_readNumber 18 = .ok (.getfield 15, 3) := by decide +kernel
theorem dX6_readNumber_21 : decode cX6_readNumber 21 = .ok (.if_icmp .ge 54, 3) := by decide +kernel
theorem dX6_readNumber_24 : decode cX6_readNumber 24 = .ok (.aload_n 0, 1) := by decide +kernel
theorem dX6_readNumber_25 : decode cX6_readNumber 25 = .ok (.getfield 9, 3) := by decide +kernel
theorem dX6_readNumber_28 : decode cX6_readNumber 28 = .ok (.iload 5, 2) := by decide +kernel
theorem dX6_readNumber_30 : decode cX6_readNumber 30 = .ok (.iaload, 1) := by decide +kernel
theorem dX6_readNumber_31 : decode cX6_readNumber 31 = .ok (.invokestatic 113, 3) := by decide +kernel
theorem dX6_readNumber_34 : decode cX6_readNumber 34 = .ok (.ifCond .eq 41, 3) := by decide +kernel
theorem dX6_readNumber_37 : decode cX6_readNumber 37 = .ok (.iload 4, 2) := by decide +kernel
theorem dX6_readNumber_39 : decode cX6_readNumber 39 = .ok (.bipush 10, 2) := by decide +kernel
theorem dX6_readNumber_41 : decode cX6_readNumber 41 = .ok (.imul, 1) := by decide +kernel
theorem dX6_readNumber_42 : decode cX6_readNumber 42 = .ok (.aload_n 0, 1) := by decide +kernel
theorem dX6_readNumber_43 : decode cX6_readNumber 43 = .ok (.getfield 9, 3) := by decide +kernel
theorem dX6_readNumber_46 : decode cX6_readNumber 46 = .ok (.iload 5, 2) := by decide +kernel
theorem dX6_readNumber_48 : decode cX6_readNumber 48 = .ok (.iaload, 1) := by decide +kernel
theorem dX6_readNumber_49 : decode cX6_readNumber 49 = .ok (.iadd, 1) := by decide +kernel
theorem dX6_readNumber_50 : decode cX6_readNumber 50 = .ok (.bipush 48, 2) := by decide +kernel
theorem dX6_readNumber_52 : decode cX6_readNumber 52 = .ok (.isub, 1) := by decide +kernel
theorem dX6_readNumber_53 : decode cX6_readNumber 53 = .ok (.sipush 1000, 3) := by decide +kernel
theorem dX6_readNumber_56 : decode cX6_readNumber 56 = .ok (.invokestatic 116, 3) := by decide +kernel
theorem dX6_readNumber_59 : decode cX6_readNumber 59 = .ok (.istore 4, 2) := by decide +kernel
theorem dX6_readNumber_61 : decode cX6_readNumber 61 = .ok (.aload_n 0, 1) := by decide +kernel
theorem dX6_readNumber_62 : decode cX6_readNumber 62 = .ok (.iload 5, 2) := by decide +kernel
theorem dX6_readNumber_64 : decode cX6_readNumber 64 = .ok (.iconst 1, 1) := by decide +kernel
theorem dX6_readNumber_65 : decode cX6_readNumber 65 = .ok (.iadd, 1) := by decide +kernel
theorem dX6_readNumber_66 : decode cX6_readNumber 66 = .ok (.putfield 27, 3) := by decide +kernel
theorem dX6_readNumber_69 : decode cX6_readNumber 69 = .ok (.iinc 5 1, 3) := by decide +kernel
theorem dX6_readNumber_72 : decode cX6_readNumber 72 = .ok (.goto (-57), 3) := by decide +kernel
theorem dX6_readNumber_75 : decode cX6_readNumber 75 = .ok (.aload_n 0, 1) := by decide +kernel
theorem dX6_readNumber_76 : decode cX6_readNumber 76 = .ok (.getfield 27, 3) := by decide +kernel
theorem dX6_readNumber_79 : decode cX6_readNumber 79 = .ok (.iload_n 3, 1) := by decide +kernel
theorem dX6_readNumber_80 : decode cX6_readNumber 80 = .ok (.isub, 1) := by decide +kernel
theorem dX6_readNumber_81 : decode cX6_readNumber 81 = .ok (.iconst 1, 1) := by decide +kernel
theorem dX6_readNumber_82 : decode cX6_readNumber 82 = .ok (.if_icmp .le 18, 3) := by decide +kernel
theorem dX6_readNumber_85 : decode cX6_readNumber 85 = .ok (.aload_n 0, 1) := by decide +kernel
theorem dX6_readNumber_86 : decode cX6_readNumber 86 = .ok (.getfield 9, 3) := by decide +kernel
theorem dX6_readNumber_89 : decode cX6_readNumber 89 = .ok (.iload_n 3, 1) := by decide +kernel
theorem dX6_readNumber_90 : decode cX6_readNumber 90 = .ok (.iaload, 1) := by decide +kernel
theorem dX6_readNumber_91 : decode cX6_readNumber 91 = .ok (.bipush 48, 2) := by decide +kernel
theorem dX6_readNumber_93 : decode cX6_readNumber 93 = .ok (.if_icmp .ne 7, 3) := by decide +kernel
theorem dX6_readNumber_96 : decode cX6_readNumber 96 = .ok (.iconst 1, 1) := by decide +kernel
theorem dX6_readNumber_97 : decode cX6_readNumber 97 = .ok (.goto 4, 3) := by decide +kernel
theorem dX6_readNumber_100 : decode cX6_readNumber 100 = .ok (.iconst 0, 1) := by decide +kernel
theorem dX6_readNumber_101 : decode cX6_readNumber 101 = .ok (.istore 5, 2) := by decide +kernel
theorem dX6_readNumber_103 : decode cX6_readNumber 103 = .ok (.aload_n 0, 1) := by decide +kernel
theorem dX6_readNumber_104 : decode cX6_readNumber 104 = .ok (.getfield 27, 3) := by decide +kernel
theorem dX6_readNumber_107 : decode cX6_readNumber 107 = .ok (.iload_n 3, 1) := by decide +kernel
theorem dX6_readNumber_108 : decode cX6_readNumber 108 = .ok (.if_icmp .eq 20, 3) := by decide +kernel
theorem dX6_readNumber_111 : decode cX6_readNumber 111 = .ok (.iload 5, 2) := by decide +kernel
theorem dX6_readNumber_113 : decode cX6_readNumber 113 = .ok (.ifCond .ne 15, 3) := by decide +kernel
theorem dX6_readNumber_116 : decode cX6_readNumber 116 = .ok (.iload 4, 2) := by decide +kernel
theorem dX6_readNumber_118 : decode cX6_readNumber 118 = .ok (.iload_n 1, 1) := by decide +kernel
theorem dX6_readNumber_119 : decode cX6_readNumber 119 = .ok (.if_icmp .lt 9, 3) := by decide +kernel
theorem dX6_readNumber_122 : decode cX6_readNumber 122 = .ok (.iload 4, 2) := by decide +kernel
theorem dX6_readNumber_124 : decode cX6_readNumber 124 = .ok (.iload_n 2, 1) := by decide +kernel
theorem dX6_readNumber_125 : decode cX6_readNumber 125 = .ok (.if_icmp .le 10, 3) := by decide +kernel
theorem dX6_readNumber_128 : decode cX6_readNumber 128 = .ok (.aload_n 0, 1) := by decide +kernel
theorem dX6_readNumber_129 : decode cX6_readNumber 129 = .ok (.iload_n 3, 1) := by decide +kernel
theorem dX6_readNumber_130 : decode cX6_readNumber 130 = .ok (.putfield 19, 3) := by decide +kernel
theorem dX6_readNumber_133 : decode cX6_readNumber 133 = .ok (.iconst (-1), 1) := by decide +kernel
theorem dX6_readNumber_134 : decode cX6_readNumber 134 = .ok (.ireturn, 1) := by decide +kernel
theorem dX6_readNumber_135 : decode cX6_readNumber 135 = .ok (.iload 4, 2) := by decide +kernel
theorem dX6_readNumber_137 : decode cX6_readNumber 137 = .ok (.ireturn, 1) := by decide +kernel
theorem dX6_skipBlanks_0 : decode cX6_skipBlanks 0 = .ok (.aload_n 0, 1) := by decide +kernel
theorem dX6_skipBlanks_1 : decode cX6_skipBlanks 1 = .ok (.getfield 27, 3) := by decide +kernel
theorem dX6_skipBlanks_4 : decode cX6_skipBlanks 4 = .ok (.istore_n 1, 1) := by decide +kernel
theorem dX6_skipBlanks_5 : decode cX6_skipBlanks 5 = .ok (.iload_n 1, 1) := by decide +kernel
theorem dX6_skipBlanks_6 : decode cX6_skipBlanks 6 = .ok (.aload_n 0, 1) := by decide +kernel
theorem dX6_skipBlanks_7 : decode cX6_skipBlanks 7 = .ok (.getfield 15, 3) := by decide +kernel
theorem dX6_skipBlanks_10 : decode cX6_skipBlanks 10 = .ok (.if_icmp .ge 27, 3) := by decide +kernel
theorem dX6_skipBlanks_13 : decode cX6_skipBlanks 13 = .ok (.aload_n 0, 1) := by decide +kernel
theorem dX6_skipBlanks_14 : decode cX6_skipBlanks 14 = .ok (.getfield 9, 3) := by decide +kernel
theorem dX6_skipBlanks_17 : decode cX6_skipBlanks 17 = .ok (.iload_n 1, 1) := by decide +kernel
theorem dX6_skipBlanks_18 : decode cX6_skipBlanks 18 = .ok (.iaload, 1) := by decide +kernel
theorem dX6_skipBlanks_19 : decode cX6_skipBlanks 19 = .ok (.bipush 32, 2) := by decide +kernel
theorem dX6_skipBlanks_21 : decode cX6_skipBlanks 21 = .ok (.if_icmp .ne 16, 3) := by decide +kernel
theorem dX6_skipBlanks_24 : decode cX6_skipBlanks 24 = .ok (.aload_n 0, 1) := by decide +kernel
theorem dX6_skipBlanks_25 : decode cX6_skipBlanks 25 = .ok (.iload_n 1, 1) := by decide +kernel
theorem dX6_skipBlanks_26 : decode cX6_skipBlanks 26 = .ok (.iconst 1, 1) := by decide +kernel
theorem dX6_skipBlanks_27 : decode cX6_skipBlanks 27 = .ok (.iadd, 1) := by decide +kernel
theorem dX6_skipBlanks_28 : decode cX6_skipBlanks 28 = .ok (.putfield 27, 3) := by decide +kernel
theorem dX6_skipBlanks_31 : decode cX6_skipBlanks 31 = .ok (.iinc 1 1, 3) := by decide +kernel
theorem dX6_skipBlanks_34 : decode cX6_skipBlanks 34 = .ok (.goto (-29), 3) := by decide +kernel
theorem dX6_skipBlanks_37 : decode cX6_skipBlanks 37 = .ok (.return_, 1) := by decide +kernel
theorem dX6_failsAt_0 : decode cX6_failsAt 0 = .ok (.aload_n 0, 1) := by decide +kernel
theorem dX6_failsAt_1 : decode cX6_failsAt 1 = .ok (.iload_n 1, 1) := by decide +kernel
theorem dX6_failsAt_2 : decode cX6_failsAt 2 = .ok (.putfield 19, 3) := by decide +kernel
theorem dX6_failsAt_5 : decode cX6_failsAt 5 = .ok (.iconst 0, 1) := by decide +kernel
theorem dX6_failsAt_6 : decode cX6_failsAt 6 = .ok (.ireturn, 1) := by decide +kernel
theorem dX6_isDigit_0 : decode cX6_isDigit 0 = .ok (.iload_n 0, 1) := by decide +kernel
theorem dX6_isDigit_1 : decode cX6_isDigit 1 = .ok (.bipush 48, 2) := by decide +kernel
theorem dX6_isDigit_3 : decode cX6_isDigit 3 = .ok (.if_icmp .lt 13, 3) := by decide +kernel
theorem dX6_isDigit_6 : decode cX6_isDigit 6 = .ok (.iload_n 0, 1) := by decide +kernel
theorem dX6_isDigit_7 : decode cX6_isDigit 7 = .ok (.bipush 57, 2) := by decide +kernel
theorem dX6_isDigit_9 : decode cX6_isDigit 9 = .ok (.if_icmp .gt 7, 3) := by decide +kernel
theorem dX6_isDigit_12 : decode cX6_isDigit 12 = .ok (.iconst 1, 1) := by decide +kernel
theorem dX6_isDigit_13 : decode cX6_isDigit 13 = .ok (.goto 4, 3) := by decide +kernel
theorem dX6_isDigit_16 : decode cX6_isDigit 16 = .ok (.iconst 0, 1) := by decide +kernel
theorem dX6_isDigit_17 : decode cX6_isDigit 17 = .ok (.ireturn, 1) := by decide +kernel
theorem dX7_init_0 : decode cX7_init 0 = .ok (.aload_n 0, 1) := by decide +kernel
theorem dX7_init_1 : decode cX7_init 1 = .ok (.invokespecial 3, 3) := by decide +kernel
theorem dX7_init_4 : decode cX7_init 4 = .ok (.aload_n 0, 1) := by decide +kernel
theorem dX7_init_5 : decode cX7_init 5 = .ok (.iconst 5, 1) := by decide +kernel
theorem dX7_init_6 : decode cX7_init 6 = .ok (.newarray .int, 2) := by decide +kernel
theorem dX7_init_8 : decode cX7_init 8 = .ok (.putfield 9, 3) := by decide +kernel
theorem dX7_init_11 : decode cX7_init 11 = .ok (.aload_n 0, 1) := by decide +kernel
theorem dX7_init_12 : decode cX7_init 12 = .ok (.iconst 5, 1) := by decide +kernel
theorem dX7_init_13 : decode cX7_init 13 = .ok (.newarray .int, 2) := by decide +kernel
theorem dX7_init_15 : decode cX7_init 15 = .ok (.putfield 15, 3) := by decide +kernel
theorem dX7_init_18 : decode cX7_init 18 = .ok (.aload_n 0, 1) := by decide +kernel
theorem dX7_init_19 : decode cX7_init 19 = .ok (.bipush (-9), 2) := by decide +kernel
theorem dX7_init_21 : decode cX7_init 21 = .ok (.putfield 18, 3) := by decide +kernel
theorem dX7_init_24 : decode cX7_init 24 = .ok (.aload_n 0, 1) := by decide +kernel
theorem dX7_init_25 : decode cX7_init 25 = .ok (.bipush (-9), 2) := by decide +kernel
theorem dX7_init_27 : decode cX7_init 27 = .ok (.putfield 22, 3) := by decide +kernel
theorem dX7_init_30 : decode cX7_init 30 = .ok (.return_, 1) := by decide +kernel
theorem dX7_beginIn_0 : decode cX7_beginIn 0 = .ok (.aload_n 0, 1) := by decide +kernel
theorem dX7_beginIn_1 : decode cX7_beginIn 1 = .ok (.bipush (-9), 2) := by decide +kernel
theorem dX7_beginIn_3 : decode cX7_beginIn 3 = .ok (.putfield 18, 3) := by decide +kernel
theorem dX7_beginIn_6 : decode cX7_beginIn 6 = .ok (.aload_n 0, 1) := by decide +kernel
theorem dX7_beginIn_7 : decode cX7_beginIn 7 = .ok (.bipush (-9), 2) := by decide +kernel
theorem dX7_beginIn_9 : decode cX7_beginIn 9 = .ok (.putfield 22, 3) := by decide +kernel
theorem dX7_beginIn_12 : decode cX7_beginIn 12 = .ok (.aload_n 0, 1) := by decide +kernel
theorem dX7_beginIn_13 : decode cX7_beginIn 13 = .ok (.iconst 0, 1) := by decide +kernel
theorem dX7_beginIn_14 : decode cX7_beginIn 14 = .ok (.putfield 25, 3) := by decide +kernel
theorem dX7_beginIn_17 : decode cX7_beginIn 17 = .ok (.aload_n 0, 1) := by decide +kernel
theorem dX7_beginIn_18 : decode cX7_beginIn 18 = .ok (.iconst 0, 1) := by decide +kernel
theorem dX7_beginIn_19 : decode cX7_beginIn 19 = .ok (.putfield 28, 3) := by decide +kernel
theorem dX7_beginIn_22 : decode cX7_beginIn 22 = .ok (.aload_n 0, 1) := by decide +kernel
theorem dX7_beginIn_23 : decode cX7_beginIn 23 = .ok (.iconst 0, 1) := by decide +kernel
theorem dX7_beginIn_24 : decode cX7_beginIn 24 = .ok (.putfield 31, 3) := by decide +kernel
theorem dX7_beginIn_27 : decode cX7_beginIn 27 = .ok (.aload_n 1, 1) := by decide +kernel
theorem dX7_beginIn_28 : decode cX7_beginIn 28 = .ok (.getfield 34, 3) := by decide +kernel
theorem dX7_beginIn_31 : decode cX7_beginIn 31 = .ok (.iconst 0, 1) := by decide +kernel
theorem dX7_beginIn_32 : decode cX7_beginIn 32 = .ok (.aload_n 0, 1) := by decide +kernel
theorem dX7_beginIn_33 : decode cX7_beginIn 33 = .ok (.getfield 9, 3) := by decide +kernel
theorem dX7_beginIn_36 : decode cX7_beginIn 36 = .ok (.iconst 0, 1) := by decide +kernel
theorem dX7_beginIn_37 : decode cX7_beginIn 37 = .ok (.iconst 5, 1) := by decide +kernel
theorem dX7_beginIn_38 : decode cX7_beginIn 38 = .ok (.invokestatic 37, 3) := by decide +kernel
theorem dX7_beginIn_41 : decode cX7_beginIn 41 = .ok (.aload_n 0, 1) := by decide +kernel
theorem dX7_beginIn_42 : decode cX7_beginIn 42 = .ok (.getfield 15, 3) := by decide +kernel
theorem dX7_beginIn_45 : decode cX7_beginIn 45 = .ok (.bipush (-9), 2) := by decide +kernel
theorem dX7_beginIn_47 : decode cX7_beginIn 47 = .ok (.invokestatic 43, 3) := by decide +kernel
theorem dX7_beginIn_50 : decode cX7_beginIn 50 = .ok (.return_, 1) := by decide +kernel
theorem dX7_copyOf_0 : decode cX7_copyOf 0 = .ok (.aload_n 0, 1) := by decide +kernel
theorem dX7_copyOf_1 : decode cX7_copyOf 1 = .ok (.aload_n 1, 1) := by decide +kernel
theorem dX7_copyOf_2 : decode cX7_copyOf 2 = .ok (.getfield 18, 3) := by decide +kernel
theorem dX7_copyOf_5 : decode cX7_copyOf 5 = .ok (.putfield 18, 3) := by decide +kernel
theorem dX7_copyOf_8 : decode cX7_copyOf 8 = .ok (.aload_n 0, 1) := by decide +kernel
theorem dX7_copyOf_9 : decode cX7_copyOf 9 = .ok (.aload_n 1, 1) := by decide +kernel
theorem dX7_copyOf_10 : decode cX7_copyOf 10 = .ok (.getfield 22, 3) := by decide +kernel
theorem dX7_copyOf_13 : decode cX7_copyOf 13 = .ok (.putfield 22, 3) := by decide +kernel
theorem dX7_copyOf_16 : decode cX7_copyOf 16 = .ok (.aload_n 0, 1) := by decide +kernel
theorem dX7_copyOf_17 : decode cX7_copyOf 17 = .ok (.aload_n 1, 1) := by decide +kernel
theorem dX7_copyOf_18 : decode cX7_copyOf 18 = .ok (.getfield 25, 3) := by decide +kernel
theorem dX7_copyOf_21 : decode cX7_copyOf 21 = .ok (.putfield 25, 3) := by decide +kernel
theorem dX7_copyOf_24 : decode cX7_copyOf 24 = .ok (.aload_n 0, 1) := by decide +kernel
theorem dX7_copyOf_25 : decode cX7_copyOf 25 = .ok (.aload_n 1, 1) := by decide +kernel
theorem dX7_copyOf_26 : decode cX7_copyOf 26 = .ok (.getfield 28, 3) := by decide +kernel
theorem dX7_copyOf_29 : decode cX7_copyOf 29 = .ok (.putfield 28, 3) := by decide +kernel
theorem dX7_copyOf_32 : decode cX7_copyOf 32 = .ok (.aload_n 0, 1) := by decide +kernel
theorem dX7_copyOf_33 : decode cX7_copyOf 33 = .ok (.aload_n 1, 1) := by decide +kernel
theorem dX7_copyOf_34 : decode cX7_copyOf 34 = .ok (.getfield 31, 3) := by decide +kernel
theorem dX7_copyOf_37 : decode cX7_copyOf 37 = .ok (.putfield 31, 3) := by decide +kernel
theorem dX7_copyOf_40 : decode cX7_copyOf 40 = .ok (.aload_n 1, 1) := by decide +kernel
theorem dX7_copyOf_41 : decode cX7_copyOf 41 = .ok (.getfield 9, 3) := by decide +kernel
theorem dX7_copyOf_44 : decode cX7_copyOf 44 = .ok (.iconst 0, 1) := by decide +kernel
theorem dX7_copyOf_45 : decode cX7_copyOf 45 = .ok (.aload_n 0, 1) := by decide +kernel
theorem dX7_copyOf_46 : decode cX7_copyOf 46 = .ok (.getfield 9, 3) := by decide +kernel
theorem dX7_copyOf_49 : decode cX7_copyOf 49 = .ok (.iconst 0, 1) := by decide +kernel
theorem dX7_copyOf_50 : decode cX7_copyOf 50 = .ok (.iconst 5, 1) := by decide +kernel
theorem dX7_copyOf_51 : decode cX7_copyOf 51 = .ok (.invokestatic 37, 3) := by decide +kernel
theorem dX7_copyOf_54 : decode cX7_copyOf 54 = .ok (.aload_n 1, 1) := by decide +kernel
theorem dX7_copyOf_55 : decode cX7_copyOf 55 = .ok (.getfield 15, 3) := by decide +kernel
theorem dX7_copyOf_58 : decode cX7_copyOf 58 = .ok (.iconst 0, 1) := by decide +kernel
theorem dX7_copyOf_59 : decode cX7_copyOf 59 = .ok (.aload_n 0, 1) := by decide +kernel
theorem dX7_copyOf_60 : decode cX7_copyOf 60 = .ok (.getfield 15, 3) := by decide +kernel
theorem dX7_copyOf_63 : decode cX7_copyOf 63 = .ok (.iconst 0, 1) := by decide +kernel
theorem dX7_copyOf_64 : decode cX7_copyOf 64 = .ok (.iconst 5, 1) := by decide +kernel
theorem dX7_copyOf_65 : decode cX7_copyOf 65 = .ok (.invokestatic 37, 3) := by decide +kernel
theorem dX7_copyOf_68 : decode cX7_copyOf 68 = .ok (.return_, 1) := by decide +kernel
theorem dX7_isSolved_0 : decode cX7_isSolved 0 = .ok (.aload_n 0, 1) := by decide +kernel
theorem dX7_isSolved_1 : decode cX7_isSolved 1 = .ok (.getfield 28, 3) := by decide +kernel
theorem dX7_isSolved_4 : decode cX7_isSolved 4 = .ok (.iload_n 1, 1) := by decide +kernel
theorem dX7_isSolved_5 : decode cX7_isSolved 5 = .ok (.ishr, 1) := by decide +kernel
theorem dX7_isSolved_6 : decode cX7_isSolved 6 = .ok (.iconst 1, 1) := by decide +kernel
theorem dX7_isSolved_7 : decode cX7_isSolved 7 = .ok (.iand, 1) := by decide +kernel
theorem dX7_isSolved_8 : decode cX7_isSolved 8 = .ok (.iconst 1, 1) := by decide +kernel
theorem dX7_isSolved_9 : decode cX7_isSolved 9 = .ok (.if_icmp .ne 7, 3) := by decide +kernel
theorem dX7_isSolved_12 : decode cX7_isSolved 12 = .ok (.iconst 1, 1) := by decide +kernel
theorem dX7_isSolved_13 : decode cX7_isSolved 13 = .ok (.goto 4, 3) := by decide +kernel
theorem dX7_isSolved_16 : decode cX7_isSolved 16 = .ok (.iconst 0, 1) := by decide +kernel
theorem dX7_isSolved_17 : decode cX7_isSolved 17 = .ok (.ireturn, 1) := by decide +kernel
theorem dX7_earnedIn_0 : decode cX7_earnedIn 0 = .ok (.iconst 0, 1) := by decide +kernel
theorem dX7_earnedIn_1 : decode cX7_earnedIn 1 = .ok (.istore_n 2, 1) := by decide +kernel
theorem dX7_earnedIn_2 : decode cX7_earnedIn 2 = .ok (.iconst 0, 1) := by decide +kernel
theorem dX7_earnedIn_3 : decode cX7_earnedIn 3 = .ok (.istore_n 3, 1) := by decide +kernel
theorem dX7_earnedIn_4 : decode cX7_earnedIn 4 = .ok (.iload_n 3, 1) := by decide +kernel
theorem dX7_earnedIn_5 : decode cX7_earnedIn 5 = .ok (.aload_n 1, 1) := by decide +kernel
theorem dX7_earnedIn_6 : decode cX7_earnedIn 6 = .ok (.getfield 49, 3) := by decide +kernel
theorem dX7_earnedIn_9 : decode cX7_earnedIn 9 = .ok (.if_icmp .ge 26, 3) := by decide +kernel
theorem dX7_earnedIn_12 : decode cX7_earnedIn 12 = .ok (.aload_n 0, 1) := by decide +kernel
theorem dX7_earnedIn_13 : decode cX7_earnedIn 13 = .ok (.iload_n 3, 1) := by decide +kernel
theorem dX7_earnedIn_14 : decode cX7_earnedIn 14 = .ok (.invokevirtual 52, 3) := by decide +kernel
theorem dX7_earnedIn_17 : decode cX7_earnedIn 17 = .ok (.ifCond .eq 12, 3) := by decide +kernel
theorem dX7_earnedIn_20 : decode cX7_earnedIn 20 = .ok (.iload_n 2, 1) := by decide +kernel
theorem dX7_earnedIn_21 : decode cX7_earnedIn 21 = .ok (.aload_n 1, 1) := by decide +kernel
theorem dX7_earnedIn_22 : decode cX7_earnedIn 22 = .ok (.getfield 56, 3) := by decide +kernel
theorem dX7_earnedIn_25 : decode cX7_earnedIn 25 = .ok (.iload_n 3, 1) := by decide +kernel
theorem dX7_earnedIn_26 : decode cX7_earnedIn 26 = .ok (.iaload, 1) := by decide +kernel
theorem dX7_earnedIn_27 : decode cX7_earnedIn 27 = .ok (.iadd, 1) := by decide +kernel
theorem dX7_earnedIn_28 : decode cX7_earnedIn 28 = .ok (.istore_n 2, 1) := by decide +kernel
theorem dX7_earnedIn_29 : decode cX7_earnedIn 29 = .ok (.iinc 3 1, 3) := by decide +kernel
theorem dX7_earnedIn_32 : decode cX7_earnedIn 32 = .ok (.goto (-28), 3) := by decide +kernel
