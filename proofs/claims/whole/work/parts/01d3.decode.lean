theorem dX9_country_72 : decode cX9_country 72 = .ok (.iconst 1, 1) := by decide +kernel
theorem dX9_country_73 : decode cX9_country 73 = .ok (.if_icmp .ne 13, 3) := by decide +kernel
theorem dX9_country_76 : decode cX9_country 76 = .ok (.aload_n 0, 1) := by decide +kernel
theorem dX9_country_77 : decode cX9_country 77 = .ok (.getfield 56, 3) := by decide +kernel
theorem dX9_country_80 : decode cX9_country 80 = .ok (.iload 5, 2) := by decide +kernel
theorem dX9_country_82 : decode cX9_country 82 = .ok (.iaload, 1) := by decide +kernel
theorem dX9_country_83 : decode cX9_country 83 = .ok (.goto 4, 3) := by decide +kernel
theorem dX9_country_86 : decode cX9_country 86 = .ok (.iconst 0, 1) := by decide +kernel
theorem dX9_country_87 : decode cX9_country 87 = .ok (.iadd, 1) := by decide +kernel
theorem dX9_country_88 : decode cX9_country 88 = .ok (.istore 4, 2) := by decide +kernel
theorem dX9_country_90 : decode cX9_country 90 = .ok (.iinc 5 1, 3) := by decide +kernel
theorem dX9_country_93 : decode cX9_country 93 = .ok (.goto (-40), 3) := by decide +kernel
theorem dX9_country_96 : decode cX9_country 96 = .ok (.iload_n 3, 1) := by decide +kernel
theorem dX9_country_97 : decode cX9_country 97 = .ok (.invokestatic 189, 3) := by decide +kernel
theorem dX9_country_100 : decode cX9_country 100 = .ok (.iload_n 1, 1) := by decide +kernel
theorem dX9_country_101 : decode cX9_country 101 = .ok (.if_icmp .lt 14, 3) := by decide +kernel
theorem dX9_country_104 : decode cX9_country 104 = .ok (.iload 4, 2) := by decide +kernel
theorem dX9_country_106 : decode cX9_country 106 = .ok (.iload_n 2, 1) := by decide +kernel
theorem dX9_country_107 : decode cX9_country 107 = .ok (.if_icmp .ge 8, 3) := by decide +kernel
theorem dX9_country_110 : decode cX9_country 110 = .ok (.iload 4, 2) := by decide +kernel
theorem dX9_country_112 : decode cX9_country 112 = .ok (.goto 4, 3) := by decide +kernel
theorem dX9_country_115 : decode cX9_country 115 = .ok (.iload_n 2, 1) := by decide +kernel
theorem dX9_country_116 : decode cX9_country 116 = .ok (.istore_n 2, 1) := by decide +kernel
theorem dX9_country_117 : decode cX9_country 117 = .ok (.iinc 3 1, 3) := by decide +kernel
theorem dX9_country_120 : decode cX9_country 120 = .ok (.goto (-85), 3) := by decide +kernel
theorem dX9_country_123 : decode cX9_country 123 = .ok (.iload_n 2, 1) := by decide +kernel
theorem dX9_country_124 : decode cX9_country 124 = .ok (.ldc 172, 2) := by decide +kernel
theorem dX9_country_126 : decode cX9_country 126 = .ok (.if_icmp .ne 8, 3) := by decide +kernel
theorem dX9_country_129 : decode cX9_country 129 = .ok (.bipush (-9), 2) := by decide +kernel
theorem dX9_country_131 : decode cX9_country 131 = .ok (.goto 4, 3) := by decide +kernel
theorem dX9_country_134 : decode cX9_country 134 = .ok (.iload_n 2, 1) := by decide +kernel
theorem dX9_country_135 : decode cX9_country 135 = .ok (.ireturn, 1) := by decide +kernel
theorem dX9_having_0 : decode cX9_having 0 = .ok (.iconst 0, 1) := by decide +kernel
theorem dX9_having_1 : decode cX9_having 1 = .ok (.istore_n 3, 1) := by decide +kernel
theorem dX9_having_2 : decode cX9_having 2 = .ok (.iconst 0, 1) := by decide +kernel
theorem dX9_having_3 : decode cX9_having 3 = .ok (.istore 4, 2) := by decide +kernel
theorem dX9_having_5 : decode cX9_having 5 = .ok (.iload 4, 2) := by decide +kernel
theorem dX9_having_7 : decode cX9_having 7 = .ok (.aload_n 0, 1) := by decide +kernel
theorem dX9_having_8 : decode cX9_having 8 = .ok (.getfield 13, 3) := by decide +kernel
theorem dX9_having_11 : decode cX9_having 11 = .ok (.iconst 2, 1) := by decide +kernel
theorem dX9_having_12 : decode cX9_having 12 = .ok (.iaload, 1) := by decide +kernel
theorem dX9_having_13 : decode cX9_having 13 = .ok (.if_icmp .ge 35, 3) := by decide +kernel
theorem dX9_having_16 : decode cX9_having 16 = .ok (.iload_n 3, 1) := by decide +kernel
theorem dX9_having_17 : decode cX9_having 17 = .ok (.aload_n 0, 1) := by decide +kernel
theorem dX9_having_18 : decode cX9_having 18 = .ok (.getfield 31, 3) := by decide +kernel
theorem dX9_having_21 : decode cX9_having 21 = .ok (.iload 4, 2) := by decide +kernel
theorem dX9_having_23 : decode cX9_having 23 = .ok (.iaload, 1) := by decide +kernel
theorem dX9_having_24 : decode cX9_having 24 = .ok (.iload_n 2, 1) := by decide +kernel
theorem dX9_having_25 : decode cX9_having 25 = .ok (.ishr, 1) := by decide +kernel
theorem dX9_having_26 : decode cX9_having 26 = .ok (.iconst 1, 1) := by decide +kernel
theorem dX9_having_27 : decode cX9_having 27 = .ok (.iand, 1) := by decide +kernel
theorem dX9_having_28 : decode cX9_having 28 = .ok (.iconst 1, 1) := by decide +kernel
theorem dX9_having_29 : decode cX9_having 29 = .ok (.if_icmp .ne 10, 3) := by decide +kernel
theorem dX9_having_32 : decode cX9_having 32 = .ok (.iconst 1, 1) := by decide +kernel
theorem dX9_having_33 : decode cX9_having 33 = .ok (.iload 4, 2) := by decide +kernel
theorem dX9_having_35 : decode cX9_having 35 = .ok (.ishl, 1) := by decide +kernel
theorem dX9_having_36 : decode cX9_having 36 = .ok (.goto 4, 3) := by decide +kernel
theorem dX9_having_39 : decode cX9_having 39 = .ok (.iconst 0, 1) := by decide +kernel
theorem dX9_having_40 : decode cX9_having 40 = .ok (.ior, 1) := by decide +kernel
theorem dX9_having_41 : decode cX9_having 41 = .ok (.istore_n 3, 1) := by decide +kernel
theorem dX9_having_42 : decode cX9_having 42 = .ok (.iinc 4 1, 3) := by decide +kernel
theorem dX9_having_45 : decode cX9_having 45 = .ok (.goto (-40), 3) := by decide +kernel
theorem dX9_having_48 : decode cX9_having 48 = .ok (.iload_n 1, 1) := by decide +kernel
theorem dX9_having_49 : decode cX9_having 49 = .ok (.iload_n 3, 1) := by decide +kernel
theorem dX9_having_50 : decode cX9_having 50 = .ok (.iand, 1) := by decide +kernel
theorem dX9_having_51 : decode cX9_having 51 = .ok (.ireturn, 1) := by decide +kernel
theorem dX9_next_0 : decode cX9_next 0 = .ok (.aload_n 0, 1) := by decide +kernel
theorem dX9_next_1 : decode cX9_next 1 = .ok (.iconst 0, 1) := by decide +kernel
theorem dX9_next_2 : decode cX9_next 2 = .ok (.putfield 74, 3) := by decide +kernel
theorem dX9_next_5 : decode cX9_next 5 = .ok (.aload_n 0, 1) := by decide +kernel
theorem dX9_next_6 : decode cX9_next 6 = .ok (.invokevirtual 156, 3) := by decide +kernel
theorem dX9_next_9 : decode cX9_next 9 = .ok (.istore_n 1, 1) := by decide +kernel
theorem dX9_next_10 : decode cX9_next 10 = .ok (.bipush (-9), 2) := by decide +kernel
theorem dX9_next_12 : decode cX9_next 12 = .ok (.istore_n 2, 1) := by decide +kernel
theorem dX9_next_13 : decode cX9_next 13 = .ok (.ldc 172, 2) := by decide +kernel
theorem dX9_next_15 : decode cX9_next 15 = .ok (.istore_n 3, 1) := by decide +kernel
theorem dX9_next_16 : decode cX9_next 16 = .ok (.iconst 0, 1) := by decide +kernel
theorem dX9_next_17 : decode cX9_next 17 = .ok (.istore 4, 2) := by decide +kernel
theorem dX9_next_19 : decode cX9_next 19 = .ok (.iload 4, 2) := by decide +kernel
theorem dX9_next_21 : decode cX9_next 21 = .ok (.iconst 5, 1) := by decide +kernel
theorem dX9_next_22 : decode cX9_next 22 = .ok (.if_icmp .ge 80, 3) := by decide +kernel
theorem dX9_next_25 : decode cX9_next 25 = .ok (.iload_n 1, 1) := by decide +kernel
theorem dX9_next_26 : decode cX9_next 26 = .ok (.invokestatic 189, 3) := by decide +kernel
theorem dX9_next_29 : decode cX9_next 29 = .ok (.iconst 1, 1) := by decide +kernel
theorem dX9_next_30 : decode cX9_next 30 = .ok (.if_icmp .le 72, 3) := by decide +kernel
theorem dX9_next_33 : decode cX9_next 33 = .ok (.aload_n 0, 1) := by decide +kernel
theorem dX9_next_34 : decode cX9_next 34 = .ok (.iload_n 1, 1) := by decide +kernel
theorem dX9_next_35 : decode cX9_next 35 = .ok (.iload 4, 2) := by decide +kernel
theorem dX9_next_37 : decode cX9_next 37 = .ok (.invokevirtual 192, 3) := by decide +kernel
theorem dX9_next_40 : decode cX9_next 40 = .ok (.invokestatic 189, 3) := by decide +kernel
theorem dX9_next_43 : decode cX9_next 43 = .ok (.istore 5, 2) := by decide +kernel
theorem dX9_next_45 : decode cX9_next 45 = .ok (.iload_n 1, 1) := by decide +kernel
theorem dX9_next_46 : decode cX9_next 46 = .ok (.invokestatic 189, 3) := by decide +kernel
theorem dX9_next_49 : decode cX9_next 49 = .ok (.iload 5, 2) := by decide +kernel
theorem dX9_next_51 : decode cX9_next 51 = .ok (.isub, 1) := by decide +kernel
theorem dX9_next_52 : decode cX9_next 52 = .ok (.istore 6, 2) := by decide +kernel
theorem dX9_next_54 : decode cX9_next 54 = .ok (.iload 5, 2) := by decide +kernel
theorem dX9_next_56 : decode cX9_next 56 = .ok (.iload 6, 2) := by decide +kernel
theorem dX9_next_58 : decode cX9_next 58 = .ok (.if_icmp .le 8, 3) := by decide +kernel
theorem dX9_next_61 : decode cX9_next 61 = .ok (.iload 5, 2) := by decide +kernel
theorem dX9_next_63 : decode cX9_next 63 = .ok (.goto 5, 3) := by decide +kernel
theorem dX9_next_66 : decode cX9_next 66 = .ok (.iload 6, 2) := by decide +kernel
theorem dX9_next_68 : decode cX9_next 68 = .ok (.istore 7, 2) := by decide +kernel
theorem dX9_next_70 : decode cX9_next 70 = .ok (.aload_n 0, 1) := by decide +kernel
theorem dX9_next_71 : decode cX9_next 71 = .ok (.getfield 34, 3) := by decide +kernel
theorem dX9_next_74 : decode cX9_next 74 = .ok (.iconst 4, 1) := by decide +kernel
theorem dX9_next_75 : decode cX9_next 75 = .ok (.iaload, 1) := by decide +kernel
theorem dX9_next_76 : decode cX9_next 76 = .ok (.iload 4, 2) := by decide +kernel
theorem dX9_next_78 : decode cX9_next 78 = .ok (.ishr, 1) := by decide +kernel
theorem dX9_next_79 : decode cX9_next 79 = .ok (.iconst 1, 1) := by decide +kernel
theorem dX9_next_80 : decode cX9_next 80 = .ok (.iand, 1) := by decide +kernel
theorem dX9_next_81 : decode cX9_next 81 = .ok (.ifCond .ne 15, 3) := by decide +kernel
theorem dX9_next_84 : decode cX9_next 84 = .ok (.iload 7, 2) := by decide +kernel
theorem dX9_next_86 : decode cX9_next 86 = .ok (.iload_n 3, 1) := by decide +kernel
theorem dX9_next_87 : decode cX9_next 87 = .ok (.if_icmp .ge 9, 3) := by decide +kernel
theorem dX9_next_90 : decode cX9_next 90 = .ok (.iload 4, 2) := by decide +kernel
theorem dX9_next_92 : decode cX9_next 92 = .ok (.istore_n 2, 1) := by decide +kernel
theorem dX9_next_93 : decode cX9_next 93 = .ok (.iload 7, 2) := by decide +kernel
theorem dX9_next_95 : decode cX9_next 95 = .ok (.istore_n 3, 1) := by decide +kernel
theorem dX9_next_96 : decode cX9_next 96 = .ok (.iinc 4 1, 3) := by decide +kernel
theorem dX9_next_99 : decode cX9_next 99 = .ok (.goto (-80), 3) := by decide +kernel
theorem dX9_next_102 : decode cX9_next 102 = .ok (.iload_n 2, 1) := by decide +kernel
theorem dX9_next_103 : decode cX9_next 103 = .ok (.ireturn, 1) := by decide +kernel
theorem dX9_questions_0 : decode cX9_questions 0 = .ok (.aload_n 0, 1) := by decide +kernel
theorem dX9_questions_1 : decode cX9_questions 1 = .ok (.iconst 0, 1) := by decide +kernel
theorem dX9_questions_2 : decode cX9_questions 2 = .ok (.putfield 74, 3) := by decide +kernel
theorem dX9_questions_5 : decode cX9_questions 5 = .ok (.iconst 0, 1) := by decide +kernel
theorem dX9_questions_6 : decode cX9_questions 6 = .ok (.istore_n 1, 1) := by decide +kernel
theorem dX9_questions_7 : decode cX9_questions 7 = .ok (.iload_n 1, 1) := by decide +kernel
theorem dX9_questions_8 : decode cX9_questions 8 = .ok (.bipush 64, 2) := by decide +kernel
theorem dX9_questions_10 : decode cX9_questions 10 = .ok (.if_icmp .ge 121, 3) := by decide +kernel
theorem dX9_questions_13 : decode cX9_questions 13 = .ok (.ldc 172, 2) := by decide +kernel
theorem dX9_questions_15 : decode cX9_questions 15 = .ok (.istore_n 2, 1) := by decide +kernel
theorem dX9_questions_16 : decode cX9_questions 16 = .ok (.iconst 0, 1) := by decide +kernel
theorem dX9_questions_17 : decode cX9_questions 17 = .ok (.istore_n 3, 1) := by decide +kernel
theorem dX9_questions_18 : decode cX9_questions 18 = .ok (.iload_n 3, 1) := by decide +kernel
theorem dX9_questions_19 : decode cX9_questions 19 = .ok (.iconst 5, 1) := by decide +kernel
theorem dX9_questions_20 : decode cX9_questions 20 = .ok (.if_icmp .ge 88, 3) := by decide +kernel
theorem dX9_questions_23 : decode cX9_questions 23 = .ok (.aload_n 0, 1) := by decide +kernel
theorem dX9_questions_24 : decode cX9_questions 24 = .ok (.iload_n 1, 1) := by decide +kernel
theorem dX9_questions_25 : decode cX9_questions 25 = .ok (.iload_n 3, 1) := by decide +kernel
theorem dX9_questions_26 : decode cX9_questions 26 = .ok (.invokevirtual 192, 3) := by decide +kernel
theorem dX9_questions_29 : decode cX9_questions 29 = .ok (.istore 4, 2) := by decide +kernel
theorem dX9_questions_31 : decode cX9_questions 31 = .ok (.iload_n 1, 1) := by decide +kernel
theorem dX9_questions_32 : decode cX9_questions 32 = .ok (.iload 4, 2) := by decide +kernel
theorem dX9_questions_34 : decode cX9_questions 34 = .ok (.iconst (-1), 1) := by decide +kernel
theorem dX9_questions_35 : decode cX9_questions 35 = .ok (.ixor, 1) := by decide +kernel
theorem dX9_questions_36 : decode cX9_questions 36 = .ok (.iand, 1) := by decide +kernel
theorem dX9_questions_37 : decode cX9_questions 37 = .ok (.istore 5, 2) := by decide +kernel
theorem dX9_questions_39 : decode cX9_questions 39 = .ok (.iload 4, 2) := by decide +kernel
theorem dX9_questions_41 : decode cX9_questions 41 = .ok (.ifCond .eq 61, 3) := by decide +kernel
theorem dX9_questions_44 : decode cX9_questions 44 = .ok (.iload 5, 2) := by decide +kernel
theorem dX9_questions_46 : decode cX9_questions 46 = .ok (.ifCond .eq 56, 3) := by decide +kernel
theorem dX9_questions_49 : decode cX9_questions 49 = .ok (.aload_n 0, 1) := by decide +kernel
theorem dX9_questions_50 : decode cX9_questions 50 = .ok (.getfield 65, 3) := by decide +kernel
theorem dX9_questions_53 : decode cX9_questions 53 = .ok (.iload 4, 2) := by decide +kernel
theorem dX9_questions_55 : decode cX9_questions 55 = .ok (.iaload, 1) := by decide +kernel
theorem dX9_questions_56 : decode cX9_questions 56 = .ok (.aload_n 0, 1) := by decide +kernel
theorem dX9_questions_57 : decode cX9_questions 57 = .ok (.getfield 65, 3) := by decide +kernel
theorem dX9_questions_60 : decode cX9_questions 60 = .ok (.iload 5, 2) := by decide +kernel
theorem dX9_questions_62 : decode cX9_questions 62 = .ok (.iaload, 1) := by decide +kernel
theorem dX9_questions_63 : decode cX9_questions 63 = .ok (.if_icmp .le 13, 3) := by decide +kernel
theorem dX9_questions_66 : decode cX9_questions 66 = .ok (.aload_n 0, 1) := by decide +kernel
theorem dX9_questions_67 : decode cX9_questions 67 = .ok (.getfield 65, 3) := by decide +kernel
theorem dX9_questions_70 : decode cX9_questions 70 = .ok (.iload 4, 2) := by decide +kernel
theorem dX9_questions_72 : decode cX9_questions 72 = .ok (.iaload, 1) := by decide +kernel
theorem dX9_questions_73 : decode cX9_questions 73 = .ok (.goto 10, 3) := by decide +kernel
theorem dX9_questions_76 : decode cX9_questions 76 = .ok (.aload_n 0, 1) := by decide +kernel
theorem dX9_questions_77 : decode cX9_questions 77 = .ok (.getfield 65, 3) := by decide +kernel
theorem dX9_questions_80 : decode cX9_questions 80 = .ok (.iload 5, 2) := by decide +kernel
theorem dX9_questions_82 : decode cX9_questions 82 = .ok (.iaload, 1) := by decide +kernel
theorem dX9_questions_83 : decode cX9_questions 83 = .ok (.istore 6, 2) := by decide +kernel
theorem dX9_questions_85 : decode cX9_questions 85 = .ok (.iconst 1, 1) := by decide +kernel
theorem dX9_questions_86 : decode cX9_questions 86 = .ok (.iload 6, 2) := by decide +kernel
theorem dX9_questions_88 : decode cX9_questions 88 = .ok (.iadd, 1) := by decide +kernel
theorem dX9_questions_89 : decode cX9_questions 89 = .ok (.iload_n 2, 1) := by decide +kernel
theorem dX9_questions_90 : decode cX9_questions 90 = .ok (.if_icmp .ge 10, 3) := by decide +kernel
theorem dX9_questions_93 : decode cX9_questions 93 = .ok (.iconst 1, 1) := by decide +kernel
theorem dX9_questions_94 : decode cX9_questions 94 = .ok (.iload 6, 2) := by decide +kernel
theorem dX9_questions_96 : decode cX9_questions 96 = .ok (.iadd, 1) := by decide +kernel
theorem dX9_questions_97 : decode cX9_questions 97 = .ok (.goto 4, 3) := by decide +kernel
theorem dX9_questions_100 : decode cX9_questions 100 = .ok (.iload_n 2, 1) := by decide +kernel
theorem dX9_questions_101 : decode cX9_questions 101 = .ok (.istore_n 2, 1) := by decide +kernel
theorem dX9_questions_102 : decode cX9_questions 102 = .ok (.iinc 3 1, 3) := by decide +kernel
theorem dX9_questions_105 : decode cX9_questions 105 = .ok (.goto (-87), 3) := by decide +kernel
theorem dX9_questions_108 : decode cX9_questions 108 = .ok (.aload_n 0, 1) := by decide +kernel
theorem dX9_questions_109 : decode cX9_questions 109 = .ok (.getfield 65, 3) := by decide +kernel
theorem dX9_questions_112 : decode cX9_questions 112 = .ok (.iload_n 1, 1) := by decide +kernel
theorem dX9_questions_113 : decode cX9_questions 113 = .ok (.iload_n 2, 1) := by decide +kernel
theorem dX9_questions_114 : decode cX9_questions 114 = .ok (.ldc 172, 2) := by decide +kernel
theorem dX9_questions_116 : decode cX9_questions 116 = .ok (.if_icmp .ne 7, 3) := by decide +kernel
theorem dX9_questions_119 : decode cX9_questions 119 = .ok (.iconst 0, 1) := by decide +kernel
theorem dX9_questions_120 : decode cX9_questions 120 = .ok (.goto 4, 3) := by decide +kernel
theorem dX9_questions_123 : decode cX9_questions 123 = .ok (.iload_n 2, 1) := by decide +kernel
theorem dX9_questions_124 : decode cX9_questions 124 = .ok (.iastore, 1) := by decide +kernel
theorem dX9_questions_125 : decode cX9_questions 125 = .ok (.iinc 1 1, 3) := by decide +kernel
theorem dX9_questions_128 : decode cX9_questions 128 = .ok (.goto (-121), 3) := by decide +kernel
theorem dX9_questions_131 : decode cX9_questions 131 = .ok (.aload_n 0, 1) := by decide +kernel
theorem dX9_questions_132 : decode cX9_questions 132 = .ok (.getfield 65, 3) := by decide +kernel
theorem dX9_questions_135 : decode cX9_questions 135 = .ok (.aload_n 0, 1) := by decide +kernel
theorem dX9_questions_136 : decode cX9_questions 136 = .ok (.invokevirtual 156, 3) := by decide +kernel
theorem dX9_questions_139 : decode cX9_questions 139 = .ok (.iaload, 1) := by decide +kernel
theorem dX9_questions_140 : decode cX9_questions 140 = .ok (.ireturn, 1) := by decide +kernel
theorem dX9_felt_0 : decode cX9_felt 0 = .ok (.aload_n 0, 1) := by decide +kernel
theorem dX9_felt_1 : decode cX9_felt 1 = .ok (.iconst 0, 1) := by decide +kernel
theorem dX9_felt_2 : decode cX9_felt 2 = .ok (.putfield 74, 3) := by decide +kernel
theorem dX9_felt_5 : decode cX9_felt 5 = .ok (.aload_n 0, 1) := by decide +kernel
theorem dX9_felt_6 : decode cX9_felt 6 = .ok (.iload_n 1, 1) := by decide +kernel
theorem dX9_felt_7 : decode cX9_felt 7 = .ok (.invokevirtual 149, 3) := by decide +kernel
theorem dX9_felt_10 : decode cX9_felt 10 = .ok (.ifCond .eq 13, 3) := by decide +kernel
theorem dX9_felt_13 : decode cX9_felt 13 = .ok (.iload_n 2, 1) := by decide +kernel
theorem dX9_felt_14 : decode cX9_felt 14 = .ok (.iconst 0, 1) := by decide +kernel
theorem dX9_felt_15 : decode cX9_felt 15 = .ok (.bipush 30, 2) := by decide +kernel
theorem dX9_felt_17 : decode cX9_felt 17 = .ok (.invokestatic 78, 3) := by decide +kernel
theorem dX9_felt_20 : decode cX9_felt 20 = .ok (.ifCond .ne 5, 3) := by decide +kernel
theorem dX9_felt_23 : decode cX9_felt 23 = .ok (.iconst (-1), 1) := by decide +kernel
theorem dX9_felt_24 : decode cX9_felt 24 = .ok (.ireturn, 1) := by decide +kernel
theorem dX9_felt_25 : decode cX9_felt 25 = .ok (.aload_n 0, 1) := by decide +kernel
theorem dX9_felt_26 : decode cX9_felt 26 = .ok (.getfield 136, 3) := by decide +kernel
theorem dX9_felt_29 : decode cX9_felt 29 = .ok (.iconst 5, 1) := by decide +kernel
theorem dX9_felt_30 : decode cX9_felt 30 = .ok (.if_icmp .ne 6, 3) := by decide +kernel
theorem dX9_felt_33 : decode cX9_felt 33 = .ok (.bipush (-3), 2) := by decide +kernel
theorem dX9_felt_35 : decode cX9_felt 35 = .ok (.ireturn, 1) := by decide +kernel
theorem dX9_felt_36 : decode cX9_felt 36 = .ok (.aload_n 0, 1) := by decide +kernel
theorem dX9_felt_37 : decode cX9_felt 37 = .ok (.getfield 47, 3) := by decide +kernel
theorem dX9_felt_40 : decode cX9_felt 40 = .ok (.aload_n 0, 1) := by decide +kernel
theorem dX9_felt_41 : decode cX9_felt 41 = .ok (.getfield 136, 3) := by decide +kernel
theorem dX9_felt_44 : decode cX9_felt 44 = .ok (.iload_n 1, 1) := by decide +kernel
theorem dX9_felt_45 : decode cX9_felt 45 = .ok (.iastore, 1) := by decide +kernel
theorem dX9_felt_46 : decode cX9_felt 46 = .ok (.aload_n 0, 1) := by decide +kernel
theorem dX9_felt_47 : decode cX9_felt 47 = .ok (.getfield 50, 3) := by decide +kernel
theorem dX9_felt_50 : decode cX9_felt 50 = .ok (.aload_n 0, 1) := by decide +kernel
theorem dX9_felt_51 : decode cX9_felt 51 = .ok (.getfield 136, 3) := by decide +kernel
theorem dX9_felt_54 : decode cX9_felt 54 = .ok (.iload_n 2, 1) := by decide +kernel
theorem dX9_felt_55 : decode cX9_felt 55 = .ok (.iastore, 1) := by decide +kernel
theorem dX9_felt_56 : decode cX9_felt 56 = .ok (.aload_n 0, 1) := by decide +kernel
theorem dX9_felt_57 : decode cX9_felt 57 = .ok (.dup, 1) := by decide +kernel
theorem dX9_felt_58 : decode cX9_felt 58 = .ok (.getfield 136, 3) := by decide +kernel
theorem dX9_felt_61 : decode cX9_felt 61 = .ok (.iconst 1, 1) := by decide +kernel
theorem dX9_felt_62 : decode cX9_felt 62 = .ok (.iadd, 1) := by decide +kernel
theorem dX9_felt_63 : decode cX9_felt 63 = .ok (.putfield 136, 3) := by decide +kernel
theorem dX9_felt_66 : decode cX9_felt 66 = .ok (.aload_n 0, 1) := by decide +kernel
theorem dX9_felt_67 : decode cX9_felt 67 = .ok (.getfield 136, 3) := by decide +kernel
theorem dX9_felt_70 : decode cX9_felt 70 = .ok (.ireturn, 1) := by decide +kernel
theorem dX9_forget_0 : decode cX9_forget 0 = .ok (.aload_n 0, 1) := by decide +kernel
theorem dX9_forget_1 : decode cX9_forget 1 = .ok (.iconst 0, 1) := by decide +kernel
theorem dX9_forget_2 : decode cX9_forget 2 = .ok (.putfield 74, 3) := by decide +kernel
theorem dX9_forget_5 : decode cX9_forget 5 = .ok (.aload_n 0, 1) := by decide +kernel
theorem dX9_forget_6 : decode cX9_forget 6 = .ok (.getfield 136, 3) := by decide +kernel
theorem dX9_forget_9 : decode cX9_forget 9 = .ok (.istore_n 1, 1) := by decide +kernel
theorem dX9_forget_10 : decode cX9_forget 10 = .ok (.aload_n 0, 1) := by decide +kernel
theorem dX9_forget_11 : decode cX9_forget 11 = .ok (.iconst 0, 1) := by decide +kernel
theorem dX9_forget_12 : decode cX9_forget 12 = .ok (.putfield 136, 3) := by decide +kernel
theorem dX9_forget_15 : decode cX9_forget 15 = .ok (.iload_n 1, 1) := by decide +kernel
theorem dX9_forget_16 : decode cX9_forget 16 = .ok (.ireturn, 1) := by decide +kernel
theorem dX9_tempers_0 : decode cX9_tempers 0 = .ok (.aload_n 0, 1) := by decide +kernel
theorem dX9_tempers_1 : decode cX9_tempers 1 = .ok (.iconst 0, 1) := by decide +kernel
theorem dX9_tempers_2 : decode cX9_tempers 2 = .ok (.putfield 74, 3) := by decide +kernel
theorem dX9_tempers_5 : decode cX9_tempers 5 = .ok (.iconst 0, 1) := by decide +kernel
theorem dX9_tempers_6 : decode cX9_tempers 6 = .ok (.istore_n 1, 1) := by decide +kernel
theorem dX9_tempers_7 : decode cX9_tempers 7 = .ok (.iconst 0, 1) := by decide +kernel
theorem dX9_tempers_8 : decode cX9_tempers 8 = .ok (.istore_n 2, 1) := by decide +kernel
theorem dX9_tempers_9 : decode cX9_tempers 9 = .ok (.iload_n 2, 1) := by decide +kernel
theorem dX9_tempers_10 : decode cX9_tempers 10 = .ok (.iconst 4, 1) := by decide +kernel
theorem dX9_tempers_11 : decode cX9_tempers 11 = .ok (.if_icmp .ge 77, 3) := by decide +kernel
theorem dX9_tempers_14 : decode cX9_tempers 14 = .ok (.iconst 1, 1) := by decide +kernel
theorem dX9_tempers_15 : decode cX9_tempers 15 = .ok (.istore_n 3, 1) := by decide +kernel
theorem dX9_tempers_16 : decode cX9_tempers 16 = .ok (.iconst 0, 1) := by decide +kernel
theorem dX9_tempers_17 : decode cX9_tempers 17 = .ok (.istore 4, 2) := by decide +kernel
theorem dX9_tempers_19 : decode cX9_tempers 19 = .ok (.iload 4, 2) := by decide +kernel
theorem dX9_tempers_21 : decode cX9_tempers 21 = .ok (.aload_n 0, 1) := by decide +kernel
theorem dX9_tempers_22 : decode cX9_tempers 22 = .ok (.getfield 136, 3) := by decide +kernel
theorem dX9_tempers_25 : decode cX9_tempers 25 = .ok (.if_icmp .ge 43, 3) := by decide +kernel
theorem dX9_tempers_28 : decode cX9_tempers 28 = .ok (.iload_n 3, 1) := by decide +kernel
theorem dX9_tempers_29 : decode cX9_tempers 29 = .ok (.ifCond .eq 31, 3) := by decide +kernel
theorem dX9_tempers_32 : decode cX9_tempers 32 = .ok (.aload_n 0, 1) := by decide +kernel
theorem dX9_tempers_33 : decode cX9_tempers 33 = .ok (.getfield 25, 3) := by decide +kernel
theorem dX9_tempers_36 : decode cX9_tempers 36 = .ok (.aload_n 0, 1) := by decide +kernel
theorem dX9_tempers_37 : decode cX9_tempers 37 = .ok (.getfield 47, 3) := by decide +kernel
theorem dX9_tempers_40 : decode cX9_tempers 40 = .ok (.iload 4, 2) := by decide +kernel
theorem dX9_tempers_42 : decode cX9_tempers 42 = .ok (.iaload, 1) := by decide +kernel
theorem dX9_tempers_43 : decode cX9_tempers 43 = .ok (.iaload, 1) := by decide +kernel
theorem dX9_tempers_44 : decode cX9_tempers 44 = .ok (.iload_n 2, 1) := by decide +kernel
theorem dX9_tempers_45 : decode cX9_tempers 45 = .ok (.imul, 1) := by decide +kernel
theorem dX9_tempers_46 : decode cX9_tempers 46 = .ok (.aload_n 0, 1) := by decide +kernel
theorem dX9_tempers_47 : decode cX9_tempers 47 = .ok (.getfield 50, 3) := by decide +kernel
theorem dX9_tempers_50 : decode cX9_tempers 50 = .ok (.iload 4, 2) := by decide +kernel
theorem dX9_tempers_52 : decode cX9_tempers 52 = .ok (.iaload, 1) := by decide +kernel
theorem dX9_tempers_53 : decode cX9_tempers 53 = .ok (.if_icmp .ne 7, 3) := by decide +kernel
theorem dX9_tempers_56 : decode cX9_tempers 56 = .ok (.iconst 1, 1) := by decide +kernel
theorem dX9_tempers_57 : decode cX9_tempers 57 = .ok (.goto 4, 3) := by decide +kernel
theorem dX9_tempers_60 : decode cX9_tempers 60 = .ok (.iconst 0, 1) := by decide +kernel
theorem dX9_tempers_61 : decode cX9_tempers 61 = .ok (.istore_n 3, 1) := by decide +kernel
theorem dX9_tempers_62 : decode cX9_tempers 62 = .ok (.iinc 4 1, 3) := by decide +kernel
theorem dX9_tempers_65 : decode cX9_tempers 65 = .ok (.goto (-46), 3) := by decide +kernel
theorem dX9_tempers_68 : decode cX9_tempers 68 = .ok (.iload_n 1, 1) := by decide +kernel
theorem dX9_tempers_69 : decode cX9_tempers 69 = .ok (.iload_n 3, 1) := by decide +kernel
theorem dX9_tempers_70 : decode cX9_tempers 70 = .ok (.ifCond .eq 9, 3) := by decide +kernel
theorem dX9_tempers_73 : decode cX9_tempers 73 = .ok (.iconst 1, 1) := by decide +kernel
theorem dX9_tempers_74 : decode cX9_tempers 74 = .ok (.iload_n 2, 1) := by decide +kernel
theorem dX9_tempers_75 : decode cX9_tempers 75 = .ok (.ishl, 1) := by decide +kernel
theorem dX9_tempers_76 : decode cX9_tempers 76 = .ok (.goto 4, 3) := by decide +kernel
theorem dX9_tempers_79 : decode cX9_tempers 79 = .ok (.iconst 0, 1) := by decide +kernel
theorem dX9_tempers_80 : decode cX9_tempers 80 = .ok (.ior, 1) := by decide +kernel
theorem dX9_tempers_81 : decode cX9_tempers 81 = .ok (.istore_n 1, 1) := by decide +kernel
theorem dX9_tempers_82 : decode cX9_tempers 82 = .ok (.iinc 2 1, 3) := by decide +kernel
theorem dX9_tempers_85 : decode cX9_tempers 85 = .ok (.goto (-76), 3) := by decide +kernel
theorem dX9_tempers_88 : decode cX9_tempers 88 = .ok (.iload_n 1, 1) := by decide +kernel
theorem dX9_tempers_89 : decode cX9_tempers 89 = .ok (.ireturn, 1) := by decide +kernel
theorem dX9_which_0 : decode cX9_which 0 = .ok (.aload_n 0, 1) := by decide +kernel
theorem dX9_which_1 : decode cX9_which 1 = .ok (.iconst 0, 1) := by decide +kernel
theorem dX9_which_2 : decode cX9_which 2 = .ok (.putfield 74, 3) := by decide +kernel
theorem dX9_which_5 : decode cX9_which 5 = .ok (.aload_n 0, 1) := by decide +kernel
theorem dX9_which_6 : decode cX9_which 6 = .ok (.iload_n 1, 1) := by decide +kernel
theorem dX9_which_7 : decode cX9_which 7 = .ok (.invokevirtual 149, 3) := by decide +kernel
theorem dX9_which_10 : decode cX9_which 10 = .ok (.ifCond .eq 13, 3) := by decide +kernel
theorem dX9_which_13 : decode cX9_which 13 = .ok (.iload_n 2, 1) := by decide +kernel
theorem dX9_which_14 : decode cX9_which 14 = .ok (.iconst 0, 1) := by decide +kernel
theorem dX9_which_15 : decode cX9_which 15 = .ok (.bipush 30, 2) := by decide +kernel
theorem dX9_which_17 : decode cX9_which 17 = .ok (.invokestatic 78, 3) := by decide +kernel
theorem dX9_which_20 : decode cX9_which 20 = .ok (.ifCond .ne 5, 3) := by decide +kernel
theorem dX9_which_23 : decode cX9_which 23 = .ok (.iconst (-1), 1) := by decide +kernel
theorem dX9_which_24 : decode cX9_which 24 = .ok (.ireturn, 1) := by decide +kernel
theorem dX9_which_25 : decode cX9_which 25 = .ok (.iconst 0, 1) := by decide +kernel
theorem dX9_which_26 : decode cX9_which 26 = .ok (.istore_n 3, 1) := by decide +kernel
theorem dX9_which_27 : decode cX9_which 27 = .ok (.iconst 0, 1) := by decide +kernel
theorem dX9_which_28 : decode cX9_which 28 = .ok (.istore 4, 2) := by decide +kernel
theorem dX9_which_30 : decode cX9_which 30 = .ok (.iload 4, 2) := by decide +kernel
theorem dX9_which_32 : decode cX9_which 32 = .ok (.aload_n 0, 1) := by decide +kernel
theorem dX9_which_33 : decode cX9_which 33 = .ok (.getfield 13, 3) := by decide +kernel
theorem dX9_which_36 : decode cX9_which 36 = .ok (.iconst 0, 1) := by decide +kernel
theorem dX9_which_37 : decode cX9_which 37 = .ok (.iaload, 1) := by decide +kernel
theorem dX9_which_38 : decode cX9_which 38 = .ok (.if_icmp .ge 38, 3) := by decide +kernel
theorem dX9_which_41 : decode cX9_which 41 = .ok (.iload_n 3, 1) := by decide +kernel
theorem dX9_which_42 : decode cX9_which 42 = .ok (.aload_n 0, 1) := by decide +kernel
theorem dX9_which_43 : decode cX9_which 43 = .ok (.getfield 25, 3) := by decide +kernel
theorem dX9_which_46 : decode cX9_which 46 = .ok (.iload_n 1, 1) := by decide +kernel
theorem dX9_which_47 : decode cX9_which 47 = .ok (.iaload, 1) := by decide +kernel
theorem dX9_which_48 : decode cX9_which 48 = .ok (.aload_n 0, 1) := by decide +kernel
theorem dX9_which_49 : decode cX9_which 49 = .ok (.getfield 19, 3) := by decide +kernel
theorem dX9_which_52 : decode cX9_which 52 = .ok (.iload 4, 2) := by decide +kernel
theorem dX9_which_54 : decode cX9_which 54 = .ok (.iaload, 1) := by decide +kernel
theorem dX9_which_55 : decode cX9_which 55 = .ok (.imul, 1) := by decide +kernel
theorem dX9_which_56 : decode cX9_which 56 = .ok (.iload_n 2, 1) := by decide +kernel
theorem dX9_which_57 : decode cX9_which 57 = .ok (.if_icmp .ne 10, 3) := by decide +kernel
theorem dX9_which_60 : decode cX9_which 60 = .ok (.iconst 1, 1) := by decide +kernel
theorem dX9_which_61 : decode cX9_which 61 = .ok (.iload 4, 2) := by decide +kernel
theorem dX9_which_63 : decode cX9_which 63 = .ok (.ishl, 1) := by decide +kernel
theorem dX9_which_64 : decode cX9_which 64 = .ok (.goto 4, 3) := by decide +kernel
theorem dX9_which_67 : decode cX9_which 67 = .ok (.iconst 0, 1) := by decide +kernel
theorem dX9_which_68 : decode cX9_which 68 = .ok (.ior, 1) := by decide +kernel
theorem dX9_which_69 : decode cX9_which 69 = .ok (.istore_n 3, 1) := by decide +kernel
theorem dX9_which_70 : decode cX9_which 70 = .ok (.iinc 4 1, 3) := by decide +kernel
theorem dX9_which_73 : decode cX9_which 73 = .ok (.goto (-43), 3) := by decide +kernel
theorem dX9_which_76 : decode cX9_which 76 = .ok (.iload_n 3, 1) := by decide +kernel
theorem dX9_which_77 : decode cX9_which 77 = .ok (.ireturn, 1) := by decide +kernel
theorem dX9_power_0 : decode cX9_power 0 = .ok (.iconst 1, 1) := by decide +kernel
theorem dX9_power_1 : decode cX9_power 1 = .ok (.istore_n 2, 1) := by decide +kernel
theorem dX9_power_2 : decode cX9_power 2 = .ok (.iconst 0, 1) := by decide +kernel
theorem dX9_power_3 : decode cX9_power 3 = .ok (.istore_n 3, 1) := by decide +kernel
theorem dX9_power_4 : decode cX9_power 4 = .ok (.iload_n 3, 1) := by decide +kernel
theorem dX9_power_5 : decode cX9_power 5 = .ok (.iload_n 1, 1) := by decide +kernel
theorem dX9_power_6 : decode cX9_power 6 = .ok (.if_icmp .ge 13, 3) := by decide +kernel
theorem dX9_power_9 : decode cX9_power 9 = .ok (.iload_n 2, 1) := by decide +kernel
theorem dX9_power_10 : decode cX9_power 10 = .ok (.iload_n 0, 1) := by decide +kernel
theorem dX9_power_11 : decode cX9_power 11 = .ok (.imul, 1) := by decide +kernel
theorem dX9_power_12 : decode cX9_power 12 = .ok (.istore_n 2, 1) := by decide +kernel
theorem dX9_power_13 : decode cX9_power 13 = .ok (.iinc 3 1, 3) := by decide +kernel
theorem dX9_power_16 : decode cX9_power 16 = .ok (.goto (-12), 3) := by decide +kernel
theorem dX9_power_19 : decode cX9_power 19 = .ok (.iload_n 2, 1) := by decide +kernel
theorem dX9_power_20 : decode cX9_power 20 = .ok (.ireturn, 1) := by decide +kernel
theorem dX9_gcd_0 : decode cX9_gcd 0 = .ok (.iload_n 0, 1) := by decide +kernel
theorem dX9_gcd_1 : decode cX9_gcd 1 = .ok (.istore_n 2, 1) := by decide +kernel
theorem dX9_gcd_2 : decode cX9_gcd 2 = .ok (.iload_n 1, 1) := by decide +kernel
theorem dX9_gcd_3 : decode cX9_gcd 3 = .ok (.istore_n 3, 1) := by decide +kernel
theorem dX9_gcd_4 : decode cX9_gcd 4 = .ok (.iload_n 3, 1) := by decide +kernel
theorem dX9_gcd_5 : decode cX9_gcd 5 = .ok (.ifCond .eq 16, 3) := by decide +kernel
theorem dX9_gcd_8 : decode cX9_gcd 8 = .ok (.iload_n 2, 1) := by decide +kernel
theorem dX9_gcd_9 : decode cX9_gcd 9 = .ok (.iload_n 3, 1) := by decide +kernel
theorem dX9_gcd_10 : decode cX9_gcd 10 = .ok (.irem, 1) := by decide +kernel
theorem dX9_gcd_11 : decode cX9_gcd 11 = .ok (.istore 4, 2) := by decide +kernel
theorem dX9_gcd_13 : decode cX9_gcd 13 = .ok (.iload_n 3, 1) := by decide +kernel
theorem dX9_gcd_14 : decode cX9_gcd 14 = .ok (.istore_n 2, 1) := by decide +kernel
theorem dX9_gcd_15 : decode cX9_gcd 15 = .ok (.iload 4, 2) := by decide +kernel
theorem dX9_gcd_17 : decode cX9_gcd 17 = .ok (.istore_n 3, 1) := by decide +kernel
theorem dX9_gcd_18 : decode cX9_gcd 18 = .ok (.goto (-14), 3) := by decide +kernel
theorem dX9_gcd_21 : decode cX9_gcd 21 = .ok (.iload_n 2, 1) := by decide +kernel
theorem dX9_gcd_22 : decode cX9_gcd 22 = .ok (.ireturn, 1) := by decide +kernel
theorem dX9_odds_0 : decode cX9_odds 0 = .ok (.aload_n 0, 1) := by decide +kernel
theorem dX9_odds_1 : decode cX9_odds 1 = .ok (.iconst 0, 1) := by decide +kernel
theorem dX9_odds_2 : decode cX9_odds 2 = .ok (.putfield 74, 3) := by decide +kernel
theorem dX9_odds_5 : decode cX9_odds 5 = .ok (.aload_n 0, 1) := by decide +kernel
theorem dX9_odds_6 : decode cX9_odds 6 = .ok (.iload_n 1, 1) := by decide +kernel
theorem dX9_odds_7 : decode cX9_odds 7 = .ok (.invokevirtual 142, 3) := by decide +kernel
theorem dX9_odds_10 : decode cX9_odds 10 = .ok (.ifCond .eq 42, 3) := by decide +kernel
theorem dX9_odds_13 : decode cX9_odds 13 = .ok (.aload_n 0, 1) := by decide +kernel
theorem dX9_odds_14 : decode cX9_odds 14 = .ok (.iload_n 2, 1) := by decide +kernel
theorem dX9_odds_15 : decode cX9_odds 15 = .ok (.invokevirtual 149, 3) := by decide +kernel
theorem dX9_odds_18 : decode cX9_odds 18 = .ok (.ifCond .eq 34, 3) := by decide +kernel
theorem dX9_odds_21 : decode cX9_odds 21 = .ok (.iload_n 3, 1) := by decide +kernel
theorem dX9_odds_22 : decode cX9_odds 22 = .ok (.iconst 0, 1) := by decide +kernel
theorem dX9_odds_23 : decode cX9_odds 23 = .ok (.bipush 10, 2) := by decide +kernel
theorem dX9_odds_25 : decode cX9_odds 25 = .ok (.invokestatic 78, 3) := by decide +kernel
theorem dX9_odds_28 : decode cX9_odds 28 = .ok (.ifCond .eq 24, 3) := by decide +kernel
theorem dX9_odds_31 : decode cX9_odds 31 = .ok (.iload 4, 2) := by decide +kernel
theorem dX9_odds_33 : decode cX9_odds 33 = .ok (.iconst 0, 1) := by decide +kernel
theorem dX9_odds_34 : decode cX9_odds 34 = .ok (.bipush 6, 2) := by decide +kernel
theorem dX9_odds_36 : decode cX9_odds 36 = .ok (.invokestatic 78, 3) := by decide +kernel
theorem dX9_odds_39 : decode cX9_odds 39 = .ok (.ifCond .eq 13, 3) := by decide +kernel
theorem dX9_odds_42 : decode cX9_odds 42 = .ok (.iload 5, 2) := by decide +kernel
theorem dX9_odds_44 : decode cX9_odds 44 = .ok (.iconst 0, 1) := by decide +kernel
theorem dX9_odds_45 : decode cX9_odds 45 = .ok (.iconst 1, 1) := by decide +kernel
theorem dX9_odds_46 : decode cX9_odds 46 = .ok (.invokestatic 78, 3) := by decide +kernel
theorem dX9_odds_49 : decode cX9_odds 49 = .ok (.ifCond .ne 5, 3) := by decide +kernel
theorem dX9_odds_52 : decode cX9_odds 52 = .ok (.iconst (-1), 1) := by decide +kernel
theorem dX9_odds_53 : decode cX9_odds 53 = .ok (.ireturn, 1) := by decide +kernel
theorem dX9_odds_54 : decode cX9_odds 54 = .ok (.aload_n 0, 1) := by decide +kernel
theorem dX9_odds_55 : decode cX9_odds 55 = .ok (.iload_n 1, 1) := by decide +kernel
theorem dX9_odds_56 : decode cX9_odds 56 = .ok (.invokevirtual 146, 3) := by decide +kernel
theorem dX9_odds_59 : decode cX9_odds 59 = .ok (.ifCond .eq 6, 3) := by decide +kernel
theorem dX9_odds_62 : decode cX9_odds 62 = .ok (.bipush (-2), 2) := by decide +kernel
theorem dX9_odds_64 : decode cX9_odds 64 = .ok (.ireturn, 1) := by decide +kernel
theorem dX9_odds_65 : decode cX9_odds 65 = .ok (.iconst 0, 1) := by decide +kernel
theorem dX9_odds_66 : decode cX9_odds 66 = .ok (.istore 6, 2) := by decide +kernel
theorem dX9_odds_68 : decode cX9_odds 68 = .ok (.iconst 0, 1) := by decide +kernel
theorem dX9_odds_69 : decode cX9_odds 69 = .ok (.istore 7, 2) := by decide +kernel
theorem dX9_odds_71 : decode cX9_odds 71 = .ok (.iload 7, 2) := by decide +kernel
theorem dX9_odds_73 : decode cX9_odds 73 = .ok (.iconst 1, 1) := by decide +kernel
theorem dX9_odds_74 : decode cX9_odds 74 = .ok (.iload 4, 2) := by decide +kernel
theorem dX9_odds_76 : decode cX9_odds 76 = .ok (.ishl, 1) := by decide +kernel
theorem dX9_odds_77 : decode cX9_odds 77 = .ok (.if_icmp .ge 72, 3) := by decide +kernel
theorem dX9_odds_80 : decode cX9_odds 80 = .ok (.iload 7, 2) := by decide +kernel
theorem dX9_odds_82 : decode cX9_odds 82 = .ok (.invokestatic 189, 3) := by decide +kernel
theorem dX9_odds_85 : decode cX9_odds 85 = .ok (.istore 8, 2) := by decide +kernel
theorem dX9_odds_87 : decode cX9_odds 87 = .ok (.iload 6, 2) := by decide +kernel
theorem dX9_odds_89 : decode cX9_odds 89 = .ok (.aload_n 0, 1) := by decide +kernel
theorem dX9_odds_90 : decode cX9_odds 90 = .ok (.getfield 34, 3) := by decide +kernel
theorem dX9_odds_93 : decode cX9_odds 93 = .ok (.iconst 5, 1) := by decide +kernel
theorem dX9_odds_94 : decode cX9_odds 94 = .ok (.iload_n 1, 1) := by decide +kernel
theorem dX9_odds_95 : decode cX9_odds 95 = .ok (.iadd, 1) := by decide +kernel
theorem dX9_odds_96 : decode cX9_odds 96 = .ok (.iaload, 1) := by decide +kernel
theorem dX9_odds_97 : decode cX9_odds 97 = .ok (.iload 8, 2) := by decide +kernel
theorem dX9_odds_99 : decode cX9_odds 99 = .ok (.aload_n 0, 1) := by decide +kernel
theorem dX9_odds_100 : decode cX9_odds 100 = .ok (.getfield 25, 3) := by decide +kernel
theorem dX9_odds_103 : decode cX9_odds 103 = .ok (.iload_n 2, 1) := by decide +kernel
theorem dX9_odds_104 : decode cX9_odds 104 = .ok (.iaload, 1) := by decide +kernel
theorem dX9_odds_105 : decode cX9_odds 105 = .ok (.imul, 1) := by decide +kernel
theorem dX9_odds_106 : decode cX9_odds 106 = .ok (.aload_n 0, 1) := by decide +kernel
theorem dX9_odds_107 : decode cX9_odds 107 = .ok (.getfield 19, 3) := by decide +kernel
theorem dX9_odds_110 : decode cX9_odds 110 = .ok (.iload_n 1, 1) := by decide +kernel
theorem dX9_odds_111 : decode cX9_odds 111 = .ok (.iaload, 1) := by decide +kernel
theorem dX9_odds_112 : decode cX9_odds 112 = .ok (.imul, 1) := by decide +kernel
theorem dX9_odds_113 : decode cX9_odds 113 = .ok (.isub, 1) := by decide +kernel
theorem dX9_odds_114 : decode cX9_odds 114 = .ok (.ifCond .ge 25, 3) := by decide +kernel
theorem dX9_odds_117 : decode cX9_odds 117 = .ok (.bipush 10, 2) := by decide +kernel
theorem dX9_odds_119 : decode cX9_odds 119 = .ok (.iload_n 3, 1) := by decide +kernel
theorem dX9_odds_120 : decode cX9_odds 120 = .ok (.isub, 1) := by decide +kernel
theorem dX9_odds_121 : decode cX9_odds 121 = .ok (.iload 8, 2) := by decide +kernel
theorem dX9_odds_123 : decode cX9_odds 123 = .ok (.invokestatic 195, 3) := by decide +kernel
theorem dX9_odds_126 : decode cX9_odds 126 = .ok (.iload_n 3, 1) := by decide +kernel
theorem dX9_odds_127 : decode cX9_odds 127 = .ok (.iload 4, 2) := by decide +kernel
theorem dX9_odds_129 : decode cX9_odds 129 = .ok (.iload 8, 2) := by decide +kernel
theorem dX9_odds_131 : decode cX9_odds 131 = .ok (.isub, 1) := by decide +kernel
theorem dX9_odds_132 : decode cX9_odds 132 = .ok (.invokestatic 195, 3) := by decide +kernel
theorem dX9_odds_135 : decode cX9_odds 135 = .ok (.imul, 1) := by decide +kernel
theorem dX9_odds_136 : decode cX9_odds 136 = .ok (.goto 4, 3) := by decide +kernel
theorem dX9_odds_139 : decode cX9_odds 139 = .ok (.iconst 0, 1) := by decide +kernel
theorem dX9_odds_140 : decode cX9_odds 140 = .ok (.iadd, 1) := by decide +kernel
theorem dX9_odds_141 : decode cX9_odds 141 = .ok (.istore 6, 2) := by decide +kernel
theorem dX9_odds_143 : decode cX9_odds 143 = .ok (.iinc 7 1, 3) := by decide +kernel
theorem dX9_odds_146 : decode cX9_odds 146 = .ok (.goto (-75), 3) := by decide +kernel
theorem dX9_odds_149 : decode cX9_odds 149 = .ok (.bipush 10, 2) := by decide +kernel
theorem dX9_odds_151 : decode cX9_odds 151 = .ok (.iload 4, 2) := by decide +kernel
theorem dX9_odds_153 : decode cX9_odds 153 = .ok (.invokestatic 195, 3) := by decide +kernel
theorem dX9_odds_156 : decode cX9_odds 156 = .ok (.istore 7, 2) := by decide +kernel
theorem dX9_odds_158 : decode cX9_odds 158 = .ok (.iload 6, 2) := by decide +kernel
theorem dX9_odds_160 : decode cX9_odds 160 = .ok (.iload 7, 2) := by decide +kernel
theorem dX9_odds_162 : decode cX9_odds 162 = .ok (.invokestatic 198, 3) := by decide +kernel
theorem dX9_odds_165 : decode cX9_odds 165 = .ok (.istore 8, 2) := by decide +kernel
theorem dX9_odds_167 : decode cX9_odds 167 = .ok (.iload 5, 2) := by decide +kernel
theorem dX9_odds_169 : decode cX9_odds 169 = .ok (.ifCond .ne 11, 3) := by decide +kernel
theorem dX9_odds_172 : decode cX9_odds 172 = .ok (.iload 6, 2) := by decide +kernel
theorem dX9_odds_174 : decode cX9_odds 174 = .ok (.iload 8, 2) := by decide +kernel
theorem dX9_odds_176 : decode cX9_odds 176 = .ok (.idiv, 1) := by decide +kernel
theorem dX9_odds_177 : decode cX9_odds 177 = .ok (.goto 8, 3) := by decide +kernel
theorem dX9_odds_180 : decode cX9_odds 180 = .ok (.iload 7, 2) := by decide +kernel
theorem dX9_odds_182 : decode cX9_odds 182 = .ok (.iload 8, 2) := by decide +kernel
theorem dX9_odds_184 : decode cX9_odds 184 = .ok (.idiv, 1) := by decide +kernel
theorem dX9_odds_185 : decode cX9_odds 185 = .ok (.ireturn, 1) := by decide +kernel
theorem dX9_rate_0 : decode cX9_rate 0 = .ok (.aload_n 0, 1) := by decide +kernel
theorem dX9_rate_1 : decode cX9_rate 1 = .ok (.iconst 0, 1) := by decide +kernel
theorem dX9_rate_2 : decode cX9_rate 2 = .ok (.putfield 74, 3) := by decide +kernel
theorem dX9_rate_5 : decode cX9_rate 5 = .ok (.iload_n 1, 1) := by decide +kernel
theorem dX9_rate_6 : decode cX9_rate 6 = .ok (.iconst 0, 1) := by decide +kernel
theorem dX9_rate_7 : decode cX9_rate 7 = .ok (.iconst 5, 1) := by decide +kernel
theorem dX9_rate_8 : decode cX9_rate 8 = .ok (.invokestatic 78, 3) := by decide +kernel
theorem dX9_rate_11 : decode cX9_rate 11 = .ok (.ifCond .eq 11, 3) := by decide +kernel
theorem dX9_rate_14 : decode cX9_rate 14 = .ok (.aload_n 0, 1) := by decide +kernel
theorem dX9_rate_15 : decode cX9_rate 15 = .ok (.iload_n 2, 1) := by decide +kernel
theorem dX9_rate_16 : decode cX9_rate 16 = .ok (.invokevirtual 142, 3) := by decide +kernel
theorem dX9_rate_19 : decode cX9_rate 19 = .ok (.ifCond .ne 6, 3) := by decide +kernel
theorem dX9_rate_22 : decode cX9_rate 22 = .ok (.ldc 145, 2) := by decide +kernel
theorem dX9_rate_24 : decode cX9_rate 24 = .ok (.ireturn, 1) := by decide +kernel
theorem dX9_rate_25 : decode cX9_rate 25 = .ok (.aload_n 0, 1) := by decide +kernel
theorem dX9_rate_26 : decode cX9_rate 26 = .ok (.getfield 34, 3) := by decide +kernel
theorem dX9_rate_29 : decode cX9_rate 29 = .ok (.iconst 5, 1) := by decide +kernel
theorem dX9_rate_30 : decode cX9_rate 30 = .ok (.iload_n 2, 1) := by decide +kernel
theorem dX9_rate_31 : decode cX9_rate 31 = .ok (.iadd, 1) := by decide +kernel
theorem dX9_rate_32 : decode cX9_rate 32 = .ok (.iaload, 1) := by decide +kernel
theorem dX9_rate_33 : decode cX9_rate 33 = .ok (.istore_n 3, 1) := by decide +kernel
theorem dX9_rate_34 : decode cX9_rate 34 = .ok (.iload_n 3, 1) := by decide +kernel
theorem dX9_rate_35 : decode cX9_rate 35 = .ok (.aload_n 0, 1) := by decide +kernel
theorem dX9_rate_36 : decode cX9_rate 36 = .ok (.getfield 22, 3) := by decide +kernel
theorem dX9_rate_39 : decode cX9_rate 39 = .ok (.iload_n 2, 1) := by decide +kernel
theorem dX9_rate_40 : decode cX9_rate 40 = .ok (.iaload, 1) := by decide +kernel
theorem dX9_rate_41 : decode cX9_rate 41 = .ok (.iadd, 1) := by decide +kernel
theorem dX9_rate_42 : decode cX9_rate 42 = .ok (.istore 4, 2) := by decide +kernel
theorem dX9_rate_44 : decode cX9_rate 44 = .ok (.iload_n 3, 1) := by decide +kernel
theorem dX9_rate_45 : decode cX9_rate 45 = .ok (.aload_n 0, 1) := by decide +kernel
theorem dX9_rate_46 : decode cX9_rate 46 = .ok (.getfield 19, 3) := by decide +kernel
theorem dX9_rate_49 : decode cX9_rate 49 = .ok (.iload_n 2, 1) := by decide +kernel
theorem dX9_rate_50 : decode cX9_rate 50 = .ok (.iaload, 1) := by decide +kernel
theorem dX9_rate_51 : decode cX9_rate 51 = .ok (.isub, 1) := by decide +kernel
theorem dX9_rate_52 : decode cX9_rate 52 = .ok (.istore 5, 2) := by decide +kernel
theorem dX9_rate_54 : decode cX9_rate 54 = .ok (.aload_n 0, 1) := by decide +kernel
theorem dX9_rate_55 : decode cX9_rate 55 = .ok (.dup, 1) := by decide +kernel
theorem dX9_rate_56 : decode cX9_rate 56 = .ok (.getfield 201, 3) := by decide +kernel
theorem dX9_rate_59 : decode cX9_rate 59 = .ok (.iload_n 1, 1) := by decide +kernel
theorem dX9_rate_60 : decode cX9_rate 60 = .ok (.ifCond .ne 7, 3) := by decide +kernel
theorem dX9_rate_63 : decode cX9_rate 63 = .ok (.lconst 1, 1) := by decide +kernel
theorem dX9_rate_64 : decode cX9_rate 64 = .ok (.goto 50, 3) := by decide +kernel
theorem dX9_rate_67 : decode cX9_rate 67 = .ok (.iload_n 1, 1) := by decide +kernel
theorem dX9_rate_68 : decode cX9_rate 68 = .ok (.iconst 1, 1) := by decide +kernel
theorem dX9_rate_69 : decode cX9_rate 69 = .ok (.if_icmp .ne 9, 3) := by decide +kernel
theorem dX9_rate_72 : decode cX9_rate 72 = .ok (.ldc2_w 205, 3) := by decide +kernel
theorem dX9_rate_75 : decode cX9_rate 75 = .ok (.goto 39, 3) := by decide +kernel
theorem dX9_rate_78 : decode cX9_rate 78 = .ok (.iload_n 1, 1) := by decide +kernel
theorem dX9_rate_79 : decode cX9_rate 79 = .ok (.iconst 2, 1) := by decide +kernel
theorem dX9_rate_80 : decode cX9_rate 80 = .ok (.if_icmp .ne 9, 3) := by decide +kernel
theorem dX9_rate_83 : decode cX9_rate 83 = .ok (.ldc2_w 207, 3) := by decide +kernel
theorem dX9_rate_86 : decode cX9_rate 86 = .ok (.goto 28, 3) := by decide +kernel
theorem dX9_rate_89 : decode cX9_rate 89 = .ok (.iload_n 1, 1) := by decide +kernel
theorem dX9_rate_90 : decode cX9_rate 90 = .ok (.iconst 3, 1) := by decide +kernel
theorem dX9_rate_91 : decode cX9_rate 91 = .ok (.if_icmp .ne 9, 3) := by decide +kernel
theorem dX9_rate_94 : decode cX9_rate 94 = .ok (.ldc2_w 209, 3) := by decide +kernel
theorem dX9_rate_97 : decode cX9_rate 97 = .ok (.goto 17, 3) := by decide +kernel
theorem dX9_rate_100 : decode cX9_rate 100 = .ok (.iload_n 1, 1) := by decide +kernel
theorem dX9_rate_101 : decode cX9_rate 101 = .ok (.iconst 4, 1) := by decide +kernel
theorem dX9_rate_102 : decode cX9_rate 102 = .ok (.if_icmp .ne 9, 3) := by decide +kernel
theorem dX9_rate_105 : decode cX9_rate 105 = .ok (.ldc2_w 211, 3) := by decide +kernel
theorem dX9_rate_108 : decode cX9_rate 108 = .ok (.goto 6, 3) := by decide +kernel
theorem dX9_rate_111 : decode cX9_rate 111 = .ok (.ldc2_w 213, 3) := by decide +kernel
theorem dX9_rate_114 : decode cX9_rate 114 = .ok (.ladd, 1) := by decide +kernel
theorem dX9_rate_115 : decode cX9_rate 115 = .ok (.putfield 201, 3) := by decide +kernel
theorem dX9_rate_118 : decode cX9_rate 118 = .ok (.iload_n 1, 1) := by decide +kernel
theorem dX9_rate_119 : decode cX9_rate 119 = .ok (.ifCond .ne 7, 3) := by decide +kernel
theorem dX9_rate_122 : decode cX9_rate 122 = .ok (.iload_n 3, 1) := by decide +kernel
theorem dX9_rate_123 : decode cX9_rate 123 = .ok (.goto 53, 3) := by decide +kernel
theorem dX9_rate_126 : decode cX9_rate 126 = .ok (.iload_n 1, 1) := by decide +kernel
theorem dX9_rate_127 : decode cX9_rate 127 = .ok (.iconst 1, 1) := by decide +kernel
theorem dX9_rate_128 : decode cX9_rate 128 = .ok (.if_icmp .ne 8, 3) := by decide +kernel
theorem dX9_rate_131 : decode cX9_rate 131 = .ok (.iload 4, 2) := by decide +kernel
theorem dX9_rate_133 : decode cX9_rate 133 = .ok (.goto 43, 3) := by decide +kernel
theorem dX9_rate_136 : decode cX9_rate 136 = .ok (.iload_n 1, 1) := by decide +kernel
theorem dX9_rate_137 : decode cX9_rate 137 = .ok (.iconst 2, 1) := by decide +kernel
theorem dX9_rate_138 : decode cX9_rate 138 = .ok (.if_icmp .ne 8, 3) := by decide +kernel
theorem dX9_rate_141 : decode cX9_rate 141 = .ok (.iload 5, 2) := by decide +kernel
theorem dX9_rate_143 : decode cX9_rate 143 = .ok (.goto 33, 3) := by decide +kernel
theorem dX9_rate_146 : decode cX9_rate 146 = .ok (.iload_n 1, 1) := by decide +kernel
theorem dX9_rate_147 : decode cX9_rate 147 = .ok (.iconst 3, 1) := by decide +kernel
theorem dX9_rate_148 : decode cX9_rate 148 = .ok (.if_icmp .ne 10, 3) := by decide +kernel
theorem dX9_rate_151 : decode cX9_rate 151 = .ok (.iconst 2, 1) := by decide +kernel
theorem dX9_rate_152 : decode cX9_rate 152 = .ok (.iload 4, 2) := by decide +kernel
theorem dX9_rate_154 : decode cX9_rate 154 = .ok (.imul, 1) := by decide +kernel
theorem dX9_rate_155 : decode cX9_rate 155 = .ok (.goto 21, 3) := by decide +kernel
theorem dX9_rate_158 : decode cX9_rate 158 = .ok (.iload_n 1, 1) := by decide +kernel
theorem dX9_rate_159 : decode cX9_rate 159 = .ok (.iconst 4, 1) := by decide +kernel
theorem dX9_rate_160 : decode cX9_rate 160 = .ok (.if_icmp .ne 10, 3) := by decide +kernel
theorem dX9_rate_163 : decode cX9_rate 163 = .ok (.iload 5, 2) := by decide +kernel
theorem dX9_rate_165 : decode cX9_rate 165 = .ok (.iload_n 2, 1) := by decide +kernel
theorem dX9_rate_166 : decode cX9_rate 166 = .ok (.iadd, 1) := by decide +kernel
theorem dX9_rate_167 : decode cX9_rate 167 = .ok (.goto 9, 3) := by decide +kernel
theorem dX9_rate_170 : decode cX9_rate 170 = .ok (.iload_n 3, 1) := by decide +kernel
theorem dX9_rate_171 : decode cX9_rate 171 = .ok (.aload_n 0, 1) := by decide +kernel
theorem dX9_rate_172 : decode cX9_rate 172 = .ok (.invokevirtual 152, 3) := by decide +kernel
theorem dX9_rate_175 : decode cX9_rate 175 = .ok (.iadd, 1) := by decide +kernel
theorem dX9_rate_176 : decode cX9_rate 176 = .ok (.ireturn, 1) := by decide +kernel
theorem dX9_keep_0 : decode cX9_keep 0 = .ok (.aload_n 0, 1) := by decide +kernel
theorem dX9_keep_1 : decode cX9_keep 1 = .ok (.iconst 0, 1) := by decide +kernel
theorem dX9_keep_2 : decode cX9_keep 2 = .ok (.putfield 74, 3) := by decide +kernel
theorem dX9_keep_5 : decode cX9_keep 5 = .ok (.iload_n 1, 1) := by decide +kernel
theorem dX9_keep_6 : decode cX9_keep 6 = .ok (.iconst 0, 1) := by decide +kernel
theorem dX9_keep_7 : decode cX9_keep 7 = .ok (.iconst 1, 1) := by decide +kernel
theorem dX9_keep_8 : decode cX9_keep 8 = .ok (.invokestatic 78, 3) := by decide +kernel
theorem dX9_keep_11 : decode cX9_keep 11 = .ok (.ifCond .ne 5, 3) := by decide +kernel
theorem dX9_keep_14 : decode cX9_keep 14 = .ok (.iconst (-1), 1) := by decide +kernel
theorem dX9_keep_15 : decode cX9_keep 15 = .ok (.ireturn, 1) := by decide +kernel
theorem dX9_keep_16 : decode cX9_keep 16 = .ok (.iconst 0, 1) := by decide +kernel
theorem dX9_keep_17 : decode cX9_keep 17 = .ok (.istore_n 2, 1) := by decide +kernel
theorem dX9_keep_18 : decode cX9_keep 18 = .ok (.iload_n 2, 1) := by decide +kernel
theorem dX9_keep_19 : decode cX9_keep 19 = .ok (.bipush 15, 2) := by decide +kernel
theorem dX9_keep_21 : decode cX9_keep 21 = .ok (.if_icmp .ge 26, 3) := by decide +kernel
theorem dX9_keep_24 : decode cX9_keep 24 = .ok (.aload_n 0, 1) := by decide +kernel
theorem dX9_keep_25 : decode cX9_keep 25 = .ok (.getfield 37, 3) := by decide +kernel
theorem dX9_keep_28 : decode cX9_keep 28 = .ok (.bipush 15, 2) := by decide +kernel
theorem dX9_keep_30 : decode cX9_keep 30 = .ok (.iload_n 1, 1) := by decide +kernel
theorem dX9_keep_31 : decode cX9_keep 31 = .ok (.imul, 1) := by decide +kernel
theorem dX9_keep_32 : decode cX9_keep 32 = .ok (.iload_n 2, 1) := by decide +kernel
theorem dX9_keep_33 : decode cX9_keep 33 = .ok (.iadd, 1) := by decide +kernel
theorem dX9_keep_34 : decode cX9_keep 34 = .ok (.aload_n 0, 1) := by decide +kernel
theorem dX9_keep_35 : decode cX9_keep 35 = .ok (.getfield 34, 3) := by decide +kernel
theorem dX9_keep_38 : decode cX9_keep 38 = .ok (.iload_n 2, 1) := by decide +kernel
theorem dX9_keep_39 : decode cX9_keep 39 = .ok (.iaload, 1) := by decide +kernel
theorem dX9_keep_40 : decode cX9_keep 40 = .ok (.iastore, 1) := by decide +kernel
theorem dX9_keep_41 : decode cX9_keep 41 = .ok (.iinc 2 1, 3) := by decide +kernel
theorem dX9_keep_44 : decode cX9_keep 44 = .ok (.goto (-26), 3) := by decide +kernel
theorem dX9_keep_47 : decode cX9_keep 47 = .ok (.aload_n 0, 1) := by decide +kernel
theorem dX9_keep_48 : decode cX9_keep 48 = .ok (.getfield 40, 3) := by decide +kernel
theorem dX9_keep_51 : decode cX9_keep 51 = .ok (.iload_n 1, 1) := by decide +kernel
theorem dX9_keep_52 : decode cX9_keep 52 = .ok (.iconst 1, 1) := by decide +kernel
theorem dX9_keep_53 : decode cX9_keep 53 = .ok (.bastore, 1) := by decide +kernel
theorem dX9_keep_54 : decode cX9_keep 54 = .ok (.aload_n 0, 1) := by decide +kernel
theorem dX9_keep_55 : decode cX9_keep 55 = .ok (.getfield 34, 3) := by decide +kernel
theorem dX9_keep_58 : decode cX9_keep 58 = .ok (.iconst 2, 1) := by decide +kernel
theorem dX9_keep_59 : decode cX9_keep 59 = .ok (.iaload, 1) := by decide +kernel
theorem dX9_keep_60 : decode cX9_keep 60 = .ok (.ireturn, 1) := by decide +kernel
theorem dX9_back_0 : decode cX9_back 0 = .ok (.aload_n 0, 1) := by decide +kernel
theorem dX9_back_1 : decode cX9_back 1 = .ok (.iconst 0, 1) := by decide +kernel
theorem dX9_back_2 : decode cX9_back 2 = .ok (.putfield 74, 3) := by decide +kernel
theorem dX9_back_5 : decode cX9_back 5 = .ok (.iload_n 1, 1) := by decide +kernel
theorem dX9_back_6 : decode cX9_back 6 = .ok (.iconst 0, 1) := by decide +kernel
theorem dX9_back_7 : decode cX9_back 7 = .ok (.iconst 1, 1) := by decide +kernel
theorem dX9_back_8 : decode cX9_back 8 = .ok (.invokestatic 78, 3) := by decide +kernel
theorem dX9_back_11 : decode cX9_back 11 = .ok (.ifCond .ne 5, 3) := by decide +kernel
theorem dX9_back_14 : decode cX9_back 14 = .ok (.iconst (-1), 1) := by decide +kernel
theorem dX9_back_15 : decode cX9_back 15 = .ok (.ireturn, 1) := by decide +kernel
theorem dX9_back_16 : decode cX9_back 16 = .ok (.aload_n 0, 1) := by decide +kernel
theorem dX9_back_17 : decode cX9_back 17 = .ok (.getfield 40, 3) := by decide +kernel
theorem dX9_back_20 : decode cX9_back 20 = .ok (.iload_n 1, 1) := by decide +kernel
theorem dX9_back_21 : decode cX9_back 21 = .ok (.baload, 1) := by decide +kernel
theorem dX9_back_22 : decode cX9_back 22 = .ok (.ifCond .ne 6, 3) := by decide +kernel
theorem dX9_back_25 : decode cX9_back 25 = .ok (.bipush (-2), 2) := by decide +kernel
theorem dX9_back_27 : decode cX9_back 27 = .ok (.ireturn, 1) := by decide +kernel
theorem dX9_back_28 : decode cX9_back 28 = .ok (.iconst 0, 1) := by decide +kernel
theorem dX9_back_29 : decode cX9_back 29 = .ok (.istore_n 2, 1) := by decide +kernel
theorem dX9_back_30 : decode cX9_back 30 = .ok (.iload_n 2, 1) := by decide +kernel
theorem dX9_back_31 : decode cX9_back 31 = .ok (.bipush 15, 2) := by decide +kernel
theorem dX9_back_33 : decode cX9_back 33 = .ok (.if_icmp .ge 26, 3) := by decide +kernel
theorem dX9_back_36 : decode cX9_back 36 = .ok (.aload_n 0, 1) := by decide +kernel
theorem dX9_back_37 : decode cX9_back 37 = .ok (.getfield 34, 3) := by decide +kernel
theorem dX9_back_40 : decode cX9_back 40 = .ok (.iload_n 2, 1) := by decide +kernel
theorem dX9_back_41 : decode cX9_back 41 = .ok (.aload_n 0, 1) := by decide +kernel
theorem dX9_back_42 : decode cX9_back 42 = .ok (.getfield 37, 3) := by decide +kernel
theorem dX9_back_45 : decode cX9_back 45 = .ok (.bipush 15, 2) := by decide +kernel
theorem dX9_back_47 : decode cX9_back 47 = .ok (.iload_n 1, 1) := by decide +kernel
theorem dX9_back_48 : decode cX9_back 48 = .ok (.imul, 1) := by decide +kernel
theorem dX9_back_49 : decode cX9_back 49 = .ok (.iload_n 2, 1) := by decide +kernel
theorem dX9_back_50 : decode cX9_back 50 = .ok (.iadd, 1) := by decide +kernel
theorem dX9_back_51 : decode cX9_back 51 = .ok (.iaload, 1) := by decide +kernel
theorem dX9_back_52 : decode cX9_back 52 = .ok (.iastore, 1) := by decide +kernel
theorem dX9_back_53 : decode cX9_back 53 = .ok (.iinc 2 1, 3) := by decide +kernel
theorem dX9_back_56 : decode cX9_back 56 = .ok (.goto (-26), 3) := by decide +kernel
theorem dX9_back_59 : decode cX9_back 59 = .ok (.aload_n 0, 1) := by decide +kernel
theorem dX9_back_60 : decode cX9_back 60 = .ok (.iconst 0, 1) := by decide +kernel
theorem dX9_back_61 : decode cX9_back 61 = .ok (.putfield 139, 3) := by decide +kernel
theorem dX9_back_64 : decode cX9_back 64 = .ok (.aload_n 0, 1) := by decide +kernel
theorem dX9_back_65 : decode cX9_back 65 = .ok (.getfield 34, 3) := by decide +kernel
theorem dX9_back_68 : decode cX9_back 68 = .ok (.iconst 2, 1) := by decide +kernel
theorem dX9_back_69 : decode cX9_back 69 = .ok (.iaload, 1) := by decide +kernel
theorem dX9_back_70 : decode cX9_back 70 = .ok (.ireturn, 1) := by decide +kernel
theorem dX9_count_0 : decode cX9_count 0 = .ok (.aload_n 0, 1) := by decide +kernel
theorem dX9_count_1 : decode cX9_count 1 = .ok (.iconst 0, 1) := by decide +kernel
theorem dX9_count_2 : decode cX9_count 2 = .ok (.putfield 74, 3) := by decide +kernel
theorem dX9_count_5 : decode cX9_count 5 = .ok (.iload_n 1, 1) := by decide +kernel
theorem dX9_count_6 : decode cX9_count 6 = .ok (.iconst 0, 1) := by decide +kernel
theorem dX9_count_7 : decode cX9_count 7 = .ok (.iconst 5, 1) := by decide +kernel
theorem dX9_count_8 : decode cX9_count 8 = .ok (.invokestatic 78, 3) := by decide +kernel
theorem dX9_count_11 : decode cX9_count 11 = .ok (.ifCond .eq 12, 3) := by decide +kernel
theorem dX9_count_14 : decode cX9_count 14 = .ok (.aload_n 0, 1) := by decide +kernel
theorem dX9_count_15 : decode cX9_count 15 = .ok (.getfield 13, 3) := by decide +kernel
theorem dX9_count_18 : decode cX9_count 18 = .ok (.iload_n 1, 1) := by decide +kernel
theorem dX9_count_19 : decode cX9_count 19 = .ok (.iaload, 1) := by decide +kernel
theorem dX9_count_20 : decode cX9_count 20 = .ok (.goto 30, 3) := by decide +kernel
theorem dX9_count_23 : decode cX9_count 23 = .ok (.iload_n 1, 1) := by decide +kernel
theorem dX9_count_24 : decode cX9_count 24 = .ok (.bipush 6, 2) := by decide +kernel
theorem dX9_count_26 : decode cX9_count 26 = .ok (.if_icmp .ne 10, 3) := by decide +kernel
theorem dX9_count_29 : decode cX9_count 29 = .ok (.aload_n 0, 1) := by decide +kernel
theorem dX9_count_30 : decode cX9_count 30 = .ok (.getfield 136, 3) := by decide +kernel
theorem dX9_count_33 : decode cX9_count 33 = .ok (.goto 17, 3) := by decide +kernel
theorem dX9_count_36 : decode cX9_count 36 = .ok (.iload_n 1, 1) := by decide +kernel
theorem dX9_count_37 : decode cX9_count 37 = .ok (.bipush 7, 2) := by decide +kernel
theorem dX9_count_39 : decode cX9_count 39 = .ok (.if_icmp .ne 10, 3) := by decide +kernel
theorem dX9_count_42 : decode cX9_count 42 = .ok (.aload_n 0, 1) := by decide +kernel
theorem dX9_count_43 : decode cX9_count 43 = .ok (.getfield 82, 3) := by decide +kernel
theorem dX9_count_46 : decode cX9_count 46 = .ok (.goto 4, 3) := by decide +kernel
theorem dX9_count_49 : decode cX9_count 49 = .ok (.iconst (-1), 1) := by decide +kernel
theorem dX9_count_50 : decode cX9_count 50 = .ok (.ireturn, 1) := by decide +kernel
theorem dX9_trace_0 : decode cX9_trace 0 = .ok (.aload_n 0, 1) := by decide +kernel
theorem dX9_trace_1 : decode cX9_trace 1 = .ok (.iconst 0, 1) := by decide +kernel
theorem dX9_trace_2 : decode cX9_trace 2 = .ok (.putfield 74, 3) := by decide +kernel
theorem dX9_trace_5 : decode cX9_trace 5 = .ok (.aload_n 0, 1) := by decide +kernel
theorem dX9_trace_6 : decode cX9_trace 6 = .ok (.getfield 201, 3) := by decide +kernel
theorem dX9_trace_9 : decode cX9_trace 9 = .ok (.lreturn, 1) := by decide +kernel
theorem dJ6_bitCount_0f7a4_0 : decode cJ6_bitCount_0f7a4 0 = .ok (.iload_n 0, 1) := by decide +kernel
theorem dJ6_bitCount_0f7a4_1 : decode cJ6_bitCount_0f7a4 1 = .ok (.iload_n 0, 1) := by decide +kernel
theorem dJ6_bitCount_0f7a4_2 : decode cJ6_bitCount_0f7a4 2 = .ok (.iconst 1, 1) := by decide +kernel
theorem dJ6_bitCount_0f7a4_3 : decode cJ6_bitCount_0f7a4 3 = .ok (.iushr, 1) := by decide +kernel
theorem dJ6_bitCount_0f7a4_4 : decode cJ6_bitCount_0f7a4 4 = .ok (.ldc_w 265, 3) := by decide +kernel
theorem dJ6_bitCount_0f7a4_7 : decode cJ6_bitCount_0f7a4 7 = .ok (.iand, 1) := by decide +kernel
theorem dJ6_bitCount_0f7a4_8 : decode cJ6_bitCount_0f7a4 8 = .ok (.isub, 1) := by decide +kernel
theorem dJ6_bitCount_0f7a4_9 : decode cJ6_bitCount_0f7a4 9 = .ok (.istore_n 0, 1) := by decide +kernel
theorem dJ6_bitCount_0f7a4_10 : decode cJ6_bitCount_0f7a4 10 = .ok (.iload_n 0, 1) := by decide +kernel
theorem dJ6_bitCount_0f7a4_11 : decode cJ6_bitCount_0f7a4 11 = .ok (.ldc_w 266, 3) := by decide +kernel
theorem dJ6_bitCount_0f7a4_14 : decode cJ6_bitCount_0f7a4 14 = .ok (.iand, 1) := by decide +kernel
theorem dJ6_bitCount_0f7a4_15 : decode cJ6_bitCount_0f7a4 15 = .ok (.iload_n 0, 1) := by decide +kernel
theorem dJ6_bitCount_0f7a4_16 : decode cJ6_bitCount_0f7a4 16 = .ok (.iconst 2, 1) := by decide +kernel
theorem dJ6_bitCount_0f7a4_17 : decode cJ6_bitCount_0f7a4 17 = .ok (.iushr, 1) := by decide +kernel
theorem dJ6_bitCount_0f7a4_18 : decode cJ6_bitCount_0f7a4 18 = .ok (.ldc_w 266, 3) := by decide +kernel
theorem dJ6_bitCount_0f7a4_21 : decode cJ6_bitCount_0f7a4 21 = .ok (.iand, 1) := by decide +kernel
theorem dJ6_bitCount_0f7a4_22 : decode cJ6_bitCount_0f7a4 22 = .ok (.iadd, 1) := by decide +kernel
theorem dJ6_bitCount_0f7a4_23 : decode cJ6_bitCount_0f7a4 23 = .ok (.istore_n 0, 1) := by decide +kernel
theorem dJ6_bitCount_0f7a4_24 : decode cJ6_bitCount_0f7a4 24 = .ok (.iload_n 0, 1) := by decide +kernel
theorem dJ6_bitCount_0f7a4_25 : decode cJ6_bitCount_0f7a4 25 = .ok (.iload_n 0, 1) := by decide +kernel
theorem dJ6_bitCount_0f7a4_26 : decode cJ6_bitCount_0f7a4 26 = .ok (.iconst 4, 1) := by decide +kernel
theorem dJ6_bitCount_0f7a4_27 : decode cJ6_bitCount_0f7a4 27 = .ok (.iushr, 1) := by decide +kernel
theorem dJ6_bitCount_0f7a4_28 : decode cJ6_bitCount_0f7a4 28 = .ok (.iadd, 1) := by decide +kernel
theorem dJ6_bitCount_0f7a4_29 : decode cJ6_bitCount_0f7a4 29 = .ok (.ldc_w 267, 3) := by decide +kernel
theorem dJ6_bitCount_0f7a4_32 : decode cJ6_bitCount_0f7a4 32 = .ok (.iand, 1) := by decide +kernel
theorem dJ6_bitCount_0f7a4_33 : decode cJ6_bitCount_0f7a4 33 = .ok (.istore_n 0, 1) := by decide +kernel
theorem dJ6_bitCount_0f7a4_34 : decode cJ6_bitCount_0f7a4 34 = .ok (.iload_n 0, 1) := by decide +kernel
theorem dJ6_bitCount_0f7a4_35 : decode cJ6_bitCount_0f7a4 35 = .ok (.iload_n 0, 1) := by decide +kernel
theorem dJ6_bitCount_0f7a4_36 : decode cJ6_bitCount_0f7a4 36 = .ok (.bipush 8, 2) := by decide +kernel
theorem dJ6_bitCount_0f7a4_38 : decode cJ6_bitCount_0f7a4 38 = .ok (.iushr, 1) := by decide +kernel
theorem dJ6_bitCount_0f7a4_39 : decode cJ6_bitCount_0f7a4 39 = .ok (.iadd, 1) := by decide +kernel
theorem dJ6_bitCount_0f7a4_40 : decode cJ6_bitCount_0f7a4 40 = .ok (.istore_n 0, 1) := by decide +kernel
theorem dJ6_bitCount_0f7a4_41 : decode cJ6_bitCount_0f7a4 41 = .ok (.iload_n 0, 1) := by decide +kernel
theorem dJ6_bitCount_0f7a4_42 : decode cJ6_bitCount_0f7a4 42 = .ok (.iload_n 0, 1) := by decide +kernel
theorem dJ6_bitCount_0f7a4_43 : decode cJ6_bitCount_0f7a4 43 = .ok (.bipush 16, 2) := by decide +kernel
theorem dJ6_bitCount_0f7a4_45 : decode cJ6_bitCount_0f7a4 45 = .ok (.iushr, 1) := by decide +kernel
theorem dJ6_bitCount_0f7a4_46 : decode cJ6_bitCount_0f7a4 46 = .ok (.iadd, 1) := by decide +kernel
theorem dJ6_bitCount_0f7a4_47 : decode cJ6_bitCount_0f7a4 47 = .ok (.istore_n 0, 1) := by decide +kernel
theorem dJ6_bitCount_0f7a4_48 : decode cJ6_bitCount_0f7a4 48 = .ok (.iload_n 0, 1) := by decide +kernel
theorem dJ6_bitCount_0f7a4_49 : decode cJ6_bitCount_0f7a4 49 = .ok (.bipush 63, 2) := by decide +kernel
theorem dJ6_bitCount_0f7a4_51 : decode cJ6_bitCount_0f7a4 51 = .ok (.iand, 1) := by decide +kernel
theorem dJ6_bitCount_0f7a4_52 : decode cJ6_bitCount_0f7a4 52 = .ok (.ireturn, 1) := by decide +kernel
theorem dJ9_abs_0f7a4_0 : decode cJ9_abs_0f7a4 0 = .ok (.iload_n 0, 1) := by decide +kernel
theorem dJ9_abs_0f7a4_1 : decode cJ9_abs_0f7a4 1 = .ok (.ifCond .ge 8, 3) := by decide +kernel
theorem dJ9_abs_0f7a4_4 : decode cJ9_abs_0f7a4 4 = .ok (.iload_n 0, 1) := by decide +kernel
theorem dJ9_abs_0f7a4_5 : decode cJ9_abs_0f7a4 5 = .ok (.ineg, 1) := by decide +kernel
theorem dJ9_abs_0f7a4_6 : decode cJ9_abs_0f7a4 6 = .ok (.goto 4, 3) := by decide +kernel
theorem dJ9_abs_0f7a4_9 : decode cJ9_abs_0f7a4 9 = .ok (.iload_n 0, 1) := by decide +kernel
theorem dJ9_abs_0f7a4_10 : decode cJ9_abs_0f7a4 10 = .ok (.ireturn, 1) := by decide +kernel
theorem dJ9_max_7cf53_0 : decode cJ9_max_7cf53 0 = .ok (.iload_n 0, 1) := by decide +kernel
theorem dJ9_max_7cf53_1 : decode cJ9_max_7cf53 1 = .ok (.iload_n 1, 1) := by decide +kernel
theorem dJ9_max_7cf53_2 : decode cJ9_max_7cf53 2 = .ok (.if_icmp .lt 7, 3) := by decide +kernel
theorem dJ9_max_7cf53_5 : decode cJ9_max_7cf53 5 = .ok (.iload_n 0, 1) := by decide +kernel
theorem dJ9_max_7cf53_6 : decode cJ9_max_7cf53 6 = .ok (.goto 4, 3) := by decide +kernel
theorem dJ9_max_7cf53_9 : decode cJ9_max_7cf53 9 = .ok (.iload_n 1, 1) := by decide +kernel
theorem dJ9_max_7cf53_10 : decode cJ9_max_7cf53 10 = .ok (.ireturn, 1) := by decide +kernel
theorem dJ9_min_7cf53_0 : decode cJ9_min_7cf53 0 = .ok (.iload_n 0, 1) := by decide +kernel
theorem dJ9_min_7cf53_1 : decode cJ9_min_7cf53 1 = .ok (.iload_n 1, 1) := by decide +kernel
theorem dJ9_min_7cf53_2 : decode cJ9_min_7cf53 2 = .ok (.if_icmp .gt 7, 3) := by decide +kernel
theorem dJ9_min_7cf53_5 : decode cJ9_min_7cf53 5 = .ok (.iload_n 0, 1) := by decide +kernel
theorem dJ9_min_7cf53_6 : decode cJ9_min_7cf53 6 = .ok (.goto 4, 3) := by decide +kernel
theorem dJ9_min_7cf53_9 : decode cJ9_min_7cf53 9 = .ok (.iload_n 1, 1) := by decide +kernel
theorem dJ9_min_7cf53_10 : decode cJ9_min_7cf53 10 = .ok (.ireturn, 1) := by decide +kernel
theorem dJ7_fill_53178_0 : decode cJ7_fill_53178 0 = .ok (.iconst 0, 1) := by decide +kernel
theorem dJ7_fill_53178_1 : decode cJ7_fill_53178 1 = .ok (.istore_n 2, 1) := by decide +kernel
theorem dJ7_fill_53178_2 : decode cJ7_fill_53178 2 = .ok (.aload_n 0, 1) := by decide +kernel
theorem dJ7_fill_53178_3 : decode cJ7_fill_53178 3 = .ok (.arraylength, 1) := by decide +kernel
theorem dJ7_fill_53178_4 : decode cJ7_fill_53178 4 = .ok (.istore_n 3, 1) := by decide +kernel
theorem dJ7_fill_53178_5 : decode cJ7_fill_53178 5 = .ok (.iload_n 2, 1) := by decide +kernel
theorem dJ7_fill_53178_6 : decode cJ7_fill_53178 6 = .ok (.iload_n 3, 1) := by decide +kernel
theorem dJ7_fill_53178_7 : decode cJ7_fill_53178 7 = .ok (.if_icmp .ge 13, 3) := by decide +kernel
theorem dJ7_fill_53178_10 : decode cJ7_fill_53178 10 = .ok (.aload_n 0, 1) := by decide +kernel
theorem dJ7_fill_53178_11 : decode cJ7_fill_53178 11 = .ok (.iload_n 2, 1) := by decide +kernel
theorem dJ7_fill_53178_12 : decode cJ7_fill_53178 12 = .ok (.iload_n 1, 1) := by decide +kernel
theorem dJ7_fill_53178_13 : decode cJ7_fill_53178 13 = .ok (.iastore, 1) := by decide +kernel
theorem dJ7_fill_53178_14 : decode cJ7_fill_53178 14 = .ok (.iinc 2 1, 3) := by decide +kernel
theorem dJ7_fill_53178_17 : decode cJ7_fill_53178 17 = .ok (.goto (-12), 3) := by decide +kernel
theorem dJ7_fill_53178_20 : decode cJ7_fill_53178 20 = .ok (.return_, 1) := by decide +kernel
theorem dL_law_0 : decode cL_law 0 = .ok (.new 7, 3) := by decide +kernel
theorem dL_law_3 : decode cL_law 3 = .ok (.dup, 1) := by decide +kernel
theorem dL_law_4 : decode cL_law 4 = .ok (.invokespecial 9, 3) := by decide +kernel
theorem dL_law_7 : decode cL_law 7 = .ok (.astore_n 1, 1) := by decide +kernel
theorem dL_law_8 : decode cL_law 8 = .ok (.new 10, 3) := by decide +kernel
theorem dL_law_11 : decode cL_law 11 = .ok (.dup, 1) := by decide +kernel
theorem dL_law_12 : decode cL_law 12 = .ok (.invokespecial 12, 3) := by decide +kernel
theorem dL_law_15 : decode cL_law 15 = .ok (.astore_n 2, 1) := by decide +kernel
theorem dL_law_16 : decode cL_law 16 = .ok (.iconst 0, 1) := by decide +kernel
theorem dL_law_17 : decode cL_law 17 = .ok (.istore_n 3, 1) := by decide +kernel
theorem dL_law_18 : decode cL_law 18 = .ok (.iload_n 3, 1) := by decide +kernel
theorem dL_law_19 : decode cL_law 19 = .ok (.aload_n 0, 1) := by decide +kernel
theorem dL_law_20 : decode cL_law 20 = .ok (.arraylength, 1) := by decide +kernel
theorem dL_law_21 : decode cL_law 21 = .ok (.bipush 6, 2) := by decide +kernel
theorem dL_law_23 : decode cL_law 23 = .ok (.isub, 1) := by decide +kernel
theorem dL_law_24 : decode cL_law 24 = .ok (.if_icmp .gt 760, 3) := by decide +kernel
theorem dL_law_27 : decode cL_law 27 = .ok (.aload_n 0, 1) := by decide +kernel
theorem dL_law_28 : decode cL_law 28 = .ok (.iload_n 3, 1) := by decide +kernel
theorem dL_law_29 : decode cL_law 29 = .ok (.iaload, 1) := by decide +kernel
theorem dL_law_30 : decode cL_law 30 = .ok (.bipush 31, 2) := by decide +kernel
theorem dL_law_32 : decode cL_law 32 = .ok (.iand, 1) := by decide +kernel
theorem dL_law_33 : decode cL_law 33 = .ok (.tableswitch 745 0 26 #[123, 146, 159, 172, 205, 238, 261, 284, 307, 330, 353, 366, 399, 412, 435, 448, 461, 474, 507, 520, 533, 566, 629, 662, 685, 708, 731], 123) := by decide +kernel
theorem dL_law_156 : decode cL_law 156 = .ok (.aload_n 1, 1) := by decide +kernel
theorem dL_law_157 : decode cL_law 157 = .ok (.aload_n 0, 1) := by decide +kernel
theorem dL_law_158 : decode cL_law 158 = .ok (.iload_n 3, 1) := by decide +kernel
theorem dL_law_159 : decode cL_law 159 = .ok (.iconst 1, 1) := by decide +kernel
theorem dL_law_160 : decode cL_law 160 = .ok (.iadd, 1) := by decide +kernel
theorem dL_law_161 : decode cL_law 161 = .ok (.iaload, 1) := by decide +kernel
theorem dL_law_162 : decode cL_law 162 = .ok (.invokevirtual 13, 3) := by decide +kernel
theorem dL_law_165 : decode cL_law 165 = .ok (.aload_n 2, 1) := by decide +kernel
theorem dL_law_166 : decode cL_law 166 = .ok (.aload_n 0, 1) := by decide +kernel
theorem dL_law_167 : decode cL_law 167 = .ok (.iload_n 3, 1) := by decide +kernel
theorem dL_law_168 : decode cL_law 168 = .ok (.iconst 1, 1) := by decide +kernel
theorem dL_law_169 : decode cL_law 169 = .ok (.iadd, 1) := by decide +kernel
theorem dL_law_170 : decode cL_law 170 = .ok (.iaload, 1) := by decide +kernel
theorem dL_law_171 : decode cL_law 171 = .ok (.invokevirtual 17, 3) := by decide +kernel
theorem dL_law_174 : decode cL_law 174 = .ok (.if_icmp .eq 604, 3) := by decide +kernel
theorem dL_law_177 : decode cL_law 177 = .ok (.iconst 0, 1) := by decide +kernel
theorem dL_law_178 : decode cL_law 178 = .ok (.ireturn, 1) := by decide +kernel
theorem dL_law_179 : decode cL_law 179 = .ok (.aload_n 1, 1) := by decide +kernel
theorem dL_law_180 : decode cL_law 180 = .ok (.invokevirtual 18, 3) := by decide +kernel
theorem dL_law_183 : decode cL_law 183 = .ok (.aload_n 2, 1) := by decide +kernel
theorem dL_law_184 : decode cL_law 184 = .ok (.invokevirtual 22, 3) := by decide +kernel
theorem dL_law_187 : decode cL_law 187 = .ok (.if_icmp .eq 591, 3) := by decide +kernel
theorem dL_law_190 : decode cL_law 190 = .ok (.iconst 0, 1) := by decide +kernel
theorem dL_law_191 : decode cL_law 191 = .ok (.ireturn, 1) := by decide +kernel
theorem dL_law_192 : decode cL_law 192 = .ok (.aload_n 1, 1) := by decide +kernel
theorem dL_law_193 : decode cL_law 193 = .ok (.invokevirtual 23, 3) := by decide +kernel
theorem dL_law_196 : decode cL_law 196 = .ok (.aload_n 2, 1) := by decide +kernel
theorem dL_law_197 : decode cL_law 197 = .ok (.invokevirtual 26, 3) := by decide +kernel
theorem dL_law_200 : decode cL_law 200 = .ok (.if_icmp .eq 578, 3) := by decide +kernel
theorem dL_law_203 : decode cL_law 203 = .ok (.iconst 0, 1) := by decide +kernel
theorem dL_law_204 : decode cL_law 204 = .ok (.ireturn, 1) := by decide +kernel
theorem dL_law_205 : decode cL_law 205 = .ok (.aload_n 1, 1) := by decide +kernel
theorem dL_law_206 : decode cL_law 206 = .ok (.aload_n 0, 1) := by decide +kernel
theorem dL_law_207 : decode cL_law 207 = .ok (.iload_n 3, 1) := by decide +kernel
theorem dL_law_208 : decode cL_law 208 = .ok (.iconst 1, 1) := by decide +kernel
theorem dL_law_209 : decode cL_law 209 = .ok (.iadd, 1) := by decide +kernel
theorem dL_law_210 : decode cL_law 210 = .ok (.iaload, 1) := by decide +kernel
theorem dL_law_211 : decode cL_law 211 = .ok (.aload_n 0, 1) := by decide +kernel
theorem dL_law_212 : decode cL_law 212 = .ok (.iload_n 3, 1) := by decide +kernel
theorem dL_law_213 : decode cL_law 213 = .ok (.iconst 2, 1) := by decide +kernel
theorem dL_law_214 : decode cL_law 214 = .ok (.iadd, 1) := by decide +kernel
theorem dL_law_215 : decode cL_law 215 = .ok (.iaload, 1) := by decide +kernel
theorem dL_law_216 : decode cL_law 216 = .ok (.invokevirtual 27, 3) := by decide +kernel
theorem dL_law_219 : decode cL_law 219 = .ok (.aload_n 2, 1) := by decide +kernel
theorem dL_law_220 : decode cL_law 220 = .ok (.aload_n 0, 1) := by decide +kernel
theorem dL_law_221 : decode cL_law 221 = .ok (.iload_n 3, 1) := by decide +kernel
theorem dL_law_222 : decode cL_law 222 = .ok (.iconst 1, 1) := by decide +kernel
theorem dL_law_223 : decode cL_law 223 = .ok (.iadd, 1) := by decide +kernel
theorem dL_law_224 : decode cL_law 224 = .ok (.iaload, 1) := by decide +kernel
theorem dL_law_225 : decode cL_law 225 = .ok (.aload_n 0, 1) := by decide +kernel
theorem dL_law_226 : decode cL_law 226 = .ok (.iload_n 3, 1) := by decide +kernel
theorem dL_law_227 : decode cL_law 227 = .ok (.iconst 2, 1) := by decide +kernel
theorem dL_law_228 : decode cL_law 228 = .ok (.iadd, 1) := by decide +kernel
theorem dL_law_229 : decode cL_law 229 = .ok (.iaload, 1) := by decide +kernel
theorem dL_law_230 : decode cL_law 230 = .ok (.invokevirtual 31, 3) := by decide +kernel
theorem dL_law_233 : decode cL_law 233 = .ok (.if_icmp .eq 545, 3) := by decide +kernel
theorem dL_law_236 : decode cL_law 236 = .ok (.iconst 0, 1) := by decide +kernel
theorem dL_law_237 : decode cL_law 237 = .ok (.ireturn, 1) := by decide +kernel
theorem dL_law_238 : decode cL_law 238 = .ok (.aload_n 1, 1) := by decide +kernel
theorem dL_law_239 : decode cL_law 239 = .ok (.aload_n 0, 1) := by decide +kernel
theorem dL_law_240 : decode cL_law 240 = .ok (.iload_n 3, 1) := by decide +kernel
theorem dL_law_241 : decode cL_law 241 = .ok (.iconst 1, 1) := by decide +kernel
theorem dL_law_242 : decode cL_law 242 = .ok (.iadd, 1) := by decide +kernel
theorem dL_law_243 : decode cL_law 243 = .ok (.iaload, 1) := by decide +kernel
theorem dL_law_244 : decode cL_law 244 = .ok (.aload_n 0, 1) := by decide +kernel
theorem dL_law_245 : decode cL_law 245 = .ok (.iload_n 3, 1) := by decide +kernel
theorem dL_law_246 : decode cL_law 246 = .ok (.iconst 2, 1) := by decide +kernel
theorem dL_law_247 : decode cL_law 247 = .ok (.iadd, 1) := by decide +kernel
theorem dL_law_248 : decode cL_law 248 = .ok (.iaload, 1) := by decide +kernel
theorem dL_law_249 : decode cL_law 249 = .ok (.invokevirtual 32, 3) := by decide +kernel
theorem dL_law_252 : decode cL_law 252 = .ok (.aload_n 2, 1) := by decide +kernel
theorem dL_law_253 : decode cL_law 253 = .ok (.aload_n 0, 1) := by decide +kernel
theorem dL_law_254 : decode cL_law 254 = .ok (.iload_n 3, 1) := by decide +kernel
theorem dL_law_255 : decode cL_law 255 = .ok (.iconst 1, 1) := by decide +kernel
theorem dL_law_256 : decode cL_law 256 = .ok (.iadd, 1) := by decide +kernel
theorem dL_law_257 : decode cL_law 257 = .ok (.iaload, 1) := by decide +kernel
theorem dL_law_258 : decode cL_law 258 = .ok (.aload_n 0, 1) := by decide +kernel
theorem dL_law_259 : decode cL_law 259 = .ok (.iload_n 3, 1) := by decide +kernel
theorem dL_law_260 : decode cL_law 260 = .ok (.iconst 2, 1) := by decide +kernel
theorem dL_law_261 : decode cL_law 261 = .ok (.iadd, 1) := by decide +kernel
theorem dL_law_262 : decode cL_law 262 = .ok (.iaload, 1) := by decide +kernel
theorem dL_law_263 : decode cL_law 263 = .ok (.invokevirtual 35, 3) := by decide +kernel
theorem dL_law_266 : decode cL_law 266 = .ok (.if_icmp .eq 512, 3) := by decide +kernel
theorem dL_law_269 : decode cL_law 269 = .ok (.iconst 0, 1) := by decide +kernel
theorem dL_law_270 : decode cL_law 270 = .ok (.ireturn, 1) := by decide +kernel
theorem dL_law_271 : decode cL_law 271 = .ok (.aload_n 1, 1) := by decide +kernel
theorem dL_law_272 : decode cL_law 272 = .ok (.aload_n 0, 1) := by decide +kernel
theorem dL_law_273 : decode cL_law 273 = .ok (.iload_n 3, 1) := by decide +kernel
theorem dL_law_274 : decode cL_law 274 = .ok (.iconst 1, 1) := by decide +kernel
theorem dL_law_275 : decode cL_law 275 = .ok (.iadd, 1) := by decide +kernel
theorem dL_law_276 : decode cL_law 276 = .ok (.iaload, 1) := by decide +kernel
theorem dL_law_277 : decode cL_law 277 = .ok (.invokevirtual 36, 3) := by decide +kernel
theorem dL_law_280 : decode cL_law 280 = .ok (.aload_n 2, 1) := by decide +kernel
theorem dL_law_281 : decode cL_law 281 = .ok (.aload_n 0, 1) := by decide +kernel
theorem dL_law_282 : decode cL_law 282 = .ok (.iload_n 3, 1) := by decide +kernel
theorem dL_law_283 : decode cL_law 283 = .ok (.iconst 1, 1) := by decide +kernel
theorem dL_law_284 : decode cL_law 284 = .ok (.iadd, 1) := by decide +kernel
theorem dL_law_285 : decode cL_law 285 = .ok (.iaload, 1) := by decide +kernel
theorem dL_law_286 : decode cL_law 286 = .ok (.invokevirtual 39, 3) := by decide +kernel
theorem dL_law_289 : decode cL_law 289 = .ok (.if_icmp .eq 489, 3) := by decide +kernel
theorem dL_law_292 : decode cL_law 292 = .ok (.iconst 0, 1) := by decide +kernel
theorem dL_law_293 : decode cL_law 293 = .ok (.ireturn, 1) := by decide +kernel
theorem dL_law_294 : decode cL_law 294 = .ok (.aload_n 1, 1) := by decide +kernel
theorem dL_law_295 : decode cL_law 295 = .ok (.aload_n 0, 1) := by decide +kernel
theorem dL_law_296 : decode cL_law 296 = .ok (.iload_n 3, 1) := by decide +kernel
theorem dL_law_297 : decode cL_law 297 = .ok (.iconst 1, 1) := by decide +kernel
theorem dL_law_298 : decode cL_law 298 = .ok (.iadd, 1) := by decide +kernel
theorem dL_law_299 : decode cL_law 299 = .ok (.iaload, 1) := by decide +kernel
theorem dL_law_300 : decode cL_law 300 = .ok (.invokevirtual 40, 3) := by decide +kernel
theorem dL_law_303 : decode cL_law 303 = .ok (.aload_n 2, 1) := by decide +kernel
theorem dL_law_304 : decode cL_law 304 = .ok (.aload_n 0, 1) := by decide +kernel
theorem dL_law_305 : decode cL_law 305 = .ok (.iload_n 3, 1) := by decide +kernel
theorem dL_law_306 : decode cL_law 306 = .ok (.iconst 1, 1) := by decide +kernel
theorem dL_law_307 : decode cL_law 307 = .ok (.iadd, 1) := by decide +kernel
theorem dL_law_308 : decode cL_law 308 = .ok (.iaload, 1) := by decide +kernel
theorem dL_law_309 : decode cL_law 309 = .ok (.invokevirtual 43, 3) := by decide +kernel
theorem dL_law_312 : decode cL_law 312 = .ok (.if_icmp .eq 466, 3) := by decide +kernel
theorem dL_law_315 : decode cL_law 315 = .ok (.iconst 0, 1) := by decide +kernel
theorem dL_law_316 : decode cL_law 316 = .ok (.ireturn, 1) := by decide +kernel
theorem dL_law_317 : decode cL_law 317 = .ok (.aload_n 1, 1) := by decide +kernel
theorem dL_law_318 : decode cL_law 318 = .ok (.aload_n 0, 1) := by decide +kernel
theorem dL_law_319 : decode cL_law 319 = .ok (.iload_n 3, 1) := by decide +kernel
theorem dL_law_320 : decode cL_law 320 = .ok (.iconst 1, 1) := by decide +kernel
theorem dL_law_321 : decode cL_law 321 = .ok (.iadd, 1) := by decide +kernel
theorem dL_law_322 : decode cL_law 322 = .ok (.iaload, 1) := by decide +kernel
theorem dL_law_323 : decode cL_law 323 = .ok (.invokevirtual 44, 3) := by decide +kernel
theorem dL_law_326 : decode cL_law 326 = .ok (.aload_n 2, 1) := by decide +kernel
theorem dL_law_327 : decode cL_law 327 = .ok (.aload_n 0, 1) := by decide +kernel
theorem dL_law_328 : decode cL_law 328 = .ok (.iload_n 3, 1) := by decide +kernel
theorem dL_law_329 : decode cL_law 329 = .ok (.iconst 1, 1) := by decide +kernel
theorem dL_law_330 : decode cL_law 330 = .ok (.iadd, 1) := by decide +kernel
theorem dL_law_331 : decode cL_law 331 = .ok (.iaload, 1) := by decide +kernel
theorem dL_law_332 : decode cL_law 332 = .ok (.invokevirtual 47, 3) := by decide +kernel
theorem dL_law_335 : decode cL_law 335 = .ok (.if_icmp .eq 443, 3) := by decide +kernel
theorem dL_law_338 : decode cL_law 338 = .ok (.iconst 0, 1) := by decide +kernel
theorem dL_law_339 : decode cL_law 339 = .ok (.ireturn, 1) := by decide +kernel
theorem dL_law_340 : decode cL_law 340 = .ok (.aload_n 1, 1) := by decide +kernel
theorem dL_law_341 : decode cL_law 341 = .ok (.aload_n 0, 1) := by decide +kernel
theorem dL_law_342 : decode cL_law 342 = .ok (.iload_n 3, 1) := by decide +kernel
theorem dL_law_343 : decode cL_law 343 = .ok (.iconst 1, 1) := by decide +kernel
theorem dL_law_344 : decode cL_law 344 = .ok (.iadd, 1) := by decide +kernel
theorem dL_law_345 : decode cL_law 345 = .ok (.iaload, 1) := by decide +kernel
theorem dL_law_346 : decode cL_law 346 = .ok (.invokevirtual 48, 3) := by decide +kernel
theorem dL_law_349 : decode cL_law 349 = .ok (.aload_n 2, 1) := by decide +kernel
theorem dL_law_350 : decode cL_law 350 = .ok (.aload_n 0, 1) := by decide +kernel
theorem dL_law_351 : decode cL_law 351 = .ok (.iload_n 3, 1) := by decide +kernel
theorem dL_law_352 : decode cL_law 352 = .ok (.iconst 1, 1) := by decide +kernel
theorem dL_law_353 : decode cL_law 353 = .ok (.iadd, 1) := by decide +kernel
theorem dL_law_354 : decode cL_law 354 = .ok (.iaload, 1) := by decide +kernel
theorem dL_law_355 : decode cL_law 355 = .ok (.invokevirtual 51, 3) := by decide +kernel
theorem dL_law_358 : decode cL_law 358 = .ok (.if_icmp .eq 420, 3) := by decide +kernel
theorem dL_law_361 : decode cL_law 361 = .ok (.iconst 0, 1) := by decide +kernel
theorem dL_law_362 : decode cL_law 362 = .ok (.ireturn, 1) := by decide +kernel
theorem dL_law_363 : decode cL_law 363 = .ok (.aload_n 1, 1) := by decide +kernel
theorem dL_law_364 : decode cL_law 364 = .ok (.aload_n 0, 1) := by decide +kernel
theorem dL_law_365 : decode cL_law 365 = .ok (.iload_n 3, 1) := by decide +kernel
theorem dL_law_366 : decode cL_law 366 = .ok (.iconst 1, 1) := by decide +kernel
theorem dL_law_367 : decode cL_law 367 = .ok (.iadd, 1) := by decide +kernel
theorem dL_law_368 : decode cL_law 368 = .ok (.iaload, 1) := by decide +kernel
theorem dL_law_369 : decode cL_law 369 = .ok (.invokevirtual 52, 3) := by decide +kernel
theorem dL_law_372 : decode cL_law 372 = .ok (.aload_n 2, 1) := by decide +kernel
theorem dL_law_373 : decode cL_law 373 = .ok (.aload_n 0, 1) := by decide +kernel
theorem dL_law_374 : decode cL_law 374 = .ok (.iload_n 3, 1) := by decide +kernel
theorem dL_law_375 : decode cL_law 375 = .ok (.iconst 1, 1) := by decide +kernel
theorem dL_law_376 : decode cL_law 376 = .ok (.iadd, 1) := by decide +kernel
theorem dL_law_377 : decode cL_law 377 = .ok (.iaload, 1) := by decide +kernel
theorem dL_law_378 : decode cL_law 378 = .ok (.invokevirtual 55, 3) := by decide +kernel
theorem dL_law_381 : decode cL_law 381 = .ok (.if_icmp .eq 397, 3) := by decide +kernel
theorem dL_law_384 : decode cL_law 384 = .ok (.iconst 0, 1) := by decide +kernel
theorem dL_law_385 : decode cL_law 385 = .ok (.ireturn, 1) := by decide +kernel
theorem dL_law_386 : decode cL_law 386 = .ok (.aload_n 1, 1) := by decide +kernel
theorem dL_law_387 : decode cL_law 387 = .ok (.invokevirtual 56, 3) := by decide +kernel
theorem dL_law_390 : decode cL_law 390 = .ok (.aload_n 2, 1) := by decide +kernel
theorem dL_law_391 : decode cL_law 391 = .ok (.invokevirtual 59, 3) := by decide +kernel
theorem dL_law_394 : decode cL_law 394 = .ok (.if_icmp .eq 384, 3) := by decide +kernel
theorem dL_law_397 : decode cL_law 397 = .ok (.iconst 0, 1) := by decide +kernel
theorem dL_law_398 : decode cL_law 398 = .ok (.ireturn, 1) := by decide +kernel
theorem dL_law_399 : decode cL_law 399 = .ok (.aload_n 1, 1) := by decide +kernel
theorem dL_law_400 : decode cL_law 400 = .ok (.aload_n 0, 1) := by decide +kernel
theorem dL_law_401 : decode cL_law 401 = .ok (.iload_n 3, 1) := by decide +kernel
theorem dL_law_402 : decode cL_law 402 = .ok (.iconst 1, 1) := by decide +kernel
theorem dL_law_403 : decode cL_law 403 = .ok (.iadd, 1) := by decide +kernel
theorem dL_law_404 : decode cL_law 404 = .ok (.iaload, 1) := by decide +kernel
theorem dL_law_405 : decode cL_law 405 = .ok (.aload_n 0, 1) := by decide +kernel
theorem dL_law_406 : decode cL_law 406 = .ok (.iload_n 3, 1) := by decide +kernel
theorem dL_law_407 : decode cL_law 407 = .ok (.iconst 2, 1) := by decide +kernel
theorem dL_law_408 : decode cL_law 408 = .ok (.iadd, 1) := by decide +kernel
theorem dL_law_409 : decode cL_law 409 = .ok (.iaload, 1) := by decide +kernel
theorem dL_law_410 : decode cL_law 410 = .ok (.invokevirtual 60, 3) := by decide +kernel
theorem dL_law_413 : decode cL_law 413 = .ok (.aload_n 2, 1) := by decide +kernel
theorem dL_law_414 : decode cL_law 414 = .ok (.aload_n 0, 1) := by decide +kernel
theorem dL_law_415 : decode cL_law 415 = .ok (.iload_n 3, 1) := by decide +kernel
theorem dL_law_416 : decode cL_law 416 = .ok (.iconst 1, 1) := by decide +kernel
theorem dL_law_417 : decode cL_law 417 = .ok (.iadd, 1) := by decide +kernel
theorem dL_law_418 : decode cL_law 418 = .ok (.iaload, 1) := by decide +kernel
theorem dL_law_419 : decode cL_law 419 = .ok (.aload_n 0, 1) := by decide +kernel
theorem dL_law_420 : decode cL_law 420 = .ok (.iload_n 3, 1) := by decide +kernel
theorem dL_law_421 : decode cL_law 421 = .ok (.iconst 2, 1) := by decide +kernel
theorem dL_law_422 : decode cL_law 422 = .ok (.iadd, 1) := by decide +kernel
theorem dL_law_423 : decode cL_law 423 = .ok (.iaload, 1) := by decide +kernel
theorem dL_law_424 : decode cL_law 424 = .ok (.invokevirtual 63, 3) := by decide +kernel
theorem dL_law_427 : decode cL_law 427 = .ok (.if_icmp .eq 351, 3) := by decide +kernel
theorem dL_law_430 : decode cL_law 430 = .ok (.iconst 0, 1) := by decide +kernel
theorem dL_law_431 : decode cL_law 431 = .ok (.ireturn, 1) := by decide +kernel
theorem dL_law_432 : decode cL_law 432 = .ok (.aload_n 1, 1) := by decide +kernel
theorem dL_law_433 : decode cL_law 433 = .ok (.invokevirtual 64, 3) := by decide +kernel
theorem dL_law_436 : decode cL_law 436 = .ok (.aload_n 2, 1) := by decide +kernel
theorem dL_law_437 : decode cL_law 437 = .ok (.invokevirtual 67, 3) := by decide +kernel
theorem dL_law_440 : decode cL_law 440 = .ok (.if_icmp .eq 338, 3) := by decide +kernel
theorem dL_law_443 : decode cL_law 443 = .ok (.iconst 0, 1) := by decide +kernel
theorem dL_law_444 : decode cL_law 444 = .ok (.ireturn, 1) := by decide +kernel
theorem dL_law_445 : decode cL_law 445 = .ok (.aload_n 1, 1) := by decide +kernel
theorem dL_law_446 : decode cL_law 446 = .ok (.aload_n 0, 1) := by decide +kernel
theorem dL_law_447 : decode cL_law 447 = .ok (.iload_n 3, 1) := by decide +kernel
theorem dL_law_448 : decode cL_law 448 = .ok (.iconst 1, 1) := by decide +kernel
theorem dL_law_449 : decode cL_law 449 = .ok (.iadd, 1) := by decide +kernel
theorem dL_law_450 : decode cL_law 450 = .ok (.iaload, 1) := by decide +kernel
theorem dL_law_451 : decode cL_law 451 = .ok (.invokevirtual 68, 3) := by decide +kernel
theorem dL_law_454 : decode cL_law 454 = .ok (.aload_n 2, 1) := by decide +kernel
theorem dL_law_455 : decode cL_law 455 = .ok (.aload_n 0, 1) := by decide +kernel
theorem dL_law_456 : decode cL_law 456 = .ok (.iload_n 3, 1) := by decide +kernel
theorem dL_law_457 : decode cL_law 457 = .ok (.iconst 1, 1) := by decide +kernel
theorem dL_law_458 : decode cL_law 458 = .ok (.iadd, 1) := by decide +kernel
theorem dL_law_459 : decode cL_law 459 = .ok (.iaload, 1) := by decide +kernel
theorem dL_law_460 : decode cL_law 460 = .ok (.invokevirtual 71, 3) := by decide +kernel
theorem dL_law_463 : decode cL_law 463 = .ok (.if_icmp .eq 315, 3) := by decide +kernel
theorem dL_law_466 : decode cL_law 466 = .ok (.iconst 0, 1) := by decide +kernel
theorem dL_law_467 : decode cL_law 467 = .ok (.ireturn, 1) := by decide +kernel
theorem dL_law_468 : decode cL_law 468 = .ok (.aload_n 1, 1) := by decide +kernel
theorem dL_law_469 : decode cL_law 469 = .ok (.invokevirtual 72, 3) := by decide +kernel
theorem dL_law_472 : decode cL_law 472 = .ok (.aload_n 2, 1) := by decide +kernel
theorem dL_law_473 : decode cL_law 473 = .ok (.invokevirtual 75, 3) := by decide +kernel
theorem dL_law_476 : decode cL_law 476 = .ok (.if_icmp .eq 302, 3) := by decide +kernel
theorem dL_law_479 : decode cL_law 479 = .ok (.iconst 0, 1) := by decide +kernel
theorem dL_law_480 : decode cL_law 480 = .ok (.ireturn, 1) := by decide +kernel
theorem dL_law_481 : decode cL_law 481 = .ok (.aload_n 1, 1) := by decide +kernel
theorem dL_law_482 : decode cL_law 482 = .ok (.invokevirtual 76, 3) := by decide +kernel
theorem dL_law_485 : decode cL_law 485 = .ok (.aload_n 2, 1) := by decide +kernel
theorem dL_law_486 : decode cL_law 486 = .ok (.invokevirtual 79, 3) := by decide +kernel
theorem dL_law_489 : decode cL_law 489 = .ok (.if_icmp .eq 289, 3) := by decide +kernel
theorem dL_law_492 : decode cL_law 492 = .ok (.iconst 0, 1) := by decide +kernel
theorem dL_law_493 : decode cL_law 493 = .ok (.ireturn, 1) := by decide +kernel
theorem dL_law_494 : decode cL_law 494 = .ok (.aload_n 1, 1) := by decide +kernel
theorem dL_law_495 : decode cL_law 495 = .ok (.invokevirtual 80, 3) := by decide +kernel
theorem dL_law_498 : decode cL_law 498 = .ok (.aload_n 2, 1) := by decide +kernel
theorem dL_law_499 : decode cL_law 499 = .ok (.invokevirtual 83, 3) := by decide +kernel
theorem dL_law_502 : decode cL_law 502 = .ok (.if_icmp .eq 276, 3) := by decide +kernel
theorem dL_law_505 : decode cL_law 505 = .ok (.iconst 0, 1) := by decide +kernel
theorem dL_law_506 : decode cL_law 506 = .ok (.ireturn, 1) := by decide +kernel
theorem dL_law_507 : decode cL_law 507 = .ok (.aload_n 1, 1) := by decide +kernel
theorem dL_law_508 : decode cL_law 508 = .ok (.aload_n 0, 1) := by decide +kernel
theorem dL_law_509 : decode cL_law 509 = .ok (.iload_n 3, 1) := by decide +kernel
theorem dL_law_510 : decode cL_law 510 = .ok (.iconst 1, 1) := by decide +kernel
theorem dL_law_511 : decode cL_law 511 = .ok (.iadd, 1) := by decide +kernel
theorem dL_law_512 : decode cL_law 512 = .ok (.iaload, 1) := by decide +kernel
theorem dL_law_513 : decode cL_law 513 = .ok (.aload_n 0, 1) := by decide +kernel
theorem dL_law_514 : decode cL_law 514 = .ok (.iload_n 3, 1) := by decide +kernel
theorem dL_law_515 : decode cL_law 515 = .ok (.iconst 2, 1) := by decide +kernel
theorem dL_law_516 : decode cL_law 516 = .ok (.iadd, 1) := by decide +kernel
theorem dL_law_517 : decode cL_law 517 = .ok (.iaload, 1) := by decide +kernel
theorem dL_law_518 : decode cL_law 518 = .ok (.invokevirtual 84, 3) := by decide +kernel
theorem dL_law_521 : decode cL_law 521 = .ok (.aload_n 2, 1) := by decide +kernel
theorem dL_law_522 : decode cL_law 522 = .ok (.aload_n 0, 1) := by decide +kernel
theorem dL_law_523 : decode cL_law 523 = .ok (.iload_n 3, 1) := by decide +kernel
theorem dL_law_524 : decode cL_law 524 = .ok (.iconst 1, 1) := by decide +kernel
theorem dL_law_525 : decode cL_law 525 = .ok (.iadd, 1) := by decide +kernel
theorem dL_law_526 : decode cL_law 526 = .ok (.iaload, 1) := by decide +kernel
theorem dL_law_527 : decode cL_law 527 = .ok (.aload_n 0, 1) := by decide +kernel
theorem dL_law_528 : decode cL_law 528 = .ok (.iload_n 3, 1) := by decide +kernel
theorem dL_law_529 : decode cL_law 529 = .ok (.iconst 2, 1) := by decide +kernel
theorem dL_law_530 : decode cL_law 530 = .ok (.iadd, 1) := by decide +kernel
theorem dL_law_531 : decode cL_law 531 = .ok (.iaload, 1) := by decide +kernel
theorem dL_law_532 : decode cL_law 532 = .ok (.invokevirtual 87, 3) := by decide +kernel
theorem dL_law_535 : decode cL_law 535 = .ok (.if_icmp .eq 243, 3) := by decide +kernel
theorem dL_law_538 : decode cL_law 538 = .ok (.iconst 0, 1) := by decide +kernel
theorem dL_law_539 : decode cL_law 539 = .ok (.ireturn, 1) := by decide +kernel
theorem dL_law_540 : decode cL_law 540 = .ok (.aload_n 1, 1) := by decide +kernel
theorem dL_law_541 : decode cL_law 541 = .ok (.invokevirtual 88, 3) := by decide +kernel
theorem dL_law_544 : decode cL_law 544 = .ok (.aload_n 2, 1) := by decide +kernel
theorem dL_law_545 : decode cL_law 545 = .ok (.invokevirtual 91, 3) := by decide +kernel
theorem dL_law_548 : decode cL_law 548 = .ok (.if_icmp .eq 230, 3) := by decide +kernel
theorem dL_law_551 : decode cL_law 551 = .ok (.iconst 0, 1) := by decide +kernel
theorem dL_law_552 : decode cL_law 552 = .ok (.ireturn, 1) := by decide +kernel
theorem dL_law_553 : decode cL_law 553 = .ok (.aload_n 1, 1) := by decide +kernel
theorem dL_law_554 : decode cL_law 554 = .ok (.invokevirtual 92, 3) := by decide +kernel
theorem dL_law_557 : decode cL_law 557 = .ok (.aload_n 2, 1) := by decide +kernel
theorem dL_law_558 : decode cL_law 558 = .ok (.invokevirtual 95, 3) := by decide +kernel
theorem dL_law_561 : decode cL_law 561 = .ok (.if_icmp .eq 217, 3) := by decide +kernel
theorem dL_law_564 : decode cL_law 564 = .ok (.iconst 0, 1) := by decide +kernel
theorem dL_law_565 : decode cL_law 565 = .ok (.ireturn, 1) := by decide +kernel
theorem dL_law_566 : decode cL_law 566 = .ok (.aload_n 1, 1) := by decide +kernel
theorem dL_law_567 : decode cL_law 567 = .ok (.aload_n 0, 1) := by decide +kernel
theorem dL_law_568 : decode cL_law 568 = .ok (.iload_n 3, 1) := by decide +kernel
theorem dL_law_569 : decode cL_law 569 = .ok (.iconst 1, 1) := by decide +kernel
theorem dL_law_570 : decode cL_law 570 = .ok (.iadd, 1) := by decide +kernel
theorem dL_law_571 : decode cL_law 571 = .ok (.iaload, 1) := by decide +kernel
theorem dL_law_572 : decode cL_law 572 = .ok (.aload_n 0, 1) := by decide +kernel
theorem dL_law_573 : decode cL_law 573 = .ok (.iload_n 3, 1) := by decide +kernel
theorem dL_law_574 : decode cL_law 574 = .ok (.iconst 2, 1) := by decide +kernel
theorem dL_law_575 : decode cL_law 575 = .ok (.iadd, 1) := by decide +kernel
theorem dL_law_576 : decode cL_law 576 = .ok (.iaload, 1) := by decide +kernel
theorem dL_law_577 : decode cL_law 577 = .ok (.invokevirtual 96, 3) := by decide +kernel
theorem dL_law_580 : decode cL_law 580 = .ok (.aload_n 2, 1) := by decide +kernel
theorem dL_law_581 : decode cL_law 581 = .ok (.aload_n 0, 1) := by decide +kernel
theorem dL_law_582 : decode cL_law 582 = .ok (.iload_n 3, 1) := by decide +kernel
theorem dL_law_583 : decode cL_law 583 = .ok (.iconst 1, 1) := by decide +kernel
theorem dL_law_584 : decode cL_law 584 = .ok (.iadd, 1) := by decide +kernel
theorem dL_law_585 : decode cL_law 585 = .ok (.iaload, 1) := by decide +kernel
theorem dL_law_586 : decode cL_law 586 = .ok (.aload_n 0, 1) := by decide +kernel
theorem dL_law_587 : decode cL_law 587 = .ok (.iload_n 3, 1) := by decide +kernel
theorem dL_law_588 : decode cL_law 588 = .ok (.iconst 2, 1) := by decide +kernel
theorem dL_law_589 : decode cL_law 589 = .ok (.iadd, 1) := by decide +kernel
theorem dL_law_590 : decode cL_law 590 = .ok (.iaload, 1) := by decide +kernel
theorem dL_law_591 : decode cL_law 591 = .ok (.invokevirtual 99, 3) := by decide +kernel
theorem dL_law_594 : decode cL_law 594 = .ok (.if_icmp .eq 184, 3) := by decide +kernel
theorem dL_law_597 : decode cL_law 597 = .ok (.iconst 0, 1) := by decide +kernel
theorem dL_law_598 : decode cL_law 598 = .ok (.ireturn, 1) := by decide +kernel
theorem dL_law_599 : decode cL_law 599 = .ok (.aload_n 1, 1) := by decide +kernel
theorem dL_law_600 : decode cL_law 600 = .ok (.aload_n 0, 1) := by decide +kernel
theorem dL_law_601 : decode cL_law 601 = .ok (.iload_n 3, 1) := by decide +kernel
theorem dL_law_602 : decode cL_law 602 = .ok (.iconst 1, 1) := by decide +kernel
theorem dL_law_603 : decode cL_law 603 = .ok (.iadd, 1) := by decide +kernel
theorem dL_law_604 : decode cL_law 604 = .ok (.iaload, 1) := by decide +kernel
theorem dL_law_605 : decode cL_law 605 = .ok (.aload_n 0, 1) := by decide +kernel
theorem dL_law_606 : decode cL_law 606 = .ok (.iload_n 3, 1) := by decide +kernel
theorem dL_law_607 : decode cL_law 607 = .ok (.iconst 2, 1) := by decide +kernel
theorem dL_law_608 : decode cL_law 608 = .ok (.iadd, 1) := by decide +kernel
theorem dL_law_609 : decode cL_law 609 = .ok (.iaload, 1) := by decide +kernel
theorem dL_law_610 : decode cL_law 610 = .ok (.aload_n 0, 1) := by decide +kernel
theorem dL_law_611 : decode cL_law 611 = .ok (.iload_n 3, 1) := by decide +kernel
theorem dL_law_612 : decode cL_law 612 = .ok (.iconst 3, 1) := by decide +kernel
theorem dL_law_613 : decode cL_law 613 = .ok (.iadd, 1) := by decide +kernel
theorem dL_law_614 : decode cL_law 614 = .ok (.iaload, 1) := by decide +kernel
theorem dL_law_615 : decode cL_law 615 = .ok (.aload_n 0, 1) := by decide +kernel
theorem dL_law_616 : decode cL_law 616 = .ok (.iload_n 3, 1) := by decide +kernel
theorem dL_law_617 : decode cL_law 617 = .ok (.iconst 4, 1) := by decide +kernel
theorem dL_law_618 : decode cL_law 618 = .ok (.iadd, 1) := by decide +kernel
theorem dL_law_619 : decode cL_law 619 = .ok (.iaload, 1) := by decide +kernel
theorem dL_law_620 : decode cL_law 620 = .ok (.aload_n 0, 1) := by decide +kernel
theorem dL_law_621 : decode cL_law 621 = .ok (.iload_n 3, 1) := by decide +kernel
theorem dL_law_622 : decode cL_law 622 = .ok (.iconst 5, 1) := by decide +kernel
theorem dL_law_623 : decode cL_law 623 = .ok (.iadd, 1) := by decide +kernel
theorem dL_law_624 : decode cL_law 624 = .ok (.iaload, 1) := by decide +kernel
theorem dL_law_625 : decode cL_law 625 = .ok (.invokevirtual 100, 3) := by decide +kernel
theorem dL_law_628 : decode cL_law 628 = .ok (.aload_n 2, 1) := by decide +kernel
theorem dL_law_629 : decode cL_law 629 = .ok (.aload_n 0, 1) := by decide +kernel
theorem dL_law_630 : decode cL_law 630 = .ok (.iload_n 3, 1) := by decide +kernel
theorem dL_law_631 : decode cL_law 631 = .ok (.iconst 1, 1) := by decide +kernel
theorem dL_law_632 : decode cL_law 632 = .ok (.iadd, 1) := by decide +kernel
theorem dL_law_633 : decode cL_law 633 = .ok (.iaload, 1) := by decide +kernel
theorem dL_law_634 : decode cL_law 634 = .ok (.aload_n 0, 1) := by decide +kernel
theorem dL_law_635 : decode cL_law 635 = .ok (.iload_n 3, 1) := by decide +kernel
theorem dL_law_636 : decode cL_law 636 = .ok (.iconst 2, 1) := by decide +kernel
theorem dL_law_637 : decode cL_law 637 = .ok (.iadd, 1) := by decide +kernel
theorem dL_law_638 : decode cL_law 638 = .ok (.iaload, 1) := by decide +kernel
theorem dL_law_639 : decode cL_law 639 = .ok (.aload_n 0, 1) := by decide +kernel
theorem dL_law_640 : decode cL_law 640 = .ok (.iload_n 3, 1) := by decide +kernel
theorem dL_law_641 : decode cL_law 641 = .ok (.iconst 3, 1) := by decide +kernel
theorem dL_law_642 : decode cL_law 642 = .ok (.iadd, 1) := by decide +kernel
theorem dL_law_643 : decode cL_law 643 = .ok (.iaload, 1) := by decide +kernel
theorem dL_law_644 : decode cL_law 644 = .ok (.aload_n 0, 1) := by decide +kernel
theorem dL_law_645 : decode cL_law 645 = .ok (.iload_n 3, 1) := by decide +kernel
theorem dL_law_646 : decode cL_law 646 = .ok (.iconst 4, 1) := by decide +kernel
theorem dL_law_647 : decode cL_law 647 = .ok (.iadd, 1) := by decide +kernel
theorem dL_law_648 : decode cL_law 648 = .ok (.iaload, 1) := by decide +kernel
theorem dL_law_649 : decode cL_law 649 = .ok (.aload_n 0, 1) := by decide +kernel
theorem dL_law_650 : decode cL_law 650 = .ok (.iload_n 3, 1) := by decide +kernel
theorem dL_law_651 : decode cL_law 651 = .ok (.iconst 5, 1) := by decide +kernel
theorem dL_law_652 : decode cL_law 652 = .ok (.iadd, 1) := by decide +kernel
theorem dL_law_653 : decode cL_law 653 = .ok (.iaload, 1) := by decide +kernel
theorem dL_law_654 : decode cL_law 654 = .ok (.invokevirtual 104, 3) := by decide +kernel
theorem dL_law_657 : decode cL_law 657 = .ok (.if_icmp .eq 121, 3) := by decide +kernel
theorem dL_law_660 : decode cL_law 660 = .ok (.iconst 0, 1) := by decide +kernel
theorem dL_law_661 : decode cL_law 661 = .ok (.ireturn, 1) := by decide +kernel
theorem dL_law_662 : decode cL_law 662 = .ok (.aload_n 1, 1) := by decide +kernel
theorem dL_law_663 : decode cL_law 663 = .ok (.aload_n 0, 1) := by decide +kernel
theorem dL_law_664 : decode cL_law 664 = .ok (.iload_n 3, 1) := by decide +kernel
theorem dL_law_665 : decode cL_law 665 = .ok (.iconst 1, 1) := by decide +kernel
theorem dL_law_666 : decode cL_law 666 = .ok (.iadd, 1) := by decide +kernel
theorem dL_law_667 : decode cL_law 667 = .ok (.iaload, 1) := by decide +kernel
theorem dL_law_668 : decode cL_law 668 = .ok (.aload_n 0, 1) := by decide +kernel
theorem dL_law_669 : decode cL_law 669 = .ok (.iload_n 3, 1) := by decide +kernel
theorem dL_law_670 : decode cL_law 670 = .ok (.iconst 2, 1) := by decide +kernel
theorem dL_law_671 : decode cL_law 671 = .ok (.iadd, 1) := by decide +kernel
theorem dL_law_672 : decode cL_law 672 = .ok (.iaload, 1) := by decide +kernel
theorem dL_law_673 : decode cL_law 673 = .ok (.invokevirtual 105, 3) := by decide +kernel
theorem dL_law_676 : decode cL_law 676 = .ok (.aload_n 2, 1) := by decide +kernel
theorem dL_law_677 : decode cL_law 677 = .ok (.aload_n 0, 1) := by decide +kernel
theorem dL_law_678 : decode cL_law 678 = .ok (.iload_n 3, 1) := by decide +kernel
theorem dL_law_679 : decode cL_law 679 = .ok (.iconst 1, 1) := by decide +kernel
theorem dL_law_680 : decode cL_law 680 = .ok (.iadd, 1) := by decide +kernel
theorem dL_law_681 : decode cL_law 681 = .ok (.iaload, 1) := by decide +kernel
theorem dL_law_682 : decode cL_law 682 = .ok (.aload_n 0, 1) := by decide +kernel
theorem dL_law_683 : decode cL_law 683 = .ok (.iload_n 3, 1) := by decide +kernel
theorem dL_law_684 : decode cL_law 684 = .ok (.iconst 2, 1) := by decide +kernel
theorem dL_law_685 : decode cL_law 685 = .ok (.iadd, 1) := by decide +kernel
theorem dL_law_686 : decode cL_law 686 = .ok (.iaload, 1) := by decide +kernel
theorem dL_law_687 : decode cL_law 687 = .ok (.invokevirtual 108, 3) := by decide +kernel
theorem dL_law_690 : decode cL_law 690 = .ok (.if_icmp .eq 88, 3) := by decide +kernel
theorem dL_law_693 : decode cL_law 693 = .ok (.iconst 0, 1) := by decide +kernel
theorem dL_law_694 : decode cL_law 694 = .ok (.ireturn, 1) := by decide +kernel
theorem dL_law_695 : decode cL_law 695 = .ok (.aload_n 1, 1) := by decide +kernel
theorem dL_law_696 : decode cL_law 696 = .ok (.aload_n 0, 1) := by decide +kernel
theorem dL_law_697 : decode cL_law 697 = .ok (.iload_n 3, 1) := by decide +kernel
theorem dL_law_698 : decode cL_law 698 = .ok (.iconst 1, 1) := by decide +kernel
theorem dL_law_699 : decode cL_law 699 = .ok (.iadd, 1) := by decide +kernel
theorem dL_law_700 : decode cL_law 700 = .ok (.iaload, 1) := by decide +kernel
theorem dL_law_701 : decode cL_law 701 = .ok (.invokevirtual 109, 3) := by decide +kernel
theorem dL_law_704 : decode cL_law 704 = .ok (.aload_n 2, 1) := by decide +kernel
theorem dL_law_705 : decode cL_law 705 = .ok (.aload_n 0, 1) := by decide +kernel
theorem dL_law_706 : decode cL_law 706 = .ok (.iload_n 3, 1) := by decide +kernel
theorem dL_law_707 : decode cL_law 707 = .ok (.iconst 1, 1) := by decide +kernel
theorem dL_law_708 : decode cL_law 708 = .ok (.iadd, 1) := by decide +kernel
theorem dL_law_709 : decode cL_law 709 = .ok (.iaload, 1) := by decide +kernel
theorem dL_law_710 : decode cL_law 710 = .ok (.invokevirtual 112, 3) := by decide +kernel
theorem dL_law_713 : decode cL_law 713 = .ok (.if_icmp .eq 65, 3) := by decide +kernel
theorem dL_law_716 : decode cL_law 716 = .ok (.iconst 0, 1) := by decide +kernel
theorem dL_law_717 : decode cL_law 717 = .ok (.ireturn, 1) := by decide +kernel
theorem dL_law_718 : decode cL_law 718 = .ok (.aload_n 1, 1) := by decide +kernel
theorem dL_law_719 : decode cL_law 719 = .ok (.aload_n 0, 1) := by decide +kernel
theorem dL_law_720 : decode cL_law 720 = .ok (.iload_n 3, 1) := by decide +kernel
theorem dL_law_721 : decode cL_law 721 = .ok (.iconst 1, 1) := by decide +kernel
theorem dL_law_722 : decode cL_law 722 = .ok (.iadd, 1) := by decide +kernel
theorem dL_law_723 : decode cL_law 723 = .ok (.iaload, 1) := by decide +kernel
theorem dL_law_724 : decode cL_law 724 = .ok (.invokevirtual 113, 3) := by decide +kernel
theorem dL_law_727 : decode cL_law 727 = .ok (.aload_n 2, 1) := by decide +kernel
theorem dL_law_728 : decode cL_law 728 = .ok (.aload_n 0, 1) := by decide +kernel
theorem dL_law_729 : decode cL_law 729 = .ok (.iload_n 3, 1) := by decide +kernel
theorem dL_law_730 : decode cL_law 730 = .ok (.iconst 1, 1) := by decide +kernel
theorem dL_law_731 : decode cL_law 731 = .ok (.iadd, 1) := by decide +kernel
theorem dL_law_732 : decode cL_law 732 = .ok (.iaload, 1) := by decide +kernel
theorem dL_law_733 : decode cL_law 733 = .ok (.invokevirtual 116, 3) := by decide +kernel
theorem dL_law_736 : decode cL_law 736 = .ok (.if_icmp .eq 42, 3) := by decide +kernel
theorem dL_law_739 : decode cL_law 739 = .ok (.iconst 0, 1) := by decide +kernel
theorem dL_law_740 : decode cL_law 740 = .ok (.ireturn, 1) := by decide +kernel
theorem dL_law_741 : decode cL_law 741 = .ok (.aload_n 1, 1) := by decide +kernel
theorem dL_law_742 : decode cL_law 742 = .ok (.aload_n 0, 1) := by decide +kernel
theorem dL_law_743 : decode cL_law 743 = .ok (.iload_n 3, 1) := by decide +kernel
theorem dL_law_744 : decode cL_law 744 = .ok (.iconst 1, 1) := by decide +kernel
theorem dL_law_745 : decode cL_law 745 = .ok (.iadd, 1) := by decide +kernel
theorem dL_law_746 : decode cL_law 746 = .ok (.iaload, 1) := by decide +kernel
theorem dL_law_747 : decode cL_law 747 = .ok (.invokevirtual 117, 3) := by decide +kernel
theorem dL_law_750 : decode cL_law 750 = .ok (.aload_n 2, 1) := by decide +kernel
theorem dL_law_751 : decode cL_law 751 = .ok (.aload_n 0, 1) := by decide +kernel
theorem dL_law_752 : decode cL_law 752 = .ok (.iload_n 3, 1) := by decide +kernel
theorem dL_law_753 : decode cL_law 753 = .ok (.iconst 1, 1) := by decide +kernel
theorem dL_law_754 : decode cL_law 754 = .ok (.iadd, 1) := by decide +kernel
theorem dL_law_755 : decode cL_law 755 = .ok (.iaload, 1) := by decide +kernel
theorem dL_law_756 : decode cL_law 756 = .ok (.invokevirtual 120, 3) := by decide +kernel
theorem dL_law_759 : decode cL_law 759 = .ok (.if_icmp .eq 19, 3) := by decide +kernel
theorem dL_law_762 : decode cL_law 762 = .ok (.iconst 0, 1) := by decide +kernel
theorem dL_law_763 : decode cL_law 763 = .ok (.ireturn, 1) := by decide +kernel
theorem dL_law_764 : decode cL_law 764 = .ok (.aload_n 1, 1) := by decide +kernel
theorem dL_law_765 : decode cL_law 765 = .ok (.invokevirtual 121, 3) := by decide +kernel
theorem dL_law_768 : decode cL_law 768 = .ok (.aload_n 2, 1) := by decide +kernel
theorem dL_law_769 : decode cL_law 769 = .ok (.invokevirtual 125, 3) := by decide +kernel
theorem dL_law_772 : decode cL_law 772 = .ok (.lcmp, 1) := by decide +kernel
theorem dL_law_773 : decode cL_law 773 = .ok (.ifCond .eq 5, 3) := by decide +kernel
theorem dL_law_776 : decode cL_law 776 = .ok (.iconst 0, 1) := by decide +kernel
theorem dL_law_777 : decode cL_law 777 = .ok (.ireturn, 1) := by decide +kernel
theorem dL_law_778 : decode cL_law 778 = .ok (.iinc 3 6, 3) := by decide +kernel
theorem dL_law_781 : decode cL_law 781 = .ok (.goto (-763), 3) := by decide +kernel
theorem dL_law_784 : decode cL_law 784 = .ok (.iconst 1, 1) := by decide +kernel
theorem dL_law_785 : decode cL_law 785 = .ok (.ireturn, 1) := by decide +kernel
