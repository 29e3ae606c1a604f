theorem dX7_earnedIn_35 : decode cX7_earnedIn 35 = .ok (.iload_n 2, 1) := by decide +kernel
theorem dX7_earnedIn_36 : decode cX7_earnedIn 36 = .ok (.ireturn, 1) := by decide +kernel
theorem dX7_takeDoing_0 : decode cX7_takeDoing 0 = .ok (.aload_n 0, 1) := by decide +kernel
theorem dX7_takeDoing_1 : decode cX7_takeDoing 1 = .ok (.dup, 1) := by decide +kernel
theorem dX7_takeDoing_2 : decode cX7_takeDoing 2 = .ok (.getfield 25, 3) := by decide +kernel
theorem dX7_takeDoing_5 : decode cX7_takeDoing 5 = .ok (.aload_n 1, 1) := by decide +kernel
theorem dX7_takeDoing_6 : decode cX7_takeDoing 6 = .ok (.getfield 59, 3) := by decide +kernel
theorem dX7_takeDoing_9 : decode cX7_takeDoing 9 = .ok (.iload_n 3, 1) := by decide +kernel
theorem dX7_takeDoing_10 : decode cX7_takeDoing 10 = .ok (.iaload, 1) := by decide +kernel
theorem dX7_takeDoing_11 : decode cX7_takeDoing 11 = .ok (.iadd, 1) := by decide +kernel
theorem dX7_takeDoing_12 : decode cX7_takeDoing 12 = .ok (.putfield 25, 3) := by decide +kernel
theorem dX7_takeDoing_15 : decode cX7_takeDoing 15 = .ok (.aload_n 0, 1) := by decide +kernel
theorem dX7_takeDoing_16 : decode cX7_takeDoing 16 = .ok (.getfield 9, 3) := by decide +kernel
theorem dX7_takeDoing_19 : decode cX7_takeDoing 19 = .ok (.iload_n 2, 1) := by decide +kernel
theorem dX7_takeDoing_20 : decode cX7_takeDoing 20 = .ok (.dup2, 1) := by decide +kernel
theorem dX7_takeDoing_21 : decode cX7_takeDoing 21 = .ok (.iaload, 1) := by decide +kernel
theorem dX7_takeDoing_22 : decode cX7_takeDoing 22 = .ok (.aload_n 1, 1) := by decide +kernel
theorem dX7_takeDoing_23 : decode cX7_takeDoing 23 = .ok (.iload_n 2, 1) := by decide +kernel
theorem dX7_takeDoing_24 : decode cX7_takeDoing 24 = .ok (.iload_n 3, 1) := by decide +kernel
theorem dX7_takeDoing_25 : decode cX7_takeDoing 25 = .ok (.invokevirtual 62, 3) := by decide +kernel
theorem dX7_takeDoing_28 : decode cX7_takeDoing 28 = .ok (.aload_n 0, 1) := by decide +kernel
theorem dX7_takeDoing_29 : decode cX7_takeDoing 29 = .ok (.getfield 15, 3) := by decide +kernel
theorem dX7_takeDoing_32 : decode cX7_takeDoing 32 = .ok (.iload_n 2, 1) := by decide +kernel
theorem dX7_takeDoing_33 : decode cX7_takeDoing 33 = .ok (.iaload, 1) := by decide +kernel
theorem dX7_takeDoing_34 : decode cX7_takeDoing 34 = .ok (.iload_n 3, 1) := by decide +kernel
theorem dX7_takeDoing_35 : decode cX7_takeDoing 35 = .ok (.if_icmp .ne 7, 3) := by decide +kernel
theorem dX7_takeDoing_38 : decode cX7_takeDoing 38 = .ok (.iconst 1, 1) := by decide +kernel
theorem dX7_takeDoing_39 : decode cX7_takeDoing 39 = .ok (.goto 4, 3) := by decide +kernel
theorem dX7_takeDoing_42 : decode cX7_takeDoing 42 = .ok (.iconst 0, 1) := by decide +kernel
theorem dX7_takeDoing_43 : decode cX7_takeDoing 43 = .ok (.invokestatic 66, 3) := by decide +kernel
theorem dX7_takeDoing_46 : decode cX7_takeDoing 46 = .ok (.isub, 1) := by decide +kernel
theorem dX7_takeDoing_47 : decode cX7_takeDoing 47 = .ok (.iastore, 1) := by decide +kernel
theorem dX7_takeDoing_48 : decode cX7_takeDoing 48 = .ok (.aload_n 0, 1) := by decide +kernel
theorem dX7_takeDoing_49 : decode cX7_takeDoing 49 = .ok (.getfield 15, 3) := by decide +kernel
theorem dX7_takeDoing_52 : decode cX7_takeDoing 52 = .ok (.iload_n 2, 1) := by decide +kernel
theorem dX7_takeDoing_53 : decode cX7_takeDoing 53 = .ok (.iload_n 3, 1) := by decide +kernel
theorem dX7_takeDoing_54 : decode cX7_takeDoing 54 = .ok (.iastore, 1) := by decide +kernel
theorem dX7_takeDoing_55 : decode cX7_takeDoing 55 = .ok (.aload_n 0, 1) := by decide +kernel
theorem dX7_takeDoing_56 : decode cX7_takeDoing 56 = .ok (.getfield 9, 3) := by decide +kernel
theorem dX7_takeDoing_59 : decode cX7_takeDoing 59 = .ok (.iload_n 2, 1) := by decide +kernel
theorem dX7_takeDoing_60 : decode cX7_takeDoing 60 = .ok (.iaload, 1) := by decide +kernel
theorem dX7_takeDoing_61 : decode cX7_takeDoing 61 = .ok (.ifCond .ge 21, 3) := by decide +kernel
theorem dX7_takeDoing_64 : decode cX7_takeDoing 64 = .ok (.aload_n 0, 1) := by decide +kernel
theorem dX7_takeDoing_65 : decode cX7_takeDoing 65 = .ok (.dup, 1) := by decide +kernel
theorem dX7_takeDoing_66 : decode cX7_takeDoing 66 = .ok (.getfield 28, 3) := by decide +kernel
theorem dX7_takeDoing_69 : decode cX7_takeDoing 69 = .ok (.iconst 1, 1) := by decide +kernel
theorem dX7_takeDoing_70 : decode cX7_takeDoing 70 = .ok (.iload_n 2, 1) := by decide +kernel
theorem dX7_takeDoing_71 : decode cX7_takeDoing 71 = .ok (.ishl, 1) := by decide +kernel
theorem dX7_takeDoing_72 : decode cX7_takeDoing 72 = .ok (.ior, 1) := by decide +kernel
theorem dX7_takeDoing_73 : decode cX7_takeDoing 73 = .ok (.putfield 28, 3) := by decide +kernel
theorem dX7_takeDoing_76 : decode cX7_takeDoing 76 = .ok (.aload_n 0, 1) := by decide +kernel
theorem dX7_takeDoing_77 : decode cX7_takeDoing 77 = .ok (.bipush (-9), 2) := by decide +kernel
theorem dX7_takeDoing_79 : decode cX7_takeDoing 79 = .ok (.putfield 18, 3) := by decide +kernel
theorem dX7_takeDoing_82 : decode cX7_takeDoing 82 = .ok (.return_, 1) := by decide +kernel
theorem dX8_init_0 : decode cX8_init 0 = .ok (.aload_n 0, 1) := by decide +kernel
theorem dX8_init_1 : decode cX8_init 1 = .ok (.invokespecial 1, 3) := by decide +kernel
theorem dX8_init_4 : decode cX8_init 4 = .ok (.aload_n 0, 1) := by decide +kernel
theorem dX8_init_5 : decode cX8_init 5 = .ok (.new 7, 3) := by decide +kernel
theorem dX8_init_8 : decode cX8_init 8 = .ok (.dup, 1) := by decide +kernel
theorem dX8_init_9 : decode cX8_init 9 = .ok (.invokespecial 9, 3) := by decide +kernel
theorem dX8_init_12 : decode cX8_init 12 = .ok (.putfield 10, 3) := by decide +kernel
theorem dX8_init_15 : decode cX8_init 15 = .ok (.aload_n 0, 1) := by decide +kernel
theorem dX8_init_16 : decode cX8_init 16 = .ok (.new 16, 3) := by decide +kernel
theorem dX8_init_19 : decode cX8_init 19 = .ok (.dup, 1) := by decide +kernel
theorem dX8_init_20 : decode cX8_init 20 = .ok (.invokespecial 18, 3) := by decide +kernel
theorem dX8_init_23 : decode cX8_init 23 = .ok (.putfield 19, 3) := by decide +kernel
theorem dX8_init_26 : decode cX8_init 26 = .ok (.aload_n 0, 1) := by decide +kernel
theorem dX8_init_27 : decode cX8_init 27 = .ok (.new 16, 3) := by decide +kernel
theorem dX8_init_30 : decode cX8_init 30 = .ok (.dup, 1) := by decide +kernel
theorem dX8_init_31 : decode cX8_init 31 = .ok (.invokespecial 18, 3) := by decide +kernel
theorem dX8_init_34 : decode cX8_init 34 = .ok (.putfield 23, 3) := by decide +kernel
theorem dX8_init_37 : decode cX8_init 37 = .ok (.aload_n 0, 1) := by decide +kernel
theorem dX8_init_38 : decode cX8_init 38 = .ok (.new 26, 3) := by decide +kernel
theorem dX8_init_41 : decode cX8_init 41 = .ok (.dup, 1) := by decide +kernel
theorem dX8_init_42 : decode cX8_init 42 = .ok (.invokespecial 28, 3) := by decide +kernel
theorem dX8_init_45 : decode cX8_init 45 = .ok (.putfield 29, 3) := by decide +kernel
theorem dX8_init_48 : decode cX8_init 48 = .ok (.aload_n 0, 1) := by decide +kernel
theorem dX8_init_49 : decode cX8_init 49 = .ok (.new 33, 3) := by decide +kernel
theorem dX8_init_52 : decode cX8_init 52 = .ok (.dup, 1) := by decide +kernel
theorem dX8_init_53 : decode cX8_init 53 = .ok (.invokespecial 35, 3) := by decide +kernel
theorem dX8_init_56 : decode cX8_init 56 = .ok (.putfield 36, 3) := by decide +kernel
theorem dX8_init_59 : decode cX8_init 59 = .ok (.aload_n 0, 1) := by decide +kernel
theorem dX8_init_60 : decode cX8_init 60 = .ok (.iconst 2, 1) := by decide +kernel
theorem dX8_init_61 : decode cX8_init 61 = .ok (.anewarray 26, 3) := by decide +kernel
theorem dX8_init_64 : decode cX8_init 64 = .ok (.putfield 40, 3) := by decide +kernel
theorem dX8_init_67 : decode cX8_init 67 = .ok (.iconst 0, 1) := by decide +kernel
theorem dX8_init_68 : decode cX8_init 68 = .ok (.istore_n 1, 1) := by decide +kernel
theorem dX8_init_69 : decode cX8_init 69 = .ok (.iload_n 1, 1) := by decide +kernel
theorem dX8_init_70 : decode cX8_init 70 = .ok (.iconst 2, 1) := by decide +kernel
theorem dX8_init_71 : decode cX8_init 71 = .ok (.if_icmp .ge 22, 3) := by decide +kernel
theorem dX8_init_74 : decode cX8_init 74 = .ok (.aload_n 0, 1) := by decide +kernel
theorem dX8_init_75 : decode cX8_init 75 = .ok (.getfield 40, 3) := by decide +kernel
theorem dX8_init_78 : decode cX8_init 78 = .ok (.iload_n 1, 1) := by decide +kernel
theorem dX8_init_79 : decode cX8_init 79 = .ok (.new 26, 3) := by decide +kernel
theorem dX8_init_82 : decode cX8_init 82 = .ok (.dup, 1) := by decide +kernel
theorem dX8_init_83 : decode cX8_init 83 = .ok (.invokespecial 28, 3) := by decide +kernel
theorem dX8_init_86 : decode cX8_init 86 = .ok (.aastore, 1) := by decide +kernel
theorem dX8_init_87 : decode cX8_init 87 = .ok (.iinc 1 1, 3) := by decide +kernel
theorem dX8_init_90 : decode cX8_init 90 = .ok (.goto (-21), 3) := by decide +kernel
theorem dX8_init_93 : decode cX8_init 93 = .ok (.aload_n 0, 1) := by decide +kernel
theorem dX8_init_94 : decode cX8_init 94 = .ok (.iconst 0, 1) := by decide +kernel
theorem dX8_init_95 : decode cX8_init 95 = .ok (.putfield 44, 3) := by decide +kernel
theorem dX8_init_98 : decode cX8_init 98 = .ok (.aload_n 0, 1) := by decide +kernel
theorem dX8_init_99 : decode cX8_init 99 = .ok (.new 48, 3) := by decide +kernel
theorem dX8_init_102 : decode cX8_init 102 = .ok (.dup, 1) := by decide +kernel
theorem dX8_init_103 : decode cX8_init 103 = .ok (.invokespecial 50, 3) := by decide +kernel
theorem dX8_init_106 : decode cX8_init 106 = .ok (.putfield 51, 3) := by decide +kernel
theorem dX8_init_109 : decode cX8_init 109 = .ok (.aload_n 0, 1) := by decide +kernel
theorem dX8_init_110 : decode cX8_init 110 = .ok (.new 55, 3) := by decide +kernel
theorem dX8_init_113 : decode cX8_init 113 = .ok (.dup, 1) := by decide +kernel
theorem dX8_init_114 : decode cX8_init 114 = .ok (.invokespecial 57, 3) := by decide +kernel
theorem dX8_init_117 : decode cX8_init 117 = .ok (.putfield 58, 3) := by decide +kernel
theorem dX8_init_120 : decode cX8_init 120 = .ok (.aload_n 0, 1) := by decide +kernel
theorem dX8_init_121 : decode cX8_init 121 = .ok (.new 62, 3) := by decide +kernel
theorem dX8_init_124 : decode cX8_init 124 = .ok (.dup, 1) := by decide +kernel
theorem dX8_init_125 : decode cX8_init 125 = .ok (.invokespecial 64, 3) := by decide +kernel
theorem dX8_init_128 : decode cX8_init 128 = .ok (.putfield 65, 3) := by decide +kernel
theorem dX8_init_131 : decode cX8_init 131 = .ok (.aload_n 0, 1) := by decide +kernel
theorem dX8_init_132 : decode cX8_init 132 = .ok (.new 69, 3) := by decide +kernel
theorem dX8_init_135 : decode cX8_init 135 = .ok (.dup, 1) := by decide +kernel
theorem dX8_init_136 : decode cX8_init 136 = .ok (.invokespecial 71, 3) := by decide +kernel
theorem dX8_init_139 : decode cX8_init 139 = .ok (.putfield 72, 3) := by decide +kernel
theorem dX8_init_142 : decode cX8_init 142 = .ok (.aload_n 0, 1) := by decide +kernel
theorem dX8_init_143 : decode cX8_init 143 = .ok (.bipush 7, 2) := by decide +kernel
theorem dX8_init_145 : decode cX8_init 145 = .ok (.newarray .int, 2) := by decide +kernel
theorem dX8_init_147 : decode cX8_init 147 = .ok (.putfield 76, 3) := by decide +kernel
theorem dX8_init_150 : decode cX8_init 150 = .ok (.aload_n 0, 1) := by decide +kernel
theorem dX8_init_151 : decode cX8_init 151 = .ok (.lconst 0, 1) := by decide +kernel
theorem dX8_init_152 : decode cX8_init 152 = .ok (.putfield 80, 3) := by decide +kernel
theorem dX8_init_155 : decode cX8_init 155 = .ok (.return_, 1) := by decide +kernel
theorem dX8_type_0 : decode cX8_type 0 = .ok (.iload_n 1, 1) := by decide +kernel
theorem dX8_type_1 : decode cX8_type 1 = .ok (.ifCond .lt 10, 3) := by decide +kernel
theorem dX8_type_4 : decode cX8_type 4 = .ok (.iload_n 1, 1) := by decide +kernel
theorem dX8_type_5 : decode cX8_type 5 = .ok (.sipush 255, 3) := by decide +kernel
theorem dX8_type_8 : decode cX8_type 8 = .ok (.if_icmp .le 5, 3) := by decide +kernel
theorem dX8_type_11 : decode cX8_type 11 = .ok (.iconst (-1), 1) := by decide +kernel
theorem dX8_type_12 : decode cX8_type 12 = .ok (.ireturn, 1) := by decide +kernel
theorem dX8_type_13 : decode cX8_type 13 = .ok (.aload_n 0, 1) := by decide +kernel
theorem dX8_type_14 : decode cX8_type 14 = .ok (.getfield 10, 3) := by decide +kernel
theorem dX8_type_17 : decode cX8_type 17 = .ok (.getfield 84, 3) := by decide +kernel
theorem dX8_type_20 : decode cX8_type 20 = .ok (.sipush 200, 3) := by decide +kernel
theorem dX8_type_23 : decode cX8_type 23 = .ok (.if_icmp .lt 6, 3) := by decide +kernel
theorem dX8_type_26 : decode cX8_type 26 = .ok (.bipush (-3), 2) := by decide +kernel
theorem dX8_type_28 : decode cX8_type 28 = .ok (.ireturn, 1) := by decide +kernel
theorem dX8_type_29 : decode cX8_type 29 = .ok (.aload_n 0, 1) := by decide +kernel
theorem dX8_type_30 : decode cX8_type 30 = .ok (.getfield 10, 3) := by decide +kernel
theorem dX8_type_33 : decode cX8_type 33 = .ok (.iload_n 1, 1) := by decide +kernel
theorem dX8_type_34 : decode cX8_type 34 = .ok (.invokevirtual 87, 3) := by decide +kernel
theorem dX8_type_37 : decode cX8_type 37 = .ok (.aload_n 0, 1) := by decide +kernel
theorem dX8_type_38 : decode cX8_type 38 = .ok (.getfield 10, 3) := by decide +kernel
theorem dX8_type_41 : decode cX8_type 41 = .ok (.getfield 84, 3) := by decide +kernel
theorem dX8_type_44 : decode cX8_type 44 = .ok (.ireturn, 1) := by decide +kernel
theorem dX8_clear_0 : decode cX8_clear 0 = .ok (.aload_n 0, 1) := by decide +kernel
theorem dX8_clear_1 : decode cX8_clear 1 = .ok (.getfield 10, 3) := by decide +kernel
theorem dX8_clear_4 : decode cX8_clear 4 = .ok (.getfield 84, 3) := by decide +kernel
theorem dX8_clear_7 : decode cX8_clear 7 = .ok (.istore_n 1, 1) := by decide +kernel
theorem dX8_clear_8 : decode cX8_clear 8 = .ok (.aload_n 0, 1) := by decide +kernel
theorem dX8_clear_9 : decode cX8_clear 9 = .ok (.getfield 10, 3) := by decide +kernel
theorem dX8_clear_12 : decode cX8_clear 12 = .ok (.iconst 0, 1) := by decide +kernel
theorem dX8_clear_13 : decode cX8_clear 13 = .ok (.putfield 84, 3) := by decide +kernel
theorem dX8_clear_16 : decode cX8_clear 16 = .ok (.iload_n 1, 1) := by decide +kernel
theorem dX8_clear_17 : decode cX8_clear 17 = .ok (.ireturn, 1) := by decide +kernel
theorem dX8_house_0 : decode cX8_house 0 = .ok (.aload_n 0, 1) := by decide +kernel
theorem dX8_house_1 : decode cX8_house 1 = .ok (.getfield 10, 3) := by decide +kernel
theorem dX8_house_4 : decode cX8_house 4 = .ok (.aload_n 0, 1) := by decide +kernel
theorem dX8_house_5 : decode cX8_house 5 = .ok (.getfield 23, 3) := by decide +kernel
theorem dX8_house_8 : decode cX8_house 8 = .ok (.invokevirtual 91, 3) := by decide +kernel
theorem dX8_house_11 : decode cX8_house 11 = .ok (.istore_n 1, 1) := by decide +kernel
theorem dX8_house_12 : decode cX8_house 12 = .ok (.iload_n 1, 1) := by decide +kernel
theorem dX8_house_13 : decode cX8_house 13 = .ok (.ifCond .ge 14, 3) := by decide +kernel
theorem dX8_house_16 : decode cX8_house 16 = .ok (.bipush (-10), 2) := by decide +kernel
theorem dX8_house_18 : decode cX8_house 18 = .ok (.aload_n 0, 1) := by decide +kernel
theorem dX8_house_19 : decode cX8_house 19 = .ok (.getfield 10, 3) := by decide +kernel
theorem dX8_house_22 : decode cX8_house 22 = .ok (.getfield 95, 3) := by decide +kernel
theorem dX8_house_25 : decode cX8_house 25 = .ok (.isub, 1) := by decide +kernel
theorem dX8_house_26 : decode cX8_house 26 = .ok (.ireturn, 1) := by decide +kernel
theorem dX8_house_27 : decode cX8_house 27 = .ok (.aload_n 0, 1) := by decide +kernel
theorem dX8_house_28 : decode cX8_house 28 = .ok (.getfield 19, 3) := by decide +kernel
theorem dX8_house_31 : decode cX8_house 31 = .ok (.astore_n 2, 1) := by decide +kernel
theorem dX8_house_32 : decode cX8_house 32 = .ok (.aload_n 0, 1) := by decide +kernel
theorem dX8_house_33 : decode cX8_house 33 = .ok (.aload_n 0, 1) := by decide +kernel
theorem dX8_house_34 : decode cX8_house 34 = .ok (.getfield 23, 3) := by decide +kernel
theorem dX8_house_37 : decode cX8_house 37 = .ok (.putfield 19, 3) := by decide +kernel
theorem dX8_house_40 : decode cX8_house 40 = .ok (.aload_n 0, 1) := by decide +kernel
theorem dX8_house_41 : decode cX8_house 41 = .ok (.aload_n 2, 1) := by decide +kernel
theorem dX8_house_42 : decode cX8_house 42 = .ok (.putfield 23, 3) := by decide +kernel
theorem dX8_house_45 : decode cX8_house 45 = .ok (.aload_n 0, 1) := by decide +kernel
theorem dX8_house_46 : decode cX8_house 46 = .ok (.getfield 10, 3) := by decide +kernel
theorem dX8_house_49 : decode cX8_house 49 = .ok (.iconst 0, 1) := by decide +kernel
theorem dX8_house_50 : decode cX8_house 50 = .ok (.putfield 84, 3) := by decide +kernel
theorem dX8_house_53 : decode cX8_house 53 = .ok (.aload_n 0, 1) := by decide +kernel
theorem dX8_house_54 : decode cX8_house 54 = .ok (.getfield 29, 3) := by decide +kernel
theorem dX8_house_57 : decode cX8_house 57 = .ok (.aload_n 0, 1) := by decide +kernel
theorem dX8_house_58 : decode cX8_house 58 = .ok (.getfield 19, 3) := by decide +kernel
theorem dX8_house_61 : decode cX8_house 61 = .ok (.invokevirtual 98, 3) := by decide +kernel
theorem dX8_house_64 : decode cX8_house 64 = .ok (.aload_n 0, 1) := by decide +kernel
theorem dX8_house_65 : decode cX8_house 65 = .ok (.getfield 36, 3) := by decide +kernel
theorem dX8_house_68 : decode cX8_house 68 = .ok (.invokevirtual 102, 3) := by decide +kernel
theorem dX8_house_71 : decode cX8_house 71 = .ok (.aload_n 0, 1) := by decide +kernel
theorem dX8_house_72 : decode cX8_house 72 = .ok (.iconst 0, 1) := by decide +kernel
theorem dX8_house_73 : decode cX8_house 73 = .ok (.putfield 44, 3) := by decide +kernel
theorem dX8_house_76 : decode cX8_house 76 = .ok (.aload_n 0, 1) := by decide +kernel
theorem dX8_house_77 : decode cX8_house 77 = .ok (.getfield 72, 3) := by decide +kernel
theorem dX8_house_80 : decode cX8_house 80 = .ok (.iconst 0, 1) := by decide +kernel
theorem dX8_house_81 : decode cX8_house 81 = .ok (.putfield 105, 3) := by decide +kernel
theorem dX8_house_84 : decode cX8_house 84 = .ok (.iload_n 1, 1) := by decide +kernel
theorem dX8_house_85 : decode cX8_house 85 = .ok (.ireturn, 1) := by decide +kernel
theorem dX8_room_0 : decode cX8_room 0 = .ok (.aload_n 0, 1) := by decide +kernel
theorem dX8_room_1 : decode cX8_room 1 = .ok (.getfield 19, 3) := by decide +kernel
theorem dX8_room_4 : decode cX8_room 4 = .ok (.iload_n 1, 1) := by decide +kernel
theorem dX8_room_5 : decode cX8_room 5 = .ok (.invokevirtual 108, 3) := by decide +kernel
theorem dX8_room_8 : decode cX8_room 8 = .ok (.ifCond .ne 6, 3) := by decide +kernel
theorem dX8_room_11 : decode cX8_room 11 = .ok (.ldc 112, 2) := by decide +kernel
theorem dX8_room_13 : decode cX8_room 13 = .ok (.ireturn, 1) := by decide +kernel
theorem dX8_room_14 : decode cX8_room 14 = .ok (.iload_n 2, 1) := by decide +kernel
theorem dX8_room_15 : decode cX8_room 15 = .ok (.tableswitch 90 0 4 #[33, 43, 53, 63, 80], 33) := by decide +kernel
theorem dX8_room_48 : decode cX8_room 48 = .ok (.aload_n 0, 1) := by decide +kernel
theorem dX8_room_49 : decode cX8_room 49 = .ok (.getfield 29, 3) := by decide +kernel
theorem dX8_room_52 : decode cX8_room 52 = .ok (.getfield 113, 3) := by decide +kernel
theorem dX8_room_55 : decode cX8_room 55 = .ok (.iload_n 1, 1) := by decide +kernel
theorem dX8_room_56 : decode cX8_room 56 = .ok (.iaload, 1) := by decide +kernel
theorem dX8_room_57 : decode cX8_room 57 = .ok (.ireturn, 1) := by decide +kernel
theorem dX8_room_58 : decode cX8_room 58 = .ok (.aload_n 0, 1) := by decide +kernel
theorem dX8_room_59 : decode cX8_room 59 = .ok (.getfield 19, 3) := by decide +kernel
theorem dX8_room_62 : decode cX8_room 62 = .ok (.getfield 116, 3) := by decide +kernel
theorem dX8_room_65 : decode cX8_room 65 = .ok (.iload_n 1, 1) := by decide +kernel
theorem dX8_room_66 : decode cX8_room 66 = .ok (.iaload, 1) := by decide +kernel
theorem dX8_room_67 : decode cX8_room 67 = .ok (.ireturn, 1) := by decide +kernel
theorem dX8_room_68 : decode cX8_room 68 = .ok (.aload_n 0, 1) := by decide +kernel
theorem dX8_room_69 : decode cX8_room 69 = .ok (.getfield 19, 3) := by decide +kernel
theorem dX8_room_72 : decode cX8_room 72 = .ok (.getfield 119, 3) := by decide +kernel
theorem dX8_room_75 : decode cX8_room 75 = .ok (.iload_n 1, 1) := by decide +kernel
theorem dX8_room_76 : decode cX8_room 76 = .ok (.iaload, 1) := by decide +kernel
theorem dX8_room_77 : decode cX8_room 77 = .ok (.ireturn, 1) := by decide +kernel
theorem dX8_room_78 : decode cX8_room 78 = .ok (.aload_n 0, 1) := by decide +kernel
theorem dX8_room_79 : decode cX8_room 79 = .ok (.getfield 29, 3) := by decide +kernel
theorem dX8_room_82 : decode cX8_room 82 = .ok (.iload_n 1, 1) := by decide +kernel
theorem dX8_room_83 : decode cX8_room 83 = .ok (.invokevirtual 122, 3) := by decide +kernel
theorem dX8_room_86 : decode cX8_room 86 = .ok (.ifCond .eq 7, 3) := by decide +kernel
theorem dX8_room_89 : decode cX8_room 89 = .ok (.iconst 1, 1) := by decide +kernel
theorem dX8_room_90 : decode cX8_room 90 = .ok (.goto 4, 3) := by decide +kernel
theorem dX8_room_93 : decode cX8_room 93 = .ok (.iconst 0, 1) := by decide +kernel
theorem dX8_room_94 : decode cX8_room 94 = .ok (.ireturn, 1) := by decide +kernel
theorem dX8_room_95 : decode cX8_room 95 = .ok (.aload_n 0, 1) := by decide +kernel
theorem dX8_room_96 : decode cX8_room 96 = .ok (.getfield 29, 3) := by decide +kernel
theorem dX8_room_99 : decode cX8_room 99 = .ok (.getfield 125, 3) := by decide +kernel
theorem dX8_room_102 : decode cX8_room 102 = .ok (.iload_n 1, 1) := by decide +kernel
theorem dX8_room_103 : decode cX8_room 103 = .ok (.iaload, 1) := by decide +kernel
theorem dX8_room_104 : decode cX8_room 104 = .ok (.ireturn, 1) := by decide +kernel
theorem dX8_room_105 : decode cX8_room 105 = .ok (.ldc 112, 2) := by decide +kernel
theorem dX8_room_107 : decode cX8_room 107 = .ok (.ireturn, 1) := by decide +kernel
theorem dX8_doing_0 : decode cX8_doing 0 = .ok (.aload_n 0, 1) := by decide +kernel
theorem dX8_doing_1 : decode cX8_doing 1 = .ok (.getfield 19, 3) := by decide +kernel
theorem dX8_doing_4 : decode cX8_doing 4 = .ok (.iload_n 1, 1) := by decide +kernel
theorem dX8_doing_5 : decode cX8_doing 5 = .ok (.invokevirtual 128, 3) := by decide +kernel
theorem dX8_doing_8 : decode cX8_doing 8 = .ok (.ifCond .ne 5, 3) := by decide +kernel
theorem dX8_doing_11 : decode cX8_doing 11 = .ok (.iconst (-1), 1) := by decide +kernel
theorem dX8_doing_12 : decode cX8_doing 12 = .ok (.ireturn, 1) := by decide +kernel
theorem dX8_doing_13 : decode cX8_doing 13 = .ok (.iload_n 2, 1) := by decide +kernel
theorem dX8_doing_14 : decode cX8_doing 14 = .ok (.lookupswitch 46 #[(0, 26), (1, 36)], 26) := by decide +kernel
theorem dX8_doing_40 : decode cX8_doing 40 = .ok (.aload_n 0, 1) := by decide +kernel
theorem dX8_doing_41 : decode cX8_doing 41 = .ok (.getfield 19, 3) := by decide +kernel
theorem dX8_doing_44 : decode cX8_doing 44 = .ok (.getfield 131, 3) := by decide +kernel
theorem dX8_doing_47 : decode cX8_doing 47 = .ok (.iload_n 1, 1) := by decide +kernel
theorem dX8_doing_48 : decode cX8_doing 48 = .ok (.iaload, 1) := by decide +kernel
theorem dX8_doing_49 : decode cX8_doing 49 = .ok (.ireturn, 1) := by decide +kernel
theorem dX8_doing_50 : decode cX8_doing 50 = .ok (.aload_n 0, 1) := by decide +kernel
theorem dX8_doing_51 : decode cX8_doing 51 = .ok (.getfield 19, 3) := by decide +kernel
theorem dX8_doing_54 : decode cX8_doing 54 = .ok (.getfield 134, 3) := by decide +kernel
theorem dX8_doing_57 : decode cX8_doing 57 = .ok (.iload_n 1, 1) := by decide +kernel
theorem dX8_doing_58 : decode cX8_doing 58 = .ok (.iaload, 1) := by decide +kernel
theorem dX8_doing_59 : decode cX8_doing 59 = .ok (.ireturn, 1) := by decide +kernel
theorem dX8_doing_60 : decode cX8_doing 60 = .ok (.iconst (-1), 1) := by decide +kernel
theorem dX8_doing_61 : decode cX8_doing 61 = .ok (.ireturn, 1) := by decide +kernel
theorem dX8_suspect_0 : decode cX8_suspect 0 = .ok (.iload_n 1, 1) := by decide +kernel
theorem dX8_suspect_1 : decode cX8_suspect 1 = .ok (.ifCond .lt 14, 3) := by decide +kernel
theorem dX8_suspect_4 : decode cX8_suspect 4 = .ok (.iload_n 1, 1) := by decide +kernel
theorem dX8_suspect_5 : decode cX8_suspect 5 = .ok (.aload_n 0, 1) := by decide +kernel
theorem dX8_suspect_6 : decode cX8_suspect 6 = .ok (.getfield 19, 3) := by decide +kernel
theorem dX8_suspect_9 : decode cX8_suspect 9 = .ok (.getfield 137, 3) := by decide +kernel
theorem dX8_suspect_12 : decode cX8_suspect 12 = .ok (.if_icmp .lt 5, 3) := by decide +kernel
theorem dX8_suspect_15 : decode cX8_suspect 15 = .ok (.iconst (-1), 1) := by decide +kernel
theorem dX8_suspect_16 : decode cX8_suspect 16 = .ok (.ireturn, 1) := by decide +kernel
theorem dX8_suspect_17 : decode cX8_suspect 17 = .ok (.aload_n 0, 1) := by decide +kernel
theorem dX8_suspect_18 : decode cX8_suspect 18 = .ok (.getfield 19, 3) := by decide +kernel
theorem dX8_suspect_21 : decode cX8_suspect 21 = .ok (.getfield 140, 3) := by decide +kernel
theorem dX8_suspect_24 : decode cX8_suspect 24 = .ok (.iload_n 1, 1) := by decide +kernel
theorem dX8_suspect_25 : decode cX8_suspect 25 = .ok (.iaload, 1) := by decide +kernel
theorem dX8_suspect_26 : decode cX8_suspect 26 = .ok (.ireturn, 1) := by decide +kernel
theorem dX8_now_0 : decode cX8_now 0 = .ok (.iload_n 1, 1) := by decide +kernel
theorem dX8_now_1 : decode cX8_now 1 = .ok (.tableswitch 122 0 7 #[47, 55, 63, 71, 79, 91, 99, 114], 47) := by decide +kernel
theorem dX8_now_48 : decode cX8_now 48 = .ok (.aload_n 0, 1) := by decide +kernel
theorem dX8_now_49 : decode cX8_now 49 = .ok (.getfield 29, 3) := by decide +kernel
theorem dX8_now_52 : decode cX8_now 52 = .ok (.getfield 143, 3) := by decide +kernel
theorem dX8_now_55 : decode cX8_now 55 = .ok (.ireturn, 1) := by decide +kernel
theorem dX8_now_56 : decode cX8_now 56 = .ok (.aload_n 0, 1) := by decide +kernel
theorem dX8_now_57 : decode cX8_now 57 = .ok (.getfield 29, 3) := by decide +kernel
theorem dX8_now_60 : decode cX8_now 60 = .ok (.getfield 146, 3) := by decide +kernel
theorem dX8_now_63 : decode cX8_now 63 = .ok (.ireturn, 1) := by decide +kernel
theorem dX8_now_64 : decode cX8_now 64 = .ok (.aload_n 0, 1) := by decide +kernel
theorem dX8_now_65 : decode cX8_now 65 = .ok (.getfield 29, 3) := by decide +kernel
theorem dX8_now_68 : decode cX8_now 68 = .ok (.getfield 149, 3) := by decide +kernel
theorem dX8_now_71 : decode cX8_now 71 = .ok (.ireturn, 1) := by decide +kernel
theorem dX8_now_72 : decode cX8_now 72 = .ok (.aload_n 0, 1) := by decide +kernel
theorem dX8_now_73 : decode cX8_now 73 = .ok (.getfield 29, 3) := by decide +kernel
theorem dX8_now_76 : decode cX8_now 76 = .ok (.getfield 152, 3) := by decide +kernel
theorem dX8_now_79 : decode cX8_now 79 = .ok (.ireturn, 1) := by decide +kernel
theorem dX8_now_80 : decode cX8_now 80 = .ok (.aload_n 0, 1) := by decide +kernel
theorem dX8_now_81 : decode cX8_now 81 = .ok (.getfield 29, 3) := by decide +kernel
theorem dX8_now_84 : decode cX8_now 84 = .ok (.aload_n 0, 1) := by decide +kernel
theorem dX8_now_85 : decode cX8_now 85 = .ok (.getfield 19, 3) := by decide +kernel
theorem dX8_now_88 : decode cX8_now 88 = .ok (.invokevirtual 155, 3) := by decide +kernel
theorem dX8_now_91 : decode cX8_now 91 = .ok (.ireturn, 1) := by decide +kernel
theorem dX8_now_92 : decode cX8_now 92 = .ok (.aload_n 0, 1) := by decide +kernel
theorem dX8_now_93 : decode cX8_now 93 = .ok (.getfield 29, 3) := by decide +kernel
theorem dX8_now_96 : decode cX8_now 96 = .ok (.getfield 158, 3) := by decide +kernel
theorem dX8_now_99 : decode cX8_now 99 = .ok (.ireturn, 1) := by decide +kernel
theorem dX8_now_100 : decode cX8_now 100 = .ok (.aload_n 0, 1) := by decide +kernel
theorem dX8_now_101 : decode cX8_now 101 = .ok (.getfield 19, 3) := by decide +kernel
theorem dX8_now_104 : decode cX8_now 104 = .ok (.aload_n 0, 1) := by decide +kernel
theorem dX8_now_105 : decode cX8_now 105 = .ok (.getfield 29, 3) := by decide +kernel
theorem dX8_now_108 : decode cX8_now 108 = .ok (.getfield 158, 3) := by decide +kernel
theorem dX8_now_111 : decode cX8_now 111 = .ok (.invokestatic 161, 3) := by decide +kernel
theorem dX8_now_114 : decode cX8_now 114 = .ok (.ireturn, 1) := by decide +kernel
theorem dX8_now_115 : decode cX8_now 115 = .ok (.aload_n 0, 1) := by decide +kernel
theorem dX8_now_116 : decode cX8_now 116 = .ok (.getfield 36, 3) := by decide +kernel
theorem dX8_now_119 : decode cX8_now 119 = .ok (.getfield 165, 3) := by decide +kernel
theorem dX8_now_122 : decode cX8_now 122 = .ok (.ireturn, 1) := by decide +kernel
theorem dX8_now_123 : decode cX8_now 123 = .ok (.iconst (-1), 1) := by decide +kernel
theorem dX8_now_124 : decode cX8_now 124 = .ok (.ireturn, 1) := by decide +kernel
theorem dX8_goes_0 : decode cX8_goes 0 = .ok (.aload_n 0, 1) := by decide +kernel
theorem dX8_goes_1 : decode cX8_goes 1 = .ok (.getfield 19, 3) := by decide +kernel
theorem dX8_goes_4 : decode cX8_goes 4 = .ok (.iload_n 1, 1) := by decide +kernel
theorem dX8_goes_5 : decode cX8_goes 5 = .ok (.invokevirtual 108, 3) := by decide +kernel
theorem dX8_goes_8 : decode cX8_goes 8 = .ok (.ifCond .ne 5, 3) := by decide +kernel
theorem dX8_goes_11 : decode cX8_goes 11 = .ok (.iconst (-1), 1) := by decide +kernel
theorem dX8_goes_12 : decode cX8_goes 12 = .ok (.ireturn, 1) := by decide +kernel
theorem dX8_goes_13 : decode cX8_goes 13 = .ok (.aload_n 0, 1) := by decide +kernel
theorem dX8_goes_14 : decode cX8_goes 14 = .ok (.getfield 29, 3) := by decide +kernel
theorem dX8_goes_17 : decode cX8_goes 17 = .ok (.iload_n 1, 1) := by decide +kernel
theorem dX8_goes_18 : decode cX8_goes 18 = .ok (.invokevirtual 122, 3) := by decide +kernel
theorem dX8_goes_21 : decode cX8_goes 21 = .ok (.ifCond .ne 14, 3) := by decide +kernel
theorem dX8_goes_24 : decode cX8_goes 24 = .ok (.aload_n 0, 1) := by decide +kernel
theorem dX8_goes_25 : decode cX8_goes 25 = .ok (.getfield 29, 3) := by decide +kernel
theorem dX8_goes_28 : decode cX8_goes 28 = .ok (.getfield 143, 3) := by decide +kernel
theorem dX8_goes_31 : decode cX8_goes 31 = .ok (.iload_n 1, 1) := by decide +kernel
theorem dX8_goes_32 : decode cX8_goes 32 = .ok (.if_icmp .ne 6, 3) := by decide +kernel
theorem dX8_goes_35 : decode cX8_goes 35 = .ok (.bipush (-2), 2) := by decide +kernel
theorem dX8_goes_37 : decode cX8_goes 37 = .ok (.ireturn, 1) := by decide +kernel
theorem dX8_goes_38 : decode cX8_goes 38 = .ok (.aload_n 0, 1) := by decide +kernel
theorem dX8_goes_39 : decode cX8_goes 39 = .ok (.getfield 19, 3) := by decide +kernel
theorem dX8_goes_42 : decode cX8_goes 42 = .ok (.aload_n 0, 1) := by decide +kernel
theorem dX8_goes_43 : decode cX8_goes 43 = .ok (.getfield 29, 3) := by decide +kernel
theorem dX8_goes_46 : decode cX8_goes 46 = .ok (.getfield 146, 3) := by decide +kernel
theorem dX8_goes_49 : decode cX8_goes 49 = .ok (.iload_n 1, 1) := by decide +kernel
theorem dX8_goes_50 : decode cX8_goes 50 = .ok (.invokevirtual 166, 3) := by decide +kernel
theorem dX8_goes_53 : decode cX8_goes 53 = .ok (.istore_n 2, 1) := by decide +kernel
theorem dX8_goes_54 : decode cX8_goes 54 = .ok (.aload_n 0, 1) := by decide +kernel
theorem dX8_goes_55 : decode cX8_goes 55 = .ok (.getfield 29, 3) := by decide +kernel
theorem dX8_goes_58 : decode cX8_goes 58 = .ok (.getfield 149, 3) := by decide +kernel
theorem dX8_goes_61 : decode cX8_goes 61 = .ok (.iload_n 2, 1) := by decide +kernel
theorem dX8_goes_62 : decode cX8_goes 62 = .ok (.iadd, 1) := by decide +kernel
theorem dX8_goes_63 : decode cX8_goes 63 = .ok (.sipush 9999, 3) := by decide +kernel
theorem dX8_goes_66 : decode cX8_goes 66 = .ok (.if_icmp .le 6, 3) := by decide +kernel
theorem dX8_goes_69 : decode cX8_goes 69 = .ok (.bipush (-2), 2) := by decide +kernel
theorem dX8_goes_71 : decode cX8_goes 71 = .ok (.ireturn, 1) := by decide +kernel
theorem dX8_goes_72 : decode cX8_goes 72 = .ok (.aload_n 0, 1) := by decide +kernel
theorem dX8_goes_73 : decode cX8_goes 73 = .ok (.getfield 36, 3) := by decide +kernel
theorem dX8_goes_76 : decode cX8_goes 76 = .ok (.aload_n 0, 1) := by decide +kernel
theorem dX8_goes_77 : decode cX8_goes 77 = .ok (.getfield 29, 3) := by decide +kernel
theorem dX8_goes_80 : decode cX8_goes 80 = .ok (.invokevirtual 170, 3) := by decide +kernel
theorem dX8_goes_83 : decode cX8_goes 83 = .ok (.aload_n 0, 1) := by decide +kernel
theorem dX8_goes_84 : decode cX8_goes 84 = .ok (.getfield 29, 3) := by decide +kernel
theorem dX8_goes_87 : decode cX8_goes 87 = .ok (.dup, 1) := by decide +kernel
theorem dX8_goes_88 : decode cX8_goes 88 = .ok (.getfield 149, 3) := by decide +kernel
theorem dX8_goes_91 : decode cX8_goes 91 = .ok (.iload_n 2, 1) := by decide +kernel
theorem dX8_goes_92 : decode cX8_goes 92 = .ok (.iadd, 1) := by decide +kernel
theorem dX8_goes_93 : decode cX8_goes 93 = .ok (.putfield 149, 3) := by decide +kernel
theorem dX8_goes_96 : decode cX8_goes 96 = .ok (.aload_n 0, 1) := by decide +kernel
theorem dX8_goes_97 : decode cX8_goes 97 = .ok (.getfield 29, 3) := by decide +kernel
theorem dX8_goes_100 : decode cX8_goes 100 = .ok (.iload_n 1, 1) := by decide +kernel
theorem dX8_goes_101 : decode cX8_goes 101 = .ok (.putfield 143, 3) := by decide +kernel
theorem dX8_goes_104 : decode cX8_goes 104 = .ok (.aload_n 0, 1) := by decide +kernel
theorem dX8_goes_105 : decode cX8_goes 105 = .ok (.getfield 29, 3) := by decide +kernel
theorem dX8_goes_108 : decode cX8_goes 108 = .ok (.iload_n 1, 1) := by decide +kernel
theorem dX8_goes_109 : decode cX8_goes 109 = .ok (.putfield 146, 3) := by decide +kernel
theorem dX8_goes_112 : decode cX8_goes 112 = .ok (.iload_n 2, 1) := by decide +kernel
theorem dX8_goes_113 : decode cX8_goes 113 = .ok (.ireturn, 1) := by decide +kernel
theorem dX8_does_0 : decode cX8_does 0 = .ok (.aload_n 0, 1) := by decide +kernel
theorem dX8_does_1 : decode cX8_does 1 = .ok (.getfield 19, 3) := by decide +kernel
theorem dX8_does_4 : decode cX8_does 4 = .ok (.iload_n 1, 1) := by decide +kernel
theorem dX8_does_5 : decode cX8_does 5 = .ok (.invokevirtual 128, 3) := by decide +kernel
theorem dX8_does_8 : decode cX8_does 8 = .ok (.ifCond .ne 5, 3) := by decide +kernel
theorem dX8_does_11 : decode cX8_does 11 = .ok (.iconst (-1), 1) := by decide +kernel
theorem dX8_does_12 : decode cX8_does 12 = .ok (.ireturn, 1) := by decide +kernel
theorem dX8_does_13 : decode cX8_does 13 = .ok (.aload_n 0, 1) := by decide +kernel
theorem dX8_does_14 : decode cX8_does 14 = .ok (.getfield 29, 3) := by decide +kernel
theorem dX8_does_17 : decode cX8_does 17 = .ok (.getfield 143, 3) := by decide +kernel
theorem dX8_does_20 : decode cX8_does 20 = .ok (.istore_n 2, 1) := by decide +kernel
theorem dX8_does_21 : decode cX8_does 21 = .ok (.aload_n 0, 1) := by decide +kernel
theorem dX8_does_22 : decode cX8_does 22 = .ok (.getfield 19, 3) := by decide +kernel
theorem dX8_does_25 : decode cX8_does 25 = .ok (.iload_n 2, 1) := by decide +kernel
theorem dX8_does_26 : decode cX8_does 26 = .ok (.invokevirtual 108, 3) := by decide +kernel
theorem dX8_does_29 : decode cX8_does 29 = .ok (.ifCond .eq 26, 3) := by decide +kernel
theorem dX8_does_32 : decode cX8_does 32 = .ok (.aload_n 0, 1) := by decide +kernel
theorem dX8_does_33 : decode cX8_does 33 = .ok (.getfield 29, 3) := by decide +kernel
theorem dX8_does_36 : decode cX8_does 36 = .ok (.getfield 149, 3) := by decide +kernel
theorem dX8_does_39 : decode cX8_does 39 = .ok (.aload_n 0, 1) := by decide +kernel
theorem dX8_does_40 : decode cX8_does 40 = .ok (.getfield 19, 3) := by decide +kernel
theorem dX8_does_43 : decode cX8_does 43 = .ok (.getfield 134, 3) := by decide +kernel
theorem dX8_does_46 : decode cX8_does 46 = .ok (.iload_n 1, 1) := by decide +kernel
theorem dX8_does_47 : decode cX8_does 47 = .ok (.iaload, 1) := by decide +kernel
theorem dX8_does_48 : decode cX8_does 48 = .ok (.iadd, 1) := by decide +kernel
theorem dX8_does_49 : decode cX8_does 49 = .ok (.sipush 9999, 3) := by decide +kernel
theorem dX8_does_52 : decode cX8_does 52 = .ok (.if_icmp .le 6, 3) := by decide +kernel
theorem dX8_does_55 : decode cX8_does 55 = .ok (.bipush (-2), 2) := by decide +kernel
theorem dX8_does_57 : decode cX8_does 57 = .ok (.ireturn, 1) := by decide +kernel
theorem dX8_does_58 : decode cX8_does 58 = .ok (.aload_n 0, 1) := by decide +kernel
theorem dX8_does_59 : decode cX8_does 59 = .ok (.getfield 36, 3) := by decide +kernel
theorem dX8_does_62 : decode cX8_does 62 = .ok (.aload_n 0, 1) := by decide +kernel
theorem dX8_does_63 : decode cX8_does 63 = .ok (.getfield 29, 3) := by decide +kernel
theorem dX8_does_66 : decode cX8_does 66 = .ok (.invokevirtual 170, 3) := by decide +kernel
theorem dX8_does_69 : decode cX8_does 69 = .ok (.aload_n 0, 1) := by decide +kernel
theorem dX8_does_70 : decode cX8_does 70 = .ok (.getfield 29, 3) := by decide +kernel
theorem dX8_does_73 : decode cX8_does 73 = .ok (.aload_n 0, 1) := by decide +kernel
theorem dX8_does_74 : decode cX8_does 74 = .ok (.getfield 19, 3) := by decide +kernel
theorem dX8_does_77 : decode cX8_does 77 = .ok (.iload_n 2, 1) := by decide +kernel
theorem dX8_does_78 : decode cX8_does 78 = .ok (.iload_n 1, 1) := by decide +kernel
theorem dX8_does_79 : decode cX8_does 79 = .ok (.invokevirtual 174, 3) := by decide +kernel
theorem dX8_does_82 : decode cX8_does 82 = .ok (.aload_n 0, 1) := by decide +kernel
theorem dX8_does_83 : decode cX8_does 83 = .ok (.getfield 29, 3) := by decide +kernel
theorem dX8_does_86 : decode cX8_does 86 = .ok (.iload_n 2, 1) := by decide +kernel
theorem dX8_does_87 : decode cX8_does 87 = .ok (.invokevirtual 122, 3) := by decide +kernel
theorem dX8_does_90 : decode cX8_does 90 = .ok (.ifCond .eq 7, 3) := by decide +kernel
theorem dX8_does_93 : decode cX8_does 93 = .ok (.iconst 1, 1) := by decide +kernel
theorem dX8_does_94 : decode cX8_does 94 = .ok (.goto 4, 3) := by decide +kernel
theorem dX8_does_97 : decode cX8_does 97 = .ok (.iconst 0, 1) := by decide +kernel
theorem dX8_does_98 : decode cX8_does 98 = .ok (.ireturn, 1) := by decide +kernel
theorem dX8_asks_0 : decode cX8_asks 0 = .ok (.iload_n 1, 1) := by decide +kernel
theorem dX8_asks_1 : decode cX8_asks 1 = .ok (.ifCond .lt 8, 3) := by decide +kernel
theorem dX8_asks_4 : decode cX8_asks 4 = .ok (.iload_n 1, 1) := by decide +kernel
theorem dX8_asks_5 : decode cX8_asks 5 = .ok (.iconst 5, 1) := by decide +kernel
theorem dX8_asks_6 : decode cX8_asks 6 = .ok (.if_icmp .lt 5, 3) := by decide +kernel
theorem dX8_asks_9 : decode cX8_asks 9 = .ok (.iconst (-1), 1) := by decide +kernel
theorem dX8_asks_10 : decode cX8_asks 10 = .ok (.ireturn, 1) := by decide +kernel
theorem dX8_asks_11 : decode cX8_asks 11 = .ok (.aload_n 0, 1) := by decide +kernel
theorem dX8_asks_12 : decode cX8_asks 12 = .ok (.getfield 29, 3) := by decide +kernel
theorem dX8_asks_15 : decode cX8_asks 15 = .ok (.getfield 158, 3) := by decide +kernel
theorem dX8_asks_18 : decode cX8_asks 18 = .ok (.iload_n 1, 1) := by decide +kernel
theorem dX8_asks_19 : decode cX8_asks 19 = .ok (.ishr, 1) := by decide +kernel
theorem dX8_asks_20 : decode cX8_asks 20 = .ok (.iconst 1, 1) := by decide +kernel
theorem dX8_asks_21 : decode cX8_asks 21 = .ok (.iand, 1) := by decide +kernel
theorem dX8_asks_22 : decode cX8_asks 22 = .ok (.iconst 1, 1) := by decide +kernel
theorem dX8_asks_23 : decode cX8_asks 23 = .ok (.if_icmp .ne 7, 3) := by decide +kernel
theorem dX8_asks_26 : decode cX8_asks 26 = .ok (.iconst 1, 1) := by decide +kernel
theorem dX8_asks_27 : decode cX8_asks 27 = .ok (.goto 4, 3) := by decide +kernel
theorem dX8_asks_30 : decode cX8_asks 30 = .ok (.iconst 0, 1) := by decide +kernel
theorem dX8_asks_31 : decode cX8_asks 31 = .ok (.istore_n 2, 1) := by decide +kernel
theorem dX8_asks_32 : decode cX8_asks 32 = .ok (.aload_n 0, 1) := by decide +kernel
theorem dX8_asks_33 : decode cX8_asks 33 = .ok (.getfield 29, 3) := by decide +kernel
theorem dX8_asks_36 : decode cX8_asks 36 = .ok (.getfield 143, 3) := by decide +kernel
theorem dX8_asks_39 : decode cX8_asks 39 = .ok (.bipush (-9), 2) := by decide +kernel
theorem dX8_asks_41 : decode cX8_asks 41 = .ok (.if_icmp .eq 17, 3) := by decide +kernel
theorem dX8_asks_44 : decode cX8_asks 44 = .ok (.iload_n 2, 1) := by decide +kernel
theorem dX8_asks_45 : decode cX8_asks 45 = .ok (.ifCond .ne 13, 3) := by decide +kernel
theorem dX8_asks_48 : decode cX8_asks 48 = .ok (.aload_n 0, 1) := by decide +kernel
theorem dX8_asks_49 : decode cX8_asks 49 = .ok (.getfield 19, 3) := by decide +kernel
theorem dX8_asks_52 : decode cX8_asks 52 = .ok (.getfield 137, 3) := by decide +kernel
theorem dX8_asks_55 : decode cX8_asks 55 = .ok (.ifCond .ne 6, 3) := by decide +kernel
theorem dX8_asks_58 : decode cX8_asks 58 = .ok (.bipush (-2), 2) := by decide +kernel
theorem dX8_asks_60 : decode cX8_asks 60 = .ok (.ireturn, 1) := by decide +kernel
theorem dX8_asks_61 : decode cX8_asks 61 = .ok (.aload_n 0, 1) := by decide +kernel
theorem dX8_asks_62 : decode cX8_asks 62 = .ok (.getfield 29, 3) := by decide +kernel
theorem dX8_asks_65 : decode cX8_asks 65 = .ok (.getfield 149, 3) := by decide +kernel
theorem dX8_asks_68 : decode cX8_asks 68 = .ok (.iconst 2, 1) := by decide +kernel
theorem dX8_asks_69 : decode cX8_asks 69 = .ok (.iadd, 1) := by decide +kernel
theorem dX8_asks_70 : decode cX8_asks 70 = .ok (.sipush 9999, 3) := by decide +kernel
theorem dX8_asks_73 : decode cX8_asks 73 = .ok (.if_icmp .le 6, 3) := by decide +kernel
theorem dX8_asks_76 : decode cX8_asks 76 = .ok (.bipush (-2), 2) := by decide +kernel
theorem dX8_asks_78 : decode cX8_asks 78 = .ok (.ireturn, 1) := by decide +kernel
theorem dX8_asks_79 : decode cX8_asks 79 = .ok (.aload_n 0, 1) := by decide +kernel
theorem dX8_asks_80 : decode cX8_asks 80 = .ok (.getfield 36, 3) := by decide +kernel
theorem dX8_asks_83 : decode cX8_asks 83 = .ok (.aload_n 0, 1) := by decide +kernel
theorem dX8_asks_84 : decode cX8_asks 84 = .ok (.getfield 29, 3) := by decide +kernel
theorem dX8_asks_87 : decode cX8_asks 87 = .ok (.invokevirtual 170, 3) := by decide +kernel
theorem dX8_asks_90 : decode cX8_asks 90 = .ok (.aload_n 0, 1) := by decide +kernel
theorem dX8_asks_91 : decode cX8_asks 91 = .ok (.getfield 29, 3) := by decide +kernel
theorem dX8_asks_94 : decode cX8_asks 94 = .ok (.dup, 1) := by decide +kernel
theorem dX8_asks_95 : decode cX8_asks 95 = .ok (.getfield 149, 3) := by decide +kernel
theorem dX8_asks_98 : decode cX8_asks 98 = .ok (.iconst 2, 1) := by decide +kernel
theorem dX8_asks_99 : decode cX8_asks 99 = .ok (.iadd, 1) := by decide +kernel
theorem dX8_asks_100 : decode cX8_asks 100 = .ok (.putfield 149, 3) := by decide +kernel
theorem dX8_asks_103 : decode cX8_asks 103 = .ok (.aload_n 0, 1) := by decide +kernel
theorem dX8_asks_104 : decode cX8_asks 104 = .ok (.getfield 29, 3) := by decide +kernel
theorem dX8_asks_107 : decode cX8_asks 107 = .ok (.dup, 1) := by decide +kernel
theorem dX8_asks_108 : decode cX8_asks 108 = .ok (.getfield 158, 3) := by decide +kernel
theorem dX8_asks_111 : decode cX8_asks 111 = .ok (.iconst 1, 1) := by decide +kernel
theorem dX8_asks_112 : decode cX8_asks 112 = .ok (.iload_n 1, 1) := by decide +kernel
theorem dX8_asks_113 : decode cX8_asks 113 = .ok (.ishl, 1) := by decide +kernel
theorem dX8_asks_114 : decode cX8_asks 114 = .ok (.ior, 1) := by decide +kernel
theorem dX8_asks_115 : decode cX8_asks 115 = .ok (.putfield 158, 3) := by decide +kernel
theorem dX8_asks_118 : decode cX8_asks 118 = .ok (.aload_n 0, 1) := by decide +kernel
theorem dX8_asks_119 : decode cX8_asks 119 = .ok (.getfield 19, 3) := by decide +kernel
theorem dX8_asks_122 : decode cX8_asks 122 = .ok (.getfield 140, 3) := by decide +kernel
theorem dX8_asks_125 : decode cX8_asks 125 = .ok (.aload_n 0, 1) := by decide +kernel
theorem dX8_asks_126 : decode cX8_asks 126 = .ok (.getfield 19, 3) := by decide +kernel
theorem dX8_asks_129 : decode cX8_asks 129 = .ok (.getfield 178, 3) := by decide +kernel
theorem dX8_asks_132 : decode cX8_asks 132 = .ok (.iaload, 1) := by decide +kernel
theorem dX8_asks_133 : decode cX8_asks 133 = .ok (.iload_n 1, 1) := by decide +kernel
theorem dX8_asks_134 : decode cX8_asks 134 = .ok (.ishr, 1) := by decide +kernel
theorem dX8_asks_135 : decode cX8_asks 135 = .ok (.iconst 1, 1) := by decide +kernel
theorem dX8_asks_136 : decode cX8_asks 136 = .ok (.iand, 1) := by decide +kernel
theorem dX8_asks_137 : decode cX8_asks 137 = .ok (.ireturn, 1) := by decide +kernel
theorem dX8_undo_0 : decode cX8_undo 0 = .ok (.aload_n 0, 1) := by decide +kernel
theorem dX8_undo_1 : decode cX8_undo 1 = .ok (.getfield 36, 3) := by decide +kernel
theorem dX8_undo_4 : decode cX8_undo 4 = .ok (.getfield 165, 3) := by decide +kernel
theorem dX8_undo_7 : decode cX8_undo 7 = .ok (.ifCond .ne 6, 3) := by decide +kernel
theorem dX8_undo_10 : decode cX8_undo 10 = .ok (.bipush (-2), 2) := by decide +kernel
theorem dX8_undo_12 : decode cX8_undo 12 = .ok (.ireturn, 1) := by decide +kernel
theorem dX8_undo_13 : decode cX8_undo 13 = .ok (.aload_n 0, 1) := by decide +kernel
theorem dX8_undo_14 : decode cX8_undo 14 = .ok (.getfield 36, 3) := by decide +kernel
theorem dX8_undo_17 : decode cX8_undo 17 = .ok (.aload_n 0, 1) := by decide +kernel
theorem dX8_undo_18 : decode cX8_undo 18 = .ok (.getfield 29, 3) := by decide +kernel
theorem dX8_undo_21 : decode cX8_undo 21 = .ok (.invokevirtual 181, 3) := by decide +kernel
theorem dX8_undo_24 : decode cX8_undo 24 = .ok (.aload_n 0, 1) := by decide +kernel
theorem dX8_undo_25 : decode cX8_undo 25 = .ok (.getfield 36, 3) := by decide +kernel
theorem dX8_undo_28 : decode cX8_undo 28 = .ok (.getfield 165, 3) := by decide +kernel
theorem dX8_undo_31 : decode cX8_undo 31 = .ok (.ireturn, 1) := by decide +kernel
theorem dX8_soonest_0 : decode cX8_soonest 0 = .ok (.aload_n 0, 1) := by decide +kernel
theorem dX8_soonest_1 : decode cX8_soonest 1 = .ok (.getfield 19, 3) := by decide +kernel
theorem dX8_soonest_4 : decode cX8_soonest 4 = .ok (.iload_n 1, 1) := by decide +kernel
theorem dX8_soonest_5 : decode cX8_soonest 5 = .ok (.invokevirtual 108, 3) := by decide +kernel
theorem dX8_soonest_8 : decode cX8_soonest 8 = .ok (.ifCond .eq 9, 3) := by decide +kernel
theorem dX8_soonest_11 : decode cX8_soonest 11 = .ok (.iload_n 2, 1) := by decide +kernel
theorem dX8_soonest_12 : decode cX8_soonest 12 = .ok (.bipush (-2), 2) := by decide +kernel
theorem dX8_soonest_14 : decode cX8_soonest 14 = .ok (.if_icmp .ge 5, 3) := by decide +kernel
theorem dX8_soonest_17 : decode cX8_soonest 17 = .ok (.iconst (-1), 1) := by decide +kernel
theorem dX8_soonest_18 : decode cX8_soonest 18 = .ok (.ireturn, 1) := by decide +kernel
theorem dX8_soonest_19 : decode cX8_soonest 19 = .ok (.aload_n 0, 1) := by decide +kernel
theorem dX8_soonest_20 : decode cX8_soonest 20 = .ok (.getfield 29, 3) := by decide +kernel
theorem dX8_soonest_23 : decode cX8_soonest 23 = .ok (.iload_n 1, 1) := by decide +kernel
theorem dX8_soonest_24 : decode cX8_soonest 24 = .ok (.invokevirtual 122, 3) := by decide +kernel
theorem dX8_soonest_27 : decode cX8_soonest 27 = .ok (.ifCond .eq 6, 3) := by decide +kernel
theorem dX8_soonest_30 : decode cX8_soonest 30 = .ok (.bipush (-2), 2) := by decide +kernel
theorem dX8_soonest_32 : decode cX8_soonest 32 = .ok (.ireturn, 1) := by decide +kernel
theorem dX8_soonest_33 : decode cX8_soonest 33 = .ok (.aload_n 0, 1) := by decide +kernel
theorem dX8_soonest_34 : decode cX8_soonest 34 = .ok (.getfield 51, 3) := by decide +kernel
theorem dX8_soonest_37 : decode cX8_soonest 37 = .ok (.aload_n 0, 1) := by decide +kernel
theorem dX8_soonest_38 : decode cX8_soonest 38 = .ok (.getfield 19, 3) := by decide +kernel
theorem dX8_soonest_41 : decode cX8_soonest 41 = .ok (.aload_n 0, 1) := by decide +kernel
theorem dX8_soonest_42 : decode cX8_soonest 42 = .ok (.getfield 29, 3) := by decide +kernel
theorem dX8_soonest_45 : decode cX8_soonest 45 = .ok (.iload_n 1, 1) := by decide +kernel
theorem dX8_soonest_46 : decode cX8_soonest 46 = .ok (.invokevirtual 184, 3) := by decide +kernel
theorem dX8_soonest_49 : decode cX8_soonest 49 = .ok (.aload_n 0, 1) := by decide +kernel
theorem dX8_soonest_50 : decode cX8_soonest 50 = .ok (.getfield 51, 3) := by decide +kernel
theorem dX8_soonest_53 : decode cX8_soonest 53 = .ok (.invokevirtual 188, 3) := by decide +kernel
theorem dX8_soonest_56 : decode cX8_soonest 56 = .ok (.ifCond .eq 6, 3) := by decide +kernel
theorem dX8_soonest_59 : decode cX8_soonest 59 = .ok (.bipush (-9), 2) := by decide +kernel
theorem dX8_soonest_61 : decode cX8_soonest 61 = .ok (.ireturn, 1) := by decide +kernel
theorem dX8_soonest_62 : decode cX8_soonest 62 = .ok (.iload_n 2, 1) := by decide +kernel
theorem dX8_soonest_63 : decode cX8_soonest 63 = .ok (.lookupswitch 41 #[(-2, 33), (-1, 25)], 25) := by decide +kernel
theorem dX8_soonest_88 : decode cX8_soonest 88 = .ok (.aload_n 0, 1) := by decide +kernel
theorem dX8_soonest_89 : decode cX8_soonest 89 = .ok (.getfield 51, 3) := by decide +kernel
theorem dX8_soonest_92 : decode cX8_soonest 92 = .ok (.invokevirtual 192, 3) := by decide +kernel
theorem dX8_soonest_95 : decode cX8_soonest 95 = .ok (.ireturn, 1) := by decide +kernel
theorem dX8_soonest_96 : decode cX8_soonest 96 = .ok (.aload_n 0, 1) := by decide +kernel
theorem dX8_soonest_97 : decode cX8_soonest 97 = .ok (.getfield 51, 3) := by decide +kernel
theorem dX8_soonest_100 : decode cX8_soonest 100 = .ok (.invokevirtual 196, 3) := by decide +kernel
theorem dX8_soonest_103 : decode cX8_soonest 103 = .ok (.ireturn, 1) := by decide +kernel
theorem dX8_soonest_104 : decode cX8_soonest 104 = .ok (.aload_n 0, 1) := by decide +kernel
theorem dX8_soonest_105 : decode cX8_soonest 105 = .ok (.getfield 51, 3) := by decide +kernel
theorem dX8_soonest_108 : decode cX8_soonest 108 = .ok (.iload_n 2, 1) := by decide +kernel
theorem dX8_soonest_109 : decode cX8_soonest 109 = .ok (.invokevirtual 199, 3) := by decide +kernel
theorem dX8_soonest_112 : decode cX8_soonest 112 = .ok (.ireturn, 1) := by decide +kernel
theorem dX8_loved_0 : decode cX8_loved 0 = .ok (.aload_n 0, 1) := by decide +kernel
theorem dX8_loved_1 : decode cX8_loved 1 = .ok (.getfield 51, 3) := by decide +kernel
theorem dX8_loved_4 : decode cX8_loved 4 = .ok (.aload_n 0, 1) := by decide +kernel
theorem dX8_loved_5 : decode cX8_loved 5 = .ok (.getfield 19, 3) := by decide +kernel
theorem dX8_loved_8 : decode cX8_loved 8 = .ok (.aload_n 0, 1) := by decide +kernel
theorem dX8_loved_9 : decode cX8_loved 9 = .ok (.getfield 29, 3) := by decide +kernel
theorem dX8_loved_12 : decode cX8_loved 12 = .ok (.invokevirtual 203, 3) := by decide +kernel
theorem dX8_loved_15 : decode cX8_loved 15 = .ok (.iconst 0, 1) := by decide +kernel
theorem dX8_loved_16 : decode cX8_loved 16 = .ok (.istore_n 1, 1) := by decide +kernel
theorem dX8_loved_17 : decode cX8_loved 17 = .ok (.iconst 0, 1) := by decide +kernel
theorem dX8_loved_18 : decode cX8_loved 18 = .ok (.istore_n 2, 1) := by decide +kernel
theorem dX8_loved_19 : decode cX8_loved 19 = .ok (.iload_n 2, 1) := by decide +kernel
theorem dX8_loved_20 : decode cX8_loved 20 = .ok (.aload_n 0, 1) := by decide +kernel
theorem dX8_loved_21 : decode cX8_loved 21 = .ok (.getfield 19, 3) := by decide +kernel
theorem dX8_loved_24 : decode cX8_loved 24 = .ok (.getfield 207, 3) := by decide +kernel
theorem dX8_loved_27 : decode cX8_loved 27 = .ok (.if_icmp .ge 40, 3) := by decide +kernel
theorem dX8_loved_30 : decode cX8_loved 30 = .ok (.aload_n 0, 1) := by decide +kernel
theorem dX8_loved_31 : decode cX8_loved 31 = .ok (.getfield 29, 3) := by decide +kernel
theorem dX8_loved_34 : decode cX8_loved 34 = .ok (.iload_n 2, 1) := by decide +kernel
theorem dX8_loved_35 : decode cX8_loved 35 = .ok (.invokevirtual 122, 3) := by decide +kernel
theorem dX8_loved_38 : decode cX8_loved 38 = .ok (.ifCond .ne 23, 3) := by decide +kernel
theorem dX8_loved_41 : decode cX8_loved 41 = .ok (.aload_n 0, 1) := by decide +kernel
theorem dX8_loved_42 : decode cX8_loved 42 = .ok (.getfield 51, 3) := by decide +kernel
theorem dX8_loved_45 : decode cX8_loved 45 = .ok (.getfield 210, 3) := by decide +kernel
theorem dX8_loved_48 : decode cX8_loved 48 = .ok (.iload_n 2, 1) := by decide +kernel
theorem dX8_loved_49 : decode cX8_loved 49 = .ok (.iaload, 1) := by decide +kernel
theorem dX8_loved_50 : decode cX8_loved 50 = .ok (.bipush (-9), 2) := by decide +kernel
theorem dX8_loved_52 : decode cX8_loved 52 = .ok (.if_icmp .ne 9, 3) := by decide +kernel
theorem dX8_loved_55 : decode cX8_loved 55 = .ok (.iload_n 1, 1) := by decide +kernel
theorem dX8_loved_56 : decode cX8_loved 56 = .ok (.iconst 1, 1) := by decide +kernel
theorem dX8_loved_57 : decode cX8_loved 57 = .ok (.iload_n 2, 1) := by decide +kernel
theorem dX8_loved_58 : decode cX8_loved 58 = .ok (.ishl, 1) := by decide +kernel
theorem dX8_loved_59 : decode cX8_loved 59 = .ok (.ior, 1) := by decide +kernel
theorem dX8_loved_60 : decode cX8_loved 60 = .ok (.istore_n 1, 1) := by decide +kernel
theorem dX8_loved_61 : decode cX8_loved 61 = .ok (.iinc 2 1, 3) := by decide +kernel
theorem dX8_loved_64 : decode cX8_loved 64 = .ok (.goto (-45), 3) := by decide +kernel
theorem dX8_loved_67 : decode cX8_loved 67 = .ok (.iload_n 1, 1) := by decide +kernel
theorem dX8_loved_68 : decode cX8_loved 68 = .ok (.ireturn, 1) := by decide +kernel
theorem dX8_round_0 : decode cX8_round 0 = .ok (.iload_n 1, 1) := by decide +kernel
theorem dX8_round_1 : decode cX8_round 1 = .ok (.bipush (-2), 2) := by decide +kernel
theorem dX8_round_3 : decode cX8_round 3 = .ok (.if_icmp .ge 5, 3) := by decide +kernel
theorem dX8_round_6 : decode cX8_round 6 = .ok (.iconst (-1), 1) := by decide +kernel
theorem dX8_round_7 : decode cX8_round 7 = .ok (.ireturn, 1) := by decide +kernel
theorem dX8_round_8 : decode cX8_round 8 = .ok (.aload_n 0, 1) := by decide +kernel
theorem dX8_round_9 : decode cX8_round 9 = .ok (.getfield 51, 3) := by decide +kernel
theorem dX8_round_12 : decode cX8_round 12 = .ok (.aload_n 0, 1) := by decide +kernel
theorem dX8_round_13 : decode cX8_round 13 = .ok (.getfield 19, 3) := by decide +kernel
theorem dX8_round_16 : decode cX8_round 16 = .ok (.aload_n 0, 1) := by decide +kernel
theorem dX8_round_17 : decode cX8_round 17 = .ok (.getfield 29, 3) := by decide +kernel
theorem dX8_round_20 : decode cX8_round 20 = .ok (.invokevirtual 203, 3) := by decide +kernel
theorem dX8_round_23 : decode cX8_round 23 = .ok (.aload_n 0, 1) := by decide +kernel
theorem dX8_round_24 : decode cX8_round 24 = .ok (.getfield 58, 3) := by decide +kernel
theorem dX8_round_27 : decode cX8_round 27 = .ok (.aload_n 0, 1) := by decide +kernel
theorem dX8_round_28 : decode cX8_round 28 = .ok (.getfield 19, 3) := by decide +kernel
theorem dX8_round_31 : decode cX8_round 31 = .ok (.aload_n 0, 1) := by decide +kernel
theorem dX8_round_32 : decode cX8_round 32 = .ok (.getfield 29, 3) := by decide +kernel
theorem dX8_round_35 : decode cX8_round 35 = .ok (.aload_n 0, 1) := by decide +kernel
theorem dX8_round_36 : decode cX8_round 36 = .ok (.getfield 51, 3) := by decide +kernel
theorem dX8_round_39 : decode cX8_round 39 = .ok (.getfield 210, 3) := by decide +kernel
theorem dX8_round_42 : decode cX8_round 42 = .ok (.invokevirtual 213, 3) := by decide +kernel
theorem dX8_round_45 : decode cX8_round 45 = .ok (.iload_n 1, 1) := by decide +kernel
theorem dX8_round_46 : decode cX8_round 46 = .ok (.lookupswitch 42 #[(-2, 34), (-1, 26)], 26) := by decide +kernel
theorem dX8_round_72 : decode cX8_round 72 = .ok (.aload_n 0, 1) := by decide +kernel
theorem dX8_round_73 : decode cX8_round 73 = .ok (.getfield 58, 3) := by decide +kernel
theorem dX8_round_76 : decode cX8_round 76 = .ok (.getfield 217, 3) := by decide +kernel
theorem dX8_round_79 : decode cX8_round 79 = .ok (.ireturn, 1) := by decide +kernel
theorem dX8_round_80 : decode cX8_round 80 = .ok (.aload_n 0, 1) := by decide +kernel
theorem dX8_round_81 : decode cX8_round 81 = .ok (.getfield 58, 3) := by decide +kernel
theorem dX8_round_84 : decode cX8_round 84 = .ok (.getfield 220, 3) := by decide +kernel
theorem dX8_round_87 : decode cX8_round 87 = .ok (.ireturn, 1) := by decide +kernel
theorem dX8_round_88 : decode cX8_round 88 = .ok (.iload_n 1, 1) := by decide +kernel
theorem dX8_round_89 : decode cX8_round 89 = .ok (.aload_n 0, 1) := by decide +kernel
theorem dX8_round_90 : decode cX8_round 90 = .ok (.getfield 58, 3) := by decide +kernel
theorem dX8_round_93 : decode cX8_round 93 = .ok (.getfield 223, 3) := by decide +kernel
theorem dX8_round_96 : decode cX8_round 96 = .ok (.if_icmp .ge 15, 3) := by decide +kernel
theorem dX8_round_99 : decode cX8_round 99 = .ok (.aload_n 0, 1) := by decide +kernel
theorem dX8_round_100 : decode cX8_round 100 = .ok (.getfield 58, 3) := by decide +kernel
theorem dX8_round_103 : decode cX8_round 103 = .ok (.getfield 226, 3) := by decide +kernel
theorem dX8_round_106 : decode cX8_round 106 = .ok (.iload_n 1, 1) := by decide +kernel
theorem dX8_round_107 : decode cX8_round 107 = .ok (.iaload, 1) := by decide +kernel
theorem dX8_round_108 : decode cX8_round 108 = .ok (.goto 5, 3) := by decide +kernel
theorem dX8_round_111 : decode cX8_round 111 = .ok (.bipush (-5), 2) := by decide +kernel
theorem dX8_round_113 : decode cX8_round 113 = .ok (.ireturn, 1) := by decide +kernel
theorem dX8_country_0 : decode cX8_country 0 = .ok (.aload_n 0, 1) := by decide +kernel
theorem dX8_country_1 : decode cX8_country 1 = .ok (.getfield 19, 3) := by decide +kernel
theorem dX8_country_4 : decode cX8_country 4 = .ok (.getfield 207, 3) := by decide +kernel
theorem dX8_country_7 : decode cX8_country 7 = .ok (.iconst 2, 1) := by decide +kernel
theorem dX8_country_8 : decode cX8_country 8 = .ok (.idiv, 1) := by decide +kernel
theorem dX8_country_9 : decode cX8_country 9 = .ok (.iconst 1, 1) := by decide +kernel
theorem dX8_country_10 : decode cX8_country 10 = .ok (.iadd, 1) := by decide +kernel
theorem dX8_country_11 : decode cX8_country 11 = .ok (.aload_n 0, 1) := by decide +kernel
theorem dX8_country_12 : decode cX8_country 12 = .ok (.getfield 29, 3) := by decide +kernel
theorem dX8_country_15 : decode cX8_country 15 = .ok (.getfield 152, 3) := by decide +kernel
theorem dX8_country_18 : decode cX8_country 18 = .ok (.invokestatic 229, 3) := by decide +kernel
theorem dX8_country_21 : decode cX8_country 21 = .ok (.isub, 1) := by decide +kernel
theorem dX8_country_22 : decode cX8_country 22 = .ok (.istore_n 1, 1) := by decide +kernel
theorem dX8_country_23 : decode cX8_country 23 = .ok (.aload_n 0, 1) := by decide +kernel
theorem dX8_country_24 : decode cX8_country 24 = .ok (.getfield 51, 3) := by decide +kernel
theorem dX8_country_27 : decode cX8_country 27 = .ok (.aload_n 0, 1) := by decide +kernel
theorem dX8_country_28 : decode cX8_country 28 = .ok (.getfield 19, 3) := by decide +kernel
theorem dX8_country_31 : decode cX8_country 31 = .ok (.aload_n 0, 1) := by decide +kernel
theorem dX8_country_32 : decode cX8_country 32 = .ok (.getfield 29, 3) := by decide +kernel
theorem dX8_country_35 : decode cX8_country 35 = .ok (.invokevirtual 203, 3) := by decide +kernel
theorem dX8_country_38 : decode cX8_country 38 = .ok (.iconst 0, 1) := by decide +kernel
theorem dX8_country_39 : decode cX8_country 39 = .ok (.istore_n 2, 1) := by decide +kernel
theorem dX8_country_40 : decode cX8_country 40 = .ok (.iconst 0, 1) := by decide +kernel
theorem dX8_country_41 : decode cX8_country 41 = .ok (.istore_n 3, 1) := by decide +kernel
theorem dX8_country_42 : decode cX8_country 42 = .ok (.iconst 0, 1) := by decide +kernel
theorem dX8_country_43 : decode cX8_country 43 = .ok (.istore 4, 2) := by decide +kernel
theorem dX8_country_45 : decode cX8_country 45 = .ok (.iload 4, 2) := by decide +kernel
theorem dX8_country_47 : decode cX8_country 47 = .ok (.iload_n 1, 1) := by decide +kernel
theorem dX8_country_48 : decode cX8_country 48 = .ok (.if_icmp .ge 49, 3) := by decide +kernel
theorem dX8_country_51 : decode cX8_country 51 = .ok (.aload_n 0, 1) := by decide +kernel
theorem dX8_country_52 : decode cX8_country 52 = .ok (.getfield 51, 3) := by decide +kernel
theorem dX8_country_55 : decode cX8_country 55 = .ok (.iload_n 2, 1) := by decide +kernel
theorem dX8_country_56 : decode cX8_country 56 = .ok (.invokevirtual 234, 3) := by decide +kernel
theorem dX8_country_59 : decode cX8_country 59 = .ok (.istore 5, 2) := by decide +kernel
theorem dX8_country_61 : decode cX8_country 61 = .ok (.iload 5, 2) := by decide +kernel
theorem dX8_country_63 : decode cX8_country 63 = .ok (.bipush (-9), 2) := by decide +kernel
theorem dX8_country_65 : decode cX8_country 65 = .ok (.if_icmp .ne 6, 3) := by decide +kernel
theorem dX8_country_68 : decode cX8_country 68 = .ok (.bipush (-9), 2) := by decide +kernel
theorem dX8_country_70 : decode cX8_country 70 = .ok (.ireturn, 1) := by decide +kernel
theorem dX8_country_71 : decode cX8_country 71 = .ok (.iload_n 2, 1) := by decide +kernel
theorem dX8_country_72 : decode cX8_country 72 = .ok (.iconst 1, 1) := by decide +kernel
theorem dX8_country_73 : decode cX8_country 73 = .ok (.iload 5, 2) := by decide +kernel
theorem dX8_country_75 : decode cX8_country 75 = .ok (.ishl, 1) := by decide +kernel
theorem dX8_country_76 : decode cX8_country 76 = .ok (.ior, 1) := by decide +kernel
theorem dX8_country_77 : decode cX8_country 77 = .ok (.istore_n 2, 1) := by decide +kernel
theorem dX8_country_78 : decode cX8_country 78 = .ok (.iload_n 3, 1) := by decide +kernel
theorem dX8_country_79 : decode cX8_country 79 = .ok (.aload_n 0, 1) := by decide +kernel
theorem dX8_country_80 : decode cX8_country 80 = .ok (.getfield 51, 3) := by decide +kernel
theorem dX8_country_83 : decode cX8_country 83 = .ok (.getfield 210, 3) := by decide +kernel
theorem dX8_country_86 : decode cX8_country 86 = .ok (.iload 5, 2) := by decide +kernel
theorem dX8_country_88 : decode cX8_country 88 = .ok (.iaload, 1) := by decide +kernel
theorem dX8_country_89 : decode cX8_country 89 = .ok (.iadd, 1) := by decide +kernel
theorem dX8_country_90 : decode cX8_country 90 = .ok (.istore_n 3, 1) := by decide +kernel
theorem dX8_country_91 : decode cX8_country 91 = .ok (.iinc 4 1, 3) := by decide +kernel
theorem dX8_country_94 : decode cX8_country 94 = .ok (.goto (-49), 3) := by decide +kernel
theorem dX8_country_97 : decode cX8_country 97 = .ok (.iload_n 3, 1) := by decide +kernel
theorem dX8_country_98 : decode cX8_country 98 = .ok (.ireturn, 1) := by decide +kernel
theorem dX8_next_0 : decode cX8_next 0 = .ok (.aload_n 0, 1) := by decide +kernel
theorem dX8_next_1 : decode cX8_next 1 = .ok (.getfield 19, 3) := by decide +kernel
theorem dX8_next_4 : decode cX8_next 4 = .ok (.aload_n 0, 1) := by decide +kernel
theorem dX8_next_5 : decode cX8_next 5 = .ok (.getfield 29, 3) := by decide +kernel
theorem dX8_next_8 : decode cX8_next 8 = .ok (.getfield 158, 3) := by decide +kernel
theorem dX8_next_11 : decode cX8_next 11 = .ok (.invokestatic 237, 3) := by decide +kernel
theorem dX8_next_14 : decode cX8_next 14 = .ok (.ireturn, 1) := by decide +kernel
theorem dX8_questions_0 : decode cX8_questions 0 = .ok (.aload_n 0, 1) := by decide +kernel
theorem dX8_questions_1 : decode cX8_questions 1 = .ok (.getfield 65, 3) := by decide +kernel
theorem dX8_questions_4 : decode cX8_questions 4 = .ok (.aload_n 0, 1) := by decide +kernel
theorem dX8_questions_5 : decode cX8_questions 5 = .ok (.getfield 19, 3) := by decide +kernel
theorem dX8_questions_8 : decode cX8_questions 8 = .ok (.aload_n 0, 1) := by decide +kernel
theorem dX8_questions_9 : decode cX8_questions 9 = .ok (.getfield 19, 3) := by decide +kernel
theorem dX8_questions_12 : decode cX8_questions 12 = .ok (.aload_n 0, 1) := by decide +kernel
theorem dX8_questions_13 : decode cX8_questions 13 = .ok (.getfield 29, 3) := by decide +kernel
theorem dX8_questions_16 : decode cX8_questions 16 = .ok (.getfield 158, 3) := by decide +kernel
theorem dX8_questions_19 : decode cX8_questions 19 = .ok (.invokestatic 161, 3) := by decide +kernel
theorem dX8_questions_22 : decode cX8_questions 22 = .ok (.invokevirtual 240, 3) := by decide +kernel
theorem dX8_questions_25 : decode cX8_questions 25 = .ok (.ireturn, 1) := by decide +kernel
theorem dX8_felt_0 : decode cX8_felt 0 = .ok (.aload_n 0, 1) := by decide +kernel
theorem dX8_felt_1 : decode cX8_felt 1 = .ok (.getfield 19, 3) := by decide +kernel
theorem dX8_felt_4 : decode cX8_felt 4 = .ok (.iload_n 1, 1) := by decide +kernel
theorem dX8_felt_5 : decode cX8_felt 5 = .ok (.invokevirtual 128, 3) := by decide +kernel
theorem dX8_felt_8 : decode cX8_felt 8 = .ok (.ifCond .eq 13, 3) := by decide +kernel
theorem dX8_felt_11 : decode cX8_felt 11 = .ok (.iload_n 2, 1) := by decide +kernel
theorem dX8_felt_12 : decode cX8_felt 12 = .ok (.ifCond .lt 9, 3) := by decide +kernel
theorem dX8_felt_15 : decode cX8_felt 15 = .ok (.iload_n 2, 1) := by decide +kernel
theorem dX8_felt_16 : decode cX8_felt 16 = .ok (.bipush 30, 2) := by decide +kernel
theorem dX8_felt_18 : decode cX8_felt 18 = .ok (.if_icmp .le 5, 3) := by decide +kernel
theorem dX8_felt_21 : decode cX8_felt 21 = .ok (.iconst (-1), 1) := by decide +kernel
theorem dX8_felt_22 : decode cX8_felt 22 = .ok (.ireturn, 1) := by decide +kernel
theorem dX8_felt_23 : decode cX8_felt 23 = .ok (.aload_n 0, 1) := by decide +kernel
theorem dX8_felt_24 : decode cX8_felt 24 = .ok (.getfield 72, 3) := by decide +kernel
theorem dX8_felt_27 : decode cX8_felt 27 = .ok (.getfield 105, 3) := by decide +kernel
theorem dX8_felt_30 : decode cX8_felt 30 = .ok (.iconst 5, 1) := by decide +kernel
theorem dX8_felt_31 : decode cX8_felt 31 = .ok (.if_icmp .lt 6, 3) := by decide +kernel
theorem dX8_felt_34 : decode cX8_felt 34 = .ok (.bipush (-3), 2) := by decide +kernel
theorem dX8_felt_36 : decode cX8_felt 36 = .ok (.ireturn, 1) := by decide +kernel
theorem dX8_felt_37 : decode cX8_felt 37 = .ok (.aload_n 0, 1) := by decide +kernel
theorem dX8_felt_38 : decode cX8_felt 38 = .ok (.getfield 72, 3) := by decide +kernel
theorem dX8_felt_41 : decode cX8_felt 41 = .ok (.iload_n 1, 1) := by decide +kernel
theorem dX8_felt_42 : decode cX8_felt 42 = .ok (.iload_n 2, 1) := by decide +kernel
theorem dX8_felt_43 : decode cX8_felt 43 = .ok (.invokevirtual 243, 3) := by decide +kernel
theorem dX8_felt_46 : decode cX8_felt 46 = .ok (.aload_n 0, 1) := by decide +kernel
theorem dX8_felt_47 : decode cX8_felt 47 = .ok (.getfield 72, 3) := by decide +kernel
theorem dX8_felt_50 : decode cX8_felt 50 = .ok (.getfield 105, 3) := by decide +kernel
theorem dX8_felt_53 : decode cX8_felt 53 = .ok (.ireturn, 1) := by decide +kernel
theorem dX8_forget_0 : decode cX8_forget 0 = .ok (.aload_n 0, 1) := by decide +kernel
theorem dX8_forget_1 : decode cX8_forget 1 = .ok (.getfield 72, 3) := by decide +kernel
theorem dX8_forget_4 : decode cX8_forget 4 = .ok (.getfield 105, 3) := by decide +kernel
theorem dX8_forget_7 : decode cX8_forget 7 = .ok (.istore_n 1, 1) := by decide +kernel
theorem dX8_forget_8 : decode cX8_forget 8 = .ok (.aload_n 0, 1) := by decide +kernel
theorem dX8_forget_9 : decode cX8_forget 9 = .ok (.getfield 72, 3) := by decide +kernel
theorem dX8_forget_12 : decode cX8_forget 12 = .ok (.iconst 0, 1) := by decide +kernel
theorem dX8_forget_13 : decode cX8_forget 13 = .ok (.putfield 105, 3) := by decide +kernel
theorem dX8_forget_16 : decode cX8_forget 16 = .ok (.iload_n 1, 1) := by decide +kernel
theorem dX8_forget_17 : decode cX8_forget 17 = .ok (.ireturn, 1) := by decide +kernel
theorem dX8_tempers_0 : decode cX8_tempers 0 = .ok (.iconst 0, 1) := by decide +kernel
theorem dX8_tempers_1 : decode cX8_tempers 1 = .ok (.istore_n 1, 1) := by decide +kernel
theorem dX8_tempers_2 : decode cX8_tempers 2 = .ok (.iconst 0, 1) := by decide +kernel
theorem dX8_tempers_3 : decode cX8_tempers 3 = .ok (.istore_n 2, 1) := by decide +kernel
theorem dX8_tempers_4 : decode cX8_tempers 4 = .ok (.iload_n 2, 1) := by decide +kernel
theorem dX8_tempers_5 : decode cX8_tempers 5 = .ok (.iconst 3, 1) := by decide +kernel
theorem dX8_tempers_6 : decode cX8_tempers 6 = .ok (.if_icmp .gt 30, 3) := by decide +kernel
theorem dX8_tempers_9 : decode cX8_tempers 9 = .ok (.aload_n 0, 1) := by decide +kernel
theorem dX8_tempers_10 : decode cX8_tempers 10 = .ok (.getfield 72, 3) := by decide +kernel
theorem dX8_tempers_13 : decode cX8_tempers 13 = .ok (.aload_n 0, 1) := by decide +kernel
theorem dX8_tempers_14 : decode cX8_tempers 14 = .ok (.getfield 19, 3) := by decide +kernel
theorem dX8_tempers_17 : decode cX8_tempers 17 = .ok (.iload_n 2, 1) := by decide +kernel
theorem dX8_tempers_18 : decode cX8_tempers 18 = .ok (.invokevirtual 246, 3) := by decide +kernel
theorem dX8_tempers_21 : decode cX8_tempers 21 = .ok (.ifCond .eq 9, 3) := by decide +kernel
theorem dX8_tempers_24 : decode cX8_tempers 24 = .ok (.iload_n 1, 1) := by decide +kernel
theorem dX8_tempers_25 : decode cX8_tempers 25 = .ok (.iconst 1, 1) := by decide +kernel
theorem dX8_tempers_26 : decode cX8_tempers 26 = .ok (.iload_n 2, 1) := by decide +kernel
theorem dX8_tempers_27 : decode cX8_tempers 27 = .ok (.ishl, 1) := by decide +kernel
theorem dX8_tempers_28 : decode cX8_tempers 28 = .ok (.ior, 1) := by decide +kernel
theorem dX8_tempers_29 : decode cX8_tempers 29 = .ok (.istore_n 1, 1) := by decide +kernel
theorem dX8_tempers_30 : decode cX8_tempers 30 = .ok (.iinc 2 1, 3) := by decide +kernel
theorem dX8_tempers_33 : decode cX8_tempers 33 = .ok (.goto (-29), 3) := by decide +kernel
theorem dX8_tempers_36 : decode cX8_tempers 36 = .ok (.iload_n 1, 1) := by decide +kernel
theorem dX8_tempers_37 : decode cX8_tempers 37 = .ok (.ireturn, 1) := by decide +kernel
theorem dX8_which_0 : decode cX8_which 0 = .ok (.aload_n 0, 1) := by decide +kernel
theorem dX8_which_1 : decode cX8_which 1 = .ok (.getfield 19, 3) := by decide +kernel
theorem dX8_which_4 : decode cX8_which 4 = .ok (.iload_n 1, 1) := by decide +kernel
theorem dX8_which_5 : decode cX8_which 5 = .ok (.invokevirtual 128, 3) := by decide +kernel
theorem dX8_which_8 : decode cX8_which 8 = .ok (.ifCond .eq 13, 3) := by decide +kernel
theorem dX8_which_11 : decode cX8_which 11 = .ok (.iload_n 2, 1) := by decide +kernel
theorem dX8_which_12 : decode cX8_which 12 = .ok (.ifCond .lt 9, 3) := by decide +kernel
theorem dX8_which_15 : decode cX8_which 15 = .ok (.iload_n 2, 1) := by decide +kernel
theorem dX8_which_16 : decode cX8_which 16 = .ok (.bipush 30, 2) := by decide +kernel
theorem dX8_which_18 : decode cX8_which 18 = .ok (.if_icmp .le 5, 3) := by decide +kernel
theorem dX8_which_21 : decode cX8_which 21 = .ok (.iconst (-1), 1) := by decide +kernel
theorem dX8_which_22 : decode cX8_which 22 = .ok (.ireturn, 1) := by decide +kernel
theorem dX8_which_23 : decode cX8_which 23 = .ok (.iconst 0, 1) := by decide +kernel
theorem dX8_which_24 : decode cX8_which 24 = .ok (.istore_n 3, 1) := by decide +kernel
theorem dX8_which_25 : decode cX8_which 25 = .ok (.iconst 0, 1) := by decide +kernel
theorem dX8_which_26 : decode cX8_which 26 = .ok (.istore 4, 2) := by decide +kernel
theorem dX8_which_28 : decode cX8_which 28 = .ok (.iload 4, 2) := by decide +kernel
theorem dX8_which_30 : decode cX8_which 30 = .ok (.aload_n 0, 1) := by decide +kernel
theorem dX8_which_31 : decode cX8_which 31 = .ok (.getfield 19, 3) := by decide +kernel
theorem dX8_which_34 : decode cX8_which 34 = .ok (.getfield 207, 3) := by decide +kernel
theorem dX8_which_37 : decode cX8_which 37 = .ok (.if_icmp .ge 30, 3) := by decide +kernel
theorem dX8_which_40 : decode cX8_which 40 = .ok (.aload_n 0, 1) := by decide +kernel
theorem dX8_which_41 : decode cX8_which 41 = .ok (.getfield 19, 3) := by decide +kernel
theorem dX8_which_44 : decode cX8_which 44 = .ok (.iload 4, 2) := by decide +kernel
theorem dX8_which_46 : decode cX8_which 46 = .ok (.iload_n 1, 1) := by decide +kernel
theorem dX8_which_47 : decode cX8_which 47 = .ok (.invokevirtual 250, 3) := by decide +kernel
theorem dX8_which_50 : decode cX8_which 50 = .ok (.iload_n 2, 1) := by decide +kernel
theorem dX8_which_51 : decode cX8_which 51 = .ok (.if_icmp .ne 10, 3) := by decide +kernel
theorem dX8_which_54 : decode cX8_which 54 = .ok (.iload_n 3, 1) := by decide +kernel
theorem dX8_which_55 : decode cX8_which 55 = .ok (.iconst 1, 1) := by decide +kernel
theorem dX8_which_56 : decode cX8_which 56 = .ok (.iload 4, 2) := by decide +kernel
theorem dX8_which_58 : decode cX8_which 58 = .ok (.ishl, 1) := by decide +kernel
theorem dX8_which_59 : decode cX8_which 59 = .ok (.ior, 1) := by decide +kernel
theorem dX8_which_60 : decode cX8_which 60 = .ok (.istore_n 3, 1) := by decide +kernel
theorem dX8_which_61 : decode cX8_which 61 = .ok (.iinc 4 1, 3) := by decide +kernel
theorem dX8_which_64 : decode cX8_which 64 = .ok (.goto (-36), 3) := by decide +kernel
theorem dX8_which_67 : decode cX8_which 67 = .ok (.iload_n 3, 1) := by decide +kernel
theorem dX8_which_68 : decode cX8_which 68 = .ok (.ireturn, 1) := by decide +kernel
theorem dX8_odds_0 : decode cX8_odds 0 = .ok (.aload_n 0, 1) := by decide +kernel
theorem dX8_odds_1 : decode cX8_odds 1 = .ok (.getfield 19, 3) := by decide +kernel
theorem dX8_odds_4 : decode cX8_odds 4 = .ok (.iload_n 1, 1) := by decide +kernel
theorem dX8_odds_5 : decode cX8_odds 5 = .ok (.invokevirtual 108, 3) := by decide +kernel
theorem dX8_odds_8 : decode cX8_odds 8 = .ok (.ifCond .eq 25, 3) := by decide +kernel
theorem dX8_odds_11 : decode cX8_odds 11 = .ok (.aload_n 0, 1) := by decide +kernel
theorem dX8_odds_12 : decode cX8_odds 12 = .ok (.getfield 19, 3) := by decide +kernel
theorem dX8_odds_15 : decode cX8_odds 15 = .ok (.iload_n 2, 1) := by decide +kernel
theorem dX8_odds_16 : decode cX8_odds 16 = .ok (.invokevirtual 128, 3) := by decide +kernel
theorem dX8_odds_19 : decode cX8_odds 19 = .ok (.ifCond .eq 14, 3) := by decide +kernel
theorem dX8_odds_22 : decode cX8_odds 22 = .ok (.iload 5, 2) := by decide +kernel
theorem dX8_odds_24 : decode cX8_odds 24 = .ok (.ifCond .lt 9, 3) := by decide +kernel
theorem dX8_odds_27 : decode cX8_odds 27 = .ok (.iload 5, 2) := by decide +kernel
theorem dX8_odds_29 : decode cX8_odds 29 = .ok (.iconst 1, 1) := by decide +kernel
theorem dX8_odds_30 : decode cX8_odds 30 = .ok (.if_icmp .le 5, 3) := by decide +kernel
theorem dX8_odds_33 : decode cX8_odds 33 = .ok (.iconst (-1), 1) := by decide +kernel
theorem dX8_odds_34 : decode cX8_odds 34 = .ok (.ireturn, 1) := by decide +kernel
theorem dX8_odds_35 : decode cX8_odds 35 = .ok (.iload_n 3, 1) := by decide +kernel
theorem dX8_odds_36 : decode cX8_odds 36 = .ok (.ifCond .lt 21, 3) := by decide +kernel
theorem dX8_odds_39 : decode cX8_odds 39 = .ok (.iload_n 3, 1) := by decide +kernel
theorem dX8_odds_40 : decode cX8_odds 40 = .ok (.bipush 10, 2) := by decide +kernel
theorem dX8_odds_42 : decode cX8_odds 42 = .ok (.if_icmp .gt 15, 3) := by decide +kernel
theorem dX8_odds_45 : decode cX8_odds 45 = .ok (.iload 4, 2) := by decide +kernel
theorem dX8_odds_47 : decode cX8_odds 47 = .ok (.ifCond .lt 10, 3) := by decide +kernel
theorem dX8_odds_50 : decode cX8_odds 50 = .ok (.iload 4, 2) := by decide +kernel
theorem dX8_odds_52 : decode cX8_odds 52 = .ok (.bipush 6, 2) := by decide +kernel
theorem dX8_odds_54 : decode cX8_odds 54 = .ok (.if_icmp .le 5, 3) := by decide +kernel
theorem dX8_odds_57 : decode cX8_odds 57 = .ok (.iconst (-1), 1) := by decide +kernel
theorem dX8_odds_58 : decode cX8_odds 58 = .ok (.ireturn, 1) := by decide +kernel
theorem dX8_odds_59 : decode cX8_odds 59 = .ok (.aload_n 0, 1) := by decide +kernel
theorem dX8_odds_60 : decode cX8_odds 60 = .ok (.getfield 29, 3) := by decide +kernel
theorem dX8_odds_63 : decode cX8_odds 63 = .ok (.iload_n 1, 1) := by decide +kernel
theorem dX8_odds_64 : decode cX8_odds 64 = .ok (.invokevirtual 122, 3) := by decide +kernel
theorem dX8_odds_67 : decode cX8_odds 67 = .ok (.ifCond .eq 6, 3) := by decide +kernel
theorem dX8_odds_70 : decode cX8_odds 70 = .ok (.bipush (-2), 2) := by decide +kernel
theorem dX8_odds_72 : decode cX8_odds 72 = .ok (.ireturn, 1) := by decide +kernel
theorem dX8_odds_73 : decode cX8_odds 73 = .ok (.aload_n 0, 1) := by decide +kernel
theorem dX8_odds_74 : decode cX8_odds 74 = .ok (.iload_n 3, 1) := by decide +kernel
theorem dX8_odds_75 : decode cX8_odds 75 = .ok (.iload 4, 2) := by decide +kernel
theorem dX8_odds_77 : decode cX8_odds 77 = .ok (.invokevirtual 253, 3) := by decide +kernel
theorem dX8_odds_80 : decode cX8_odds 80 = .ok (.istore 6, 2) := by decide +kernel
theorem dX8_odds_82 : decode cX8_odds 82 = .ok (.iconst 0, 1) := by decide +kernel
theorem dX8_odds_83 : decode cX8_odds 83 = .ok (.istore 7, 2) := by decide +kernel
theorem dX8_odds_85 : decode cX8_odds 85 = .ok (.iconst 0, 1) := by decide +kernel
theorem dX8_odds_86 : decode cX8_odds 86 = .ok (.istore 8, 2) := by decide +kernel
theorem dX8_odds_88 : decode cX8_odds 88 = .ok (.iload 8, 2) := by decide +kernel
theorem dX8_odds_90 : decode cX8_odds 90 = .ok (.iload 4, 2) := by decide +kernel
theorem dX8_odds_92 : decode cX8_odds 92 = .ok (.if_icmp .gt 45, 3) := by decide +kernel
theorem dX8_odds_95 : decode cX8_odds 95 = .ok (.iload 8, 2) := by decide +kernel
theorem dX8_odds_97 : decode cX8_odds 97 = .ok (.aload_n 0, 1) := by decide +kernel
theorem dX8_odds_98 : decode cX8_odds 98 = .ok (.getfield 19, 3) := by decide +kernel
theorem dX8_odds_101 : decode cX8_odds 101 = .ok (.iload_n 1, 1) := by decide +kernel
theorem dX8_odds_102 : decode cX8_odds 102 = .ok (.iload_n 2, 1) := by decide +kernel
theorem dX8_odds_103 : decode cX8_odds 103 = .ok (.invokevirtual 250, 3) := by decide +kernel
theorem dX8_odds_106 : decode cX8_odds 106 = .ok (.imul, 1) := by decide +kernel
theorem dX8_odds_107 : decode cX8_odds 107 = .ok (.aload_n 0, 1) := by decide +kernel
theorem dX8_odds_108 : decode cX8_odds 108 = .ok (.getfield 29, 3) := by decide +kernel
theorem dX8_odds_111 : decode cX8_odds 111 = .ok (.getfield 113, 3) := by decide +kernel
theorem dX8_odds_114 : decode cX8_odds 114 = .ok (.iload_n 1, 1) := by decide +kernel
theorem dX8_odds_115 : decode cX8_odds 115 = .ok (.iaload, 1) := by decide +kernel
theorem dX8_odds_116 : decode cX8_odds 116 = .ok (.if_icmp .le 15, 3) := by decide +kernel
theorem dX8_odds_119 : decode cX8_odds 119 = .ok (.iload 7, 2) := by decide +kernel
theorem dX8_odds_121 : decode cX8_odds 121 = .ok (.aload_n 0, 1) := by decide +kernel
theorem dX8_odds_122 : decode cX8_odds 122 = .ok (.getfield 76, 3) := by decide +kernel
theorem dX8_odds_125 : decode cX8_odds 125 = .ok (.iload 8, 2) := by decide +kernel
theorem dX8_odds_127 : decode cX8_odds 127 = .ok (.iaload, 1) := by decide +kernel
theorem dX8_odds_128 : decode cX8_odds 128 = .ok (.iadd, 1) := by decide +kernel
theorem dX8_odds_129 : decode cX8_odds 129 = .ok (.istore 7, 2) := by decide +kernel
theorem dX8_odds_131 : decode cX8_odds 131 = .ok (.iinc 8 1, 3) := by decide +kernel
theorem dX8_odds_134 : decode cX8_odds 134 = .ok (.goto (-46), 3) := by decide +kernel
theorem dX8_odds_137 : decode cX8_odds 137 = .ok (.iload 6, 2) := by decide +kernel
theorem dX8_odds_139 : decode cX8_odds 139 = .ok (.iload 7, 2) := by decide +kernel
theorem dX8_odds_141 : decode cX8_odds 141 = .ok (.invokestatic 256, 3) := by decide +kernel
theorem dX8_odds_144 : decode cX8_odds 144 = .ok (.istore 8, 2) := by decide +kernel
theorem dX8_odds_146 : decode cX8_odds 146 = .ok (.iload 5, 2) := by decide +kernel
theorem dX8_odds_148 : decode cX8_odds 148 = .ok (.ifCond .ne 8, 3) := by decide +kernel
theorem dX8_odds_151 : decode cX8_odds 151 = .ok (.iload 7, 2) := by decide +kernel
theorem dX8_odds_153 : decode cX8_odds 153 = .ok (.goto 5, 3) := by decide +kernel
theorem dX8_odds_156 : decode cX8_odds 156 = .ok (.iload 6, 2) := by decide +kernel
theorem dX8_odds_158 : decode cX8_odds 158 = .ok (.iload 8, 2) := by decide +kernel
theorem dX8_odds_160 : decode cX8_odds 160 = .ok (.idiv, 1) := by decide +kernel
theorem dX8_odds_161 : decode cX8_odds 161 = .ok (.ireturn, 1) := by decide +kernel
theorem dX8_rate_0 : decode cX8_rate 0 = .ok (.iload_n 1, 1) := by decide +kernel
theorem dX8_rate_1 : decode cX8_rate 1 = .ok (.ifCond .lt 19, 3) := by decide +kernel
theorem dX8_rate_4 : decode cX8_rate 4 = .ok (.iload_n 1, 1) := by decide +kernel
theorem dX8_rate_5 : decode cX8_rate 5 = .ok (.iconst 5, 1) := by decide +kernel
theorem dX8_rate_6 : decode cX8_rate 6 = .ok (.if_icmp .gt 14, 3) := by decide +kernel
theorem dX8_rate_9 : decode cX8_rate 9 = .ok (.aload_n 0, 1) := by decide +kernel
theorem dX8_rate_10 : decode cX8_rate 10 = .ok (.getfield 19, 3) := by decide +kernel
theorem dX8_rate_13 : decode cX8_rate 13 = .ok (.iload_n 2, 1) := by decide +kernel
theorem dX8_rate_14 : decode cX8_rate 14 = .ok (.invokevirtual 108, 3) := by decide +kernel
theorem dX8_rate_17 : decode cX8_rate 17 = .ok (.ifCond .ne 6, 3) := by decide +kernel
theorem dX8_rate_20 : decode cX8_rate 20 = .ok (.ldc 112, 2) := by decide +kernel
theorem dX8_rate_22 : decode cX8_rate 22 = .ok (.ireturn, 1) := by decide +kernel
theorem dX8_rate_23 : decode cX8_rate 23 = .ok (.aload_n 0, 1) := by decide +kernel
theorem dX8_rate_24 : decode cX8_rate 24 = .ok (.iload_n 1, 1) := by decide +kernel
theorem dX8_rate_25 : decode cX8_rate 25 = .ok (.iload_n 2, 1) := by decide +kernel
theorem dX8_rate_26 : decode cX8_rate 26 = .ok (.invokevirtual 259, 3) := by decide +kernel
theorem dX8_rate_29 : decode cX8_rate 29 = .ok (.ireturn, 1) := by decide +kernel
theorem dX8_keep_0 : decode cX8_keep 0 = .ok (.iload_n 1, 1) := by decide +kernel
theorem dX8_keep_1 : decode cX8_keep 1 = .ok (.ifCond .lt 8, 3) := by decide +kernel
theorem dX8_keep_4 : decode cX8_keep 4 = .ok (.iload_n 1, 1) := by decide +kernel
theorem dX8_keep_5 : decode cX8_keep 5 = .ok (.iconst 2, 1) := by decide +kernel
theorem dX8_keep_6 : decode cX8_keep 6 = .ok (.if_icmp .lt 5, 3) := by decide +kernel
theorem dX8_keep_9 : decode cX8_keep 9 = .ok (.iconst (-1), 1) := by decide +kernel
theorem dX8_keep_10 : decode cX8_keep 10 = .ok (.ireturn, 1) := by decide +kernel
theorem dX8_keep_11 : decode cX8_keep 11 = .ok (.aload_n 0, 1) := by decide +kernel
theorem dX8_keep_12 : decode cX8_keep 12 = .ok (.getfield 40, 3) := by decide +kernel
theorem dX8_keep_15 : decode cX8_keep 15 = .ok (.iload_n 1, 1) := by decide +kernel
theorem dX8_keep_16 : decode cX8_keep 16 = .ok (.aaload, 1) := by decide +kernel
theorem dX8_keep_17 : decode cX8_keep 17 = .ok (.aload_n 0, 1) := by decide +kernel
theorem dX8_keep_18 : decode cX8_keep 18 = .ok (.getfield 29, 3) := by decide +kernel
theorem dX8_keep_21 : decode cX8_keep 21 = .ok (.invokevirtual 262, 3) := by decide +kernel
theorem dX8_keep_24 : decode cX8_keep 24 = .ok (.aload_n 0, 1) := by decide +kernel
theorem dX8_keep_25 : decode cX8_keep 25 = .ok (.dup, 1) := by decide +kernel
theorem dX8_keep_26 : decode cX8_keep 26 = .ok (.getfield 44, 3) := by decide +kernel
theorem dX8_keep_29 : decode cX8_keep 29 = .ok (.iconst 1, 1) := by decide +kernel
theorem dX8_keep_30 : decode cX8_keep 30 = .ok (.iload_n 1, 1) := by decide +kernel
theorem dX8_keep_31 : decode cX8_keep 31 = .ok (.ishl, 1) := by decide +kernel
theorem dX8_keep_32 : decode cX8_keep 32 = .ok (.ior, 1) := by decide +kernel
theorem dX8_keep_33 : decode cX8_keep 33 = .ok (.putfield 44, 3) := by decide +kernel
theorem dX8_keep_36 : decode cX8_keep 36 = .ok (.aload_n 0, 1) := by decide +kernel
theorem dX8_keep_37 : decode cX8_keep 37 = .ok (.getfield 29, 3) := by decide +kernel
theorem dX8_keep_40 : decode cX8_keep 40 = .ok (.getfield 149, 3) := by decide +kernel
theorem dX8_keep_43 : decode cX8_keep 43 = .ok (.ireturn, 1) := by decide +kernel
theorem dX8_back_0 : decode cX8_back 0 = .ok (.iload_n 1, 1) := by decide +kernel
theorem dX8_back_1 : decode cX8_back 1 = .ok (.ifCond .lt 8, 3) := by decide +kernel
theorem dX8_back_4 : decode cX8_back 4 = .ok (.iload_n 1, 1) := by decide +kernel
theorem dX8_back_5 : decode cX8_back 5 = .ok (.iconst 2, 1) := by decide +kernel
theorem dX8_back_6 : decode cX8_back 6 = .ok (.if_icmp .lt 5, 3) := by decide +kernel
theorem dX8_back_9 : decode cX8_back 9 = .ok (.iconst (-1), 1) := by decide +kernel
theorem dX8_back_10 : decode cX8_back 10 = .ok (.ireturn, 1) := by decide +kernel
theorem dX8_back_11 : decode cX8_back 11 = .ok (.aload_n 0, 1) := by decide +kernel
theorem dX8_back_12 : decode cX8_back 12 = .ok (.getfield 44, 3) := by decide +kernel
theorem dX8_back_15 : decode cX8_back 15 = .ok (.iload_n 1, 1) := by decide +kernel
theorem dX8_back_16 : decode cX8_back 16 = .ok (.ishr, 1) := by decide +kernel
theorem dX8_back_17 : decode cX8_back 17 = .ok (.iconst 1, 1) := by decide +kernel
theorem dX8_back_18 : decode cX8_back 18 = .ok (.iand, 1) := by decide +kernel
theorem dX8_back_19 : decode cX8_back 19 = .ok (.ifCond .ne 6, 3) := by decide +kernel
theorem dX8_back_22 : decode cX8_back 22 = .ok (.bipush (-2), 2) := by decide +kernel
theorem dX8_back_24 : decode cX8_back 24 = .ok (.ireturn, 1) := by decide +kernel
theorem dX8_back_25 : decode cX8_back 25 = .ok (.aload_n 0, 1) := by decide +kernel
theorem dX8_back_26 : decode cX8_back 26 = .ok (.getfield 29, 3) := by decide +kernel
theorem dX8_back_29 : decode cX8_back 29 = .ok (.aload_n 0, 1) := by decide +kernel
theorem dX8_back_30 : decode cX8_back 30 = .ok (.getfield 40, 3) := by decide +kernel
theorem dX8_back_33 : decode cX8_back 33 = .ok (.iload_n 1, 1) := by decide +kernel
theorem dX8_back_34 : decode cX8_back 34 = .ok (.aaload, 1) := by decide +kernel
theorem dX8_back_35 : decode cX8_back 35 = .ok (.invokevirtual 262, 3) := by decide +kernel
theorem dX8_back_38 : decode cX8_back 38 = .ok (.aload_n 0, 1) := by decide +kernel
theorem dX8_back_39 : decode cX8_back 39 = .ok (.getfield 36, 3) := by decide +kernel
theorem dX8_back_42 : decode cX8_back 42 = .ok (.invokevirtual 102, 3) := by decide +kernel
theorem dX8_back_45 : decode cX8_back 45 = .ok (.aload_n 0, 1) := by decide +kernel
theorem dX8_back_46 : decode cX8_back 46 = .ok (.getfield 29, 3) := by decide +kernel
theorem dX8_back_49 : decode cX8_back 49 = .ok (.getfield 149, 3) := by decide +kernel
theorem dX8_back_52 : decode cX8_back 52 = .ok (.ireturn, 1) := by decide +kernel
theorem dX8_count_0 : decode cX8_count 0 = .ok (.iload_n 1, 1) := by decide +kernel
theorem dX8_count_1 : decode cX8_count 1 = .ok (.tableswitch 111 0 7 #[47, 55, 63, 71, 79, 87, 95, 103], 47) := by decide +kernel
theorem dX8_count_48 : decode cX8_count 48 = .ok (.aload_n 0, 1) := by decide +kernel
theorem dX8_count_49 : decode cX8_count 49 = .ok (.getfield 19, 3) := by decide +kernel
theorem dX8_count_52 : decode cX8_count 52 = .ok (.getfield 207, 3) := by decide +kernel
theorem dX8_count_55 : decode cX8_count 55 = .ok (.ireturn, 1) := by decide +kernel
theorem dX8_count_56 : decode cX8_count 56 = .ok (.aload_n 0, 1) := by decide +kernel
theorem dX8_count_57 : decode cX8_count 57 = .ok (.getfield 19, 3) := by decide +kernel
theorem dX8_count_60 : decode cX8_count 60 = .ok (.getfield 265, 3) := by decide +kernel
theorem dX8_count_63 : decode cX8_count 63 = .ok (.ireturn, 1) := by decide +kernel
theorem dX8_count_64 : decode cX8_count 64 = .ok (.aload_n 0, 1) := by decide +kernel
theorem dX8_count_65 : decode cX8_count 65 = .ok (.getfield 19, 3) := by decide +kernel
theorem dX8_count_68 : decode cX8_count 68 = .ok (.getfield 137, 3) := by decide +kernel
theorem dX8_count_71 : decode cX8_count 71 = .ok (.ireturn, 1) := by decide +kernel
theorem dX8_count_72 : decode cX8_count 72 = .ok (.aload_n 0, 1) := by decide +kernel
theorem dX8_count_73 : decode cX8_count 73 = .ok (.getfield 19, 3) := by decide +kernel
theorem dX8_count_76 : decode cX8_count 76 = .ok (.getfield 178, 3) := by decide +kernel
theorem dX8_count_79 : decode cX8_count 79 = .ok (.ireturn, 1) := by decide +kernel
theorem dX8_count_80 : decode cX8_count 80 = .ok (.aload_n 0, 1) := by decide +kernel
theorem dX8_count_81 : decode cX8_count 81 = .ok (.getfield 19, 3) := by decide +kernel
theorem dX8_count_84 : decode cX8_count 84 = .ok (.getfield 268, 3) := by decide +kernel
theorem dX8_count_87 : decode cX8_count 87 = .ok (.ireturn, 1) := by decide +kernel
theorem dX8_count_88 : decode cX8_count 88 = .ok (.aload_n 0, 1) := by decide +kernel
theorem dX8_count_89 : decode cX8_count 89 = .ok (.getfield 19, 3) := by decide +kernel
theorem dX8_count_92 : decode cX8_count 92 = .ok (.getfield 271, 3) := by decide +kernel
theorem dX8_count_95 : decode cX8_count 95 = .ok (.ireturn, 1) := by decide +kernel
theorem dX8_count_96 : decode cX8_count 96 = .ok (.aload_n 0, 1) := by decide +kernel
theorem dX8_count_97 : decode cX8_count 97 = .ok (.getfield 72, 3) := by decide +kernel
theorem dX8_count_100 : decode cX8_count 100 = .ok (.getfield 105, 3) := by decide +kernel
theorem dX8_count_103 : decode cX8_count 103 = .ok (.ireturn, 1) := by decide +kernel
theorem dX8_count_104 : decode cX8_count 104 = .ok (.aload_n 0, 1) := by decide +kernel
theorem dX8_count_105 : decode cX8_count 105 = .ok (.getfield 10, 3) := by decide +kernel
theorem dX8_count_108 : decode cX8_count 108 = .ok (.getfield 84, 3) := by decide +kernel
theorem dX8_count_111 : decode cX8_count 111 = .ok (.ireturn, 1) := by decide +kernel
theorem dX8_count_112 : decode cX8_count 112 = .ok (.iconst (-1), 1) := by decide +kernel
theorem dX8_count_113 : decode cX8_count 113 = .ok (.ireturn, 1) := by decide +kernel
theorem dX8_trace_0 : decode cX8_trace 0 = .ok (.aload_n 0, 1) := by decide +kernel
theorem dX8_trace_1 : decode cX8_trace 1 = .ok (.getfield 80, 3) := by decide +kernel
theorem dX8_trace_4 : decode cX8_trace 4 = .ok (.lreturn, 1) := by decide +kernel
theorem dX8_rateAs_0 : decode cX8_rateAs 0 = .ok (.iload_n 1, 1) := by decide +kernel
theorem dX8_rateAs_1 : decode cX8_rateAs 1 = .ok (.ifCond .lt 8, 3) := by decide +kernel
theorem dX8_rateAs_4 : decode cX8_rateAs 4 = .ok (.iload_n 1, 1) := by decide +kernel
theorem dX8_rateAs_5 : decode cX8_rateAs 5 = .ok (.iconst 5, 1) := by decide +kernel
theorem dX8_rateAs_6 : decode cX8_rateAs 6 = .ok (.if_icmp .le 5, 3) := by decide +kernel
theorem dX8_rateAs_9 : decode cX8_rateAs 9 = .ok (.iconst 0, 1) := by decide +kernel
theorem dX8_rateAs_10 : decode cX8_rateAs 10 = .ok (.ireturn, 1) := by decide +kernel
theorem dX8_rateAs_11 : decode cX8_rateAs 11 = .ok (.aload_n 0, 1) := by decide +kernel
theorem dX8_rateAs_12 : decode cX8_rateAs 12 = .ok (.dup, 1) := by decide +kernel
theorem dX8_rateAs_13 : decode cX8_rateAs 13 = .ok (.getfield 80, 3) := by decide +kernel
theorem dX8_rateAs_16 : decode cX8_rateAs 16 = .ok (.getstatic 274, 3) := by decide +kernel
theorem dX8_rateAs_19 : decode cX8_rateAs 19 = .ok (.iload_n 1, 1) := by decide +kernel
theorem dX8_rateAs_20 : decode cX8_rateAs 20 = .ok (.iaload, 1) := by decide +kernel
theorem dX8_rateAs_21 : decode cX8_rateAs 21 = .ok (.i2l, 1) := by decide +kernel
theorem dX8_rateAs_22 : decode cX8_rateAs 22 = .ok (.ladd, 1) := by decide +kernel
theorem dX8_rateAs_23 : decode cX8_rateAs 23 = .ok (.putfield 80, 3) := by decide +kernel
theorem dX8_rateAs_26 : decode cX8_rateAs 26 = .ok (.iload_n 1, 1) := by decide +kernel
theorem dX8_rateAs_27 : decode cX8_rateAs 27 = .ok (.ifCond .ne 7, 3) := by decide +kernel
theorem dX8_rateAs_30 : decode cX8_rateAs 30 = .ok (.iconst 0, 1) := by decide +kernel
theorem dX8_rateAs_31 : decode cX8_rateAs 31 = .ok (.goto 13, 3) := by decide +kernel
theorem dX8_rateAs_34 : decode cX8_rateAs 34 = .ok (.aload_n 0, 1) := by decide +kernel
theorem dX8_rateAs_35 : decode cX8_rateAs 35 = .ok (.getstatic 277, 3) := by decide +kernel
theorem dX8_rateAs_38 : decode cX8_rateAs 38 = .ok (.iload_n 1, 1) := by decide +kernel
theorem dX8_rateAs_39 : decode cX8_rateAs 39 = .ok (.iaload, 1) := by decide +kernel
theorem dX8_rateAs_40 : decode cX8_rateAs 40 = .ok (.iload_n 2, 1) := by decide +kernel
theorem dX8_rateAs_41 : decode cX8_rateAs 41 = .ok (.invokevirtual 259, 3) := by decide +kernel
theorem dX8_rateAs_44 : decode cX8_rateAs 44 = .ok (.istore_n 3, 1) := by decide +kernel
theorem dX8_rateAs_45 : decode cX8_rateAs 45 = .ok (.iload_n 1, 1) := by decide +kernel
theorem dX8_rateAs_46 : decode cX8_rateAs 46 = .ok (.tableswitch 80 1 5 #[34, 46, 58, 62, 66], 34) := by decide +kernel
theorem dX8_rateAs_80 : decode cX8_rateAs 80 = .ok (.iload_n 3, 1) := by decide +kernel
theorem dX8_rateAs_81 : decode cX8_rateAs 81 = .ok (.aload_n 0, 1) := by decide +kernel
theorem dX8_rateAs_82 : decode cX8_rateAs 82 = .ok (.getfield 19, 3) := by decide +kernel
theorem dX8_rateAs_85 : decode cX8_rateAs 85 = .ok (.getfield 119, 3) := by decide +kernel
theorem dX8_rateAs_88 : decode cX8_rateAs 88 = .ok (.iload_n 2, 1) := by decide +kernel
theorem dX8_rateAs_89 : decode cX8_rateAs 89 = .ok (.iaload, 1) := by decide +kernel
theorem dX8_rateAs_90 : decode cX8_rateAs 90 = .ok (.iadd, 1) := by decide +kernel
theorem dX8_rateAs_91 : decode cX8_rateAs 91 = .ok (.ireturn, 1) := by decide +kernel
theorem dX8_rateAs_92 : decode cX8_rateAs 92 = .ok (.iload_n 3, 1) := by decide +kernel
theorem dX8_rateAs_93 : decode cX8_rateAs 93 = .ok (.aload_n 0, 1) := by decide +kernel
theorem dX8_rateAs_94 : decode cX8_rateAs 94 = .ok (.getfield 19, 3) := by decide +kernel
theorem dX8_rateAs_97 : decode cX8_rateAs 97 = .ok (.getfield 116, 3) := by decide +kernel
theorem dX8_rateAs_100 : decode cX8_rateAs 100 = .ok (.iload_n 2, 1) := by decide +kernel
theorem dX8_rateAs_101 : decode cX8_rateAs 101 = .ok (.iaload, 1) := by decide +kernel
theorem dX8_rateAs_102 : decode cX8_rateAs 102 = .ok (.isub, 1) := by decide +kernel
theorem dX8_rateAs_103 : decode cX8_rateAs 103 = .ok (.ireturn, 1) := by decide +kernel
theorem dX8_rateAs_104 : decode cX8_rateAs 104 = .ok (.iconst 2, 1) := by decide +kernel
theorem dX8_rateAs_105 : decode cX8_rateAs 105 = .ok (.iload_n 3, 1) := by decide +kernel
theorem dX8_rateAs_106 : decode cX8_rateAs 106 = .ok (.imul, 1) := by decide +kernel
theorem dX8_rateAs_107 : decode cX8_rateAs 107 = .ok (.ireturn, 1) := by decide +kernel
theorem dX8_rateAs_108 : decode cX8_rateAs 108 = .ok (.iload_n 3, 1) := by decide +kernel
theorem dX8_rateAs_109 : decode cX8_rateAs 109 = .ok (.iload_n 2, 1) := by decide +kernel
theorem dX8_rateAs_110 : decode cX8_rateAs 110 = .ok (.iadd, 1) := by decide +kernel
theorem dX8_rateAs_111 : decode cX8_rateAs 111 = .ok (.ireturn, 1) := by decide +kernel
theorem dX8_rateAs_112 : decode cX8_rateAs 112 = .ok (.iload_n 3, 1) := by decide +kernel
theorem dX8_rateAs_113 : decode cX8_rateAs 113 = .ok (.aload_n 0, 1) := by decide +kernel
theorem dX8_rateAs_114 : decode cX8_rateAs 114 = .ok (.getfield 29, 3) := by decide +kernel
theorem dX8_rateAs_117 : decode cX8_rateAs 117 = .ok (.aload_n 0, 1) := by decide +kernel
theorem dX8_rateAs_118 : decode cX8_rateAs 118 = .ok (.getfield 19, 3) := by decide +kernel
theorem dX8_rateAs_121 : decode cX8_rateAs 121 = .ok (.invokevirtual 155, 3) := by decide +kernel
theorem dX8_rateAs_124 : decode cX8_rateAs 124 = .ok (.iadd, 1) := by decide +kernel
theorem dX8_rateAs_125 : decode cX8_rateAs 125 = .ok (.ireturn, 1) := by decide +kernel
theorem dX8_rateAs_126 : decode cX8_rateAs 126 = .ok (.aload_n 0, 1) := by decide +kernel
theorem dX8_rateAs_127 : decode cX8_rateAs 127 = .ok (.getfield 29, 3) := by decide +kernel
theorem dX8_rateAs_130 : decode cX8_rateAs 130 = .ok (.getfield 113, 3) := by decide +kernel
theorem dX8_rateAs_133 : decode cX8_rateAs 133 = .ok (.iload_n 2, 1) := by decide +kernel
theorem dX8_rateAs_134 : decode cX8_rateAs 134 = .ok (.iaload, 1) := by decide +kernel
theorem dX8_rateAs_135 : decode cX8_rateAs 135 = .ok (.ireturn, 1) := by decide +kernel
theorem dX8_lossOf_0 : decode cX8_lossOf 0 = .ok (.iload_n 1, 1) := by decide +kernel
theorem dX8_lossOf_1 : decode cX8_lossOf 1 = .ok (.ifCond .eq 9, 3) := by decide +kernel
theorem dX8_lossOf_4 : decode cX8_lossOf 4 = .ok (.iload_n 0, 1) := by decide +kernel
theorem dX8_lossOf_5 : decode cX8_lossOf 5 = .ok (.iconst 2, 1) := by decide +kernel
theorem dX8_lossOf_6 : decode cX8_lossOf 6 = .ok (.idiv, 1) := by decide +kernel
theorem dX8_lossOf_7 : decode cX8_lossOf 7 = .ok (.goto 4, 3) := by decide +kernel
theorem dX8_lossOf_10 : decode cX8_lossOf 10 = .ok (.iload_n 0, 1) := by decide +kernel
theorem dX8_lossOf_11 : decode cX8_lossOf 11 = .ok (.ireturn, 1) := by decide +kernel
theorem dX8_countChances_0 : decode cX8_countChances 0 = .ok (.aload_n 0, 1) := by decide +kernel
theorem dX8_countChances_1 : decode cX8_countChances 1 = .ok (.getfield 76, 3) := by decide +kernel
theorem dX8_countChances_4 : decode cX8_countChances 4 = .ok (.iconst 0, 1) := by decide +kernel
theorem dX8_countChances_5 : decode cX8_countChances 5 = .ok (.invokestatic 280, 3) := by decide +kernel
theorem dX8_countChances_8 : decode cX8_countChances 8 = .ok (.aload_n 0, 1) := by decide +kernel
theorem dX8_countChances_9 : decode cX8_countChances 9 = .ok (.getfield 76, 3) := by decide +kernel
theorem dX8_countChances_12 : decode cX8_countChances 12 = .ok (.iconst 0, 1) := by decide +kernel
theorem dX8_countChances_13 : decode cX8_countChances 13 = .ok (.iconst 1, 1) := by decide +kernel
theorem dX8_countChances_14 : decode cX8_countChances 14 = .ok (.iastore, 1) := by decide +kernel
theorem dX8_countChances_15 : decode cX8_countChances 15 = .ok (.iconst 1, 1) := by decide +kernel
theorem dX8_countChances_16 : decode cX8_countChances 16 = .ok (.istore_n 3, 1) := by decide +kernel
theorem dX8_countChances_17 : decode cX8_countChances 17 = .ok (.iconst 1, 1) := by decide +kernel
theorem dX8_countChances_18 : decode cX8_countChances 18 = .ok (.istore 4, 2) := by decide +kernel
theorem dX8_countChances_20 : decode cX8_countChances 20 = .ok (.iload 4, 2) := by decide +kernel
theorem dX8_countChances_22 : decode cX8_countChances 22 = .ok (.iload_n 2, 1) := by decide +kernel
theorem dX8_countChances_23 : decode cX8_countChances 23 = .ok (.if_icmp .gt 70, 3) := by decide +kernel
theorem dX8_countChances_26 : decode cX8_countChances 26 = .ok (.iload 4, 2) := by decide +kernel
theorem dX8_countChances_28 : decode cX8_countChances 28 = .ok (.istore 5, 2) := by decide +kernel
theorem dX8_countChances_30 : decode cX8_countChances 30 = .ok (.iload 5, 2) := by decide +kernel
theorem dX8_countChances_32 : decode cX8_countChances 32 = .ok (.ifCond .le 40, 3) := by decide +kernel
theorem dX8_countChances_35 : decode cX8_countChances 35 = .ok (.aload_n 0, 1) := by decide +kernel
theorem dX8_countChances_36 : decode cX8_countChances 36 = .ok (.getfield 76, 3) := by decide +kernel
theorem dX8_countChances_39 : decode cX8_countChances 39 = .ok (.iload 5, 2) := by decide +kernel
theorem dX8_countChances_41 : decode cX8_countChances 41 = .ok (.aload_n 0, 1) := by decide +kernel
theorem dX8_countChances_42 : decode cX8_countChances 42 = .ok (.getfield 76, 3) := by decide +kernel
theorem dX8_countChances_45 : decode cX8_countChances 45 = .ok (.iload 5, 2) := by decide +kernel
theorem dX8_countChances_47 : decode cX8_countChances 47 = .ok (.iaload, 1) := by decide +kernel
theorem dX8_countChances_48 : decode cX8_countChances 48 = .ok (.iload_n 1, 1) := by decide +kernel
theorem dX8_countChances_49 : decode cX8_countChances 49 = .ok (.imul, 1) := by decide +kernel
theorem dX8_countChances_50 : decode cX8_countChances 50 = .ok (.aload_n 0, 1) := by decide +kernel
theorem dX8_countChances_51 : decode cX8_countChances 51 = .ok (.getfield 76, 3) := by decide +kernel
theorem dX8_countChances_54 : decode cX8_countChances 54 = .ok (.iload 5, 2) := by decide +kernel
theorem dX8_countChances_56 : decode cX8_countChances 56 = .ok (.iconst 1, 1) := by decide +kernel
theorem dX8_countChances_57 : decode cX8_countChances 57 = .ok (.isub, 1) := by decide +kernel
theorem dX8_countChances_58 : decode cX8_countChances 58 = .ok (.iaload, 1) := by decide +kernel
theorem dX8_countChances_59 : decode cX8_countChances 59 = .ok (.bipush 10, 2) := by decide +kernel
theorem dX8_countChances_61 : decode cX8_countChances 61 = .ok (.iload_n 1, 1) := by decide +kernel
theorem dX8_countChances_62 : decode cX8_countChances 62 = .ok (.isub, 1) := by decide +kernel
theorem dX8_countChances_63 : decode cX8_countChances 63 = .ok (.imul, 1) := by decide +kernel
theorem dX8_countChances_64 : decode cX8_countChances 64 = .ok (.iadd, 1) := by decide +kernel
theorem dX8_countChances_65 : decode cX8_countChances 65 = .ok (.iastore, 1) := by decide +kernel
theorem dX8_countChances_66 : decode cX8_countChances 66 = .ok (.iinc 5 (-1), 3) := by decide +kernel
theorem dX8_countChances_69 : decode cX8_countChances 69 = .ok (.goto (-39), 3) := by decide +kernel
theorem dX8_countChances_72 : decode cX8_countChances 72 = .ok (.aload_n 0, 1) := by decide +kernel
theorem dX8_countChances_73 : decode cX8_countChances 73 = .ok (.getfield 76, 3) := by decide +kernel
theorem dX8_countChances_76 : decode cX8_countChances 76 = .ok (.iconst 0, 1) := by decide +kernel
theorem dX8_countChances_77 : decode cX8_countChances 77 = .ok (.dup2, 1) := by decide +kernel
theorem dX8_countChances_78 : decode cX8_countChances 78 = .ok (.iaload, 1) := by decide +kernel
theorem dX8_countChances_79 : decode cX8_countChances 79 = .ok (.iload_n 1, 1) := by decide +kernel
theorem dX8_countChances_80 : decode cX8_countChances 80 = .ok (.imul, 1) := by decide +kernel
theorem dX8_countChances_81 : decode cX8_countChances 81 = .ok (.iastore, 1) := by decide +kernel
theorem dX8_countChances_82 : decode cX8_countChances 82 = .ok (.iload_n 3, 1) := by decide +kernel
theorem dX8_countChances_83 : decode cX8_countChances 83 = .ok (.bipush 10, 2) := by decide +kernel
theorem dX8_countChances_85 : decode cX8_countChances 85 = .ok (.imul, 1) := by decide +kernel
theorem dX8_countChances_86 : decode cX8_countChances 86 = .ok (.istore_n 3, 1) := by decide +kernel
theorem dX8_countChances_87 : decode cX8_countChances 87 = .ok (.iinc 4 1, 3) := by decide +kernel
theorem dX8_countChances_90 : decode cX8_countChances 90 = .ok (.goto (-70), 3) := by decide +kernel
theorem dX8_countChances_93 : decode cX8_countChances 93 = .ok (.iload_n 3, 1) := by decide +kernel
theorem dX8_countChances_94 : decode cX8_countChances 94 = .ok (.ireturn, 1) := by decide +kernel
theorem dX8_commonDivisor_0 : decode cX8_commonDivisor 0 = .ok (.iload_n 0, 1) := by decide +kernel
theorem dX8_commonDivisor_1 : decode cX8_commonDivisor 1 = .ok (.istore_n 2, 1) := by decide +kernel
theorem dX8_commonDivisor_2 : decode cX8_commonDivisor 2 = .ok (.iload_n 1, 1) := by decide +kernel
theorem dX8_commonDivisor_3 : decode cX8_commonDivisor 3 = .ok (.istore_n 3, 1) := by decide +kernel
theorem dX8_commonDivisor_4 : decode cX8_commonDivisor 4 = .ok (.iconst 0, 1) := by decide +kernel
theorem dX8_commonDivisor_5 : decode cX8_commonDivisor 5 = .ok (.istore 4, 2) := by decide +kernel
theorem dX8_commonDivisor_7 : decode cX8_commonDivisor 7 = .ok (.iload 4, 2) := by decide +kernel
theorem dX8_commonDivisor_9 : decode cX8_commonDivisor 9 = .ok (.bipush 64, 2) := by decide +kernel
theorem dX8_commonDivisor_11 : decode cX8_commonDivisor 11 = .ok (.if_icmp .ge 23, 3) := by decide +kernel
theorem dX8_commonDivisor_14 : decode cX8_commonDivisor 14 = .ok (.iload_n 3, 1) := by decide +kernel
theorem dX8_commonDivisor_15 : decode cX8_commonDivisor 15 = .ok (.ifCond .eq 19, 3) := by decide +kernel
theorem dX8_commonDivisor_18 : decode cX8_commonDivisor 18 = .ok (.iload_n 2, 1) := by decide +kernel
theorem dX8_commonDivisor_19 : decode cX8_commonDivisor 19 = .ok (.iload_n 3, 1) := by decide +kernel
theorem dX8_commonDivisor_20 : decode cX8_commonDivisor 20 = .ok (.irem, 1) := by decide +kernel
theorem dX8_commonDivisor_21 : decode cX8_commonDivisor 21 = .ok (.istore 5, 2) := by decide +kernel
theorem dX8_commonDivisor_23 : decode cX8_commonDivisor 23 = .ok (.iload_n 3, 1) := by decide +kernel
theorem dX8_commonDivisor_24 : decode cX8_commonDivisor 24 = .ok (.istore_n 2, 1) := by decide +kernel
theorem dX8_commonDivisor_25 : decode cX8_commonDivisor 25 = .ok (.iload 5, 2) := by decide +kernel
theorem dX8_commonDivisor_27 : decode cX8_commonDivisor 27 = .ok (.istore_n 3, 1) := by decide +kernel
theorem dX8_commonDivisor_28 : decode cX8_commonDivisor 28 = .ok (.iinc 4 1, 3) := by decide +kernel
theorem dX8_commonDivisor_31 : decode cX8_commonDivisor 31 = .ok (.goto (-24), 3) := by decide +kernel
theorem dX8_commonDivisor_34 : decode cX8_commonDivisor 34 = .ok (.iload_n 2, 1) := by decide +kernel
theorem dX8_commonDivisor_35 : decode cX8_commonDivisor 35 = .ok (.ifCond .ne 7, 3) := by decide +kernel
theorem dX8_commonDivisor_38 : decode cX8_commonDivisor 38 = .ok (.iconst 1, 1) := by decide +kernel
theorem dX8_commonDivisor_39 : decode cX8_commonDivisor 39 = .ok (.goto 4, 3) := by decide +kernel
theorem dX8_commonDivisor_42 : decode cX8_commonDivisor 42 = .ok (.iload_n 2, 1) := by decide +kernel
theorem dX8_commonDivisor_43 : decode cX8_commonDivisor 43 = .ok (.ireturn, 1) := by decide +kernel
theorem dX9_init_0 : decode cX9_init 0 = .ok (.aload_n 0, 1) := by decide +kernel
theorem dX9_init_1 : decode cX9_init 1 = .ok (.invokespecial 1, 3) := by decide +kernel
theorem dX9_init_4 : decode cX9_init 4 = .ok (.aload_n 0, 1) := by decide +kernel
theorem dX9_init_5 : decode cX9_init 5 = .ok (.sipush 200, 3) := by decide +kernel
theorem dX9_init_8 : decode cX9_init 8 = .ok (.newarray .int, 2) := by decide +kernel
theorem dX9_init_10 : decode cX9_init 10 = .ok (.putfield 7, 3) := by decide +kernel
theorem dX9_init_13 : decode cX9_init 13 = .ok (.aload_n 0, 1) := by decide +kernel
theorem dX9_init_14 : decode cX9_init 14 = .ok (.bipush 12, 2) := by decide +kernel
theorem dX9_init_16 : decode cX9_init 16 = .ok (.newarray .int, 2) := by decide +kernel
theorem dX9_init_18 : decode cX9_init 18 = .ok (.putfield 13, 3) := by decide +kernel
theorem dX9_init_21 : decode cX9_init 21 = .ok (.aload_n 0, 1) := by decide +kernel
theorem dX9_init_22 : decode cX9_init 22 = .ok (.iconst 5, 1) := by decide +kernel
theorem dX9_init_23 : decode cX9_init 23 = .ok (.newarray .int, 2) := by decide +kernel
theorem dX9_init_25 : decode cX9_init 25 = .ok (.putfield 16, 3) := by decide +kernel
theorem dX9_init_28 : decode cX9_init 28 = .ok (.aload_n 0, 1) := by decide +kernel
theorem dX9_init_29 : decode cX9_init 29 = .ok (.bipush 10, 2) := by decide +kernel
theorem dX9_init_31 : decode cX9_init 31 = .ok (.newarray .int, 2) := by decide +kernel
theorem dX9_init_33 : decode cX9_init 33 = .ok (.putfield 19, 3) := by decide +kernel
theorem dX9_init_36 : decode cX9_init 36 = .ok (.aload_n 0, 1) := by decide +kernel
theorem dX9_init_37 : decode cX9_init 37 = .ok (.bipush 10, 2) := by decide +kernel
theorem dX9_init_39 : decode cX9_init 39 = .ok (.newarray .int, 2) := by decide +kernel
theorem dX9_init_41 : decode cX9_init 41 = .ok (.putfield 22, 3) := by decide +kernel
theorem dX9_init_44 : decode cX9_init 44 = .ok (.aload_n 0, 1) := by decide +kernel
theorem dX9_init_45 : decode cX9_init 45 = .ok (.bipush 10, 2) := by decide +kernel
theorem dX9_init_47 : decode cX9_init 47 = .ok (.newarray .int, 2) := by decide +kernel
theorem dX9_init_49 : decode cX9_init 49 = .ok (.putfield 25, 3) := by decide +kernel
theorem dX9_init_52 : decode cX9_init 52 = .ok (.aload_n 0, 1) := by decide +kernel
theorem dX9_init_53 : decode cX9_init 53 = .ok (.bipush 10, 2) := by decide +kernel
theorem dX9_init_55 : decode cX9_init 55 = .ok (.newarray .int, 2) := by decide +kernel
theorem dX9_init_57 : decode cX9_init 57 = .ok (.putfield 28, 3) := by decide +kernel
theorem dX9_init_60 : decode cX9_init 60 = .ok (.aload_n 0, 1) := by decide +kernel
theorem dX9_init_61 : decode cX9_init 61 = .ok (.bipush 12, 2) := by decide +kernel
theorem dX9_init_63 : decode cX9_init 63 = .ok (.newarray .int, 2) := by decide +kernel
theorem dX9_init_65 : decode cX9_init 65 = .ok (.putfield 31, 3) := by decide +kernel
theorem dX9_init_68 : decode cX9_init 68 = .ok (.aload_n 0, 1) := by decide +kernel
theorem dX9_init_69 : decode cX9_init 69 = .ok (.bipush 15, 2) := by decide +kernel
theorem dX9_init_71 : decode cX9_init 71 = .ok (.newarray .int, 2) := by decide +kernel
theorem dX9_init_73 : decode cX9_init 73 = .ok (.putfield 34, 3) := by decide +kernel
theorem dX9_init_76 : decode cX9_init 76 = .ok (.aload_n 0, 1) := by decide +kernel
theorem dX9_init_77 : decode cX9_init 77 = .ok (.bipush 30, 2) := by decide +kernel
theorem dX9_init_79 : decode cX9_init 79 = .ok (.newarray .int, 2) := by decide +kernel
theorem dX9_init_81 : decode cX9_init 81 = .ok (.putfield 37, 3) := by decide +kernel
theorem dX9_init_84 : decode cX9_init 84 = .ok (.aload_n 0, 1) := by decide +kernel
theorem dX9_init_85 : decode cX9_init 85 = .ok (.iconst 2, 1) := by decide +kernel
theorem dX9_init_86 : decode cX9_init 86 = .ok (.newarray .boolean, 2) := by decide +kernel
theorem dX9_init_88 : decode cX9_init 88 = .ok (.putfield 40, 3) := by decide +kernel
theorem dX9_init_91 : decode cX9_init 91 = .ok (.aload_n 0, 1) := by decide +kernel
theorem dX9_init_92 : decode cX9_init 92 = .ok (.sipush 150, 3) := by decide +kernel
theorem dX9_init_95 : decode cX9_init 95 = .ok (.newarray .int, 2) := by decide +kernel
theorem dX9_init_97 : decode cX9_init 97 = .ok (.putfield 44, 3) := by decide +kernel
theorem dX9_init_100 : decode cX9_init 100 = .ok (.aload_n 0, 1) := by decide +kernel
theorem dX9_init_101 : decode cX9_init 101 = .ok (.iconst 5, 1) := by decide +kernel
theorem dX9_init_102 : decode cX9_init 102 = .ok (.newarray .int, 2) := by decide +kernel
theorem dX9_init_104 : decode cX9_init 104 = .ok (.putfield 47, 3) := by decide +kernel
theorem dX9_init_107 : decode cX9_init 107 = .ok (.aload_n 0, 1) := by decide +kernel
theorem dX9_init_108 : decode cX9_init 108 = .ok (.iconst 5, 1) := by decide +kernel
theorem dX9_init_109 : decode cX9_init 109 = .ok (.newarray .int, 2) := by decide +kernel
theorem dX9_init_111 : decode cX9_init 111 = .ok (.putfield 50, 3) := by decide +kernel
theorem dX9_init_114 : decode cX9_init 114 = .ok (.aload_n 0, 1) := by decide +kernel
theorem dX9_init_115 : decode cX9_init 115 = .ok (.sipush 186, 3) := by decide +kernel
theorem dX9_init_118 : decode cX9_init 118 = .ok (.newarray .int, 2) := by decide +kernel
theorem dX9_init_120 : decode cX9_init 120 = .ok (.putfield 53, 3) := by decide +kernel
theorem dX9_init_123 : decode cX9_init 123 = .ok (.aload_n 0, 1) := by decide +kernel
theorem dX9_init_124 : decode cX9_init 124 = .ok (.iconst 5, 1) := by decide +kernel
theorem dX9_init_125 : decode cX9_init 125 = .ok (.newarray .int, 2) := by decide +kernel
theorem dX9_init_127 : decode cX9_init 127 = .ok (.putfield 56, 3) := by decide +kernel
theorem dX9_init_130 : decode cX9_init 130 = .ok (.aload_n 0, 1) := by decide +kernel
theorem dX9_init_131 : decode cX9_init 131 = .ok (.iconst 5, 1) := by decide +kernel
theorem dX9_init_132 : decode cX9_init 132 = .ok (.newarray .int, 2) := by decide +kernel
theorem dX9_init_134 : decode cX9_init 134 = .ok (.putfield 59, 3) := by decide +kernel
theorem dX9_init_137 : decode cX9_init 137 = .ok (.aload_n 0, 1) := by decide +kernel
theorem dX9_init_138 : decode cX9_init 138 = .ok (.iconst 5, 1) := by decide +kernel
theorem dX9_init_139 : decode cX9_init 139 = .ok (.newarray .int, 2) := by decide +kernel
theorem dX9_init_141 : decode cX9_init 141 = .ok (.putfield 62, 3) := by decide +kernel
theorem dX9_init_144 : decode cX9_init 144 = .ok (.aload_n 0, 1) := by decide +kernel
theorem dX9_init_145 : decode cX9_init 145 = .ok (.bipush 64, 2) := by decide +kernel
theorem dX9_init_147 : decode cX9_init 147 = .ok (.newarray .int, 2) := by decide +kernel
theorem dX9_init_149 : decode cX9_init 149 = .ok (.putfield 65, 3) := by decide +kernel
theorem dX9_init_152 : decode cX9_init 152 = .ok (.aload_n 0, 1) := by decide +kernel
theorem dX9_init_153 : decode cX9_init 153 = .ok (.invokevirtual 68, 3) := by decide +kernel
theorem dX9_init_156 : decode cX9_init 156 = .ok (.aload_n 0, 1) := by decide +kernel
theorem dX9_init_157 : decode cX9_init 157 = .ok (.invokevirtual 71, 3) := by decide +kernel
theorem dX9_init_160 : decode cX9_init 160 = .ok (.return_, 1) := by decide +kernel
theorem dX9_in_0 : decode cX9_in 0 = .ok (.iload_n 0, 1) := by decide +kernel
theorem dX9_in_1 : decode cX9_in 1 = .ok (.iload_n 1, 1) := by decide +kernel
theorem dX9_in_2 : decode cX9_in 2 = .ok (.if_icmp .lt 12, 3) := by decide +kernel
theorem dX9_in_5 : decode cX9_in 5 = .ok (.iload_n 0, 1) := by decide +kernel
theorem dX9_in_6 : decode cX9_in 6 = .ok (.iload_n 2, 1) := by decide +kernel
theorem dX9_in_7 : decode cX9_in 7 = .ok (.if_icmp .gt 7, 3) := by decide +kernel
theorem dX9_in_10 : decode cX9_in 10 = .ok (.iconst 1, 1) := by decide +kernel
theorem dX9_in_11 : decode cX9_in 11 = .ok (.goto 4, 3) := by decide +kernel
theorem dX9_in_14 : decode cX9_in 14 = .ok (.iconst 0, 1) := by decide +kernel
theorem dX9_in_15 : decode cX9_in 15 = .ok (.ireturn, 1) := by decide +kernel
theorem dX9_ones_0 : decode cX9_ones 0 = .ok (.iconst 0, 1) := by decide +kernel
theorem dX9_ones_1 : decode cX9_ones 1 = .ok (.istore_n 1, 1) := by decide +kernel
theorem dX9_ones_2 : decode cX9_ones 2 = .ok (.iconst 0, 1) := by decide +kernel
theorem dX9_ones_3 : decode cX9_ones 3 = .ok (.istore_n 2, 1) := by decide +kernel
theorem dX9_ones_4 : decode cX9_ones 4 = .ok (.iload_n 2, 1) := by decide +kernel
theorem dX9_ones_5 : decode cX9_ones 5 = .ok (.bipush 6, 2) := by decide +kernel
theorem dX9_ones_7 : decode cX9_ones 7 = .ok (.if_icmp .ge 17, 3) := by decide +kernel
theorem dX9_ones_10 : decode cX9_ones 10 = .ok (.iload_n 1, 1) := by decide +kernel
theorem dX9_ones_11 : decode cX9_ones 11 = .ok (.iload_n 0, 1) := by decide +kernel
theorem dX9_ones_12 : decode cX9_ones 12 = .ok (.iload_n 2, 1) := by decide +kernel
theorem dX9_ones_13 : decode cX9_ones 13 = .ok (.ishr, 1) := by decide +kernel
theorem dX9_ones_14 : decode cX9_ones 14 = .ok (.iconst 1, 1) := by decide +kernel
theorem dX9_ones_15 : decode cX9_ones 15 = .ok (.iand, 1) := by decide +kernel
theorem dX9_ones_16 : decode cX9_ones 16 = .ok (.iadd, 1) := by decide +kernel
theorem dX9_ones_17 : decode cX9_ones 17 = .ok (.istore_n 1, 1) := by decide +kernel
theorem dX9_ones_18 : decode cX9_ones 18 = .ok (.iinc 2 1, 3) := by decide +kernel
theorem dX9_ones_21 : decode cX9_ones 21 = .ok (.goto (-17), 3) := by decide +kernel
theorem dX9_ones_24 : decode cX9_ones 24 = .ok (.iload_n 1, 1) := by decide +kernel
theorem dX9_ones_25 : decode cX9_ones 25 = .ok (.ireturn, 1) := by decide +kernel
theorem dX9_type_0 : decode cX9_type 0 = .ok (.aload_n 0, 1) := by decide +kernel
theorem dX9_type_1 : decode cX9_type 1 = .ok (.iconst 0, 1) := by decide +kernel
theorem dX9_type_2 : decode cX9_type 2 = .ok (.putfield 74, 3) := by decide +kernel
theorem dX9_type_5 : decode cX9_type 5 = .ok (.iload_n 1, 1) := by decide +kernel
theorem dX9_type_6 : decode cX9_type 6 = .ok (.iconst 0, 1) := by decide +kernel
theorem dX9_type_7 : decode cX9_type 7 = .ok (.sipush 255, 3) := by decide +kernel
theorem dX9_type_10 : decode cX9_type 10 = .ok (.invokestatic 78, 3) := by decide +kernel
theorem dX9_type_13 : decode cX9_type 13 = .ok (.ifCond .ne 5, 3) := by decide +kernel
theorem dX9_type_16 : decode cX9_type 16 = .ok (.iconst (-1), 1) := by decide +kernel
theorem dX9_type_17 : decode cX9_type 17 = .ok (.ireturn, 1) := by decide +kernel
theorem dX9_type_18 : decode cX9_type 18 = .ok (.aload_n 0, 1) := by decide +kernel
theorem dX9_type_19 : decode cX9_type 19 = .ok (.getfield 82, 3) := by decide +kernel
theorem dX9_type_22 : decode cX9_type 22 = .ok (.sipush 200, 3) := by decide +kernel
theorem dX9_type_25 : decode cX9_type 25 = .ok (.if_icmp .ne 6, 3) := by decide +kernel
theorem dX9_type_28 : decode cX9_type 28 = .ok (.bipush (-3), 2) := by decide +kernel
theorem dX9_type_30 : decode cX9_type 30 = .ok (.ireturn, 1) := by decide +kernel
theorem dX9_type_31 : decode cX9_type 31 = .ok (.aload_n 0, 1) := by decide +kernel
theorem dX9_type_32 : decode cX9_type 32 = .ok (.getfield 7, 3) := by decide +kernel
theorem dX9_type_35 : decode cX9_type 35 = .ok (.aload_n 0, 1) := by decide +kernel
theorem dX9_type_36 : decode cX9_type 36 = .ok (.getfield 82, 3) := by decide +kernel
theorem dX9_type_39 : decode cX9_type 39 = .ok (.iload_n 1, 1) := by decide +kernel
theorem dX9_type_40 : decode cX9_type 40 = .ok (.iastore, 1) := by decide +kernel
theorem dX9_type_41 : decode cX9_type 41 = .ok (.aload_n 0, 1) := by decide +kernel
theorem dX9_type_42 : decode cX9_type 42 = .ok (.dup, 1) := by decide +kernel
theorem dX9_type_43 : decode cX9_type 43 = .ok (.getfield 82, 3) := by decide +kernel
theorem dX9_type_46 : decode cX9_type 46 = .ok (.iconst 1, 1) := by decide +kernel
theorem dX9_type_47 : decode cX9_type 47 = .ok (.iadd, 1) := by decide +kernel
theorem dX9_type_48 : decode cX9_type 48 = .ok (.putfield 82, 3) := by decide +kernel
theorem dX9_type_51 : decode cX9_type 51 = .ok (.aload_n 0, 1) := by decide +kernel
theorem dX9_type_52 : decode cX9_type 52 = .ok (.getfield 82, 3) := by decide +kernel
theorem dX9_type_55 : decode cX9_type 55 = .ok (.ireturn, 1) := by decide +kernel
theorem dX9_clear_0 : decode cX9_clear 0 = .ok (.aload_n 0, 1) := by decide +kernel
theorem dX9_clear_1 : decode cX9_clear 1 = .ok (.iconst 0, 1) := by decide +kernel
theorem dX9_clear_2 : decode cX9_clear 2 = .ok (.putfield 74, 3) := by decide +kernel
theorem dX9_clear_5 : decode cX9_clear 5 = .ok (.aload_n 0, 1) := by decide +kernel
theorem dX9_clear_6 : decode cX9_clear 6 = .ok (.getfield 82, 3) := by decide +kernel
theorem dX9_clear_9 : decode cX9_clear 9 = .ok (.istore_n 1, 1) := by decide +kernel
theorem dX9_clear_10 : decode cX9_clear 10 = .ok (.aload_n 0, 1) := by decide +kernel
theorem dX9_clear_11 : decode cX9_clear 11 = .ok (.iconst 0, 1) := by decide +kernel
theorem dX9_clear_12 : decode cX9_clear 12 = .ok (.putfield 82, 3) := by decide +kernel
theorem dX9_clear_15 : decode cX9_clear 15 = .ok (.iload_n 1, 1) := by decide +kernel
theorem dX9_clear_16 : decode cX9_clear 16 = .ok (.ireturn, 1) := by decide +kernel
theorem dX9_letterAt_0 : decode cX9_letterAt 0 = .ok (.iload_n 1, 1) := by decide +kernel
theorem dX9_letterAt_1 : decode cX9_letterAt 1 = .ok (.aload_n 0, 1) := by decide +kernel
theorem dX9_letterAt_2 : decode cX9_letterAt 2 = .ok (.getfield 82, 3) := by decide +kernel
theorem dX9_letterAt_5 : decode cX9_letterAt 5 = .ok (.if_icmp .ge 12, 3) := by decide +kernel
theorem dX9_letterAt_8 : decode cX9_letterAt 8 = .ok (.aload_n 0, 1) := by decide +kernel
theorem dX9_letterAt_9 : decode cX9_letterAt 9 = .ok (.getfield 7, 3) := by decide +kernel
theorem dX9_letterAt_12 : decode cX9_letterAt 12 = .ok (.iload_n 1, 1) := by decide +kernel
theorem dX9_letterAt_13 : decode cX9_letterAt 13 = .ok (.iaload, 1) := by decide +kernel
theorem dX9_letterAt_14 : decode cX9_letterAt 14 = .ok (.goto 4, 3) := by decide +kernel
theorem dX9_letterAt_17 : decode cX9_letterAt 17 = .ok (.iconst (-1), 1) := by decide +kernel
theorem dX9_letterAt_18 : decode cX9_letterAt 18 = .ok (.ireturn, 1) := by decide +kernel
theorem dX9_isLetter_0 : decode cX9_isLetter 0 = .ok (.iload_n 0, 1) := by decide +kernel
theorem dX9_isLetter_1 : decode cX9_isLetter 1 = .ok (.bipush 114, 2) := by decide +kernel
theorem dX9_isLetter_3 : decode cX9_isLetter 3 = .ok (.if_icmp .eq 33, 3) := by decide +kernel
theorem dX9_isLetter_6 : decode cX9_isLetter 6 = .ok (.iload_n 0, 1) := by decide +kernel
theorem dX9_isLetter_7 : decode cX9_isLetter 7 = .ok (.bipush 100, 2) := by decide +kernel
theorem dX9_isLetter_9 : decode cX9_isLetter 9 = .ok (.if_icmp .eq 27, 3) := by decide +kernel
theorem dX9_isLetter_12 : decode cX9_isLetter 12 = .ok (.iload_n 0, 1) := by decide +kernel
theorem dX9_isLetter_13 : decode cX9_isLetter 13 = .ok (.bipush 115, 2) := by decide +kernel
theorem dX9_isLetter_15 : decode cX9_isLetter 15 = .ok (.if_icmp .eq 21, 3) := by decide +kernel
theorem dX9_isLetter_18 : decode cX9_isLetter 18 = .ok (.iload_n 0, 1) := by decide +kernel
theorem dX9_isLetter_19 : decode cX9_isLetter 19 = .ok (.bipush 99, 2) := by decide +kernel
theorem dX9_isLetter_21 : decode cX9_isLetter 21 = .ok (.if_icmp .eq 15, 3) := by decide +kernel
theorem dX9_isLetter_24 : decode cX9_isLetter 24 = .ok (.iload_n 0, 1) := by decide +kernel
theorem dX9_isLetter_25 : decode cX9_isLetter 25 = .ok (.bipush 119, 2) := by decide +kernel
theorem dX9_isLetter_27 : decode cX9_isLetter 27 = .ok (.if_icmp .eq 9, 3) := by decide +kernel
theorem dX9_isLetter_30 : decode cX9_isLetter 30 = .ok (.iload_n 0, 1) := by decide +kernel
theorem dX9_isLetter_31 : decode cX9_isLetter 31 = .ok (.bipush 110, 2) := by decide +kernel
theorem dX9_isLetter_33 : decode cX9_isLetter 33 = .ok (.if_icmp .ne 7, 3) := by decide +kernel
theorem dX9_isLetter_36 : decode cX9_isLetter 36 = .ok (.iconst 1, 1) := by decide +kernel
theorem dX9_isLetter_37 : decode cX9_isLetter 37 = .ok (.goto 4, 3) := by decide +kernel
theorem dX9_isLetter_40 : decode cX9_isLetter 40 = .ok (.iconst 0, 1) := by decide +kernel
theorem dX9_isLetter_41 : decode cX9_isLetter 41 = .ok (.ireturn, 1) := by decide +kernel
theorem dX9_advances_0 : decode cX9_advances 0 = .ok (.aload_n 0, 1) := by decide +kernel
theorem dX9_advances_1 : decode cX9_advances 1 = .ok (.aload_n 0, 1) := by decide +kernel
theorem dX9_advances_2 : decode cX9_advances 2 = .ok (.getfield 85, 3) := by decide +kernel
theorem dX9_advances_5 : decode cX9_advances 5 = .ok (.invokevirtual 88, 3) := by decide +kernel
theorem dX9_advances_8 : decode cX9_advances 8 = .ok (.bipush 32, 2) := by decide +kernel
theorem dX9_advances_10 : decode cX9_advances 10 = .ok (.if_icmp .ne 16, 3) := by decide +kernel
theorem dX9_advances_13 : decode cX9_advances 13 = .ok (.aload_n 0, 1) := by decide +kernel
theorem dX9_advances_14 : decode cX9_advances 14 = .ok (.dup, 1) := by decide +kernel
theorem dX9_advances_15 : decode cX9_advances 15 = .ok (.getfield 85, 3) := by decide +kernel
theorem dX9_advances_18 : decode cX9_advances 18 = .ok (.iconst 1, 1) := by decide +kernel
theorem dX9_advances_19 : decode cX9_advances 19 = .ok (.iadd, 1) := by decide +kernel
theorem dX9_advances_20 : decode cX9_advances 20 = .ok (.putfield 85, 3) := by decide +kernel
theorem dX9_advances_23 : decode cX9_advances 23 = .ok (.goto (-23), 3) := by decide +kernel
theorem dX9_advances_26 : decode cX9_advances 26 = .ok (.aload_n 0, 1) := by decide +kernel
theorem dX9_advances_27 : decode cX9_advances 27 = .ok (.aload_n 0, 1) := by decide +kernel
theorem dX9_advances_28 : decode cX9_advances 28 = .ok (.getfield 85, 3) := by decide +kernel
theorem dX9_advances_31 : decode cX9_advances 31 = .ok (.putfield 92, 3) := by decide +kernel
theorem dX9_advances_34 : decode cX9_advances 34 = .ok (.aload_n 0, 1) := by decide +kernel
theorem dX9_advances_35 : decode cX9_advances 35 = .ok (.aload_n 0, 1) := by decide +kernel
theorem dX9_advances_36 : decode cX9_advances 36 = .ok (.getfield 85, 3) := by decide +kernel
theorem dX9_advances_39 : decode cX9_advances 39 = .ok (.invokevirtual 88, 3) := by decide +kernel
theorem dX9_advances_42 : decode cX9_advances 42 = .ok (.istore_n 1, 1) := by decide +kernel
theorem dX9_advances_43 : decode cX9_advances 43 = .ok (.iload_n 1, 1) := by decide +kernel
theorem dX9_advances_44 : decode cX9_advances 44 = .ok (.ifCond .ge 11, 3) := by decide +kernel
theorem dX9_advances_47 : decode cX9_advances 47 = .ok (.aload_n 0, 1) := by decide +kernel
theorem dX9_advances_48 : decode cX9_advances 48 = .ok (.iconst 0, 1) := by decide +kernel
theorem dX9_advances_49 : decode cX9_advances 49 = .ok (.putfield 95, 3) := by decide +kernel
theorem dX9_advances_52 : decode cX9_advances 52 = .ok (.goto 172, 3) := by decide +kernel
theorem dX9_advances_55 : decode cX9_advances 55 = .ok (.iload_n 1, 1) := by decide +kernel
theorem dX9_advances_56 : decode cX9_advances 56 = .ok (.bipush 48, 2) := by decide +kernel
theorem dX9_advances_58 : decode cX9_advances 58 = .ok (.bipush 57, 2) := by decide +kernel
theorem dX9_advances_60 : decode cX9_advances 60 = .ok (.invokestatic 78, 3) := by decide +kernel
theorem dX9_advances_63 : decode cX9_advances 63 = .ok (.ifCond .eq 120, 3) := by decide +kernel
theorem dX9_advances_66 : decode cX9_advances 66 = .ok (.aload_n 0, 1) := by decide +kernel
theorem dX9_advances_67 : decode cX9_advances 67 = .ok (.iconst 0, 1) := by decide +kernel
theorem dX9_advances_68 : decode cX9_advances 68 = .ok (.putfield 98, 3) := by decide +kernel
theorem dX9_advances_71 : decode cX9_advances 71 = .ok (.aload_n 0, 1) := by decide +kernel
theorem dX9_advances_72 : decode cX9_advances 72 = .ok (.aload_n 0, 1) := by decide +kernel
theorem dX9_advances_73 : decode cX9_advances 73 = .ok (.getfield 85, 3) := by decide +kernel
theorem dX9_advances_76 : decode cX9_advances 76 = .ok (.invokevirtual 88, 3) := by decide +kernel
theorem dX9_advances_79 : decode cX9_advances 79 = .ok (.bipush 48, 2) := by decide +kernel
theorem dX9_advances_81 : decode cX9_advances 81 = .ok (.bipush 57, 2) := by decide +kernel
theorem dX9_advances_83 : decode cX9_advances 83 = .ok (.invokestatic 78, 3) := by decide +kernel
theorem dX9_advances_86 : decode cX9_advances 86 = .ok (.ifCond .eq 56, 3) := by decide +kernel
theorem dX9_advances_89 : decode cX9_advances 89 = .ok (.aload_n 0, 1) := by decide +kernel
theorem dX9_advances_90 : decode cX9_advances 90 = .ok (.aload_n 0, 1) := by decide +kernel
theorem dX9_advances_91 : decode cX9_advances 91 = .ok (.getfield 98, 3) := by decide +kernel
theorem dX9_advances_94 : decode cX9_advances 94 = .ok (.sipush 500, 3) := by decide +kernel
theorem dX9_advances_97 : decode cX9_advances 97 = .ok (.if_icmp .le 10, 3) := by decide +kernel
theorem dX9_advances_100 : decode cX9_advances 100 = .ok (.aload_n 0, 1) := by decide +kernel
theorem dX9_advances_101 : decode cX9_advances 101 = .ok (.getfield 98, 3) := by decide +kernel
theorem dX9_advances_104 : decode cX9_advances 104 = .ok (.goto 22, 3) := by decide +kernel
theorem dX9_advances_107 : decode cX9_advances 107 = .ok (.bipush 10, 2) := by decide +kernel
theorem dX9_advances_109 : decode cX9_advances 109 = .ok (.aload_n 0, 1) := by decide +kernel
theorem dX9_advances_110 : decode cX9_advances 110 = .ok (.getfield 98, 3) := by decide +kernel
theorem dX9_advances_113 : decode cX9_advances 113 = .ok (.imul, 1) := by decide +kernel
theorem dX9_advances_114 : decode cX9_advances 114 = .ok (.aload_n 0, 1) := by decide +kernel
theorem dX9_advances_115 : decode cX9_advances 115 = .ok (.aload_n 0, 1) := by decide +kernel
theorem dX9_advances_116 : decode cX9_advances 116 = .ok (.getfield 85, 3) := by decide +kernel
theorem dX9_advances_119 : decode cX9_advances 119 = .ok (.invokevirtual 88, 3) := by decide +kernel
theorem dX9_advances_122 : decode cX9_advances 122 = .ok (.iadd, 1) := by decide +kernel
theorem dX9_advances_123 : decode cX9_advances 123 = .ok (.bipush 48, 2) := by decide +kernel
theorem dX9_advances_125 : decode cX9_advances 125 = .ok (.isub, 1) := by decide +kernel
theorem dX9_advances_126 : decode cX9_advances 126 = .ok (.putfield 98, 3) := by decide +kernel
theorem dX9_advances_129 : decode cX9_advances 129 = .ok (.aload_n 0, 1) := by decide +kernel
theorem dX9_advances_130 : decode cX9_advances 130 = .ok (.dup, 1) := by decide +kernel
theorem dX9_advances_131 : decode cX9_advances 131 = .ok (.getfield 85, 3) := by decide +kernel
theorem dX9_advances_134 : decode cX9_advances 134 = .ok (.iconst 1, 1) := by decide +kernel
theorem dX9_advances_135 : decode cX9_advances 135 = .ok (.iadd, 1) := by decide +kernel
theorem dX9_advances_136 : decode cX9_advances 136 = .ok (.putfield 85, 3) := by decide +kernel
theorem dX9_advances_139 : decode cX9_advances 139 = .ok (.goto (-68), 3) := by decide +kernel
theorem dX9_advances_142 : decode cX9_advances 142 = .ok (.aload_n 0, 1) := by decide +kernel
theorem dX9_advances_143 : decode cX9_advances 143 = .ok (.aload_n 0, 1) := by decide +kernel
theorem dX9_advances_144 : decode cX9_advances 144 = .ok (.getfield 98, 3) := by decide +kernel
theorem dX9_advances_147 : decode cX9_advances 147 = .ok (.sipush 500, 3) := by decide +kernel
theorem dX9_advances_150 : decode cX9_advances 150 = .ok (.if_icmp .gt 22, 3) := by decide +kernel
theorem dX9_advances_153 : decode cX9_advances 153 = .ok (.iload_n 1, 1) := by decide +kernel
theorem dX9_advances_154 : decode cX9_advances 154 = .ok (.bipush 48, 2) := by decide +kernel
theorem dX9_advances_156 : decode cX9_advances 156 = .ok (.if_icmp .ne 20, 3) := by decide +kernel
theorem dX9_advances_159 : decode cX9_advances 159 = .ok (.aload_n 0, 1) := by decide +kernel
theorem dX9_advances_160 : decode cX9_advances 160 = .ok (.getfield 85, 3) := by decide +kernel
theorem dX9_advances_163 : decode cX9_advances 163 = .ok (.aload_n 0, 1) := by decide +kernel
theorem dX9_advances_164 : decode cX9_advances 164 = .ok (.getfield 92, 3) := by decide +kernel
theorem dX9_advances_167 : decode cX9_advances 167 = .ok (.isub, 1) := by decide +kernel
theorem dX9_advances_168 : decode cX9_advances 168 = .ok (.iconst 1, 1) := by decide +kernel
theorem dX9_advances_169 : decode cX9_advances 169 = .ok (.if_icmp .le 7, 3) := by decide +kernel
theorem dX9_advances_172 : decode cX9_advances 172 = .ok (.iconst 4, 1) := by decide +kernel
theorem dX9_advances_173 : decode cX9_advances 173 = .ok (.goto 4, 3) := by decide +kernel
theorem dX9_advances_176 : decode cX9_advances 176 = .ok (.iconst 2, 1) := by decide +kernel
theorem dX9_advances_177 : decode cX9_advances 177 = .ok (.putfield 95, 3) := by decide +kernel
theorem dX9_advances_180 : decode cX9_advances 180 = .ok (.goto 44, 3) := by decide +kernel
theorem dX9_advances_183 : decode cX9_advances 183 = .ok (.aload_n 0, 1) := by decide +kernel
theorem dX9_advances_184 : decode cX9_advances 184 = .ok (.dup, 1) := by decide +kernel
theorem dX9_advances_185 : decode cX9_advances 185 = .ok (.getfield 85, 3) := by decide +kernel
theorem dX9_advances_188 : decode cX9_advances 188 = .ok (.iconst 1, 1) := by decide +kernel
theorem dX9_advances_189 : decode cX9_advances 189 = .ok (.iadd, 1) := by decide +kernel
theorem dX9_advances_190 : decode cX9_advances 190 = .ok (.putfield 85, 3) := by decide +kernel
theorem dX9_advances_193 : decode cX9_advances 193 = .ok (.aload_n 0, 1) := by decide +kernel
theorem dX9_advances_194 : decode cX9_advances 194 = .ok (.iload_n 1, 1) := by decide +kernel
theorem dX9_advances_195 : decode cX9_advances 195 = .ok (.putfield 98, 3) := by decide +kernel
theorem dX9_advances_198 : decode cX9_advances 198 = .ok (.aload_n 0, 1) := by decide +kernel
theorem dX9_advances_199 : decode cX9_advances 199 = .ok (.iload_n 1, 1) := by decide +kernel
theorem dX9_advances_200 : decode cX9_advances 200 = .ok (.bipush 59, 2) := by decide +kernel
theorem dX9_advances_202 : decode cX9_advances 202 = .ok (.if_icmp .ne 7, 3) := by decide +kernel
theorem dX9_advances_205 : decode cX9_advances 205 = .ok (.iconst 3, 1) := by decide +kernel
theorem dX9_advances_206 : decode cX9_advances 206 = .ok (.goto 15, 3) := by decide +kernel
theorem dX9_advances_209 : decode cX9_advances 209 = .ok (.iload_n 1, 1) := by decide +kernel
theorem dX9_advances_210 : decode cX9_advances 210 = .ok (.invokestatic 101, 3) := by decide +kernel
theorem dX9_advances_213 : decode cX9_advances 213 = .ok (.ifCond .eq 7, 3) := by decide +kernel
theorem dX9_advances_216 : decode cX9_advances 216 = .ok (.iconst 1, 1) := by decide +kernel
theorem dX9_advances_217 : decode cX9_advances 217 = .ok (.goto 4, 3) := by decide +kernel
theorem dX9_advances_220 : decode cX9_advances 220 = .ok (.iconst 4, 1) := by decide +kernel
theorem dX9_advances_221 : decode cX9_advances 221 = .ok (.putfield 95, 3) := by decide +kernel
theorem dX9_advances_224 : decode cX9_advances 224 = .ok (.return_, 1) := by decide +kernel
theorem dX9_isWell_0 : decode cX9_isWell 0 = .ok (.aload_n 0, 1) := by decide +kernel
theorem dX9_isWell_1 : decode cX9_isWell 1 = .ok (.getfield 105, 3) := by decide +kernel
theorem dX9_isWell_4 : decode cX9_isWell 4 = .ok (.ifCond .ge 7, 3) := by decide +kernel
theorem dX9_isWell_7 : decode cX9_isWell 7 = .ok (.iconst 1, 1) := by decide +kernel
theorem dX9_isWell_8 : decode cX9_isWell 8 = .ok (.goto 4, 3) := by decide +kernel
theorem dX9_isWell_11 : decode cX9_isWell 11 = .ok (.iconst 0, 1) := by decide +kernel
theorem dX9_isWell_12 : decode cX9_isWell 12 = .ok (.ireturn, 1) := by decide +kernel
theorem dX9_takes_0 : decode cX9_takes 0 = .ok (.aload_n 0, 1) := by decide +kernel
theorem dX9_takes_1 : decode cX9_takes 1 = .ok (.invokevirtual 108, 3) := by decide +kernel
theorem dX9_takes_4 : decode cX9_takes 4 = .ok (.ifCond .ne 5, 3) := by decide +kernel
theorem dX9_takes_7 : decode cX9_takes 7 = .ok (.iconst 0, 1) := by decide +kernel
theorem dX9_takes_8 : decode cX9_takes 8 = .ok (.ireturn, 1) := by decide +kernel
theorem dX9_takes_9 : decode cX9_takes 9 = .ok (.iload_n 1, 1) := by decide +kernel
theorem dX9_takes_10 : decode cX9_takes 10 = .ok (.ifCond .ne 13, 3) := by decide +kernel
theorem dX9_takes_13 : decode cX9_takes 13 = .ok (.aload_n 0, 1) := by decide +kernel
theorem dX9_takes_14 : decode cX9_takes 14 = .ok (.aload_n 0, 1) := by decide +kernel
theorem dX9_takes_15 : decode cX9_takes 15 = .ok (.getfield 92, 3) := by decide +kernel
theorem dX9_takes_18 : decode cX9_takes 18 = .ok (.putfield 105, 3) := by decide +kernel
theorem dX9_takes_21 : decode cX9_takes 21 = .ok (.iconst 0, 1) := by decide +kernel
theorem dX9_takes_22 : decode cX9_takes 22 = .ok (.ireturn, 1) := by decide +kernel
theorem dX9_takes_23 : decode cX9_takes 23 = .ok (.aload_n 0, 1) := by decide +kernel
theorem dX9_takes_24 : decode cX9_takes 24 = .ok (.getfield 98, 3) := by decide +kernel
theorem dX9_takes_27 : decode cX9_takes 27 = .ok (.istore_n 2, 1) := by decide +kernel
theorem dX9_takes_28 : decode cX9_takes 28 = .ok (.aload_n 0, 1) := by decide +kernel
theorem dX9_takes_29 : decode cX9_takes 29 = .ok (.invokevirtual 112, 3) := by decide +kernel
theorem dX9_takes_32 : decode cX9_takes 32 = .ok (.iload_n 2, 1) := by decide +kernel
theorem dX9_takes_33 : decode cX9_takes 33 = .ok (.ireturn, 1) := by decide +kernel
theorem dX9_number_0 : decode cX9_number 0 = .ok (.aload_n 0, 1) := by decide +kernel
theorem dX9_number_1 : decode cX9_number 1 = .ok (.aload_n 0, 1) := by decide +kernel
theorem dX9_number_2 : decode cX9_number 2 = .ok (.getfield 95, 3) := by decide +kernel
theorem dX9_number_5 : decode cX9_number 5 = .ok (.iconst 2, 1) := by decide +kernel
theorem dX9_number_6 : decode cX9_number 6 = .ok (.if_icmp .ne 19, 3) := by decide +kernel
theorem dX9_number_9 : decode cX9_number 9 = .ok (.aload_n 0, 1) := by decide +kernel
theorem dX9_number_10 : decode cX9_number 10 = .ok (.getfield 98, 3) := by decide +kernel
theorem dX9_number_13 : decode cX9_number 13 = .ok (.iload_n 1, 1) := by decide +kernel
theorem dX9_number_14 : decode cX9_number 14 = .ok (.iload_n 2, 1) := by decide +kernel
theorem dX9_number_15 : decode cX9_number 15 = .ok (.invokestatic 78, 3) := by decide +kernel
theorem dX9_number_18 : decode cX9_number 18 = .ok (.ifCond .eq 7, 3) := by decide +kernel
theorem dX9_number_21 : decode cX9_number 21 = .ok (.iconst 1, 1) := by decide +kernel
theorem dX9_number_22 : decode cX9_number 22 = .ok (.goto 4, 3) := by decide +kernel
theorem dX9_number_25 : decode cX9_number 25 = .ok (.iconst 0, 1) := by decide +kernel
theorem dX9_number_26 : decode cX9_number 26 = .ok (.invokevirtual 115, 3) := by decide +kernel
theorem dX9_number_29 : decode cX9_number 29 = .ok (.ireturn, 1) := by decide +kernel
theorem dX9_begins_0 : decode cX9_begins 0 = .ok (.aload_n 0, 1) := by decide +kernel
theorem dX9_begins_1 : decode cX9_begins 1 = .ok (.iconst 0, 1) := by decide +kernel
theorem dX9_begins_2 : decode cX9_begins 2 = .ok (.putfield 119, 3) := by decide +kernel
theorem dX9_begins_5 : decode cX9_begins 5 = .ok (.aload_n 0, 1) := by decide +kernel
theorem dX9_begins_6 : decode cX9_begins 6 = .ok (.getfield 13, 3) := by decide +kernel
theorem dX9_begins_9 : decode cX9_begins 9 = .ok (.bipush 6, 2) := by decide +kernel
theorem dX9_begins_11 : decode cX9_begins 11 = .ok (.iconst 0, 1) := by decide +kernel
theorem dX9_begins_12 : decode cX9_begins 12 = .ok (.iastore, 1) := by decide +kernel
theorem dX9_begins_13 : decode cX9_begins 13 = .ok (.aload_n 0, 1) := by decide +kernel
theorem dX9_begins_14 : decode cX9_begins 14 = .ok (.getfield 13, 3) := by decide +kernel
theorem dX9_begins_17 : decode cX9_begins 17 = .ok (.bipush 7, 2) := by decide +kernel
theorem dX9_begins_19 : decode cX9_begins 19 = .ok (.iconst 0, 1) := by decide +kernel
theorem dX9_begins_20 : decode cX9_begins 20 = .ok (.iastore, 1) := by decide +kernel
theorem dX9_begins_21 : decode cX9_begins 21 = .ok (.aload_n 0, 1) := by decide +kernel
theorem dX9_begins_22 : decode cX9_begins 22 = .ok (.getfield 13, 3) := by decide +kernel
theorem dX9_begins_25 : decode cX9_begins 25 = .ok (.bipush 8, 2) := by decide +kernel
theorem dX9_begins_27 : decode cX9_begins 27 = .ok (.iconst 0, 1) := by decide +kernel
theorem dX9_begins_28 : decode cX9_begins 28 = .ok (.iastore, 1) := by decide +kernel
theorem dX9_begins_29 : decode cX9_begins 29 = .ok (.aload_n 0, 1) := by decide +kernel
theorem dX9_begins_30 : decode cX9_begins 30 = .ok (.getfield 13, 3) := by decide +kernel
theorem dX9_begins_33 : decode cX9_begins 33 = .ok (.bipush 9, 2) := by decide +kernel
theorem dX9_begins_35 : decode cX9_begins 35 = .ok (.iconst 0, 1) := by decide +kernel
theorem dX9_begins_36 : decode cX9_begins 36 = .ok (.iastore, 1) := by decide +kernel
theorem dX9_begins_37 : decode cX9_begins 37 = .ok (.aload_n 0, 1) := by decide +kernel
theorem dX9_begins_38 : decode cX9_begins 38 = .ok (.getfield 13, 3) := by decide +kernel
theorem dX9_begins_41 : decode cX9_begins 41 = .ok (.bipush 10, 2) := by decide +kernel
theorem dX9_begins_43 : decode cX9_begins 43 = .ok (.iconst 1, 1) := by decide +kernel
theorem dX9_begins_44 : decode cX9_begins 44 = .ok (.iastore, 1) := by decide +kernel
theorem dX9_begins_45 : decode cX9_begins 45 = .ok (.aload_n 0, 1) := by decide +kernel
theorem dX9_begins_46 : decode cX9_begins 46 = .ok (.getfield 13, 3) := by decide +kernel
theorem dX9_begins_49 : decode cX9_begins 49 = .ok (.bipush 11, 2) := by decide +kernel
theorem dX9_begins_51 : decode cX9_begins 51 = .ok (.bipush 120, 2) := by decide +kernel
theorem dX9_begins_53 : decode cX9_begins 53 = .ok (.iastore, 1) := by decide +kernel
theorem dX9_begins_54 : decode cX9_begins 54 = .ok (.return_, 1) := by decide +kernel
theorem dX9_bitOf_0 : decode cX9_bitOf 0 = .ok (.iload_n 0, 1) := by decide +kernel
theorem dX9_bitOf_1 : decode cX9_bitOf 1 = .ok (.bipush 99, 2) := by decide +kernel
theorem dX9_bitOf_3 : decode cX9_bitOf 3 = .ok (.if_icmp .ne 7, 3) := by decide +kernel
theorem dX9_bitOf_6 : decode cX9_bitOf 6 = .ok (.iconst 1, 1) := by decide +kernel
theorem dX9_bitOf_7 : decode cX9_bitOf 7 = .ok (.goto 14, 3) := by decide +kernel
theorem dX9_bitOf_10 : decode cX9_bitOf 10 = .ok (.iload_n 0, 1) := by decide +kernel
theorem dX9_bitOf_11 : decode cX9_bitOf 11 = .ok (.bipush 119, 2) := by decide +kernel
theorem dX9_bitOf_13 : decode cX9_bitOf 13 = .ok (.if_icmp .ne 7, 3) := by decide +kernel
theorem dX9_bitOf_16 : decode cX9_bitOf 16 = .ok (.iconst 2, 1) := by decide +kernel
theorem dX9_bitOf_17 : decode cX9_bitOf 17 = .ok (.goto 4, 3) := by decide +kernel
theorem dX9_bitOf_20 : decode cX9_bitOf 20 = .ok (.iconst 4, 1) := by decide +kernel
theorem dX9_bitOf_21 : decode cX9_bitOf 21 = .ok (.ireturn, 1) := by decide +kernel
theorem dX9_mayBegin_0 : decode cX9_mayBegin 0 = .ok (.aload_n 0, 1) := by decide +kernel
theorem dX9_mayBegin_1 : decode cX9_mayBegin 1 = .ok (.getfield 98, 3) := by decide +kernel
theorem dX9_mayBegin_4 : decode cX9_mayBegin 4 = .ok (.bipush 114, 2) := by decide +kernel
theorem dX9_mayBegin_6 : decode cX9_mayBegin 6 = .ok (.if_icmp .eq 12, 3) := by decide +kernel
theorem dX9_mayBegin_9 : decode cX9_mayBegin 9 = .ok (.aload_n 0, 1) := by decide +kernel
theorem dX9_mayBegin_10 : decode cX9_mayBegin 10 = .ok (.getfield 98, 3) := by decide +kernel
theorem dX9_mayBegin_13 : decode cX9_mayBegin 13 = .ok (.bipush 100, 2) := by decide +kernel
theorem dX9_mayBegin_15 : decode cX9_mayBegin 15 = .ok (.if_icmp .ne 35, 3) := by decide +kernel
theorem dX9_mayBegin_18 : decode cX9_mayBegin 18 = .ok (.aload_n 0, 1) := by decide +kernel
theorem dX9_mayBegin_19 : decode cX9_mayBegin 19 = .ok (.getfield 13, 3) := by decide +kernel
theorem dX9_mayBegin_22 : decode cX9_mayBegin 22 = .ok (.bipush 6, 2) := by decide +kernel
theorem dX9_mayBegin_24 : decode cX9_mayBegin 24 = .ok (.aload_n 0, 1) := by decide +kernel
theorem dX9_mayBegin_25 : decode cX9_mayBegin 25 = .ok (.getfield 98, 3) := by decide +kernel
theorem dX9_mayBegin_28 : decode cX9_mayBegin 28 = .ok (.bipush 114, 2) := by decide +kernel
theorem dX9_mayBegin_30 : decode cX9_mayBegin 30 = .ok (.if_icmp .ne 7, 3) := by decide +kernel
theorem dX9_mayBegin_33 : decode cX9_mayBegin 33 = .ok (.iconst 0, 1) := by decide +kernel
theorem dX9_mayBegin_34 : decode cX9_mayBegin 34 = .ok (.goto 4, 3) := by decide +kernel
theorem dX9_mayBegin_37 : decode cX9_mayBegin 37 = .ok (.iconst 1, 1) := by decide +kernel
theorem dX9_mayBegin_38 : decode cX9_mayBegin 38 = .ok (.iadd, 1) := by decide +kernel
theorem dX9_mayBegin_39 : decode cX9_mayBegin 39 = .ok (.iaload, 1) := by decide +kernel
theorem dX9_mayBegin_40 : decode cX9_mayBegin 40 = .ok (.iconst 5, 1) := by decide +kernel
theorem dX9_mayBegin_41 : decode cX9_mayBegin 41 = .ok (.if_icmp .ge 7, 3) := by decide +kernel
