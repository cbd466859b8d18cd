theorem dX9_init_0 : decode cX9_init 0 = .ok (.aload_n 0, 1) := by decide +kernel
theorem dX9_init_1 : decode cX9_init 1 = .ok (.invokespecial 1, 3) := by decide +kernel
theorem dX9_init_4 : decode cX9_init 4 = .ok (.aload_n 0, 1) := by decide +kernel
theorem dX9_init_5 : decode cX9_init 5 = .ok (.iconst 3, 1) := by decide +kernel
theorem dX9_init_6 : decode cX9_init 6 = .ok (.putfield 7, 3) := by decide +kernel
theorem dX9_init_9 : decode cX9_init 9 = .ok (.aload_n 0, 1) := by decide +kernel
theorem dX9_init_10 : decode cX9_init 10 = .ok (.bipush 24, 2) := by decide +kernel
theorem dX9_init_12 : decode cX9_init 12 = .ok (.newarray .int, 2) := by decide +kernel
theorem dX9_init_14 : decode cX9_init 14 = .ok (.putfield 13, 3) := by decide +kernel
theorem dX9_init_17 : decode cX9_init 17 = .ok (.aload_n 0, 1) := by decide +kernel
theorem dX9_init_18 : decode cX9_init 18 = .ok (.bipush 24, 2) := by decide +kernel
theorem dX9_init_20 : decode cX9_init 20 = .ok (.newarray .int, 2) := by decide +kernel
theorem dX9_init_22 : decode cX9_init 22 = .ok (.putfield 17, 3) := by decide +kernel
theorem dX9_init_25 : decode cX9_init 25 = .ok (.aload_n 0, 1) := by decide +kernel
theorem dX9_init_26 : decode cX9_init 26 = .ok (.iconst 5, 1) := by decide +kernel
theorem dX9_init_27 : decode cX9_init 27 = .ok (.newarray .int, 2) := by decide +kernel
theorem dX9_init_29 : decode cX9_init 29 = .ok (.putfield 20, 3) := by decide +kernel
theorem dX9_init_32 : decode cX9_init 32 = .ok (.aload_n 0, 1) := by decide +kernel
theorem dX9_init_33 : decode cX9_init 33 = .ok (.sipush 150, 3) := by decide +kernel
theorem dX9_init_36 : decode cX9_init 36 = .ok (.newarray .int, 2) := by decide +kernel
theorem dX9_init_38 : decode cX9_init 38 = .ok (.putfield 23, 3) := by decide +kernel
theorem dX9_init_41 : decode cX9_init 41 = .ok (.aload_n 0, 1) := by decide +kernel
theorem dX9_init_42 : decode cX9_init 42 = .ok (.bipush 24, 2) := by decide +kernel
theorem dX9_init_44 : decode cX9_init 44 = .ok (.newarray .int, 2) := by decide +kernel
theorem dX9_init_46 : decode cX9_init 46 = .ok (.putfield 26, 3) := by decide +kernel
theorem dX9_init_49 : decode cX9_init 49 = .ok (.aload_n 0, 1) := by decide +kernel
theorem dX9_init_50 : decode cX9_init 50 = .ok (.bipush 24, 2) := by decide +kernel
theorem dX9_init_52 : decode cX9_init 52 = .ok (.newarray .int, 2) := by decide +kernel
theorem dX9_init_54 : decode cX9_init 54 = .ok (.putfield 29, 3) := by decide +kernel
theorem dX9_init_57 : decode cX9_init 57 = .ok (.aload_n 0, 1) := by decide +kernel
theorem dX9_init_58 : decode cX9_init 58 = .ok (.sipush 570, 3) := by decide +kernel
theorem dX9_init_61 : decode cX9_init 61 = .ok (.newarray .int, 2) := by decide +kernel
theorem dX9_init_63 : decode cX9_init 63 = .ok (.putfield 32, 3) := by decide +kernel
theorem dX9_init_66 : decode cX9_init 66 = .ok (.aload_n 0, 1) := by decide +kernel
theorem dX9_init_67 : decode cX9_init 67 = .ok (.bipush 116, 2) := by decide +kernel
theorem dX9_init_69 : decode cX9_init 69 = .ok (.newarray .int, 2) := by decide +kernel
theorem dX9_init_71 : decode cX9_init 71 = .ok (.putfield 35, 3) := by decide +kernel
theorem dX9_init_74 : decode cX9_init 74 = .ok (.aload_n 0, 1) := by decide +kernel
theorem dX9_init_75 : decode cX9_init 75 = .ok (.bipush 24, 2) := by decide +kernel
theorem dX9_init_77 : decode cX9_init 77 = .ok (.newarray .int, 2) := by decide +kernel
theorem dX9_init_79 : decode cX9_init 79 = .ok (.putfield 38, 3) := by decide +kernel
theorem dX9_init_82 : decode cX9_init 82 = .ok (.aload_n 0, 1) := by decide +kernel
theorem dX9_init_83 : decode cX9_init 83 = .ok (.bipush 24, 2) := by decide +kernel
theorem dX9_init_85 : decode cX9_init 85 = .ok (.newarray .int, 2) := by decide +kernel
theorem dX9_init_87 : decode cX9_init 87 = .ok (.putfield 41, 3) := by decide +kernel
theorem dX9_init_90 : decode cX9_init 90 = .ok (.aload_n 0, 1) := by decide +kernel
theorem dX9_init_91 : decode cX9_init 91 = .ok (.sipush 175, 3) := by decide +kernel
theorem dX9_init_94 : decode cX9_init 94 = .ok (.newarray .long, 2) := by decide +kernel
theorem dX9_init_96 : decode cX9_init 96 = .ok (.putfield 44, 3) := by decide +kernel
theorem dX9_init_99 : decode cX9_init 99 = .ok (.aload_n 0, 1) := by decide +kernel
theorem dX9_init_100 : decode cX9_init 100 = .ok (.sipush 175, 3) := by decide +kernel
theorem dX9_init_103 : decode cX9_init 103 = .ok (.newarray .int, 2) := by decide +kernel
theorem dX9_init_105 : decode cX9_init 105 = .ok (.putfield 48, 3) := by decide +kernel
theorem dX9_init_108 : decode cX9_init 108 = .ok (.aload_n 0, 1) := by decide +kernel
theorem dX9_init_109 : decode cX9_init 109 = .ok (.bipush 6, 2) := by decide +kernel
theorem dX9_init_111 : decode cX9_init 111 = .ok (.newarray .int, 2) := by decide +kernel
theorem dX9_init_113 : decode cX9_init 113 = .ok (.putfield 51, 3) := by decide +kernel
theorem dX9_init_116 : decode cX9_init 116 = .ok (.aload_n 0, 1) := by decide +kernel
theorem dX9_init_117 : decode cX9_init 117 = .ok (.sipush 175, 3) := by decide +kernel
theorem dX9_init_120 : decode cX9_init 120 = .ok (.newarray .long, 2) := by decide +kernel
theorem dX9_init_122 : decode cX9_init 122 = .ok (.putfield 54, 3) := by decide +kernel
theorem dX9_init_125 : decode cX9_init 125 = .ok (.aload_n 0, 1) := by decide +kernel
theorem dX9_init_126 : decode cX9_init 126 = .ok (.sipush 175, 3) := by decide +kernel
theorem dX9_init_129 : decode cX9_init 129 = .ok (.newarray .int, 2) := by decide +kernel
theorem dX9_init_131 : decode cX9_init 131 = .ok (.putfield 57, 3) := by decide +kernel
theorem dX9_init_134 : decode cX9_init 134 = .ok (.return_, 1) := by decide +kernel
theorem dX9_in_0 : decode cX9_in 0 = .ok (.iload_n 0, 1) := by decide +kernel
theorem dX9_in_1 : decode cX9_in 1 = .ok (.iload_n 1, 1) := by decide +kernel
theorem dX9_in_2 : decode cX9_in 2 = .ok (.if_icmp .lt 12, 3) := by decide +kernel
theorem dX9_in_5 : decode cX9_in 5 = .ok (.iload_n 0, 1) := by decide +kernel
theorem dX9_in_6 : decode cX9_in 6 = .ok (.iload_n 2, 1) := by decide +kernel
theorem dX9_in_7 : decode cX9_in 7 = .ok (.if_icmp .gt 7, 3) := by decide +kernel
theorem dX9_in_10 : decode cX9_in 10 = .ok (.iconst 1, 1) := by decide +kernel
theorem dX9_in_11 : decode cX9_in 11 = .ok (.goto 4, 3) := by decide +kernel
theorem dX9_in_14 : decode cX9_in 14 = .ok (.iconst 0, 1) := by decide +kernel
theorem dX9_in_15 : decode cX9_in 15 = .ok (.ireturn, 1) := by decide +kernel
theorem dX9_placeAt_0 : decode cX9_placeAt 0 = .ok (.bipush (-9), 2) := by decide +kernel
theorem dX9_placeAt_2 : decode cX9_placeAt 2 = .ok (.istore_n 2, 1) := by decide +kernel
theorem dX9_placeAt_3 : decode cX9_placeAt 3 = .ok (.iconst 0, 1) := by decide +kernel
theorem dX9_placeAt_4 : decode cX9_placeAt 4 = .ok (.istore_n 3, 1) := by decide +kernel
theorem dX9_placeAt_5 : decode cX9_placeAt 5 = .ok (.iload_n 3, 1) := by decide +kernel
theorem dX9_placeAt_6 : decode cX9_placeAt 6 = .ok (.aload_n 0, 1) := by decide +kernel
theorem dX9_placeAt_7 : decode cX9_placeAt 7 = .ok (.getfield 60, 3) := by decide +kernel
theorem dX9_placeAt_10 : decode cX9_placeAt 10 = .ok (.if_icmp .ge 25, 3) := by decide +kernel
theorem dX9_placeAt_13 : decode cX9_placeAt 13 = .ok (.aload_n 0, 1) := by decide +kernel
theorem dX9_placeAt_14 : decode cX9_placeAt 14 = .ok (.getfield 13, 3) := by decide +kernel
theorem dX9_placeAt_17 : decode cX9_placeAt 17 = .ok (.iload_n 3, 1) := by decide +kernel
theorem dX9_placeAt_18 : decode cX9_placeAt 18 = .ok (.iaload, 1) := by decide +kernel
theorem dX9_placeAt_19 : decode cX9_placeAt 19 = .ok (.iload_n 1, 1) := by decide +kernel
theorem dX9_placeAt_20 : decode cX9_placeAt 20 = .ok (.if_icmp .ne 7, 3) := by decide +kernel
theorem dX9_placeAt_23 : decode cX9_placeAt 23 = .ok (.iload_n 3, 1) := by decide +kernel
theorem dX9_placeAt_24 : decode cX9_placeAt 24 = .ok (.goto 4, 3) := by decide +kernel
theorem dX9_placeAt_27 : decode cX9_placeAt 27 = .ok (.iload_n 2, 1) := by decide +kernel
theorem dX9_placeAt_28 : decode cX9_placeAt 28 = .ok (.istore_n 2, 1) := by decide +kernel
theorem dX9_placeAt_29 : decode cX9_placeAt 29 = .ok (.iinc 3 1, 3) := by decide +kernel
theorem dX9_placeAt_32 : decode cX9_placeAt 32 = .ok (.goto (-27), 3) := by decide +kernel
theorem dX9_placeAt_35 : decode cX9_placeAt 35 = .ok (.iload_n 2, 1) := by decide +kernel
theorem dX9_placeAt_36 : decode cX9_placeAt 36 = .ok (.ireturn, 1) := by decide +kernel
theorem dX9_isWhere_0 : decode cX9_isWhere 0 = .ok (.iload_n 0, 1) := by decide +kernel
theorem dX9_isWhere_1 : decode cX9_isWhere 1 = .ok (.iconst 0, 1) := by decide +kernel
theorem dX9_isWhere_2 : decode cX9_isWhere 2 = .ok (.bipush 9, 2) := by decide +kernel
theorem dX9_isWhere_4 : decode cX9_isWhere 4 = .ok (.invokestatic 63, 3) := by decide +kernel
theorem dX9_isWhere_7 : decode cX9_isWhere 7 = .ok (.ifCond .eq 17, 3) := by decide +kernel
theorem dX9_isWhere_10 : decode cX9_isWhere 10 = .ok (.iload_n 1, 1) := by decide +kernel
theorem dX9_isWhere_11 : decode cX9_isWhere 11 = .ok (.iconst 0, 1) := by decide +kernel
theorem dX9_isWhere_12 : decode cX9_isWhere 12 = .ok (.bipush 9, 2) := by decide +kernel
theorem dX9_isWhere_14 : decode cX9_isWhere 14 = .ok (.invokestatic 63, 3) := by decide +kernel
theorem dX9_isWhere_17 : decode cX9_isWhere 17 = .ok (.ifCond .eq 7, 3) := by decide +kernel
theorem dX9_isWhere_20 : decode cX9_isWhere 20 = .ok (.iconst 1, 1) := by decide +kernel
theorem dX9_isWhere_21 : decode cX9_isWhere 21 = .ok (.goto 4, 3) := by decide +kernel
theorem dX9_isWhere_24 : decode cX9_isWhere 24 = .ok (.iconst 0, 1) := by decide +kernel
theorem dX9_isWhere_25 : decode cX9_isWhere 25 = .ok (.ireturn, 1) := by decide +kernel
theorem dX9_type_0 : decode cX9_type 0 = .ok (.iload_n 1, 1) := by decide +kernel
theorem dX9_type_1 : decode cX9_type 1 = .ok (.iconst 0, 1) := by decide +kernel
theorem dX9_type_2 : decode cX9_type 2 = .ok (.sipush 255, 3) := by decide +kernel
theorem dX9_type_5 : decode cX9_type 5 = .ok (.invokestatic 63, 3) := by decide +kernel
theorem dX9_type_8 : decode cX9_type 8 = .ok (.ifCond .ne 5, 3) := by decide +kernel
theorem dX9_type_11 : decode cX9_type 11 = .ok (.iconst (-1), 1) := by decide +kernel
theorem dX9_type_12 : decode cX9_type 12 = .ok (.ireturn, 1) := by decide +kernel
theorem dX9_type_13 : decode cX9_type 13 = .ok (.aload_n 0, 1) := by decide +kernel
theorem dX9_type_14 : decode cX9_type 14 = .ok (.getfield 67, 3) := by decide +kernel
theorem dX9_type_17 : decode cX9_type 17 = .ok (.sipush 150, 3) := by decide +kernel
theorem dX9_type_20 : decode cX9_type 20 = .ok (.if_icmp .ne 6, 3) := by decide +kernel
theorem dX9_type_23 : decode cX9_type 23 = .ok (.bipush (-3), 2) := by decide +kernel
theorem dX9_type_25 : decode cX9_type 25 = .ok (.ireturn, 1) := by decide +kernel
theorem dX9_type_26 : decode cX9_type 26 = .ok (.aload_n 0, 1) := by decide +kernel
theorem dX9_type_27 : decode cX9_type 27 = .ok (.getfield 23, 3) := by decide +kernel
theorem dX9_type_30 : decode cX9_type 30 = .ok (.aload_n 0, 1) := by decide +kernel
theorem dX9_type_31 : decode cX9_type 31 = .ok (.getfield 67, 3) := by decide +kernel
theorem dX9_type_34 : decode cX9_type 34 = .ok (.iload_n 1, 1) := by decide +kernel
theorem dX9_type_35 : decode cX9_type 35 = .ok (.iastore, 1) := by decide +kernel
theorem dX9_type_36 : decode cX9_type 36 = .ok (.aload_n 0, 1) := by decide +kernel
theorem dX9_type_37 : decode cX9_type 37 = .ok (.dup, 1) := by decide +kernel
theorem dX9_type_38 : decode cX9_type 38 = .ok (.getfield 67, 3) := by decide +kernel
theorem dX9_type_41 : decode cX9_type 41 = .ok (.iconst 1, 1) := by decide +kernel
theorem dX9_type_42 : decode cX9_type 42 = .ok (.iadd, 1) := by decide +kernel
theorem dX9_type_43 : decode cX9_type 43 = .ok (.putfield 67, 3) := by decide +kernel
theorem dX9_type_46 : decode cX9_type 46 = .ok (.aload_n 0, 1) := by decide +kernel
theorem dX9_type_47 : decode cX9_type 47 = .ok (.getfield 67, 3) := by decide +kernel
theorem dX9_type_50 : decode cX9_type 50 = .ok (.ireturn, 1) := by decide +kernel
theorem dX9_clear_0 : decode cX9_clear 0 = .ok (.aload_n 0, 1) := by decide +kernel
theorem dX9_clear_1 : decode cX9_clear 1 = .ok (.getfield 67, 3) := by decide +kernel
theorem dX9_clear_4 : decode cX9_clear 4 = .ok (.istore_n 1, 1) := by decide +kernel
theorem dX9_clear_5 : decode cX9_clear 5 = .ok (.aload_n 0, 1) := by decide +kernel
theorem dX9_clear_6 : decode cX9_clear 6 = .ok (.iconst 0, 1) := by decide +kernel
theorem dX9_clear_7 : decode cX9_clear 7 = .ok (.putfield 67, 3) := by decide +kernel
theorem dX9_clear_10 : decode cX9_clear 10 = .ok (.iload_n 1, 1) := by decide +kernel
theorem dX9_clear_11 : decode cX9_clear 11 = .ok (.ireturn, 1) := by decide +kernel
theorem dX9_here_0 : decode cX9_here 0 = .ok (.aload_n 0, 1) := by decide +kernel
theorem dX9_here_1 : decode cX9_here 1 = .ok (.getfield 70, 3) := by decide +kernel
theorem dX9_here_4 : decode cX9_here 4 = .ok (.aload_n 0, 1) := by decide +kernel
theorem dX9_here_5 : decode cX9_here 5 = .ok (.getfield 67, 3) := by decide +kernel
theorem dX9_here_8 : decode cX9_here 8 = .ok (.if_icmp .ge 15, 3) := by decide +kernel
theorem dX9_here_11 : decode cX9_here 11 = .ok (.aload_n 0, 1) := by decide +kernel
theorem dX9_here_12 : decode cX9_here 12 = .ok (.getfield 23, 3) := by decide +kernel
theorem dX9_here_15 : decode cX9_here 15 = .ok (.aload_n 0, 1) := by decide +kernel
theorem dX9_here_16 : decode cX9_here 16 = .ok (.getfield 70, 3) := by decide +kernel
theorem dX9_here_19 : decode cX9_here 19 = .ok (.iaload, 1) := by decide +kernel
theorem dX9_here_20 : decode cX9_here 20 = .ok (.goto 5, 3) := by decide +kernel
theorem dX9_here_23 : decode cX9_here 23 = .ok (.bipush (-9), 2) := by decide +kernel
theorem dX9_here_25 : decode cX9_here 25 = .ok (.ireturn, 1) := by decide +kernel
theorem dX9_skip_0 : decode cX9_skip 0 = .ok (.aload_n 0, 1) := by decide +kernel
theorem dX9_skip_1 : decode cX9_skip 1 = .ok (.invokevirtual 73, 3) := by decide +kernel
theorem dX9_skip_4 : decode cX9_skip 4 = .ok (.bipush 32, 2) := by decide +kernel
theorem dX9_skip_6 : decode cX9_skip 6 = .ok (.if_icmp .ne 16, 3) := by decide +kernel
theorem dX9_skip_9 : decode cX9_skip 9 = .ok (.aload_n 0, 1) := by decide +kernel
theorem dX9_skip_10 : decode cX9_skip 10 = .ok (.dup, 1) := by decide +kernel
theorem dX9_skip_11 : decode cX9_skip 11 = .ok (.getfield 70, 3) := by decide +kernel
theorem dX9_skip_14 : decode cX9_skip 14 = .ok (.iconst 1, 1) := by decide +kernel
theorem dX9_skip_15 : decode cX9_skip 15 = .ok (.iadd, 1) := by decide +kernel
theorem dX9_skip_16 : decode cX9_skip 16 = .ok (.putfield 70, 3) := by decide +kernel
theorem dX9_skip_19 : decode cX9_skip 19 = .ok (.goto (-19), 3) := by decide +kernel
theorem dX9_skip_22 : decode cX9_skip 22 = .ok (.return_, 1) := by decide +kernel
theorem dX9_number_0 : decode cX9_number 0 = .ok (.aload_n 0, 1) := by decide +kernel
theorem dX9_number_1 : decode cX9_number 1 = .ok (.invokevirtual 77, 3) := by decide +kernel
theorem dX9_number_4 : decode cX9_number 4 = .ok (.iconst 0, 1) := by decide +kernel
theorem dX9_number_5 : decode cX9_number 5 = .ok (.istore_n 3, 1) := by decide +kernel
theorem dX9_number_6 : decode cX9_number 6 = .ok (.iconst 0, 1) := by decide +kernel
theorem dX9_number_7 : decode cX9_number 7 = .ok (.istore 4, 2) := by decide +kernel
theorem dX9_number_9 : decode cX9_number 9 = .ok (.aload_n 0, 1) := by decide +kernel
theorem dX9_number_10 : decode cX9_number 10 = .ok (.getfield 70, 3) := by decide +kernel
theorem dX9_number_13 : decode cX9_number 13 = .ok (.iload_n 3, 1) := by decide +kernel
theorem dX9_number_14 : decode cX9_number 14 = .ok (.iadd, 1) := by decide +kernel
theorem dX9_number_15 : decode cX9_number 15 = .ok (.aload_n 0, 1) := by decide +kernel
theorem dX9_number_16 : decode cX9_number 16 = .ok (.getfield 67, 3) := by decide +kernel
theorem dX9_number_19 : decode cX9_number 19 = .ok (.if_icmp .ge 62, 3) := by decide +kernel
theorem dX9_number_22 : decode cX9_number 22 = .ok (.aload_n 0, 1) := by decide +kernel
theorem dX9_number_23 : decode cX9_number 23 = .ok (.getfield 23, 3) := by decide +kernel
theorem dX9_number_26 : decode cX9_number 26 = .ok (.aload_n 0, 1) := by decide +kernel
theorem dX9_number_27 : decode cX9_number 27 = .ok (.getfield 70, 3) := by decide +kernel
theorem dX9_number_30 : decode cX9_number 30 = .ok (.iload_n 3, 1) := by decide +kernel
theorem dX9_number_31 : decode cX9_number 31 = .ok (.iadd, 1) := by decide +kernel
theorem dX9_number_32 : decode cX9_number 32 = .ok (.iaload, 1) := by decide +kernel
theorem dX9_number_33 : decode cX9_number 33 = .ok (.bipush 48, 2) := by decide +kernel
theorem dX9_number_35 : decode cX9_number 35 = .ok (.bipush 57, 2) := by decide +kernel
theorem dX9_number_37 : decode cX9_number 37 = .ok (.invokestatic 63, 3) := by decide +kernel
theorem dX9_number_40 : decode cX9_number 40 = .ok (.ifCond .eq 41, 3) := by decide +kernel
theorem dX9_number_43 : decode cX9_number 43 = .ok (.iload_n 3, 1) := by decide +kernel
theorem dX9_number_44 : decode cX9_number 44 = .ok (.iconst 3, 1) := by decide +kernel
theorem dX9_number_45 : decode cX9_number 45 = .ok (.if_icmp .ge 26, 3) := by decide +kernel
theorem dX9_number_48 : decode cX9_number 48 = .ok (.bipush 10, 2) := by decide +kernel
theorem dX9_number_50 : decode cX9_number 50 = .ok (.iload 4, 2) := by decide +kernel
theorem dX9_number_52 : decode cX9_number 52 = .ok (.imul, 1) := by decide +kernel
theorem dX9_number_53 : decode cX9_number 53 = .ok (.aload_n 0, 1) := by decide +kernel
theorem dX9_number_54 : decode cX9_number 54 = .ok (.getfield 23, 3) := by decide +kernel
theorem dX9_number_57 : decode cX9_number 57 = .ok (.aload_n 0, 1) := by decide +kernel
theorem dX9_number_58 : decode cX9_number 58 = .ok (.getfield 70, 3) := by decide +kernel
theorem dX9_number_61 : decode cX9_number 61 = .ok (.iload_n 3, 1) := by decide +kernel
theorem dX9_number_62 : decode cX9_number 62 = .ok (.iadd, 1) := by decide +kernel
theorem dX9_number_63 : decode cX9_number 63 = .ok (.iaload, 1) := by decide +kernel
theorem dX9_number_64 : decode cX9_number 64 = .ok (.iadd, 1) := by decide +kernel
theorem dX9_number_65 : decode cX9_number 65 = .ok (.bipush 48, 2) := by decide +kernel
theorem dX9_number_67 : decode cX9_number 67 = .ok (.isub, 1) := by decide +kernel
theorem dX9_number_68 : decode cX9_number 68 = .ok (.goto 5, 3) := by decide +kernel
theorem dX9_number_71 : decode cX9_number 71 = .ok (.iload 4, 2) := by decide +kernel
theorem dX9_number_73 : decode cX9_number 73 = .ok (.istore 4, 2) := by decide +kernel
theorem dX9_number_75 : decode cX9_number 75 = .ok (.iinc 3 1, 3) := by decide +kernel
theorem dX9_number_78 : decode cX9_number 78 = .ok (.goto (-69), 3) := by decide +kernel
theorem dX9_number_81 : decode cX9_number 81 = .ok (.iload_n 3, 1) := by decide +kernel
theorem dX9_number_82 : decode cX9_number 82 = .ok (.iconst 1, 1) := by decide +kernel
theorem dX9_number_83 : decode cX9_number 83 = .ok (.iconst 3, 1) := by decide +kernel
theorem dX9_number_84 : decode cX9_number 84 = .ok (.invokestatic 63, 3) := by decide +kernel
theorem dX9_number_87 : decode cX9_number 87 = .ok (.ifCond .eq 27, 3) := by decide +kernel
theorem dX9_number_90 : decode cX9_number 90 = .ok (.iload_n 3, 1) := by decide +kernel
theorem dX9_number_91 : decode cX9_number 91 = .ok (.iconst 1, 1) := by decide +kernel
theorem dX9_number_92 : decode cX9_number 92 = .ok (.if_icmp .le 12, 3) := by decide +kernel
theorem dX9_number_95 : decode cX9_number 95 = .ok (.aload_n 0, 1) := by decide +kernel
theorem dX9_number_96 : decode cX9_number 96 = .ok (.invokevirtual 73, 3) := by decide +kernel
theorem dX9_number_99 : decode cX9_number 99 = .ok (.bipush 48, 2) := by decide +kernel
theorem dX9_number_101 : decode cX9_number 101 = .ok (.if_icmp .eq 13, 3) := by decide +kernel
theorem dX9_number_104 : decode cX9_number 104 = .ok (.iload 4, 2) := by decide +kernel
theorem dX9_number_106 : decode cX9_number 106 = .ok (.iload_n 1, 1) := by decide +kernel
theorem dX9_number_107 : decode cX9_number 107 = .ok (.iload_n 2, 1) := by decide +kernel
theorem dX9_number_108 : decode cX9_number 108 = .ok (.invokestatic 63, 3) := by decide +kernel
theorem dX9_number_111 : decode cX9_number 111 = .ok (.ifCond .ne 5, 3) := by decide +kernel
theorem dX9_number_114 : decode cX9_number 114 = .ok (.iconst 0, 1) := by decide +kernel
theorem dX9_number_115 : decode cX9_number 115 = .ok (.ireturn, 1) := by decide +kernel
theorem dX9_number_116 : decode cX9_number 116 = .ok (.aload_n 0, 1) := by decide +kernel
theorem dX9_number_117 : decode cX9_number 117 = .ok (.iload 4, 2) := by decide +kernel
theorem dX9_number_119 : decode cX9_number 119 = .ok (.putfield 80, 3) := by decide +kernel
theorem dX9_number_122 : decode cX9_number 122 = .ok (.aload_n 0, 1) := by decide +kernel
theorem dX9_number_123 : decode cX9_number 123 = .ok (.dup, 1) := by decide +kernel
theorem dX9_number_124 : decode cX9_number 124 = .ok (.getfield 70, 3) := by decide +kernel
theorem dX9_number_127 : decode cX9_number 127 = .ok (.iload_n 3, 1) := by decide +kernel
theorem dX9_number_128 : decode cX9_number 128 = .ok (.iadd, 1) := by decide +kernel
theorem dX9_number_129 : decode cX9_number 129 = .ok (.putfield 70, 3) := by decide +kernel
theorem dX9_number_132 : decode cX9_number 132 = .ok (.iconst 1, 1) := by decide +kernel
theorem dX9_number_133 : decode cX9_number 133 = .ok (.ireturn, 1) := by decide +kernel
theorem dX9_ends_0 : decode cX9_ends 0 = .ok (.aload_n 0, 1) := by decide +kernel
theorem dX9_ends_1 : decode cX9_ends 1 = .ok (.invokevirtual 77, 3) := by decide +kernel
theorem dX9_ends_4 : decode cX9_ends 4 = .ok (.aload_n 0, 1) := by decide +kernel
theorem dX9_ends_5 : decode cX9_ends 5 = .ok (.invokevirtual 73, 3) := by decide +kernel
theorem dX9_ends_8 : decode cX9_ends 8 = .ok (.bipush 59, 2) := by decide +kernel
theorem dX9_ends_10 : decode cX9_ends 10 = .ok (.if_icmp .eq 5, 3) := by decide +kernel
theorem dX9_ends_13 : decode cX9_ends 13 = .ok (.iconst 0, 1) := by decide +kernel
theorem dX9_ends_14 : decode cX9_ends 14 = .ok (.ireturn, 1) := by decide +kernel
theorem dX9_ends_15 : decode cX9_ends 15 = .ok (.aload_n 0, 1) := by decide +kernel
theorem dX9_ends_16 : decode cX9_ends 16 = .ok (.dup, 1) := by decide +kernel
theorem dX9_ends_17 : decode cX9_ends 17 = .ok (.getfield 70, 3) := by decide +kernel
theorem dX9_ends_20 : decode cX9_ends 20 = .ok (.iconst 1, 1) := by decide +kernel
theorem dX9_ends_21 : decode cX9_ends 21 = .ok (.iadd, 1) := by decide +kernel
theorem dX9_ends_22 : decode cX9_ends 22 = .ok (.putfield 70, 3) := by decide +kernel
theorem dX9_ends_25 : decode cX9_ends 25 = .ok (.iconst 1, 1) := by decide +kernel
theorem dX9_ends_26 : decode cX9_ends 26 = .ok (.ireturn, 1) := by decide +kernel
theorem dX9_isTold_0 : decode cX9_isTold 0 = .ok (.iconst 0, 1) := by decide +kernel
theorem dX9_isTold_1 : decode cX9_isTold 1 = .ok (.istore_n 2, 1) := by decide +kernel
theorem dX9_isTold_2 : decode cX9_isTold 2 = .ok (.iconst 0, 1) := by decide +kernel
theorem dX9_isTold_3 : decode cX9_isTold 3 = .ok (.istore_n 3, 1) := by decide +kernel
theorem dX9_isTold_4 : decode cX9_isTold 4 = .ok (.iload_n 3, 1) := by decide +kernel
theorem dX9_isTold_5 : decode cX9_isTold 5 = .ok (.aload_n 0, 1) := by decide +kernel
theorem dX9_isTold_6 : decode cX9_isTold 6 = .ok (.getfield 83, 3) := by decide +kernel
theorem dX9_isTold_9 : decode cX9_isTold 9 = .ok (.if_icmp .ge 29, 3) := by decide +kernel
theorem dX9_isTold_12 : decode cX9_isTold 12 = .ok (.iload_n 2, 1) := by decide +kernel
theorem dX9_isTold_13 : decode cX9_isTold 13 = .ok (.ifCond .ne 13, 3) := by decide +kernel
theorem dX9_isTold_16 : decode cX9_isTold 16 = .ok (.aload_n 0, 1) := by decide +kernel
theorem dX9_isTold_17 : decode cX9_isTold 17 = .ok (.getfield 26, 3) := by decide +kernel
theorem dX9_isTold_20 : decode cX9_isTold 20 = .ok (.iload_n 3, 1) := by decide +kernel
theorem dX9_isTold_21 : decode cX9_isTold 21 = .ok (.iaload, 1) := by decide +kernel
theorem dX9_isTold_22 : decode cX9_isTold 22 = .ok (.iload_n 1, 1) := by decide +kernel
theorem dX9_isTold_23 : decode cX9_isTold 23 = .ok (.if_icmp .ne 7, 3) := by decide +kernel
theorem dX9_isTold_26 : decode cX9_isTold 26 = .ok (.iconst 1, 1) := by decide +kernel
theorem dX9_isTold_27 : decode cX9_isTold 27 = .ok (.goto 4, 3) := by decide +kernel
theorem dX9_isTold_30 : decode cX9_isTold 30 = .ok (.iconst 0, 1) := by decide +kernel
theorem dX9_isTold_31 : decode cX9_isTold 31 = .ok (.istore_n 2, 1) := by decide +kernel
theorem dX9_isTold_32 : decode cX9_isTold 32 = .ok (.iinc 3 1, 3) := by decide +kernel
theorem dX9_isTold_35 : decode cX9_isTold 35 = .ok (.goto (-31), 3) := by decide +kernel
theorem dX9_isTold_38 : decode cX9_isTold 38 = .ok (.iload_n 2, 1) := by decide +kernel
theorem dX9_isTold_39 : decode cX9_isTold 39 = .ok (.ireturn, 1) := by decide +kernel
theorem dX9_readsPlace_0 : decode cX9_readsPlace 0 = .ok (.aload_n 0, 1) := by decide +kernel
theorem dX9_readsPlace_1 : decode cX9_readsPlace 1 = .ok (.iconst 0, 1) := by decide +kernel
theorem dX9_readsPlace_2 : decode cX9_readsPlace 2 = .ok (.bipush 9, 2) := by decide +kernel
theorem dX9_readsPlace_4 : decode cX9_readsPlace 4 = .ok (.invokevirtual 86, 3) := by decide +kernel
theorem dX9_readsPlace_7 : decode cX9_readsPlace 7 = .ok (.ifCond .ne 5, 3) := by decide +kernel
theorem dX9_readsPlace_10 : decode cX9_readsPlace 10 = .ok (.iconst 0, 1) := by decide +kernel
theorem dX9_readsPlace_11 : decode cX9_readsPlace 11 = .ok (.ireturn, 1) := by decide +kernel
theorem dX9_readsPlace_12 : decode cX9_readsPlace 12 = .ok (.aload_n 0, 1) := by decide +kernel
theorem dX9_readsPlace_13 : decode cX9_readsPlace 13 = .ok (.getfield 80, 3) := by decide +kernel
theorem dX9_readsPlace_16 : decode cX9_readsPlace 16 = .ok (.istore_n 1, 1) := by decide +kernel
theorem dX9_readsPlace_17 : decode cX9_readsPlace 17 = .ok (.aload_n 0, 1) := by decide +kernel
theorem dX9_readsPlace_18 : decode cX9_readsPlace 18 = .ok (.invokevirtual 77, 3) := by decide +kernel
theorem dX9_readsPlace_21 : decode cX9_readsPlace 21 = .ok (.aload_n 0, 1) := by decide +kernel
theorem dX9_readsPlace_22 : decode cX9_readsPlace 22 = .ok (.getfield 70, 3) := by decide +kernel
theorem dX9_readsPlace_25 : decode cX9_readsPlace 25 = .ok (.istore_n 2, 1) := by decide +kernel
theorem dX9_readsPlace_26 : decode cX9_readsPlace 26 = .ok (.aload_n 0, 1) := by decide +kernel
theorem dX9_readsPlace_27 : decode cX9_readsPlace 27 = .ok (.iconst 0, 1) := by decide +kernel
theorem dX9_readsPlace_28 : decode cX9_readsPlace 28 = .ok (.bipush 9, 2) := by decide +kernel
theorem dX9_readsPlace_30 : decode cX9_readsPlace 30 = .ok (.invokevirtual 86, 3) := by decide +kernel
theorem dX9_readsPlace_33 : decode cX9_readsPlace 33 = .ok (.ifCond .ne 5, 3) := by decide +kernel
theorem dX9_readsPlace_36 : decode cX9_readsPlace 36 = .ok (.iconst 0, 1) := by decide +kernel
theorem dX9_readsPlace_37 : decode cX9_readsPlace 37 = .ok (.ireturn, 1) := by decide +kernel
theorem dX9_readsPlace_38 : decode cX9_readsPlace 38 = .ok (.bipush 10, 2) := by decide +kernel
theorem dX9_readsPlace_40 : decode cX9_readsPlace 40 = .ok (.iload_n 1, 1) := by decide +kernel
theorem dX9_readsPlace_41 : decode cX9_readsPlace 41 = .ok (.imul, 1) := by decide +kernel
theorem dX9_readsPlace_42 : decode cX9_readsPlace 42 = .ok (.aload_n 0, 1) := by decide +kernel
theorem dX9_readsPlace_43 : decode cX9_readsPlace 43 = .ok (.getfield 80, 3) := by decide +kernel
theorem dX9_readsPlace_46 : decode cX9_readsPlace 46 = .ok (.iadd, 1) := by decide +kernel
theorem dX9_readsPlace_47 : decode cX9_readsPlace 47 = .ok (.istore_n 3, 1) := by decide +kernel
theorem dX9_readsPlace_48 : decode cX9_readsPlace 48 = .ok (.aload_n 0, 1) := by decide +kernel
theorem dX9_readsPlace_49 : decode cX9_readsPlace 49 = .ok (.iload_n 3, 1) := by decide +kernel
theorem dX9_readsPlace_50 : decode cX9_readsPlace 50 = .ok (.invokevirtual 90, 3) := by decide +kernel
theorem dX9_readsPlace_53 : decode cX9_readsPlace 53 = .ok (.ifCond .eq 10, 3) := by decide +kernel
theorem dX9_readsPlace_56 : decode cX9_readsPlace 56 = .ok (.aload_n 0, 1) := by decide +kernel
theorem dX9_readsPlace_57 : decode cX9_readsPlace 57 = .ok (.iload_n 2, 1) := by decide +kernel
theorem dX9_readsPlace_58 : decode cX9_readsPlace 58 = .ok (.putfield 70, 3) := by decide +kernel
theorem dX9_readsPlace_61 : decode cX9_readsPlace 61 = .ok (.iconst 0, 1) := by decide +kernel
theorem dX9_readsPlace_62 : decode cX9_readsPlace 62 = .ok (.ireturn, 1) := by decide +kernel
theorem dX9_readsPlace_63 : decode cX9_readsPlace 63 = .ok (.aload_n 0, 1) := by decide +kernel
theorem dX9_readsPlace_64 : decode cX9_readsPlace 64 = .ok (.iconst 0, 1) := by decide +kernel
theorem dX9_readsPlace_65 : decode cX9_readsPlace 65 = .ok (.sipush 999, 3) := by decide +kernel
theorem dX9_readsPlace_68 : decode cX9_readsPlace 68 = .ok (.invokevirtual 86, 3) := by decide +kernel
theorem dX9_readsPlace_71 : decode cX9_readsPlace 71 = .ok (.ifCond .ne 5, 3) := by decide +kernel
theorem dX9_readsPlace_74 : decode cX9_readsPlace 74 = .ok (.iconst 0, 1) := by decide +kernel
theorem dX9_readsPlace_75 : decode cX9_readsPlace 75 = .ok (.ireturn, 1) := by decide +kernel
theorem dX9_readsPlace_76 : decode cX9_readsPlace 76 = .ok (.aload_n 0, 1) := by decide +kernel
theorem dX9_readsPlace_77 : decode cX9_readsPlace 77 = .ok (.getfield 26, 3) := by decide +kernel
theorem dX9_readsPlace_80 : decode cX9_readsPlace 80 = .ok (.aload_n 0, 1) := by decide +kernel
theorem dX9_readsPlace_81 : decode cX9_readsPlace 81 = .ok (.getfield 83, 3) := by decide +kernel
theorem dX9_readsPlace_84 : decode cX9_readsPlace 84 = .ok (.iload_n 3, 1) := by decide +kernel
theorem dX9_readsPlace_85 : decode cX9_readsPlace 85 = .ok (.iastore, 1) := by decide +kernel
theorem dX9_readsPlace_86 : decode cX9_readsPlace 86 = .ok (.aload_n 0, 1) := by decide +kernel
theorem dX9_readsPlace_87 : decode cX9_readsPlace 87 = .ok (.getfield 29, 3) := by decide +kernel
theorem dX9_readsPlace_90 : decode cX9_readsPlace 90 = .ok (.aload_n 0, 1) := by decide +kernel
theorem dX9_readsPlace_91 : decode cX9_readsPlace 91 = .ok (.getfield 83, 3) := by decide +kernel
theorem dX9_readsPlace_94 : decode cX9_readsPlace 94 = .ok (.aload_n 0, 1) := by decide +kernel
theorem dX9_readsPlace_95 : decode cX9_readsPlace 95 = .ok (.getfield 80, 3) := by decide +kernel
theorem dX9_readsPlace_98 : decode cX9_readsPlace 98 = .ok (.iastore, 1) := by decide +kernel
theorem dX9_readsPlace_99 : decode cX9_readsPlace 99 = .ok (.aload_n 0, 1) := by decide +kernel
theorem dX9_readsPlace_100 : decode cX9_readsPlace 100 = .ok (.dup, 1) := by decide +kernel
theorem dX9_readsPlace_101 : decode cX9_readsPlace 101 = .ok (.getfield 83, 3) := by decide +kernel
theorem dX9_readsPlace_104 : decode cX9_readsPlace 104 = .ok (.iconst 1, 1) := by decide +kernel
theorem dX9_readsPlace_105 : decode cX9_readsPlace 105 = .ok (.iadd, 1) := by decide +kernel
theorem dX9_readsPlace_106 : decode cX9_readsPlace 106 = .ok (.putfield 83, 3) := by decide +kernel
theorem dX9_readsPlace_109 : decode cX9_readsPlace 109 = .ok (.aload_n 0, 1) := by decide +kernel
theorem dX9_readsPlace_110 : decode cX9_readsPlace 110 = .ok (.invokevirtual 94, 3) := by decide +kernel
theorem dX9_readsPlace_113 : decode cX9_readsPlace 113 = .ok (.ireturn, 1) := by decide +kernel
theorem dX9_readsAsked_0 : decode cX9_readsAsked 0 = .ok (.aload_n 0, 1) := by decide +kernel
theorem dX9_readsAsked_1 : decode cX9_readsAsked 1 = .ok (.iconst 1, 1) := by decide +kernel
theorem dX9_readsAsked_2 : decode cX9_readsAsked 2 = .ok (.bipush 6, 2) := by decide +kernel
theorem dX9_readsAsked_4 : decode cX9_readsAsked 4 = .ok (.invokevirtual 86, 3) := by decide +kernel
theorem dX9_readsAsked_7 : decode cX9_readsAsked 7 = .ok (.ifCond .ne 5, 3) := by decide +kernel
theorem dX9_readsAsked_10 : decode cX9_readsAsked 10 = .ok (.iconst 0, 1) := by decide +kernel
theorem dX9_readsAsked_11 : decode cX9_readsAsked 11 = .ok (.ireturn, 1) := by decide +kernel
theorem dX9_readsAsked_12 : decode cX9_readsAsked 12 = .ok (.aload_n 0, 1) := by decide +kernel
theorem dX9_readsAsked_13 : decode cX9_readsAsked 13 = .ok (.aload_n 0, 1) := by decide +kernel
theorem dX9_readsAsked_14 : decode cX9_readsAsked 14 = .ok (.getfield 80, 3) := by decide +kernel
theorem dX9_readsAsked_17 : decode cX9_readsAsked 17 = .ok (.putfield 98, 3) := by decide +kernel
theorem dX9_readsAsked_20 : decode cX9_readsAsked 20 = .ok (.aload_n 0, 1) := by decide +kernel
theorem dX9_readsAsked_21 : decode cX9_readsAsked 21 = .ok (.invokevirtual 94, 3) := by decide +kernel
theorem dX9_readsAsked_24 : decode cX9_readsAsked 24 = .ok (.ireturn, 1) := by decide +kernel
theorem dX9_readsCost_0 : decode cX9_readsCost 0 = .ok (.aload_n 0, 1) := by decide +kernel
theorem dX9_readsCost_1 : decode cX9_readsCost 1 = .ok (.iconst 0, 1) := by decide +kernel
theorem dX9_readsCost_2 : decode cX9_readsCost 2 = .ok (.sipush 999, 3) := by decide +kernel
theorem dX9_readsCost_5 : decode cX9_readsCost 5 = .ok (.invokevirtual 86, 3) := by decide +kernel
theorem dX9_readsCost_8 : decode cX9_readsCost 8 = .ok (.ifCond .ne 5, 3) := by decide +kernel
theorem dX9_readsCost_11 : decode cX9_readsCost 11 = .ok (.iconst 0, 1) := by decide +kernel
theorem dX9_readsCost_12 : decode cX9_readsCost 12 = .ok (.ireturn, 1) := by decide +kernel
theorem dX9_readsCost_13 : decode cX9_readsCost 13 = .ok (.aload_n 0, 1) := by decide +kernel
theorem dX9_readsCost_14 : decode cX9_readsCost 14 = .ok (.aload_n 0, 1) := by decide +kernel
theorem dX9_readsCost_15 : decode cX9_readsCost 15 = .ok (.getfield 80, 3) := by decide +kernel
theorem dX9_readsCost_18 : decode cX9_readsCost 18 = .ok (.putfield 101, 3) := by decide +kernel
theorem dX9_readsCost_21 : decode cX9_readsCost 21 = .ok (.aload_n 0, 1) := by decide +kernel
theorem dX9_readsCost_22 : decode cX9_readsCost 22 = .ok (.invokevirtual 94, 3) := by decide +kernel
theorem dX9_readsCost_25 : decode cX9_readsCost 25 = .ok (.ireturn, 1) := by decide +kernel
theorem dX9_readsItem_0 : decode cX9_readsItem 0 = .ok (.aload_n 0, 1) := by decide +kernel
theorem dX9_readsItem_1 : decode cX9_readsItem 1 = .ok (.invokevirtual 73, 3) := by decide +kernel
theorem dX9_readsItem_4 : decode cX9_readsItem 4 = .ok (.istore_n 1, 1) := by decide +kernel
theorem dX9_readsItem_5 : decode cX9_readsItem 5 = .ok (.aload_n 0, 1) := by decide +kernel
theorem dX9_readsItem_6 : decode cX9_readsItem 6 = .ok (.getfield 70, 3) := by decide +kernel
theorem dX9_readsItem_9 : decode cX9_readsItem 9 = .ok (.iconst 1, 1) := by decide +kernel
theorem dX9_readsItem_10 : decode cX9_readsItem 10 = .ok (.iadd, 1) := by decide +kernel
theorem dX9_readsItem_11 : decode cX9_readsItem 11 = .ok (.aload_n 0, 1) := by decide +kernel
theorem dX9_readsItem_12 : decode cX9_readsItem 12 = .ok (.getfield 67, 3) := by decide +kernel
theorem dX9_readsItem_15 : decode cX9_readsItem 15 = .ok (.if_icmp .ge 24, 3) := by decide +kernel
theorem dX9_readsItem_18 : decode cX9_readsItem 18 = .ok (.aload_n 0, 1) := by decide +kernel
theorem dX9_readsItem_19 : decode cX9_readsItem 19 = .ok (.getfield 23, 3) := by decide +kernel
theorem dX9_readsItem_22 : decode cX9_readsItem 22 = .ok (.aload_n 0, 1) := by decide +kernel
theorem dX9_readsItem_23 : decode cX9_readsItem 23 = .ok (.getfield 70, 3) := by decide +kernel
theorem dX9_readsItem_26 : decode cX9_readsItem 26 = .ok (.iconst 1, 1) := by decide +kernel
theorem dX9_readsItem_27 : decode cX9_readsItem 27 = .ok (.iadd, 1) := by decide +kernel
theorem dX9_readsItem_28 : decode cX9_readsItem 28 = .ok (.iaload, 1) := by decide +kernel
theorem dX9_readsItem_29 : decode cX9_readsItem 29 = .ok (.bipush 97, 2) := by decide +kernel
theorem dX9_readsItem_31 : decode cX9_readsItem 31 = .ok (.bipush 122, 2) := by decide +kernel
theorem dX9_readsItem_33 : decode cX9_readsItem 33 = .ok (.invokestatic 63, 3) := by decide +kernel
theorem dX9_readsItem_36 : decode cX9_readsItem 36 = .ok (.ifCond .ne 7, 3) := by decide +kernel
theorem dX9_readsItem_39 : decode cX9_readsItem 39 = .ok (.iconst 1, 1) := by decide +kernel
theorem dX9_readsItem_40 : decode cX9_readsItem 40 = .ok (.goto 4, 3) := by decide +kernel
theorem dX9_readsItem_43 : decode cX9_readsItem 43 = .ok (.iconst 0, 1) := by decide +kernel
theorem dX9_readsItem_44 : decode cX9_readsItem 44 = .ok (.istore_n 2, 1) := by decide +kernel
theorem dX9_readsItem_45 : decode cX9_readsItem 45 = .ok (.iload_n 1, 1) := by decide +kernel
theorem dX9_readsItem_46 : decode cX9_readsItem 46 = .ok (.bipush 112, 2) := by decide +kernel
theorem dX9_readsItem_48 : decode cX9_readsItem 48 = .ok (.if_icmp .ne 20, 3) := by decide +kernel
theorem dX9_readsItem_51 : decode cX9_readsItem 51 = .ok (.aload_n 0, 1) := by decide +kernel
theorem dX9_readsItem_52 : decode cX9_readsItem 52 = .ok (.getfield 83, 3) := by decide +kernel
theorem dX9_readsItem_55 : decode cX9_readsItem 55 = .ok (.bipush 24, 2) := by decide +kernel
theorem dX9_readsItem_57 : decode cX9_readsItem 57 = .ok (.if_icmp .ge 7, 3) := by decide +kernel
theorem dX9_readsItem_60 : decode cX9_readsItem 60 = .ok (.iconst 1, 1) := by decide +kernel
theorem dX9_readsItem_61 : decode cX9_readsItem 61 = .ok (.goto 48, 3) := by decide +kernel
theorem dX9_readsItem_64 : decode cX9_readsItem 64 = .ok (.iconst 0, 1) := by decide +kernel
theorem dX9_readsItem_65 : decode cX9_readsItem 65 = .ok (.goto 44, 3) := by decide +kernel
theorem dX9_readsItem_68 : decode cX9_readsItem 68 = .ok (.iload_n 1, 1) := by decide +kernel
theorem dX9_readsItem_69 : decode cX9_readsItem 69 = .ok (.bipush 107, 2) := by decide +kernel
theorem dX9_readsItem_71 : decode cX9_readsItem 71 = .ok (.if_icmp .ne 18, 3) := by decide +kernel
theorem dX9_readsItem_74 : decode cX9_readsItem 74 = .ok (.aload_n 0, 1) := by decide +kernel
theorem dX9_readsItem_75 : decode cX9_readsItem 75 = .ok (.getfield 98, 3) := by decide +kernel
theorem dX9_readsItem_78 : decode cX9_readsItem 78 = .ok (.ifCond .ne 7, 3) := by decide +kernel
theorem dX9_readsItem_81 : decode cX9_readsItem 81 = .ok (.iconst 1, 1) := by decide +kernel
theorem dX9_readsItem_82 : decode cX9_readsItem 82 = .ok (.goto 27, 3) := by decide +kernel
theorem dX9_readsItem_85 : decode cX9_readsItem 85 = .ok (.iconst 0, 1) := by decide +kernel
theorem dX9_readsItem_86 : decode cX9_readsItem 86 = .ok (.goto 23, 3) := by decide +kernel
theorem dX9_readsItem_89 : decode cX9_readsItem 89 = .ok (.iload_n 1, 1) := by decide +kernel
theorem dX9_readsItem_90 : decode cX9_readsItem 90 = .ok (.bipush 99, 2) := by decide +kernel
theorem dX9_readsItem_92 : decode cX9_readsItem 92 = .ok (.if_icmp .ne 16, 3) := by decide +kernel
theorem dX9_readsItem_95 : decode cX9_readsItem 95 = .ok (.aload_n 0, 1) := by decide +kernel
theorem dX9_readsItem_96 : decode cX9_readsItem 96 = .ok (.getfield 101, 3) := by decide +kernel
theorem dX9_readsItem_99 : decode cX9_readsItem 99 = .ok (.bipush (-9), 2) := by decide +kernel
theorem dX9_readsItem_101 : decode cX9_readsItem 101 = .ok (.if_icmp .ne 7, 3) := by decide +kernel
theorem dX9_readsItem_104 : decode cX9_readsItem 104 = .ok (.iconst 1, 1) := by decide +kernel
theorem dX9_readsItem_105 : decode cX9_readsItem 105 = .ok (.goto 4, 3) := by decide +kernel
theorem dX9_readsItem_108 : decode cX9_readsItem 108 = .ok (.iconst 0, 1) := by decide +kernel
theorem dX9_readsItem_109 : decode cX9_readsItem 109 = .ok (.istore_n 3, 1) := by decide +kernel
theorem dX9_readsItem_110 : decode cX9_readsItem 110 = .ok (.iload_n 2, 1) := by decide +kernel
theorem dX9_readsItem_111 : decode cX9_readsItem 111 = .ok (.ifCond .eq 7, 3) := by decide +kernel
theorem dX9_readsItem_114 : decode cX9_readsItem 114 = .ok (.iload_n 3, 1) := by decide +kernel
theorem dX9_readsItem_115 : decode cX9_readsItem 115 = .ok (.ifCond .ne 5, 3) := by decide +kernel
theorem dX9_readsItem_118 : decode cX9_readsItem 118 = .ok (.iconst 0, 1) := by decide +kernel
theorem dX9_readsItem_119 : decode cX9_readsItem 119 = .ok (.ireturn, 1) := by decide +kernel
theorem dX9_readsItem_120 : decode cX9_readsItem 120 = .ok (.aload_n 0, 1) := by decide +kernel
theorem dX9_readsItem_121 : decode cX9_readsItem 121 = .ok (.dup, 1) := by decide +kernel
theorem dX9_readsItem_122 : decode cX9_readsItem 122 = .ok (.getfield 70, 3) := by decide +kernel
theorem dX9_readsItem_125 : decode cX9_readsItem 125 = .ok (.iconst 1, 1) := by decide +kernel
theorem dX9_readsItem_126 : decode cX9_readsItem 126 = .ok (.iadd, 1) := by decide +kernel
theorem dX9_readsItem_127 : decode cX9_readsItem 127 = .ok (.putfield 70, 3) := by decide +kernel
theorem dX9_readsItem_130 : decode cX9_readsItem 130 = .ok (.iload_n 1, 1) := by decide +kernel
theorem dX9_readsItem_131 : decode cX9_readsItem 131 = .ok (.bipush 112, 2) := by decide +kernel
theorem dX9_readsItem_133 : decode cX9_readsItem 133 = .ok (.if_icmp .ne 10, 3) := by decide +kernel
theorem dX9_readsItem_136 : decode cX9_readsItem 136 = .ok (.aload_n 0, 1) := by decide +kernel
theorem dX9_readsItem_137 : decode cX9_readsItem 137 = .ok (.invokevirtual 104, 3) := by decide +kernel
theorem dX9_readsItem_140 : decode cX9_readsItem 140 = .ok (.goto 20, 3) := by decide +kernel
theorem dX9_readsItem_143 : decode cX9_readsItem 143 = .ok (.iload_n 1, 1) := by decide +kernel
theorem dX9_readsItem_144 : decode cX9_readsItem 144 = .ok (.bipush 107, 2) := by decide +kernel
theorem dX9_readsItem_146 : decode cX9_readsItem 146 = .ok (.if_icmp .ne 10, 3) := by decide +kernel
theorem dX9_readsItem_149 : decode cX9_readsItem 149 = .ok (.aload_n 0, 1) := by decide +kernel
theorem dX9_readsItem_150 : decode cX9_readsItem 150 = .ok (.invokevirtual 107, 3) := by decide +kernel
theorem dX9_readsItem_153 : decode cX9_readsItem 153 = .ok (.goto 7, 3) := by decide +kernel
theorem dX9_readsItem_156 : decode cX9_readsItem 156 = .ok (.aload_n 0, 1) := by decide +kernel
theorem dX9_readsItem_157 : decode cX9_readsItem 157 = .ok (.invokevirtual 110, 3) := by decide +kernel
theorem dX9_readsItem_160 : decode cX9_readsItem 160 = .ok (.ireturn, 1) := by decide +kernel
theorem dX9_map_0 : decode cX9_map 0 = .ok (.aload_n 0, 1) := by decide +kernel
theorem dX9_map_1 : decode cX9_map 1 = .ok (.iconst 0, 1) := by decide +kernel
theorem dX9_map_2 : decode cX9_map 2 = .ok (.putfield 70, 3) := by decide +kernel
theorem dX9_map_5 : decode cX9_map 5 = .ok (.aload_n 0, 1) := by decide +kernel
theorem dX9_map_6 : decode cX9_map 6 = .ok (.iconst 0, 1) := by decide +kernel
theorem dX9_map_7 : decode cX9_map 7 = .ok (.putfield 83, 3) := by decide +kernel
theorem dX9_map_10 : decode cX9_map 10 = .ok (.aload_n 0, 1) := by decide +kernel
theorem dX9_map_11 : decode cX9_map 11 = .ok (.iconst 0, 1) := by decide +kernel
theorem dX9_map_12 : decode cX9_map 12 = .ok (.putfield 98, 3) := by decide +kernel
theorem dX9_map_15 : decode cX9_map 15 = .ok (.aload_n 0, 1) := by decide +kernel
theorem dX9_map_16 : decode cX9_map 16 = .ok (.bipush (-9), 2) := by decide +kernel
theorem dX9_map_18 : decode cX9_map 18 = .ok (.putfield 101, 3) := by decide +kernel
theorem dX9_map_21 : decode cX9_map 21 = .ok (.iconst 0, 1) := by decide +kernel
theorem dX9_map_22 : decode cX9_map 22 = .ok (.istore_n 1, 1) := by decide +kernel
theorem dX9_map_23 : decode cX9_map 23 = .ok (.aload_n 0, 1) := by decide +kernel
theorem dX9_map_24 : decode cX9_map 24 = .ok (.invokevirtual 77, 3) := by decide +kernel
theorem dX9_map_27 : decode cX9_map 27 = .ok (.aload_n 0, 1) := by decide +kernel
theorem dX9_map_28 : decode cX9_map 28 = .ok (.getfield 70, 3) := by decide +kernel
theorem dX9_map_31 : decode cX9_map 31 = .ok (.aload_n 0, 1) := by decide +kernel
theorem dX9_map_32 : decode cX9_map 32 = .ok (.getfield 67, 3) := by decide +kernel
theorem dX9_map_35 : decode cX9_map 35 = .ok (.if_icmp .ge 28, 3) := by decide +kernel
theorem dX9_map_38 : decode cX9_map 38 = .ok (.aload_n 0, 1) := by decide +kernel
theorem dX9_map_39 : decode cX9_map 39 = .ok (.invokevirtual 113, 3) := by decide +kernel
theorem dX9_map_42 : decode cX9_map 42 = .ok (.ifCond .ne 11, 3) := by decide +kernel
theorem dX9_map_45 : decode cX9_map 45 = .ok (.bipush (-10), 2) := by decide +kernel
theorem dX9_map_47 : decode cX9_map 47 = .ok (.aload_n 0, 1) := by decide +kernel
theorem dX9_map_48 : decode cX9_map 48 = .ok (.getfield 70, 3) := by decide +kernel
theorem dX9_map_51 : decode cX9_map 51 = .ok (.isub, 1) := by decide +kernel
theorem dX9_map_52 : decode cX9_map 52 = .ok (.ireturn, 1) := by decide +kernel
theorem dX9_map_53 : decode cX9_map 53 = .ok (.iinc 1 1, 3) := by decide +kernel
theorem dX9_map_56 : decode cX9_map 56 = .ok (.aload_n 0, 1) := by decide +kernel
theorem dX9_map_57 : decode cX9_map 57 = .ok (.invokevirtual 77, 3) := by decide +kernel
theorem dX9_map_60 : decode cX9_map 60 = .ok (.goto (-33), 3) := by decide +kernel
theorem dX9_map_63 : decode cX9_map 63 = .ok (.aload_n 0, 1) := by decide +kernel
theorem dX9_map_64 : decode cX9_map 64 = .ok (.iconst 0, 1) := by decide +kernel
theorem dX9_map_65 : decode cX9_map 65 = .ok (.putfield 67, 3) := by decide +kernel
theorem dX9_map_68 : decode cX9_map 68 = .ok (.aload_n 0, 1) := by decide +kernel
theorem dX9_map_69 : decode cX9_map 69 = .ok (.aload_n 0, 1) := by decide +kernel
theorem dX9_map_70 : decode cX9_map 70 = .ok (.getfield 83, 3) := by decide +kernel
theorem dX9_map_73 : decode cX9_map 73 = .ok (.putfield 60, 3) := by decide +kernel
theorem dX9_map_76 : decode cX9_map 76 = .ok (.aload_n 0, 1) := by decide +kernel
theorem dX9_map_77 : decode cX9_map 77 = .ok (.aload_n 0, 1) := by decide +kernel
theorem dX9_map_78 : decode cX9_map 78 = .ok (.getfield 98, 3) := by decide +kernel
theorem dX9_map_81 : decode cX9_map 81 = .ok (.ifCond .ne 7, 3) := by decide +kernel
theorem dX9_map_84 : decode cX9_map 84 = .ok (.iconst 3, 1) := by decide +kernel
theorem dX9_map_85 : decode cX9_map 85 = .ok (.goto 7, 3) := by decide +kernel
theorem dX9_map_88 : decode cX9_map 88 = .ok (.aload_n 0, 1) := by decide +kernel
theorem dX9_map_89 : decode cX9_map 89 = .ok (.getfield 98, 3) := by decide +kernel
theorem dX9_map_92 : decode cX9_map 92 = .ok (.putfield 7, 3) := by decide +kernel
theorem dX9_map_95 : decode cX9_map 95 = .ok (.aload_n 0, 1) := by decide +kernel
theorem dX9_map_96 : decode cX9_map 96 = .ok (.aload_n 0, 1) := by decide +kernel
theorem dX9_map_97 : decode cX9_map 97 = .ok (.getfield 101, 3) := by decide +kernel
theorem dX9_map_100 : decode cX9_map 100 = .ok (.bipush (-9), 2) := by decide +kernel
theorem dX9_map_102 : decode cX9_map 102 = .ok (.if_icmp .ne 7, 3) := by decide +kernel
theorem dX9_map_105 : decode cX9_map 105 = .ok (.iconst 0, 1) := by decide +kernel
theorem dX9_map_106 : decode cX9_map 106 = .ok (.goto 7, 3) := by decide +kernel
theorem dX9_map_109 : decode cX9_map 109 = .ok (.aload_n 0, 1) := by decide +kernel
theorem dX9_map_110 : decode cX9_map 110 = .ok (.getfield 101, 3) := by decide +kernel
theorem dX9_map_113 : decode cX9_map 113 = .ok (.putfield 116, 3) := by decide +kernel
theorem dX9_map_116 : decode cX9_map 116 = .ok (.aload_n 0, 1) := by decide +kernel
theorem dX9_map_117 : decode cX9_map 117 = .ok (.iconst 0, 1) := by decide +kernel
theorem dX9_map_118 : decode cX9_map 118 = .ok (.putfield 119, 3) := by decide +kernel
theorem dX9_map_121 : decode cX9_map 121 = .ok (.iconst 0, 1) := by decide +kernel
theorem dX9_map_122 : decode cX9_map 122 = .ok (.istore_n 2, 1) := by decide +kernel
theorem dX9_map_123 : decode cX9_map 123 = .ok (.iload_n 2, 1) := by decide +kernel
theorem dX9_map_124 : decode cX9_map 124 = .ok (.aload_n 0, 1) := by decide +kernel
theorem dX9_map_125 : decode cX9_map 125 = .ok (.getfield 60, 3) := by decide +kernel
theorem dX9_map_128 : decode cX9_map 128 = .ok (.if_icmp .ge 33, 3) := by decide +kernel
theorem dX9_map_131 : decode cX9_map 131 = .ok (.aload_n 0, 1) := by decide +kernel
theorem dX9_map_132 : decode cX9_map 132 = .ok (.getfield 13, 3) := by decide +kernel
theorem dX9_map_135 : decode cX9_map 135 = .ok (.iload_n 2, 1) := by decide +kernel
theorem dX9_map_136 : decode cX9_map 136 = .ok (.aload_n 0, 1) := by decide +kernel
theorem dX9_map_137 : decode cX9_map 137 = .ok (.getfield 26, 3) := by decide +kernel
theorem dX9_map_140 : decode cX9_map 140 = .ok (.iload_n 2, 1) := by decide +kernel
theorem dX9_map_141 : decode cX9_map 141 = .ok (.iaload, 1) := by decide +kernel
theorem dX9_map_142 : decode cX9_map 142 = .ok (.iastore, 1) := by decide +kernel
theorem dX9_map_143 : decode cX9_map 143 = .ok (.aload_n 0, 1) := by decide +kernel
theorem dX9_map_144 : decode cX9_map 144 = .ok (.getfield 17, 3) := by decide +kernel
theorem dX9_map_147 : decode cX9_map 147 = .ok (.iload_n 2, 1) := by decide +kernel
theorem dX9_map_148 : decode cX9_map 148 = .ok (.aload_n 0, 1) := by decide +kernel
theorem dX9_map_149 : decode cX9_map 149 = .ok (.getfield 29, 3) := by decide +kernel
theorem dX9_map_152 : decode cX9_map 152 = .ok (.iload_n 2, 1) := by decide +kernel
theorem dX9_map_153 : decode cX9_map 153 = .ok (.iaload, 1) := by decide +kernel
theorem dX9_map_154 : decode cX9_map 154 = .ok (.iastore, 1) := by decide +kernel
theorem dX9_map_155 : decode cX9_map 155 = .ok (.iinc 2 1, 3) := by decide +kernel
theorem dX9_map_158 : decode cX9_map 158 = .ok (.goto (-35), 3) := by decide +kernel
theorem dX9_map_161 : decode cX9_map 161 = .ok (.aload_n 0, 1) := by decide +kernel
theorem dX9_map_162 : decode cX9_map 162 = .ok (.iconst 0, 1) := by decide +kernel
theorem dX9_map_163 : decode cX9_map 163 = .ok (.putfield 122, 3) := by decide +kernel
theorem dX9_map_166 : decode cX9_map 166 = .ok (.aload_n 0, 1) := by decide +kernel
theorem dX9_map_167 : decode cX9_map 167 = .ok (.getfield 35, 3) := by decide +kernel
theorem dX9_map_170 : decode cX9_map 170 = .ok (.iconst 0, 1) := by decide +kernel
theorem dX9_map_171 : decode cX9_map 171 = .ok (.iconst 0, 1) := by decide +kernel
theorem dX9_map_172 : decode cX9_map 172 = .ok (.iastore, 1) := by decide +kernel
theorem dX9_map_173 : decode cX9_map 173 = .ok (.aload_n 0, 1) := by decide +kernel
theorem dX9_map_174 : decode cX9_map 174 = .ok (.getfield 35, 3) := by decide +kernel
theorem dX9_map_177 : decode cX9_map 177 = .ok (.bipush 58, 2) := by decide +kernel
theorem dX9_map_179 : decode cX9_map 179 = .ok (.iconst 0, 1) := by decide +kernel
theorem dX9_map_180 : decode cX9_map 180 = .ok (.iastore, 1) := by decide +kernel
theorem dX9_map_181 : decode cX9_map 181 = .ok (.iload_n 1, 1) := by decide +kernel
theorem dX9_map_182 : decode cX9_map 182 = .ok (.ireturn, 1) := by decide +kernel
theorem dX9_writes_0 : decode cX9_writes 0 = .ok (.aload_n 1, 1) := by decide +kernel
theorem dX9_writes_1 : decode cX9_writes 1 = .ok (.iload_n 2, 1) := by decide +kernel
theorem dX9_writes_2 : decode cX9_writes 2 = .ok (.aload_n 0, 1) := by decide +kernel
theorem dX9_writes_3 : decode cX9_writes 3 = .ok (.getfield 60, 3) := by decide +kernel
theorem dX9_writes_6 : decode cX9_writes 6 = .ok (.iastore, 1) := by decide +kernel
theorem dX9_writes_7 : decode cX9_writes 7 = .ok (.aload_n 1, 1) := by decide +kernel
theorem dX9_writes_8 : decode cX9_writes 8 = .ok (.iload_n 2, 1) := by decide +kernel
theorem dX9_writes_9 : decode cX9_writes 9 = .ok (.iconst 1, 1) := by decide +kernel
theorem dX9_writes_10 : decode cX9_writes 10 = .ok (.iadd, 1) := by decide +kernel
theorem dX9_writes_11 : decode cX9_writes 11 = .ok (.aload_n 0, 1) := by decide +kernel
theorem dX9_writes_12 : decode cX9_writes 12 = .ok (.getfield 7, 3) := by decide +kernel
theorem dX9_writes_15 : decode cX9_writes 15 = .ok (.iastore, 1) := by decide +kernel
theorem dX9_writes_16 : decode cX9_writes 16 = .ok (.aload_n 1, 1) := by decide +kernel
theorem dX9_writes_17 : decode cX9_writes 17 = .ok (.iload_n 2, 1) := by decide +kernel
theorem dX9_writes_18 : decode cX9_writes 18 = .ok (.iconst 2, 1) := by decide +kernel
theorem dX9_writes_19 : decode cX9_writes 19 = .ok (.iadd, 1) := by decide +kernel
theorem dX9_writes_20 : decode cX9_writes 20 = .ok (.aload_n 0, 1) := by decide +kernel
theorem dX9_writes_21 : decode cX9_writes 21 = .ok (.getfield 116, 3) := by decide +kernel
theorem dX9_writes_24 : decode cX9_writes 24 = .ok (.iastore, 1) := by decide +kernel
theorem dX9_writes_25 : decode cX9_writes 25 = .ok (.aload_n 1, 1) := by decide +kernel
theorem dX9_writes_26 : decode cX9_writes 26 = .ok (.iload_n 2, 1) := by decide +kernel
theorem dX9_writes_27 : decode cX9_writes 27 = .ok (.iconst 3, 1) := by decide +kernel
theorem dX9_writes_28 : decode cX9_writes 28 = .ok (.iadd, 1) := by decide +kernel
theorem dX9_writes_29 : decode cX9_writes 29 = .ok (.aload_n 0, 1) := by decide +kernel
theorem dX9_writes_30 : decode cX9_writes 30 = .ok (.getfield 119, 3) := by decide +kernel
theorem dX9_writes_33 : decode cX9_writes 33 = .ok (.iastore, 1) := by decide +kernel
theorem dX9_writes_34 : decode cX9_writes 34 = .ok (.iconst 0, 1) := by decide +kernel
theorem dX9_writes_35 : decode cX9_writes 35 = .ok (.istore_n 3, 1) := by decide +kernel
theorem dX9_writes_36 : decode cX9_writes 36 = .ok (.iload_n 3, 1) := by decide +kernel
theorem dX9_writes_37 : decode cX9_writes 37 = .ok (.iconst 5, 1) := by decide +kernel
theorem dX9_writes_38 : decode cX9_writes 38 = .ok (.if_icmp .ge 22, 3) := by decide +kernel
theorem dX9_writes_41 : decode cX9_writes 41 = .ok (.aload_n 1, 1) := by decide +kernel
theorem dX9_writes_42 : decode cX9_writes 42 = .ok (.iload_n 2, 1) := by decide +kernel
theorem dX9_writes_43 : decode cX9_writes 43 = .ok (.iconst 4, 1) := by decide +kernel
theorem dX9_writes_44 : decode cX9_writes 44 = .ok (.iadd, 1) := by decide +kernel
theorem dX9_writes_45 : decode cX9_writes 45 = .ok (.iload_n 3, 1) := by decide +kernel
theorem dX9_writes_46 : decode cX9_writes 46 = .ok (.iadd, 1) := by decide +kernel
theorem dX9_writes_47 : decode cX9_writes 47 = .ok (.aload_n 0, 1) := by decide +kernel
theorem dX9_writes_48 : decode cX9_writes 48 = .ok (.getfield 20, 3) := by decide +kernel
theorem dX9_writes_51 : decode cX9_writes 51 = .ok (.iload_n 3, 1) := by decide +kernel
theorem dX9_writes_52 : decode cX9_writes 52 = .ok (.iaload, 1) := by decide +kernel
theorem dX9_writes_53 : decode cX9_writes 53 = .ok (.iastore, 1) := by decide +kernel
theorem dX9_writes_54 : decode cX9_writes 54 = .ok (.iinc 3 1, 3) := by decide +kernel
theorem dX9_writes_57 : decode cX9_writes 57 = .ok (.goto (-21), 3) := by decide +kernel
theorem dX9_writes_60 : decode cX9_writes 60 = .ok (.iconst 0, 1) := by decide +kernel
theorem dX9_writes_61 : decode cX9_writes 61 = .ok (.istore_n 3, 1) := by decide +kernel
theorem dX9_writes_62 : decode cX9_writes 62 = .ok (.iload_n 3, 1) := by decide +kernel
theorem dX9_writes_63 : decode cX9_writes 63 = .ok (.bipush 24, 2) := by decide +kernel
theorem dX9_writes_65 : decode cX9_writes 65 = .ok (.if_icmp .ge 37, 3) := by decide +kernel
theorem dX9_writes_68 : decode cX9_writes 68 = .ok (.aload_n 1, 1) := by decide +kernel
theorem dX9_writes_69 : decode cX9_writes 69 = .ok (.iload_n 2, 1) := by decide +kernel
theorem dX9_writes_70 : decode cX9_writes 70 = .ok (.bipush 9, 2) := by decide +kernel
theorem dX9_writes_72 : decode cX9_writes 72 = .ok (.iadd, 1) := by decide +kernel
theorem dX9_writes_73 : decode cX9_writes 73 = .ok (.iload_n 3, 1) := by decide +kernel
theorem dX9_writes_74 : decode cX9_writes 74 = .ok (.iadd, 1) := by decide +kernel
theorem dX9_writes_75 : decode cX9_writes 75 = .ok (.aload_n 0, 1) := by decide +kernel
theorem dX9_writes_76 : decode cX9_writes 76 = .ok (.getfield 13, 3) := by decide +kernel
theorem dX9_writes_79 : decode cX9_writes 79 = .ok (.iload_n 3, 1) := by decide +kernel
theorem dX9_writes_80 : decode cX9_writes 80 = .ok (.iaload, 1) := by decide +kernel
theorem dX9_writes_81 : decode cX9_writes 81 = .ok (.iastore, 1) := by decide +kernel
theorem dX9_writes_82 : decode cX9_writes 82 = .ok (.aload_n 1, 1) := by decide +kernel
theorem dX9_writes_83 : decode cX9_writes 83 = .ok (.iload_n 2, 1) := by decide +kernel
theorem dX9_writes_84 : decode cX9_writes 84 = .ok (.bipush 33, 2) := by decide +kernel
theorem dX9_writes_86 : decode cX9_writes 86 = .ok (.iadd, 1) := by decide +kernel
theorem dX9_writes_87 : decode cX9_writes 87 = .ok (.iload_n 3, 1) := by decide +kernel
theorem dX9_writes_88 : decode cX9_writes 88 = .ok (.iadd, 1) := by decide +kernel
theorem dX9_writes_89 : decode cX9_writes 89 = .ok (.aload_n 0, 1) := by decide +kernel
theorem dX9_writes_90 : decode cX9_writes 90 = .ok (.getfield 17, 3) := by decide +kernel
theorem dX9_writes_93 : decode cX9_writes 93 = .ok (.iload_n 3, 1) := by decide +kernel
theorem dX9_writes_94 : decode cX9_writes 94 = .ok (.iaload, 1) := by decide +kernel
theorem dX9_writes_95 : decode cX9_writes 95 = .ok (.iastore, 1) := by decide +kernel
theorem dX9_writes_96 : decode cX9_writes 96 = .ok (.iinc 3 1, 3) := by decide +kernel
theorem dX9_writes_99 : decode cX9_writes 99 = .ok (.goto (-37), 3) := by decide +kernel
theorem dX9_writes_102 : decode cX9_writes 102 = .ok (.return_, 1) := by decide +kernel
theorem dX9_readsBack_0 : decode cX9_readsBack 0 = .ok (.aload_n 0, 1) := by decide +kernel
theorem dX9_readsBack_1 : decode cX9_readsBack 1 = .ok (.aload_n 1, 1) := by decide +kernel
theorem dX9_readsBack_2 : decode cX9_readsBack 2 = .ok (.iload_n 2, 1) := by decide +kernel
theorem dX9_readsBack_3 : decode cX9_readsBack 3 = .ok (.iaload, 1) := by decide +kernel
theorem dX9_readsBack_4 : decode cX9_readsBack 4 = .ok (.putfield 60, 3) := by decide +kernel
theorem dX9_readsBack_7 : decode cX9_readsBack 7 = .ok (.aload_n 0, 1) := by decide +kernel
theorem dX9_readsBack_8 : decode cX9_readsBack 8 = .ok (.aload_n 1, 1) := by decide +kernel
theorem dX9_readsBack_9 : decode cX9_readsBack 9 = .ok (.iload_n 2, 1) := by decide +kernel
theorem dX9_readsBack_10 : decode cX9_readsBack 10 = .ok (.iconst 1, 1) := by decide +kernel
theorem dX9_readsBack_11 : decode cX9_readsBack 11 = .ok (.iadd, 1) := by decide +kernel
theorem dX9_readsBack_12 : decode cX9_readsBack 12 = .ok (.iaload, 1) := by decide +kernel
theorem dX9_readsBack_13 : decode cX9_readsBack 13 = .ok (.putfield 7, 3) := by decide +kernel
theorem dX9_readsBack_16 : decode cX9_readsBack 16 = .ok (.aload_n 0, 1) := by decide +kernel
theorem dX9_readsBack_17 : decode cX9_readsBack 17 = .ok (.aload_n 1, 1) := by decide +kernel
theorem dX9_readsBack_18 : decode cX9_readsBack 18 = .ok (.iload_n 2, 1) := by decide +kernel
theorem dX9_readsBack_19 : decode cX9_readsBack 19 = .ok (.iconst 2, 1) := by decide +kernel
theorem dX9_readsBack_20 : decode cX9_readsBack 20 = .ok (.iadd, 1) := by decide +kernel
theorem dX9_readsBack_21 : decode cX9_readsBack 21 = .ok (.iaload, 1) := by decide +kernel
theorem dX9_readsBack_22 : decode cX9_readsBack 22 = .ok (.putfield 116, 3) := by decide +kernel
theorem dX9_readsBack_25 : decode cX9_readsBack 25 = .ok (.aload_n 0, 1) := by decide +kernel
theorem dX9_readsBack_26 : decode cX9_readsBack 26 = .ok (.aload_n 1, 1) := by decide +kernel
theorem dX9_readsBack_27 : decode cX9_readsBack 27 = .ok (.iload_n 2, 1) := by decide +kernel
theorem dX9_readsBack_28 : decode cX9_readsBack 28 = .ok (.iconst 3, 1) := by decide +kernel
theorem dX9_readsBack_29 : decode cX9_readsBack 29 = .ok (.iadd, 1) := by decide +kernel
theorem dX9_readsBack_30 : decode cX9_readsBack 30 = .ok (.iaload, 1) := by decide +kernel
theorem dX9_readsBack_31 : decode cX9_readsBack 31 = .ok (.putfield 119, 3) := by decide +kernel
theorem dX9_readsBack_34 : decode cX9_readsBack 34 = .ok (.iconst 0, 1) := by decide +kernel
theorem dX9_readsBack_35 : decode cX9_readsBack 35 = .ok (.istore_n 3, 1) := by decide +kernel
theorem dX9_readsBack_36 : decode cX9_readsBack 36 = .ok (.iload_n 3, 1) := by decide +kernel
theorem dX9_readsBack_37 : decode cX9_readsBack 37 = .ok (.iconst 5, 1) := by decide +kernel
theorem dX9_readsBack_38 : decode cX9_readsBack 38 = .ok (.if_icmp .ge 22, 3) := by decide +kernel
theorem dX9_readsBack_41 : decode cX9_readsBack 41 = .ok (.aload_n 0, 1) := by decide +kernel
theorem dX9_readsBack_42 : decode cX9_readsBack 42 = .ok (.getfield 20, 3) := by decide +kernel
theorem dX9_readsBack_45 : decode cX9_readsBack 45 = .ok (.iload_n 3, 1) := by decide +kernel
theorem dX9_readsBack_46 : decode cX9_readsBack 46 = .ok (.aload_n 1, 1) := by decide +kernel
theorem dX9_readsBack_47 : decode cX9_readsBack 47 = .ok (.iload_n 2, 1) := by decide +kernel
theorem dX9_readsBack_48 : decode cX9_readsBack 48 = .ok (.iconst 4, 1) := by decide +kernel
theorem dX9_readsBack_49 : decode cX9_readsBack 49 = .ok (.iadd, 1) := by decide +kernel
theorem dX9_readsBack_50 : decode cX9_readsBack 50 = .ok (.iload_n 3, 1) := by decide +kernel
theorem dX9_readsBack_51 : decode cX9_readsBack 51 = .ok (.iadd, 1) := by decide +kernel
theorem dX9_readsBack_52 : decode cX9_readsBack 52 = .ok (.iaload, 1) := by decide +kernel
theorem dX9_readsBack_53 : decode cX9_readsBack 53 = .ok (.iastore, 1) := by decide +kernel
theorem dX9_readsBack_54 : decode cX9_readsBack 54 = .ok (.iinc 3 1, 3) := by decide +kernel
theorem dX9_readsBack_57 : decode cX9_readsBack 57 = .ok (.goto (-21), 3) := by decide +kernel
theorem dX9_readsBack_60 : decode cX9_readsBack 60 = .ok (.iconst 0, 1) := by decide +kernel
theorem dX9_readsBack_61 : decode cX9_readsBack 61 = .ok (.istore_n 3, 1) := by decide +kernel
theorem dX9_readsBack_62 : decode cX9_readsBack 62 = .ok (.iload_n 3, 1) := by decide +kernel
theorem dX9_readsBack_63 : decode cX9_readsBack 63 = .ok (.bipush 24, 2) := by decide +kernel
theorem dX9_readsBack_65 : decode cX9_readsBack 65 = .ok (.if_icmp .ge 37, 3) := by decide +kernel
theorem dX9_readsBack_68 : decode cX9_readsBack 68 = .ok (.aload_n 0, 1) := by decide +kernel
theorem dX9_readsBack_69 : decode cX9_readsBack 69 = .ok (.getfield 13, 3) := by decide +kernel
theorem dX9_readsBack_72 : decode cX9_readsBack 72 = .ok (.iload_n 3, 1) := by decide +kernel
theorem dX9_readsBack_73 : decode cX9_readsBack 73 = .ok (.aload_n 1, 1) := by decide +kernel
theorem dX9_readsBack_74 : decode cX9_readsBack 74 = .ok (.iload_n 2, 1) := by decide +kernel
theorem dX9_readsBack_75 : decode cX9_readsBack 75 = .ok (.bipush 9, 2) := by decide +kernel
theorem dX9_readsBack_77 : decode cX9_readsBack 77 = .ok (.iadd, 1) := by decide +kernel
theorem dX9_readsBack_78 : decode cX9_readsBack 78 = .ok (.iload_n 3, 1) := by decide +kernel
theorem dX9_readsBack_79 : decode cX9_readsBack 79 = .ok (.iadd, 1) := by decide +kernel
theorem dX9_readsBack_80 : decode cX9_readsBack 80 = .ok (.iaload, 1) := by decide +kernel
theorem dX9_readsBack_81 : decode cX9_readsBack 81 = .ok (.iastore, 1) := by decide +kernel
theorem dX9_readsBack_82 : decode cX9_readsBack 82 = .ok (.aload_n 0, 1) := by decide +kernel
theorem dX9_readsBack_83 : decode cX9_readsBack 83 = .ok (.getfield 17, 3) := by decide +kernel
theorem dX9_readsBack_86 : decode cX9_readsBack 86 = .ok (.iload_n 3, 1) := by decide +kernel
theorem dX9_readsBack_87 : decode cX9_readsBack 87 = .ok (.aload_n 1, 1) := by decide +kernel
theorem dX9_readsBack_88 : decode cX9_readsBack 88 = .ok (.iload_n 2, 1) := by decide +kernel
theorem dX9_readsBack_89 : decode cX9_readsBack 89 = .ok (.bipush 33, 2) := by decide +kernel
theorem dX9_readsBack_91 : decode cX9_readsBack 91 = .ok (.iadd, 1) := by decide +kernel
theorem dX9_readsBack_92 : decode cX9_readsBack 92 = .ok (.iload_n 3, 1) := by decide +kernel
theorem dX9_readsBack_93 : decode cX9_readsBack 93 = .ok (.iadd, 1) := by decide +kernel
theorem dX9_readsBack_94 : decode cX9_readsBack 94 = .ok (.iaload, 1) := by decide +kernel
theorem dX9_readsBack_95 : decode cX9_readsBack 95 = .ok (.iastore, 1) := by decide +kernel
theorem dX9_readsBack_96 : decode cX9_readsBack 96 = .ok (.iinc 3 1, 3) := by decide +kernel
theorem dX9_readsBack_99 : decode cX9_readsBack 99 = .ok (.goto (-37), 3) := by decide +kernel
theorem dX9_readsBack_102 : decode cX9_readsBack 102 = .ok (.return_, 1) := by decide +kernel
theorem dX9_notes_0 : decode cX9_notes 0 = .ok (.aload_n 0, 1) := by decide +kernel
theorem dX9_notes_1 : decode cX9_notes 1 = .ok (.getfield 122, 3) := by decide +kernel
theorem dX9_notes_4 : decode cX9_notes 4 = .ok (.bipush 10, 2) := by decide +kernel
theorem dX9_notes_6 : decode cX9_notes 6 = .ok (.if_icmp .ne 43, 3) := by decide +kernel
theorem dX9_notes_9 : decode cX9_notes 9 = .ok (.iconst 0, 1) := by decide +kernel
theorem dX9_notes_10 : decode cX9_notes 10 = .ok (.istore_n 1, 1) := by decide +kernel
theorem dX9_notes_11 : decode cX9_notes 11 = .ok (.iload_n 1, 1) := by decide +kernel
theorem dX9_notes_12 : decode cX9_notes 12 = .ok (.sipush 513, 3) := by decide +kernel
theorem dX9_notes_15 : decode cX9_notes 15 = .ok (.if_icmp .ge 24, 3) := by decide +kernel
theorem dX9_notes_18 : decode cX9_notes 18 = .ok (.aload_n 0, 1) := by decide +kernel
theorem dX9_notes_19 : decode cX9_notes 19 = .ok (.getfield 32, 3) := by decide +kernel
theorem dX9_notes_22 : decode cX9_notes 22 = .ok (.iload_n 1, 1) := by decide +kernel
theorem dX9_notes_23 : decode cX9_notes 23 = .ok (.aload_n 0, 1) := by decide +kernel
theorem dX9_notes_24 : decode cX9_notes 24 = .ok (.getfield 32, 3) := by decide +kernel
theorem dX9_notes_27 : decode cX9_notes 27 = .ok (.iload_n 1, 1) := by decide +kernel
theorem dX9_notes_28 : decode cX9_notes 28 = .ok (.bipush 57, 2) := by decide +kernel
theorem dX9_notes_30 : decode cX9_notes 30 = .ok (.iadd, 1) := by decide +kernel
theorem dX9_notes_31 : decode cX9_notes 31 = .ok (.iaload, 1) := by decide +kernel
theorem dX9_notes_32 : decode cX9_notes 32 = .ok (.iastore, 1) := by decide +kernel
theorem dX9_notes_33 : decode cX9_notes 33 = .ok (.iinc 1 1, 3) := by decide +kernel
theorem dX9_notes_36 : decode cX9_notes 36 = .ok (.goto (-25), 3) := by decide +kernel
theorem dX9_notes_39 : decode cX9_notes 39 = .ok (.aload_n 0, 1) := by decide +kernel
theorem dX9_notes_40 : decode cX9_notes 40 = .ok (.dup, 1) := by decide +kernel
theorem dX9_notes_41 : decode cX9_notes 41 = .ok (.getfield 122, 3) := by decide +kernel
theorem dX9_notes_44 : decode cX9_notes 44 = .ok (.iconst 1, 1) := by decide +kernel
theorem dX9_notes_45 : decode cX9_notes 45 = .ok (.isub, 1) := by decide +kernel
theorem dX9_notes_46 : decode cX9_notes 46 = .ok (.putfield 122, 3) := by decide +kernel
theorem dX9_notes_49 : decode cX9_notes 49 = .ok (.aload_n 0, 1) := by decide +kernel
theorem dX9_notes_50 : decode cX9_notes 50 = .ok (.aload_n 0, 1) := by decide +kernel
theorem dX9_notes_51 : decode cX9_notes 51 = .ok (.getfield 32, 3) := by decide +kernel
theorem dX9_notes_54 : decode cX9_notes 54 = .ok (.bipush 57, 2) := by decide +kernel
theorem dX9_notes_56 : decode cX9_notes 56 = .ok (.aload_n 0, 1) := by decide +kernel
theorem dX9_notes_57 : decode cX9_notes 57 = .ok (.getfield 122, 3) := by decide +kernel
theorem dX9_notes_60 : decode cX9_notes 60 = .ok (.imul, 1) := by decide +kernel
theorem dX9_notes_61 : decode cX9_notes 61 = .ok (.invokevirtual 125, 3) := by decide +kernel
theorem dX9_notes_64 : decode cX9_notes 64 = .ok (.aload_n 0, 1) := by decide +kernel
theorem dX9_notes_65 : decode cX9_notes 65 = .ok (.dup, 1) := by decide +kernel
theorem dX9_notes_66 : decode cX9_notes 66 = .ok (.getfield 122, 3) := by decide +kernel
theorem dX9_notes_69 : decode cX9_notes 69 = .ok (.iconst 1, 1) := by decide +kernel
theorem dX9_notes_70 : decode cX9_notes 70 = .ok (.iadd, 1) := by decide +kernel
theorem dX9_notes_71 : decode cX9_notes 71 = .ok (.putfield 122, 3) := by decide +kernel
theorem dX9_notes_74 : decode cX9_notes 74 = .ok (.return_, 1) := by decide +kernel
theorem dX9_puts_0 : decode cX9_puts 0 = .ok (.iload_n 1, 1) := by decide +kernel
theorem dX9_puts_1 : decode cX9_puts 1 = .ok (.iload_n 2, 1) := by decide +kernel
theorem dX9_puts_2 : decode cX9_puts 2 = .ok (.invokestatic 129, 3) := by decide +kernel
theorem dX9_puts_5 : decode cX9_puts 5 = .ok (.ifCond .eq 14, 3) := by decide +kernel
theorem dX9_puts_8 : decode cX9_puts 8 = .ok (.iload_n 3, 1) := by decide +kernel
theorem dX9_puts_9 : decode cX9_puts 9 = .ok (.iconst 0, 1) := by decide +kernel
theorem dX9_puts_10 : decode cX9_puts 10 = .ok (.sipush 999, 3) := by decide +kernel
theorem dX9_puts_13 : decode cX9_puts 13 = .ok (.invokestatic 63, 3) := by decide +kernel
theorem dX9_puts_16 : decode cX9_puts 16 = .ok (.ifCond .ne 5, 3) := by decide +kernel
theorem dX9_puts_19 : decode cX9_puts 19 = .ok (.iconst (-1), 1) := by decide +kernel
theorem dX9_puts_20 : decode cX9_puts 20 = .ok (.ireturn, 1) := by decide +kernel
theorem dX9_puts_21 : decode cX9_puts 21 = .ok (.aload_n 0, 1) := by decide +kernel
theorem dX9_puts_22 : decode cX9_puts 22 = .ok (.bipush 10, 2) := by decide +kernel
theorem dX9_puts_24 : decode cX9_puts 24 = .ok (.iload_n 1, 1) := by decide +kernel
theorem dX9_puts_25 : decode cX9_puts 25 = .ok (.imul, 1) := by decide +kernel
theorem dX9_puts_26 : decode cX9_puts 26 = .ok (.iload_n 2, 1) := by decide +kernel
theorem dX9_puts_27 : decode cX9_puts 27 = .ok (.iadd, 1) := by decide +kernel
theorem dX9_puts_28 : decode cX9_puts 28 = .ok (.invokevirtual 132, 3) := by decide +kernel
theorem dX9_puts_31 : decode cX9_puts 31 = .ok (.istore 4, 2) := by decide +kernel
theorem dX9_puts_33 : decode cX9_puts 33 = .ok (.iload 4, 2) := by decide +kernel
theorem dX9_puts_35 : decode cX9_puts 35 = .ok (.bipush (-9), 2) := by decide +kernel
theorem dX9_puts_37 : decode cX9_puts 37 = .ok (.if_icmp .ne 15, 3) := by decide +kernel
theorem dX9_puts_40 : decode cX9_puts 40 = .ok (.aload_n 0, 1) := by decide +kernel
theorem dX9_puts_41 : decode cX9_puts 41 = .ok (.getfield 60, 3) := by decide +kernel
theorem dX9_puts_44 : decode cX9_puts 44 = .ok (.bipush 24, 2) := by decide +kernel
theorem dX9_puts_46 : decode cX9_puts 46 = .ok (.if_icmp .ne 6, 3) := by decide +kernel
theorem dX9_puts_49 : decode cX9_puts 49 = .ok (.bipush (-3), 2) := by decide +kernel
theorem dX9_puts_51 : decode cX9_puts 51 = .ok (.ireturn, 1) := by decide +kernel
theorem dX9_puts_52 : decode cX9_puts 52 = .ok (.aload_n 0, 1) := by decide +kernel
theorem dX9_puts_53 : decode cX9_puts 53 = .ok (.invokevirtual 136, 3) := by decide +kernel
theorem dX9_puts_56 : decode cX9_puts 56 = .ok (.bipush (-9), 2) := by decide +kernel
theorem dX9_puts_58 : decode cX9_puts 58 = .ok (.istore 5, 2) := by decide +kernel
theorem dX9_puts_60 : decode cX9_puts 60 = .ok (.iload 4, 2) := by decide +kernel
theorem dX9_puts_62 : decode cX9_puts 62 = .ok (.bipush (-9), 2) := by decide +kernel
theorem dX9_puts_64 : decode cX9_puts 64 = .ok (.if_icmp .ne 35, 3) := by decide +kernel
theorem dX9_puts_67 : decode cX9_puts 67 = .ok (.aload_n 0, 1) := by decide +kernel
theorem dX9_puts_68 : decode cX9_puts 68 = .ok (.getfield 60, 3) := by decide +kernel
theorem dX9_puts_71 : decode cX9_puts 71 = .ok (.istore 4, 2) := by decide +kernel
theorem dX9_puts_73 : decode cX9_puts 73 = .ok (.aload_n 0, 1) := by decide +kernel
theorem dX9_puts_74 : decode cX9_puts 74 = .ok (.getfield 13, 3) := by decide +kernel
theorem dX9_puts_77 : decode cX9_puts 77 = .ok (.iload 4, 2) := by decide +kernel
theorem dX9_puts_79 : decode cX9_puts 79 = .ok (.bipush 10, 2) := by decide +kernel
theorem dX9_puts_81 : decode cX9_puts 81 = .ok (.iload_n 1, 1) := by decide +kernel
theorem dX9_puts_82 : decode cX9_puts 82 = .ok (.imul, 1) := by decide +kernel
theorem dX9_puts_83 : decode cX9_puts 83 = .ok (.iload_n 2, 1) := by decide +kernel
theorem dX9_puts_84 : decode cX9_puts 84 = .ok (.iadd, 1) := by decide +kernel
theorem dX9_puts_85 : decode cX9_puts 85 = .ok (.iastore, 1) := by decide +kernel
theorem dX9_puts_86 : decode cX9_puts 86 = .ok (.aload_n 0, 1) := by decide +kernel
theorem dX9_puts_87 : decode cX9_puts 87 = .ok (.dup, 1) := by decide +kernel
theorem dX9_puts_88 : decode cX9_puts 88 = .ok (.getfield 60, 3) := by decide +kernel
theorem dX9_puts_91 : decode cX9_puts 91 = .ok (.iconst 1, 1) := by decide +kernel
theorem dX9_puts_92 : decode cX9_puts 92 = .ok (.iadd, 1) := by decide +kernel
theorem dX9_puts_93 : decode cX9_puts 93 = .ok (.putfield 60, 3) := by decide +kernel
theorem dX9_puts_96 : decode cX9_puts 96 = .ok (.goto 12, 3) := by decide +kernel
theorem dX9_puts_99 : decode cX9_puts 99 = .ok (.aload_n 0, 1) := by decide +kernel
theorem dX9_puts_100 : decode cX9_puts 100 = .ok (.getfield 17, 3) := by decide +kernel
theorem dX9_puts_103 : decode cX9_puts 103 = .ok (.iload 4, 2) := by decide +kernel
theorem dX9_puts_105 : decode cX9_puts 105 = .ok (.iaload, 1) := by decide +kernel
theorem dX9_puts_106 : decode cX9_puts 106 = .ok (.istore 5, 2) := by decide +kernel
theorem dX9_puts_108 : decode cX9_puts 108 = .ok (.aload_n 0, 1) := by decide +kernel
theorem dX9_puts_109 : decode cX9_puts 109 = .ok (.getfield 17, 3) := by decide +kernel
theorem dX9_puts_112 : decode cX9_puts 112 = .ok (.iload 4, 2) := by decide +kernel
theorem dX9_puts_114 : decode cX9_puts 114 = .ok (.iload_n 3, 1) := by decide +kernel
theorem dX9_puts_115 : decode cX9_puts 115 = .ok (.iastore, 1) := by decide +kernel
theorem dX9_puts_116 : decode cX9_puts 116 = .ok (.iload 5, 2) := by decide +kernel
theorem dX9_puts_118 : decode cX9_puts 118 = .ok (.ireturn, 1) := by decide +kernel
theorem dX9_drops_0 : decode cX9_drops 0 = .ok (.iload_n 1, 1) := by decide +kernel
theorem dX9_drops_1 : decode cX9_drops 1 = .ok (.iload_n 2, 1) := by decide +kernel
theorem dX9_drops_2 : decode cX9_drops 2 = .ok (.invokestatic 129, 3) := by decide +kernel
theorem dX9_drops_5 : decode cX9_drops 5 = .ok (.ifCond .ne 5, 3) := by decide +kernel
theorem dX9_drops_8 : decode cX9_drops 8 = .ok (.iconst (-1), 1) := by decide +kernel
theorem dX9_drops_9 : decode cX9_drops 9 = .ok (.ireturn, 1) := by decide +kernel
theorem dX9_drops_10 : decode cX9_drops 10 = .ok (.aload_n 0, 1) := by decide +kernel
theorem dX9_drops_11 : decode cX9_drops 11 = .ok (.bipush 10, 2) := by decide +kernel
theorem dX9_drops_13 : decode cX9_drops 13 = .ok (.iload_n 1, 1) := by decide +kernel
theorem dX9_drops_14 : decode cX9_drops 14 = .ok (.imul, 1) := by decide +kernel
theorem dX9_drops_15 : decode cX9_drops 15 = .ok (.iload_n 2, 1) := by decide +kernel
theorem dX9_drops_16 : decode cX9_drops 16 = .ok (.iadd, 1) := by decide +kernel
theorem dX9_drops_17 : decode cX9_drops 17 = .ok (.invokevirtual 132, 3) := by decide +kernel
theorem dX9_drops_20 : decode cX9_drops 20 = .ok (.istore_n 3, 1) := by decide +kernel
theorem dX9_drops_21 : decode cX9_drops 21 = .ok (.iload_n 3, 1) := by decide +kernel
theorem dX9_drops_22 : decode cX9_drops 22 = .ok (.bipush (-9), 2) := by decide +kernel
theorem dX9_drops_24 : decode cX9_drops 24 = .ok (.if_icmp .ne 6, 3) := by decide +kernel
theorem dX9_drops_27 : decode cX9_drops 27 = .ok (.bipush (-2), 2) := by decide +kernel
theorem dX9_drops_29 : decode cX9_drops 29 = .ok (.ireturn, 1) := by decide +kernel
theorem dX9_drops_30 : decode cX9_drops 30 = .ok (.aload_n 0, 1) := by decide +kernel
theorem dX9_drops_31 : decode cX9_drops 31 = .ok (.invokevirtual 136, 3) := by decide +kernel
theorem dX9_drops_34 : decode cX9_drops 34 = .ok (.aload_n 0, 1) := by decide +kernel
theorem dX9_drops_35 : decode cX9_drops 35 = .ok (.getfield 17, 3) := by decide +kernel
theorem dX9_drops_38 : decode cX9_drops 38 = .ok (.iload_n 3, 1) := by decide +kernel
theorem dX9_drops_39 : decode cX9_drops 39 = .ok (.iaload, 1) := by decide +kernel
theorem dX9_drops_40 : decode cX9_drops 40 = .ok (.istore 4, 2) := by decide +kernel
theorem dX9_drops_42 : decode cX9_drops 42 = .ok (.aload_n 0, 1) := by decide +kernel
theorem dX9_drops_43 : decode cX9_drops 43 = .ok (.dup, 1) := by decide +kernel
theorem dX9_drops_44 : decode cX9_drops 44 = .ok (.getfield 60, 3) := by decide +kernel
theorem dX9_drops_47 : decode cX9_drops 47 = .ok (.iconst 1, 1) := by decide +kernel
theorem dX9_drops_48 : decode cX9_drops 48 = .ok (.isub, 1) := by decide +kernel
theorem dX9_drops_49 : decode cX9_drops 49 = .ok (.putfield 60, 3) := by decide +kernel
theorem dX9_drops_52 : decode cX9_drops 52 = .ok (.aload_n 0, 1) := by decide +kernel
theorem dX9_drops_53 : decode cX9_drops 53 = .ok (.getfield 13, 3) := by decide +kernel
theorem dX9_drops_56 : decode cX9_drops 56 = .ok (.iload_n 3, 1) := by decide +kernel
theorem dX9_drops_57 : decode cX9_drops 57 = .ok (.aload_n 0, 1) := by decide +kernel
theorem dX9_drops_58 : decode cX9_drops 58 = .ok (.getfield 13, 3) := by decide +kernel
theorem dX9_drops_61 : decode cX9_drops 61 = .ok (.aload_n 0, 1) := by decide +kernel
theorem dX9_drops_62 : decode cX9_drops 62 = .ok (.getfield 60, 3) := by decide +kernel
theorem dX9_drops_65 : decode cX9_drops 65 = .ok (.iaload, 1) := by decide +kernel
theorem dX9_drops_66 : decode cX9_drops 66 = .ok (.iastore, 1) := by decide +kernel
theorem dX9_drops_67 : decode cX9_drops 67 = .ok (.aload_n 0, 1) := by decide +kernel
theorem dX9_drops_68 : decode cX9_drops 68 = .ok (.getfield 17, 3) := by decide +kernel
theorem dX9_drops_71 : decode cX9_drops 71 = .ok (.iload_n 3, 1) := by decide +kernel
theorem dX9_drops_72 : decode cX9_drops 72 = .ok (.aload_n 0, 1) := by decide +kernel
theorem dX9_drops_73 : decode cX9_drops 73 = .ok (.getfield 17, 3) := by decide +kernel
theorem dX9_drops_76 : decode cX9_drops 76 = .ok (.aload_n 0, 1) := by decide +kernel
theorem dX9_drops_77 : decode cX9_drops 77 = .ok (.getfield 60, 3) := by decide +kernel
theorem dX9_drops_80 : decode cX9_drops 80 = .ok (.iaload, 1) := by decide +kernel
theorem dX9_drops_81 : decode cX9_drops 81 = .ok (.iastore, 1) := by decide +kernel
theorem dX9_drops_82 : decode cX9_drops 82 = .ok (.iload 4, 2) := by decide +kernel
theorem dX9_drops_84 : decode cX9_drops 84 = .ok (.ireturn, 1) := by decide +kernel
theorem dX9_asks_0 : decode cX9_asks 0 = .ok (.iload_n 1, 1) := by decide +kernel
theorem dX9_asks_1 : decode cX9_asks 1 = .ok (.iconst 1, 1) := by decide +kernel
theorem dX9_asks_2 : decode cX9_asks 2 = .ok (.bipush 6, 2) := by decide +kernel
theorem dX9_asks_4 : decode cX9_asks 4 = .ok (.invokestatic 63, 3) := by decide +kernel
theorem dX9_asks_7 : decode cX9_asks 7 = .ok (.ifCond .ne 5, 3) := by decide +kernel
theorem dX9_asks_10 : decode cX9_asks 10 = .ok (.iconst (-1), 1) := by decide +kernel
theorem dX9_asks_11 : decode cX9_asks 11 = .ok (.ireturn, 1) := by decide +kernel
theorem dX9_asks_12 : decode cX9_asks 12 = .ok (.aload_n 0, 1) := by decide +kernel
theorem dX9_asks_13 : decode cX9_asks 13 = .ok (.getfield 7, 3) := by decide +kernel
theorem dX9_asks_16 : decode cX9_asks 16 = .ok (.istore_n 2, 1) := by decide +kernel
theorem dX9_asks_17 : decode cX9_asks 17 = .ok (.iload_n 2, 1) := by decide +kernel
theorem dX9_asks_18 : decode cX9_asks 18 = .ok (.iload_n 1, 1) := by decide +kernel
theorem dX9_asks_19 : decode cX9_asks 19 = .ok (.if_icmp .ne 6, 3) := by decide +kernel
theorem dX9_asks_22 : decode cX9_asks 22 = .ok (.bipush (-2), 2) := by decide +kernel
theorem dX9_asks_24 : decode cX9_asks 24 = .ok (.ireturn, 1) := by decide +kernel
theorem dX9_asks_25 : decode cX9_asks 25 = .ok (.aload_n 0, 1) := by decide +kernel
theorem dX9_asks_26 : decode cX9_asks 26 = .ok (.invokevirtual 136, 3) := by decide +kernel
theorem dX9_asks_29 : decode cX9_asks 29 = .ok (.aload_n 0, 1) := by decide +kernel
theorem dX9_asks_30 : decode cX9_asks 30 = .ok (.iload_n 1, 1) := by decide +kernel
theorem dX9_asks_31 : decode cX9_asks 31 = .ok (.putfield 7, 3) := by decide +kernel
theorem dX9_asks_34 : decode cX9_asks 34 = .ok (.iload_n 2, 1) := by decide +kernel
theorem dX9_asks_35 : decode cX9_asks 35 = .ok (.ireturn, 1) := by decide +kernel
theorem dX9_costs_0 : decode cX9_costs 0 = .ok (.iload_n 1, 1) := by decide +kernel
theorem dX9_costs_1 : decode cX9_costs 1 = .ok (.iconst 0, 1) := by decide +kernel
theorem dX9_costs_2 : decode cX9_costs 2 = .ok (.sipush 999, 3) := by decide +kernel
theorem dX9_costs_5 : decode cX9_costs 5 = .ok (.invokestatic 63, 3) := by decide +kernel
theorem dX9_costs_8 : decode cX9_costs 8 = .ok (.ifCond .ne 5, 3) := by decide +kernel
theorem dX9_costs_11 : decode cX9_costs 11 = .ok (.iconst (-1), 1) := by decide +kernel
theorem dX9_costs_12 : decode cX9_costs 12 = .ok (.ireturn, 1) := by decide +kernel
theorem dX9_costs_13 : decode cX9_costs 13 = .ok (.aload_n 0, 1) := by decide +kernel
theorem dX9_costs_14 : decode cX9_costs 14 = .ok (.getfield 116, 3) := by decide +kernel
theorem dX9_costs_17 : decode cX9_costs 17 = .ok (.istore_n 2, 1) := by decide +kernel
theorem dX9_costs_18 : decode cX9_costs 18 = .ok (.iload_n 2, 1) := by decide +kernel
theorem dX9_costs_19 : decode cX9_costs 19 = .ok (.iload_n 1, 1) := by decide +kernel
theorem dX9_costs_20 : decode cX9_costs 20 = .ok (.if_icmp .ne 6, 3) := by decide +kernel
theorem dX9_costs_23 : decode cX9_costs 23 = .ok (.bipush (-2), 2) := by decide +kernel
theorem dX9_costs_25 : decode cX9_costs 25 = .ok (.ireturn, 1) := by decide +kernel
theorem dX9_costs_26 : decode cX9_costs 26 = .ok (.aload_n 0, 1) := by decide +kernel
theorem dX9_costs_27 : decode cX9_costs 27 = .ok (.invokevirtual 136, 3) := by decide +kernel
theorem dX9_costs_30 : decode cX9_costs 30 = .ok (.aload_n 0, 1) := by decide +kernel
theorem dX9_costs_31 : decode cX9_costs 31 = .ok (.iload_n 1, 1) := by decide +kernel
theorem dX9_costs_32 : decode cX9_costs 32 = .ok (.putfield 116, 3) := by decide +kernel
theorem dX9_costs_35 : decode cX9_costs 35 = .ok (.iload_n 2, 1) := by decide +kernel
theorem dX9_costs_36 : decode cX9_costs 36 = .ok (.ireturn, 1) := by decide +kernel
theorem dX9_undo_0 : decode cX9_undo 0 = .ok (.aload_n 0, 1) := by decide +kernel
theorem dX9_undo_1 : decode cX9_undo 1 = .ok (.getfield 122, 3) := by decide +kernel
theorem dX9_undo_4 : decode cX9_undo 4 = .ok (.ifCond .ne 6, 3) := by decide +kernel
theorem dX9_undo_7 : decode cX9_undo 7 = .ok (.bipush (-2), 2) := by decide +kernel
theorem dX9_undo_9 : decode cX9_undo 9 = .ok (.ireturn, 1) := by decide +kernel
theorem dX9_undo_10 : decode cX9_undo 10 = .ok (.aload_n 0, 1) := by decide +kernel
theorem dX9_undo_11 : decode cX9_undo 11 = .ok (.dup, 1) := by decide +kernel
theorem dX9_undo_12 : decode cX9_undo 12 = .ok (.getfield 122, 3) := by decide +kernel
theorem dX9_undo_15 : decode cX9_undo 15 = .ok (.iconst 1, 1) := by decide +kernel
theorem dX9_undo_16 : decode cX9_undo 16 = .ok (.isub, 1) := by decide +kernel
theorem dX9_undo_17 : decode cX9_undo 17 = .ok (.putfield 122, 3) := by decide +kernel
theorem dX9_undo_20 : decode cX9_undo 20 = .ok (.aload_n 0, 1) := by decide +kernel
theorem dX9_undo_21 : decode cX9_undo 21 = .ok (.aload_n 0, 1) := by decide +kernel
theorem dX9_undo_22 : decode cX9_undo 22 = .ok (.getfield 32, 3) := by decide +kernel
theorem dX9_undo_25 : decode cX9_undo 25 = .ok (.bipush 57, 2) := by decide +kernel
theorem dX9_undo_27 : decode cX9_undo 27 = .ok (.aload_n 0, 1) := by decide +kernel
theorem dX9_undo_28 : decode cX9_undo 28 = .ok (.getfield 122, 3) := by decide +kernel
theorem dX9_undo_31 : decode cX9_undo 31 = .ok (.imul, 1) := by decide +kernel
theorem dX9_undo_32 : decode cX9_undo 32 = .ok (.invokevirtual 139, 3) := by decide +kernel
theorem dX9_undo_35 : decode cX9_undo 35 = .ok (.aload_n 0, 1) := by decide +kernel
theorem dX9_undo_36 : decode cX9_undo 36 = .ok (.getfield 122, 3) := by decide +kernel
theorem dX9_undo_39 : decode cX9_undo 39 = .ok (.ireturn, 1) := by decide +kernel
theorem dX9_setSorted_0 : decode cX9_setSorted 0 = .ok (.aload_n 0, 1) := by decide +kernel
theorem dX9_setSorted_1 : decode cX9_setSorted 1 = .ok (.iconst 0, 1) := by decide +kernel
theorem dX9_setSorted_2 : decode cX9_setSorted 2 = .ok (.putfield 142, 3) := by decide +kernel
theorem dX9_setSorted_5 : decode cX9_setSorted 5 = .ok (.iconst (-1), 1) := by decide +kernel
theorem dX9_setSorted_6 : decode cX9_setSorted 6 = .ok (.istore_n 1, 1) := by decide +kernel
theorem dX9_setSorted_7 : decode cX9_setSorted 7 = .ok (.iconst 0, 1) := by decide +kernel
theorem dX9_setSorted_8 : decode cX9_setSorted 8 = .ok (.istore_n 2, 1) := by decide +kernel
theorem dX9_setSorted_9 : decode cX9_setSorted 9 = .ok (.iload_n 2, 1) := by decide +kernel
theorem dX9_setSorted_10 : decode cX9_setSorted 10 = .ok (.aload_n 0, 1) := by decide +kernel
theorem dX9_setSorted_11 : decode cX9_setSorted 11 = .ok (.getfield 60, 3) := by decide +kernel
theorem dX9_setSorted_14 : decode cX9_setSorted 14 = .ok (.if_icmp .ge 117, 3) := by decide +kernel
theorem dX9_setSorted_17 : decode cX9_setSorted 17 = .ok (.sipush 1000, 3) := by decide +kernel
theorem dX9_setSorted_20 : decode cX9_setSorted 20 = .ok (.istore_n 3, 1) := by decide +kernel
theorem dX9_setSorted_21 : decode cX9_setSorted 21 = .ok (.iconst 0, 1) := by decide +kernel
theorem dX9_setSorted_22 : decode cX9_setSorted 22 = .ok (.istore 4, 2) := by decide +kernel
theorem dX9_setSorted_24 : decode cX9_setSorted 24 = .ok (.iconst 0, 1) := by decide +kernel
theorem dX9_setSorted_25 : decode cX9_setSorted 25 = .ok (.istore 5, 2) := by decide +kernel
theorem dX9_setSorted_27 : decode cX9_setSorted 27 = .ok (.iload 5, 2) := by decide +kernel
theorem dX9_setSorted_29 : decode cX9_setSorted 29 = .ok (.aload_n 0, 1) := by decide +kernel
theorem dX9_setSorted_30 : decode cX9_setSorted 30 = .ok (.getfield 60, 3) := by decide +kernel
theorem dX9_setSorted_33 : decode cX9_setSorted 33 = .ok (.if_icmp .ge 52, 3) := by decide +kernel
theorem dX9_setSorted_36 : decode cX9_setSorted 36 = .ok (.aload_n 0, 1) := by decide +kernel
theorem dX9_setSorted_37 : decode cX9_setSorted 37 = .ok (.getfield 17, 3) := by decide +kernel
theorem dX9_setSorted_40 : decode cX9_setSorted 40 = .ok (.iload 5, 2) := by decide +kernel
theorem dX9_setSorted_42 : decode cX9_setSorted 42 = .ok (.iaload, 1) := by decide +kernel
theorem dX9_setSorted_43 : decode cX9_setSorted 43 = .ok (.istore 6, 2) := by decide +kernel
theorem dX9_setSorted_45 : decode cX9_setSorted 45 = .ok (.iload 6, 2) := by decide +kernel
theorem dX9_setSorted_47 : decode cX9_setSorted 47 = .ok (.iload_n 1, 1) := by decide +kernel
theorem dX9_setSorted_48 : decode cX9_setSorted 48 = .ok (.if_icmp .le 15, 3) := by decide +kernel
theorem dX9_setSorted_51 : decode cX9_setSorted 51 = .ok (.iload 6, 2) := by decide +kernel
theorem dX9_setSorted_53 : decode cX9_setSorted 53 = .ok (.iload_n 3, 1) := by decide +kernel
theorem dX9_setSorted_54 : decode cX9_setSorted 54 = .ok (.if_icmp .ge 9, 3) := by decide +kernel
theorem dX9_setSorted_57 : decode cX9_setSorted 57 = .ok (.iload 6, 2) := by decide +kernel
theorem dX9_setSorted_59 : decode cX9_setSorted 59 = .ok (.istore_n 3, 1) := by decide +kernel
theorem dX9_setSorted_60 : decode cX9_setSorted 60 = .ok (.iconst 0, 1) := by decide +kernel
theorem dX9_setSorted_61 : decode cX9_setSorted 61 = .ok (.istore 4, 2) := by decide +kernel
theorem dX9_setSorted_63 : decode cX9_setSorted 63 = .ok (.iload 4, 2) := by decide +kernel
theorem dX9_setSorted_65 : decode cX9_setSorted 65 = .ok (.iload 6, 2) := by decide +kernel
theorem dX9_setSorted_67 : decode cX9_setSorted 67 = .ok (.iload_n 3, 1) := by decide +kernel
theorem dX9_setSorted_68 : decode cX9_setSorted 68 = .ok (.if_icmp .ne 7, 3) := by decide +kernel
theorem dX9_setSorted_71 : decode cX9_setSorted 71 = .ok (.iconst 1, 1) := by decide +kernel
theorem dX9_setSorted_72 : decode cX9_setSorted 72 = .ok (.goto 4, 3) := by decide +kernel
theorem dX9_setSorted_75 : decode cX9_setSorted 75 = .ok (.iconst 0, 1) := by decide +kernel
theorem dX9_setSorted_76 : decode cX9_setSorted 76 = .ok (.iadd, 1) := by decide +kernel
theorem dX9_setSorted_77 : decode cX9_setSorted 77 = .ok (.istore 4, 2) := by decide +kernel
theorem dX9_setSorted_79 : decode cX9_setSorted 79 = .ok (.iinc 5 1, 3) := by decide +kernel
theorem dX9_setSorted_82 : decode cX9_setSorted 82 = .ok (.goto (-55), 3) := by decide +kernel
theorem dX9_setSorted_85 : decode cX9_setSorted 85 = .ok (.iload_n 3, 1) := by decide +kernel
theorem dX9_setSorted_86 : decode cX9_setSorted 86 = .ok (.sipush 999, 3) := by decide +kernel
theorem dX9_setSorted_89 : decode cX9_setSorted 89 = .ok (.if_icmp .gt 36, 3) := by decide +kernel
theorem dX9_setSorted_92 : decode cX9_setSorted 92 = .ok (.aload_n 0, 1) := by decide +kernel
theorem dX9_setSorted_93 : decode cX9_setSorted 93 = .ok (.getfield 38, 3) := by decide +kernel
theorem dX9_setSorted_96 : decode cX9_setSorted 96 = .ok (.aload_n 0, 1) := by decide +kernel
theorem dX9_setSorted_97 : decode cX9_setSorted 97 = .ok (.getfield 142, 3) := by decide +kernel
theorem dX9_setSorted_100 : decode cX9_setSorted 100 = .ok (.iload_n 3, 1) := by decide +kernel
theorem dX9_setSorted_101 : decode cX9_setSorted 101 = .ok (.iastore, 1) := by decide +kernel
theorem dX9_setSorted_102 : decode cX9_setSorted 102 = .ok (.aload_n 0, 1) := by decide +kernel
theorem dX9_setSorted_103 : decode cX9_setSorted 103 = .ok (.getfield 41, 3) := by decide +kernel
theorem dX9_setSorted_106 : decode cX9_setSorted 106 = .ok (.aload_n 0, 1) := by decide +kernel
theorem dX9_setSorted_107 : decode cX9_setSorted 107 = .ok (.getfield 142, 3) := by decide +kernel
theorem dX9_setSorted_110 : decode cX9_setSorted 110 = .ok (.iload 4, 2) := by decide +kernel
theorem dX9_setSorted_112 : decode cX9_setSorted 112 = .ok (.iastore, 1) := by decide +kernel
theorem dX9_setSorted_113 : decode cX9_setSorted 113 = .ok (.aload_n 0, 1) := by decide +kernel
theorem dX9_setSorted_114 : decode cX9_setSorted 114 = .ok (.dup, 1) := by decide +kernel
theorem dX9_setSorted_115 : decode cX9_setSorted 115 = .ok (.getfield 142, 3) := by decide +kernel
theorem dX9_setSorted_118 : decode cX9_setSorted 118 = .ok (.iconst 1, 1) := by decide +kernel
theorem dX9_setSorted_119 : decode cX9_setSorted 119 = .ok (.iadd, 1) := by decide +kernel
theorem dX9_setSorted_120 : decode cX9_setSorted 120 = .ok (.putfield 142, 3) := by decide +kernel
theorem dX9_setSorted_123 : decode cX9_setSorted 123 = .ok (.iload_n 3, 1) := by decide +kernel
theorem dX9_setSorted_124 : decode cX9_setSorted 124 = .ok (.istore_n 1, 1) := by decide +kernel
theorem dX9_setSorted_125 : decode cX9_setSorted 125 = .ok (.iinc 2 1, 3) := by decide +kernel
theorem dX9_setSorted_128 : decode cX9_setSorted 128 = .ok (.goto (-119), 3) := by decide +kernel
theorem dX9_setSorted_131 : decode cX9_setSorted 131 = .ok (.return_, 1) := by decide +kernel
theorem dX9_spreadOf_0 : decode cX9_spreadOf 0 = .ok (.lconst 0, 1) := by decide +kernel
theorem dX9_spreadOf_1 : decode cX9_spreadOf 1 = .ok (.lstore_n 3, 1) := by decide +kernel
theorem dX9_spreadOf_2 : decode cX9_spreadOf 2 = .ok (.lconst 0, 1) := by decide +kernel
theorem dX9_spreadOf_3 : decode cX9_spreadOf 3 = .ok (.lstore 5, 2) := by decide +kernel
theorem dX9_spreadOf_5 : decode cX9_spreadOf 5 = .ok (.iconst 0, 1) := by decide +kernel
theorem dX9_spreadOf_6 : decode cX9_spreadOf 6 = .ok (.istore 7, 2) := by decide +kernel
theorem dX9_spreadOf_8 : decode cX9_spreadOf 8 = .ok (.iload_n 1, 1) := by decide +kernel
theorem dX9_spreadOf_9 : decode cX9_spreadOf 9 = .ok (.istore 8, 2) := by decide +kernel
theorem dX9_spreadOf_11 : decode cX9_spreadOf 11 = .ok (.iload 8, 2) := by decide +kernel
theorem dX9_spreadOf_13 : decode cX9_spreadOf 13 = .ok (.iload_n 2, 1) := by decide +kernel
theorem dX9_spreadOf_14 : decode cX9_spreadOf 14 = .ok (.if_icmp .ge 72, 3) := by decide +kernel
theorem dX9_spreadOf_17 : decode cX9_spreadOf 17 = .ok (.lload_n 3, 1) := by decide +kernel
theorem dX9_spreadOf_18 : decode cX9_spreadOf 18 = .ok (.aload_n 0, 1) := by decide +kernel
theorem dX9_spreadOf_19 : decode cX9_spreadOf 19 = .ok (.getfield 38, 3) := by decide +kernel
theorem dX9_spreadOf_22 : decode cX9_spreadOf 22 = .ok (.iload 8, 2) := by decide +kernel
theorem dX9_spreadOf_24 : decode cX9_spreadOf 24 = .ok (.iaload, 1) := by decide +kernel
theorem dX9_spreadOf_25 : decode cX9_spreadOf 25 = .ok (.i2l, 1) := by decide +kernel
theorem dX9_spreadOf_26 : decode cX9_spreadOf 26 = .ok (.aload_n 0, 1) := by decide +kernel
theorem dX9_spreadOf_27 : decode cX9_spreadOf 27 = .ok (.getfield 38, 3) := by decide +kernel
theorem dX9_spreadOf_30 : decode cX9_spreadOf 30 = .ok (.iload 8, 2) := by decide +kernel
theorem dX9_spreadOf_32 : decode cX9_spreadOf 32 = .ok (.iaload, 1) := by decide +kernel
theorem dX9_spreadOf_33 : decode cX9_spreadOf 33 = .ok (.i2l, 1) := by decide +kernel
theorem dX9_spreadOf_34 : decode cX9_spreadOf 34 = .ok (.lmul, 1) := by decide +kernel
theorem dX9_spreadOf_35 : decode cX9_spreadOf 35 = .ok (.aload_n 0, 1) := by decide +kernel
theorem dX9_spreadOf_36 : decode cX9_spreadOf 36 = .ok (.getfield 41, 3) := by decide +kernel
theorem dX9_spreadOf_39 : decode cX9_spreadOf 39 = .ok (.iload 8, 2) := by decide +kernel
theorem dX9_spreadOf_41 : decode cX9_spreadOf 41 = .ok (.iaload, 1) := by decide +kernel
theorem dX9_spreadOf_42 : decode cX9_spreadOf 42 = .ok (.i2l, 1) := by decide +kernel
theorem dX9_spreadOf_43 : decode cX9_spreadOf 43 = .ok (.lmul, 1) := by decide +kernel
theorem dX9_spreadOf_44 : decode cX9_spreadOf 44 = .ok (.ladd, 1) := by decide +kernel
theorem dX9_spreadOf_45 : decode cX9_spreadOf 45 = .ok (.lstore_n 3, 1) := by decide +kernel
theorem dX9_spreadOf_46 : decode cX9_spreadOf 46 = .ok (.lload 5, 2) := by decide +kernel
theorem dX9_spreadOf_48 : decode cX9_spreadOf 48 = .ok (.aload_n 0, 1) := by decide +kernel
theorem dX9_spreadOf_49 : decode cX9_spreadOf 49 = .ok (.getfield 38, 3) := by decide +kernel
theorem dX9_spreadOf_52 : decode cX9_spreadOf 52 = .ok (.iload 8, 2) := by decide +kernel
theorem dX9_spreadOf_54 : decode cX9_spreadOf 54 = .ok (.iaload, 1) := by decide +kernel
theorem dX9_spreadOf_55 : decode cX9_spreadOf 55 = .ok (.i2l, 1) := by decide +kernel
theorem dX9_spreadOf_56 : decode cX9_spreadOf 56 = .ok (.aload_n 0, 1) := by decide +kernel
theorem dX9_spreadOf_57 : decode cX9_spreadOf 57 = .ok (.getfield 41, 3) := by decide +kernel
theorem dX9_spreadOf_60 : decode cX9_spreadOf 60 = .ok (.iload 8, 2) := by decide +kernel
theorem dX9_spreadOf_62 : decode cX9_spreadOf 62 = .ok (.iaload, 1) := by decide +kernel
theorem dX9_spreadOf_63 : decode cX9_spreadOf 63 = .ok (.i2l, 1) := by decide +kernel
theorem dX9_spreadOf_64 : decode cX9_spreadOf 64 = .ok (.lmul, 1) := by decide +kernel
theorem dX9_spreadOf_65 : decode cX9_spreadOf 65 = .ok (.ladd, 1) := by decide +kernel
theorem dX9_spreadOf_66 : decode cX9_spreadOf 66 = .ok (.lstore 5, 2) := by decide +kernel
theorem dX9_spreadOf_68 : decode cX9_spreadOf 68 = .ok (.iload 7, 2) := by decide +kernel
theorem dX9_spreadOf_70 : decode cX9_spreadOf 70 = .ok (.aload_n 0, 1) := by decide +kernel
theorem dX9_spreadOf_71 : decode cX9_spreadOf 71 = .ok (.getfield 41, 3) := by decide +kernel
theorem dX9_spreadOf_74 : decode cX9_spreadOf 74 = .ok (.iload 8, 2) := by decide +kernel
theorem dX9_spreadOf_76 : decode cX9_spreadOf 76 = .ok (.iaload, 1) := by decide +kernel
theorem dX9_spreadOf_77 : decode cX9_spreadOf 77 = .ok (.iadd, 1) := by decide +kernel
theorem dX9_spreadOf_78 : decode cX9_spreadOf 78 = .ok (.istore 7, 2) := by decide +kernel
theorem dX9_spreadOf_80 : decode cX9_spreadOf 80 = .ok (.iinc 8 1, 3) := by decide +kernel
theorem dX9_spreadOf_83 : decode cX9_spreadOf 83 = .ok (.goto (-72), 3) := by decide +kernel
theorem dX9_spreadOf_86 : decode cX9_spreadOf 86 = .ok (.lload_n 3, 1) := by decide +kernel
theorem dX9_spreadOf_87 : decode cX9_spreadOf 87 = .ok (.ldc2_w 145, 3) := by decide +kernel
theorem dX9_spreadOf_90 : decode cX9_spreadOf 90 = .ok (.lmul, 1) := by decide +kernel
theorem dX9_spreadOf_91 : decode cX9_spreadOf 91 = .ok (.lload 5, 2) := by decide +kernel
theorem dX9_spreadOf_93 : decode cX9_spreadOf 93 = .ok (.lload 5, 2) := by decide +kernel
theorem dX9_spreadOf_95 : decode cX9_spreadOf 95 = .ok (.lmul, 1) := by decide +kernel
theorem dX9_spreadOf_96 : decode cX9_spreadOf 96 = .ok (.ldc2_w 145, 3) := by decide +kernel
theorem dX9_spreadOf_99 : decode cX9_spreadOf 99 = .ok (.iload 7, 2) := by decide +kernel
theorem dX9_spreadOf_101 : decode cX9_spreadOf 101 = .ok (.i2l, 1) := by decide +kernel
theorem dX9_spreadOf_102 : decode cX9_spreadOf 102 = .ok (.ldiv, 1) := by decide +kernel
theorem dX9_spreadOf_103 : decode cX9_spreadOf 103 = .ok (.lmul, 1) := by decide +kernel
theorem dX9_spreadOf_104 : decode cX9_spreadOf 104 = .ok (.lsub, 1) := by decide +kernel
theorem dX9_spreadOf_105 : decode cX9_spreadOf 105 = .ok (.lreturn, 1) := by decide +kernel
theorem dX9_isOld_0 : decode cX9_isOld 0 = .ok (.iconst 0, 1) := by decide +kernel
theorem dX9_isOld_1 : decode cX9_isOld 1 = .ok (.istore_n 2, 1) := by decide +kernel
theorem dX9_isOld_2 : decode cX9_isOld 2 = .ok (.iconst 0, 1) := by decide +kernel
theorem dX9_isOld_3 : decode cX9_isOld 3 = .ok (.istore_n 3, 1) := by decide +kernel
theorem dX9_isOld_4 : decode cX9_isOld 4 = .ok (.iload_n 3, 1) := by decide +kernel
theorem dX9_isOld_5 : decode cX9_isOld 5 = .ok (.iconst 1, 1) := by decide +kernel
theorem dX9_isOld_6 : decode cX9_isOld 6 = .ok (.iadd, 1) := by decide +kernel
theorem dX9_isOld_7 : decode cX9_isOld 7 = .ok (.aload_n 0, 1) := by decide +kernel
theorem dX9_isOld_8 : decode cX9_isOld 8 = .ok (.getfield 119, 3) := by decide +kernel
theorem dX9_isOld_11 : decode cX9_isOld 11 = .ok (.if_icmp .ge 29, 3) := by decide +kernel
theorem dX9_isOld_14 : decode cX9_isOld 14 = .ok (.iload_n 2, 1) := by decide +kernel
theorem dX9_isOld_15 : decode cX9_isOld 15 = .ok (.ifCond .ne 13, 3) := by decide +kernel
theorem dX9_isOld_18 : decode cX9_isOld 18 = .ok (.aload_n 0, 1) := by decide +kernel
theorem dX9_isOld_19 : decode cX9_isOld 19 = .ok (.getfield 20, 3) := by decide +kernel
theorem dX9_isOld_22 : decode cX9_isOld 22 = .ok (.iload_n 3, 1) := by decide +kernel
theorem dX9_isOld_23 : decode cX9_isOld 23 = .ok (.iaload, 1) := by decide +kernel
theorem dX9_isOld_24 : decode cX9_isOld 24 = .ok (.iload_n 1, 1) := by decide +kernel
theorem dX9_isOld_25 : decode cX9_isOld 25 = .ok (.if_icmp .ne 7, 3) := by decide +kernel
theorem dX9_isOld_28 : decode cX9_isOld 28 = .ok (.iconst 1, 1) := by decide +kernel
theorem dX9_isOld_29 : decode cX9_isOld 29 = .ok (.goto 4, 3) := by decide +kernel
theorem dX9_isOld_32 : decode cX9_isOld 32 = .ok (.iconst 0, 1) := by decide +kernel
theorem dX9_isOld_33 : decode cX9_isOld 33 = .ok (.istore_n 2, 1) := by decide +kernel
theorem dX9_isOld_34 : decode cX9_isOld 34 = .ok (.iinc 3 1, 3) := by decide +kernel
theorem dX9_isOld_37 : decode cX9_isOld 37 = .ok (.goto (-33), 3) := by decide +kernel
theorem dX9_isOld_40 : decode cX9_isOld 40 = .ok (.iload_n 2, 1) := by decide +kernel
theorem dX9_isOld_41 : decode cX9_isOld 41 = .ok (.ireturn, 1) := by decide +kernel
theorem dX9_borderAt_0 : decode cX9_borderAt 0 = .ok (.iload_n 2, 1) := by decide +kernel
theorem dX9_borderAt_1 : decode cX9_borderAt 1 = .ok (.ifCond .ne 23, 3) := by decide +kernel
theorem dX9_borderAt_4 : decode cX9_borderAt 4 = .ok (.aload_n 0, 1) := by decide +kernel
theorem dX9_borderAt_5 : decode cX9_borderAt 5 = .ok (.getfield 119, 3) := by decide +kernel
theorem dX9_borderAt_8 : decode cX9_borderAt 8 = .ok (.ifCond .eq 16, 3) := by decide +kernel
theorem dX9_borderAt_11 : decode cX9_borderAt 11 = .ok (.aload_n 0, 1) := by decide +kernel
theorem dX9_borderAt_12 : decode cX9_borderAt 12 = .ok (.aload_n 0, 1) := by decide +kernel
theorem dX9_borderAt_13 : decode cX9_borderAt 13 = .ok (.getfield 38, 3) := by decide +kernel
theorem dX9_borderAt_16 : decode cX9_borderAt 16 = .ok (.iload_n 1, 1) := by decide +kernel
theorem dX9_borderAt_17 : decode cX9_borderAt 17 = .ok (.iaload, 1) := by decide +kernel
theorem dX9_borderAt_18 : decode cX9_borderAt 18 = .ok (.invokevirtual 147, 3) := by decide +kernel
theorem dX9_borderAt_21 : decode cX9_borderAt 21 = .ok (.ifCond .eq 7, 3) := by decide +kernel
theorem dX9_borderAt_24 : decode cX9_borderAt 24 = .ok (.lconst 0, 1) := by decide +kernel
theorem dX9_borderAt_25 : decode cX9_borderAt 25 = .ok (.goto 12, 3) := by decide +kernel
theorem dX9_borderAt_28 : decode cX9_borderAt 28 = .ok (.aload_n 0, 1) := by decide +kernel
theorem dX9_borderAt_29 : decode cX9_borderAt 29 = .ok (.getfield 116, 3) := by decide +kernel
theorem dX9_borderAt_32 : decode cX9_borderAt 32 = .ok (.i2l, 1) := by decide +kernel
theorem dX9_borderAt_33 : decode cX9_borderAt 33 = .ok (.ldc2_w 145, 3) := by decide +kernel
theorem dX9_borderAt_36 : decode cX9_borderAt 36 = .ok (.lmul, 1) := by decide +kernel
theorem dX9_borderAt_37 : decode cX9_borderAt 37 = .ok (.lreturn, 1) := by decide +kernel
theorem dX9_setFrom_0 : decode cX9_setFrom 0 = .ok (.bipush 25, 2) := by decide +kernel
theorem dX9_setFrom_2 : decode cX9_setFrom 2 = .ok (.iload_n 1, 1) := by decide +kernel
theorem dX9_setFrom_3 : decode cX9_setFrom 3 = .ok (.imul, 1) := by decide +kernel
theorem dX9_setFrom_4 : decode cX9_setFrom 4 = .ok (.iload_n 2, 1) := by decide +kernel
theorem dX9_setFrom_5 : decode cX9_setFrom 5 = .ok (.iadd, 1) := by decide +kernel
theorem dX9_setFrom_6 : decode cX9_setFrom 6 = .ok (.istore 4, 2) := by decide +kernel
theorem dX9_setFrom_8 : decode cX9_setFrom 8 = .ok (.aload_n 0, 1) := by decide +kernel
theorem dX9_setFrom_9 : decode cX9_setFrom 9 = .ok (.getfield 44, 3) := by decide +kernel
theorem dX9_setFrom_12 : decode cX9_setFrom 12 = .ok (.iload 4, 2) := by decide +kernel
theorem dX9_setFrom_14 : decode cX9_setFrom 14 = .ok (.ldc2_w 150, 3) := by decide +kernel
theorem dX9_setFrom_17 : decode cX9_setFrom 17 = .ok (.lastore, 1) := by decide +kernel
theorem dX9_setFrom_18 : decode cX9_setFrom 18 = .ok (.aload_n 0, 1) := by decide +kernel
theorem dX9_setFrom_19 : decode cX9_setFrom 19 = .ok (.getfield 48, 3) := by decide +kernel
theorem dX9_setFrom_22 : decode cX9_setFrom 22 = .ok (.iload 4, 2) := by decide +kernel
theorem dX9_setFrom_24 : decode cX9_setFrom 24 = .ok (.aload_n 0, 1) := by decide +kernel
theorem dX9_setFrom_25 : decode cX9_setFrom 25 = .ok (.getfield 142, 3) := by decide +kernel
theorem dX9_setFrom_28 : decode cX9_setFrom 28 = .ok (.iastore, 1) := by decide +kernel
theorem dX9_setFrom_29 : decode cX9_setFrom 29 = .ok (.iload_n 1, 1) := by decide +kernel
theorem dX9_setFrom_30 : decode cX9_setFrom 30 = .ok (.iconst 1, 1) := by decide +kernel
theorem dX9_setFrom_31 : decode cX9_setFrom 31 = .ok (.if_icmp .ne 20, 3) := by decide +kernel
theorem dX9_setFrom_34 : decode cX9_setFrom 34 = .ok (.aload_n 0, 1) := by decide +kernel
theorem dX9_setFrom_35 : decode cX9_setFrom 35 = .ok (.getfield 44, 3) := by decide +kernel
theorem dX9_setFrom_38 : decode cX9_setFrom 38 = .ok (.iload 4, 2) := by decide +kernel
theorem dX9_setFrom_40 : decode cX9_setFrom 40 = .ok (.aload_n 0, 1) := by decide +kernel
theorem dX9_setFrom_41 : decode cX9_setFrom 41 = .ok (.iload_n 2, 1) := by decide +kernel
theorem dX9_setFrom_42 : decode cX9_setFrom 42 = .ok (.aload_n 0, 1) := by decide +kernel
theorem dX9_setFrom_43 : decode cX9_setFrom 43 = .ok (.getfield 142, 3) := by decide +kernel
theorem dX9_setFrom_46 : decode cX9_setFrom 46 = .ok (.invokevirtual 152, 3) := by decide +kernel
theorem dX9_setFrom_49 : decode cX9_setFrom 49 = .ok (.lastore, 1) := by decide +kernel
theorem dX9_setFrom_50 : decode cX9_setFrom 50 = .ok (.return_, 1) := by decide +kernel
theorem dX9_setFrom_51 : decode cX9_setFrom 51 = .ok (.iload_n 2, 1) := by decide +kernel
theorem dX9_setFrom_52 : decode cX9_setFrom 52 = .ok (.iconst 1, 1) := by decide +kernel
theorem dX9_setFrom_53 : decode cX9_setFrom 53 = .ok (.iadd, 1) := by decide +kernel
theorem dX9_setFrom_54 : decode cX9_setFrom 54 = .ok (.istore 5, 2) := by decide +kernel
theorem dX9_setFrom_56 : decode cX9_setFrom 56 = .ok (.iload 5, 2) := by decide +kernel
theorem dX9_setFrom_58 : decode cX9_setFrom 58 = .ok (.aload_n 0, 1) := by decide +kernel
theorem dX9_setFrom_59 : decode cX9_setFrom 59 = .ok (.getfield 142, 3) := by decide +kernel
theorem dX9_setFrom_62 : decode cX9_setFrom 62 = .ok (.iload_n 1, 1) := by decide +kernel
theorem dX9_setFrom_63 : decode cX9_setFrom 63 = .ok (.isub, 1) := by decide +kernel
theorem dX9_setFrom_64 : decode cX9_setFrom 64 = .ok (.iconst 1, 1) := by decide +kernel
theorem dX9_setFrom_65 : decode cX9_setFrom 65 = .ok (.iadd, 1) := by decide +kernel
theorem dX9_setFrom_66 : decode cX9_setFrom 66 = .ok (.if_icmp .gt 72, 3) := by decide +kernel
theorem dX9_setFrom_69 : decode cX9_setFrom 69 = .ok (.aload_n 0, 1) := by decide +kernel
theorem dX9_setFrom_70 : decode cX9_setFrom 70 = .ok (.iload_n 2, 1) := by decide +kernel
theorem dX9_setFrom_71 : decode cX9_setFrom 71 = .ok (.iload 5, 2) := by decide +kernel
theorem dX9_setFrom_73 : decode cX9_setFrom 73 = .ok (.invokevirtual 152, 3) := by decide +kernel
theorem dX9_setFrom_76 : decode cX9_setFrom 76 = .ok (.aload_n 0, 1) := by decide +kernel
theorem dX9_setFrom_77 : decode cX9_setFrom 77 = .ok (.iload 5, 2) := by decide +kernel
theorem dX9_setFrom_79 : decode cX9_setFrom 79 = .ok (.iload_n 3, 1) := by decide +kernel
theorem dX9_setFrom_80 : decode cX9_setFrom 80 = .ok (.invokevirtual 156, 3) := by decide +kernel
theorem dX9_setFrom_83 : decode cX9_setFrom 83 = .ok (.ladd, 1) := by decide +kernel
theorem dX9_setFrom_84 : decode cX9_setFrom 84 = .ok (.aload_n 0, 1) := by decide +kernel
theorem dX9_setFrom_85 : decode cX9_setFrom 85 = .ok (.getfield 44, 3) := by decide +kernel
theorem dX9_setFrom_88 : decode cX9_setFrom 88 = .ok (.bipush 25, 2) := by decide +kernel
theorem dX9_setFrom_90 : decode cX9_setFrom 90 = .ok (.iload_n 1, 1) := by decide +kernel
theorem dX9_setFrom_91 : decode cX9_setFrom 91 = .ok (.iconst 1, 1) := by decide +kernel
theorem dX9_setFrom_92 : decode cX9_setFrom 92 = .ok (.isub, 1) := by decide +kernel
theorem dX9_setFrom_93 : decode cX9_setFrom 93 = .ok (.imul, 1) := by decide +kernel
theorem dX9_setFrom_94 : decode cX9_setFrom 94 = .ok (.iload 5, 2) := by decide +kernel
theorem dX9_setFrom_96 : decode cX9_setFrom 96 = .ok (.iadd, 1) := by decide +kernel
theorem dX9_setFrom_97 : decode cX9_setFrom 97 = .ok (.laload, 1) := by decide +kernel
theorem dX9_setFrom_98 : decode cX9_setFrom 98 = .ok (.ladd, 1) := by decide +kernel
theorem dX9_setFrom_99 : decode cX9_setFrom 99 = .ok (.lstore 6, 2) := by decide +kernel
theorem dX9_setFrom_101 : decode cX9_setFrom 101 = .ok (.lload 6, 2) := by decide +kernel
theorem dX9_setFrom_103 : decode cX9_setFrom 103 = .ok (.aload_n 0, 1) := by decide +kernel
theorem dX9_setFrom_104 : decode cX9_setFrom 104 = .ok (.getfield 44, 3) := by decide +kernel
theorem dX9_setFrom_107 : decode cX9_setFrom 107 = .ok (.iload 4, 2) := by decide +kernel
theorem dX9_setFrom_109 : decode cX9_setFrom 109 = .ok (.laload, 1) := by decide +kernel
theorem dX9_setFrom_110 : decode cX9_setFrom 110 = .ok (.lcmp, 1) := by decide +kernel
theorem dX9_setFrom_111 : decode cX9_setFrom 111 = .ok (.ifCond .ge 21, 3) := by decide +kernel
theorem dX9_setFrom_114 : decode cX9_setFrom 114 = .ok (.aload_n 0, 1) := by decide +kernel
theorem dX9_setFrom_115 : decode cX9_setFrom 115 = .ok (.getfield 44, 3) := by decide +kernel
theorem dX9_setFrom_118 : decode cX9_setFrom 118 = .ok (.iload 4, 2) := by decide +kernel
theorem dX9_setFrom_120 : decode cX9_setFrom 120 = .ok (.lload 6, 2) := by decide +kernel
theorem dX9_setFrom_122 : decode cX9_setFrom 122 = .ok (.lastore, 1) := by decide +kernel
theorem dX9_setFrom_123 : decode cX9_setFrom 123 = .ok (.aload_n 0, 1) := by decide +kernel
theorem dX9_setFrom_124 : decode cX9_setFrom 124 = .ok (.getfield 48, 3) := by decide +kernel
theorem dX9_setFrom_127 : decode cX9_setFrom 127 = .ok (.iload 4, 2) := by decide +kernel
theorem dX9_setFrom_129 : decode cX9_setFrom 129 = .ok (.iload 5, 2) := by decide +kernel
theorem dX9_setFrom_131 : decode cX9_setFrom 131 = .ok (.iastore, 1) := by decide +kernel
theorem dX9_setFrom_132 : decode cX9_setFrom 132 = .ok (.iinc 5 1, 3) := by decide +kernel
theorem dX9_setFrom_135 : decode cX9_setFrom 135 = .ok (.goto (-79), 3) := by decide +kernel
theorem dX9_setFrom_138 : decode cX9_setFrom 138 = .ok (.return_, 1) := by decide +kernel
theorem dX9_parts_0 : decode cX9_parts 0 = .ok (.aload_n 0, 1) := by decide +kernel
theorem dX9_parts_1 : decode cX9_parts 1 = .ok (.invokevirtual 160, 3) := by decide +kernel
theorem dX9_parts_4 : decode cX9_parts 4 = .ok (.aload_n 0, 1) := by decide +kernel
theorem dX9_parts_5 : decode cX9_parts 5 = .ok (.iload_n 1, 1) := by decide +kernel
theorem dX9_parts_6 : decode cX9_parts 6 = .ok (.aload_n 0, 1) := by decide +kernel
theorem dX9_parts_7 : decode cX9_parts 7 = .ok (.getfield 142, 3) := by decide +kernel
theorem dX9_parts_10 : decode cX9_parts 10 = .ok (.if_icmp .ge 7, 3) := by decide +kernel
theorem dX9_parts_13 : decode cX9_parts 13 = .ok (.iload_n 1, 1) := by decide +kernel
theorem dX9_parts_14 : decode cX9_parts 14 = .ok (.goto 7, 3) := by decide +kernel
theorem dX9_parts_17 : decode cX9_parts 17 = .ok (.aload_n 0, 1) := by decide +kernel
theorem dX9_parts_18 : decode cX9_parts 18 = .ok (.getfield 142, 3) := by decide +kernel
theorem dX9_parts_21 : decode cX9_parts 21 = .ok (.putfield 163, 3) := by decide +kernel
theorem dX9_parts_24 : decode cX9_parts 24 = .ok (.iconst 1, 1) := by decide +kernel
theorem dX9_parts_25 : decode cX9_parts 25 = .ok (.istore_n 3, 1) := by decide +kernel
theorem dX9_parts_26 : decode cX9_parts 26 = .ok (.iload_n 3, 1) := by decide +kernel
theorem dX9_parts_27 : decode cX9_parts 27 = .ok (.aload_n 0, 1) := by decide +kernel
theorem dX9_parts_28 : decode cX9_parts 28 = .ok (.getfield 163, 3) := by decide +kernel
theorem dX9_parts_31 : decode cX9_parts 31 = .ok (.if_icmp .gt 37, 3) := by decide +kernel
theorem dX9_parts_34 : decode cX9_parts 34 = .ok (.iconst 0, 1) := by decide +kernel
theorem dX9_parts_35 : decode cX9_parts 35 = .ok (.istore 4, 2) := by decide +kernel
theorem dX9_parts_37 : decode cX9_parts 37 = .ok (.iload 4, 2) := by decide +kernel
theorem dX9_parts_39 : decode cX9_parts 39 = .ok (.aload_n 0, 1) := by decide +kernel
theorem dX9_parts_40 : decode cX9_parts 40 = .ok (.getfield 142, 3) := by decide +kernel
theorem dX9_parts_43 : decode cX9_parts 43 = .ok (.iload_n 3, 1) := by decide +kernel
theorem dX9_parts_44 : decode cX9_parts 44 = .ok (.isub, 1) := by decide +kernel
theorem dX9_parts_45 : decode cX9_parts 45 = .ok (.if_icmp .gt 17, 3) := by decide +kernel
theorem dX9_parts_48 : decode cX9_parts 48 = .ok (.aload_n 0, 1) := by decide +kernel
theorem dX9_parts_49 : decode cX9_parts 49 = .ok (.iload_n 3, 1) := by decide +kernel
theorem dX9_parts_50 : decode cX9_parts 50 = .ok (.iload 4, 2) := by decide +kernel
theorem dX9_parts_52 : decode cX9_parts 52 = .ok (.iload_n 2, 1) := by decide +kernel
theorem dX9_parts_53 : decode cX9_parts 53 = .ok (.invokevirtual 166, 3) := by decide +kernel
theorem dX9_parts_56 : decode cX9_parts 56 = .ok (.iinc 4 1, 3) := by decide +kernel
theorem dX9_parts_59 : decode cX9_parts 59 = .ok (.goto (-22), 3) := by decide +kernel
theorem dX9_parts_62 : decode cX9_parts 62 = .ok (.iinc 3 1, 3) := by decide +kernel
theorem dX9_parts_65 : decode cX9_parts 65 = .ok (.goto (-39), 3) := by decide +kernel
theorem dX9_parts_68 : decode cX9_parts 68 = .ok (.iconst 0, 1) := by decide +kernel
theorem dX9_parts_69 : decode cX9_parts 69 = .ok (.istore_n 3, 1) := by decide +kernel
theorem dX9_parts_70 : decode cX9_parts 70 = .ok (.iconst 0, 1) := by decide +kernel
theorem dX9_parts_71 : decode cX9_parts 71 = .ok (.istore 4, 2) := by decide +kernel
theorem dX9_parts_73 : decode cX9_parts 73 = .ok (.iload 4, 2) := by decide +kernel
theorem dX9_parts_75 : decode cX9_parts 75 = .ok (.aload_n 0, 1) := by decide +kernel
theorem dX9_parts_76 : decode cX9_parts 76 = .ok (.getfield 163, 3) := by decide +kernel
theorem dX9_parts_79 : decode cX9_parts 79 = .ok (.if_icmp .ge 35, 3) := by decide +kernel
theorem dX9_parts_82 : decode cX9_parts 82 = .ok (.aload_n 0, 1) := by decide +kernel
theorem dX9_parts_83 : decode cX9_parts 83 = .ok (.getfield 51, 3) := by decide +kernel
theorem dX9_parts_86 : decode cX9_parts 86 = .ok (.iload 4, 2) := by decide +kernel
theorem dX9_parts_88 : decode cX9_parts 88 = .ok (.iload_n 3, 1) := by decide +kernel
theorem dX9_parts_89 : decode cX9_parts 89 = .ok (.iastore, 1) := by decide +kernel
theorem dX9_parts_90 : decode cX9_parts 90 = .ok (.aload_n 0, 1) := by decide +kernel
theorem dX9_parts_91 : decode cX9_parts 91 = .ok (.getfield 48, 3) := by decide +kernel
theorem dX9_parts_94 : decode cX9_parts 94 = .ok (.bipush 25, 2) := by decide +kernel
theorem dX9_parts_96 : decode cX9_parts 96 = .ok (.aload_n 0, 1) := by decide +kernel
theorem dX9_parts_97 : decode cX9_parts 97 = .ok (.getfield 163, 3) := by decide +kernel
theorem dX9_parts_100 : decode cX9_parts 100 = .ok (.iload 4, 2) := by decide +kernel
theorem dX9_parts_102 : decode cX9_parts 102 = .ok (.isub, 1) := by decide +kernel
theorem dX9_parts_103 : decode cX9_parts 103 = .ok (.imul, 1) := by decide +kernel
theorem dX9_parts_104 : decode cX9_parts 104 = .ok (.iload_n 3, 1) := by decide +kernel
theorem dX9_parts_105 : decode cX9_parts 105 = .ok (.iadd, 1) := by decide +kernel
theorem dX9_parts_106 : decode cX9_parts 106 = .ok (.iaload, 1) := by decide +kernel
theorem dX9_parts_107 : decode cX9_parts 107 = .ok (.istore_n 3, 1) := by decide +kernel
theorem dX9_parts_108 : decode cX9_parts 108 = .ok (.iinc 4 1, 3) := by decide +kernel
theorem dX9_parts_111 : decode cX9_parts 111 = .ok (.goto (-38), 3) := by decide +kernel
theorem dX9_parts_114 : decode cX9_parts 114 = .ok (.return_, 1) := by decide +kernel
theorem dX9_partsNow_0 : decode cX9_partsNow 0 = .ok (.aload_n 0, 1) := by decide +kernel
theorem dX9_partsNow_1 : decode cX9_partsNow 1 = .ok (.aload_n 0, 1) := by decide +kernel
theorem dX9_partsNow_2 : decode cX9_partsNow 2 = .ok (.getfield 7, 3) := by decide +kernel
theorem dX9_partsNow_5 : decode cX9_partsNow 5 = .ok (.iconst 0, 1) := by decide +kernel
theorem dX9_partsNow_6 : decode cX9_partsNow 6 = .ok (.invokevirtual 170, 3) := by decide +kernel
theorem dX9_partsNow_9 : decode cX9_partsNow 9 = .ok (.return_, 1) := by decide +kernel
theorem dX9_spreadOfRuns_0 : decode cX9_spreadOfRuns 0 = .ok (.lconst 0, 1) := by decide +kernel
theorem dX9_spreadOfRuns_1 : decode cX9_spreadOfRuns 1 = .ok (.lstore_n 1, 1) := by decide +kernel
theorem dX9_spreadOfRuns_2 : decode cX9_spreadOfRuns 2 = .ok (.iconst 0, 1) := by decide +kernel
theorem dX9_spreadOfRuns_3 : decode cX9_spreadOfRuns 3 = .ok (.istore_n 3, 1) := by decide +kernel
theorem dX9_spreadOfRuns_4 : decode cX9_spreadOfRuns 4 = .ok (.iload_n 3, 1) := by decide +kernel
theorem dX9_spreadOfRuns_5 : decode cX9_spreadOfRuns 5 = .ok (.aload_n 0, 1) := by decide +kernel
theorem dX9_spreadOfRuns_6 : decode cX9_spreadOfRuns 6 = .ok (.getfield 163, 3) := by decide +kernel
theorem dX9_spreadOfRuns_9 : decode cX9_spreadOfRuns 9 = .ok (.if_icmp .ge 47, 3) := by decide +kernel
theorem dX9_spreadOfRuns_12 : decode cX9_spreadOfRuns 12 = .ok (.lload_n 1, 1) := by decide +kernel
theorem dX9_spreadOfRuns_13 : decode cX9_spreadOfRuns 13 = .ok (.aload_n 0, 1) := by decide +kernel
theorem dX9_spreadOfRuns_14 : decode cX9_spreadOfRuns 14 = .ok (.aload_n 0, 1) := by decide +kernel
theorem dX9_spreadOfRuns_15 : decode cX9_spreadOfRuns 15 = .ok (.getfield 51, 3) := by decide +kernel
theorem dX9_spreadOfRuns_18 : decode cX9_spreadOfRuns 18 = .ok (.iload_n 3, 1) := by decide +kernel
theorem dX9_spreadOfRuns_19 : decode cX9_spreadOfRuns 19 = .ok (.iaload, 1) := by decide +kernel
theorem dX9_spreadOfRuns_20 : decode cX9_spreadOfRuns 20 = .ok (.iload_n 3, 1) := by decide +kernel
theorem dX9_spreadOfRuns_21 : decode cX9_spreadOfRuns 21 = .ok (.iconst 1, 1) := by decide +kernel
theorem dX9_spreadOfRuns_22 : decode cX9_spreadOfRuns 22 = .ok (.iadd, 1) := by decide +kernel
theorem dX9_spreadOfRuns_23 : decode cX9_spreadOfRuns 23 = .ok (.aload_n 0, 1) := by decide +kernel
theorem dX9_spreadOfRuns_24 : decode cX9_spreadOfRuns 24 = .ok (.getfield 163, 3) := by decide +kernel
theorem dX9_spreadOfRuns_27 : decode cX9_spreadOfRuns 27 = .ok (.if_icmp .ge 14, 3) := by decide +kernel
theorem dX9_spreadOfRuns_30 : decode cX9_spreadOfRuns 30 = .ok (.aload_n 0, 1) := by decide +kernel
theorem dX9_spreadOfRuns_31 : decode cX9_spreadOfRuns 31 = .ok (.getfield 51, 3) := by decide +kernel
theorem dX9_spreadOfRuns_34 : decode cX9_spreadOfRuns 34 = .ok (.iload_n 3, 1) := by decide +kernel
theorem dX9_spreadOfRuns_35 : decode cX9_spreadOfRuns 35 = .ok (.iconst 1, 1) := by decide +kernel
theorem dX9_spreadOfRuns_36 : decode cX9_spreadOfRuns 36 = .ok (.iadd, 1) := by decide +kernel
theorem dX9_spreadOfRuns_37 : decode cX9_spreadOfRuns 37 = .ok (.iaload, 1) := by decide +kernel
theorem dX9_spreadOfRuns_38 : decode cX9_spreadOfRuns 38 = .ok (.goto 7, 3) := by decide +kernel
theorem dX9_spreadOfRuns_41 : decode cX9_spreadOfRuns 41 = .ok (.aload_n 0, 1) := by decide +kernel
theorem dX9_spreadOfRuns_42 : decode cX9_spreadOfRuns 42 = .ok (.getfield 142, 3) := by decide +kernel
theorem dX9_spreadOfRuns_45 : decode cX9_spreadOfRuns 45 = .ok (.invokevirtual 152, 3) := by decide +kernel
theorem dX9_spreadOfRuns_48 : decode cX9_spreadOfRuns 48 = .ok (.ladd, 1) := by decide +kernel
theorem dX9_spreadOfRuns_49 : decode cX9_spreadOfRuns 49 = .ok (.lstore_n 1, 1) := by decide +kernel
theorem dX9_spreadOfRuns_50 : decode cX9_spreadOfRuns 50 = .ok (.iinc 3 1, 3) := by decide +kernel
theorem dX9_spreadOfRuns_53 : decode cX9_spreadOfRuns 53 = .ok (.goto (-49), 3) := by decide +kernel
theorem dX9_spreadOfRuns_56 : decode cX9_spreadOfRuns 56 = .ok (.lload_n 1, 1) := by decide +kernel
theorem dX9_spreadOfRuns_57 : decode cX9_spreadOfRuns 57 = .ok (.lreturn, 1) := by decide +kernel
theorem dX9_movedMany_0 : decode cX9_movedMany 0 = .ok (.iconst 0, 1) := by decide +kernel
theorem dX9_movedMany_1 : decode cX9_movedMany 1 = .ok (.istore_n 1, 1) := by decide +kernel
theorem dX9_movedMany_2 : decode cX9_movedMany 2 = .ok (.iconst 1, 1) := by decide +kernel
theorem dX9_movedMany_3 : decode cX9_movedMany 3 = .ok (.istore_n 2, 1) := by decide +kernel
theorem dX9_movedMany_4 : decode cX9_movedMany 4 = .ok (.iload_n 2, 1) := by decide +kernel
theorem dX9_movedMany_5 : decode cX9_movedMany 5 = .ok (.aload_n 0, 1) := by decide +kernel
theorem dX9_movedMany_6 : decode cX9_movedMany 6 = .ok (.getfield 163, 3) := by decide +kernel
theorem dX9_movedMany_9 : decode cX9_movedMany 9 = .ok (.if_icmp .ge 35, 3) := by decide +kernel
theorem dX9_movedMany_12 : decode cX9_movedMany 12 = .ok (.iload_n 1, 1) := by decide +kernel
theorem dX9_movedMany_13 : decode cX9_movedMany 13 = .ok (.aload_n 0, 1) := by decide +kernel
theorem dX9_movedMany_14 : decode cX9_movedMany 14 = .ok (.aload_n 0, 1) := by decide +kernel
theorem dX9_movedMany_15 : decode cX9_movedMany 15 = .ok (.getfield 38, 3) := by decide +kernel
theorem dX9_movedMany_18 : decode cX9_movedMany 18 = .ok (.aload_n 0, 1) := by decide +kernel
theorem dX9_movedMany_19 : decode cX9_movedMany 19 = .ok (.getfield 51, 3) := by decide +kernel
theorem dX9_movedMany_22 : decode cX9_movedMany 22 = .ok (.iload_n 2, 1) := by decide +kernel
theorem dX9_movedMany_23 : decode cX9_movedMany 23 = .ok (.iaload, 1) := by decide +kernel
theorem dX9_movedMany_24 : decode cX9_movedMany 24 = .ok (.iaload, 1) := by decide +kernel
theorem dX9_movedMany_25 : decode cX9_movedMany 25 = .ok (.invokevirtual 147, 3) := by decide +kernel
theorem dX9_movedMany_28 : decode cX9_movedMany 28 = .ok (.ifCond .eq 7, 3) := by decide +kernel
theorem dX9_movedMany_31 : decode cX9_movedMany 31 = .ok (.iconst 0, 1) := by decide +kernel
theorem dX9_movedMany_32 : decode cX9_movedMany 32 = .ok (.goto 4, 3) := by decide +kernel
theorem dX9_movedMany_35 : decode cX9_movedMany 35 = .ok (.iconst 1, 1) := by decide +kernel
theorem dX9_movedMany_36 : decode cX9_movedMany 36 = .ok (.iadd, 1) := by decide +kernel
theorem dX9_movedMany_37 : decode cX9_movedMany 37 = .ok (.istore_n 1, 1) := by decide +kernel
theorem dX9_movedMany_38 : decode cX9_movedMany 38 = .ok (.iinc 2 1, 3) := by decide +kernel
theorem dX9_movedMany_41 : decode cX9_movedMany 41 = .ok (.goto (-37), 3) := by decide +kernel
theorem dX9_movedMany_44 : decode cX9_movedMany 44 = .ok (.iload_n 1, 1) := by decide +kernel
theorem dX9_movedMany_45 : decode cX9_movedMany 45 = .ok (.ireturn, 1) := by decide +kernel
theorem dX9_closes_0 : decode cX9_closes 0 = .ok (.aload_n 0, 1) := by decide +kernel
theorem dX9_closes_1 : decode cX9_closes 1 = .ok (.invokevirtual 136, 3) := by decide +kernel
theorem dX9_closes_4 : decode cX9_closes 4 = .ok (.aload_n 0, 1) := by decide +kernel
theorem dX9_closes_5 : decode cX9_closes 5 = .ok (.invokevirtual 174, 3) := by decide +kernel
theorem dX9_closes_8 : decode cX9_closes 8 = .ok (.aload_n 0, 1) := by decide +kernel
theorem dX9_closes_9 : decode cX9_closes 9 = .ok (.invokevirtual 177, 3) := by decide +kernel
theorem dX9_closes_12 : decode cX9_closes 12 = .ok (.istore_n 1, 1) := by decide +kernel
theorem dX9_closes_13 : decode cX9_closes 13 = .ok (.aload_n 0, 1) := by decide +kernel
theorem dX9_closes_14 : decode cX9_closes 14 = .ok (.aload_n 0, 1) := by decide +kernel
theorem dX9_closes_15 : decode cX9_closes 15 = .ok (.getfield 163, 3) := by decide +kernel
theorem dX9_closes_18 : decode cX9_closes 18 = .ok (.ifCond .le 10, 3) := by decide +kernel
theorem dX9_closes_21 : decode cX9_closes 21 = .ok (.aload_n 0, 1) := by decide +kernel
theorem dX9_closes_22 : decode cX9_closes 22 = .ok (.getfield 163, 3) := by decide +kernel
theorem dX9_closes_25 : decode cX9_closes 25 = .ok (.goto 4, 3) := by decide +kernel
theorem dX9_closes_28 : decode cX9_closes 28 = .ok (.iconst 1, 1) := by decide +kernel
theorem dX9_closes_29 : decode cX9_closes 29 = .ok (.putfield 119, 3) := by decide +kernel
theorem dX9_closes_32 : decode cX9_closes 32 = .ok (.iconst 1, 1) := by decide +kernel
theorem dX9_closes_33 : decode cX9_closes 33 = .ok (.istore_n 2, 1) := by decide +kernel
theorem dX9_closes_34 : decode cX9_closes 34 = .ok (.iload_n 2, 1) := by decide +kernel
theorem dX9_closes_35 : decode cX9_closes 35 = .ok (.aload_n 0, 1) := by decide +kernel
theorem dX9_closes_36 : decode cX9_closes 36 = .ok (.getfield 163, 3) := by decide +kernel
theorem dX9_closes_39 : decode cX9_closes 39 = .ok (.if_icmp .ge 28, 3) := by decide +kernel
theorem dX9_closes_42 : decode cX9_closes 42 = .ok (.aload_n 0, 1) := by decide +kernel
theorem dX9_closes_43 : decode cX9_closes 43 = .ok (.getfield 20, 3) := by decide +kernel
theorem dX9_closes_46 : decode cX9_closes 46 = .ok (.iload_n 2, 1) := by decide +kernel
theorem dX9_closes_47 : decode cX9_closes 47 = .ok (.iconst 1, 1) := by decide +kernel
theorem dX9_closes_48 : decode cX9_closes 48 = .ok (.isub, 1) := by decide +kernel
theorem dX9_closes_49 : decode cX9_closes 49 = .ok (.aload_n 0, 1) := by decide +kernel
theorem dX9_closes_50 : decode cX9_closes 50 = .ok (.getfield 38, 3) := by decide +kernel
theorem dX9_closes_53 : decode cX9_closes 53 = .ok (.aload_n 0, 1) := by decide +kernel
theorem dX9_closes_54 : decode cX9_closes 54 = .ok (.getfield 51, 3) := by decide +kernel
theorem dX9_closes_57 : decode cX9_closes 57 = .ok (.iload_n 2, 1) := by decide +kernel
theorem dX9_closes_58 : decode cX9_closes 58 = .ok (.iaload, 1) := by decide +kernel
theorem dX9_closes_59 : decode cX9_closes 59 = .ok (.iaload, 1) := by decide +kernel
theorem dX9_closes_60 : decode cX9_closes 60 = .ok (.iastore, 1) := by decide +kernel
theorem dX9_closes_61 : decode cX9_closes 61 = .ok (.iinc 2 1, 3) := by decide +kernel
theorem dX9_closes_64 : decode cX9_closes 64 = .ok (.goto (-30), 3) := by decide +kernel
theorem dX9_closes_67 : decode cX9_closes 67 = .ok (.iload_n 1, 1) := by decide +kernel
theorem dX9_closes_68 : decode cX9_closes 68 = .ok (.ireturn, 1) := by decide +kernel
theorem dX9_moved_0 : decode cX9_moved 0 = .ok (.aload_n 0, 1) := by decide +kernel
theorem dX9_moved_1 : decode cX9_moved 1 = .ok (.invokevirtual 174, 3) := by decide +kernel
theorem dX9_moved_4 : decode cX9_moved 4 = .ok (.aload_n 0, 1) := by decide +kernel
theorem dX9_moved_5 : decode cX9_moved 5 = .ok (.invokevirtual 177, 3) := by decide +kernel
theorem dX9_moved_8 : decode cX9_moved 8 = .ok (.ireturn, 1) := by decide +kernel
theorem dX9_runOf_0 : decode cX9_runOf 0 = .ok (.iconst 0, 1) := by decide +kernel
theorem dX9_runOf_1 : decode cX9_runOf 1 = .ok (.istore_n 2, 1) := by decide +kernel
theorem dX9_runOf_2 : decode cX9_runOf 2 = .ok (.iload_n 2, 1) := by decide +kernel
theorem dX9_runOf_3 : decode cX9_runOf 3 = .ok (.iconst 1, 1) := by decide +kernel
theorem dX9_runOf_4 : decode cX9_runOf 4 = .ok (.iadd, 1) := by decide +kernel
theorem dX9_runOf_5 : decode cX9_runOf 5 = .ok (.aload_n 0, 1) := by decide +kernel
theorem dX9_runOf_6 : decode cX9_runOf 6 = .ok (.getfield 163, 3) := by decide +kernel
theorem dX9_runOf_9 : decode cX9_runOf 9 = .ok (.if_icmp .ge 26, 3) := by decide +kernel
theorem dX9_runOf_12 : decode cX9_runOf 12 = .ok (.aload_n 0, 1) := by decide +kernel
theorem dX9_runOf_13 : decode cX9_runOf 13 = .ok (.getfield 38, 3) := by decide +kernel
theorem dX9_runOf_16 : decode cX9_runOf 16 = .ok (.aload_n 0, 1) := by decide +kernel
theorem dX9_runOf_17 : decode cX9_runOf 17 = .ok (.getfield 51, 3) := by decide +kernel
theorem dX9_runOf_20 : decode cX9_runOf 20 = .ok (.iload_n 2, 1) := by decide +kernel
theorem dX9_runOf_21 : decode cX9_runOf 21 = .ok (.iconst 1, 1) := by decide +kernel
theorem dX9_runOf_22 : decode cX9_runOf 22 = .ok (.iadd, 1) := by decide +kernel
theorem dX9_runOf_23 : decode cX9_runOf 23 = .ok (.iaload, 1) := by decide +kernel
theorem dX9_runOf_24 : decode cX9_runOf 24 = .ok (.iaload, 1) := by decide +kernel
theorem dX9_runOf_25 : decode cX9_runOf 25 = .ok (.iload_n 1, 1) := by decide +kernel
theorem dX9_runOf_26 : decode cX9_runOf 26 = .ok (.if_icmp .gt 9, 3) := by decide +kernel
theorem dX9_runOf_29 : decode cX9_runOf 29 = .ok (.iinc 2 1, 3) := by decide +kernel
theorem dX9_runOf_32 : decode cX9_runOf 32 = .ok (.goto (-30), 3) := by decide +kernel
theorem dX9_runOf_35 : decode cX9_runOf 35 = .ok (.iload_n 2, 1) := by decide +kernel
theorem dX9_runOf_36 : decode cX9_runOf 36 = .ok (.ireturn, 1) := by decide +kernel
theorem dX9_place_0 : decode cX9_place 0 = .ok (.iload_n 1, 1) := by decide +kernel
theorem dX9_place_1 : decode cX9_place 1 = .ok (.iload_n 2, 1) := by decide +kernel
theorem dX9_place_2 : decode cX9_place 2 = .ok (.invokestatic 129, 3) := by decide +kernel
theorem dX9_place_5 : decode cX9_place 5 = .ok (.ifCond .eq 12, 3) := by decide +kernel
theorem dX9_place_8 : decode cX9_place 8 = .ok (.iload_n 3, 1) := by decide +kernel
theorem dX9_place_9 : decode cX9_place 9 = .ok (.iconst 0, 1) := by decide +kernel
theorem dX9_place_10 : decode cX9_place 10 = .ok (.iconst 2, 1) := by decide +kernel
theorem dX9_place_11 : decode cX9_place 11 = .ok (.invokestatic 63, 3) := by decide +kernel
theorem dX9_place_14 : decode cX9_place 14 = .ok (.ifCond .ne 5, 3) := by decide +kernel
theorem dX9_place_17 : decode cX9_place 17 = .ok (.iconst (-1), 1) := by decide +kernel
theorem dX9_place_18 : decode cX9_place 18 = .ok (.ireturn, 1) := by decide +kernel
theorem dX9_place_19 : decode cX9_place 19 = .ok (.aload_n 0, 1) := by decide +kernel
theorem dX9_place_20 : decode cX9_place 20 = .ok (.bipush 10, 2) := by decide +kernel
theorem dX9_place_22 : decode cX9_place 22 = .ok (.iload_n 1, 1) := by decide +kernel
theorem dX9_place_23 : decode cX9_place 23 = .ok (.imul, 1) := by decide +kernel
theorem dX9_place_24 : decode cX9_place 24 = .ok (.iload_n 2, 1) := by decide +kernel
theorem dX9_place_25 : decode cX9_place 25 = .ok (.iadd, 1) := by decide +kernel
theorem dX9_place_26 : decode cX9_place 26 = .ok (.invokevirtual 132, 3) := by decide +kernel
theorem dX9_place_29 : decode cX9_place 29 = .ok (.istore 4, 2) := by decide +kernel
theorem dX9_place_31 : decode cX9_place 31 = .ok (.iload 4, 2) := by decide +kernel
theorem dX9_place_33 : decode cX9_place 33 = .ok (.bipush (-9), 2) := by decide +kernel
theorem dX9_place_35 : decode cX9_place 35 = .ok (.if_icmp .eq 7, 3) := by decide +kernel
theorem dX9_place_38 : decode cX9_place 38 = .ok (.iload_n 3, 1) := by decide +kernel
theorem dX9_place_39 : decode cX9_place 39 = .ok (.ifCond .ne 23, 3) := by decide +kernel
theorem dX9_place_42 : decode cX9_place 42 = .ok (.iload 4, 2) := by decide +kernel
theorem dX9_place_44 : decode cX9_place 44 = .ok (.bipush (-9), 2) := by decide +kernel
theorem dX9_place_46 : decode cX9_place 46 = .ok (.if_icmp .ne 8, 3) := by decide +kernel
theorem dX9_place_49 : decode cX9_place 49 = .ok (.bipush (-9), 2) := by decide +kernel
theorem dX9_place_51 : decode cX9_place 51 = .ok (.goto 10, 3) := by decide +kernel
theorem dX9_place_54 : decode cX9_place 54 = .ok (.aload_n 0, 1) := by decide +kernel
theorem dX9_place_55 : decode cX9_place 55 = .ok (.getfield 17, 3) := by decide +kernel
theorem dX9_place_58 : decode cX9_place 58 = .ok (.iload 4, 2) := by decide +kernel
theorem dX9_place_60 : decode cX9_place 60 = .ok (.iaload, 1) := by decide +kernel
theorem dX9_place_61 : decode cX9_place 61 = .ok (.ireturn, 1) := by decide +kernel
theorem dX9_place_62 : decode cX9_place 62 = .ok (.aload_n 0, 1) := by decide +kernel
theorem dX9_place_63 : decode cX9_place 63 = .ok (.invokevirtual 174, 3) := by decide +kernel
theorem dX9_place_66 : decode cX9_place 66 = .ok (.aload_n 0, 1) := by decide +kernel
theorem dX9_place_67 : decode cX9_place 67 = .ok (.aload_n 0, 1) := by decide +kernel
theorem dX9_place_68 : decode cX9_place 68 = .ok (.getfield 17, 3) := by decide +kernel
theorem dX9_place_71 : decode cX9_place 71 = .ok (.iload 4, 2) := by decide +kernel
theorem dX9_place_73 : decode cX9_place 73 = .ok (.iaload, 1) := by decide +kernel
theorem dX9_place_74 : decode cX9_place 74 = .ok (.invokevirtual 180, 3) := by decide +kernel
theorem dX9_place_77 : decode cX9_place 77 = .ok (.istore 5, 2) := by decide +kernel
theorem dX9_place_79 : decode cX9_place 79 = .ok (.iload_n 3, 1) := by decide +kernel
theorem dX9_place_80 : decode cX9_place 80 = .ok (.iconst 1, 1) := by decide +kernel
theorem dX9_place_81 : decode cX9_place 81 = .ok (.if_icmp .ne 8, 3) := by decide +kernel
theorem dX9_place_84 : decode cX9_place 84 = .ok (.iload 5, 2) := by decide +kernel
theorem dX9_place_86 : decode cX9_place 86 = .ok (.goto 34, 3) := by decide +kernel
theorem dX9_place_89 : decode cX9_place 89 = .ok (.aload_n 0, 1) := by decide +kernel
theorem dX9_place_90 : decode cX9_place 90 = .ok (.getfield 163, 3) := by decide +kernel
theorem dX9_place_93 : decode cX9_place 93 = .ok (.iconst 1, 1) := by decide +kernel
theorem dX9_place_94 : decode cX9_place 94 = .ok (.if_icmp .ne 9, 3) := by decide +kernel
theorem dX9_place_97 : decode cX9_place 97 = .ok (.sipush 255, 3) := by decide +kernel
theorem dX9_place_100 : decode cX9_place 100 = .ok (.goto 20, 3) := by decide +kernel
theorem dX9_place_103 : decode cX9_place 103 = .ok (.sipush 255, 3) := by decide +kernel
theorem dX9_place_106 : decode cX9_place 106 = .ok (.sipush 255, 3) := by decide +kernel
theorem dX9_place_109 : decode cX9_place 109 = .ok (.iload 5, 2) := by decide +kernel
theorem dX9_place_111 : decode cX9_place 111 = .ok (.imul, 1) := by decide +kernel
theorem dX9_place_112 : decode cX9_place 112 = .ok (.aload_n 0, 1) := by decide +kernel
theorem dX9_place_113 : decode cX9_place 113 = .ok (.getfield 163, 3) := by decide +kernel
theorem dX9_place_116 : decode cX9_place 116 = .ok (.iconst 1, 1) := by decide +kernel
theorem dX9_place_117 : decode cX9_place 117 = .ok (.isub, 1) := by decide +kernel
theorem dX9_place_118 : decode cX9_place 118 = .ok (.idiv, 1) := by decide +kernel
theorem dX9_place_119 : decode cX9_place 119 = .ok (.isub, 1) := by decide +kernel
theorem dX9_place_120 : decode cX9_place 120 = .ok (.ireturn, 1) := by decide +kernel
theorem dX9_sorted_0 : decode cX9_sorted 0 = .ok (.aload_n 0, 1) := by decide +kernel
theorem dX9_sorted_1 : decode cX9_sorted 1 = .ok (.invokevirtual 174, 3) := by decide +kernel
theorem dX9_sorted_4 : decode cX9_sorted 4 = .ok (.iload_n 1, 1) := by decide +kernel
theorem dX9_sorted_5 : decode cX9_sorted 5 = .ok (.iconst 0, 1) := by decide +kernel
theorem dX9_sorted_6 : decode cX9_sorted 6 = .ok (.aload_n 0, 1) := by decide +kernel
theorem dX9_sorted_7 : decode cX9_sorted 7 = .ok (.getfield 142, 3) := by decide +kernel
theorem dX9_sorted_10 : decode cX9_sorted 10 = .ok (.iconst 1, 1) := by decide +kernel
theorem dX9_sorted_11 : decode cX9_sorted 11 = .ok (.isub, 1) := by decide +kernel
theorem dX9_sorted_12 : decode cX9_sorted 12 = .ok (.invokestatic 63, 3) := by decide +kernel
theorem dX9_sorted_15 : decode cX9_sorted 15 = .ok (.ifCond .eq 12, 3) := by decide +kernel
theorem dX9_sorted_18 : decode cX9_sorted 18 = .ok (.iload_n 2, 1) := by decide +kernel
theorem dX9_sorted_19 : decode cX9_sorted 19 = .ok (.iconst 0, 1) := by decide +kernel
theorem dX9_sorted_20 : decode cX9_sorted 20 = .ok (.iconst 2, 1) := by decide +kernel
theorem dX9_sorted_21 : decode cX9_sorted 21 = .ok (.invokestatic 63, 3) := by decide +kernel
theorem dX9_sorted_24 : decode cX9_sorted 24 = .ok (.ifCond .ne 5, 3) := by decide +kernel
theorem dX9_sorted_27 : decode cX9_sorted 27 = .ok (.iconst (-1), 1) := by decide +kernel
theorem dX9_sorted_28 : decode cX9_sorted 28 = .ok (.ireturn, 1) := by decide +kernel
theorem dX9_sorted_29 : decode cX9_sorted 29 = .ok (.iload_n 2, 1) := by decide +kernel
theorem dX9_sorted_30 : decode cX9_sorted 30 = .ok (.ifCond .ne 12, 3) := by decide +kernel
theorem dX9_sorted_33 : decode cX9_sorted 33 = .ok (.aload_n 0, 1) := by decide +kernel
theorem dX9_sorted_34 : decode cX9_sorted 34 = .ok (.getfield 38, 3) := by decide +kernel
theorem dX9_sorted_37 : decode cX9_sorted 37 = .ok (.iload_n 1, 1) := by decide +kernel
theorem dX9_sorted_38 : decode cX9_sorted 38 = .ok (.iaload, 1) := by decide +kernel
theorem dX9_sorted_39 : decode cX9_sorted 39 = .ok (.goto 27, 3) := by decide +kernel
theorem dX9_sorted_42 : decode cX9_sorted 42 = .ok (.iload_n 2, 1) := by decide +kernel
theorem dX9_sorted_43 : decode cX9_sorted 43 = .ok (.iconst 1, 1) := by decide +kernel
theorem dX9_sorted_44 : decode cX9_sorted 44 = .ok (.if_icmp .ne 12, 3) := by decide +kernel
theorem dX9_sorted_47 : decode cX9_sorted 47 = .ok (.aload_n 0, 1) := by decide +kernel
theorem dX9_sorted_48 : decode cX9_sorted 48 = .ok (.getfield 41, 3) := by decide +kernel
theorem dX9_sorted_51 : decode cX9_sorted 51 = .ok (.iload_n 1, 1) := by decide +kernel
theorem dX9_sorted_52 : decode cX9_sorted 52 = .ok (.iaload, 1) := by decide +kernel
theorem dX9_sorted_53 : decode cX9_sorted 53 = .ok (.goto 13, 3) := by decide +kernel
theorem dX9_sorted_56 : decode cX9_sorted 56 = .ok (.aload_n 0, 1) := by decide +kernel
theorem dX9_sorted_57 : decode cX9_sorted 57 = .ok (.aload_n 0, 1) := by decide +kernel
theorem dX9_sorted_58 : decode cX9_sorted 58 = .ok (.getfield 38, 3) := by decide +kernel
theorem dX9_sorted_61 : decode cX9_sorted 61 = .ok (.iload_n 1, 1) := by decide +kernel
theorem dX9_sorted_62 : decode cX9_sorted 62 = .ok (.iaload, 1) := by decide +kernel
theorem dX9_sorted_63 : decode cX9_sorted 63 = .ok (.invokevirtual 180, 3) := by decide +kernel
theorem dX9_sorted_66 : decode cX9_sorted 66 = .ok (.ireturn, 1) := by decide +kernel
theorem dX9_beginOf_0 : decode cX9_beginOf 0 = .ok (.iload_n 1, 1) := by decide +kernel
theorem dX9_beginOf_1 : decode cX9_beginOf 1 = .ok (.iconst (-1), 1) := by decide +kernel
theorem dX9_beginOf_2 : decode cX9_beginOf 2 = .ok (.aload_n 0, 1) := by decide +kernel
theorem dX9_beginOf_3 : decode cX9_beginOf 3 = .ok (.getfield 163, 3) := by decide +kernel
theorem dX9_beginOf_6 : decode cX9_beginOf 6 = .ok (.iconst 1, 1) := by decide +kernel
theorem dX9_beginOf_7 : decode cX9_beginOf 7 = .ok (.isub, 1) := by decide +kernel
theorem dX9_beginOf_8 : decode cX9_beginOf 8 = .ok (.invokestatic 63, 3) := by decide +kernel
theorem dX9_beginOf_11 : decode cX9_beginOf 11 = .ok (.ifCond .ne 5, 3) := by decide +kernel
theorem dX9_beginOf_14 : decode cX9_beginOf 14 = .ok (.iconst (-1), 1) := by decide +kernel
theorem dX9_beginOf_15 : decode cX9_beginOf 15 = .ok (.ireturn, 1) := by decide +kernel
theorem dX9_beginOf_16 : decode cX9_beginOf 16 = .ok (.iload_n 1, 1) := by decide +kernel
theorem dX9_beginOf_17 : decode cX9_beginOf 17 = .ok (.iconst (-1), 1) := by decide +kernel
theorem dX9_beginOf_18 : decode cX9_beginOf 18 = .ok (.if_icmp .ne 10, 3) := by decide +kernel
theorem dX9_beginOf_21 : decode cX9_beginOf 21 = .ok (.aload_n 0, 1) := by decide +kernel
theorem dX9_beginOf_22 : decode cX9_beginOf 22 = .ok (.getfield 163, 3) := by decide +kernel
theorem dX9_beginOf_25 : decode cX9_beginOf 25 = .ok (.goto 14, 3) := by decide +kernel
theorem dX9_beginOf_28 : decode cX9_beginOf 28 = .ok (.aload_n 0, 1) := by decide +kernel
theorem dX9_beginOf_29 : decode cX9_beginOf 29 = .ok (.getfield 38, 3) := by decide +kernel
theorem dX9_beginOf_32 : decode cX9_beginOf 32 = .ok (.aload_n 0, 1) := by decide +kernel
theorem dX9_beginOf_33 : decode cX9_beginOf 33 = .ok (.getfield 51, 3) := by decide +kernel
theorem dX9_beginOf_36 : decode cX9_beginOf 36 = .ok (.iload_n 1, 1) := by decide +kernel
theorem dX9_beginOf_37 : decode cX9_beginOf 37 = .ok (.iaload, 1) := by decide +kernel
theorem dX9_beginOf_38 : decode cX9_beginOf 38 = .ok (.iaload, 1) := by decide +kernel
theorem dX9_beginOf_39 : decode cX9_beginOf 39 = .ok (.ireturn, 1) := by decide +kernel
theorem dX9_now_0 : decode cX9_now 0 = .ok (.aload_n 0, 1) := by decide +kernel
theorem dX9_now_1 : decode cX9_now 1 = .ok (.invokevirtual 174, 3) := by decide +kernel
theorem dX9_now_4 : decode cX9_now 4 = .ok (.aload_n 0, 1) := by decide +kernel
theorem dX9_now_5 : decode cX9_now 5 = .ok (.iload_n 1, 1) := by decide +kernel
theorem dX9_now_6 : decode cX9_now 6 = .ok (.invokevirtual 183, 3) := by decide +kernel
theorem dX9_now_9 : decode cX9_now 9 = .ok (.ireturn, 1) := by decide +kernel
theorem dX9_told_0 : decode cX9_told 0 = .ok (.lload_n 0, 1) := by decide +kernel
theorem dX9_told_1 : decode cX9_told 1 = .ok (.lstore_n 3, 1) := by decide +kernel
theorem dX9_told_2 : decode cX9_told 2 = .ok (.ldc2_w 145, 3) := by decide +kernel
theorem dX9_told_5 : decode cX9_told 5 = .ok (.lstore 5, 2) := by decide +kernel
theorem dX9_told_7 : decode cX9_told 7 = .ok (.lload 5, 2) := by decide +kernel
theorem dX9_told_9 : decode cX9_told 9 = .ok (.lconst 0, 1) := by decide +kernel
theorem dX9_told_10 : decode cX9_told 10 = .ok (.lcmp, 1) := by decide +kernel
theorem dX9_told_11 : decode cX9_told 11 = .ok (.ifCond .eq 19, 3) := by decide +kernel
theorem dX9_told_14 : decode cX9_told 14 = .ok (.lload_n 3, 1) := by decide +kernel
theorem dX9_told_15 : decode cX9_told 15 = .ok (.lload 5, 2) := by decide +kernel
theorem dX9_told_17 : decode cX9_told 17 = .ok (.lrem, 1) := by decide +kernel
theorem dX9_told_18 : decode cX9_told 18 = .ok (.lstore 7, 2) := by decide +kernel
theorem dX9_told_20 : decode cX9_told 20 = .ok (.lload 5, 2) := by decide +kernel
theorem dX9_told_22 : decode cX9_told 22 = .ok (.lstore_n 3, 1) := by decide +kernel
theorem dX9_told_23 : decode cX9_told 23 = .ok (.lload 7, 2) := by decide +kernel
theorem dX9_told_25 : decode cX9_told 25 = .ok (.lstore 5, 2) := by decide +kernel
theorem dX9_told_27 : decode cX9_told 27 = .ok (.goto (-20), 3) := by decide +kernel
theorem dX9_told_30 : decode cX9_told 30 = .ok (.iload_n 2, 1) := by decide +kernel
theorem dX9_told_31 : decode cX9_told 31 = .ok (.ifCond .ne 9, 3) := by decide +kernel
theorem dX9_told_34 : decode cX9_told 34 = .ok (.lload_n 0, 1) := by decide +kernel
theorem dX9_told_35 : decode cX9_told 35 = .ok (.lload_n 3, 1) := by decide +kernel
theorem dX9_told_36 : decode cX9_told 36 = .ok (.ldiv, 1) := by decide +kernel
theorem dX9_told_37 : decode cX9_told 37 = .ok (.goto 8, 3) := by decide +kernel
theorem dX9_told_40 : decode cX9_told 40 = .ok (.ldc2_w 145, 3) := by decide +kernel
theorem dX9_told_43 : decode cX9_told 43 = .ok (.lload_n 3, 1) := by decide +kernel
theorem dX9_told_44 : decode cX9_told 44 = .ok (.ldiv, 1) := by decide +kernel
theorem dX9_told_45 : decode cX9_told 45 = .ok (.lreturn, 1) := by decide +kernel
theorem dX9_spread_0 : decode cX9_spread 0 = .ok (.iload_n 1, 1) := by decide +kernel
theorem dX9_spread_1 : decode cX9_spread 1 = .ok (.iconst 0, 1) := by decide +kernel
theorem dX9_spread_2 : decode cX9_spread 2 = .ok (.iconst 1, 1) := by decide +kernel
theorem dX9_spread_3 : decode cX9_spread 3 = .ok (.invokestatic 63, 3) := by decide +kernel
theorem dX9_spread_6 : decode cX9_spread 6 = .ok (.ifCond .ne 7, 3) := by decide +kernel
theorem dX9_spread_9 : decode cX9_spread 9 = .ok (.ldc2_w 186, 3) := by decide +kernel
theorem dX9_spread_12 : decode cX9_spread 12 = .ok (.lreturn, 1) := by decide +kernel
theorem dX9_spread_13 : decode cX9_spread 13 = .ok (.aload_n 0, 1) := by decide +kernel
theorem dX9_spread_14 : decode cX9_spread 14 = .ok (.invokevirtual 174, 3) := by decide +kernel
theorem dX9_spread_17 : decode cX9_spread 17 = .ok (.aload_n 0, 1) := by decide +kernel
theorem dX9_spread_18 : decode cX9_spread 18 = .ok (.invokevirtual 188, 3) := by decide +kernel
theorem dX9_spread_21 : decode cX9_spread 21 = .ok (.iload_n 1, 1) := by decide +kernel
theorem dX9_spread_22 : decode cX9_spread 22 = .ok (.invokestatic 192, 3) := by decide +kernel
theorem dX9_spread_25 : decode cX9_spread 25 = .ok (.lreturn, 1) := by decide +kernel
theorem dX9_least_0 : decode cX9_least 0 = .ok (.iload_n 1, 1) := by decide +kernel
theorem dX9_least_1 : decode cX9_least 1 = .ok (.iconst 1, 1) := by decide +kernel
theorem dX9_least_2 : decode cX9_least 2 = .ok (.bipush 6, 2) := by decide +kernel
theorem dX9_least_4 : decode cX9_least 4 = .ok (.invokestatic 63, 3) := by decide +kernel
theorem dX9_least_7 : decode cX9_least 7 = .ok (.ifCond .ne 5, 3) := by decide +kernel
theorem dX9_least_10 : decode cX9_least 10 = .ok (.iconst (-1), 1) := by decide +kernel
theorem dX9_least_11 : decode cX9_least 11 = .ok (.ireturn, 1) := by decide +kernel
theorem dX9_least_12 : decode cX9_least 12 = .ok (.aload_n 0, 1) := by decide +kernel
theorem dX9_least_13 : decode cX9_least 13 = .ok (.iload_n 1, 1) := by decide +kernel
theorem dX9_least_14 : decode cX9_least 14 = .ok (.iconst 1, 1) := by decide +kernel
theorem dX9_least_15 : decode cX9_least 15 = .ok (.invokevirtual 170, 3) := by decide +kernel
theorem dX9_least_18 : decode cX9_least 18 = .ok (.aload_n 0, 1) := by decide +kernel
theorem dX9_least_19 : decode cX9_least 19 = .ok (.iload_n 2, 1) := by decide +kernel
theorem dX9_least_20 : decode cX9_least 20 = .ok (.invokevirtual 183, 3) := by decide +kernel
theorem dX9_least_23 : decode cX9_least 23 = .ok (.ireturn, 1) := by decide +kernel
theorem dX9_spreadIn_0 : decode cX9_spreadIn 0 = .ok (.aload_n 0, 1) := by decide +kernel
theorem dX9_spreadIn_1 : decode cX9_spreadIn 1 = .ok (.iload_n 1, 1) := by decide +kernel
theorem dX9_spreadIn_2 : decode cX9_spreadIn 2 = .ok (.iconst 1, 1) := by decide +kernel
theorem dX9_spreadIn_3 : decode cX9_spreadIn 3 = .ok (.invokevirtual 170, 3) := by decide +kernel
theorem dX9_spreadIn_6 : decode cX9_spreadIn 6 = .ok (.aload_n 0, 1) := by decide +kernel
theorem dX9_spreadIn_7 : decode cX9_spreadIn 7 = .ok (.invokevirtual 188, 3) := by decide +kernel
theorem dX9_spreadIn_10 : decode cX9_spreadIn 10 = .ok (.lreturn, 1) := by decide +kernel
theorem dX9_gain_0 : decode cX9_gain 0 = .ok (.iload_n 2, 1) := by decide +kernel
theorem dX9_gain_1 : decode cX9_gain 1 = .ok (.iconst 0, 1) := by decide +kernel
theorem dX9_gain_2 : decode cX9_gain 2 = .ok (.iconst 3, 1) := by decide +kernel
theorem dX9_gain_3 : decode cX9_gain 3 = .ok (.invokestatic 63, 3) := by decide +kernel
theorem dX9_gain_6 : decode cX9_gain 6 = .ok (.ifCond .eq 22, 3) := by decide +kernel
theorem dX9_gain_9 : decode cX9_gain 9 = .ok (.iload_n 1, 1) := by decide +kernel
theorem dX9_gain_10 : decode cX9_gain 10 = .ok (.iload_n 2, 1) := by decide +kernel
theorem dX9_gain_11 : decode cX9_gain 11 = .ok (.iconst 2, 1) := by decide +kernel
theorem dX9_gain_12 : decode cX9_gain 12 = .ok (.if_icmp .ge 7, 3) := by decide +kernel
theorem dX9_gain_15 : decode cX9_gain 15 = .ok (.iconst 1, 1) := by decide +kernel
theorem dX9_gain_16 : decode cX9_gain 16 = .ok (.goto 4, 3) := by decide +kernel
theorem dX9_gain_19 : decode cX9_gain 19 = .ok (.iconst 2, 1) := by decide +kernel
theorem dX9_gain_20 : decode cX9_gain 20 = .ok (.bipush 6, 2) := by decide +kernel
theorem dX9_gain_22 : decode cX9_gain 22 = .ok (.invokestatic 63, 3) := by decide +kernel
theorem dX9_gain_25 : decode cX9_gain 25 = .ok (.ifCond .ne 7, 3) := by decide +kernel
theorem dX9_gain_28 : decode cX9_gain 28 = .ok (.ldc2_w 186, 3) := by decide +kernel
theorem dX9_gain_31 : decode cX9_gain 31 = .ok (.lreturn, 1) := by decide +kernel
theorem dX9_gain_32 : decode cX9_gain 32 = .ok (.aload_n 0, 1) := by decide +kernel
theorem dX9_gain_33 : decode cX9_gain 33 = .ok (.iload_n 1, 1) := by decide +kernel
theorem dX9_gain_34 : decode cX9_gain 34 = .ok (.invokevirtual 196, 3) := by decide +kernel
theorem dX9_gain_37 : decode cX9_gain 37 = .ok (.lstore_n 3, 1) := by decide +kernel
theorem dX9_gain_38 : decode cX9_gain 38 = .ok (.iload_n 2, 1) := by decide +kernel
theorem dX9_gain_39 : decode cX9_gain 39 = .ok (.iconst 2, 1) := by decide +kernel
theorem dX9_gain_40 : decode cX9_gain 40 = .ok (.if_icmp .ge 11, 3) := by decide +kernel
theorem dX9_gain_43 : decode cX9_gain 43 = .ok (.lload_n 3, 1) := by decide +kernel
theorem dX9_gain_44 : decode cX9_gain 44 = .ok (.iload_n 2, 1) := by decide +kernel
theorem dX9_gain_45 : decode cX9_gain 45 = .ok (.invokestatic 192, 3) := by decide +kernel
theorem dX9_gain_48 : decode cX9_gain 48 = .ok (.goto 18, 3) := by decide +kernel
theorem dX9_gain_51 : decode cX9_gain 51 = .ok (.aload_n 0, 1) := by decide +kernel
theorem dX9_gain_52 : decode cX9_gain 52 = .ok (.iload_n 1, 1) := by decide +kernel
theorem dX9_gain_53 : decode cX9_gain 53 = .ok (.iconst 1, 1) := by decide +kernel
theorem dX9_gain_54 : decode cX9_gain 54 = .ok (.isub, 1) := by decide +kernel
theorem dX9_gain_55 : decode cX9_gain 55 = .ok (.invokevirtual 196, 3) := by decide +kernel
theorem dX9_gain_58 : decode cX9_gain 58 = .ok (.lload_n 3, 1) := by decide +kernel
theorem dX9_gain_59 : decode cX9_gain 59 = .ok (.lsub, 1) := by decide +kernel
theorem dX9_gain_60 : decode cX9_gain 60 = .ok (.iload_n 2, 1) := by decide +kernel
theorem dX9_gain_61 : decode cX9_gain 61 = .ok (.iconst 2, 1) := by decide +kernel
theorem dX9_gain_62 : decode cX9_gain 62 = .ok (.isub, 1) := by decide +kernel
theorem dX9_gain_63 : decode cX9_gain 63 = .ok (.invokestatic 192, 3) := by decide +kernel
theorem dX9_gain_66 : decode cX9_gain 66 = .ok (.lreturn, 1) := by decide +kernel
theorem dX9_setEnding_0 : decode cX9_setEnding 0 = .ok (.bipush 25, 2) := by decide +kernel
theorem dX9_setEnding_2 : decode cX9_setEnding 2 = .ok (.iload_n 1, 1) := by decide +kernel
theorem dX9_setEnding_3 : decode cX9_setEnding 3 = .ok (.imul, 1) := by decide +kernel
theorem dX9_setEnding_4 : decode cX9_setEnding 4 = .ok (.iload_n 2, 1) := by decide +kernel
theorem dX9_setEnding_5 : decode cX9_setEnding 5 = .ok (.iadd, 1) := by decide +kernel
theorem dX9_setEnding_6 : decode cX9_setEnding 6 = .ok (.istore_n 3, 1) := by decide +kernel
theorem dX9_setEnding_7 : decode cX9_setEnding 7 = .ok (.aload_n 0, 1) := by decide +kernel
theorem dX9_setEnding_8 : decode cX9_setEnding 8 = .ok (.getfield 54, 3) := by decide +kernel
theorem dX9_setEnding_11 : decode cX9_setEnding 11 = .ok (.iload_n 3, 1) := by decide +kernel
theorem dX9_setEnding_12 : decode cX9_setEnding 12 = .ok (.iload_n 1, 1) := by decide +kernel
theorem dX9_setEnding_13 : decode cX9_setEnding 13 = .ok (.iconst 1, 1) := by decide +kernel
theorem dX9_setEnding_14 : decode cX9_setEnding 14 = .ok (.if_icmp .ne 12, 3) := by decide +kernel
theorem dX9_setEnding_17 : decode cX9_setEnding 17 = .ok (.aload_n 0, 1) := by decide +kernel
theorem dX9_setEnding_18 : decode cX9_setEnding 18 = .ok (.iconst 0, 1) := by decide +kernel
theorem dX9_setEnding_19 : decode cX9_setEnding 19 = .ok (.iload_n 2, 1) := by decide +kernel
theorem dX9_setEnding_20 : decode cX9_setEnding 20 = .ok (.invokevirtual 152, 3) := by decide +kernel
theorem dX9_setEnding_23 : decode cX9_setEnding 23 = .ok (.goto 6, 3) := by decide +kernel
theorem dX9_setEnding_26 : decode cX9_setEnding 26 = .ok (.ldc2_w 150, 3) := by decide +kernel
theorem dX9_setEnding_29 : decode cX9_setEnding 29 = .ok (.lastore, 1) := by decide +kernel
theorem dX9_setEnding_30 : decode cX9_setEnding 30 = .ok (.aload_n 0, 1) := by decide +kernel
theorem dX9_setEnding_31 : decode cX9_setEnding 31 = .ok (.getfield 57, 3) := by decide +kernel
theorem dX9_setEnding_34 : decode cX9_setEnding 34 = .ok (.iload_n 3, 1) := by decide +kernel
theorem dX9_setEnding_35 : decode cX9_setEnding 35 = .ok (.iconst 0, 1) := by decide +kernel
theorem dX9_setEnding_36 : decode cX9_setEnding 36 = .ok (.iastore, 1) := by decide +kernel
theorem dX9_setEnding_37 : decode cX9_setEnding 37 = .ok (.iload_n 1, 1) := by decide +kernel
theorem dX9_setEnding_38 : decode cX9_setEnding 38 = .ok (.iconst 1, 1) := by decide +kernel
theorem dX9_setEnding_39 : decode cX9_setEnding 39 = .ok (.isub, 1) := by decide +kernel
theorem dX9_setEnding_40 : decode cX9_setEnding 40 = .ok (.istore 4, 2) := by decide +kernel
theorem dX9_setEnding_42 : decode cX9_setEnding 42 = .ok (.iload 4, 2) := by decide +kernel
theorem dX9_setEnding_44 : decode cX9_setEnding 44 = .ok (.iload_n 2, 1) := by decide +kernel
theorem dX9_setEnding_45 : decode cX9_setEnding 45 = .ok (.if_icmp .ge 66, 3) := by decide +kernel
theorem dX9_setEnding_48 : decode cX9_setEnding 48 = .ok (.iload_n 1, 1) := by decide +kernel
theorem dX9_setEnding_49 : decode cX9_setEnding 49 = .ok (.iconst 1, 1) := by decide +kernel
theorem dX9_setEnding_50 : decode cX9_setEnding 50 = .ok (.if_icmp .le 61, 3) := by decide +kernel
theorem dX9_setEnding_53 : decode cX9_setEnding 53 = .ok (.aload_n 0, 1) := by decide +kernel
theorem dX9_setEnding_54 : decode cX9_setEnding 54 = .ok (.getfield 54, 3) := by decide +kernel
theorem dX9_setEnding_57 : decode cX9_setEnding 57 = .ok (.bipush 25, 2) := by decide +kernel
theorem dX9_setEnding_59 : decode cX9_setEnding 59 = .ok (.iload_n 1, 1) := by decide +kernel
theorem dX9_setEnding_60 : decode cX9_setEnding 60 = .ok (.iconst 1, 1) := by decide +kernel
theorem dX9_setEnding_61 : decode cX9_setEnding 61 = .ok (.isub, 1) := by decide +kernel
theorem dX9_setEnding_62 : decode cX9_setEnding 62 = .ok (.imul, 1) := by decide +kernel
theorem dX9_setEnding_63 : decode cX9_setEnding 63 = .ok (.iload 4, 2) := by decide +kernel
theorem dX9_setEnding_65 : decode cX9_setEnding 65 = .ok (.iadd, 1) := by decide +kernel
theorem dX9_setEnding_66 : decode cX9_setEnding 66 = .ok (.laload, 1) := by decide +kernel
theorem dX9_setEnding_67 : decode cX9_setEnding 67 = .ok (.aload_n 0, 1) := by decide +kernel
theorem dX9_setEnding_68 : decode cX9_setEnding 68 = .ok (.iload 4, 2) := by decide +kernel
theorem dX9_setEnding_70 : decode cX9_setEnding 70 = .ok (.iload_n 2, 1) := by decide +kernel
theorem dX9_setEnding_71 : decode cX9_setEnding 71 = .ok (.invokevirtual 152, 3) := by decide +kernel
theorem dX9_setEnding_74 : decode cX9_setEnding 74 = .ok (.ladd, 1) := by decide +kernel
theorem dX9_setEnding_75 : decode cX9_setEnding 75 = .ok (.lstore 5, 2) := by decide +kernel
theorem dX9_setEnding_77 : decode cX9_setEnding 77 = .ok (.lload 5, 2) := by decide +kernel
theorem dX9_setEnding_79 : decode cX9_setEnding 79 = .ok (.aload_n 0, 1) := by decide +kernel
theorem dX9_setEnding_80 : decode cX9_setEnding 80 = .ok (.getfield 54, 3) := by decide +kernel
theorem dX9_setEnding_83 : decode cX9_setEnding 83 = .ok (.iload_n 3, 1) := by decide +kernel
theorem dX9_setEnding_84 : decode cX9_setEnding 84 = .ok (.laload, 1) := by decide +kernel
theorem dX9_setEnding_85 : decode cX9_setEnding 85 = .ok (.lcmp, 1) := by decide +kernel
theorem dX9_setEnding_86 : decode cX9_setEnding 86 = .ok (.ifCond .ge 19, 3) := by decide +kernel
theorem dX9_setEnding_89 : decode cX9_setEnding 89 = .ok (.aload_n 0, 1) := by decide +kernel
theorem dX9_setEnding_90 : decode cX9_setEnding 90 = .ok (.getfield 54, 3) := by decide +kernel
theorem dX9_setEnding_93 : decode cX9_setEnding 93 = .ok (.iload_n 3, 1) := by decide +kernel
theorem dX9_setEnding_94 : decode cX9_setEnding 94 = .ok (.lload 5, 2) := by decide +kernel
theorem dX9_setEnding_96 : decode cX9_setEnding 96 = .ok (.lastore, 1) := by decide +kernel
theorem dX9_setEnding_97 : decode cX9_setEnding 97 = .ok (.aload_n 0, 1) := by decide +kernel
theorem dX9_setEnding_98 : decode cX9_setEnding 98 = .ok (.getfield 57, 3) := by decide +kernel
theorem dX9_setEnding_101 : decode cX9_setEnding 101 = .ok (.iload_n 3, 1) := by decide +kernel
theorem dX9_setEnding_102 : decode cX9_setEnding 102 = .ok (.iload 4, 2) := by decide +kernel
theorem dX9_setEnding_104 : decode cX9_setEnding 104 = .ok (.iastore, 1) := by decide +kernel
theorem dX9_setEnding_105 : decode cX9_setEnding 105 = .ok (.iinc 4 1, 3) := by decide +kernel
theorem dX9_setEnding_108 : decode cX9_setEnding 108 = .ok (.goto (-66), 3) := by decide +kernel
theorem dX9_setEnding_111 : decode cX9_setEnding 111 = .ok (.return_, 1) := by decide +kernel
theorem dX9_last_0 : decode cX9_last 0 = .ok (.aload_n 0, 1) := by decide +kernel
theorem dX9_last_1 : decode cX9_last 1 = .ok (.invokevirtual 160, 3) := by decide +kernel
theorem dX9_last_4 : decode cX9_last 4 = .ok (.iload_n 1, 1) := by decide +kernel
theorem dX9_last_5 : decode cX9_last 5 = .ok (.iconst 1, 1) := by decide +kernel
theorem dX9_last_6 : decode cX9_last 6 = .ok (.bipush 6, 2) := by decide +kernel
theorem dX9_last_8 : decode cX9_last 8 = .ok (.invokestatic 63, 3) := by decide +kernel
theorem dX9_last_11 : decode cX9_last 11 = .ok (.ifCond .eq 15, 3) := by decide +kernel
theorem dX9_last_14 : decode cX9_last 14 = .ok (.iload_n 2, 1) := by decide +kernel
theorem dX9_last_15 : decode cX9_last 15 = .ok (.iconst 1, 1) := by decide +kernel
theorem dX9_last_16 : decode cX9_last 16 = .ok (.aload_n 0, 1) := by decide +kernel
theorem dX9_last_17 : decode cX9_last 17 = .ok (.getfield 142, 3) := by decide +kernel
theorem dX9_last_20 : decode cX9_last 20 = .ok (.invokestatic 63, 3) := by decide +kernel
theorem dX9_last_23 : decode cX9_last 23 = .ok (.ifCond .ne 5, 3) := by decide +kernel
theorem dX9_last_26 : decode cX9_last 26 = .ok (.iconst (-1), 1) := by decide +kernel
theorem dX9_last_27 : decode cX9_last 27 = .ok (.ireturn, 1) := by decide +kernel
theorem dX9_last_28 : decode cX9_last 28 = .ok (.iload_n 2, 1) := by decide +kernel
theorem dX9_last_29 : decode cX9_last 29 = .ok (.iload_n 1, 1) := by decide +kernel
theorem dX9_last_30 : decode cX9_last 30 = .ok (.if_icmp .ge 6, 3) := by decide +kernel
theorem dX9_last_33 : decode cX9_last 33 = .ok (.bipush (-9), 2) := by decide +kernel
theorem dX9_last_35 : decode cX9_last 35 = .ok (.ireturn, 1) := by decide +kernel
theorem dX9_last_36 : decode cX9_last 36 = .ok (.iconst 1, 1) := by decide +kernel
theorem dX9_last_37 : decode cX9_last 37 = .ok (.istore_n 3, 1) := by decide +kernel
theorem dX9_last_38 : decode cX9_last 38 = .ok (.iload_n 3, 1) := by decide +kernel
theorem dX9_last_39 : decode cX9_last 39 = .ok (.iload_n 1, 1) := by decide +kernel
theorem dX9_last_40 : decode cX9_last 40 = .ok (.if_icmp .gt 31, 3) := by decide +kernel
theorem dX9_last_43 : decode cX9_last 43 = .ok (.iload_n 3, 1) := by decide +kernel
theorem dX9_last_44 : decode cX9_last 44 = .ok (.istore 4, 2) := by decide +kernel
theorem dX9_last_46 : decode cX9_last 46 = .ok (.iload 4, 2) := by decide +kernel
theorem dX9_last_48 : decode cX9_last 48 = .ok (.iload_n 2, 1) := by decide +kernel
theorem dX9_last_49 : decode cX9_last 49 = .ok (.if_icmp .gt 16, 3) := by decide +kernel
theorem dX9_last_52 : decode cX9_last 52 = .ok (.aload_n 0, 1) := by decide +kernel
theorem dX9_last_53 : decode cX9_last 53 = .ok (.iload_n 3, 1) := by decide +kernel
theorem dX9_last_54 : decode cX9_last 54 = .ok (.iload 4, 2) := by decide +kernel
theorem dX9_last_56 : decode cX9_last 56 = .ok (.invokevirtual 200, 3) := by decide +kernel
theorem dX9_last_59 : decode cX9_last 59 = .ok (.iinc 4 1, 3) := by decide +kernel
theorem dX9_last_62 : decode cX9_last 62 = .ok (.goto (-16), 3) := by decide +kernel
theorem dX9_last_65 : decode cX9_last 65 = .ok (.iinc 3 1, 3) := by decide +kernel
theorem dX9_last_68 : decode cX9_last 68 = .ok (.goto (-30), 3) := by decide +kernel
theorem dX9_last_71 : decode cX9_last 71 = .ok (.aload_n 0, 1) := by decide +kernel
theorem dX9_last_72 : decode cX9_last 72 = .ok (.getfield 57, 3) := by decide +kernel
theorem dX9_last_75 : decode cX9_last 75 = .ok (.bipush 25, 2) := by decide +kernel
theorem dX9_last_77 : decode cX9_last 77 = .ok (.iload_n 1, 1) := by decide +kernel
theorem dX9_last_78 : decode cX9_last 78 = .ok (.imul, 1) := by decide +kernel
theorem dX9_last_79 : decode cX9_last 79 = .ok (.iload_n 2, 1) := by decide +kernel
theorem dX9_last_80 : decode cX9_last 80 = .ok (.iadd, 1) := by decide +kernel
theorem dX9_last_81 : decode cX9_last 81 = .ok (.iaload, 1) := by decide +kernel
theorem dX9_last_82 : decode cX9_last 82 = .ok (.ireturn, 1) := by decide +kernel
theorem dX9_enough_0 : decode cX9_enough 0 = .ok (.iload_n 1, 1) := by decide +kernel
theorem dX9_enough_1 : decode cX9_enough 1 = .ok (.iconst 0, 1) := by decide +kernel
theorem dX9_enough_2 : decode cX9_enough 2 = .ok (.bipush 100, 2) := by decide +kernel
theorem dX9_enough_4 : decode cX9_enough 4 = .ok (.invokestatic 63, 3) := by decide +kernel
theorem dX9_enough_7 : decode cX9_enough 7 = .ok (.ifCond .ne 5, 3) := by decide +kernel
theorem dX9_enough_10 : decode cX9_enough 10 = .ok (.iconst (-1), 1) := by decide +kernel
theorem dX9_enough_11 : decode cX9_enough 11 = .ok (.ireturn, 1) := by decide +kernel
theorem dX9_enough_12 : decode cX9_enough 12 = .ok (.aload_n 0, 1) := by decide +kernel
theorem dX9_enough_13 : decode cX9_enough 13 = .ok (.iconst 1, 1) := by decide +kernel
theorem dX9_enough_14 : decode cX9_enough 14 = .ok (.invokevirtual 196, 3) := by decide +kernel
theorem dX9_enough_17 : decode cX9_enough 17 = .ok (.lstore_n 2, 1) := by decide +kernel
theorem dX9_enough_18 : decode cX9_enough 18 = .ok (.iconst 1, 1) := by decide +kernel
theorem dX9_enough_19 : decode cX9_enough 19 = .ok (.istore 4, 2) := by decide +kernel
theorem dX9_enough_21 : decode cX9_enough 21 = .ok (.iload 4, 2) := by decide +kernel
theorem dX9_enough_23 : decode cX9_enough 23 = .ok (.bipush 7, 2) := by decide +kernel
theorem dX9_enough_25 : decode cX9_enough 25 = .ok (.if_icmp .ge 26, 3) := by decide +kernel
theorem dX9_enough_28 : decode cX9_enough 28 = .ok (.aload_n 0, 1) := by decide +kernel
theorem dX9_enough_29 : decode cX9_enough 29 = .ok (.iload 4, 2) := by decide +kernel
theorem dX9_enough_31 : decode cX9_enough 31 = .ok (.invokevirtual 196, 3) := by decide +kernel
theorem dX9_enough_34 : decode cX9_enough 34 = .ok (.lload_n 2, 1) := by decide +kernel
theorem dX9_enough_35 : decode cX9_enough 35 = .ok (.iload_n 1, 1) := by decide +kernel
theorem dX9_enough_36 : decode cX9_enough 36 = .ok (.invokestatic 204, 3) := by decide +kernel
theorem dX9_enough_39 : decode cX9_enough 39 = .ok (.ifCond .eq 6, 3) := by decide +kernel
theorem dX9_enough_42 : decode cX9_enough 42 = .ok (.iload 4, 2) := by decide +kernel
theorem dX9_enough_44 : decode cX9_enough 44 = .ok (.ireturn, 1) := by decide +kernel
theorem dX9_enough_45 : decode cX9_enough 45 = .ok (.iinc 4 1, 3) := by decide +kernel
theorem dX9_enough_48 : decode cX9_enough 48 = .ok (.goto (-27), 3) := by decide +kernel
theorem dX9_enough_51 : decode cX9_enough 51 = .ok (.bipush (-9), 2) := by decide +kernel
theorem dX9_enough_53 : decode cX9_enough 53 = .ok (.ireturn, 1) := by decide +kernel
theorem dX9_isNoMore_0 : decode cX9_isNoMore 0 = .ok (.lload_n 2, 1) := by decide +kernel
theorem dX9_isNoMore_1 : decode cX9_isNoMore 1 = .ok (.ldc2_w 208, 3) := by decide +kernel
theorem dX9_isNoMore_4 : decode cX9_isNoMore 4 = .ok (.ldiv, 1) := by decide +kernel
theorem dX9_isNoMore_5 : decode cX9_isNoMore 5 = .ok (.iload 4, 2) := by decide +kernel
theorem dX9_isNoMore_7 : decode cX9_isNoMore 7 = .ok (.i2l, 1) := by decide +kernel
theorem dX9_isNoMore_8 : decode cX9_isNoMore 8 = .ok (.lmul, 1) := by decide +kernel
theorem dX9_isNoMore_9 : decode cX9_isNoMore 9 = .ok (.lstore 5, 2) := by decide +kernel
theorem dX9_isNoMore_11 : decode cX9_isNoMore 11 = .ok (.lload_n 2, 1) := by decide +kernel
theorem dX9_isNoMore_12 : decode cX9_isNoMore 12 = .ok (.ldc2_w 208, 3) := by decide +kernel
theorem dX9_isNoMore_15 : decode cX9_isNoMore 15 = .ok (.lrem, 1) := by decide +kernel
theorem dX9_isNoMore_16 : decode cX9_isNoMore 16 = .ok (.iload 4, 2) := by decide +kernel
theorem dX9_isNoMore_18 : decode cX9_isNoMore 18 = .ok (.i2l, 1) := by decide +kernel
theorem dX9_isNoMore_19 : decode cX9_isNoMore 19 = .ok (.lmul, 1) := by decide +kernel
theorem dX9_isNoMore_20 : decode cX9_isNoMore 20 = .ok (.lstore 7, 2) := by decide +kernel
theorem dX9_isNoMore_22 : decode cX9_isNoMore 22 = .ok (.lload_n 0, 1) := by decide +kernel
theorem dX9_isNoMore_23 : decode cX9_isNoMore 23 = .ok (.lload 5, 2) := by decide +kernel
theorem dX9_isNoMore_25 : decode cX9_isNoMore 25 = .ok (.lcmp, 1) := by decide +kernel
theorem dX9_isNoMore_26 : decode cX9_isNoMore 26 = .ok (.ifCond .lt 17, 3) := by decide +kernel
theorem dX9_isNoMore_29 : decode cX9_isNoMore 29 = .ok (.lload_n 0, 1) := by decide +kernel
theorem dX9_isNoMore_30 : decode cX9_isNoMore 30 = .ok (.lload 5, 2) := by decide +kernel
theorem dX9_isNoMore_32 : decode cX9_isNoMore 32 = .ok (.lsub, 1) := by decide +kernel
theorem dX9_isNoMore_33 : decode cX9_isNoMore 33 = .ok (.lload 7, 2) := by decide +kernel
theorem dX9_isNoMore_35 : decode cX9_isNoMore 35 = .ok (.ldc2_w 208, 3) := by decide +kernel
theorem dX9_isNoMore_38 : decode cX9_isNoMore 38 = .ok (.ldiv, 1) := by decide +kernel
theorem dX9_isNoMore_39 : decode cX9_isNoMore 39 = .ok (.lcmp, 1) := by decide +kernel
theorem dX9_isNoMore_40 : decode cX9_isNoMore 40 = .ok (.ifCond .gt 7, 3) := by decide +kernel
theorem dX9_isNoMore_43 : decode cX9_isNoMore 43 = .ok (.iconst 1, 1) := by decide +kernel
theorem dX9_isNoMore_44 : decode cX9_isNoMore 44 = .ok (.goto 4, 3) := by decide +kernel
theorem dX9_isNoMore_47 : decode cX9_isNoMore 47 = .ok (.iconst 0, 1) := by decide +kernel
theorem dX9_isNoMore_48 : decode cX9_isNoMore 48 = .ok (.ireturn, 1) := by decide +kernel
theorem dX9_keep_0 : decode cX9_keep 0 = .ok (.iload_n 1, 1) := by decide +kernel
theorem dX9_keep_1 : decode cX9_keep 1 = .ok (.iconst 0, 1) := by decide +kernel
theorem dX9_keep_2 : decode cX9_keep 2 = .ok (.iconst 1, 1) := by decide +kernel
theorem dX9_keep_3 : decode cX9_keep 3 = .ok (.invokestatic 63, 3) := by decide +kernel
theorem dX9_keep_6 : decode cX9_keep 6 = .ok (.ifCond .ne 5, 3) := by decide +kernel
theorem dX9_keep_9 : decode cX9_keep 9 = .ok (.iconst (-1), 1) := by decide +kernel
theorem dX9_keep_10 : decode cX9_keep 10 = .ok (.ireturn, 1) := by decide +kernel
theorem dX9_keep_11 : decode cX9_keep 11 = .ok (.aload_n 0, 1) := by decide +kernel
theorem dX9_keep_12 : decode cX9_keep 12 = .ok (.getfield 35, 3) := by decide +kernel
theorem dX9_keep_15 : decode cX9_keep 15 = .ok (.bipush 58, 2) := by decide +kernel
theorem dX9_keep_17 : decode cX9_keep 17 = .ok (.iload_n 1, 1) := by decide +kernel
theorem dX9_keep_18 : decode cX9_keep 18 = .ok (.imul, 1) := by decide +kernel
theorem dX9_keep_19 : decode cX9_keep 19 = .ok (.iconst 1, 1) := by decide +kernel
theorem dX9_keep_20 : decode cX9_keep 20 = .ok (.iastore, 1) := by decide +kernel
theorem dX9_keep_21 : decode cX9_keep 21 = .ok (.aload_n 0, 1) := by decide +kernel
theorem dX9_keep_22 : decode cX9_keep 22 = .ok (.aload_n 0, 1) := by decide +kernel
theorem dX9_keep_23 : decode cX9_keep 23 = .ok (.getfield 35, 3) := by decide +kernel
theorem dX9_keep_26 : decode cX9_keep 26 = .ok (.bipush 58, 2) := by decide +kernel
theorem dX9_keep_28 : decode cX9_keep 28 = .ok (.iload_n 1, 1) := by decide +kernel
theorem dX9_keep_29 : decode cX9_keep 29 = .ok (.imul, 1) := by decide +kernel
theorem dX9_keep_30 : decode cX9_keep 30 = .ok (.iconst 1, 1) := by decide +kernel
theorem dX9_keep_31 : decode cX9_keep 31 = .ok (.iadd, 1) := by decide +kernel
theorem dX9_keep_32 : decode cX9_keep 32 = .ok (.invokevirtual 125, 3) := by decide +kernel
theorem dX9_keep_35 : decode cX9_keep 35 = .ok (.aload_n 0, 1) := by decide +kernel
theorem dX9_keep_36 : decode cX9_keep 36 = .ok (.getfield 60, 3) := by decide +kernel
theorem dX9_keep_39 : decode cX9_keep 39 = .ok (.ireturn, 1) := by decide +kernel
theorem dX9_back_0 : decode cX9_back 0 = .ok (.iload_n 1, 1) := by decide +kernel
theorem dX9_back_1 : decode cX9_back 1 = .ok (.iconst 0, 1) := by decide +kernel
theorem dX9_back_2 : decode cX9_back 2 = .ok (.iconst 1, 1) := by decide +kernel
theorem dX9_back_3 : decode cX9_back 3 = .ok (.invokestatic 63, 3) := by decide +kernel
theorem dX9_back_6 : decode cX9_back 6 = .ok (.ifCond .ne 5, 3) := by decide +kernel
theorem dX9_back_9 : decode cX9_back 9 = .ok (.iconst (-1), 1) := by decide +kernel
theorem dX9_back_10 : decode cX9_back 10 = .ok (.ireturn, 1) := by decide +kernel
theorem dX9_back_11 : decode cX9_back 11 = .ok (.aload_n 0, 1) := by decide +kernel
theorem dX9_back_12 : decode cX9_back 12 = .ok (.getfield 35, 3) := by decide +kernel
theorem dX9_back_15 : decode cX9_back 15 = .ok (.bipush 58, 2) := by decide +kernel
theorem dX9_back_17 : decode cX9_back 17 = .ok (.iload_n 1, 1) := by decide +kernel
theorem dX9_back_18 : decode cX9_back 18 = .ok (.imul, 1) := by decide +kernel
theorem dX9_back_19 : decode cX9_back 19 = .ok (.iaload, 1) := by decide +kernel
theorem dX9_back_20 : decode cX9_back 20 = .ok (.ifCond .ne 6, 3) := by decide +kernel
theorem dX9_back_23 : decode cX9_back 23 = .ok (.bipush (-2), 2) := by decide +kernel
theorem dX9_back_25 : decode cX9_back 25 = .ok (.ireturn, 1) := by decide +kernel
theorem dX9_back_26 : decode cX9_back 26 = .ok (.aload_n 0, 1) := by decide +kernel
theorem dX9_back_27 : decode cX9_back 27 = .ok (.aload_n 0, 1) := by decide +kernel
theorem dX9_back_28 : decode cX9_back 28 = .ok (.getfield 35, 3) := by decide +kernel
theorem dX9_back_31 : decode cX9_back 31 = .ok (.bipush 58, 2) := by decide +kernel
theorem dX9_back_33 : decode cX9_back 33 = .ok (.iload_n 1, 1) := by decide +kernel
theorem dX9_back_34 : decode cX9_back 34 = .ok (.imul, 1) := by decide +kernel
theorem dX9_back_35 : decode cX9_back 35 = .ok (.iconst 1, 1) := by decide +kernel
theorem dX9_back_36 : decode cX9_back 36 = .ok (.iadd, 1) := by decide +kernel
theorem dX9_back_37 : decode cX9_back 37 = .ok (.invokevirtual 139, 3) := by decide +kernel
theorem dX9_back_40 : decode cX9_back 40 = .ok (.aload_n 0, 1) := by decide +kernel
theorem dX9_back_41 : decode cX9_back 41 = .ok (.iconst 0, 1) := by decide +kernel
theorem dX9_back_42 : decode cX9_back 42 = .ok (.putfield 122, 3) := by decide +kernel
theorem dX9_back_45 : decode cX9_back 45 = .ok (.aload_n 0, 1) := by decide +kernel
theorem dX9_back_46 : decode cX9_back 46 = .ok (.getfield 60, 3) := by decide +kernel
theorem dX9_back_49 : decode cX9_back 49 = .ok (.ireturn, 1) := by decide +kernel
theorem dX9_sum_0 : decode cX9_sum 0 = .ok (.iconst 0, 1) := by decide +kernel
theorem dX9_sum_1 : decode cX9_sum 1 = .ok (.istore_n 1, 1) := by decide +kernel
theorem dX9_sum_2 : decode cX9_sum 2 = .ok (.iconst 0, 1) := by decide +kernel
theorem dX9_sum_3 : decode cX9_sum 3 = .ok (.istore_n 2, 1) := by decide +kernel
theorem dX9_sum_4 : decode cX9_sum 4 = .ok (.iload_n 2, 1) := by decide +kernel
theorem dX9_sum_5 : decode cX9_sum 5 = .ok (.aload_n 0, 1) := by decide +kernel
theorem dX9_sum_6 : decode cX9_sum 6 = .ok (.getfield 60, 3) := by decide +kernel
theorem dX9_sum_9 : decode cX9_sum 9 = .ok (.if_icmp .ge 18, 3) := by decide +kernel
theorem dX9_sum_12 : decode cX9_sum 12 = .ok (.iload_n 1, 1) := by decide +kernel
theorem dX9_sum_13 : decode cX9_sum 13 = .ok (.aload_n 0, 1) := by decide +kernel
theorem dX9_sum_14 : decode cX9_sum 14 = .ok (.getfield 17, 3) := by decide +kernel
theorem dX9_sum_17 : decode cX9_sum 17 = .ok (.iload_n 2, 1) := by decide +kernel
theorem dX9_sum_18 : decode cX9_sum 18 = .ok (.iaload, 1) := by decide +kernel
theorem dX9_sum_19 : decode cX9_sum 19 = .ok (.iadd, 1) := by decide +kernel
theorem dX9_sum_20 : decode cX9_sum 20 = .ok (.istore_n 1, 1) := by decide +kernel
theorem dX9_sum_21 : decode cX9_sum 21 = .ok (.iinc 2 1, 3) := by decide +kernel
theorem dX9_sum_24 : decode cX9_sum 24 = .ok (.goto (-20), 3) := by decide +kernel
theorem dX9_sum_27 : decode cX9_sum 27 = .ok (.iload_n 1, 1) := by decide +kernel
theorem dX9_sum_28 : decode cX9_sum 28 = .ok (.ireturn, 1) := by decide +kernel
theorem dX9_count_0 : decode cX9_count 0 = .ok (.iload_n 1, 1) := by decide +kernel
theorem dX9_count_1 : decode cX9_count 1 = .ok (.iconst 0, 1) := by decide +kernel
theorem dX9_count_2 : decode cX9_count 2 = .ok (.bipush 7, 2) := by decide +kernel
theorem dX9_count_4 : decode cX9_count 4 = .ok (.invokestatic 63, 3) := by decide +kernel
theorem dX9_count_7 : decode cX9_count 7 = .ok (.ifCond .ne 5, 3) := by decide +kernel
theorem dX9_count_10 : decode cX9_count 10 = .ok (.iconst (-1), 1) := by decide +kernel
theorem dX9_count_11 : decode cX9_count 11 = .ok (.ireturn, 1) := by decide +kernel
theorem dX9_count_12 : decode cX9_count 12 = .ok (.iload_n 1, 1) := by decide +kernel
theorem dX9_count_13 : decode cX9_count 13 = .ok (.tableswitch 96 0 6 #[43, 48, 57, 62, 67, 86, 91], 43) := by decide +kernel
theorem dX9_count_56 : decode cX9_count 56 = .ok (.aload_n 0, 1) := by decide +kernel
theorem dX9_count_57 : decode cX9_count 57 = .ok (.getfield 60, 3) := by decide +kernel
theorem dX9_count_60 : decode cX9_count 60 = .ok (.ireturn, 1) := by decide +kernel
theorem dX9_count_61 : decode cX9_count 61 = .ok (.aload_n 0, 1) := by decide +kernel
theorem dX9_count_62 : decode cX9_count 62 = .ok (.invokevirtual 160, 3) := by decide +kernel
theorem dX9_count_65 : decode cX9_count 65 = .ok (.aload_n 0, 1) := by decide +kernel
theorem dX9_count_66 : decode cX9_count 66 = .ok (.getfield 142, 3) := by decide +kernel
theorem dX9_count_69 : decode cX9_count 69 = .ok (.ireturn, 1) := by decide +kernel
theorem dX9_count_70 : decode cX9_count 70 = .ok (.aload_n 0, 1) := by decide +kernel
theorem dX9_count_71 : decode cX9_count 71 = .ok (.getfield 7, 3) := by decide +kernel
theorem dX9_count_74 : decode cX9_count 74 = .ok (.ireturn, 1) := by decide +kernel
theorem dX9_count_75 : decode cX9_count 75 = .ok (.aload_n 0, 1) := by decide +kernel
theorem dX9_count_76 : decode cX9_count 76 = .ok (.getfield 116, 3) := by decide +kernel
theorem dX9_count_79 : decode cX9_count 79 = .ok (.ireturn, 1) := by decide +kernel
theorem dX9_count_80 : decode cX9_count 80 = .ok (.aload_n 0, 1) := by decide +kernel
theorem dX9_count_81 : decode cX9_count 81 = .ok (.getfield 119, 3) := by decide +kernel
theorem dX9_count_84 : decode cX9_count 84 = .ok (.ifCond .ne 8, 3) := by decide +kernel
theorem dX9_count_87 : decode cX9_count 87 = .ok (.bipush (-9), 2) := by decide +kernel
theorem dX9_count_89 : decode cX9_count 89 = .ok (.goto 9, 3) := by decide +kernel
theorem dX9_count_92 : decode cX9_count 92 = .ok (.aload_n 0, 1) := by decide +kernel
theorem dX9_count_93 : decode cX9_count 93 = .ok (.getfield 119, 3) := by decide +kernel
theorem dX9_count_96 : decode cX9_count 96 = .ok (.iconst 1, 1) := by decide +kernel
theorem dX9_count_97 : decode cX9_count 97 = .ok (.isub, 1) := by decide +kernel
theorem dX9_count_98 : decode cX9_count 98 = .ok (.ireturn, 1) := by decide +kernel
theorem dX9_count_99 : decode cX9_count 99 = .ok (.aload_n 0, 1) := by decide +kernel
theorem dX9_count_100 : decode cX9_count 100 = .ok (.invokevirtual 210, 3) := by decide +kernel
theorem dX9_count_103 : decode cX9_count 103 = .ok (.ireturn, 1) := by decide +kernel
theorem dX9_count_104 : decode cX9_count 104 = .ok (.aload_n 0, 1) := by decide +kernel
theorem dX9_count_105 : decode cX9_count 105 = .ok (.getfield 122, 3) := by decide +kernel
theorem dX9_count_108 : decode cX9_count 108 = .ok (.ireturn, 1) := by decide +kernel
theorem dX9_count_109 : decode cX9_count 109 = .ok (.aload_n 0, 1) := by decide +kernel
theorem dX9_count_110 : decode cX9_count 110 = .ok (.getfield 67, 3) := by decide +kernel
theorem dX9_count_113 : decode cX9_count 113 = .ok (.ireturn, 1) := by decide +kernel
theorem dL_law_0 : decode cL_law 0 = .ok (.new 7, 3) := by decide +kernel
theorem dL_law_3 : decode cL_law 3 = .ok (.dup, 1) := by decide +kernel
theorem dL_law_4 : decode cL_law 4 = .ok (.invokespecial 9, 3) := by decide +kernel
theorem dL_law_7 : decode cL_law 7 = .ok (.astore_n 1, 1) := by decide +kernel
theorem dL_law_8 : decode cL_law 8 = .ok (.new 10, 3) := by decide +kernel
theorem dL_law_11 : decode cL_law 11 = .ok (.dup, 1) := by decide +kernel
theorem dL_law_12 : decode cL_law 12 = .ok (.invokespecial 12, 3) := by decide +kernel
theorem dL_law_15 : decode cL_law 15 = .ok (.astore_n 2, 1) := by decide +kernel
theorem dL_law_16 : decode cL_law 16 = .ok (.iconst 0, 1) := by decide +kernel
theorem dL_law_17 : decode cL_law 17 = .ok (.istore_n 3, 1) := by decide +kernel
theorem dL_law_18 : decode cL_law 18 = .ok (.iload_n 3, 1) := by decide +kernel
theorem dL_law_19 : decode cL_law 19 = .ok (.aload_n 0, 1) := by decide +kernel
theorem dL_law_20 : decode cL_law 20 = .ok (.arraylength, 1) := by decide +kernel
theorem dL_law_21 : decode cL_law 21 = .ok (.iconst 4, 1) := by decide +kernel
theorem dL_law_22 : decode cL_law 22 = .ok (.isub, 1) := by decide +kernel
theorem dL_law_23 : decode cL_law 23 = .ok (.if_icmp .gt 640, 3) := by decide +kernel
theorem dL_law_26 : decode cL_law 26 = .ok (.aload_n 0, 1) := by decide +kernel
theorem dL_law_27 : decode cL_law 27 = .ok (.iload_n 3, 1) := by decide +kernel
theorem dL_law_28 : decode cL_law 28 = .ok (.iaload, 1) := by decide +kernel
theorem dL_law_29 : decode cL_law 29 = .ok (.bipush 31, 2) := by decide +kernel
theorem dL_law_31 : decode cL_law 31 = .ok (.iand, 1) := by decide +kernel
theorem dL_law_32 : decode cL_law 32 = .ok (.tableswitch 625 0 20 #[100, 123, 136, 149, 192, 225, 248, 271, 284, 297, 340, 373, 396, 420, 433, 466, 500, 533, 556, 579, 602], 100) := by decide +kernel
theorem dL_law_132 : decode cL_law 132 = .ok (.aload_n 1, 1) := by decide +kernel
theorem dL_law_133 : decode cL_law 133 = .ok (.aload_n 0, 1) := by decide +kernel
theorem dL_law_134 : decode cL_law 134 = .ok (.iload_n 3, 1) := by decide +kernel
theorem dL_law_135 : decode cL_law 135 = .ok (.iconst 1, 1) := by decide +kernel
theorem dL_law_136 : decode cL_law 136 = .ok (.iadd, 1) := by decide +kernel
theorem dL_law_137 : decode cL_law 137 = .ok (.iaload, 1) := by decide +kernel
theorem dL_law_138 : decode cL_law 138 = .ok (.invokevirtual 13, 3) := by decide +kernel
theorem dL_law_141 : decode cL_law 141 = .ok (.aload_n 2, 1) := by decide +kernel
theorem dL_law_142 : decode cL_law 142 = .ok (.aload_n 0, 1) := by decide +kernel
theorem dL_law_143 : decode cL_law 143 = .ok (.iload_n 3, 1) := by decide +kernel
theorem dL_law_144 : decode cL_law 144 = .ok (.iconst 1, 1) := by decide +kernel
theorem dL_law_145 : decode cL_law 145 = .ok (.iadd, 1) := by decide +kernel
theorem dL_law_146 : decode cL_law 146 = .ok (.iaload, 1) := by decide +kernel
theorem dL_law_147 : decode cL_law 147 = .ok (.invokevirtual 17, 3) := by decide +kernel
theorem dL_law_150 : decode cL_law 150 = .ok (.if_icmp .eq 507, 3) := by decide +kernel
theorem dL_law_153 : decode cL_law 153 = .ok (.iconst 0, 1) := by decide +kernel
theorem dL_law_154 : decode cL_law 154 = .ok (.ireturn, 1) := by decide +kernel
theorem dL_law_155 : decode cL_law 155 = .ok (.aload_n 1, 1) := by decide +kernel
theorem dL_law_156 : decode cL_law 156 = .ok (.invokevirtual 18, 3) := by decide +kernel
theorem dL_law_159 : decode cL_law 159 = .ok (.aload_n 2, 1) := by decide +kernel
theorem dL_law_160 : decode cL_law 160 = .ok (.invokevirtual 22, 3) := by decide +kernel
theorem dL_law_163 : decode cL_law 163 = .ok (.if_icmp .eq 494, 3) := by decide +kernel
theorem dL_law_166 : decode cL_law 166 = .ok (.iconst 0, 1) := by decide +kernel
theorem dL_law_167 : decode cL_law 167 = .ok (.ireturn, 1) := by decide +kernel
theorem dL_law_168 : decode cL_law 168 = .ok (.aload_n 1, 1) := by decide +kernel
theorem dL_law_169 : decode cL_law 169 = .ok (.invokevirtual 23, 3) := by decide +kernel
theorem dL_law_172 : decode cL_law 172 = .ok (.aload_n 2, 1) := by decide +kernel
theorem dL_law_173 : decode cL_law 173 = .ok (.invokevirtual 26, 3) := by decide +kernel
theorem dL_law_176 : decode cL_law 176 = .ok (.if_icmp .eq 481, 3) := by decide +kernel
theorem dL_law_179 : decode cL_law 179 = .ok (.iconst 0, 1) := by decide +kernel
theorem dL_law_180 : decode cL_law 180 = .ok (.ireturn, 1) := by decide +kernel
theorem dL_law_181 : decode cL_law 181 = .ok (.aload_n 1, 1) := by decide +kernel
theorem dL_law_182 : decode cL_law 182 = .ok (.aload_n 0, 1) := by decide +kernel
theorem dL_law_183 : decode cL_law 183 = .ok (.iload_n 3, 1) := by decide +kernel
theorem dL_law_184 : decode cL_law 184 = .ok (.iconst 1, 1) := by decide +kernel
theorem dL_law_185 : decode cL_law 185 = .ok (.iadd, 1) := by decide +kernel
theorem dL_law_186 : decode cL_law 186 = .ok (.iaload, 1) := by decide +kernel
theorem dL_law_187 : decode cL_law 187 = .ok (.aload_n 0, 1) := by decide +kernel
theorem dL_law_188 : decode cL_law 188 = .ok (.iload_n 3, 1) := by decide +kernel
theorem dL_law_189 : decode cL_law 189 = .ok (.iconst 2, 1) := by decide +kernel
theorem dL_law_190 : decode cL_law 190 = .ok (.iadd, 1) := by decide +kernel
theorem dL_law_191 : decode cL_law 191 = .ok (.iaload, 1) := by decide +kernel
theorem dL_law_192 : decode cL_law 192 = .ok (.aload_n 0, 1) := by decide +kernel
theorem dL_law_193 : decode cL_law 193 = .ok (.iload_n 3, 1) := by decide +kernel
theorem dL_law_194 : decode cL_law 194 = .ok (.iconst 3, 1) := by decide +kernel
theorem dL_law_195 : decode cL_law 195 = .ok (.iadd, 1) := by decide +kernel
theorem dL_law_196 : decode cL_law 196 = .ok (.iaload, 1) := by decide +kernel
theorem dL_law_197 : decode cL_law 197 = .ok (.invokevirtual 27, 3) := by decide +kernel
theorem dL_law_200 : decode cL_law 200 = .ok (.aload_n 2, 1) := by decide +kernel
theorem dL_law_201 : decode cL_law 201 = .ok (.aload_n 0, 1) := by decide +kernel
theorem dL_law_202 : decode cL_law 202 = .ok (.iload_n 3, 1) := by decide +kernel
theorem dL_law_203 : decode cL_law 203 = .ok (.iconst 1, 1) := by decide +kernel
theorem dL_law_204 : decode cL_law 204 = .ok (.iadd, 1) := by decide +kernel
theorem dL_law_205 : decode cL_law 205 = .ok (.iaload, 1) := by decide +kernel
theorem dL_law_206 : decode cL_law 206 = .ok (.aload_n 0, 1) := by decide +kernel
theorem dL_law_207 : decode cL_law 207 = .ok (.iload_n 3, 1) := by decide +kernel
theorem dL_law_208 : decode cL_law 208 = .ok (.iconst 2, 1) := by decide +kernel
theorem dL_law_209 : decode cL_law 209 = .ok (.iadd, 1) := by decide +kernel
theorem dL_law_210 : decode cL_law 210 = .ok (.iaload, 1) := by decide +kernel
theorem dL_law_211 : decode cL_law 211 = .ok (.aload_n 0, 1) := by decide +kernel
theorem dL_law_212 : decode cL_law 212 = .ok (.iload_n 3, 1) := by decide +kernel
theorem dL_law_213 : decode cL_law 213 = .ok (.iconst 3, 1) := by decide +kernel
theorem dL_law_214 : decode cL_law 214 = .ok (.iadd, 1) := by decide +kernel
theorem dL_law_215 : decode cL_law 215 = .ok (.iaload, 1) := by decide +kernel
theorem dL_law_216 : decode cL_law 216 = .ok (.invokevirtual 31, 3) := by decide +kernel
theorem dL_law_219 : decode cL_law 219 = .ok (.if_icmp .eq 438, 3) := by decide +kernel
theorem dL_law_222 : decode cL_law 222 = .ok (.iconst 0, 1) := by decide +kernel
theorem dL_law_223 : decode cL_law 223 = .ok (.ireturn, 1) := by decide +kernel
theorem dL_law_224 : decode cL_law 224 = .ok (.aload_n 1, 1) := by decide +kernel
theorem dL_law_225 : decode cL_law 225 = .ok (.aload_n 0, 1) := by decide +kernel
theorem dL_law_226 : decode cL_law 226 = .ok (.iload_n 3, 1) := by decide +kernel
theorem dL_law_227 : decode cL_law 227 = .ok (.iconst 1, 1) := by decide +kernel
theorem dL_law_228 : decode cL_law 228 = .ok (.iadd, 1) := by decide +kernel
theorem dL_law_229 : decode cL_law 229 = .ok (.iaload, 1) := by decide +kernel
theorem dL_law_230 : decode cL_law 230 = .ok (.aload_n 0, 1) := by decide +kernel
theorem dL_law_231 : decode cL_law 231 = .ok (.iload_n 3, 1) := by decide +kernel
theorem dL_law_232 : decode cL_law 232 = .ok (.iconst 2, 1) := by decide +kernel
theorem dL_law_233 : decode cL_law 233 = .ok (.iadd, 1) := by decide +kernel
theorem dL_law_234 : decode cL_law 234 = .ok (.iaload, 1) := by decide +kernel
theorem dL_law_235 : decode cL_law 235 = .ok (.invokevirtual 32, 3) := by decide +kernel
theorem dL_law_238 : decode cL_law 238 = .ok (.aload_n 2, 1) := by decide +kernel
theorem dL_law_239 : decode cL_law 239 = .ok (.aload_n 0, 1) := by decide +kernel
theorem dL_law_240 : decode cL_law 240 = .ok (.iload_n 3, 1) := by decide +kernel
theorem dL_law_241 : decode cL_law 241 = .ok (.iconst 1, 1) := by decide +kernel
theorem dL_law_242 : decode cL_law 242 = .ok (.iadd, 1) := by decide +kernel
theorem dL_law_243 : decode cL_law 243 = .ok (.iaload, 1) := by decide +kernel
theorem dL_law_244 : decode cL_law 244 = .ok (.aload_n 0, 1) := by decide +kernel
theorem dL_law_245 : decode cL_law 245 = .ok (.iload_n 3, 1) := by decide +kernel
theorem dL_law_246 : decode cL_law 246 = .ok (.iconst 2, 1) := by decide +kernel
theorem dL_law_247 : decode cL_law 247 = .ok (.iadd, 1) := by decide +kernel
theorem dL_law_248 : decode cL_law 248 = .ok (.iaload, 1) := by decide +kernel
theorem dL_law_249 : decode cL_law 249 = .ok (.invokevirtual 36, 3) := by decide +kernel
theorem dL_law_252 : decode cL_law 252 = .ok (.if_icmp .eq 405, 3) := by decide +kernel
theorem dL_law_255 : decode cL_law 255 = .ok (.iconst 0, 1) := by decide +kernel
theorem dL_law_256 : decode cL_law 256 = .ok (.ireturn, 1) := by decide +kernel
theorem dL_law_257 : decode cL_law 257 = .ok (.aload_n 1, 1) := by decide +kernel
theorem dL_law_258 : decode cL_law 258 = .ok (.aload_n 0, 1) := by decide +kernel
theorem dL_law_259 : decode cL_law 259 = .ok (.iload_n 3, 1) := by decide +kernel
theorem dL_law_260 : decode cL_law 260 = .ok (.iconst 1, 1) := by decide +kernel
theorem dL_law_261 : decode cL_law 261 = .ok (.iadd, 1) := by decide +kernel
theorem dL_law_262 : decode cL_law 262 = .ok (.iaload, 1) := by decide +kernel
theorem dL_law_263 : decode cL_law 263 = .ok (.invokevirtual 37, 3) := by decide +kernel
theorem dL_law_266 : decode cL_law 266 = .ok (.aload_n 2, 1) := by decide +kernel
theorem dL_law_267 : decode cL_law 267 = .ok (.aload_n 0, 1) := by decide +kernel
theorem dL_law_268 : decode cL_law 268 = .ok (.iload_n 3, 1) := by decide +kernel
theorem dL_law_269 : decode cL_law 269 = .ok (.iconst 1, 1) := by decide +kernel
theorem dL_law_270 : decode cL_law 270 = .ok (.iadd, 1) := by decide +kernel
theorem dL_law_271 : decode cL_law 271 = .ok (.iaload, 1) := by decide +kernel
theorem dL_law_272 : decode cL_law 272 = .ok (.invokevirtual 40, 3) := by decide +kernel
theorem dL_law_275 : decode cL_law 275 = .ok (.if_icmp .eq 382, 3) := by decide +kernel
theorem dL_law_278 : decode cL_law 278 = .ok (.iconst 0, 1) := by decide +kernel
theorem dL_law_279 : decode cL_law 279 = .ok (.ireturn, 1) := by decide +kernel
theorem dL_law_280 : decode cL_law 280 = .ok (.aload_n 1, 1) := by decide +kernel
theorem dL_law_281 : decode cL_law 281 = .ok (.aload_n 0, 1) := by decide +kernel
theorem dL_law_282 : decode cL_law 282 = .ok (.iload_n 3, 1) := by decide +kernel
theorem dL_law_283 : decode cL_law 283 = .ok (.iconst 1, 1) := by decide +kernel
theorem dL_law_284 : decode cL_law 284 = .ok (.iadd, 1) := by decide +kernel
theorem dL_law_285 : decode cL_law 285 = .ok (.iaload, 1) := by decide +kernel
theorem dL_law_286 : decode cL_law 286 = .ok (.invokevirtual 41, 3) := by decide +kernel
theorem dL_law_289 : decode cL_law 289 = .ok (.aload_n 2, 1) := by decide +kernel
theorem dL_law_290 : decode cL_law 290 = .ok (.aload_n 0, 1) := by decide +kernel
theorem dL_law_291 : decode cL_law 291 = .ok (.iload_n 3, 1) := by decide +kernel
theorem dL_law_292 : decode cL_law 292 = .ok (.iconst 1, 1) := by decide +kernel
theorem dL_law_293 : decode cL_law 293 = .ok (.iadd, 1) := by decide +kernel
theorem dL_law_294 : decode cL_law 294 = .ok (.iaload, 1) := by decide +kernel
theorem dL_law_295 : decode cL_law 295 = .ok (.invokevirtual 44, 3) := by decide +kernel
theorem dL_law_298 : decode cL_law 298 = .ok (.if_icmp .eq 359, 3) := by decide +kernel
theorem dL_law_301 : decode cL_law 301 = .ok (.iconst 0, 1) := by decide +kernel
theorem dL_law_302 : decode cL_law 302 = .ok (.ireturn, 1) := by decide +kernel
theorem dL_law_303 : decode cL_law 303 = .ok (.aload_n 1, 1) := by decide +kernel
theorem dL_law_304 : decode cL_law 304 = .ok (.invokevirtual 45, 3) := by decide +kernel
theorem dL_law_307 : decode cL_law 307 = .ok (.aload_n 2, 1) := by decide +kernel
theorem dL_law_308 : decode cL_law 308 = .ok (.invokevirtual 48, 3) := by decide +kernel
theorem dL_law_311 : decode cL_law 311 = .ok (.if_icmp .eq 346, 3) := by decide +kernel
theorem dL_law_314 : decode cL_law 314 = .ok (.iconst 0, 1) := by decide +kernel
theorem dL_law_315 : decode cL_law 315 = .ok (.ireturn, 1) := by decide +kernel
theorem dL_law_316 : decode cL_law 316 = .ok (.aload_n 1, 1) := by decide +kernel
theorem dL_law_317 : decode cL_law 317 = .ok (.invokevirtual 49, 3) := by decide +kernel
theorem dL_law_320 : decode cL_law 320 = .ok (.aload_n 2, 1) := by decide +kernel
theorem dL_law_321 : decode cL_law 321 = .ok (.invokevirtual 52, 3) := by decide +kernel
theorem dL_law_324 : decode cL_law 324 = .ok (.if_icmp .eq 333, 3) := by decide +kernel
theorem dL_law_327 : decode cL_law 327 = .ok (.iconst 0, 1) := by decide +kernel
theorem dL_law_328 : decode cL_law 328 = .ok (.ireturn, 1) := by decide +kernel
theorem dL_law_329 : decode cL_law 329 = .ok (.aload_n 1, 1) := by decide +kernel
theorem dL_law_330 : decode cL_law 330 = .ok (.aload_n 0, 1) := by decide +kernel
theorem dL_law_331 : decode cL_law 331 = .ok (.iload_n 3, 1) := by decide +kernel
theorem dL_law_332 : decode cL_law 332 = .ok (.iconst 1, 1) := by decide +kernel
theorem dL_law_333 : decode cL_law 333 = .ok (.iadd, 1) := by decide +kernel
theorem dL_law_334 : decode cL_law 334 = .ok (.iaload, 1) := by decide +kernel
theorem dL_law_335 : decode cL_law 335 = .ok (.aload_n 0, 1) := by decide +kernel
theorem dL_law_336 : decode cL_law 336 = .ok (.iload_n 3, 1) := by decide +kernel
theorem dL_law_337 : decode cL_law 337 = .ok (.iconst 2, 1) := by decide +kernel
theorem dL_law_338 : decode cL_law 338 = .ok (.iadd, 1) := by decide +kernel
theorem dL_law_339 : decode cL_law 339 = .ok (.iaload, 1) := by decide +kernel
theorem dL_law_340 : decode cL_law 340 = .ok (.aload_n 0, 1) := by decide +kernel
theorem dL_law_341 : decode cL_law 341 = .ok (.iload_n 3, 1) := by decide +kernel
theorem dL_law_342 : decode cL_law 342 = .ok (.iconst 3, 1) := by decide +kernel
theorem dL_law_343 : decode cL_law 343 = .ok (.iadd, 1) := by decide +kernel
theorem dL_law_344 : decode cL_law 344 = .ok (.iaload, 1) := by decide +kernel
theorem dL_law_345 : decode cL_law 345 = .ok (.invokevirtual 53, 3) := by decide +kernel
theorem dL_law_348 : decode cL_law 348 = .ok (.aload_n 2, 1) := by decide +kernel
theorem dL_law_349 : decode cL_law 349 = .ok (.aload_n 0, 1) := by decide +kernel
theorem dL_law_350 : decode cL_law 350 = .ok (.iload_n 3, 1) := by decide +kernel
theorem dL_law_351 : decode cL_law 351 = .ok (.iconst 1, 1) := by decide +kernel
theorem dL_law_352 : decode cL_law 352 = .ok (.iadd, 1) := by decide +kernel
theorem dL_law_353 : decode cL_law 353 = .ok (.iaload, 1) := by decide +kernel
theorem dL_law_354 : decode cL_law 354 = .ok (.aload_n 0, 1) := by decide +kernel
theorem dL_law_355 : decode cL_law 355 = .ok (.iload_n 3, 1) := by decide +kernel
theorem dL_law_356 : decode cL_law 356 = .ok (.iconst 2, 1) := by decide +kernel
theorem dL_law_357 : decode cL_law 357 = .ok (.iadd, 1) := by decide +kernel
theorem dL_law_358 : decode cL_law 358 = .ok (.iaload, 1) := by decide +kernel
theorem dL_law_359 : decode cL_law 359 = .ok (.aload_n 0, 1) := by decide +kernel
theorem dL_law_360 : decode cL_law 360 = .ok (.iload_n 3, 1) := by decide +kernel
theorem dL_law_361 : decode cL_law 361 = .ok (.iconst 3, 1) := by decide +kernel
theorem dL_law_362 : decode cL_law 362 = .ok (.iadd, 1) := by decide +kernel
theorem dL_law_363 : decode cL_law 363 = .ok (.iaload, 1) := by decide +kernel
theorem dL_law_364 : decode cL_law 364 = .ok (.invokevirtual 56, 3) := by decide +kernel
theorem dL_law_367 : decode cL_law 367 = .ok (.if_icmp .eq 290, 3) := by decide +kernel
theorem dL_law_370 : decode cL_law 370 = .ok (.iconst 0, 1) := by decide +kernel
theorem dL_law_371 : decode cL_law 371 = .ok (.ireturn, 1) := by decide +kernel
theorem dL_law_372 : decode cL_law 372 = .ok (.aload_n 1, 1) := by decide +kernel
theorem dL_law_373 : decode cL_law 373 = .ok (.aload_n 0, 1) := by decide +kernel
theorem dL_law_374 : decode cL_law 374 = .ok (.iload_n 3, 1) := by decide +kernel
theorem dL_law_375 : decode cL_law 375 = .ok (.iconst 1, 1) := by decide +kernel
theorem dL_law_376 : decode cL_law 376 = .ok (.iadd, 1) := by decide +kernel
theorem dL_law_377 : decode cL_law 377 = .ok (.iaload, 1) := by decide +kernel
theorem dL_law_378 : decode cL_law 378 = .ok (.aload_n 0, 1) := by decide +kernel
theorem dL_law_379 : decode cL_law 379 = .ok (.iload_n 3, 1) := by decide +kernel
theorem dL_law_380 : decode cL_law 380 = .ok (.iconst 2, 1) := by decide +kernel
theorem dL_law_381 : decode cL_law 381 = .ok (.iadd, 1) := by decide +kernel
theorem dL_law_382 : decode cL_law 382 = .ok (.iaload, 1) := by decide +kernel
theorem dL_law_383 : decode cL_law 383 = .ok (.invokevirtual 57, 3) := by decide +kernel
theorem dL_law_386 : decode cL_law 386 = .ok (.aload_n 2, 1) := by decide +kernel
theorem dL_law_387 : decode cL_law 387 = .ok (.aload_n 0, 1) := by decide +kernel
theorem dL_law_388 : decode cL_law 388 = .ok (.iload_n 3, 1) := by decide +kernel
theorem dL_law_389 : decode cL_law 389 = .ok (.iconst 1, 1) := by decide +kernel
theorem dL_law_390 : decode cL_law 390 = .ok (.iadd, 1) := by decide +kernel
theorem dL_law_391 : decode cL_law 391 = .ok (.iaload, 1) := by decide +kernel
theorem dL_law_392 : decode cL_law 392 = .ok (.aload_n 0, 1) := by decide +kernel
theorem dL_law_393 : decode cL_law 393 = .ok (.iload_n 3, 1) := by decide +kernel
theorem dL_law_394 : decode cL_law 394 = .ok (.iconst 2, 1) := by decide +kernel
theorem dL_law_395 : decode cL_law 395 = .ok (.iadd, 1) := by decide +kernel
theorem dL_law_396 : decode cL_law 396 = .ok (.iaload, 1) := by decide +kernel
theorem dL_law_397 : decode cL_law 397 = .ok (.invokevirtual 60, 3) := by decide +kernel
theorem dL_law_400 : decode cL_law 400 = .ok (.if_icmp .eq 257, 3) := by decide +kernel
theorem dL_law_403 : decode cL_law 403 = .ok (.iconst 0, 1) := by decide +kernel
theorem dL_law_404 : decode cL_law 404 = .ok (.ireturn, 1) := by decide +kernel
theorem dL_law_405 : decode cL_law 405 = .ok (.aload_n 1, 1) := by decide +kernel
theorem dL_law_406 : decode cL_law 406 = .ok (.aload_n 0, 1) := by decide +kernel
theorem dL_law_407 : decode cL_law 407 = .ok (.iload_n 3, 1) := by decide +kernel
theorem dL_law_408 : decode cL_law 408 = .ok (.iconst 1, 1) := by decide +kernel
theorem dL_law_409 : decode cL_law 409 = .ok (.iadd, 1) := by decide +kernel
theorem dL_law_410 : decode cL_law 410 = .ok (.iaload, 1) := by decide +kernel
theorem dL_law_411 : decode cL_law 411 = .ok (.invokevirtual 61, 3) := by decide +kernel
theorem dL_law_414 : decode cL_law 414 = .ok (.aload_n 2, 1) := by decide +kernel
theorem dL_law_415 : decode cL_law 415 = .ok (.aload_n 0, 1) := by decide +kernel
theorem dL_law_416 : decode cL_law 416 = .ok (.iload_n 3, 1) := by decide +kernel
theorem dL_law_417 : decode cL_law 417 = .ok (.iconst 1, 1) := by decide +kernel
theorem dL_law_418 : decode cL_law 418 = .ok (.iadd, 1) := by decide +kernel
theorem dL_law_419 : decode cL_law 419 = .ok (.iaload, 1) := by decide +kernel
theorem dL_law_420 : decode cL_law 420 = .ok (.invokevirtual 64, 3) := by decide +kernel
theorem dL_law_423 : decode cL_law 423 = .ok (.if_icmp .eq 234, 3) := by decide +kernel
theorem dL_law_426 : decode cL_law 426 = .ok (.iconst 0, 1) := by decide +kernel
theorem dL_law_427 : decode cL_law 427 = .ok (.ireturn, 1) := by decide +kernel
theorem dL_law_428 : decode cL_law 428 = .ok (.aload_n 1, 1) := by decide +kernel
theorem dL_law_429 : decode cL_law 429 = .ok (.aload_n 0, 1) := by decide +kernel
theorem dL_law_430 : decode cL_law 430 = .ok (.iload_n 3, 1) := by decide +kernel
theorem dL_law_431 : decode cL_law 431 = .ok (.iconst 1, 1) := by decide +kernel
theorem dL_law_432 : decode cL_law 432 = .ok (.iadd, 1) := by decide +kernel
theorem dL_law_433 : decode cL_law 433 = .ok (.iaload, 1) := by decide +kernel
theorem dL_law_434 : decode cL_law 434 = .ok (.invokevirtual 65, 3) := by decide +kernel
theorem dL_law_437 : decode cL_law 437 = .ok (.aload_n 2, 1) := by decide +kernel
theorem dL_law_438 : decode cL_law 438 = .ok (.aload_n 0, 1) := by decide +kernel
theorem dL_law_439 : decode cL_law 439 = .ok (.iload_n 3, 1) := by decide +kernel
theorem dL_law_440 : decode cL_law 440 = .ok (.iconst 1, 1) := by decide +kernel
theorem dL_law_441 : decode cL_law 441 = .ok (.iadd, 1) := by decide +kernel
theorem dL_law_442 : decode cL_law 442 = .ok (.iaload, 1) := by decide +kernel
theorem dL_law_443 : decode cL_law 443 = .ok (.invokevirtual 69, 3) := by decide +kernel
theorem dL_law_446 : decode cL_law 446 = .ok (.lcmp, 1) := by decide +kernel
theorem dL_law_447 : decode cL_law 447 = .ok (.ifCond .eq 210, 3) := by decide +kernel
theorem dL_law_450 : decode cL_law 450 = .ok (.iconst 0, 1) := by decide +kernel
theorem dL_law_451 : decode cL_law 451 = .ok (.ireturn, 1) := by decide +kernel
theorem dL_law_452 : decode cL_law 452 = .ok (.aload_n 1, 1) := by decide +kernel
theorem dL_law_453 : decode cL_law 453 = .ok (.invokevirtual 70, 3) := by decide +kernel
theorem dL_law_456 : decode cL_law 456 = .ok (.aload_n 2, 1) := by decide +kernel
theorem dL_law_457 : decode cL_law 457 = .ok (.invokevirtual 73, 3) := by decide +kernel
theorem dL_law_460 : decode cL_law 460 = .ok (.if_icmp .eq 197, 3) := by decide +kernel
theorem dL_law_463 : decode cL_law 463 = .ok (.iconst 0, 1) := by decide +kernel
theorem dL_law_464 : decode cL_law 464 = .ok (.ireturn, 1) := by decide +kernel
theorem dL_law_465 : decode cL_law 465 = .ok (.aload_n 1, 1) := by decide +kernel
theorem dL_law_466 : decode cL_law 466 = .ok (.aload_n 0, 1) := by decide +kernel
theorem dL_law_467 : decode cL_law 467 = .ok (.iload_n 3, 1) := by decide +kernel
theorem dL_law_468 : decode cL_law 468 = .ok (.iconst 1, 1) := by decide +kernel
theorem dL_law_469 : decode cL_law 469 = .ok (.iadd, 1) := by decide +kernel
theorem dL_law_470 : decode cL_law 470 = .ok (.iaload, 1) := by decide +kernel
theorem dL_law_471 : decode cL_law 471 = .ok (.aload_n 0, 1) := by decide +kernel
theorem dL_law_472 : decode cL_law 472 = .ok (.iload_n 3, 1) := by decide +kernel
theorem dL_law_473 : decode cL_law 473 = .ok (.iconst 2, 1) := by decide +kernel
theorem dL_law_474 : decode cL_law 474 = .ok (.iadd, 1) := by decide +kernel
theorem dL_law_475 : decode cL_law 475 = .ok (.iaload, 1) := by decide +kernel
theorem dL_law_476 : decode cL_law 476 = .ok (.invokevirtual 74, 3) := by decide +kernel
theorem dL_law_479 : decode cL_law 479 = .ok (.aload_n 2, 1) := by decide +kernel
theorem dL_law_480 : decode cL_law 480 = .ok (.aload_n 0, 1) := by decide +kernel
theorem dL_law_481 : decode cL_law 481 = .ok (.iload_n 3, 1) := by decide +kernel
theorem dL_law_482 : decode cL_law 482 = .ok (.iconst 1, 1) := by decide +kernel
theorem dL_law_483 : decode cL_law 483 = .ok (.iadd, 1) := by decide +kernel
theorem dL_law_484 : decode cL_law 484 = .ok (.iaload, 1) := by decide +kernel
theorem dL_law_485 : decode cL_law 485 = .ok (.aload_n 0, 1) := by decide +kernel
theorem dL_law_486 : decode cL_law 486 = .ok (.iload_n 3, 1) := by decide +kernel
theorem dL_law_487 : decode cL_law 487 = .ok (.iconst 2, 1) := by decide +kernel
theorem dL_law_488 : decode cL_law 488 = .ok (.iadd, 1) := by decide +kernel
theorem dL_law_489 : decode cL_law 489 = .ok (.iaload, 1) := by decide +kernel
theorem dL_law_490 : decode cL_law 490 = .ok (.invokevirtual 77, 3) := by decide +kernel
theorem dL_law_493 : decode cL_law 493 = .ok (.if_icmp .eq 164, 3) := by decide +kernel
theorem dL_law_496 : decode cL_law 496 = .ok (.iconst 0, 1) := by decide +kernel
theorem dL_law_497 : decode cL_law 497 = .ok (.ireturn, 1) := by decide +kernel
theorem dL_law_498 : decode cL_law 498 = .ok (.aload_n 1, 1) := by decide +kernel
theorem dL_law_499 : decode cL_law 499 = .ok (.aload_n 0, 1) := by decide +kernel
theorem dL_law_500 : decode cL_law 500 = .ok (.iload_n 3, 1) := by decide +kernel
theorem dL_law_501 : decode cL_law 501 = .ok (.iconst 1, 1) := by decide +kernel
theorem dL_law_502 : decode cL_law 502 = .ok (.iadd, 1) := by decide +kernel
theorem dL_law_503 : decode cL_law 503 = .ok (.iaload, 1) := by decide +kernel
theorem dL_law_504 : decode cL_law 504 = .ok (.aload_n 0, 1) := by decide +kernel
theorem dL_law_505 : decode cL_law 505 = .ok (.iload_n 3, 1) := by decide +kernel
theorem dL_law_506 : decode cL_law 506 = .ok (.iconst 2, 1) := by decide +kernel
theorem dL_law_507 : decode cL_law 507 = .ok (.iadd, 1) := by decide +kernel
theorem dL_law_508 : decode cL_law 508 = .ok (.iaload, 1) := by decide +kernel
theorem dL_law_509 : decode cL_law 509 = .ok (.invokevirtual 78, 3) := by decide +kernel
theorem dL_law_512 : decode cL_law 512 = .ok (.aload_n 2, 1) := by decide +kernel
theorem dL_law_513 : decode cL_law 513 = .ok (.aload_n 0, 1) := by decide +kernel
theorem dL_law_514 : decode cL_law 514 = .ok (.iload_n 3, 1) := by decide +kernel
theorem dL_law_515 : decode cL_law 515 = .ok (.iconst 1, 1) := by decide +kernel
theorem dL_law_516 : decode cL_law 516 = .ok (.iadd, 1) := by decide +kernel
theorem dL_law_517 : decode cL_law 517 = .ok (.iaload, 1) := by decide +kernel
theorem dL_law_518 : decode cL_law 518 = .ok (.aload_n 0, 1) := by decide +kernel
theorem dL_law_519 : decode cL_law 519 = .ok (.iload_n 3, 1) := by decide +kernel
theorem dL_law_520 : decode cL_law 520 = .ok (.iconst 2, 1) := by decide +kernel
theorem dL_law_521 : decode cL_law 521 = .ok (.iadd, 1) := by decide +kernel
theorem dL_law_522 : decode cL_law 522 = .ok (.iaload, 1) := by decide +kernel
theorem dL_law_523 : decode cL_law 523 = .ok (.invokevirtual 82, 3) := by decide +kernel
theorem dL_law_526 : decode cL_law 526 = .ok (.lcmp, 1) := by decide +kernel
theorem dL_law_527 : decode cL_law 527 = .ok (.ifCond .eq 130, 3) := by decide +kernel
theorem dL_law_530 : decode cL_law 530 = .ok (.iconst 0, 1) := by decide +kernel
theorem dL_law_531 : decode cL_law 531 = .ok (.ireturn, 1) := by decide +kernel
theorem dL_law_532 : decode cL_law 532 = .ok (.aload_n 1, 1) := by decide +kernel
theorem dL_law_533 : decode cL_law 533 = .ok (.aload_n 0, 1) := by decide +kernel
theorem dL_law_534 : decode cL_law 534 = .ok (.iload_n 3, 1) := by decide +kernel
theorem dL_law_535 : decode cL_law 535 = .ok (.iconst 1, 1) := by decide +kernel
theorem dL_law_536 : decode cL_law 536 = .ok (.iadd, 1) := by decide +kernel
theorem dL_law_537 : decode cL_law 537 = .ok (.iaload, 1) := by decide +kernel
theorem dL_law_538 : decode cL_law 538 = .ok (.aload_n 0, 1) := by decide +kernel
theorem dL_law_539 : decode cL_law 539 = .ok (.iload_n 3, 1) := by decide +kernel
theorem dL_law_540 : decode cL_law 540 = .ok (.iconst 2, 1) := by decide +kernel
theorem dL_law_541 : decode cL_law 541 = .ok (.iadd, 1) := by decide +kernel
theorem dL_law_542 : decode cL_law 542 = .ok (.iaload, 1) := by decide +kernel
theorem dL_law_543 : decode cL_law 543 = .ok (.invokevirtual 83, 3) := by decide +kernel
theorem dL_law_546 : decode cL_law 546 = .ok (.aload_n 2, 1) := by decide +kernel
theorem dL_law_547 : decode cL_law 547 = .ok (.aload_n 0, 1) := by decide +kernel
theorem dL_law_548 : decode cL_law 548 = .ok (.iload_n 3, 1) := by decide +kernel
theorem dL_law_549 : decode cL_law 549 = .ok (.iconst 1, 1) := by decide +kernel
theorem dL_law_550 : decode cL_law 550 = .ok (.iadd, 1) := by decide +kernel
theorem dL_law_551 : decode cL_law 551 = .ok (.iaload, 1) := by decide +kernel
theorem dL_law_552 : decode cL_law 552 = .ok (.aload_n 0, 1) := by decide +kernel
theorem dL_law_553 : decode cL_law 553 = .ok (.iload_n 3, 1) := by decide +kernel
theorem dL_law_554 : decode cL_law 554 = .ok (.iconst 2, 1) := by decide +kernel
theorem dL_law_555 : decode cL_law 555 = .ok (.iadd, 1) := by decide +kernel
theorem dL_law_556 : decode cL_law 556 = .ok (.iaload, 1) := by decide +kernel
theorem dL_law_557 : decode cL_law 557 = .ok (.invokevirtual 86, 3) := by decide +kernel
theorem dL_law_560 : decode cL_law 560 = .ok (.if_icmp .eq 97, 3) := by decide +kernel
theorem dL_law_563 : decode cL_law 563 = .ok (.iconst 0, 1) := by decide +kernel
theorem dL_law_564 : decode cL_law 564 = .ok (.ireturn, 1) := by decide +kernel
theorem dL_law_565 : decode cL_law 565 = .ok (.aload_n 1, 1) := by decide +kernel
theorem dL_law_566 : decode cL_law 566 = .ok (.aload_n 0, 1) := by decide +kernel
theorem dL_law_567 : decode cL_law 567 = .ok (.iload_n 3, 1) := by decide +kernel
theorem dL_law_568 : decode cL_law 568 = .ok (.iconst 1, 1) := by decide +kernel
theorem dL_law_569 : decode cL_law 569 = .ok (.iadd, 1) := by decide +kernel
theorem dL_law_570 : decode cL_law 570 = .ok (.iaload, 1) := by decide +kernel
theorem dL_law_571 : decode cL_law 571 = .ok (.invokevirtual 87, 3) := by decide +kernel
theorem dL_law_574 : decode cL_law 574 = .ok (.aload_n 2, 1) := by decide +kernel
theorem dL_law_575 : decode cL_law 575 = .ok (.aload_n 0, 1) := by decide +kernel
theorem dL_law_576 : decode cL_law 576 = .ok (.iload_n 3, 1) := by decide +kernel
theorem dL_law_577 : decode cL_law 577 = .ok (.iconst 1, 1) := by decide +kernel
theorem dL_law_578 : decode cL_law 578 = .ok (.iadd, 1) := by decide +kernel
theorem dL_law_579 : decode cL_law 579 = .ok (.iaload, 1) := by decide +kernel
theorem dL_law_580 : decode cL_law 580 = .ok (.invokevirtual 90, 3) := by decide +kernel
theorem dL_law_583 : decode cL_law 583 = .ok (.if_icmp .eq 74, 3) := by decide +kernel
theorem dL_law_586 : decode cL_law 586 = .ok (.iconst 0, 1) := by decide +kernel
theorem dL_law_587 : decode cL_law 587 = .ok (.ireturn, 1) := by decide +kernel
theorem dL_law_588 : decode cL_law 588 = .ok (.aload_n 1, 1) := by decide +kernel
theorem dL_law_589 : decode cL_law 589 = .ok (.aload_n 0, 1) := by decide +kernel
theorem dL_law_590 : decode cL_law 590 = .ok (.iload_n 3, 1) := by decide +kernel
theorem dL_law_591 : decode cL_law 591 = .ok (.iconst 1, 1) := by decide +kernel
theorem dL_law_592 : decode cL_law 592 = .ok (.iadd, 1) := by decide +kernel
theorem dL_law_593 : decode cL_law 593 = .ok (.iaload, 1) := by decide +kernel
theorem dL_law_594 : decode cL_law 594 = .ok (.invokevirtual 91, 3) := by decide +kernel
theorem dL_law_597 : decode cL_law 597 = .ok (.aload_n 2, 1) := by decide +kernel
theorem dL_law_598 : decode cL_law 598 = .ok (.aload_n 0, 1) := by decide +kernel
theorem dL_law_599 : decode cL_law 599 = .ok (.iload_n 3, 1) := by decide +kernel
theorem dL_law_600 : decode cL_law 600 = .ok (.iconst 1, 1) := by decide +kernel
theorem dL_law_601 : decode cL_law 601 = .ok (.iadd, 1) := by decide +kernel
theorem dL_law_602 : decode cL_law 602 = .ok (.iaload, 1) := by decide +kernel
theorem dL_law_603 : decode cL_law 603 = .ok (.invokevirtual 94, 3) := by decide +kernel
theorem dL_law_606 : decode cL_law 606 = .ok (.if_icmp .eq 51, 3) := by decide +kernel
theorem dL_law_609 : decode cL_law 609 = .ok (.iconst 0, 1) := by decide +kernel
theorem dL_law_610 : decode cL_law 610 = .ok (.ireturn, 1) := by decide +kernel
theorem dL_law_611 : decode cL_law 611 = .ok (.aload_n 1, 1) := by decide +kernel
theorem dL_law_612 : decode cL_law 612 = .ok (.aload_n 0, 1) := by decide +kernel
theorem dL_law_613 : decode cL_law 613 = .ok (.iload_n 3, 1) := by decide +kernel
theorem dL_law_614 : decode cL_law 614 = .ok (.iconst 1, 1) := by decide +kernel
theorem dL_law_615 : decode cL_law 615 = .ok (.iadd, 1) := by decide +kernel
theorem dL_law_616 : decode cL_law 616 = .ok (.iaload, 1) := by decide +kernel
theorem dL_law_617 : decode cL_law 617 = .ok (.invokevirtual 95, 3) := by decide +kernel
theorem dL_law_620 : decode cL_law 620 = .ok (.aload_n 2, 1) := by decide +kernel
theorem dL_law_621 : decode cL_law 621 = .ok (.aload_n 0, 1) := by decide +kernel
theorem dL_law_622 : decode cL_law 622 = .ok (.iload_n 3, 1) := by decide +kernel
theorem dL_law_623 : decode cL_law 623 = .ok (.iconst 1, 1) := by decide +kernel
theorem dL_law_624 : decode cL_law 624 = .ok (.iadd, 1) := by decide +kernel
theorem dL_law_625 : decode cL_law 625 = .ok (.iaload, 1) := by decide +kernel
theorem dL_law_626 : decode cL_law 626 = .ok (.invokevirtual 98, 3) := by decide +kernel
theorem dL_law_629 : decode cL_law 629 = .ok (.if_icmp .eq 28, 3) := by decide +kernel
theorem dL_law_632 : decode cL_law 632 = .ok (.iconst 0, 1) := by decide +kernel
theorem dL_law_633 : decode cL_law 633 = .ok (.ireturn, 1) := by decide +kernel
theorem dL_law_634 : decode cL_law 634 = .ok (.aload_n 1, 1) := by decide +kernel
theorem dL_law_635 : decode cL_law 635 = .ok (.aload_n 0, 1) := by decide +kernel
theorem dL_law_636 : decode cL_law 636 = .ok (.iload_n 3, 1) := by decide +kernel
theorem dL_law_637 : decode cL_law 637 = .ok (.iconst 1, 1) := by decide +kernel
theorem dL_law_638 : decode cL_law 638 = .ok (.iadd, 1) := by decide +kernel
theorem dL_law_639 : decode cL_law 639 = .ok (.iaload, 1) := by decide +kernel
theorem dL_law_640 : decode cL_law 640 = .ok (.invokevirtual 99, 3) := by decide +kernel
theorem dL_law_643 : decode cL_law 643 = .ok (.aload_n 2, 1) := by decide +kernel
theorem dL_law_644 : decode cL_law 644 = .ok (.aload_n 0, 1) := by decide +kernel
theorem dL_law_645 : decode cL_law 645 = .ok (.iload_n 3, 1) := by decide +kernel
theorem dL_law_646 : decode cL_law 646 = .ok (.iconst 1, 1) := by decide +kernel
theorem dL_law_647 : decode cL_law 647 = .ok (.iadd, 1) := by decide +kernel
theorem dL_law_648 : decode cL_law 648 = .ok (.iaload, 1) := by decide +kernel
theorem dL_law_649 : decode cL_law 649 = .ok (.invokevirtual 102, 3) := by decide +kernel
theorem dL_law_652 : decode cL_law 652 = .ok (.if_icmp .eq 5, 3) := by decide +kernel
theorem dL_law_655 : decode cL_law 655 = .ok (.iconst 0, 1) := by decide +kernel
theorem dL_law_656 : decode cL_law 656 = .ok (.ireturn, 1) := by decide +kernel
theorem dL_law_657 : decode cL_law 657 = .ok (.iinc 3 4, 3) := by decide +kernel
theorem dL_law_660 : decode cL_law 660 = .ok (.goto (-642), 3) := by decide +kernel
theorem dL_law_663 : decode cL_law 663 = .ok (.iconst 1, 1) := by decide +kernel
theorem dL_law_664 : decode cL_law 664 = .ok (.ireturn, 1) := by decide +kernel
