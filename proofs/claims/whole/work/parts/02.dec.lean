theorem dX0_init_0 : decode cX0_init 0 = .ok (.aload_n 0, 1) := by decide +kernel
theorem dX0_init_1 : decode cX0_init 1 = .ok (.invokespecial 3, 3) := by decide +kernel
theorem dX0_init_4 : decode cX0_init 4 = .ok (.aload_n 0, 1) := by decide +kernel
theorem dX0_init_5 : decode cX0_init 5 = .ok (.bipush 100, 2) := by decide +kernel
theorem dX0_init_7 : decode cX0_init 7 = .ok (.newarray .int, 2) := by decide +kernel
theorem dX0_init_9 : decode cX0_init 9 = .ok (.putfield 9, 3) := by decide +kernel
theorem dX0_init_12 : decode cX0_init 12 = .ok (.aload_n 0, 1) := by decide +kernel
theorem dX0_init_13 : decode cX0_init 13 = .ok (.iconst 5, 1) := by decide +kernel
theorem dX0_init_14 : decode cX0_init 14 = .ok (.newarray .int, 2) := by decide +kernel
theorem dX0_init_16 : decode cX0_init 16 = .ok (.putfield 15, 3) := by decide +kernel
theorem dX0_init_19 : decode cX0_init 19 = .ok (.aload_n 0, 1) := by decide +kernel
theorem dX0_init_20 : decode cX0_init 20 = .ok (.invokevirtual 18, 3) := by decide +kernel
theorem dX0_init_23 : decode cX0_init 23 = .ok (.return_, 1) := by decide +kernel
theorem dX0_empty_0 : decode cX0_empty 0 = .ok (.aload_n 0, 1) := by decide +kernel
theorem dX0_empty_1 : decode cX0_empty 1 = .ok (.getfield 9, 3) := by decide +kernel
theorem dX0_empty_4 : decode cX0_empty 4 = .ok (.iconst (-1), 1) := by decide +kernel
theorem dX0_empty_5 : decode cX0_empty 5 = .ok (.invokestatic 21, 3) := by decide +kernel
theorem dX0_empty_8 : decode cX0_empty 8 = .ok (.aload_n 0, 1) := by decide +kernel
theorem dX0_empty_9 : decode cX0_empty 9 = .ok (.bipush (-9), 2) := by decide +kernel
theorem dX0_empty_11 : decode cX0_empty 11 = .ok (.putfield 27, 3) := by decide +kernel
theorem dX0_empty_14 : decode cX0_empty 14 = .ok (.aload_n 0, 1) := by decide +kernel
theorem dX0_empty_15 : decode cX0_empty 15 = .ok (.iconst 3, 1) := by decide +kernel
theorem dX0_empty_16 : decode cX0_empty 16 = .ok (.putfield 31, 3) := by decide +kernel
theorem dX0_empty_19 : decode cX0_empty 19 = .ok (.aload_n 0, 1) := by decide +kernel
theorem dX0_empty_20 : decode cX0_empty 20 = .ok (.iconst 0, 1) := by decide +kernel
theorem dX0_empty_21 : decode cX0_empty 21 = .ok (.putfield 34, 3) := by decide +kernel
theorem dX0_empty_24 : decode cX0_empty 24 = .ok (.return_, 1) := by decide +kernel
theorem dX0_become_0 : decode cX0_become 0 = .ok (.aload_n 1, 1) := by decide +kernel
theorem dX0_become_1 : decode cX0_become 1 = .ok (.getfield 9, 3) := by decide +kernel
theorem dX0_become_4 : decode cX0_become 4 = .ok (.iconst 0, 1) := by decide +kernel
theorem dX0_become_5 : decode cX0_become 5 = .ok (.aload_n 0, 1) := by decide +kernel
theorem dX0_become_6 : decode cX0_become 6 = .ok (.getfield 9, 3) := by decide +kernel
theorem dX0_become_9 : decode cX0_become 9 = .ok (.iconst 0, 1) := by decide +kernel
theorem dX0_become_10 : decode cX0_become 10 = .ok (.aload_n 0, 1) := by decide +kernel
theorem dX0_become_11 : decode cX0_become 11 = .ok (.getfield 9, 3) := by decide +kernel
theorem dX0_become_14 : decode cX0_become 14 = .ok (.arraylength, 1) := by decide +kernel
theorem dX0_become_15 : decode cX0_become 15 = .ok (.invokestatic 37, 3) := by decide +kernel
theorem dX0_become_18 : decode cX0_become 18 = .ok (.aload_n 1, 1) := by decide +kernel
theorem dX0_become_19 : decode cX0_become 19 = .ok (.getfield 15, 3) := by decide +kernel
theorem dX0_become_22 : decode cX0_become 22 = .ok (.iconst 0, 1) := by decide +kernel
theorem dX0_become_23 : decode cX0_become 23 = .ok (.aload_n 0, 1) := by decide +kernel
theorem dX0_become_24 : decode cX0_become 24 = .ok (.getfield 15, 3) := by decide +kernel
theorem dX0_become_27 : decode cX0_become 27 = .ok (.iconst 0, 1) := by decide +kernel
theorem dX0_become_28 : decode cX0_become 28 = .ok (.aload_n 0, 1) := by decide +kernel
theorem dX0_become_29 : decode cX0_become 29 = .ok (.getfield 15, 3) := by decide +kernel
theorem dX0_become_32 : decode cX0_become 32 = .ok (.arraylength, 1) := by decide +kernel
theorem dX0_become_33 : decode cX0_become 33 = .ok (.invokestatic 37, 3) := by decide +kernel
theorem dX0_become_36 : decode cX0_become 36 = .ok (.aload_n 0, 1) := by decide +kernel
theorem dX0_become_37 : decode cX0_become 37 = .ok (.aload_n 1, 1) := by decide +kernel
theorem dX0_become_38 : decode cX0_become 38 = .ok (.getfield 27, 3) := by decide +kernel
theorem dX0_become_41 : decode cX0_become 41 = .ok (.putfield 27, 3) := by decide +kernel
theorem dX0_become_44 : decode cX0_become 44 = .ok (.aload_n 0, 1) := by decide +kernel
theorem dX0_become_45 : decode cX0_become 45 = .ok (.aload_n 1, 1) := by decide +kernel
theorem dX0_become_46 : decode cX0_become 46 = .ok (.getfield 31, 3) := by decide +kernel
theorem dX0_become_49 : decode cX0_become 49 = .ok (.putfield 31, 3) := by decide +kernel
theorem dX0_become_52 : decode cX0_become 52 = .ok (.aload_n 0, 1) := by decide +kernel
theorem dX0_become_53 : decode cX0_become 53 = .ok (.aload_n 1, 1) := by decide +kernel
theorem dX0_become_54 : decode cX0_become 54 = .ok (.getfield 34, 3) := by decide +kernel
theorem dX0_become_57 : decode cX0_become 57 = .ok (.putfield 34, 3) := by decide +kernel
theorem dX0_become_60 : decode cX0_become 60 = .ok (.return_, 1) := by decide +kernel
theorem dX0_places_0 : decode cX0_places 0 = .ok (.iconst 0, 1) := by decide +kernel
theorem dX0_places_1 : decode cX0_places 1 = .ok (.istore_n 1, 1) := by decide +kernel
theorem dX0_places_2 : decode cX0_places 2 = .ok (.aload_n 0, 1) := by decide +kernel
theorem dX0_places_3 : decode cX0_places 3 = .ok (.getfield 9, 3) := by decide +kernel
theorem dX0_places_6 : decode cX0_places 6 = .ok (.astore_n 2, 1) := by decide +kernel
theorem dX0_places_7 : decode cX0_places 7 = .ok (.aload_n 2, 1) := by decide +kernel
theorem dX0_places_8 : decode cX0_places 8 = .ok (.arraylength, 1) := by decide +kernel
theorem dX0_places_9 : decode cX0_places 9 = .ok (.istore_n 3, 1) := by decide +kernel
theorem dX0_places_10 : decode cX0_places 10 = .ok (.iconst 0, 1) := by decide +kernel
theorem dX0_places_11 : decode cX0_places 11 = .ok (.istore 4, 2) := by decide +kernel
theorem dX0_places_13 : decode cX0_places 13 = .ok (.iload 4, 2) := by decide +kernel
theorem dX0_places_15 : decode cX0_places 15 = .ok (.iload_n 3, 1) := by decide +kernel
theorem dX0_places_16 : decode cX0_places 16 = .ok (.if_icmp .ge 24, 3) := by decide +kernel
theorem dX0_places_19 : decode cX0_places 19 = .ok (.aload_n 2, 1) := by decide +kernel
theorem dX0_places_20 : decode cX0_places 20 = .ok (.iload 4, 2) := by decide +kernel
theorem dX0_places_22 : decode cX0_places 22 = .ok (.iaload, 1) := by decide +kernel
theorem dX0_places_23 : decode cX0_places 23 = .ok (.istore 5, 2) := by decide +kernel
theorem dX0_places_25 : decode cX0_places 25 = .ok (.iload 5, 2) := by decide +kernel
theorem dX0_places_27 : decode cX0_places 27 = .ok (.iconst (-1), 1) := by decide +kernel
theorem dX0_places_28 : decode cX0_places 28 = .ok (.if_icmp .eq 6, 3) := by decide +kernel
theorem dX0_places_31 : decode cX0_places 31 = .ok (.iinc 1 1, 3) := by decide +kernel
theorem dX0_places_34 : decode cX0_places 34 = .ok (.iinc 4 1, 3) := by decide +kernel
theorem dX0_places_37 : decode cX0_places 37 = .ok (.goto (-24), 3) := by decide +kernel
theorem dX0_places_40 : decode cX0_places 40 = .ok (.iload_n 1, 1) := by decide +kernel
theorem dX0_places_41 : decode cX0_places 41 = .ok (.ireturn, 1) := by decide +kernel
theorem dX0_sum_0 : decode cX0_sum 0 = .ok (.iconst 0, 1) := by decide +kernel
theorem dX0_sum_1 : decode cX0_sum 1 = .ok (.istore_n 1, 1) := by decide +kernel
theorem dX0_sum_2 : decode cX0_sum 2 = .ok (.aload_n 0, 1) := by decide +kernel
theorem dX0_sum_3 : decode cX0_sum 3 = .ok (.getfield 9, 3) := by decide +kernel
theorem dX0_sum_6 : decode cX0_sum 6 = .ok (.astore_n 2, 1) := by decide +kernel
theorem dX0_sum_7 : decode cX0_sum 7 = .ok (.aload_n 2, 1) := by decide +kernel
theorem dX0_sum_8 : decode cX0_sum 8 = .ok (.arraylength, 1) := by decide +kernel
theorem dX0_sum_9 : decode cX0_sum 9 = .ok (.istore_n 3, 1) := by decide +kernel
theorem dX0_sum_10 : decode cX0_sum 10 = .ok (.iconst 0, 1) := by decide +kernel
theorem dX0_sum_11 : decode cX0_sum 11 = .ok (.istore 4, 2) := by decide +kernel
theorem dX0_sum_13 : decode cX0_sum 13 = .ok (.iload 4, 2) := by decide +kernel
theorem dX0_sum_15 : decode cX0_sum 15 = .ok (.iload_n 3, 1) := by decide +kernel
theorem dX0_sum_16 : decode cX0_sum 16 = .ok (.if_icmp .ge 26, 3) := by decide +kernel
theorem dX0_sum_19 : decode cX0_sum 19 = .ok (.aload_n 2, 1) := by decide +kernel
theorem dX0_sum_20 : decode cX0_sum 20 = .ok (.iload 4, 2) := by decide +kernel
theorem dX0_sum_22 : decode cX0_sum 22 = .ok (.iaload, 1) := by decide +kernel
theorem dX0_sum_23 : decode cX0_sum 23 = .ok (.istore 5, 2) := by decide +kernel
theorem dX0_sum_25 : decode cX0_sum 25 = .ok (.iload 5, 2) := by decide +kernel
theorem dX0_sum_27 : decode cX0_sum 27 = .ok (.iconst (-1), 1) := by decide +kernel
theorem dX0_sum_28 : decode cX0_sum 28 = .ok (.if_icmp .eq 8, 3) := by decide +kernel
theorem dX0_sum_31 : decode cX0_sum 31 = .ok (.iload_n 1, 1) := by decide +kernel
theorem dX0_sum_32 : decode cX0_sum 32 = .ok (.iload 5, 2) := by decide +kernel
theorem dX0_sum_34 : decode cX0_sum 34 = .ok (.iadd, 1) := by decide +kernel
theorem dX0_sum_35 : decode cX0_sum 35 = .ok (.istore_n 1, 1) := by decide +kernel
theorem dX0_sum_36 : decode cX0_sum 36 = .ok (.iinc 4 1, 3) := by decide +kernel
theorem dX0_sum_39 : decode cX0_sum 39 = .ok (.goto (-26), 3) := by decide +kernel
theorem dX0_sum_42 : decode cX0_sum 42 = .ok (.iload_n 1, 1) := by decide +kernel
theorem dX0_sum_43 : decode cX0_sum 43 = .ok (.ireturn, 1) := by decide +kernel
theorem dX0_isOld_0 : decode cX0_isOld 0 = .ok (.iconst 0, 1) := by decide +kernel
theorem dX0_isOld_1 : decode cX0_isOld 1 = .ok (.istore_n 2, 1) := by decide +kernel
theorem dX0_isOld_2 : decode cX0_isOld 2 = .ok (.iload_n 2, 1) := by decide +kernel
theorem dX0_isOld_3 : decode cX0_isOld 3 = .ok (.aload_n 0, 1) := by decide +kernel
theorem dX0_isOld_4 : decode cX0_isOld 4 = .ok (.getfield 27, 3) := by decide +kernel
theorem dX0_isOld_7 : decode cX0_isOld 7 = .ok (.if_icmp .ge 30, 3) := by decide +kernel
theorem dX0_isOld_10 : decode cX0_isOld 10 = .ok (.iload_n 2, 1) := by decide +kernel
theorem dX0_isOld_11 : decode cX0_isOld 11 = .ok (.aload_n 0, 1) := by decide +kernel
theorem dX0_isOld_12 : decode cX0_isOld 12 = .ok (.getfield 15, 3) := by decide +kernel
theorem dX0_isOld_15 : decode cX0_isOld 15 = .ok (.arraylength, 1) := by decide +kernel
theorem dX0_isOld_16 : decode cX0_isOld 16 = .ok (.if_icmp .ge 21, 3) := by decide +kernel
theorem dX0_isOld_19 : decode cX0_isOld 19 = .ok (.aload_n 0, 1) := by decide +kernel
theorem dX0_isOld_20 : decode cX0_isOld 20 = .ok (.getfield 15, 3) := by decide +kernel
theorem dX0_isOld_23 : decode cX0_isOld 23 = .ok (.iload_n 2, 1) := by decide +kernel
theorem dX0_isOld_24 : decode cX0_isOld 24 = .ok (.iaload, 1) := by decide +kernel
theorem dX0_isOld_25 : decode cX0_isOld 25 = .ok (.iload_n 1, 1) := by decide +kernel
theorem dX0_isOld_26 : decode cX0_isOld 26 = .ok (.if_icmp .ne 5, 3) := by decide +kernel
theorem dX0_isOld_29 : decode cX0_isOld 29 = .ok (.iconst 1, 1) := by decide +kernel
theorem dX0_isOld_30 : decode cX0_isOld 30 = .ok (.ireturn, 1) := by decide +kernel
theorem dX0_isOld_31 : decode cX0_isOld 31 = .ok (.iinc 2 1, 3) := by decide +kernel
theorem dX0_isOld_34 : decode cX0_isOld 34 = .ok (.goto (-32), 3) := by decide +kernel
theorem dX0_isOld_37 : decode cX0_isOld 37 = .ok (.iconst 0, 1) := by decide +kernel
theorem dX0_isOld_38 : decode cX0_isOld 38 = .ok (.ireturn, 1) := by decide +kernel
theorem dX0_feeOf_0 : decode cX0_feeOf 0 = .ok (.aload_n 0, 1) := by decide +kernel
theorem dX0_feeOf_1 : decode cX0_feeOf 1 = .ok (.getfield 27, 3) := by decide +kernel
theorem dX0_feeOf_4 : decode cX0_feeOf 4 = .ok (.bipush (-9), 2) := by decide +kernel
theorem dX0_feeOf_6 : decode cX0_feeOf 6 = .ok (.if_icmp .eq 11, 3) := by decide +kernel
theorem dX0_feeOf_9 : decode cX0_feeOf 9 = .ok (.aload_n 0, 1) := by decide +kernel
theorem dX0_feeOf_10 : decode cX0_feeOf 10 = .ok (.iload_n 1, 1) := by decide +kernel
theorem dX0_feeOf_11 : decode cX0_feeOf 11 = .ok (.invokevirtual 43, 3) := by decide +kernel
theorem dX0_feeOf_14 : decode cX0_feeOf 14 = .ok (.ifCond .eq 7, 3) := by decide +kernel
theorem dX0_feeOf_17 : decode cX0_feeOf 17 = .ok (.lconst 0, 1) := by decide +kernel
theorem dX0_feeOf_18 : decode cX0_feeOf 18 = .ok (.goto 12, 3) := by decide +kernel
theorem dX0_feeOf_21 : decode cX0_feeOf 21 = .ok (.aload_n 0, 1) := by decide +kernel
theorem dX0_feeOf_22 : decode cX0_feeOf 22 = .ok (.getfield 34, 3) := by decide +kernel
theorem dX0_feeOf_25 : decode cX0_feeOf 25 = .ok (.i2l, 1) := by decide +kernel
theorem dX0_feeOf_26 : decode cX0_feeOf 26 = .ok (.ldc2_w 47, 3) := by decide +kernel
theorem dX0_feeOf_29 : decode cX0_feeOf 29 = .ok (.lmul, 1) := by decide +kernel
theorem dX0_feeOf_30 : decode cX0_feeOf 30 = .ok (.lreturn, 1) := by decide +kernel
theorem dX1_init_0 : decode cX1_init 0 = .ok (.aload_n 0, 1) := by decide +kernel
theorem dX1_init_1 : decode cX1_init 1 = .ok (.invokespecial 3, 3) := by decide +kernel
theorem dX1_init_4 : decode cX1_init 4 = .ok (.aload_n 0, 1) := by decide +kernel
theorem dX1_init_5 : decode cX1_init 5 = .ok (.bipush 10, 2) := by decide +kernel
theorem dX1_init_7 : decode cX1_init 7 = .ok (.anewarray 9, 3) := by decide +kernel
theorem dX1_init_10 : decode cX1_init 10 = .ok (.putfield 11, 3) := by decide +kernel
theorem dX1_init_13 : decode cX1_init 13 = .ok (.iconst 0, 1) := by decide +kernel
theorem dX1_init_14 : decode cX1_init 14 = .ok (.istore_n 1, 1) := by decide +kernel
theorem dX1_init_15 : decode cX1_init 15 = .ok (.iload_n 1, 1) := by decide +kernel
theorem dX1_init_16 : decode cX1_init 16 = .ok (.bipush 10, 2) := by decide +kernel
theorem dX1_init_18 : decode cX1_init 18 = .ok (.if_icmp .ge 22, 3) := by decide +kernel
theorem dX1_init_21 : decode cX1_init 21 = .ok (.aload_n 0, 1) := by decide +kernel
theorem dX1_init_22 : decode cX1_init 22 = .ok (.getfield 11, 3) := by decide +kernel
theorem dX1_init_25 : decode cX1_init 25 = .ok (.iload_n 1, 1) := by decide +kernel
theorem dX1_init_26 : decode cX1_init 26 = .ok (.new 9, 3) := by decide +kernel
theorem dX1_init_29 : decode cX1_init 29 = .ok (.dup, 1) := by decide +kernel
theorem dX1_init_30 : decode cX1_init 30 = .ok (.invokespecial 17, 3) := by decide +kernel
theorem dX1_init_33 : decode cX1_init 33 = .ok (.aastore, 1) := by decide +kernel
theorem dX1_init_34 : decode cX1_init 34 = .ok (.iinc 1 1, 3) := by decide +kernel
theorem dX1_init_37 : decode cX1_init 37 = .ok (.goto (-22), 3) := by decide +kernel
theorem dX1_init_40 : decode cX1_init 40 = .ok (.return_, 1) := by decide +kernel
theorem dX1_remember_0 : decode cX1_remember 0 = .ok (.aload_n 0, 1) := by decide +kernel
theorem dX1_remember_1 : decode cX1_remember 1 = .ok (.getfield 11, 3) := by decide +kernel
theorem dX1_remember_4 : decode cX1_remember 4 = .ok (.aload_n 0, 1) := by decide +kernel
theorem dX1_remember_5 : decode cX1_remember 5 = .ok (.getfield 18, 3) := by decide +kernel
theorem dX1_remember_8 : decode cX1_remember 8 = .ok (.aaload, 1) := by decide +kernel
theorem dX1_remember_9 : decode cX1_remember 9 = .ok (.aload_n 1, 1) := by decide +kernel
theorem dX1_remember_10 : decode cX1_remember 10 = .ok (.invokevirtual 22, 3) := by decide +kernel
theorem dX1_remember_13 : decode cX1_remember 13 = .ok (.aload_n 0, 1) := by decide +kernel
theorem dX1_remember_14 : decode cX1_remember 14 = .ok (.aload_n 0, 1) := by decide +kernel
theorem dX1_remember_15 : decode cX1_remember 15 = .ok (.getfield 18, 3) := by decide +kernel
theorem dX1_remember_18 : decode cX1_remember 18 = .ok (.iconst 1, 1) := by decide +kernel
theorem dX1_remember_19 : decode cX1_remember 19 = .ok (.iadd, 1) := by decide +kernel
theorem dX1_remember_20 : decode cX1_remember 20 = .ok (.bipush 10, 2) := by decide +kernel
theorem dX1_remember_22 : decode cX1_remember 22 = .ok (.irem, 1) := by decide +kernel
theorem dX1_remember_23 : decode cX1_remember 23 = .ok (.putfield 18, 3) := by decide +kernel
theorem dX1_remember_26 : decode cX1_remember 26 = .ok (.aload_n 0, 1) := by decide +kernel
theorem dX1_remember_27 : decode cX1_remember 27 = .ok (.aload_n 0, 1) := by decide +kernel
theorem dX1_remember_28 : decode cX1_remember 28 = .ok (.getfield 26, 3) := by decide +kernel
theorem dX1_remember_31 : decode cX1_remember 31 = .ok (.iconst 1, 1) := by decide +kernel
theorem dX1_remember_32 : decode cX1_remember 32 = .ok (.iadd, 1) := by decide +kernel
theorem dX1_remember_33 : decode cX1_remember 33 = .ok (.bipush 10, 2) := by decide +kernel
theorem dX1_remember_35 : decode cX1_remember 35 = .ok (.invokestatic 29, 3) := by decide +kernel
theorem dX1_remember_38 : decode cX1_remember 38 = .ok (.putfield 26, 3) := by decide +kernel
theorem dX1_remember_41 : decode cX1_remember 41 = .ok (.return_, 1) := by decide +kernel
theorem dX1_recall_0 : decode cX1_recall 0 = .ok (.aload_n 0, 1) := by decide +kernel
theorem dX1_recall_1 : decode cX1_recall 1 = .ok (.aload_n 0, 1) := by decide +kernel
theorem dX1_recall_2 : decode cX1_recall 2 = .ok (.getfield 18, 3) := by decide +kernel
theorem dX1_recall_5 : decode cX1_recall 5 = .ok (.bipush 10, 2) := by decide +kernel
theorem dX1_recall_7 : decode cX1_recall 7 = .ok (.iadd, 1) := by decide +kernel
theorem dX1_recall_8 : decode cX1_recall 8 = .ok (.iconst 1, 1) := by decide +kernel
theorem dX1_recall_9 : decode cX1_recall 9 = .ok (.isub, 1) := by decide +kernel
theorem dX1_recall_10 : decode cX1_recall 10 = .ok (.bipush 10, 2) := by decide +kernel
theorem dX1_recall_12 : decode cX1_recall 12 = .ok (.irem, 1) := by decide +kernel
theorem dX1_recall_13 : decode cX1_recall 13 = .ok (.putfield 18, 3) := by decide +kernel
theorem dX1_recall_16 : decode cX1_recall 16 = .ok (.aload_n 1, 1) := by decide +kernel
theorem dX1_recall_17 : decode cX1_recall 17 = .ok (.aload_n 0, 1) := by decide +kernel
theorem dX1_recall_18 : decode cX1_recall 18 = .ok (.getfield 11, 3) := by decide +kernel
theorem dX1_recall_21 : decode cX1_recall 21 = .ok (.aload_n 0, 1) := by decide +kernel
theorem dX1_recall_22 : decode cX1_recall 22 = .ok (.getfield 18, 3) := by decide +kernel
theorem dX1_recall_25 : decode cX1_recall 25 = .ok (.aaload, 1) := by decide +kernel
theorem dX1_recall_26 : decode cX1_recall 26 = .ok (.invokevirtual 22, 3) := by decide +kernel
theorem dX1_recall_29 : decode cX1_recall 29 = .ok (.aload_n 0, 1) := by decide +kernel
theorem dX1_recall_30 : decode cX1_recall 30 = .ok (.aload_n 0, 1) := by decide +kernel
theorem dX1_recall_31 : decode cX1_recall 31 = .ok (.getfield 26, 3) := by decide +kernel
theorem dX1_recall_34 : decode cX1_recall 34 = .ok (.iconst 1, 1) := by decide +kernel
theorem dX1_recall_35 : decode cX1_recall 35 = .ok (.isub, 1) := by decide +kernel
theorem dX1_recall_36 : decode cX1_recall 36 = .ok (.iconst 0, 1) := by decide +kernel
theorem dX1_recall_37 : decode cX1_recall 37 = .ok (.invokestatic 35, 3) := by decide +kernel
theorem dX1_recall_40 : decode cX1_recall 40 = .ok (.putfield 26, 3) := by decide +kernel
theorem dX1_recall_43 : decode cX1_recall 43 = .ok (.return_, 1) := by decide +kernel
theorem dX1_forget_0 : decode cX1_forget 0 = .ok (.aload_n 0, 1) := by decide +kernel
theorem dX1_forget_1 : decode cX1_forget 1 = .ok (.iconst 0, 1) := by decide +kernel
theorem dX1_forget_2 : decode cX1_forget 2 = .ok (.putfield 26, 3) := by decide +kernel
theorem dX1_forget_5 : decode cX1_forget 5 = .ok (.return_, 1) := by decide +kernel
theorem dX2_init_0 : decode cX2_init 0 = .ok (.aload_n 0, 1) := by decide +kernel
theorem dX2_init_1 : decode cX2_init 1 = .ok (.invokespecial 3, 3) := by decide +kernel
theorem dX2_init_4 : decode cX2_init 4 = .ok (.aload_n 0, 1) := by decide +kernel
theorem dX2_init_5 : decode cX2_init 5 = .ok (.bipush 24, 2) := by decide +kernel
theorem dX2_init_7 : decode cX2_init 7 = .ok (.newarray .int, 2) := by decide +kernel
theorem dX2_init_9 : decode cX2_init 9 = .ok (.putfield 9, 3) := by decide +kernel
theorem dX2_init_12 : decode cX2_init 12 = .ok (.aload_n 0, 1) := by decide +kernel
theorem dX2_init_13 : decode cX2_init 13 = .ok (.bipush 24, 2) := by decide +kernel
theorem dX2_init_15 : decode cX2_init 15 = .ok (.newarray .int, 2) := by decide +kernel
theorem dX2_init_17 : decode cX2_init 17 = .ok (.putfield 15, 3) := by decide +kernel
theorem dX2_init_20 : decode cX2_init 20 = .ok (.aload_n 0, 1) := by decide +kernel
theorem dX2_init_21 : decode cX2_init 21 = .ok (.bipush 25, 2) := by decide +kernel
theorem dX2_init_23 : decode cX2_init 23 = .ok (.bipush 25, 2) := by decide +kernel
theorem dX2_init_25 : decode cX2_init 25 = .ok (.multianewarray 18 2, 4) := by decide +kernel
theorem dX2_init_29 : decode cX2_init 29 = .ok (.putfield 20, 3) := by decide +kernel
theorem dX2_init_32 : decode cX2_init 32 = .ok (.return_, 1) := by decide +kernel
theorem dX2_build_0 : decode cX2_build 0 = .ok (.aload_n 0, 1) := by decide +kernel
theorem dX2_build_1 : decode cX2_build 1 = .ok (.iconst 0, 1) := by decide +kernel
theorem dX2_build_2 : decode cX2_build 2 = .ok (.putfield 23, 3) := by decide +kernel
theorem dX2_build_5 : decode cX2_build 5 = .ok (.aload_n 1, 1) := by decide +kernel
theorem dX2_build_6 : decode cX2_build 6 = .ok (.getfield 27, 3) := by decide +kernel
theorem dX2_build_9 : decode cX2_build 9 = .ok (.astore_n 2, 1) := by decide +kernel
theorem dX2_build_10 : decode cX2_build 10 = .ok (.aload_n 2, 1) := by decide +kernel
theorem dX2_build_11 : decode cX2_build 11 = .ok (.arraylength, 1) := by decide +kernel
theorem dX2_build_12 : decode cX2_build 12 = .ok (.istore_n 3, 1) := by decide +kernel
theorem dX2_build_13 : decode cX2_build 13 = .ok (.iconst 0, 1) := by decide +kernel
theorem dX2_build_14 : decode cX2_build 14 = .ok (.istore 4, 2) := by decide +kernel
theorem dX2_build_16 : decode cX2_build 16 = .ok (.iload 4, 2) := by decide +kernel
theorem dX2_build_18 : decode cX2_build 18 = .ok (.iload_n 3, 1) := by decide +kernel
theorem dX2_build_19 : decode cX2_build 19 = .ok (.if_icmp .ge 27, 3) := by decide +kernel
theorem dX2_build_22 : decode cX2_build 22 = .ok (.aload_n 2, 1) := by decide +kernel
theorem dX2_build_23 : decode cX2_build 23 = .ok (.iload 4, 2) := by decide +kernel
theorem dX2_build_25 : decode cX2_build 25 = .ok (.iaload, 1) := by decide +kernel
theorem dX2_build_26 : decode cX2_build 26 = .ok (.istore 5, 2) := by decide +kernel
theorem dX2_build_28 : decode cX2_build 28 = .ok (.iload 5, 2) := by decide +kernel
theorem dX2_build_30 : decode cX2_build 30 = .ok (.iconst (-1), 1) := by decide +kernel
theorem dX2_build_31 : decode cX2_build 31 = .ok (.if_icmp .eq 9, 3) := by decide +kernel
theorem dX2_build_34 : decode cX2_build 34 = .ok (.aload_n 0, 1) := by decide +kernel
theorem dX2_build_35 : decode cX2_build 35 = .ok (.iload 5, 2) := by decide +kernel
theorem dX2_build_37 : decode cX2_build 37 = .ok (.invokevirtual 30, 3) := by decide +kernel
theorem dX2_build_40 : decode cX2_build 40 = .ok (.iinc 4 1, 3) := by decide +kernel
theorem dX2_build_43 : decode cX2_build 43 = .ok (.goto (-27), 3) := by decide +kernel
theorem dX2_build_46 : decode cX2_build 46 = .ok (.iconst 0, 1) := by decide +kernel
theorem dX2_build_47 : decode cX2_build 47 = .ok (.istore_n 2, 1) := by decide +kernel
theorem dX2_build_48 : decode cX2_build 48 = .ok (.iload_n 2, 1) := by decide +kernel
theorem dX2_build_49 : decode cX2_build 49 = .ok (.aload_n 0, 1) := by decide +kernel
theorem dX2_build_50 : decode cX2_build 50 = .ok (.getfield 23, 3) := by decide +kernel
theorem dX2_build_53 : decode cX2_build 53 = .ok (.if_icmp .ge 14, 3) := by decide +kernel
theorem dX2_build_56 : decode cX2_build 56 = .ok (.aload_n 0, 1) := by decide +kernel
theorem dX2_build_57 : decode cX2_build 57 = .ok (.iload_n 2, 1) := by decide +kernel
theorem dX2_build_58 : decode cX2_build 58 = .ok (.invokevirtual 34, 3) := by decide +kernel
theorem dX2_build_61 : decode cX2_build 61 = .ok (.iinc 2 1, 3) := by decide +kernel
theorem dX2_build_64 : decode cX2_build 64 = .ok (.goto (-16), 3) := by decide +kernel
theorem dX2_build_67 : decode cX2_build 67 = .ok (.return_, 1) := by decide +kernel
theorem dX2_add_0 : decode cX2_add 0 = .ok (.aload_n 0, 1) := by decide +kernel
theorem dX2_add_1 : decode cX2_add 1 = .ok (.iload_n 1, 1) := by decide +kernel
theorem dX2_add_2 : decode cX2_add 2 = .ok (.invokevirtual 37, 3) := by decide +kernel
theorem dX2_add_5 : decode cX2_add 5 = .ok (.istore_n 2, 1) := by decide +kernel
theorem dX2_add_6 : decode cX2_add 6 = .ok (.iload_n 2, 1) := by decide +kernel
theorem dX2_add_7 : decode cX2_add 7 = .ok (.aload_n 0, 1) := by decide +kernel
theorem dX2_add_8 : decode cX2_add 8 = .ok (.getfield 23, 3) := by decide +kernel
theorem dX2_add_11 : decode cX2_add 11 = .ok (.if_icmp .ge 24, 3) := by decide +kernel
theorem dX2_add_14 : decode cX2_add 14 = .ok (.aload_n 0, 1) := by decide +kernel
theorem dX2_add_15 : decode cX2_add 15 = .ok (.getfield 9, 3) := by decide +kernel
theorem dX2_add_18 : decode cX2_add 18 = .ok (.iload_n 2, 1) := by decide +kernel
theorem dX2_add_19 : decode cX2_add 19 = .ok (.iaload, 1) := by decide +kernel
theorem dX2_add_20 : decode cX2_add 20 = .ok (.iload_n 1, 1) := by decide +kernel
theorem dX2_add_21 : decode cX2_add 21 = .ok (.if_icmp .ne 14, 3) := by decide +kernel
theorem dX2_add_24 : decode cX2_add 24 = .ok (.aload_n 0, 1) := by decide +kernel
theorem dX2_add_25 : decode cX2_add 25 = .ok (.getfield 15, 3) := by decide +kernel
theorem dX2_add_28 : decode cX2_add 28 = .ok (.iload_n 2, 1) := by decide +kernel
theorem dX2_add_29 : decode cX2_add 29 = .ok (.dup2, 1) := by decide +kernel
theorem dX2_add_30 : decode cX2_add 30 = .ok (.iaload, 1) := by decide +kernel
theorem dX2_add_31 : decode cX2_add 31 = .ok (.iconst 1, 1) := by decide +kernel
theorem dX2_add_32 : decode cX2_add 32 = .ok (.iadd, 1) := by decide +kernel
theorem dX2_add_33 : decode cX2_add 33 = .ok (.iastore, 1) := by decide +kernel
theorem dX2_add_34 : decode cX2_add 34 = .ok (.return_, 1) := by decide +kernel
theorem dX2_add_35 : decode cX2_add 35 = .ok (.aload_n 0, 1) := by decide +kernel
theorem dX2_add_36 : decode cX2_add 36 = .ok (.getfield 23, 3) := by decide +kernel
theorem dX2_add_39 : decode cX2_add 39 = .ok (.bipush 24, 2) := by decide +kernel
theorem dX2_add_41 : decode cX2_add 41 = .ok (.if_icmp .lt 4, 3) := by decide +kernel
theorem dX2_add_44 : decode cX2_add 44 = .ok (.return_, 1) := by decide +kernel
theorem dX2_add_45 : decode cX2_add 45 = .ok (.aload_n 0, 1) := by decide +kernel
theorem dX2_add_46 : decode cX2_add 46 = .ok (.getfield 9, 3) := by decide +kernel
theorem dX2_add_49 : decode cX2_add 49 = .ok (.iload_n 2, 1) := by decide +kernel
theorem dX2_add_50 : decode cX2_add 50 = .ok (.aload_n 0, 1) := by decide +kernel
theorem dX2_add_51 : decode cX2_add 51 = .ok (.getfield 9, 3) := by decide +kernel
theorem dX2_add_54 : decode cX2_add 54 = .ok (.iload_n 2, 1) := by decide +kernel
theorem dX2_add_55 : decode cX2_add 55 = .ok (.iconst 1, 1) := by decide +kernel
theorem dX2_add_56 : decode cX2_add 56 = .ok (.iadd, 1) := by decide +kernel
theorem dX2_add_57 : decode cX2_add 57 = .ok (.aload_n 0, 1) := by decide +kernel
theorem dX2_add_58 : decode cX2_add 58 = .ok (.getfield 23, 3) := by decide +kernel
theorem dX2_add_61 : decode cX2_add 61 = .ok (.iload_n 2, 1) := by decide +kernel
theorem dX2_add_62 : decode cX2_add 62 = .ok (.isub, 1) := by decide +kernel
theorem dX2_add_63 : decode cX2_add 63 = .ok (.invokestatic 41, 3) := by decide +kernel
theorem dX2_add_66 : decode cX2_add 66 = .ok (.aload_n 0, 1) := by decide +kernel
theorem dX2_add_67 : decode cX2_add 67 = .ok (.getfield 15, 3) := by decide +kernel
theorem dX2_add_70 : decode cX2_add 70 = .ok (.iload_n 2, 1) := by decide +kernel
theorem dX2_add_71 : decode cX2_add 71 = .ok (.aload_n 0, 1) := by decide +kernel
theorem dX2_add_72 : decode cX2_add 72 = .ok (.getfield 15, 3) := by decide +kernel
theorem dX2_add_75 : decode cX2_add 75 = .ok (.iload_n 2, 1) := by decide +kernel
theorem dX2_add_76 : decode cX2_add 76 = .ok (.iconst 1, 1) := by decide +kernel
theorem dX2_add_77 : decode cX2_add 77 = .ok (.iadd, 1) := by decide +kernel
theorem dX2_add_78 : decode cX2_add 78 = .ok (.aload_n 0, 1) := by decide +kernel
theorem dX2_add_79 : decode cX2_add 79 = .ok (.getfield 23, 3) := by decide +kernel
theorem dX2_add_82 : decode cX2_add 82 = .ok (.iload_n 2, 1) := by decide +kernel
theorem dX2_add_83 : decode cX2_add 83 = .ok (.isub, 1) := by decide +kernel
theorem dX2_add_84 : decode cX2_add 84 = .ok (.invokestatic 41, 3) := by decide +kernel
theorem dX2_add_87 : decode cX2_add 87 = .ok (.aload_n 0, 1) := by decide +kernel
theorem dX2_add_88 : decode cX2_add 88 = .ok (.getfield 9, 3) := by decide +kernel
theorem dX2_add_91 : decode cX2_add 91 = .ok (.iload_n 2, 1) := by decide +kernel
theorem dX2_add_92 : decode cX2_add 92 = .ok (.iload_n 1, 1) := by decide +kernel
theorem dX2_add_93 : decode cX2_add 93 = .ok (.iastore, 1) := by decide +kernel
theorem dX2_add_94 : decode cX2_add 94 = .ok (.aload_n 0, 1) := by decide +kernel
theorem dX2_add_95 : decode cX2_add 95 = .ok (.getfield 15, 3) := by decide +kernel
theorem dX2_add_98 : decode cX2_add 98 = .ok (.iload_n 2, 1) := by decide +kernel
theorem dX2_add_99 : decode cX2_add 99 = .ok (.iconst 1, 1) := by decide +kernel
theorem dX2_add_100 : decode cX2_add 100 = .ok (.iastore, 1) := by decide +kernel
theorem dX2_add_101 : decode cX2_add 101 = .ok (.aload_n 0, 1) := by decide +kernel
theorem dX2_add_102 : decode cX2_add 102 = .ok (.dup, 1) := by decide +kernel
theorem dX2_add_103 : decode cX2_add 103 = .ok (.getfield 23, 3) := by decide +kernel
theorem dX2_add_106 : decode cX2_add 106 = .ok (.iconst 1, 1) := by decide +kernel
theorem dX2_add_107 : decode cX2_add 107 = .ok (.iadd, 1) := by decide +kernel
theorem dX2_add_108 : decode cX2_add 108 = .ok (.putfield 23, 3) := by decide +kernel
theorem dX2_add_111 : decode cX2_add 111 = .ok (.return_, 1) := by decide +kernel
theorem dX2_measureFrom_0 : decode cX2_measureFrom 0 = .ok (.lconst 0, 1) := by decide +kernel
theorem dX2_measureFrom_1 : decode cX2_measureFrom 1 = .ok (.lstore_n 2, 1) := by decide +kernel
theorem dX2_measureFrom_2 : decode cX2_measureFrom 2 = .ok (.lconst 0, 1) := by decide +kernel
theorem dX2_measureFrom_3 : decode cX2_measureFrom 3 = .ok (.lstore 4, 2) := by decide +kernel
theorem dX2_measureFrom_5 : decode cX2_measureFrom 5 = .ok (.lconst 0, 1) := by decide +kernel
theorem dX2_measureFrom_6 : decode cX2_measureFrom 6 = .ok (.lstore 6, 2) := by decide +kernel
theorem dX2_measureFrom_8 : decode cX2_measureFrom 8 = .ok (.iload_n 1, 1) := by decide +kernel
theorem dX2_measureFrom_9 : decode cX2_measureFrom 9 = .ok (.istore 8, 2) := by decide +kernel
theorem dX2_measureFrom_11 : decode cX2_measureFrom 11 = .ok (.iload 8, 2) := by decide +kernel
theorem dX2_measureFrom_13 : decode cX2_measureFrom 13 = .ok (.aload_n 0, 1) := by decide +kernel
theorem dX2_measureFrom_14 : decode cX2_measureFrom 14 = .ok (.getfield 23, 3) := by decide +kernel
theorem dX2_measureFrom_17 : decode cX2_measureFrom 17 = .ok (.if_icmp .ge 106, 3) := by decide +kernel
theorem dX2_measureFrom_20 : decode cX2_measureFrom 20 = .ok (.lload_n 2, 1) := by decide +kernel
theorem dX2_measureFrom_21 : decode cX2_measureFrom 21 = .ok (.aload_n 0, 1) := by decide +kernel
theorem dX2_measureFrom_22 : decode cX2_measureFrom 22 = .ok (.getfield 15, 3) := by decide +kernel
theorem dX2_measureFrom_25 : decode cX2_measureFrom 25 = .ok (.iload 8, 2) := by decide +kernel
theorem dX2_measureFrom_27 : decode cX2_measureFrom 27 = .ok (.iaload, 1) := by decide +kernel
theorem dX2_measureFrom_28 : decode cX2_measureFrom 28 = .ok (.i2l, 1) := by decide +kernel
theorem dX2_measureFrom_29 : decode cX2_measureFrom 29 = .ok (.ladd, 1) := by decide +kernel
theorem dX2_measureFrom_30 : decode cX2_measureFrom 30 = .ok (.lstore_n 2, 1) := by decide +kernel
theorem dX2_measureFrom_31 : decode cX2_measureFrom 31 = .ok (.lload 4, 2) := by decide +kernel
theorem dX2_measureFrom_33 : decode cX2_measureFrom 33 = .ok (.aload_n 0, 1) := by decide +kernel
theorem dX2_measureFrom_34 : decode cX2_measureFrom 34 = .ok (.getfield 15, 3) := by decide +kernel
theorem dX2_measureFrom_37 : decode cX2_measureFrom 37 = .ok (.iload 8, 2) := by decide +kernel
theorem dX2_measureFrom_39 : decode cX2_measureFrom 39 = .ok (.iaload, 1) := by decide +kernel
theorem dX2_measureFrom_40 : decode cX2_measureFrom 40 = .ok (.i2l, 1) := by decide +kernel
theorem dX2_measureFrom_41 : decode cX2_measureFrom 41 = .ok (.aload_n 0, 1) := by decide +kernel
theorem dX2_measureFrom_42 : decode cX2_measureFrom 42 = .ok (.getfield 9, 3) := by decide +kernel
theorem dX2_measureFrom_45 : decode cX2_measureFrom 45 = .ok (.iload 8, 2) := by decide +kernel
theorem dX2_measureFrom_47 : decode cX2_measureFrom 47 = .ok (.iaload, 1) := by decide +kernel
theorem dX2_measureFrom_48 : decode cX2_measureFrom 48 = .ok (.i2l, 1) := by decide +kernel
theorem dX2_measureFrom_49 : decode cX2_measureFrom 49 = .ok (.lmul, 1) := by decide +kernel
theorem dX2_measureFrom_50 : decode cX2_measureFrom 50 = .ok (.ladd, 1) := by decide +kernel
theorem dX2_measureFrom_51 : decode cX2_measureFrom 51 = .ok (.lstore 4, 2) := by decide +kernel
theorem dX2_measureFrom_53 : decode cX2_measureFrom 53 = .ok (.lload 6, 2) := by decide +kernel
theorem dX2_measureFrom_55 : decode cX2_measureFrom 55 = .ok (.aload_n 0, 1) := by decide +kernel
theorem dX2_measureFrom_56 : decode cX2_measureFrom 56 = .ok (.getfield 15, 3) := by decide +kernel
theorem dX2_measureFrom_59 : decode cX2_measureFrom 59 = .ok (.iload 8, 2) := by decide +kernel
theorem dX2_measureFrom_61 : decode cX2_measureFrom 61 = .ok (.iaload, 1) := by decide +kernel
theorem dX2_measureFrom_62 : decode cX2_measureFrom 62 = .ok (.i2l, 1) := by decide +kernel
theorem dX2_measureFrom_63 : decode cX2_measureFrom 63 = .ok (.aload_n 0, 1) := by decide +kernel
theorem dX2_measureFrom_64 : decode cX2_measureFrom 64 = .ok (.getfield 9, 3) := by decide +kernel
theorem dX2_measureFrom_67 : decode cX2_measureFrom 67 = .ok (.iload 8, 2) := by decide +kernel
theorem dX2_measureFrom_69 : decode cX2_measureFrom 69 = .ok (.iaload, 1) := by decide +kernel
theorem dX2_measureFrom_70 : decode cX2_measureFrom 70 = .ok (.i2l, 1) := by decide +kernel
theorem dX2_measureFrom_71 : decode cX2_measureFrom 71 = .ok (.lmul, 1) := by decide +kernel
theorem dX2_measureFrom_72 : decode cX2_measureFrom 72 = .ok (.aload_n 0, 1) := by decide +kernel
theorem dX2_measureFrom_73 : decode cX2_measureFrom 73 = .ok (.getfield 9, 3) := by decide +kernel
theorem dX2_measureFrom_76 : decode cX2_measureFrom 76 = .ok (.iload 8, 2) := by decide +kernel
theorem dX2_measureFrom_78 : decode cX2_measureFrom 78 = .ok (.iaload, 1) := by decide +kernel
theorem dX2_measureFrom_79 : decode cX2_measureFrom 79 = .ok (.i2l, 1) := by decide +kernel
theorem dX2_measureFrom_80 : decode cX2_measureFrom 80 = .ok (.lmul, 1) := by decide +kernel
theorem dX2_measureFrom_81 : decode cX2_measureFrom 81 = .ok (.ladd, 1) := by decide +kernel
theorem dX2_measureFrom_82 : decode cX2_measureFrom 82 = .ok (.lstore 6, 2) := by decide +kernel
theorem dX2_measureFrom_84 : decode cX2_measureFrom 84 = .ok (.lload_n 2, 1) := by decide +kernel
theorem dX2_measureFrom_85 : decode cX2_measureFrom 85 = .ok (.lconst 0, 1) := by decide +kernel
theorem dX2_measureFrom_86 : decode cX2_measureFrom 86 = .ok (.lcmp, 1) := by decide +kernel
theorem dX2_measureFrom_87 : decode cX2_measureFrom 87 = .ok (.ifCond .le 30, 3) := by decide +kernel
theorem dX2_measureFrom_90 : decode cX2_measureFrom 90 = .ok (.aload_n 0, 1) := by decide +kernel
theorem dX2_measureFrom_91 : decode cX2_measureFrom 91 = .ok (.getfield 20, 3) := by decide +kernel
theorem dX2_measureFrom_94 : decode cX2_measureFrom 94 = .ok (.iload_n 1, 1) := by decide +kernel
theorem dX2_measureFrom_95 : decode cX2_measureFrom 95 = .ok (.aaload, 1) := by decide +kernel
theorem dX2_measureFrom_96 : decode cX2_measureFrom 96 = .ok (.iload 8, 2) := by decide +kernel
theorem dX2_measureFrom_98 : decode cX2_measureFrom 98 = .ok (.iconst 1, 1) := by decide +kernel
theorem dX2_measureFrom_99 : decode cX2_measureFrom 99 = .ok (.iadd, 1) := by decide +kernel
theorem dX2_measureFrom_100 : decode cX2_measureFrom 100 = .ok (.lload_n 2, 1) := by decide +kernel
theorem dX2_measureFrom_101 : decode cX2_measureFrom 101 = .ok (.lload 6, 2) := by decide +kernel
theorem dX2_measureFrom_103 : decode cX2_measureFrom 103 = .ok (.lmul, 1) := by decide +kernel
theorem dX2_measureFrom_104 : decode cX2_measureFrom 104 = .ok (.lload 4, 2) := by decide +kernel
theorem dX2_measureFrom_106 : decode cX2_measureFrom 106 = .ok (.lload 4, 2) := by decide +kernel
theorem dX2_measureFrom_108 : decode cX2_measureFrom 108 = .ok (.lmul, 1) := by decide +kernel
theorem dX2_measureFrom_109 : decode cX2_measureFrom 109 = .ok (.lsub, 1) := by decide +kernel
theorem dX2_measureFrom_110 : decode cX2_measureFrom 110 = .ok (.ldc2_w 47, 3) := by decide +kernel
theorem dX2_measureFrom_113 : decode cX2_measureFrom 113 = .ok (.lload_n 2, 1) := by decide +kernel
theorem dX2_measureFrom_114 : decode cX2_measureFrom 114 = .ok (.ldiv, 1) := by decide +kernel
theorem dX2_measureFrom_115 : decode cX2_measureFrom 115 = .ok (.lmul, 1) := by decide +kernel
theorem dX2_measureFrom_116 : decode cX2_measureFrom 116 = .ok (.lastore, 1) := by decide +kernel
theorem dX2_measureFrom_117 : decode cX2_measureFrom 117 = .ok (.iinc 8 1, 3) := by decide +kernel
theorem dX2_measureFrom_120 : decode cX2_measureFrom 120 = .ok (.goto (-109), 3) := by decide +kernel
theorem dX2_measureFrom_123 : decode cX2_measureFrom 123 = .ok (.return_, 1) := by decide +kernel
theorem dX2_rankOf_0 : decode cX2_rankOf 0 = .ok (.iconst 0, 1) := by decide +kernel
theorem dX2_rankOf_1 : decode cX2_rankOf 1 = .ok (.istore_n 2, 1) := by decide +kernel
theorem dX2_rankOf_2 : decode cX2_rankOf 2 = .ok (.iload_n 2, 1) := by decide +kernel
theorem dX2_rankOf_3 : decode cX2_rankOf 3 = .ok (.aload_n 0, 1) := by decide +kernel
theorem dX2_rankOf_4 : decode cX2_rankOf 4 = .ok (.getfield 23, 3) := by decide +kernel
theorem dX2_rankOf_7 : decode cX2_rankOf 7 = .ok (.if_icmp .ge 19, 3) := by decide +kernel
theorem dX2_rankOf_10 : decode cX2_rankOf 10 = .ok (.aload_n 0, 1) := by decide +kernel
theorem dX2_rankOf_11 : decode cX2_rankOf 11 = .ok (.getfield 9, 3) := by decide +kernel
theorem dX2_rankOf_14 : decode cX2_rankOf 14 = .ok (.iload_n 2, 1) := by decide +kernel
theorem dX2_rankOf_15 : decode cX2_rankOf 15 = .ok (.iaload, 1) := by decide +kernel
theorem dX2_rankOf_16 : decode cX2_rankOf 16 = .ok (.iload_n 1, 1) := by decide +kernel
theorem dX2_rankOf_17 : decode cX2_rankOf 17 = .ok (.if_icmp .ge 9, 3) := by decide +kernel
theorem dX2_rankOf_20 : decode cX2_rankOf 20 = .ok (.iinc 2 1, 3) := by decide +kernel
theorem dX2_rankOf_23 : decode cX2_rankOf 23 = .ok (.goto (-21), 3) := by decide +kernel
theorem dX2_rankOf_26 : decode cX2_rankOf 26 = .ok (.iload_n 2, 1) := by decide +kernel
theorem dX2_rankOf_27 : decode cX2_rankOf 27 = .ok (.ireturn, 1) := by decide +kernel
theorem dX2_numberAt_0 : decode cX2_numberAt 0 = .ok (.iload_n 1, 1) := by decide +kernel
theorem dX2_numberAt_1 : decode cX2_numberAt 1 = .ok (.ifCond .lt 20, 3) := by decide +kernel
theorem dX2_numberAt_4 : decode cX2_numberAt 4 = .ok (.iload_n 1, 1) := by decide +kernel
theorem dX2_numberAt_5 : decode cX2_numberAt 5 = .ok (.aload_n 0, 1) := by decide +kernel
theorem dX2_numberAt_6 : decode cX2_numberAt 6 = .ok (.getfield 23, 3) := by decide +kernel
theorem dX2_numberAt_9 : decode cX2_numberAt 9 = .ok (.if_icmp .ge 12, 3) := by decide +kernel
theorem dX2_numberAt_12 : decode cX2_numberAt 12 = .ok (.aload_n 0, 1) := by decide +kernel
theorem dX2_numberAt_13 : decode cX2_numberAt 13 = .ok (.getfield 9, 3) := by decide +kernel
theorem dX2_numberAt_16 : decode cX2_numberAt 16 = .ok (.iload_n 1, 1) := by decide +kernel
theorem dX2_numberAt_17 : decode cX2_numberAt 17 = .ok (.iaload, 1) := by decide +kernel
theorem dX2_numberAt_18 : decode cX2_numberAt 18 = .ok (.goto 5, 3) := by decide +kernel
theorem dX2_numberAt_21 : decode cX2_numberAt 21 = .ok (.bipush (-9), 2) := by decide +kernel
theorem dX2_numberAt_23 : decode cX2_numberAt 23 = .ok (.ireturn, 1) := by decide +kernel
theorem dX2_weightAt_0 : decode cX2_weightAt 0 = .ok (.iload_n 1, 1) := by decide +kernel
theorem dX2_weightAt_1 : decode cX2_weightAt 1 = .ok (.ifCond .lt 20, 3) := by decide +kernel
theorem dX2_weightAt_4 : decode cX2_weightAt 4 = .ok (.iload_n 1, 1) := by decide +kernel
theorem dX2_weightAt_5 : decode cX2_weightAt 5 = .ok (.aload_n 0, 1) := by decide +kernel
theorem dX2_weightAt_6 : decode cX2_weightAt 6 = .ok (.getfield 23, 3) := by decide +kernel
theorem dX2_weightAt_9 : decode cX2_weightAt 9 = .ok (.if_icmp .ge 12, 3) := by decide +kernel
theorem dX2_weightAt_12 : decode cX2_weightAt 12 = .ok (.aload_n 0, 1) := by decide +kernel
theorem dX2_weightAt_13 : decode cX2_weightAt 13 = .ok (.getfield 15, 3) := by decide +kernel
theorem dX2_weightAt_16 : decode cX2_weightAt 16 = .ok (.iload_n 1, 1) := by decide +kernel
theorem dX2_weightAt_17 : decode cX2_weightAt 17 = .ok (.iaload, 1) := by decide +kernel
theorem dX2_weightAt_18 : decode cX2_weightAt 18 = .ok (.goto 4, 3) := by decide +kernel
theorem dX2_weightAt_21 : decode cX2_weightAt 21 = .ok (.iconst 0, 1) := by decide +kernel
theorem dX2_weightAt_22 : decode cX2_weightAt 22 = .ok (.ireturn, 1) := by decide +kernel
theorem dX3_init_0 : decode cX3_init 0 = .ok (.aload_n 0, 1) := by decide +kernel
theorem dX3_init_1 : decode cX3_init 1 = .ok (.invokespecial 3, 3) := by decide +kernel
theorem dX3_init_4 : decode cX3_init 4 = .ok (.aload_n 0, 1) := by decide +kernel
theorem dX3_init_5 : decode cX3_init 5 = .ok (.bipush 7, 2) := by decide +kernel
theorem dX3_init_7 : decode cX3_init 7 = .ok (.bipush 25, 2) := by decide +kernel
theorem dX3_init_9 : decode cX3_init 9 = .ok (.multianewarray 9 2, 4) := by decide +kernel
theorem dX3_init_13 : decode cX3_init 13 = .ok (.putfield 11, 3) := by decide +kernel
theorem dX3_init_16 : decode cX3_init 16 = .ok (.aload_n 0, 1) := by decide +kernel
theorem dX3_init_17 : decode cX3_init 17 = .ok (.bipush 7, 2) := by decide +kernel
theorem dX3_init_19 : decode cX3_init 19 = .ok (.bipush 25, 2) := by decide +kernel
theorem dX3_init_21 : decode cX3_init 21 = .ok (.multianewarray 16 2, 4) := by decide +kernel
theorem dX3_init_25 : decode cX3_init 25 = .ok (.putfield 18, 3) := by decide +kernel
theorem dX3_init_28 : decode cX3_init 28 = .ok (.return_, 1) := by decide +kernel
theorem dX3_build_0 : decode cX3_build 0 = .ok (.iconst 1, 1) := by decide +kernel
theorem dX3_build_1 : decode cX3_build 1 = .ok (.istore_n 2, 1) := by decide +kernel
theorem dX3_build_2 : decode cX3_build 2 = .ok (.iload_n 2, 1) := by decide +kernel
theorem dX3_build_3 : decode cX3_build 3 = .ok (.aload_n 1, 1) := by decide +kernel
theorem dX3_build_4 : decode cX3_build 4 = .ok (.getfield 21, 3) := by decide +kernel
theorem dX3_build_7 : decode cX3_build 7 = .ok (.if_icmp .gt 34, 3) := by decide +kernel
theorem dX3_build_10 : decode cX3_build 10 = .ok (.aload_n 0, 1) := by decide +kernel
theorem dX3_build_11 : decode cX3_build 11 = .ok (.getfield 11, 3) := by decide +kernel
theorem dX3_build_14 : decode cX3_build 14 = .ok (.iconst 1, 1) := by decide +kernel
theorem dX3_build_15 : decode cX3_build 15 = .ok (.aaload, 1) := by decide +kernel
theorem dX3_build_16 : decode cX3_build 16 = .ok (.iload_n 2, 1) := by decide +kernel
theorem dX3_build_17 : decode cX3_build 17 = .ok (.aload_n 1, 1) := by decide +kernel
theorem dX3_build_18 : decode cX3_build 18 = .ok (.getfield 27, 3) := by decide +kernel
theorem dX3_build_21 : decode cX3_build 21 = .ok (.iconst 0, 1) := by decide +kernel
theorem dX3_build_22 : decode cX3_build 22 = .ok (.aaload, 1) := by decide +kernel
theorem dX3_build_23 : decode cX3_build 23 = .ok (.iload_n 2, 1) := by decide +kernel
theorem dX3_build_24 : decode cX3_build 24 = .ok (.laload, 1) := by decide +kernel
theorem dX3_build_25 : decode cX3_build 25 = .ok (.lastore, 1) := by decide +kernel
theorem dX3_build_26 : decode cX3_build 26 = .ok (.aload_n 0, 1) := by decide +kernel
theorem dX3_build_27 : decode cX3_build 27 = .ok (.getfield 18, 3) := by decide +kernel
theorem dX3_build_30 : decode cX3_build 30 = .ok (.iconst 1, 1) := by decide +kernel
theorem dX3_build_31 : decode cX3_build 31 = .ok (.aaload, 1) := by decide +kernel
theorem dX3_build_32 : decode cX3_build 32 = .ok (.iload_n 2, 1) := by decide +kernel
theorem dX3_build_33 : decode cX3_build 33 = .ok (.iconst 0, 1) := by decide +kernel
theorem dX3_build_34 : decode cX3_build 34 = .ok (.iastore, 1) := by decide +kernel
theorem dX3_build_35 : decode cX3_build 35 = .ok (.iinc 2 1, 3) := by decide +kernel
theorem dX3_build_38 : decode cX3_build 38 = .ok (.goto (-36), 3) := by decide +kernel
theorem dX3_build_41 : decode cX3_build 41 = .ok (.iconst 2, 1) := by decide +kernel
theorem dX3_build_42 : decode cX3_build 42 = .ok (.istore_n 2, 1) := by decide +kernel
theorem dX3_build_43 : decode cX3_build 43 = .ok (.iload_n 2, 1) := by decide +kernel
theorem dX3_build_44 : decode cX3_build 44 = .ok (.bipush 6, 2) := by decide +kernel
theorem dX3_build_46 : decode cX3_build 46 = .ok (.if_icmp .gt 32, 3) := by decide +kernel
theorem dX3_build_49 : decode cX3_build 49 = .ok (.iconst 1, 1) := by decide +kernel
theorem dX3_build_50 : decode cX3_build 50 = .ok (.istore_n 3, 1) := by decide +kernel
theorem dX3_build_51 : decode cX3_build 51 = .ok (.iload_n 3, 1) := by decide +kernel
theorem dX3_build_52 : decode cX3_build 52 = .ok (.aload_n 1, 1) := by decide +kernel
theorem dX3_build_53 : decode cX3_build 53 = .ok (.getfield 21, 3) := by decide +kernel
theorem dX3_build_56 : decode cX3_build 56 = .ok (.if_icmp .gt 16, 3) := by decide +kernel
theorem dX3_build_59 : decode cX3_build 59 = .ok (.aload_n 0, 1) := by decide +kernel
theorem dX3_build_60 : decode cX3_build 60 = .ok (.aload_n 1, 1) := by decide +kernel
theorem dX3_build_61 : decode cX3_build 61 = .ok (.iload_n 2, 1) := by decide +kernel
theorem dX3_build_62 : decode cX3_build 62 = .ok (.iload_n 3, 1) := by decide +kernel
theorem dX3_build_63 : decode cX3_build 63 = .ok (.invokevirtual 30, 3) := by decide +kernel
theorem dX3_build_66 : decode cX3_build 66 = .ok (.iinc 3 1, 3) := by decide +kernel
theorem dX3_build_69 : decode cX3_build 69 = .ok (.goto (-18), 3) := by decide +kernel
theorem dX3_build_72 : decode cX3_build 72 = .ok (.iinc 2 1, 3) := by decide +kernel
theorem dX3_build_75 : decode cX3_build 75 = .ok (.goto (-32), 3) := by decide +kernel
theorem dX3_build_78 : decode cX3_build 78 = .ok (.return_, 1) := by decide +kernel
theorem dX3_choose_0 : decode cX3_choose 0 = .ok (.ldc2_w 36, 3) := by decide +kernel
theorem dX3_choose_3 : decode cX3_choose 3 = .ok (.lstore 4, 2) := by decide +kernel
theorem dX3_choose_5 : decode cX3_choose 5 = .ok (.bipush (-9), 2) := by decide +kernel
theorem dX3_choose_7 : decode cX3_choose 7 = .ok (.istore 6, 2) := by decide +kernel
theorem dX3_choose_9 : decode cX3_choose 9 = .ok (.iload_n 2, 1) := by decide +kernel
theorem dX3_choose_10 : decode cX3_choose 10 = .ok (.iconst 1, 1) := by decide +kernel
theorem dX3_choose_11 : decode cX3_choose 11 = .ok (.isub, 1) := by decide +kernel
theorem dX3_choose_12 : decode cX3_choose 12 = .ok (.istore 7, 2) := by decide +kernel
theorem dX3_choose_14 : decode cX3_choose 14 = .ok (.iload 7, 2) := by decide +kernel
theorem dX3_choose_16 : decode cX3_choose 16 = .ok (.iload_n 3, 1) := by decide +kernel
theorem dX3_choose_17 : decode cX3_choose 17 = .ok (.if_icmp .ge 48, 3) := by decide +kernel
theorem dX3_choose_20 : decode cX3_choose 20 = .ok (.aload_n 0, 1) := by decide +kernel
theorem dX3_choose_21 : decode cX3_choose 21 = .ok (.getfield 11, 3) := by decide +kernel
theorem dX3_choose_24 : decode cX3_choose 24 = .ok (.iload_n 2, 1) := by decide +kernel
theorem dX3_choose_25 : decode cX3_choose 25 = .ok (.iconst 1, 1) := by decide +kernel
theorem dX3_choose_26 : decode cX3_choose 26 = .ok (.isub, 1) := by decide +kernel
theorem dX3_choose_27 : decode cX3_choose 27 = .ok (.aaload, 1) := by decide +kernel
theorem dX3_choose_28 : decode cX3_choose 28 = .ok (.iload 7, 2) := by decide +kernel
theorem dX3_choose_30 : decode cX3_choose 30 = .ok (.laload, 1) := by decide +kernel
theorem dX3_choose_31 : decode cX3_choose 31 = .ok (.aload_n 1, 1) := by decide +kernel
theorem dX3_choose_32 : decode cX3_choose 32 = .ok (.getfield 27, 3) := by decide +kernel
theorem dX3_choose_35 : decode cX3_choose 35 = .ok (.iload 7, 2) := by decide +kernel
theorem dX3_choose_37 : decode cX3_choose 37 = .ok (.aaload, 1) := by decide +kernel
theorem dX3_choose_38 : decode cX3_choose 38 = .ok (.iload_n 3, 1) := by decide +kernel
theorem dX3_choose_39 : decode cX3_choose 39 = .ok (.laload, 1) := by decide +kernel
theorem dX3_choose_40 : decode cX3_choose 40 = .ok (.ladd, 1) := by decide +kernel
theorem dX3_choose_41 : decode cX3_choose 41 = .ok (.lstore 8, 2) := by decide +kernel
theorem dX3_choose_43 : decode cX3_choose 43 = .ok (.lload 8, 2) := by decide +kernel
theorem dX3_choose_45 : decode cX3_choose 45 = .ok (.lload 4, 2) := by decide +kernel
theorem dX3_choose_47 : decode cX3_choose 47 = .ok (.lcmp, 1) := by decide +kernel
theorem dX3_choose_48 : decode cX3_choose 48 = .ok (.ifCond .ge 11, 3) := by decide +kernel
theorem dX3_choose_51 : decode cX3_choose 51 = .ok (.lload 8, 2) := by decide +kernel
theorem dX3_choose_53 : decode cX3_choose 53 = .ok (.lstore 4, 2) := by decide +kernel
theorem dX3_choose_55 : decode cX3_choose 55 = .ok (.iload 7, 2) := by decide +kernel
theorem dX3_choose_57 : decode cX3_choose 57 = .ok (.istore 6, 2) := by decide +kernel
theorem dX3_choose_59 : decode cX3_choose 59 = .ok (.iinc 7 1, 3) := by decide +kernel
theorem dX3_choose_62 : decode cX3_choose 62 = .ok (.goto (-48), 3) := by decide +kernel
theorem dX3_choose_65 : decode cX3_choose 65 = .ok (.aload_n 0, 1) := by decide +kernel
theorem dX3_choose_66 : decode cX3_choose 66 = .ok (.getfield 11, 3) := by decide +kernel
theorem dX3_choose_69 : decode cX3_choose 69 = .ok (.iload_n 2, 1) := by decide +kernel
theorem dX3_choose_70 : decode cX3_choose 70 = .ok (.aaload, 1) := by decide +kernel
theorem dX3_choose_71 : decode cX3_choose 71 = .ok (.iload_n 3, 1) := by decide +kernel
theorem dX3_choose_72 : decode cX3_choose 72 = .ok (.lload 4, 2) := by decide +kernel
theorem dX3_choose_74 : decode cX3_choose 74 = .ok (.lastore, 1) := by decide +kernel
theorem dX3_choose_75 : decode cX3_choose 75 = .ok (.aload_n 0, 1) := by decide +kernel
theorem dX3_choose_76 : decode cX3_choose 76 = .ok (.getfield 18, 3) := by decide +kernel
theorem dX3_choose_79 : decode cX3_choose 79 = .ok (.iload_n 2, 1) := by decide +kernel
theorem dX3_choose_80 : decode cX3_choose 80 = .ok (.aaload, 1) := by decide +kernel
theorem dX3_choose_81 : decode cX3_choose 81 = .ok (.iload_n 3, 1) := by decide +kernel
theorem dX3_choose_82 : decode cX3_choose 82 = .ok (.iload 6, 2) := by decide +kernel
theorem dX3_choose_84 : decode cX3_choose 84 = .ok (.iastore, 1) := by decide +kernel
theorem dX3_choose_85 : decode cX3_choose 85 = .ok (.return_, 1) := by decide +kernel
theorem dX4_init_0 : decode cX4_init 0 = .ok (.aload_n 0, 1) := by decide +kernel
theorem dX4_init_1 : decode cX4_init 1 = .ok (.invokespecial 3, 3) := by decide +kernel
theorem dX4_init_4 : decode cX4_init 4 = .ok (.aload_n 0, 1) := by decide +kernel
theorem dX4_init_5 : decode cX4_init 5 = .ok (.sipush 150, 3) := by decide +kernel
theorem dX4_init_8 : decode cX4_init 8 = .ok (.newarray .int, 2) := by decide +kernel
theorem dX4_init_10 : decode cX4_init 10 = .ok (.putfield 9, 3) := by decide +kernel
theorem dX4_init_13 : decode cX4_init 13 = .ok (.aload_n 0, 1) := by decide +kernel
theorem dX4_init_14 : decode cX4_init 14 = .ok (.new 15, 3) := by decide +kernel
theorem dX4_init_17 : decode cX4_init 17 = .ok (.dup, 1) := by decide +kernel
theorem dX4_init_18 : decode cX4_init 18 = .ok (.invokespecial 17, 3) := by decide +kernel
theorem dX4_init_21 : decode cX4_init 21 = .ok (.putfield 18, 3) := by decide +kernel
theorem dX4_init_24 : decode cX4_init 24 = .ok (.return_, 1) := by decide +kernel
theorem dX4_append_0 : decode cX4_append 0 = .ok (.aload_n 0, 1) := by decide +kernel
theorem dX4_append_1 : decode cX4_append 1 = .ok (.getfield 22, 3) := by decide +kernel
theorem dX4_append_4 : decode cX4_append 4 = .ok (.sipush 150, 3) := by decide +kernel
theorem dX4_append_7 : decode cX4_append 7 = .ok (.if_icmp .lt 5, 3) := by decide +kernel
theorem dX4_append_10 : decode cX4_append 10 = .ok (.iconst 0, 1) := by decide +kernel
theorem dX4_append_11 : decode cX4_append 11 = .ok (.ireturn, 1) := by decide +kernel
theorem dX4_append_12 : decode cX4_append 12 = .ok (.aload_n 0, 1) := by decide +kernel
theorem dX4_append_13 : decode cX4_append 13 = .ok (.getfield 9, 3) := by decide +kernel
theorem dX4_append_16 : decode cX4_append 16 = .ok (.aload_n 0, 1) := by decide +kernel
theorem dX4_append_17 : decode cX4_append 17 = .ok (.getfield 22, 3) := by decide +kernel
theorem dX4_append_20 : decode cX4_append 20 = .ok (.iload_n 1, 1) := by decide +kernel
theorem dX4_append_21 : decode cX4_append 21 = .ok (.iastore, 1) := by decide +kernel
theorem dX4_append_22 : decode cX4_append 22 = .ok (.aload_n 0, 1) := by decide +kernel
theorem dX4_append_23 : decode cX4_append 23 = .ok (.dup, 1) := by decide +kernel
theorem dX4_append_24 : decode cX4_append 24 = .ok (.getfield 22, 3) := by decide +kernel
theorem dX4_append_27 : decode cX4_append 27 = .ok (.iconst 1, 1) := by decide +kernel
theorem dX4_append_28 : decode cX4_append 28 = .ok (.iadd, 1) := by decide +kernel
theorem dX4_append_29 : decode cX4_append 29 = .ok (.putfield 22, 3) := by decide +kernel
theorem dX4_append_32 : decode cX4_append 32 = .ok (.iconst 1, 1) := by decide +kernel
theorem dX4_append_33 : decode cX4_append 33 = .ok (.ireturn, 1) := by decide +kernel
theorem dX4_read_0 : decode cX4_read 0 = .ok (.aload_n 0, 1) := by decide +kernel
theorem dX4_read_1 : decode cX4_read 1 = .ok (.invokevirtual 26, 3) := by decide +kernel
theorem dX4_read_4 : decode cX4_read 4 = .ok (.iconst 0, 1) := by decide +kernel
theorem dX4_read_5 : decode cX4_read 5 = .ok (.istore_n 1, 1) := by decide +kernel
theorem dX4_read_6 : decode cX4_read 6 = .ok (.iconst 0, 1) := by decide +kernel
theorem dX4_read_7 : decode cX4_read 7 = .ok (.istore_n 2, 1) := by decide +kernel
theorem dX4_read_8 : decode cX4_read 8 = .ok (.iload_n 2, 1) := by decide +kernel
theorem dX4_read_9 : decode cX4_read 9 = .ok (.sipush 150, 3) := by decide +kernel
theorem dX4_read_12 : decode cX4_read 12 = .ok (.if_icmp .ge 61, 3) := by decide +kernel
theorem dX4_read_15 : decode cX4_read 15 = .ok (.iload_n 1, 1) := by decide +kernel
theorem dX4_read_16 : decode cX4_read 16 = .ok (.aload_n 0, 1) := by decide +kernel
theorem dX4_read_17 : decode cX4_read 17 = .ok (.getfield 22, 3) := by decide +kernel
theorem dX4_read_20 : decode cX4_read 20 = .ok (.if_icmp .ge 53, 3) := by decide +kernel
theorem dX4_read_23 : decode cX4_read 23 = .ok (.aload_n 0, 1) := by decide +kernel
theorem dX4_read_24 : decode cX4_read 24 = .ok (.getfield 9, 3) := by decide +kernel
theorem dX4_read_27 : decode cX4_read 27 = .ok (.iload_n 1, 1) := by decide +kernel
theorem dX4_read_28 : decode cX4_read 28 = .ok (.iaload, 1) := by decide +kernel
theorem dX4_read_29 : decode cX4_read 29 = .ok (.bipush 32, 2) := by decide +kernel
theorem dX4_read_31 : decode cX4_read 31 = .ok (.if_icmp .ne 9, 3) := by decide +kernel
theorem dX4_read_34 : decode cX4_read 34 = .ok (.iinc 1 1, 3) := by decide +kernel
theorem dX4_read_37 : decode cX4_read 37 = .ok (.goto 30, 3) := by decide +kernel
theorem dX4_read_40 : decode cX4_read 40 = .ok (.aload_n 0, 1) := by decide +kernel
theorem dX4_read_41 : decode cX4_read 41 = .ok (.iload_n 1, 1) := by decide +kernel
theorem dX4_read_42 : decode cX4_read 42 = .ok (.invokevirtual 29, 3) := by decide +kernel
theorem dX4_read_45 : decode cX4_read 45 = .ok (.istore_n 3, 1) := by decide +kernel
theorem dX4_read_46 : decode cX4_read 46 = .ok (.iload_n 3, 1) := by decide +kernel
theorem dX4_read_47 : decode cX4_read 47 = .ok (.iload_n 1, 1) := by decide +kernel
theorem dX4_read_48 : decode cX4_read 48 = .ok (.if_icmp .eq 12, 3) := by decide +kernel
theorem dX4_read_51 : decode cX4_read 51 = .ok (.aload_n 0, 1) := by decide +kernel
theorem dX4_read_52 : decode cX4_read 52 = .ok (.iload_n 1, 1) := by decide +kernel
theorem dX4_read_53 : decode cX4_read 53 = .ok (.iload_n 3, 1) := by decide +kernel
theorem dX4_read_54 : decode cX4_read 54 = .ok (.invokevirtual 33, 3) := by decide +kernel
theorem dX4_read_57 : decode cX4_read 57 = .ok (.ifCond .ne 8, 3) := by decide +kernel
theorem dX4_read_60 : decode cX4_read 60 = .ok (.bipush (-10), 2) := by decide +kernel
theorem dX4_read_62 : decode cX4_read 62 = .ok (.iload_n 1, 1) := by decide +kernel
theorem dX4_read_63 : decode cX4_read 63 = .ok (.isub, 1) := by decide +kernel
theorem dX4_read_64 : decode cX4_read 64 = .ok (.ireturn, 1) := by decide +kernel
theorem dX4_read_65 : decode cX4_read 65 = .ok (.iload_n 3, 1) := by decide +kernel
theorem dX4_read_66 : decode cX4_read 66 = .ok (.istore_n 1, 1) := by decide +kernel
theorem dX4_read_67 : decode cX4_read 67 = .ok (.iinc 2 1, 3) := by decide +kernel
theorem dX4_read_70 : decode cX4_read 70 = .ok (.goto (-62), 3) := by decide +kernel
theorem dX4_read_73 : decode cX4_read 73 = .ok (.aload_n 0, 1) := by decide +kernel
theorem dX4_read_74 : decode cX4_read 74 = .ok (.getfield 37, 3) := by decide +kernel
theorem dX4_read_77 : decode cX4_read 77 = .ok (.ifCond .ne 10, 3) := by decide +kernel
theorem dX4_read_80 : decode cX4_read 80 = .ok (.aload_n 0, 1) := by decide +kernel
theorem dX4_read_81 : decode cX4_read 81 = .ok (.getfield 40, 3) := by decide +kernel
theorem dX4_read_84 : decode cX4_read 84 = .ok (.goto 10, 3) := by decide +kernel
theorem dX4_read_87 : decode cX4_read 87 = .ok (.bipush (-10), 2) := by decide +kernel
theorem dX4_read_89 : decode cX4_read 89 = .ok (.aload_n 0, 1) := by decide +kernel
theorem dX4_read_90 : decode cX4_read 90 = .ok (.getfield 22, 3) := by decide +kernel
theorem dX4_read_93 : decode cX4_read 93 = .ok (.isub, 1) := by decide +kernel
theorem dX4_read_94 : decode cX4_read 94 = .ok (.ireturn, 1) := by decide +kernel
theorem dX4_begin_0 : decode cX4_begin 0 = .ok (.aload_n 0, 1) := by decide +kernel
theorem dX4_begin_1 : decode cX4_begin 1 = .ok (.getfield 18, 3) := by decide +kernel
theorem dX4_begin_4 : decode cX4_begin 4 = .ok (.invokevirtual 43, 3) := by decide +kernel
theorem dX4_begin_7 : decode cX4_begin 7 = .ok (.aload_n 0, 1) := by decide +kernel
theorem dX4_begin_8 : decode cX4_begin 8 = .ok (.iconst 0, 1) := by decide +kernel
theorem dX4_begin_9 : decode cX4_begin 9 = .ok (.putfield 37, 3) := by decide +kernel
theorem dX4_begin_12 : decode cX4_begin 12 = .ok (.aload_n 0, 1) := by decide +kernel
theorem dX4_begin_13 : decode cX4_begin 13 = .ok (.iconst 0, 1) := by decide +kernel
theorem dX4_begin_14 : decode cX4_begin 14 = .ok (.putfield 40, 3) := by decide +kernel
theorem dX4_begin_17 : decode cX4_begin 17 = .ok (.aload_n 0, 1) := by decide +kernel
theorem dX4_begin_18 : decode cX4_begin 18 = .ok (.iconst 0, 1) := by decide +kernel
theorem dX4_begin_19 : decode cX4_begin 19 = .ok (.putfield 46, 3) := by decide +kernel
theorem dX4_begin_22 : decode cX4_begin 22 = .ok (.aload_n 0, 1) := by decide +kernel
theorem dX4_begin_23 : decode cX4_begin 23 = .ok (.iconst 0, 1) := by decide +kernel
theorem dX4_begin_24 : decode cX4_begin 24 = .ok (.putfield 49, 3) := by decide +kernel
theorem dX4_begin_27 : decode cX4_begin 27 = .ok (.aload_n 0, 1) := by decide +kernel
theorem dX4_begin_28 : decode cX4_begin 28 = .ok (.iconst 0, 1) := by decide +kernel
theorem dX4_begin_29 : decode cX4_begin 29 = .ok (.putfield 53, 3) := by decide +kernel
theorem dX4_begin_32 : decode cX4_begin 32 = .ok (.return_, 1) := by decide +kernel
theorem dX4_tokenEnd_0 : decode cX4_tokenEnd 0 = .ok (.aload_n 0, 1) := by decide +kernel
theorem dX4_tokenEnd_1 : decode cX4_tokenEnd 1 = .ok (.getfield 9, 3) := by decide +kernel
theorem dX4_tokenEnd_4 : decode cX4_tokenEnd 4 = .ok (.iload_n 1, 1) := by decide +kernel
theorem dX4_tokenEnd_5 : decode cX4_tokenEnd 5 = .ok (.iaload, 1) := by decide +kernel
theorem dX4_tokenEnd_6 : decode cX4_tokenEnd 6 = .ok (.bipush 59, 2) := by decide +kernel
theorem dX4_tokenEnd_8 : decode cX4_tokenEnd 8 = .ok (.if_icmp .ne 7, 3) := by decide +kernel
theorem dX4_tokenEnd_11 : decode cX4_tokenEnd 11 = .ok (.iload_n 1, 1) := by decide +kernel
theorem dX4_tokenEnd_12 : decode cX4_tokenEnd 12 = .ok (.iconst 1, 1) := by decide +kernel
theorem dX4_tokenEnd_13 : decode cX4_tokenEnd 13 = .ok (.iadd, 1) := by decide +kernel
theorem dX4_tokenEnd_14 : decode cX4_tokenEnd 14 = .ok (.ireturn, 1) := by decide +kernel
theorem dX4_tokenEnd_15 : decode cX4_tokenEnd 15 = .ok (.aload_n 0, 1) := by decide +kernel
theorem dX4_tokenEnd_16 : decode cX4_tokenEnd 16 = .ok (.getfield 9, 3) := by decide +kernel
theorem dX4_tokenEnd_19 : decode cX4_tokenEnd 19 = .ok (.iload_n 1, 1) := by decide +kernel
theorem dX4_tokenEnd_20 : decode cX4_tokenEnd 20 = .ok (.iaload, 1) := by decide +kernel
theorem dX4_tokenEnd_21 : decode cX4_tokenEnd 21 = .ok (.invokestatic 56, 3) := by decide +kernel
theorem dX4_tokenEnd_24 : decode cX4_tokenEnd 24 = .ok (.istore_n 2, 1) := by decide +kernel
theorem dX4_tokenEnd_25 : decode cX4_tokenEnd 25 = .ok (.iload_n 1, 1) := by decide +kernel
theorem dX4_tokenEnd_26 : decode cX4_tokenEnd 26 = .ok (.istore_n 3, 1) := by decide +kernel
theorem dX4_tokenEnd_27 : decode cX4_tokenEnd 27 = .ok (.iload_n 3, 1) := by decide +kernel
theorem dX4_tokenEnd_28 : decode cX4_tokenEnd 28 = .ok (.aload_n 0, 1) := by decide +kernel
theorem dX4_tokenEnd_29 : decode cX4_tokenEnd 29 = .ok (.getfield 22, 3) := by decide +kernel
theorem dX4_tokenEnd_32 : decode cX4_tokenEnd 32 = .ok (.if_icmp .ge 40, 3) := by decide +kernel
theorem dX4_tokenEnd_35 : decode cX4_tokenEnd 35 = .ok (.iload_n 2, 1) := by decide +kernel
theorem dX4_tokenEnd_36 : decode cX4_tokenEnd 36 = .ok (.ifCond .eq 18, 3) := by decide +kernel
theorem dX4_tokenEnd_39 : decode cX4_tokenEnd 39 = .ok (.aload_n 0, 1) := by decide +kernel
theorem dX4_tokenEnd_40 : decode cX4_tokenEnd 40 = .ok (.getfield 9, 3) := by decide +kernel
theorem dX4_tokenEnd_43 : decode cX4_tokenEnd 43 = .ok (.iload_n 3, 1) := by decide +kernel
theorem dX4_tokenEnd_44 : decode cX4_tokenEnd 44 = .ok (.iaload, 1) := by decide +kernel
theorem dX4_tokenEnd_45 : decode cX4_tokenEnd 45 = .ok (.invokestatic 56, 3) := by decide +kernel
theorem dX4_tokenEnd_48 : decode cX4_tokenEnd 48 = .ok (.ifCond .eq 24, 3) := by decide +kernel
theorem dX4_tokenEnd_51 : decode cX4_tokenEnd 51 = .ok (.goto 15, 3) := by decide +kernel
theorem dX4_tokenEnd_54 : decode cX4_tokenEnd 54 = .ok (.aload_n 0, 1) := by decide +kernel
theorem dX4_tokenEnd_55 : decode cX4_tokenEnd 55 = .ok (.getfield 9, 3) := by decide +kernel
theorem dX4_tokenEnd_58 : decode cX4_tokenEnd 58 = .ok (.iload_n 3, 1) := by decide +kernel
theorem dX4_tokenEnd_59 : decode cX4_tokenEnd 59 = .ok (.iaload, 1) := by decide +kernel
theorem dX4_tokenEnd_60 : decode cX4_tokenEnd 60 = .ok (.invokestatic 60, 3) := by decide +kernel
theorem dX4_tokenEnd_63 : decode cX4_tokenEnd 63 = .ok (.ifCond .eq 9, 3) := by decide +kernel
theorem dX4_tokenEnd_66 : decode cX4_tokenEnd 66 = .ok (.iinc 3 1, 3) := by decide +kernel
theorem dX4_tokenEnd_69 : decode cX4_tokenEnd 69 = .ok (.goto (-42), 3) := by decide +kernel
theorem dX4_tokenEnd_72 : decode cX4_tokenEnd 72 = .ok (.iload_n 3, 1) := by decide +kernel
theorem dX4_tokenEnd_73 : decode cX4_tokenEnd 73 = .ok (.ireturn, 1) := by decide +kernel
theorem dX4_takes_0 : decode cX4_takes 0 = .ok (.aload_n 0, 1) := by decide +kernel
theorem dX4_takes_1 : decode cX4_takes 1 = .ok (.getfield 9, 3) := by decide +kernel
theorem dX4_takes_4 : decode cX4_takes 4 = .ok (.iload_n 1, 1) := by decide +kernel
theorem dX4_takes_5 : decode cX4_takes 5 = .ok (.iaload, 1) := by decide +kernel
theorem dX4_takes_6 : decode cX4_takes 6 = .ok (.invokestatic 56, 3) := by decide +kernel
theorem dX4_takes_9 : decode cX4_takes 9 = .ok (.ifCond .eq 36, 3) := by decide +kernel
theorem dX4_takes_12 : decode cX4_takes 12 = .ok (.aload_n 0, 1) := by decide +kernel
theorem dX4_takes_13 : decode cX4_takes 13 = .ok (.getfield 37, 3) := by decide +kernel
theorem dX4_takes_16 : decode cX4_takes 16 = .ok (.ifCond .ne 27, 3) := by decide +kernel
theorem dX4_takes_19 : decode cX4_takes 19 = .ok (.iload_n 2, 1) := by decide +kernel
theorem dX4_takes_20 : decode cX4_takes 20 = .ok (.iload_n 1, 1) := by decide +kernel
theorem dX4_takes_21 : decode cX4_takes 21 = .ok (.iconst 1, 1) := by decide +kernel
theorem dX4_takes_22 : decode cX4_takes 22 = .ok (.iadd, 1) := by decide +kernel
theorem dX4_takes_23 : decode cX4_takes 23 = .ok (.if_icmp .ne 20, 3) := by decide +kernel
theorem dX4_takes_26 : decode cX4_takes 26 = .ok (.aload_n 0, 1) := by decide +kernel
theorem dX4_takes_27 : decode cX4_takes 27 = .ok (.aload_n 0, 1) := by decide +kernel
theorem dX4_takes_28 : decode cX4_takes 28 = .ok (.getfield 9, 3) := by decide +kernel
theorem dX4_takes_31 : decode cX4_takes 31 = .ok (.iload_n 1, 1) := by decide +kernel
theorem dX4_takes_32 : decode cX4_takes 32 = .ok (.iaload, 1) := by decide +kernel
theorem dX4_takes_33 : decode cX4_takes 33 = .ok (.invokevirtual 63, 3) := by decide +kernel
theorem dX4_takes_36 : decode cX4_takes 36 = .ok (.ifCond .eq 7, 3) := by decide +kernel
theorem dX4_takes_39 : decode cX4_takes 39 = .ok (.iconst 1, 1) := by decide +kernel
theorem dX4_takes_40 : decode cX4_takes 40 = .ok (.goto 4, 3) := by decide +kernel
theorem dX4_takes_43 : decode cX4_takes 43 = .ok (.iconst 0, 1) := by decide +kernel
theorem dX4_takes_44 : decode cX4_takes 44 = .ok (.ireturn, 1) := by decide +kernel
theorem dX4_takes_45 : decode cX4_takes 45 = .ok (.aload_n 0, 1) := by decide +kernel
theorem dX4_takes_46 : decode cX4_takes 46 = .ok (.getfield 9, 3) := by decide +kernel
theorem dX4_takes_49 : decode cX4_takes 49 = .ok (.iload_n 1, 1) := by decide +kernel
theorem dX4_takes_50 : decode cX4_takes 50 = .ok (.iaload, 1) := by decide +kernel
theorem dX4_takes_51 : decode cX4_takes 51 = .ok (.invokestatic 60, 3) := by decide +kernel
theorem dX4_takes_54 : decode cX4_takes 54 = .ok (.ifCond .eq 14, 3) := by decide +kernel
theorem dX4_takes_57 : decode cX4_takes 57 = .ok (.aload_n 0, 1) := by decide +kernel
theorem dX4_takes_58 : decode cX4_takes 58 = .ok (.aload_n 0, 1) := by decide +kernel
theorem dX4_takes_59 : decode cX4_takes 59 = .ok (.iload_n 1, 1) := by decide +kernel
theorem dX4_takes_60 : decode cX4_takes 60 = .ok (.iload_n 2, 1) := by decide +kernel
theorem dX4_takes_61 : decode cX4_takes 61 = .ok (.invokevirtual 66, 3) := by decide +kernel
theorem dX4_takes_64 : decode cX4_takes 64 = .ok (.invokevirtual 70, 3) := by decide +kernel
theorem dX4_takes_67 : decode cX4_takes 67 = .ok (.ireturn, 1) := by decide +kernel
theorem dX4_takes_68 : decode cX4_takes 68 = .ok (.aload_n 0, 1) := by decide +kernel
theorem dX4_takes_69 : decode cX4_takes 69 = .ok (.invokevirtual 73, 3) := by decide +kernel
theorem dX4_takes_72 : decode cX4_takes 72 = .ok (.ireturn, 1) := by decide +kernel
theorem dX4_takesLetter_0 : decode cX4_takesLetter 0 = .ok (.iload_n 1, 1) := by decide +kernel
theorem dX4_takesLetter_1 : decode cX4_takesLetter 1 = .ok (.lookupswitch 50 #[(99, 45), (107, 40), (112, 35)], 35) := by decide +kernel
theorem dX4_takesLetter_36 : decode cX4_takesLetter 36 = .ok (.aload_n 0, 1) := by decide +kernel
theorem dX4_takesLetter_37 : decode cX4_takesLetter 37 = .ok (.invokevirtual 77, 3) := by decide +kernel
theorem dX4_takesLetter_40 : decode cX4_takesLetter 40 = .ok (.ireturn, 1) := by decide +kernel
theorem dX4_takesLetter_41 : decode cX4_takesLetter 41 = .ok (.aload_n 0, 1) := by decide +kernel
theorem dX4_takesLetter_42 : decode cX4_takesLetter 42 = .ok (.invokevirtual 80, 3) := by decide +kernel
theorem dX4_takesLetter_45 : decode cX4_takesLetter 45 = .ok (.ireturn, 1) := by decide +kernel
theorem dX4_takesLetter_46 : decode cX4_takesLetter 46 = .ok (.aload_n 0, 1) := by decide +kernel
theorem dX4_takesLetter_47 : decode cX4_takesLetter 47 = .ok (.invokevirtual 83, 3) := by decide +kernel
theorem dX4_takesLetter_50 : decode cX4_takesLetter 50 = .ok (.ireturn, 1) := by decide +kernel
theorem dX4_takesLetter_51 : decode cX4_takesLetter 51 = .ok (.iconst 0, 1) := by decide +kernel
theorem dX4_takesLetter_52 : decode cX4_takesLetter 52 = .ok (.ireturn, 1) := by decide +kernel
theorem dX4_beginsPlace_0 : decode cX4_beginsPlace 0 = .ok (.aload_n 0, 1) := by decide +kernel
theorem dX4_beginsPlace_1 : decode cX4_beginsPlace 1 = .ok (.getfield 46, 3) := by decide +kernel
theorem dX4_beginsPlace_4 : decode cX4_beginsPlace 4 = .ok (.bipush 24, 2) := by decide +kernel
theorem dX4_beginsPlace_6 : decode cX4_beginsPlace 6 = .ok (.if_icmp .lt 5, 3) := by decide +kernel
theorem dX4_beginsPlace_9 : decode cX4_beginsPlace 9 = .ok (.iconst 0, 1) := by decide +kernel
theorem dX4_beginsPlace_10 : decode cX4_beginsPlace 10 = .ok (.ireturn, 1) := by decide +kernel
theorem dX4_beginsPlace_11 : decode cX4_beginsPlace 11 = .ok (.aload_n 0, 1) := by decide +kernel
theorem dX4_beginsPlace_12 : decode cX4_beginsPlace 12 = .ok (.dup, 1) := by decide +kernel
theorem dX4_beginsPlace_13 : decode cX4_beginsPlace 13 = .ok (.getfield 46, 3) := by decide +kernel
theorem dX4_beginsPlace_16 : decode cX4_beginsPlace 16 = .ok (.iconst 1, 1) := by decide +kernel
theorem dX4_beginsPlace_17 : decode cX4_beginsPlace 17 = .ok (.iadd, 1) := by decide +kernel
theorem dX4_beginsPlace_18 : decode cX4_beginsPlace 18 = .ok (.putfield 46, 3) := by decide +kernel
theorem dX4_beginsPlace_21 : decode cX4_beginsPlace 21 = .ok (.aload_n 0, 1) := by decide +kernel
theorem dX4_beginsPlace_22 : decode cX4_beginsPlace 22 = .ok (.iconst 1, 1) := by decide +kernel
theorem dX4_beginsPlace_23 : decode cX4_beginsPlace 23 = .ok (.putfield 37, 3) := by decide +kernel
theorem dX4_beginsPlace_26 : decode cX4_beginsPlace 26 = .ok (.iconst 1, 1) := by decide +kernel
theorem dX4_beginsPlace_27 : decode cX4_beginsPlace 27 = .ok (.ireturn, 1) := by decide +kernel
theorem dX4_beginsClasses_0 : decode cX4_beginsClasses 0 = .ok (.aload_n 0, 1) := by decide +kernel
theorem dX4_beginsClasses_1 : decode cX4_beginsClasses 1 = .ok (.getfield 49, 3) := by decide +kernel
theorem dX4_beginsClasses_4 : decode cX4_beginsClasses 4 = .ok (.ifCond .eq 5, 3) := by decide +kernel
theorem dX4_beginsClasses_7 : decode cX4_beginsClasses 7 = .ok (.iconst 0, 1) := by decide +kernel
theorem dX4_beginsClasses_8 : decode cX4_beginsClasses 8 = .ok (.ireturn, 1) := by decide +kernel
theorem dX4_beginsClasses_9 : decode cX4_beginsClasses 9 = .ok (.aload_n 0, 1) := by decide +kernel
theorem dX4_beginsClasses_10 : decode cX4_beginsClasses 10 = .ok (.iconst 1, 1) := by decide +kernel
theorem dX4_beginsClasses_11 : decode cX4_beginsClasses 11 = .ok (.putfield 49, 3) := by decide +kernel
theorem dX4_beginsClasses_14 : decode cX4_beginsClasses 14 = .ok (.aload_n 0, 1) := by decide +kernel
theorem dX4_beginsClasses_15 : decode cX4_beginsClasses 15 = .ok (.iconst 4, 1) := by decide +kernel
theorem dX4_beginsClasses_16 : decode cX4_beginsClasses 16 = .ok (.putfield 37, 3) := by decide +kernel
theorem dX4_beginsClasses_19 : decode cX4_beginsClasses 19 = .ok (.iconst 1, 1) := by decide +kernel
theorem dX4_beginsClasses_20 : decode cX4_beginsClasses 20 = .ok (.ireturn, 1) := by decide +kernel
theorem dX4_beginsCost_0 : decode cX4_beginsCost 0 = .ok (.aload_n 0, 1) := by decide +kernel
theorem dX4_beginsCost_1 : decode cX4_beginsCost 1 = .ok (.getfield 53, 3) := by decide +kernel
theorem dX4_beginsCost_4 : decode cX4_beginsCost 4 = .ok (.ifCond .eq 5, 3) := by decide +kernel
theorem dX4_beginsCost_7 : decode cX4_beginsCost 7 = .ok (.iconst 0, 1) := by decide +kernel
theorem dX4_beginsCost_8 : decode cX4_beginsCost 8 = .ok (.ireturn, 1) := by decide +kernel
theorem dX4_beginsCost_9 : decode cX4_beginsCost 9 = .ok (.aload_n 0, 1) := by decide +kernel
theorem dX4_beginsCost_10 : decode cX4_beginsCost 10 = .ok (.iconst 1, 1) := by decide +kernel
theorem dX4_beginsCost_11 : decode cX4_beginsCost 11 = .ok (.putfield 53, 3) := by decide +kernel
theorem dX4_beginsCost_14 : decode cX4_beginsCost 14 = .ok (.aload_n 0, 1) := by decide +kernel
theorem dX4_beginsCost_15 : decode cX4_beginsCost 15 = .ok (.iconst 5, 1) := by decide +kernel
theorem dX4_beginsCost_16 : decode cX4_beginsCost 16 = .ok (.putfield 37, 3) := by decide +kernel
theorem dX4_beginsCost_19 : decode cX4_beginsCost 19 = .ok (.iconst 1, 1) := by decide +kernel
theorem dX4_beginsCost_20 : decode cX4_beginsCost 20 = .ok (.ireturn, 1) := by decide +kernel
theorem dX4_numeral_0 : decode cX4_numeral 0 = .ok (.iload_n 2, 1) := by decide +kernel
theorem dX4_numeral_1 : decode cX4_numeral 1 = .ok (.iload_n 1, 1) := by decide +kernel
theorem dX4_numeral_2 : decode cX4_numeral 2 = .ok (.isub, 1) := by decide +kernel
theorem dX4_numeral_3 : decode cX4_numeral 3 = .ok (.iconst 3, 1) := by decide +kernel
theorem dX4_numeral_4 : decode cX4_numeral 4 = .ok (.if_icmp .gt 21, 3) := by decide +kernel
theorem dX4_numeral_7 : decode cX4_numeral 7 = .ok (.aload_n 0, 1) := by decide +kernel
theorem dX4_numeral_8 : decode cX4_numeral 8 = .ok (.getfield 9, 3) := by decide +kernel
theorem dX4_numeral_11 : decode cX4_numeral 11 = .ok (.iload_n 1, 1) := by decide +kernel
theorem dX4_numeral_12 : decode cX4_numeral 12 = .ok (.iaload, 1) := by decide +kernel
theorem dX4_numeral_13 : decode cX4_numeral 13 = .ok (.bipush 48, 2) := by decide +kernel
theorem dX4_numeral_15 : decode cX4_numeral 15 = .ok (.if_icmp .ne 12, 3) := by decide +kernel
theorem dX4_numeral_18 : decode cX4_numeral 18 = .ok (.iload_n 2, 1) := by decide +kernel
theorem dX4_numeral_19 : decode cX4_numeral 19 = .ok (.iload_n 1, 1) := by decide +kernel
theorem dX4_numeral_20 : decode cX4_numeral 20 = .ok (.isub, 1) := by decide +kernel
theorem dX4_numeral_21 : decode cX4_numeral 21 = .ok (.iconst 1, 1) := by decide +kernel
theorem dX4_numeral_22 : decode cX4_numeral 22 = .ok (.if_icmp .le 5, 3) := by decide +kernel
theorem dX4_numeral_25 : decode cX4_numeral 25 = .ok (.iconst (-1), 1) := by decide +kernel
theorem dX4_numeral_26 : decode cX4_numeral 26 = .ok (.ireturn, 1) := by decide +kernel
theorem dX4_numeral_27 : decode cX4_numeral 27 = .ok (.iconst 0, 1) := by decide +kernel
theorem dX4_numeral_28 : decode cX4_numeral 28 = .ok (.istore_n 3, 1) := by decide +kernel
theorem dX4_numeral_29 : decode cX4_numeral 29 = .ok (.iload_n 1, 1) := by decide +kernel
theorem dX4_numeral_30 : decode cX4_numeral 30 = .ok (.istore 4, 2) := by decide +kernel
theorem dX4_numeral_32 : decode cX4_numeral 32 = .ok (.iload 4, 2) := by decide +kernel
theorem dX4_numeral_34 : decode cX4_numeral 34 = .ok (.iload_n 2, 1) := by decide +kernel
theorem dX4_numeral_35 : decode cX4_numeral 35 = .ok (.if_icmp .ge 25, 3) := by decide +kernel
theorem dX4_numeral_38 : decode cX4_numeral 38 = .ok (.iload_n 3, 1) := by decide +kernel
theorem dX4_numeral_39 : decode cX4_numeral 39 = .ok (.bipush 10, 2) := by decide +kernel
theorem dX4_numeral_41 : decode cX4_numeral 41 = .ok (.imul, 1) := by decide +kernel
theorem dX4_numeral_42 : decode cX4_numeral 42 = .ok (.aload_n 0, 1) := by decide +kernel
theorem dX4_numeral_43 : decode cX4_numeral 43 = .ok (.getfield 9, 3) := by decide +kernel
theorem dX4_numeral_46 : decode cX4_numeral 46 = .ok (.iload 4, 2) := by decide +kernel
theorem dX4_numeral_48 : decode cX4_numeral 48 = .ok (.iaload, 1) := by decide +kernel
theorem dX4_numeral_49 : decode cX4_numeral 49 = .ok (.iadd, 1) := by decide +kernel
theorem dX4_numeral_50 : decode cX4_numeral 50 = .ok (.bipush 48, 2) := by decide +kernel
theorem dX4_numeral_52 : decode cX4_numeral 52 = .ok (.isub, 1) := by decide +kernel
theorem dX4_numeral_53 : decode cX4_numeral 53 = .ok (.istore_n 3, 1) := by decide +kernel
theorem dX4_numeral_54 : decode cX4_numeral 54 = .ok (.iinc 4 1, 3) := by decide +kernel
theorem dX4_numeral_57 : decode cX4_numeral 57 = .ok (.goto (-25), 3) := by decide +kernel
theorem dX4_numeral_60 : decode cX4_numeral 60 = .ok (.iload_n 3, 1) := by decide +kernel
theorem dX4_numeral_61 : decode cX4_numeral 61 = .ok (.ireturn, 1) := by decide +kernel
theorem dX4_takesNumeral_0 : decode cX4_takesNumeral 0 = .ok (.iload_n 1, 1) := by decide +kernel
theorem dX4_takesNumeral_1 : decode cX4_takesNumeral 1 = .ok (.ifCond .ge 5, 3) := by decide +kernel
theorem dX4_takesNumeral_4 : decode cX4_takesNumeral 4 = .ok (.iconst 0, 1) := by decide +kernel
theorem dX4_takesNumeral_5 : decode cX4_takesNumeral 5 = .ok (.ireturn, 1) := by decide +kernel
theorem dX4_takesNumeral_6 : decode cX4_takesNumeral 6 = .ok (.aload_n 0, 1) := by decide +kernel
theorem dX4_takesNumeral_7 : decode cX4_takesNumeral 7 = .ok (.getfield 37, 3) := by decide +kernel
theorem dX4_takesNumeral_10 : decode cX4_takesNumeral 10 = .ok (.tableswitch 64 1 5 #[34, 40, 46, 52, 58], 34) := by decide +kernel
theorem dX4_takesNumeral_44 : decode cX4_takesNumeral 44 = .ok (.aload_n 0, 1) := by decide +kernel
theorem dX4_takesNumeral_45 : decode cX4_takesNumeral 45 = .ok (.iload_n 1, 1) := by decide +kernel
theorem dX4_takesNumeral_46 : decode cX4_takesNumeral 46 = .ok (.invokevirtual 86, 3) := by decide +kernel
theorem dX4_takesNumeral_49 : decode cX4_takesNumeral 49 = .ok (.ireturn, 1) := by decide +kernel
theorem dX4_takesNumeral_50 : decode cX4_takesNumeral 50 = .ok (.aload_n 0, 1) := by decide +kernel
theorem dX4_takesNumeral_51 : decode cX4_takesNumeral 51 = .ok (.iload_n 1, 1) := by decide +kernel
theorem dX4_takesNumeral_52 : decode cX4_takesNumeral 52 = .ok (.invokevirtual 89, 3) := by decide +kernel
theorem dX4_takesNumeral_55 : decode cX4_takesNumeral 55 = .ok (.ireturn, 1) := by decide +kernel
theorem dX4_takesNumeral_56 : decode cX4_takesNumeral 56 = .ok (.aload_n 0, 1) := by decide +kernel
theorem dX4_takesNumeral_57 : decode cX4_takesNumeral 57 = .ok (.iload_n 1, 1) := by decide +kernel
theorem dX4_takesNumeral_58 : decode cX4_takesNumeral 58 = .ok (.invokevirtual 92, 3) := by decide +kernel
theorem dX4_takesNumeral_61 : decode cX4_takesNumeral 61 = .ok (.ireturn, 1) := by decide +kernel
theorem dX4_takesNumeral_62 : decode cX4_takesNumeral 62 = .ok (.aload_n 0, 1) := by decide +kernel
theorem dX4_takesNumeral_63 : decode cX4_takesNumeral 63 = .ok (.iload_n 1, 1) := by decide +kernel
theorem dX4_takesNumeral_64 : decode cX4_takesNumeral 64 = .ok (.invokevirtual 95, 3) := by decide +kernel
theorem dX4_takesNumeral_67 : decode cX4_takesNumeral 67 = .ok (.ireturn, 1) := by decide +kernel
theorem dX4_takesNumeral_68 : decode cX4_takesNumeral 68 = .ok (.aload_n 0, 1) := by decide +kernel
theorem dX4_takesNumeral_69 : decode cX4_takesNumeral 69 = .ok (.iload_n 1, 1) := by decide +kernel
theorem dX4_takesNumeral_70 : decode cX4_takesNumeral 70 = .ok (.invokevirtual 98, 3) := by decide +kernel
theorem dX4_takesNumeral_73 : decode cX4_takesNumeral 73 = .ok (.ireturn, 1) := by decide +kernel
theorem dX4_takesNumeral_74 : decode cX4_takesNumeral 74 = .ok (.iconst 0, 1) := by decide +kernel
theorem dX4_takesNumeral_75 : decode cX4_takesNumeral 75 = .ok (.ireturn, 1) := by decide +kernel
theorem dX4_takesRow_0 : decode cX4_takesRow 0 = .ok (.iload_n 1, 1) := by decide +kernel
theorem dX4_takesRow_1 : decode cX4_takesRow 1 = .ok (.invokestatic 101, 3) := by decide +kernel
theorem dX4_takesRow_4 : decode cX4_takesRow 4 = .ok (.ifCond .ne 5, 3) := by decide +kernel
theorem dX4_takesRow_7 : decode cX4_takesRow 7 = .ok (.iconst 0, 1) := by decide +kernel
theorem dX4_takesRow_8 : decode cX4_takesRow 8 = .ok (.ireturn, 1) := by decide +kernel
theorem dX4_takesRow_9 : decode cX4_takesRow 9 = .ok (.aload_n 0, 1) := by decide +kernel
theorem dX4_takesRow_10 : decode cX4_takesRow 10 = .ok (.iload_n 1, 1) := by decide +kernel
theorem dX4_takesRow_11 : decode cX4_takesRow 11 = .ok (.putfield 104, 3) := by decide +kernel
theorem dX4_takesRow_14 : decode cX4_takesRow 14 = .ok (.aload_n 0, 1) := by decide +kernel
theorem dX4_takesRow_15 : decode cX4_takesRow 15 = .ok (.iconst 2, 1) := by decide +kernel
theorem dX4_takesRow_16 : decode cX4_takesRow 16 = .ok (.putfield 37, 3) := by decide +kernel
theorem dX4_takesRow_19 : decode cX4_takesRow 19 = .ok (.iconst 1, 1) := by decide +kernel
theorem dX4_takesRow_20 : decode cX4_takesRow 20 = .ok (.ireturn, 1) := by decide +kernel
theorem dX4_takesColumn_0 : decode cX4_takesColumn 0 = .ok (.aload_n 0, 1) := by decide +kernel
theorem dX4_takesColumn_1 : decode cX4_takesColumn 1 = .ok (.getfield 104, 3) := by decide +kernel
theorem dX4_takesColumn_4 : decode cX4_takesColumn 4 = .ok (.iload_n 1, 1) := by decide +kernel
theorem dX4_takesColumn_5 : decode cX4_takesColumn 5 = .ok (.invokestatic 107, 3) := by decide +kernel
theorem dX4_takesColumn_8 : decode cX4_takesColumn 8 = .ok (.istore_n 2, 1) := by decide +kernel
theorem dX4_takesColumn_9 : decode cX4_takesColumn 9 = .ok (.iload_n 2, 1) := by decide +kernel
theorem dX4_takesColumn_10 : decode cX4_takesColumn 10 = .ok (.ifCond .lt 16, 3) := by decide +kernel
theorem dX4_takesColumn_13 : decode cX4_takesColumn 13 = .ok (.aload_n 0, 1) := by decide +kernel
theorem dX4_takesColumn_14 : decode cX4_takesColumn 14 = .ok (.getfield 18, 3) := by decide +kernel
theorem dX4_takesColumn_17 : decode cX4_takesColumn 17 = .ok (.getfield 110, 3) := by decide +kernel
theorem dX4_takesColumn_20 : decode cX4_takesColumn 20 = .ok (.iload_n 2, 1) := by decide +kernel
theorem dX4_takesColumn_21 : decode cX4_takesColumn 21 = .ok (.iaload, 1) := by decide +kernel
theorem dX4_takesColumn_22 : decode cX4_takesColumn 22 = .ok (.iconst (-1), 1) := by decide +kernel
theorem dX4_takesColumn_23 : decode cX4_takesColumn 23 = .ok (.if_icmp .eq 5, 3) := by decide +kernel
theorem dX4_takesColumn_26 : decode cX4_takesColumn 26 = .ok (.iconst 0, 1) := by decide +kernel
theorem dX4_takesColumn_27 : decode cX4_takesColumn 27 = .ok (.ireturn, 1) := by decide +kernel
theorem dX4_takesColumn_28 : decode cX4_takesColumn 28 = .ok (.aload_n 0, 1) := by decide +kernel
theorem dX4_takesColumn_29 : decode cX4_takesColumn 29 = .ok (.iload_n 2, 1) := by decide +kernel
theorem dX4_takesColumn_30 : decode cX4_takesColumn 30 = .ok (.putfield 113, 3) := by decide +kernel
theorem dX4_takesColumn_33 : decode cX4_takesColumn 33 = .ok (.aload_n 0, 1) := by decide +kernel
theorem dX4_takesColumn_34 : decode cX4_takesColumn 34 = .ok (.iconst 3, 1) := by decide +kernel
theorem dX4_takesColumn_35 : decode cX4_takesColumn 35 = .ok (.putfield 37, 3) := by decide +kernel
theorem dX4_takesColumn_38 : decode cX4_takesColumn 38 = .ok (.iconst 1, 1) := by decide +kernel
theorem dX4_takesColumn_39 : decode cX4_takesColumn 39 = .ok (.ireturn, 1) := by decide +kernel
theorem dX4_takesNumber_0 : decode cX4_takesNumber 0 = .ok (.iload_n 1, 1) := by decide +kernel
theorem dX4_takesNumber_1 : decode cX4_takesNumber 1 = .ok (.sipush 999, 3) := by decide +kernel
theorem dX4_takesNumber_4 : decode cX4_takesNumber 4 = .ok (.if_icmp .le 5, 3) := by decide +kernel
theorem dX4_takesNumber_7 : decode cX4_takesNumber 7 = .ok (.iconst 0, 1) := by decide +kernel
theorem dX4_takesNumber_8 : decode cX4_takesNumber 8 = .ok (.ireturn, 1) := by decide +kernel
theorem dX4_takesNumber_9 : decode cX4_takesNumber 9 = .ok (.aload_n 0, 1) := by decide +kernel
theorem dX4_takesNumber_10 : decode cX4_takesNumber 10 = .ok (.getfield 18, 3) := by decide +kernel
theorem dX4_takesNumber_13 : decode cX4_takesNumber 13 = .ok (.getfield 110, 3) := by decide +kernel
theorem dX4_takesNumber_16 : decode cX4_takesNumber 16 = .ok (.aload_n 0, 1) := by decide +kernel
theorem dX4_takesNumber_17 : decode cX4_takesNumber 17 = .ok (.getfield 113, 3) := by decide +kernel
theorem dX4_takesNumber_20 : decode cX4_takesNumber 20 = .ok (.iload_n 1, 1) := by decide +kernel
theorem dX4_takesNumber_21 : decode cX4_takesNumber 21 = .ok (.iastore, 1) := by decide +kernel
theorem dX4_takesNumber_22 : decode cX4_takesNumber 22 = .ok (.aload_n 0, 1) := by decide +kernel
theorem dX4_takesNumber_23 : decode cX4_takesNumber 23 = .ok (.bipush 6, 2) := by decide +kernel
theorem dX4_takesNumber_25 : decode cX4_takesNumber 25 = .ok (.putfield 37, 3) := by decide +kernel
theorem dX4_takesNumber_28 : decode cX4_takesNumber 28 = .ok (.iconst 1, 1) := by decide +kernel
theorem dX4_takesNumber_29 : decode cX4_takesNumber 29 = .ok (.ireturn, 1) := by decide +kernel
theorem dX4_takesClasses_0 : decode cX4_takesClasses 0 = .ok (.iload_n 1, 1) := by decide +kernel
theorem dX4_takesClasses_1 : decode cX4_takesClasses 1 = .ok (.invokestatic 116, 3) := by decide +kernel
theorem dX4_takesClasses_4 : decode cX4_takesClasses 4 = .ok (.ifCond .ne 5, 3) := by decide +kernel
theorem dX4_takesClasses_7 : decode cX4_takesClasses 7 = .ok (.iconst 0, 1) := by decide +kernel
theorem dX4_takesClasses_8 : decode cX4_takesClasses 8 = .ok (.ireturn, 1) := by decide +kernel
theorem dX4_takesClasses_9 : decode cX4_takesClasses 9 = .ok (.aload_n 0, 1) := by decide +kernel
theorem dX4_takesClasses_10 : decode cX4_takesClasses 10 = .ok (.getfield 18, 3) := by decide +kernel
theorem dX4_takesClasses_13 : decode cX4_takesClasses 13 = .ok (.iload_n 1, 1) := by decide +kernel
theorem dX4_takesClasses_14 : decode cX4_takesClasses 14 = .ok (.putfield 119, 3) := by decide +kernel
theorem dX4_takesClasses_17 : decode cX4_takesClasses 17 = .ok (.aload_n 0, 1) := by decide +kernel
theorem dX4_takesClasses_18 : decode cX4_takesClasses 18 = .ok (.bipush 6, 2) := by decide +kernel
theorem dX4_takesClasses_20 : decode cX4_takesClasses 20 = .ok (.putfield 37, 3) := by decide +kernel
theorem dX4_takesClasses_23 : decode cX4_takesClasses 23 = .ok (.iconst 1, 1) := by decide +kernel
theorem dX4_takesClasses_24 : decode cX4_takesClasses 24 = .ok (.ireturn, 1) := by decide +kernel
theorem dX4_takesCost_0 : decode cX4_takesCost 0 = .ok (.iload_n 1, 1) := by decide +kernel
theorem dX4_takesCost_1 : decode cX4_takesCost 1 = .ok (.sipush 999, 3) := by decide +kernel
theorem dX4_takesCost_4 : decode cX4_takesCost 4 = .ok (.if_icmp .le 5, 3) := by decide +kernel
theorem dX4_takesCost_7 : decode cX4_takesCost 7 = .ok (.iconst 0, 1) := by decide +kernel
theorem dX4_takesCost_8 : decode cX4_takesCost 8 = .ok (.ireturn, 1) := by decide +kernel
theorem dX4_takesCost_9 : decode cX4_takesCost 9 = .ok (.aload_n 0, 1) := by decide +kernel
theorem dX4_takesCost_10 : decode cX4_takesCost 10 = .ok (.getfield 18, 3) := by decide +kernel
theorem dX4_takesCost_13 : decode cX4_takesCost 13 = .ok (.iload_n 1, 1) := by decide +kernel
theorem dX4_takesCost_14 : decode cX4_takesCost 14 = .ok (.putfield 122, 3) := by decide +kernel
theorem dX4_takesCost_17 : decode cX4_takesCost 17 = .ok (.aload_n 0, 1) := by decide +kernel
theorem dX4_takesCost_18 : decode cX4_takesCost 18 = .ok (.bipush 6, 2) := by decide +kernel
theorem dX4_takesCost_20 : decode cX4_takesCost 20 = .ok (.putfield 37, 3) := by decide +kernel
theorem dX4_takesCost_23 : decode cX4_takesCost 23 = .ok (.iconst 1, 1) := by decide +kernel
theorem dX4_takesCost_24 : decode cX4_takesCost 24 = .ok (.ireturn, 1) := by decide +kernel
theorem dX4_takesEnd_0 : decode cX4_takesEnd 0 = .ok (.aload_n 0, 1) := by decide +kernel
theorem dX4_takesEnd_1 : decode cX4_takesEnd 1 = .ok (.getfield 37, 3) := by decide +kernel
theorem dX4_takesEnd_4 : decode cX4_takesEnd 4 = .ok (.bipush 6, 2) := by decide +kernel
theorem dX4_takesEnd_6 : decode cX4_takesEnd 6 = .ok (.if_icmp .eq 5, 3) := by decide +kernel
theorem dX4_takesEnd_9 : decode cX4_takesEnd 9 = .ok (.iconst 0, 1) := by decide +kernel
theorem dX4_takesEnd_10 : decode cX4_takesEnd 10 = .ok (.ireturn, 1) := by decide +kernel
theorem dX4_takesEnd_11 : decode cX4_takesEnd 11 = .ok (.aload_n 0, 1) := by decide +kernel
theorem dX4_takesEnd_12 : decode cX4_takesEnd 12 = .ok (.dup, 1) := by decide +kernel
theorem dX4_takesEnd_13 : decode cX4_takesEnd 13 = .ok (.getfield 40, 3) := by decide +kernel
theorem dX4_takesEnd_16 : decode cX4_takesEnd 16 = .ok (.iconst 1, 1) := by decide +kernel
theorem dX4_takesEnd_17 : decode cX4_takesEnd 17 = .ok (.iadd, 1) := by decide +kernel
theorem dX4_takesEnd_18 : decode cX4_takesEnd 18 = .ok (.putfield 40, 3) := by decide +kernel
theorem dX4_takesEnd_21 : decode cX4_takesEnd 21 = .ok (.aload_n 0, 1) := by decide +kernel
theorem dX4_takesEnd_22 : decode cX4_takesEnd 22 = .ok (.iconst 0, 1) := by decide +kernel
theorem dX4_takesEnd_23 : decode cX4_takesEnd 23 = .ok (.putfield 37, 3) := by decide +kernel
theorem dX4_takesEnd_26 : decode cX4_takesEnd 26 = .ok (.iconst 1, 1) := by decide +kernel
theorem dX4_takesEnd_27 : decode cX4_takesEnd 27 = .ok (.ireturn, 1) := by decide +kernel
theorem dX4_isLetter_0 : decode cX4_isLetter 0 = .ok (.iload_n 0, 1) := by decide +kernel
theorem dX4_isLetter_1 : decode cX4_isLetter 1 = .ok (.bipush 97, 2) := by decide +kernel
theorem dX4_isLetter_3 : decode cX4_isLetter 3 = .ok (.if_icmp .lt 13, 3) := by decide +kernel
theorem dX4_isLetter_6 : decode cX4_isLetter 6 = .ok (.iload_n 0, 1) := by decide +kernel
theorem dX4_isLetter_7 : decode cX4_isLetter 7 = .ok (.bipush 122, 2) := by decide +kernel
theorem dX4_isLetter_9 : decode cX4_isLetter 9 = .ok (.if_icmp .gt 7, 3) := by decide +kernel
theorem dX4_isLetter_12 : decode cX4_isLetter 12 = .ok (.iconst 1, 1) := by decide +kernel
theorem dX4_isLetter_13 : decode cX4_isLetter 13 = .ok (.goto 4, 3) := by decide +kernel
theorem dX4_isLetter_16 : decode cX4_isLetter 16 = .ok (.iconst 0, 1) := by decide +kernel
theorem dX4_isLetter_17 : decode cX4_isLetter 17 = .ok (.ireturn, 1) := by decide +kernel
theorem dX4_isDigit_0 : decode cX4_isDigit 0 = .ok (.iload_n 0, 1) := by decide +kernel
theorem dX4_isDigit_1 : decode cX4_isDigit 1 = .ok (.bipush 48, 2) := by decide +kernel
theorem dX4_isDigit_3 : decode cX4_isDigit 3 = .ok (.if_icmp .lt 13, 3) := by decide +kernel
theorem dX4_isDigit_6 : decode cX4_isDigit 6 = .ok (.iload_n 0, 1) := by decide +kernel
theorem dX4_isDigit_7 : decode cX4_isDigit 7 = .ok (.bipush 57, 2) := by decide +kernel
theorem dX4_isDigit_9 : decode cX4_isDigit 9 = .ok (.if_icmp .gt 7, 3) := by decide +kernel
theorem dX4_isDigit_12 : decode cX4_isDigit 12 = .ok (.iconst 1, 1) := by decide +kernel
theorem dX4_isDigit_13 : decode cX4_isDigit 13 = .ok (.goto 4, 3) := by decide +kernel
theorem dX4_isDigit_16 : decode cX4_isDigit 16 = .ok (.iconst 0, 1) := by decide +kernel
theorem dX4_isDigit_17 : decode cX4_isDigit 17 = .ok (.ireturn, 1) := by decide +kernel
theorem dX5_init_0 : decode cX5_init 0 = .ok (.aload_n 0, 1) := by decide +kernel
theorem dX5_init_1 : decode cX5_init 1 = .ok (.invokespecial 3, 3) := by decide +kernel
theorem dX5_init_4 : decode cX5_init 4 = .ok (.aload_n 0, 1) := by decide +kernel
theorem dX5_init_5 : decode cX5_init 5 = .ok (.bipush 6, 2) := by decide +kernel
theorem dX5_init_7 : decode cX5_init 7 = .ok (.newarray .int, 2) := by decide +kernel
theorem dX5_init_9 : decode cX5_init 9 = .ok (.putfield 9, 3) := by decide +kernel
theorem dX5_init_12 : decode cX5_init 12 = .ok (.return_, 1) := by decide +kernel
theorem dX5_beginOf_0 : decode cX5_beginOf 0 = .ok (.iload_n 1, 1) := by decide +kernel
theorem dX5_beginOf_1 : decode cX5_beginOf 1 = .ok (.ifCond .lt 26, 3) := by decide +kernel
theorem dX5_beginOf_4 : decode cX5_beginOf 4 = .ok (.iload_n 1, 1) := by decide +kernel
theorem dX5_beginOf_5 : decode cX5_beginOf 5 = .ok (.aload_n 0, 1) := by decide +kernel
theorem dX5_beginOf_6 : decode cX5_beginOf 6 = .ok (.getfield 15, 3) := by decide +kernel
theorem dX5_beginOf_9 : decode cX5_beginOf 9 = .ok (.if_icmp .ge 18, 3) := by decide +kernel
theorem dX5_beginOf_12 : decode cX5_beginOf 12 = .ok (.iload_n 1, 1) := by decide +kernel
theorem dX5_beginOf_13 : decode cX5_beginOf 13 = .ok (.bipush 6, 2) := by decide +kernel
theorem dX5_beginOf_15 : decode cX5_beginOf 15 = .ok (.if_icmp .ge 12, 3) := by decide +kernel
theorem dX5_beginOf_18 : decode cX5_beginOf 18 = .ok (.aload_n 0, 1) := by decide +kernel
theorem dX5_beginOf_19 : decode cX5_beginOf 19 = .ok (.getfield 9, 3) := by decide +kernel
theorem dX5_beginOf_22 : decode cX5_beginOf 22 = .ok (.iload_n 1, 1) := by decide +kernel
theorem dX5_beginOf_23 : decode cX5_beginOf 23 = .ok (.iaload, 1) := by decide +kernel
theorem dX5_beginOf_24 : decode cX5_beginOf 24 = .ok (.goto 5, 3) := by decide +kernel
theorem dX5_beginOf_27 : decode cX5_beginOf 27 = .ok (.bipush (-9), 2) := by decide +kernel
theorem dX5_beginOf_29 : decode cX5_beginOf 29 = .ok (.ireturn, 1) := by decide +kernel
theorem dX5_runOf_0 : decode cX5_runOf 0 = .ok (.iconst 0, 1) := by decide +kernel
theorem dX5_runOf_1 : decode cX5_runOf 1 = .ok (.istore_n 2, 1) := by decide +kernel
theorem dX5_runOf_2 : decode cX5_runOf 2 = .ok (.iload_n 2, 1) := by decide +kernel
theorem dX5_runOf_3 : decode cX5_runOf 3 = .ok (.iconst 1, 1) := by decide +kernel
theorem dX5_runOf_4 : decode cX5_runOf 4 = .ok (.iadd, 1) := by decide +kernel
theorem dX5_runOf_5 : decode cX5_runOf 5 = .ok (.aload_n 0, 1) := by decide +kernel
theorem dX5_runOf_6 : decode cX5_runOf 6 = .ok (.getfield 15, 3) := by decide +kernel
theorem dX5_runOf_9 : decode cX5_runOf 9 = .ok (.if_icmp .ge 20, 3) := by decide +kernel
theorem dX5_runOf_12 : decode cX5_runOf 12 = .ok (.aload_n 0, 1) := by decide +kernel
theorem dX5_runOf_13 : decode cX5_runOf 13 = .ok (.iload_n 2, 1) := by decide +kernel
theorem dX5_runOf_14 : decode cX5_runOf 14 = .ok (.iconst 1, 1) := by decide +kernel
theorem dX5_runOf_15 : decode cX5_runOf 15 = .ok (.iadd, 1) := by decide +kernel
theorem dX5_runOf_16 : decode cX5_runOf 16 = .ok (.invokevirtual 19, 3) := by decide +kernel
theorem dX5_runOf_19 : decode cX5_runOf 19 = .ok (.iload_n 1, 1) := by decide +kernel
theorem dX5_runOf_20 : decode cX5_runOf 20 = .ok (.if_icmp .gt 9, 3) := by decide +kernel
theorem dX5_runOf_23 : decode cX5_runOf 23 = .ok (.iinc 2 1, 3) := by decide +kernel
theorem dX5_runOf_26 : decode cX5_runOf 26 = .ok (.goto (-24), 3) := by decide +kernel
theorem dX5_runOf_29 : decode cX5_runOf 29 = .ok (.iload_n 2, 1) := by decide +kernel
theorem dX5_runOf_30 : decode cX5_runOf 30 = .ok (.ireturn, 1) := by decide +kernel
theorem dX6_init_0 : decode cX6_init 0 = .ok (.aload_n 0, 1) := by decide +kernel
theorem dX6_init_1 : decode cX6_init 1 = .ok (.invokespecial 3, 3) := by decide +kernel
theorem dX6_init_4 : decode cX6_init 4 = .ok (.aload_n 0, 1) := by decide +kernel
theorem dX6_init_5 : decode cX6_init 5 = .ok (.new 9, 3) := by decide +kernel
theorem dX6_init_8 : decode cX6_init 8 = .ok (.dup, 1) := by decide +kernel
theorem dX6_init_9 : decode cX6_init 9 = .ok (.invokespecial 11, 3) := by decide +kernel
theorem dX6_init_12 : decode cX6_init 12 = .ok (.putfield 12, 3) := by decide +kernel
theorem dX6_init_15 : decode cX6_init 15 = .ok (.aload_n 0, 1) := by decide +kernel
theorem dX6_init_16 : decode cX6_init 16 = .ok (.new 18, 3) := by decide +kernel
theorem dX6_init_19 : decode cX6_init 19 = .ok (.dup, 1) := by decide +kernel
theorem dX6_init_20 : decode cX6_init 20 = .ok (.invokespecial 20, 3) := by decide +kernel
theorem dX6_init_23 : decode cX6_init 23 = .ok (.putfield 21, 3) := by decide +kernel
theorem dX6_init_26 : decode cX6_init 26 = .ok (.aload_n 0, 1) := by decide +kernel
theorem dX6_init_27 : decode cX6_init 27 = .ok (.new 18, 3) := by decide +kernel
theorem dX6_init_30 : decode cX6_init 30 = .ok (.dup, 1) := by decide +kernel
theorem dX6_init_31 : decode cX6_init 31 = .ok (.invokespecial 20, 3) := by decide +kernel
theorem dX6_init_34 : decode cX6_init 34 = .ok (.putfield 25, 3) := by decide +kernel
theorem dX6_init_37 : decode cX6_init 37 = .ok (.aload_n 0, 1) := by decide +kernel
theorem dX6_init_38 : decode cX6_init 38 = .ok (.new 28, 3) := by decide +kernel
theorem dX6_init_41 : decode cX6_init 41 = .ok (.dup, 1) := by decide +kernel
theorem dX6_init_42 : decode cX6_init 42 = .ok (.invokespecial 30, 3) := by decide +kernel
theorem dX6_init_45 : decode cX6_init 45 = .ok (.putfield 31, 3) := by decide +kernel
theorem dX6_init_48 : decode cX6_init 48 = .ok (.aload_n 0, 1) := by decide +kernel
theorem dX6_init_49 : decode cX6_init 49 = .ok (.new 35, 3) := by decide +kernel
theorem dX6_init_52 : decode cX6_init 52 = .ok (.dup, 1) := by decide +kernel
theorem dX6_init_53 : decode cX6_init 53 = .ok (.invokespecial 37, 3) := by decide +kernel
theorem dX6_init_56 : decode cX6_init 56 = .ok (.putfield 38, 3) := by decide +kernel
theorem dX6_init_59 : decode cX6_init 59 = .ok (.aload_n 0, 1) := by decide +kernel
theorem dX6_init_60 : decode cX6_init 60 = .ok (.bipush 6, 2) := by decide +kernel
theorem dX6_init_62 : decode cX6_init 62 = .ok (.anewarray 35, 3) := by decide +kernel
theorem dX6_init_65 : decode cX6_init 65 = .ok (.putfield 42, 3) := by decide +kernel
theorem dX6_init_68 : decode cX6_init 68 = .ok (.aload_n 0, 1) := by decide +kernel
theorem dX6_init_69 : decode cX6_init 69 = .ok (.aload_n 1, 1) := by decide +kernel
theorem dX6_init_70 : decode cX6_init 70 = .ok (.putfield 46, 3) := by decide +kernel
theorem dX6_init_73 : decode cX6_init 73 = .ok (.iconst 0, 1) := by decide +kernel
theorem dX6_init_74 : decode cX6_init 74 = .ok (.istore_n 2, 1) := by decide +kernel
theorem dX6_init_75 : decode cX6_init 75 = .ok (.iload_n 2, 1) := by decide +kernel
theorem dX6_init_76 : decode cX6_init 76 = .ok (.bipush 6, 2) := by decide +kernel
theorem dX6_init_78 : decode cX6_init 78 = .ok (.if_icmp .ge 22, 3) := by decide +kernel
theorem dX6_init_81 : decode cX6_init 81 = .ok (.aload_n 0, 1) := by decide +kernel
theorem dX6_init_82 : decode cX6_init 82 = .ok (.getfield 42, 3) := by decide +kernel
theorem dX6_init_85 : decode cX6_init 85 = .ok (.iload_n 2, 1) := by decide +kernel
theorem dX6_init_86 : decode cX6_init 86 = .ok (.new 35, 3) := by decide +kernel
theorem dX6_init_89 : decode cX6_init 89 = .ok (.dup, 1) := by decide +kernel
theorem dX6_init_90 : decode cX6_init 90 = .ok (.invokespecial 37, 3) := by decide +kernel
theorem dX6_init_93 : decode cX6_init 93 = .ok (.aastore, 1) := by decide +kernel
theorem dX6_init_94 : decode cX6_init 94 = .ok (.iinc 2 1, 3) := by decide +kernel
theorem dX6_init_97 : decode cX6_init 97 = .ok (.goto (-22), 3) := by decide +kernel
theorem dX6_init_100 : decode cX6_init 100 = .ok (.return_, 1) := by decide +kernel
theorem dX6_forget_0 : decode cX6_forget 0 = .ok (.aload_n 0, 1) := by decide +kernel
theorem dX6_forget_1 : decode cX6_forget 1 = .ok (.iconst 0, 1) := by decide +kernel
theorem dX6_forget_2 : decode cX6_forget 2 = .ok (.putfield 50, 3) := by decide +kernel
theorem dX6_forget_5 : decode cX6_forget 5 = .ok (.aload_n 0, 1) := by decide +kernel
theorem dX6_forget_6 : decode cX6_forget 6 = .ok (.iconst 0, 1) := by decide +kernel
theorem dX6_forget_7 : decode cX6_forget 7 = .ok (.putfield 54, 3) := by decide +kernel
theorem dX6_forget_10 : decode cX6_forget 10 = .ok (.aload_n 0, 1) := by decide +kernel
theorem dX6_forget_11 : decode cX6_forget 11 = .ok (.iconst 0, 1) := by decide +kernel
theorem dX6_forget_12 : decode cX6_forget 12 = .ok (.putfield 57, 3) := by decide +kernel
theorem dX6_forget_15 : decode cX6_forget 15 = .ok (.aload_n 0, 1) := by decide +kernel
theorem dX6_forget_16 : decode cX6_forget 16 = .ok (.iconst 0, 1) := by decide +kernel
theorem dX6_forget_17 : decode cX6_forget 17 = .ok (.putfield 60, 3) := by decide +kernel
theorem dX6_forget_20 : decode cX6_forget 20 = .ok (.return_, 1) := by decide +kernel
theorem dX6_rungs_0 : decode cX6_rungs 0 = .ok (.aload_n 0, 1) := by decide +kernel
theorem dX6_rungs_1 : decode cX6_rungs 1 = .ok (.getfield 50, 3) := by decide +kernel
theorem dX6_rungs_4 : decode cX6_rungs 4 = .ok (.ifCond .ne 19, 3) := by decide +kernel
theorem dX6_rungs_7 : decode cX6_rungs 7 = .ok (.aload_n 0, 1) := by decide +kernel
theorem dX6_rungs_8 : decode cX6_rungs 8 = .ok (.getfield 12, 3) := by decide +kernel
theorem dX6_rungs_11 : decode cX6_rungs 11 = .ok (.aload_n 0, 1) := by decide +kernel
theorem dX6_rungs_12 : decode cX6_rungs 12 = .ok (.getfield 46, 3) := by decide +kernel
theorem dX6_rungs_15 : decode cX6_rungs 15 = .ok (.invokevirtual 63, 3) := by decide +kernel
theorem dX6_rungs_18 : decode cX6_rungs 18 = .ok (.aload_n 0, 1) := by decide +kernel
theorem dX6_rungs_19 : decode cX6_rungs 19 = .ok (.iconst 1, 1) := by decide +kernel
theorem dX6_rungs_20 : decode cX6_rungs 20 = .ok (.putfield 50, 3) := by decide +kernel
theorem dX6_rungs_23 : decode cX6_rungs 23 = .ok (.aload_n 0, 1) := by decide +kernel
theorem dX6_rungs_24 : decode cX6_rungs 24 = .ok (.getfield 12, 3) := by decide +kernel
theorem dX6_rungs_27 : decode cX6_rungs 27 = .ok (.areturn, 1) := by decide +kernel
theorem dX6_ofNow_0 : decode cX6_ofNow 0 = .ok (.aload_n 0, 1) := by decide +kernel
theorem dX6_ofNow_1 : decode cX6_ofNow 1 = .ok (.getfield 54, 3) := by decide +kernel
theorem dX6_ofNow_4 : decode cX6_ofNow 4 = .ok (.ifCond .ne 97, 3) := by decide +kernel
theorem dX6_ofNow_7 : decode cX6_ofNow 7 = .ok (.aload_n 0, 1) := by decide +kernel
theorem dX6_ofNow_8 : decode cX6_ofNow 8 = .ok (.invokevirtual 67, 3) := by decide +kernel
theorem dX6_ofNow_11 : decode cX6_ofNow 11 = .ok (.pop, 1) := by decide +kernel
theorem dX6_ofNow_12 : decode cX6_ofNow 12 = .ok (.iconst 0, 1) := by decide +kernel
theorem dX6_ofNow_13 : decode cX6_ofNow 13 = .ok (.istore_n 1, 1) := by decide +kernel
theorem dX6_ofNow_14 : decode cX6_ofNow 14 = .ok (.iload_n 1, 1) := by decide +kernel
theorem dX6_ofNow_15 : decode cX6_ofNow 15 = .ok (.aload_n 0, 1) := by decide +kernel
theorem dX6_ofNow_16 : decode cX6_ofNow 16 = .ok (.getfield 12, 3) := by decide +kernel
theorem dX6_ofNow_19 : decode cX6_ofNow 19 = .ok (.getfield 71, 3) := by decide +kernel
theorem dX6_ofNow_22 : decode cX6_ofNow 22 = .ok (.if_icmp .ge 34, 3) := by decide +kernel
theorem dX6_ofNow_25 : decode cX6_ofNow 25 = .ok (.aload_n 0, 1) := by decide +kernel
theorem dX6_ofNow_26 : decode cX6_ofNow 26 = .ok (.getfield 21, 3) := by decide +kernel
theorem dX6_ofNow_29 : decode cX6_ofNow 29 = .ok (.getfield 75, 3) := by decide +kernel
theorem dX6_ofNow_32 : decode cX6_ofNow 32 = .ok (.iload_n 1, 1) := by decide +kernel
theorem dX6_ofNow_33 : decode cX6_ofNow 33 = .ok (.aload_n 0, 1) := by decide +kernel
theorem dX6_ofNow_34 : decode cX6_ofNow 34 = .ok (.getfield 46, 3) := by decide +kernel
theorem dX6_ofNow_37 : decode cX6_ofNow 37 = .ok (.aload_n 0, 1) := by decide +kernel
theorem dX6_ofNow_38 : decode cX6_ofNow 38 = .ok (.getfield 12, 3) := by decide +kernel
theorem dX6_ofNow_41 : decode cX6_ofNow 41 = .ok (.getfield 79, 3) := by decide +kernel
theorem dX6_ofNow_44 : decode cX6_ofNow 44 = .ok (.iload_n 1, 1) := by decide +kernel
theorem dX6_ofNow_45 : decode cX6_ofNow 45 = .ok (.iaload, 1) := by decide +kernel
theorem dX6_ofNow_46 : decode cX6_ofNow 46 = .ok (.invokevirtual 83, 3) := by decide +kernel
theorem dX6_ofNow_49 : decode cX6_ofNow 49 = .ok (.lastore, 1) := by decide +kernel
theorem dX6_ofNow_50 : decode cX6_ofNow 50 = .ok (.iinc 1 1, 3) := by decide +kernel
theorem dX6_ofNow_53 : decode cX6_ofNow 53 = .ok (.goto (-39), 3) := by decide +kernel
theorem dX6_ofNow_56 : decode cX6_ofNow 56 = .ok (.aload_n 0, 1) := by decide +kernel
theorem dX6_ofNow_57 : decode cX6_ofNow 57 = .ok (.getfield 21, 3) := by decide +kernel
theorem dX6_ofNow_60 : decode cX6_ofNow 60 = .ok (.aload_n 0, 1) := by decide +kernel
theorem dX6_ofNow_61 : decode cX6_ofNow 61 = .ok (.getfield 12, 3) := by decide +kernel
theorem dX6_ofNow_64 : decode cX6_ofNow 64 = .ok (.aload_n 0, 1) := by decide +kernel
theorem dX6_ofNow_65 : decode cX6_ofNow 65 = .ok (.getfield 46, 3) := by decide +kernel
theorem dX6_ofNow_68 : decode cX6_ofNow 68 = .ok (.getfield 89, 3) := by decide +kernel
theorem dX6_ofNow_71 : decode cX6_ofNow 71 = .ok (.invokevirtual 92, 3) := by decide +kernel
theorem dX6_ofNow_74 : decode cX6_ofNow 74 = .ok (.aload_n 0, 1) := by decide +kernel
theorem dX6_ofNow_75 : decode cX6_ofNow 75 = .ok (.getfield 21, 3) := by decide +kernel
theorem dX6_ofNow_78 : decode cX6_ofNow 78 = .ok (.aload_n 0, 1) := by decide +kernel
theorem dX6_ofNow_79 : decode cX6_ofNow 79 = .ok (.getfield 12, 3) := by decide +kernel
theorem dX6_ofNow_82 : decode cX6_ofNow 82 = .ok (.aload_n 0, 1) := by decide +kernel
theorem dX6_ofNow_83 : decode cX6_ofNow 83 = .ok (.getfield 46, 3) := by decide +kernel
theorem dX6_ofNow_86 : decode cX6_ofNow 86 = .ok (.getfield 89, 3) := by decide +kernel
theorem dX6_ofNow_89 : decode cX6_ofNow 89 = .ok (.aload_n 0, 1) := by decide +kernel
theorem dX6_ofNow_90 : decode cX6_ofNow 90 = .ok (.getfield 38, 3) := by decide +kernel
theorem dX6_ofNow_93 : decode cX6_ofNow 93 = .ok (.invokevirtual 95, 3) := by decide +kernel
theorem dX6_ofNow_96 : decode cX6_ofNow 96 = .ok (.aload_n 0, 1) := by decide +kernel
theorem dX6_ofNow_97 : decode cX6_ofNow 97 = .ok (.iconst 1, 1) := by decide +kernel
theorem dX6_ofNow_98 : decode cX6_ofNow 98 = .ok (.putfield 54, 3) := by decide +kernel
theorem dX6_ofNow_101 : decode cX6_ofNow 101 = .ok (.aload_n 0, 1) := by decide +kernel
theorem dX6_ofNow_102 : decode cX6_ofNow 102 = .ok (.getfield 38, 3) := by decide +kernel
theorem dX6_ofNow_105 : decode cX6_ofNow 105 = .ok (.areturn, 1) := by decide +kernel
theorem dX6_leastIn_0 : decode cX6_leastIn 0 = .ok (.aload_n 0, 1) := by decide +kernel
theorem dX6_leastIn_1 : decode cX6_leastIn 1 = .ok (.getfield 57, 3) := by decide +kernel
theorem dX6_leastIn_4 : decode cX6_leastIn 4 = .ok (.ifCond .ne 60, 3) := by decide +kernel
theorem dX6_leastIn_7 : decode cX6_leastIn 7 = .ok (.aload_n 0, 1) := by decide +kernel
theorem dX6_leastIn_8 : decode cX6_leastIn 8 = .ok (.invokevirtual 67, 3) := by decide +kernel
theorem dX6_leastIn_11 : decode cX6_leastIn 11 = .ok (.pop, 1) := by decide +kernel
theorem dX6_leastIn_12 : decode cX6_leastIn 12 = .ok (.aload_n 0, 1) := by decide +kernel
theorem dX6_leastIn_13 : decode cX6_leastIn 13 = .ok (.getfield 25, 3) := by decide +kernel
theorem dX6_leastIn_16 : decode cX6_leastIn 16 = .ok (.aload_n 0, 1) := by decide +kernel
theorem dX6_leastIn_17 : decode cX6_leastIn 17 = .ok (.getfield 12, 3) := by decide +kernel
theorem dX6_leastIn_20 : decode cX6_leastIn 20 = .ok (.bipush 6, 2) := by decide +kernel
theorem dX6_leastIn_22 : decode cX6_leastIn 22 = .ok (.invokevirtual 92, 3) := by decide +kernel
theorem dX6_leastIn_25 : decode cX6_leastIn 25 = .ok (.iconst 0, 1) := by decide +kernel
theorem dX6_leastIn_26 : decode cX6_leastIn 26 = .ok (.istore_n 2, 1) := by decide +kernel
theorem dX6_leastIn_27 : decode cX6_leastIn 27 = .ok (.iload_n 2, 1) := by decide +kernel
theorem dX6_leastIn_28 : decode cX6_leastIn 28 = .ok (.bipush 6, 2) := by decide +kernel
theorem dX6_leastIn_30 : decode cX6_leastIn 30 = .ok (.if_icmp .ge 29, 3) := by decide +kernel
theorem dX6_leastIn_33 : decode cX6_leastIn 33 = .ok (.aload_n 0, 1) := by decide +kernel
theorem dX6_leastIn_34 : decode cX6_leastIn 34 = .ok (.getfield 25, 3) := by decide +kernel
theorem dX6_leastIn_37 : decode cX6_leastIn 37 = .ok (.aload_n 0, 1) := by decide +kernel
theorem dX6_leastIn_38 : decode cX6_leastIn 38 = .ok (.getfield 12, 3) := by decide +kernel
theorem dX6_leastIn_41 : decode cX6_leastIn 41 = .ok (.iload_n 2, 1) := by decide +kernel
theorem dX6_leastIn_42 : decode cX6_leastIn 42 = .ok (.iconst 1, 1) := by decide +kernel
theorem dX6_leastIn_43 : decode cX6_leastIn 43 = .ok (.iadd, 1) := by decide +kernel
theorem dX6_leastIn_44 : decode cX6_leastIn 44 = .ok (.aload_n 0, 1) := by decide +kernel
theorem dX6_leastIn_45 : decode cX6_leastIn 45 = .ok (.getfield 42, 3) := by decide +kernel
theorem dX6_leastIn_48 : decode cX6_leastIn 48 = .ok (.iload_n 2, 1) := by decide +kernel
theorem dX6_leastIn_49 : decode cX6_leastIn 49 = .ok (.aaload, 1) := by decide +kernel
theorem dX6_leastIn_50 : decode cX6_leastIn 50 = .ok (.invokevirtual 95, 3) := by decide +kernel
theorem dX6_leastIn_53 : decode cX6_leastIn 53 = .ok (.iinc 2 1, 3) := by decide +kernel
theorem dX6_leastIn_56 : decode cX6_leastIn 56 = .ok (.goto (-29), 3) := by decide +kernel
theorem dX6_leastIn_59 : decode cX6_leastIn 59 = .ok (.aload_n 0, 1) := by decide +kernel
theorem dX6_leastIn_60 : decode cX6_leastIn 60 = .ok (.iconst 1, 1) := by decide +kernel
theorem dX6_leastIn_61 : decode cX6_leastIn 61 = .ok (.putfield 57, 3) := by decide +kernel
theorem dX6_leastIn_64 : decode cX6_leastIn 64 = .ok (.aload_n 0, 1) := by decide +kernel
theorem dX6_leastIn_65 : decode cX6_leastIn 65 = .ok (.getfield 42, 3) := by decide +kernel
theorem dX6_leastIn_68 : decode cX6_leastIn 68 = .ok (.iload_n 1, 1) := by decide +kernel
theorem dX6_leastIn_69 : decode cX6_leastIn 69 = .ok (.bipush 6, 2) := by decide +kernel
theorem dX6_leastIn_71 : decode cX6_leastIn 71 = .ok (.invokestatic 99, 3) := by decide +kernel
theorem dX6_leastIn_74 : decode cX6_leastIn 74 = .ok (.iconst 1, 1) := by decide +kernel
theorem dX6_leastIn_75 : decode cX6_leastIn 75 = .ok (.invokestatic 105, 3) := by decide +kernel
theorem dX6_leastIn_78 : decode cX6_leastIn 78 = .ok (.iconst 1, 1) := by decide +kernel
theorem dX6_leastIn_79 : decode cX6_leastIn 79 = .ok (.isub, 1) := by decide +kernel
theorem dX6_leastIn_80 : decode cX6_leastIn 80 = .ok (.aaload, 1) := by decide +kernel
theorem dX6_leastIn_81 : decode cX6_leastIn 81 = .ok (.areturn, 1) := by decide +kernel
theorem dX6_lastBegin_0 : decode cX6_lastBegin 0 = .ok (.aload_n 0, 1) := by decide +kernel
theorem dX6_lastBegin_1 : decode cX6_lastBegin 1 = .ok (.invokevirtual 67, 3) := by decide +kernel
theorem dX6_lastBegin_4 : decode cX6_lastBegin 4 = .ok (.pop, 1) := by decide +kernel
theorem dX6_lastBegin_5 : decode cX6_lastBegin 5 = .ok (.iload_n 1, 1) := by decide +kernel
theorem dX6_lastBegin_6 : decode cX6_lastBegin 6 = .ok (.invokestatic 108, 3) := by decide +kernel
theorem dX6_lastBegin_9 : decode cX6_lastBegin 9 = .ok (.ifCond .eq 19, 3) := by decide +kernel
theorem dX6_lastBegin_12 : decode cX6_lastBegin 12 = .ok (.iload_n 2, 1) := by decide +kernel
theorem dX6_lastBegin_13 : decode cX6_lastBegin 13 = .ok (.iconst 1, 1) := by decide +kernel
theorem dX6_lastBegin_14 : decode cX6_lastBegin 14 = .ok (.if_icmp .lt 14, 3) := by decide +kernel
theorem dX6_lastBegin_17 : decode cX6_lastBegin 17 = .ok (.iload_n 2, 1) := by decide +kernel
theorem dX6_lastBegin_18 : decode cX6_lastBegin 18 = .ok (.aload_n 0, 1) := by decide +kernel
theorem dX6_lastBegin_19 : decode cX6_lastBegin 19 = .ok (.getfield 12, 3) := by decide +kernel
theorem dX6_lastBegin_22 : decode cX6_lastBegin 22 = .ok (.getfield 71, 3) := by decide +kernel
theorem dX6_lastBegin_25 : decode cX6_lastBegin 25 = .ok (.if_icmp .le 6, 3) := by decide +kernel
theorem dX6_lastBegin_28 : decode cX6_lastBegin 28 = .ok (.bipush (-9), 2) := by decide +kernel
theorem dX6_lastBegin_30 : decode cX6_lastBegin 30 = .ok (.ireturn, 1) := by decide +kernel
theorem dX6_lastBegin_31 : decode cX6_lastBegin 31 = .ok (.aload_n 0, 1) := by decide +kernel
theorem dX6_lastBegin_32 : decode cX6_lastBegin 32 = .ok (.getfield 60, 3) := by decide +kernel
theorem dX6_lastBegin_35 : decode cX6_lastBegin 35 = .ok (.ifCond .ne 19, 3) := by decide +kernel
theorem dX6_lastBegin_38 : decode cX6_lastBegin 38 = .ok (.aload_n 0, 1) := by decide +kernel
theorem dX6_lastBegin_39 : decode cX6_lastBegin 39 = .ok (.getfield 31, 3) := by decide +kernel
theorem dX6_lastBegin_42 : decode cX6_lastBegin 42 = .ok (.aload_n 0, 1) := by decide +kernel
theorem dX6_lastBegin_43 : decode cX6_lastBegin 43 = .ok (.getfield 12, 3) := by decide +kernel
theorem dX6_lastBegin_46 : decode cX6_lastBegin 46 = .ok (.invokevirtual 112, 3) := by decide +kernel
theorem dX6_lastBegin_49 : decode cX6_lastBegin 49 = .ok (.aload_n 0, 1) := by decide +kernel
theorem dX6_lastBegin_50 : decode cX6_lastBegin 50 = .ok (.iconst 1, 1) := by decide +kernel
theorem dX6_lastBegin_51 : decode cX6_lastBegin 51 = .ok (.putfield 60, 3) := by decide +kernel
theorem dX6_lastBegin_54 : decode cX6_lastBegin 54 = .ok (.aload_n 0, 1) := by decide +kernel
theorem dX6_lastBegin_55 : decode cX6_lastBegin 55 = .ok (.getfield 31, 3) := by decide +kernel
theorem dX6_lastBegin_58 : decode cX6_lastBegin 58 = .ok (.getfield 115, 3) := by decide +kernel
theorem dX6_lastBegin_61 : decode cX6_lastBegin 61 = .ok (.iload_n 1, 1) := by decide +kernel
theorem dX6_lastBegin_62 : decode cX6_lastBegin 62 = .ok (.aaload, 1) := by decide +kernel
theorem dX6_lastBegin_63 : decode cX6_lastBegin 63 = .ok (.iload_n 2, 1) := by decide +kernel
theorem dX6_lastBegin_64 : decode cX6_lastBegin 64 = .ok (.iaload, 1) := by decide +kernel
theorem dX6_lastBegin_65 : decode cX6_lastBegin 65 = .ok (.ireturn, 1) := by decide +kernel
theorem dX7_init_0 : decode cX7_init 0 = .ok (.aload_n 0, 1) := by decide +kernel
theorem dX7_init_1 : decode cX7_init 1 = .ok (.invokespecial 3, 3) := by decide +kernel
theorem dX7_init_4 : decode cX7_init 4 = .ok (.aload_n 0, 1) := by decide +kernel
theorem dX7_init_5 : decode cX7_init 5 = .ok (.bipush 7, 2) := by decide +kernel
theorem dX7_init_7 : decode cX7_init 7 = .ok (.bipush 25, 2) := by decide +kernel
theorem dX7_init_9 : decode cX7_init 9 = .ok (.multianewarray 9 2, 4) := by decide +kernel
theorem dX7_init_13 : decode cX7_init 13 = .ok (.putfield 11, 3) := by decide +kernel
theorem dX7_init_16 : decode cX7_init 16 = .ok (.aload_n 0, 1) := by decide +kernel
theorem dX7_init_17 : decode cX7_init 17 = .ok (.bipush 7, 2) := by decide +kernel
theorem dX7_init_19 : decode cX7_init 19 = .ok (.bipush 25, 2) := by decide +kernel
theorem dX7_init_21 : decode cX7_init 21 = .ok (.multianewarray 16 2, 4) := by decide +kernel
theorem dX7_init_25 : decode cX7_init 25 = .ok (.putfield 18, 3) := by decide +kernel
theorem dX7_init_28 : decode cX7_init 28 = .ok (.aload_n 0, 1) := by decide +kernel
theorem dX7_init_29 : decode cX7_init 29 = .ok (.bipush 25, 2) := by decide +kernel
theorem dX7_init_31 : decode cX7_init 31 = .ok (.newarray .long, 2) := by decide +kernel
theorem dX7_init_33 : decode cX7_init 33 = .ok (.putfield 21, 3) := by decide +kernel
theorem dX7_init_36 : decode cX7_init 36 = .ok (.return_, 1) := by decide +kernel
theorem dX7_build_0 : decode cX7_build 0 = .ok (.aload_n 1, 1) := by decide +kernel
theorem dX7_build_1 : decode cX7_build 1 = .ok (.getfield 25, 3) := by decide +kernel
theorem dX7_build_4 : decode cX7_build 4 = .ok (.istore_n 3, 1) := by decide +kernel
theorem dX7_build_5 : decode cX7_build 5 = .ok (.iconst 0, 1) := by decide +kernel
theorem dX7_build_6 : decode cX7_build 6 = .ok (.istore 4, 2) := by decide +kernel
theorem dX7_build_8 : decode cX7_build 8 = .ok (.iload 4, 2) := by decide +kernel
theorem dX7_build_10 : decode cX7_build 10 = .ok (.iload_n 3, 1) := by decide +kernel
theorem dX7_build_11 : decode cX7_build 11 = .ok (.if_icmp .ge 37, 3) := by decide +kernel
theorem dX7_build_14 : decode cX7_build 14 = .ok (.aload_n 0, 1) := by decide +kernel
theorem dX7_build_15 : decode cX7_build 15 = .ok (.getfield 11, 3) := by decide +kernel
theorem dX7_build_18 : decode cX7_build 18 = .ok (.iconst 1, 1) := by decide +kernel
theorem dX7_build_19 : decode cX7_build 19 = .ok (.aaload, 1) := by decide +kernel
theorem dX7_build_20 : decode cX7_build 20 = .ok (.iload 4, 2) := by decide +kernel
theorem dX7_build_22 : decode cX7_build 22 = .ok (.aload_n 1, 1) := by decide +kernel
theorem dX7_build_23 : decode cX7_build 23 = .ok (.getfield 31, 3) := by decide +kernel
theorem dX7_build_26 : decode cX7_build 26 = .ok (.iload 4, 2) := by decide +kernel
theorem dX7_build_28 : decode cX7_build 28 = .ok (.aaload, 1) := by decide +kernel
theorem dX7_build_29 : decode cX7_build 29 = .ok (.iload_n 3, 1) := by decide +kernel
theorem dX7_build_30 : decode cX7_build 30 = .ok (.laload, 1) := by decide +kernel
theorem dX7_build_31 : decode cX7_build 31 = .ok (.lastore, 1) := by decide +kernel
theorem dX7_build_32 : decode cX7_build 32 = .ok (.aload_n 0, 1) := by decide +kernel
theorem dX7_build_33 : decode cX7_build 33 = .ok (.getfield 18, 3) := by decide +kernel
theorem dX7_build_36 : decode cX7_build 36 = .ok (.iconst 1, 1) := by decide +kernel
theorem dX7_build_37 : decode cX7_build 37 = .ok (.aaload, 1) := by decide +kernel
theorem dX7_build_38 : decode cX7_build 38 = .ok (.iload 4, 2) := by decide +kernel
theorem dX7_build_40 : decode cX7_build 40 = .ok (.iload_n 3, 1) := by decide +kernel
theorem dX7_build_41 : decode cX7_build 41 = .ok (.iastore, 1) := by decide +kernel
theorem dX7_build_42 : decode cX7_build 42 = .ok (.iinc 4 1, 3) := by decide +kernel
theorem dX7_build_45 : decode cX7_build 45 = .ok (.goto (-37), 3) := by decide +kernel
theorem dX7_build_48 : decode cX7_build 48 = .ok (.iconst 2, 1) := by decide +kernel
theorem dX7_build_49 : decode cX7_build 49 = .ok (.istore 4, 2) := by decide +kernel
theorem dX7_build_51 : decode cX7_build 51 = .ok (.iload 4, 2) := by decide +kernel
theorem dX7_build_53 : decode cX7_build 53 = .ok (.iload_n 2, 1) := by decide +kernel
theorem dX7_build_54 : decode cX7_build 54 = .ok (.if_icmp .gt 43, 3) := by decide +kernel
theorem dX7_build_57 : decode cX7_build 57 = .ok (.iload 4, 2) := by decide +kernel
theorem dX7_build_59 : decode cX7_build 59 = .ok (.bipush 6, 2) := by decide +kernel
theorem dX7_build_61 : decode cX7_build 61 = .ok (.if_icmp .gt 36, 3) := by decide +kernel
theorem dX7_build_64 : decode cX7_build 64 = .ok (.iconst 0, 1) := by decide +kernel
theorem dX7_build_65 : decode cX7_build 65 = .ok (.istore 5, 2) := by decide +kernel
theorem dX7_build_67 : decode cX7_build 67 = .ok (.iload 5, 2) := by decide +kernel
theorem dX7_build_69 : decode cX7_build 69 = .ok (.iload 4, 2) := by decide +kernel
theorem dX7_build_71 : decode cX7_build 71 = .ok (.iadd, 1) := by decide +kernel
theorem dX7_build_72 : decode cX7_build 72 = .ok (.iload_n 3, 1) := by decide +kernel
theorem dX7_build_73 : decode cX7_build 73 = .ok (.if_icmp .gt 18, 3) := by decide +kernel
theorem dX7_build_76 : decode cX7_build 76 = .ok (.aload_n 0, 1) := by decide +kernel
theorem dX7_build_77 : decode cX7_build 77 = .ok (.aload_n 1, 1) := by decide +kernel
theorem dX7_build_78 : decode cX7_build 78 = .ok (.iload 4, 2) := by decide +kernel
theorem dX7_build_80 : decode cX7_build 80 = .ok (.iload 5, 2) := by decide +kernel
theorem dX7_build_82 : decode cX7_build 82 = .ok (.invokevirtual 34, 3) := by decide +kernel
theorem dX7_build_85 : decode cX7_build 85 = .ok (.iinc 5 1, 3) := by decide +kernel
theorem dX7_build_88 : decode cX7_build 88 = .ok (.goto (-21), 3) := by decide +kernel
theorem dX7_build_91 : decode cX7_build 91 = .ok (.iinc 4 1, 3) := by decide +kernel
theorem dX7_build_94 : decode cX7_build 94 = .ok (.goto (-43), 3) := by decide +kernel
theorem dX7_build_97 : decode cX7_build 97 = .ok (.return_, 1) := by decide +kernel
theorem dX7_choose_0 : decode cX7_choose 0 = .ok (.ldc2_w 40, 3) := by decide +kernel
theorem dX7_choose_3 : decode cX7_choose 3 = .ok (.lstore 4, 2) := by decide +kernel
theorem dX7_choose_5 : decode cX7_choose 5 = .ok (.iload_n 3, 1) := by decide +kernel
theorem dX7_choose_6 : decode cX7_choose 6 = .ok (.iconst 1, 1) := by decide +kernel
theorem dX7_choose_7 : decode cX7_choose 7 = .ok (.iadd, 1) := by decide +kernel
theorem dX7_choose_8 : decode cX7_choose 8 = .ok (.istore 6, 2) := by decide +kernel
theorem dX7_choose_10 : decode cX7_choose 10 = .ok (.iload_n 3, 1) := by decide +kernel
theorem dX7_choose_11 : decode cX7_choose 11 = .ok (.iconst 1, 1) := by decide +kernel
theorem dX7_choose_12 : decode cX7_choose 12 = .ok (.iadd, 1) := by decide +kernel
theorem dX7_choose_13 : decode cX7_choose 13 = .ok (.istore 7, 2) := by decide +kernel
theorem dX7_choose_15 : decode cX7_choose 15 = .ok (.iload 7, 2) := by decide +kernel
theorem dX7_choose_17 : decode cX7_choose 17 = .ok (.iload_n 2, 1) := by decide +kernel
theorem dX7_choose_18 : decode cX7_choose 18 = .ok (.iadd, 1) := by decide +kernel
theorem dX7_choose_19 : decode cX7_choose 19 = .ok (.iconst 1, 1) := by decide +kernel
theorem dX7_choose_20 : decode cX7_choose 20 = .ok (.isub, 1) := by decide +kernel
theorem dX7_choose_21 : decode cX7_choose 21 = .ok (.aload_n 1, 1) := by decide +kernel
theorem dX7_choose_22 : decode cX7_choose 22 = .ok (.getfield 25, 3) := by decide +kernel
theorem dX7_choose_25 : decode cX7_choose 25 = .ok (.if_icmp .gt 56, 3) := by decide +kernel
theorem dX7_choose_28 : decode cX7_choose 28 = .ok (.aload_n 1, 1) := by decide +kernel
theorem dX7_choose_29 : decode cX7_choose 29 = .ok (.getfield 31, 3) := by decide +kernel
theorem dX7_choose_32 : decode cX7_choose 32 = .ok (.iload_n 3, 1) := by decide +kernel
theorem dX7_choose_33 : decode cX7_choose 33 = .ok (.aaload, 1) := by decide +kernel
theorem dX7_choose_34 : decode cX7_choose 34 = .ok (.iload 7, 2) := by decide +kernel
theorem dX7_choose_36 : decode cX7_choose 36 = .ok (.laload, 1) := by decide +kernel
theorem dX7_choose_37 : decode cX7_choose 37 = .ok (.aload_n 0, 1) := by decide +kernel
theorem dX7_choose_38 : decode cX7_choose 38 = .ok (.getfield 21, 3) := by decide +kernel
theorem dX7_choose_41 : decode cX7_choose 41 = .ok (.iload 7, 2) := by decide +kernel
theorem dX7_choose_43 : decode cX7_choose 43 = .ok (.laload, 1) := by decide +kernel
theorem dX7_choose_44 : decode cX7_choose 44 = .ok (.ladd, 1) := by decide +kernel
theorem dX7_choose_45 : decode cX7_choose 45 = .ok (.aload_n 0, 1) := by decide +kernel
theorem dX7_choose_46 : decode cX7_choose 46 = .ok (.getfield 11, 3) := by decide +kernel
theorem dX7_choose_49 : decode cX7_choose 49 = .ok (.iload_n 2, 1) := by decide +kernel
theorem dX7_choose_50 : decode cX7_choose 50 = .ok (.iconst 1, 1) := by decide +kernel
theorem dX7_choose_51 : decode cX7_choose 51 = .ok (.isub, 1) := by decide +kernel
theorem dX7_choose_52 : decode cX7_choose 52 = .ok (.aaload, 1) := by decide +kernel
theorem dX7_choose_53 : decode cX7_choose 53 = .ok (.iload 7, 2) := by decide +kernel
theorem dX7_choose_55 : decode cX7_choose 55 = .ok (.laload, 1) := by decide +kernel
theorem dX7_choose_56 : decode cX7_choose 56 = .ok (.ladd, 1) := by decide +kernel
theorem dX7_choose_57 : decode cX7_choose 57 = .ok (.lstore 8, 2) := by decide +kernel
theorem dX7_choose_59 : decode cX7_choose 59 = .ok (.lload 8, 2) := by decide +kernel
theorem dX7_choose_61 : decode cX7_choose 61 = .ok (.lload 4, 2) := by decide +kernel
theorem dX7_choose_63 : decode cX7_choose 63 = .ok (.lcmp, 1) := by decide +kernel
theorem dX7_choose_64 : decode cX7_choose 64 = .ok (.ifCond .ge 11, 3) := by decide +kernel
theorem dX7_choose_67 : decode cX7_choose 67 = .ok (.lload 8, 2) := by decide +kernel
theorem dX7_choose_69 : decode cX7_choose 69 = .ok (.lstore 4, 2) := by decide +kernel
theorem dX7_choose_71 : decode cX7_choose 71 = .ok (.iload 7, 2) := by decide +kernel
theorem dX7_choose_73 : decode cX7_choose 73 = .ok (.istore 6, 2) := by decide +kernel
theorem dX7_choose_75 : decode cX7_choose 75 = .ok (.iinc 7 1, 3) := by decide +kernel
theorem dX7_choose_78 : decode cX7_choose 78 = .ok (.goto (-63), 3) := by decide +kernel
theorem dX7_choose_81 : decode cX7_choose 81 = .ok (.aload_n 0, 1) := by decide +kernel
theorem dX7_choose_82 : decode cX7_choose 82 = .ok (.getfield 11, 3) := by decide +kernel
theorem dX7_choose_85 : decode cX7_choose 85 = .ok (.iload_n 2, 1) := by decide +kernel
theorem dX7_choose_86 : decode cX7_choose 86 = .ok (.aaload, 1) := by decide +kernel
theorem dX7_choose_87 : decode cX7_choose 87 = .ok (.iload_n 3, 1) := by decide +kernel
theorem dX7_choose_88 : decode cX7_choose 88 = .ok (.lload 4, 2) := by decide +kernel
theorem dX7_choose_90 : decode cX7_choose 90 = .ok (.lastore, 1) := by decide +kernel
theorem dX7_choose_91 : decode cX7_choose 91 = .ok (.aload_n 0, 1) := by decide +kernel
theorem dX7_choose_92 : decode cX7_choose 92 = .ok (.getfield 18, 3) := by decide +kernel
theorem dX7_choose_95 : decode cX7_choose 95 = .ok (.iload_n 2, 1) := by decide +kernel
theorem dX7_choose_96 : decode cX7_choose 96 = .ok (.aaload, 1) := by decide +kernel
theorem dX7_choose_97 : decode cX7_choose 97 = .ok (.iload_n 3, 1) := by decide +kernel
theorem dX7_choose_98 : decode cX7_choose 98 = .ok (.iload 6, 2) := by decide +kernel
theorem dX7_choose_100 : decode cX7_choose 100 = .ok (.iastore, 1) := by decide +kernel
theorem dX7_choose_101 : decode cX7_choose 101 = .ok (.return_, 1) := by decide +kernel
theorem dX7_follow_0 : decode cX7_follow 0 = .ok (.iload_n 2, 1) := by decide +kernel
theorem dX7_follow_1 : decode cX7_follow 1 = .ok (.aload_n 1, 1) := by decide +kernel
theorem dX7_follow_2 : decode cX7_follow 2 = .ok (.getfield 25, 3) := by decide +kernel
theorem dX7_follow_5 : decode cX7_follow 5 = .ok (.invokestatic 42, 3) := by decide +kernel
theorem dX7_follow_8 : decode cX7_follow 8 = .ok (.istore 4, 2) := by decide +kernel
theorem dX7_follow_10 : decode cX7_follow 10 = .ok (.aload_n 3, 1) := by decide +kernel
theorem dX7_follow_11 : decode cX7_follow 11 = .ok (.iload 4, 2) := by decide +kernel
theorem dX7_follow_13 : decode cX7_follow 13 = .ok (.putfield 48, 3) := by decide +kernel
theorem dX7_follow_16 : decode cX7_follow 16 = .ok (.aload_n 3, 1) := by decide +kernel
theorem dX7_follow_17 : decode cX7_follow 17 = .ok (.lconst 0, 1) := by decide +kernel
theorem dX7_follow_18 : decode cX7_follow 18 = .ok (.putfield 53, 3) := by decide +kernel
theorem dX7_follow_21 : decode cX7_follow 21 = .ok (.iconst 0, 1) := by decide +kernel
theorem dX7_follow_22 : decode cX7_follow 22 = .ok (.istore 5, 2) := by decide +kernel
theorem dX7_follow_24 : decode cX7_follow 24 = .ok (.iconst 0, 1) := by decide +kernel
theorem dX7_follow_25 : decode cX7_follow 25 = .ok (.istore 6, 2) := by decide +kernel
theorem dX7_follow_27 : decode cX7_follow 27 = .ok (.iload 6, 2) := by decide +kernel
theorem dX7_follow_29 : decode cX7_follow 29 = .ok (.iload 4, 2) := by decide +kernel
theorem dX7_follow_31 : decode cX7_follow 31 = .ok (.if_icmp .ge 72, 3) := by decide +kernel
theorem dX7_follow_34 : decode cX7_follow 34 = .ok (.iload 6, 2) := by decide +kernel
theorem dX7_follow_36 : decode cX7_follow 36 = .ok (.bipush 6, 2) := by decide +kernel
theorem dX7_follow_38 : decode cX7_follow 38 = .ok (.if_icmp .ge 65, 3) := by decide +kernel
theorem dX7_follow_41 : decode cX7_follow 41 = .ok (.iload 5, 2) := by decide +kernel
theorem dX7_follow_43 : decode cX7_follow 43 = .ok (.aload_n 1, 1) := by decide +kernel
theorem dX7_follow_44 : decode cX7_follow 44 = .ok (.getfield 25, 3) := by decide +kernel
theorem dX7_follow_47 : decode cX7_follow 47 = .ok (.if_icmp .ge 56, 3) := by decide +kernel
theorem dX7_follow_50 : decode cX7_follow 50 = .ok (.aload_n 0, 1) := by decide +kernel
theorem dX7_follow_51 : decode cX7_follow 51 = .ok (.getfield 18, 3) := by decide +kernel
theorem dX7_follow_54 : decode cX7_follow 54 = .ok (.iload 4, 2) := by decide +kernel
theorem dX7_follow_56 : decode cX7_follow 56 = .ok (.iload 6, 2) := by decide +kernel
theorem dX7_follow_58 : decode cX7_follow 58 = .ok (.isub, 1) := by decide +kernel
theorem dX7_follow_59 : decode cX7_follow 59 = .ok (.aaload, 1) := by decide +kernel
theorem dX7_follow_60 : decode cX7_follow 60 = .ok (.iload 5, 2) := by decide +kernel
theorem dX7_follow_62 : decode cX7_follow 62 = .ok (.iaload, 1) := by decide +kernel
theorem dX7_follow_63 : decode cX7_follow 63 = .ok (.istore 7, 2) := by decide +kernel
theorem dX7_follow_65 : decode cX7_follow 65 = .ok (.aload_n 3, 1) := by decide +kernel
theorem dX7_follow_66 : decode cX7_follow 66 = .ok (.getfield 57, 3) := by decide +kernel
theorem dX7_follow_69 : decode cX7_follow 69 = .ok (.iload 6, 2) := by decide +kernel
theorem dX7_follow_71 : decode cX7_follow 71 = .ok (.iload 5, 2) := by decide +kernel
theorem dX7_follow_73 : decode cX7_follow 73 = .ok (.iastore, 1) := by decide +kernel
theorem dX7_follow_74 : decode cX7_follow 74 = .ok (.aload_n 3, 1) := by decide +kernel
theorem dX7_follow_75 : decode cX7_follow 75 = .ok (.dup, 1) := by decide +kernel
theorem dX7_follow_76 : decode cX7_follow 76 = .ok (.getfield 53, 3) := by decide +kernel
theorem dX7_follow_79 : decode cX7_follow 79 = .ok (.aload_n 1, 1) := by decide +kernel
theorem dX7_follow_80 : decode cX7_follow 80 = .ok (.getfield 31, 3) := by decide +kernel
theorem dX7_follow_83 : decode cX7_follow 83 = .ok (.iload 5, 2) := by decide +kernel
theorem dX7_follow_85 : decode cX7_follow 85 = .ok (.aaload, 1) := by decide +kernel
theorem dX7_follow_86 : decode cX7_follow 86 = .ok (.iload 7, 2) := by decide +kernel
theorem dX7_follow_88 : decode cX7_follow 88 = .ok (.laload, 1) := by decide +kernel
theorem dX7_follow_89 : decode cX7_follow 89 = .ok (.ladd, 1) := by decide +kernel
theorem dX7_follow_90 : decode cX7_follow 90 = .ok (.putfield 53, 3) := by decide +kernel
theorem dX7_follow_93 : decode cX7_follow 93 = .ok (.iload 7, 2) := by decide +kernel
theorem dX7_follow_95 : decode cX7_follow 95 = .ok (.istore 5, 2) := by decide +kernel
theorem dX7_follow_97 : decode cX7_follow 97 = .ok (.iinc 6 1, 3) := by decide +kernel
theorem dX7_follow_100 : decode cX7_follow 100 = .ok (.goto (-73), 3) := by decide +kernel
theorem dX7_follow_103 : decode cX7_follow 103 = .ok (.return_, 1) := by decide +kernel
theorem dX8_init_0 : decode cX8_init 0 = .ok (.aload_n 0, 1) := by decide +kernel
theorem dX8_init_1 : decode cX8_init 1 = .ok (.invokespecial 1, 3) := by decide +kernel
theorem dX8_init_4 : decode cX8_init 4 = .ok (.aload_n 0, 1) := by decide +kernel
theorem dX8_init_5 : decode cX8_init 5 = .ok (.new 7, 3) := by decide +kernel
theorem dX8_init_8 : decode cX8_init 8 = .ok (.dup, 1) := by decide +kernel
theorem dX8_init_9 : decode cX8_init 9 = .ok (.invokespecial 9, 3) := by decide +kernel
theorem dX8_init_12 : decode cX8_init 12 = .ok (.putfield 10, 3) := by decide +kernel
theorem dX8_init_15 : decode cX8_init 15 = .ok (.aload_n 0, 1) := by decide +kernel
theorem dX8_init_16 : decode cX8_init 16 = .ok (.new 16, 3) := by decide +kernel
theorem dX8_init_19 : decode cX8_init 19 = .ok (.dup, 1) := by decide +kernel
theorem dX8_init_20 : decode cX8_init 20 = .ok (.invokespecial 18, 3) := by decide +kernel
theorem dX8_init_23 : decode cX8_init 23 = .ok (.putfield 19, 3) := by decide +kernel
theorem dX8_init_26 : decode cX8_init 26 = .ok (.aload_n 0, 1) := by decide +kernel
theorem dX8_init_27 : decode cX8_init 27 = .ok (.iconst 2, 1) := by decide +kernel
theorem dX8_init_28 : decode cX8_init 28 = .ok (.anewarray 7, 3) := by decide +kernel
theorem dX8_init_31 : decode cX8_init 31 = .ok (.putfield 23, 3) := by decide +kernel
theorem dX8_init_34 : decode cX8_init 34 = .ok (.iconst 0, 1) := by decide +kernel
theorem dX8_init_35 : decode cX8_init 35 = .ok (.istore_n 1, 1) := by decide +kernel
theorem dX8_init_36 : decode cX8_init 36 = .ok (.iload_n 1, 1) := by decide +kernel
theorem dX8_init_37 : decode cX8_init 37 = .ok (.iconst 2, 1) := by decide +kernel
theorem dX8_init_38 : decode cX8_init 38 = .ok (.if_icmp .ge 22, 3) := by decide +kernel
theorem dX8_init_41 : decode cX8_init 41 = .ok (.aload_n 0, 1) := by decide +kernel
theorem dX8_init_42 : decode cX8_init 42 = .ok (.getfield 23, 3) := by decide +kernel
theorem dX8_init_45 : decode cX8_init 45 = .ok (.iload_n 1, 1) := by decide +kernel
theorem dX8_init_46 : decode cX8_init 46 = .ok (.new 7, 3) := by decide +kernel
theorem dX8_init_49 : decode cX8_init 49 = .ok (.dup, 1) := by decide +kernel
theorem dX8_init_50 : decode cX8_init 50 = .ok (.invokespecial 9, 3) := by decide +kernel
theorem dX8_init_53 : decode cX8_init 53 = .ok (.aastore, 1) := by decide +kernel
theorem dX8_init_54 : decode cX8_init 54 = .ok (.iinc 1 1, 3) := by decide +kernel
theorem dX8_init_57 : decode cX8_init 57 = .ok (.goto (-21), 3) := by decide +kernel
theorem dX8_init_60 : decode cX8_init 60 = .ok (.aload_n 0, 1) := by decide +kernel
theorem dX8_init_61 : decode cX8_init 61 = .ok (.iconst 2, 1) := by decide +kernel
theorem dX8_init_62 : decode cX8_init 62 = .ok (.newarray .boolean, 2) := by decide +kernel
theorem dX8_init_64 : decode cX8_init 64 = .ok (.putfield 27, 3) := by decide +kernel
theorem dX8_init_67 : decode cX8_init 67 = .ok (.aload_n 0, 1) := by decide +kernel
theorem dX8_init_68 : decode cX8_init 68 = .ok (.new 31, 3) := by decide +kernel
theorem dX8_init_71 : decode cX8_init 71 = .ok (.dup, 1) := by decide +kernel
theorem dX8_init_72 : decode cX8_init 72 = .ok (.invokespecial 33, 3) := by decide +kernel
theorem dX8_init_75 : decode cX8_init 75 = .ok (.putfield 34, 3) := by decide +kernel
theorem dX8_init_78 : decode cX8_init 78 = .ok (.aload_n 0, 1) := by decide +kernel
theorem dX8_init_79 : decode cX8_init 79 = .ok (.new 38, 3) := by decide +kernel
theorem dX8_init_82 : decode cX8_init 82 = .ok (.dup, 1) := by decide +kernel
theorem dX8_init_83 : decode cX8_init 83 = .ok (.aload_n 0, 1) := by decide +kernel
theorem dX8_init_84 : decode cX8_init 84 = .ok (.getfield 10, 3) := by decide +kernel
theorem dX8_init_87 : decode cX8_init 87 = .ok (.invokespecial 40, 3) := by decide +kernel
theorem dX8_init_90 : decode cX8_init 90 = .ok (.putfield 43, 3) := by decide +kernel
theorem dX8_init_93 : decode cX8_init 93 = .ok (.return_, 1) := by decide +kernel
theorem dX8_type_0 : decode cX8_type 0 = .ok (.iload_n 1, 1) := by decide +kernel
theorem dX8_type_1 : decode cX8_type 1 = .ok (.ifCond .lt 10, 3) := by decide +kernel
theorem dX8_type_4 : decode cX8_type 4 = .ok (.iload_n 1, 1) := by decide +kernel
theorem dX8_type_5 : decode cX8_type 5 = .ok (.sipush 255, 3) := by decide +kernel
theorem dX8_type_8 : decode cX8_type 8 = .ok (.if_icmp .le 5, 3) := by decide +kernel
theorem dX8_type_11 : decode cX8_type 11 = .ok (.iconst (-1), 1) := by decide +kernel
theorem dX8_type_12 : decode cX8_type 12 = .ok (.ireturn, 1) := by decide +kernel
theorem dX8_type_13 : decode cX8_type 13 = .ok (.aload_n 0, 1) := by decide +kernel
theorem dX8_type_14 : decode cX8_type 14 = .ok (.getfield 34, 3) := by decide +kernel
theorem dX8_type_17 : decode cX8_type 17 = .ok (.iload_n 1, 1) := by decide +kernel
theorem dX8_type_18 : decode cX8_type 18 = .ok (.invokevirtual 47, 3) := by decide +kernel
theorem dX8_type_21 : decode cX8_type 21 = .ok (.ifCond .eq 13, 3) := by decide +kernel
theorem dX8_type_24 : decode cX8_type 24 = .ok (.aload_n 0, 1) := by decide +kernel
theorem dX8_type_25 : decode cX8_type 25 = .ok (.getfield 34, 3) := by decide +kernel
theorem dX8_type_28 : decode cX8_type 28 = .ok (.getfield 51, 3) := by decide +kernel
theorem dX8_type_31 : decode cX8_type 31 = .ok (.goto 5, 3) := by decide +kernel
theorem dX8_type_34 : decode cX8_type 34 = .ok (.bipush (-3), 2) := by decide +kernel
theorem dX8_type_36 : decode cX8_type 36 = .ok (.ireturn, 1) := by decide +kernel
theorem dX8_clear_0 : decode cX8_clear 0 = .ok (.aload_n 0, 1) := by decide +kernel
theorem dX8_clear_1 : decode cX8_clear 1 = .ok (.getfield 34, 3) := by decide +kernel
theorem dX8_clear_4 : decode cX8_clear 4 = .ok (.getfield 51, 3) := by decide +kernel
theorem dX8_clear_7 : decode cX8_clear 7 = .ok (.istore_n 1, 1) := by decide +kernel
theorem dX8_clear_8 : decode cX8_clear 8 = .ok (.aload_n 0, 1) := by decide +kernel
theorem dX8_clear_9 : decode cX8_clear 9 = .ok (.getfield 34, 3) := by decide +kernel
theorem dX8_clear_12 : decode cX8_clear 12 = .ok (.iconst 0, 1) := by decide +kernel
theorem dX8_clear_13 : decode cX8_clear 13 = .ok (.putfield 51, 3) := by decide +kernel
theorem dX8_clear_16 : decode cX8_clear 16 = .ok (.iload_n 1, 1) := by decide +kernel
theorem dX8_clear_17 : decode cX8_clear 17 = .ok (.ireturn, 1) := by decide +kernel
theorem dX8_map_0 : decode cX8_map 0 = .ok (.aload_n 0, 1) := by decide +kernel
theorem dX8_map_1 : decode cX8_map 1 = .ok (.getfield 34, 3) := by decide +kernel
theorem dX8_map_4 : decode cX8_map 4 = .ok (.invokevirtual 55, 3) := by decide +kernel
theorem dX8_map_7 : decode cX8_map 7 = .ok (.istore_n 1, 1) := by decide +kernel
theorem dX8_map_8 : decode cX8_map 8 = .ok (.iload_n 1, 1) := by decide +kernel
theorem dX8_map_9 : decode cX8_map 9 = .ok (.ifCond .ge 5, 3) := by decide +kernel
theorem dX8_map_12 : decode cX8_map 12 = .ok (.iload_n 1, 1) := by decide +kernel
theorem dX8_map_13 : decode cX8_map 13 = .ok (.ireturn, 1) := by decide +kernel
theorem dX8_map_14 : decode cX8_map 14 = .ok (.aload_n 0, 1) := by decide +kernel
theorem dX8_map_15 : decode cX8_map 15 = .ok (.getfield 10, 3) := by decide +kernel
theorem dX8_map_18 : decode cX8_map 18 = .ok (.aload_n 0, 1) := by decide +kernel
theorem dX8_map_19 : decode cX8_map 19 = .ok (.getfield 34, 3) := by decide +kernel
theorem dX8_map_22 : decode cX8_map 22 = .ok (.getfield 59, 3) := by decide +kernel
theorem dX8_map_25 : decode cX8_map 25 = .ok (.invokevirtual 60, 3) := by decide +kernel
theorem dX8_map_28 : decode cX8_map 28 = .ok (.aload_n 0, 1) := by decide +kernel
theorem dX8_map_29 : decode cX8_map 29 = .ok (.getfield 34, 3) := by decide +kernel
theorem dX8_map_32 : decode cX8_map 32 = .ok (.iconst 0, 1) := by decide +kernel
theorem dX8_map_33 : decode cX8_map 33 = .ok (.putfield 51, 3) := by decide +kernel
theorem dX8_map_36 : decode cX8_map 36 = .ok (.aload_n 0, 1) := by decide +kernel
theorem dX8_map_37 : decode cX8_map 37 = .ok (.getfield 19, 3) := by decide +kernel
theorem dX8_map_40 : decode cX8_map 40 = .ok (.invokevirtual 63, 3) := by decide +kernel
theorem dX8_map_43 : decode cX8_map 43 = .ok (.iconst 0, 1) := by decide +kernel
theorem dX8_map_44 : decode cX8_map 44 = .ok (.istore_n 2, 1) := by decide +kernel
theorem dX8_map_45 : decode cX8_map 45 = .ok (.iload_n 2, 1) := by decide +kernel
theorem dX8_map_46 : decode cX8_map 46 = .ok (.iconst 2, 1) := by decide +kernel
theorem dX8_map_47 : decode cX8_map 47 = .ok (.if_icmp .ge 16, 3) := by decide +kernel
theorem dX8_map_50 : decode cX8_map 50 = .ok (.aload_n 0, 1) := by decide +kernel
theorem dX8_map_51 : decode cX8_map 51 = .ok (.getfield 27, 3) := by decide +kernel
theorem dX8_map_54 : decode cX8_map 54 = .ok (.iload_n 2, 1) := by decide +kernel
theorem dX8_map_55 : decode cX8_map 55 = .ok (.iconst 0, 1) := by decide +kernel
theorem dX8_map_56 : decode cX8_map 56 = .ok (.bastore, 1) := by decide +kernel
theorem dX8_map_57 : decode cX8_map 57 = .ok (.iinc 2 1, 3) := by decide +kernel
theorem dX8_map_60 : decode cX8_map 60 = .ok (.goto (-15), 3) := by decide +kernel
theorem dX8_map_63 : decode cX8_map 63 = .ok (.aload_n 0, 1) := by decide +kernel
theorem dX8_map_64 : decode cX8_map 64 = .ok (.getfield 43, 3) := by decide +kernel
theorem dX8_map_67 : decode cX8_map 67 = .ok (.invokevirtual 66, 3) := by decide +kernel
theorem dX8_map_70 : decode cX8_map 70 = .ok (.iload_n 1, 1) := by decide +kernel
theorem dX8_map_71 : decode cX8_map 71 = .ok (.ireturn, 1) := by decide +kernel
theorem dX8_puts_0 : decode cX8_puts 0 = .ok (.iload_n 1, 1) := by decide +kernel
theorem dX8_puts_1 : decode cX8_puts 1 = .ok (.iload_n 2, 1) := by decide +kernel
theorem dX8_puts_2 : decode cX8_puts 2 = .ok (.invokestatic 67, 3) := by decide +kernel
theorem dX8_puts_5 : decode cX8_puts 5 = .ok (.istore 4, 2) := by decide +kernel
theorem dX8_puts_7 : decode cX8_puts 7 = .ok (.iload 4, 2) := by decide +kernel
theorem dX8_puts_9 : decode cX8_puts 9 = .ok (.ifCond .lt 14, 3) := by decide +kernel
theorem dX8_puts_12 : decode cX8_puts 12 = .ok (.iload_n 3, 1) := by decide +kernel
theorem dX8_puts_13 : decode cX8_puts 13 = .ok (.ifCond .lt 10, 3) := by decide +kernel
theorem dX8_puts_16 : decode cX8_puts 16 = .ok (.iload_n 3, 1) := by decide +kernel
theorem dX8_puts_17 : decode cX8_puts 17 = .ok (.sipush 999, 3) := by decide +kernel
theorem dX8_puts_20 : decode cX8_puts 20 = .ok (.if_icmp .le 5, 3) := by decide +kernel
theorem dX8_puts_23 : decode cX8_puts 23 = .ok (.iconst (-1), 1) := by decide +kernel
theorem dX8_puts_24 : decode cX8_puts 24 = .ok (.ireturn, 1) := by decide +kernel
theorem dX8_puts_25 : decode cX8_puts 25 = .ok (.aload_n 0, 1) := by decide +kernel
theorem dX8_puts_26 : decode cX8_puts 26 = .ok (.getfield 10, 3) := by decide +kernel
theorem dX8_puts_29 : decode cX8_puts 29 = .ok (.getfield 71, 3) := by decide +kernel
theorem dX8_puts_32 : decode cX8_puts 32 = .ok (.iload 4, 2) := by decide +kernel
theorem dX8_puts_34 : decode cX8_puts 34 = .ok (.iaload, 1) := by decide +kernel
theorem dX8_puts_35 : decode cX8_puts 35 = .ok (.istore 5, 2) := by decide +kernel
theorem dX8_puts_37 : decode cX8_puts 37 = .ok (.iload 5, 2) := by decide +kernel
theorem dX8_puts_39 : decode cX8_puts 39 = .ok (.iconst (-1), 1) := by decide +kernel
theorem dX8_puts_40 : decode cX8_puts 40 = .ok (.if_icmp .ne 18, 3) := by decide +kernel
theorem dX8_puts_43 : decode cX8_puts 43 = .ok (.aload_n 0, 1) := by decide +kernel
theorem dX8_puts_44 : decode cX8_puts 44 = .ok (.getfield 10, 3) := by decide +kernel
theorem dX8_puts_47 : decode cX8_puts 47 = .ok (.invokevirtual 75, 3) := by decide +kernel
theorem dX8_puts_50 : decode cX8_puts 50 = .ok (.bipush 24, 2) := by decide +kernel
theorem dX8_puts_52 : decode cX8_puts 52 = .ok (.if_icmp .lt 6, 3) := by decide +kernel
theorem dX8_puts_55 : decode cX8_puts 55 = .ok (.bipush (-3), 2) := by decide +kernel
theorem dX8_puts_57 : decode cX8_puts 57 = .ok (.ireturn, 1) := by decide +kernel
theorem dX8_puts_58 : decode cX8_puts 58 = .ok (.aload_n 0, 1) := by decide +kernel
theorem dX8_puts_59 : decode cX8_puts 59 = .ok (.invokevirtual 78, 3) := by decide +kernel
theorem dX8_puts_62 : decode cX8_puts 62 = .ok (.aload_n 0, 1) := by decide +kernel
theorem dX8_puts_63 : decode cX8_puts 63 = .ok (.getfield 10, 3) := by decide +kernel
theorem dX8_puts_66 : decode cX8_puts 66 = .ok (.getfield 71, 3) := by decide +kernel
theorem dX8_puts_69 : decode cX8_puts 69 = .ok (.iload 4, 2) := by decide +kernel
theorem dX8_puts_71 : decode cX8_puts 71 = .ok (.iload_n 3, 1) := by decide +kernel
theorem dX8_puts_72 : decode cX8_puts 72 = .ok (.iastore, 1) := by decide +kernel
theorem dX8_puts_73 : decode cX8_puts 73 = .ok (.iload 5, 2) := by decide +kernel
theorem dX8_puts_75 : decode cX8_puts 75 = .ok (.iconst (-1), 1) := by decide +kernel
theorem dX8_puts_76 : decode cX8_puts 76 = .ok (.if_icmp .ne 8, 3) := by decide +kernel
theorem dX8_puts_79 : decode cX8_puts 79 = .ok (.bipush (-9), 2) := by decide +kernel
theorem dX8_puts_81 : decode cX8_puts 81 = .ok (.goto 5, 3) := by decide +kernel
theorem dX8_puts_84 : decode cX8_puts 84 = .ok (.iload 5, 2) := by decide +kernel
theorem dX8_puts_86 : decode cX8_puts 86 = .ok (.ireturn, 1) := by decide +kernel
theorem dX8_drops_0 : decode cX8_drops 0 = .ok (.iload_n 1, 1) := by decide +kernel
theorem dX8_drops_1 : decode cX8_drops 1 = .ok (.iload_n 2, 1) := by decide +kernel
theorem dX8_drops_2 : decode cX8_drops 2 = .ok (.invokestatic 67, 3) := by decide +kernel
theorem dX8_drops_5 : decode cX8_drops 5 = .ok (.istore_n 3, 1) := by decide +kernel
theorem dX8_drops_6 : decode cX8_drops 6 = .ok (.iload_n 3, 1) := by decide +kernel
theorem dX8_drops_7 : decode cX8_drops 7 = .ok (.ifCond .ge 5, 3) := by decide +kernel
theorem dX8_drops_10 : decode cX8_drops 10 = .ok (.iconst (-1), 1) := by decide +kernel
theorem dX8_drops_11 : decode cX8_drops 11 = .ok (.ireturn, 1) := by decide +kernel
theorem dX8_drops_12 : decode cX8_drops 12 = .ok (.aload_n 0, 1) := by decide +kernel
theorem dX8_drops_13 : decode cX8_drops 13 = .ok (.getfield 10, 3) := by decide +kernel
theorem dX8_drops_16 : decode cX8_drops 16 = .ok (.getfield 71, 3) := by decide +kernel
theorem dX8_drops_19 : decode cX8_drops 19 = .ok (.iload_n 3, 1) := by decide +kernel
theorem dX8_drops_20 : decode cX8_drops 20 = .ok (.iaload, 1) := by decide +kernel
theorem dX8_drops_21 : decode cX8_drops 21 = .ok (.istore 4, 2) := by decide +kernel
theorem dX8_drops_23 : decode cX8_drops 23 = .ok (.iload 4, 2) := by decide +kernel
theorem dX8_drops_25 : decode cX8_drops 25 = .ok (.iconst (-1), 1) := by decide +kernel
theorem dX8_drops_26 : decode cX8_drops 26 = .ok (.if_icmp .ne 6, 3) := by decide +kernel
theorem dX8_drops_29 : decode cX8_drops 29 = .ok (.bipush (-2), 2) := by decide +kernel
theorem dX8_drops_31 : decode cX8_drops 31 = .ok (.ireturn, 1) := by decide +kernel
theorem dX8_drops_32 : decode cX8_drops 32 = .ok (.aload_n 0, 1) := by decide +kernel
theorem dX8_drops_33 : decode cX8_drops 33 = .ok (.invokevirtual 78, 3) := by decide +kernel
theorem dX8_drops_36 : decode cX8_drops 36 = .ok (.aload_n 0, 1) := by decide +kernel
theorem dX8_drops_37 : decode cX8_drops 37 = .ok (.getfield 10, 3) := by decide +kernel
theorem dX8_drops_40 : decode cX8_drops 40 = .ok (.getfield 71, 3) := by decide +kernel
theorem dX8_drops_43 : decode cX8_drops 43 = .ok (.iload_n 3, 1) := by decide +kernel
theorem dX8_drops_44 : decode cX8_drops 44 = .ok (.iconst (-1), 1) := by decide +kernel
theorem dX8_drops_45 : decode cX8_drops 45 = .ok (.iastore, 1) := by decide +kernel
theorem dX8_drops_46 : decode cX8_drops 46 = .ok (.iload 4, 2) := by decide +kernel
theorem dX8_drops_48 : decode cX8_drops 48 = .ok (.ireturn, 1) := by decide +kernel
theorem dX8_asks_0 : decode cX8_asks 0 = .ok (.iload_n 1, 1) := by decide +kernel
theorem dX8_asks_1 : decode cX8_asks 1 = .ok (.invokestatic 81, 3) := by decide +kernel
theorem dX8_asks_4 : decode cX8_asks 4 = .ok (.ifCond .ne 5, 3) := by decide +kernel
theorem dX8_asks_7 : decode cX8_asks 7 = .ok (.iconst (-1), 1) := by decide +kernel
theorem dX8_asks_8 : decode cX8_asks 8 = .ok (.ireturn, 1) := by decide +kernel
theorem dX8_asks_9 : decode cX8_asks 9 = .ok (.aload_n 0, 1) := by decide +kernel
theorem dX8_asks_10 : decode cX8_asks 10 = .ok (.getfield 10, 3) := by decide +kernel
theorem dX8_asks_13 : decode cX8_asks 13 = .ok (.getfield 84, 3) := by decide +kernel
theorem dX8_asks_16 : decode cX8_asks 16 = .ok (.istore_n 2, 1) := by decide +kernel
theorem dX8_asks_17 : decode cX8_asks 17 = .ok (.iload_n 2, 1) := by decide +kernel
theorem dX8_asks_18 : decode cX8_asks 18 = .ok (.iload_n 1, 1) := by decide +kernel
theorem dX8_asks_19 : decode cX8_asks 19 = .ok (.if_icmp .ne 6, 3) := by decide +kernel
theorem dX8_asks_22 : decode cX8_asks 22 = .ok (.bipush (-2), 2) := by decide +kernel
theorem dX8_asks_24 : decode cX8_asks 24 = .ok (.ireturn, 1) := by decide +kernel
theorem dX8_asks_25 : decode cX8_asks 25 = .ok (.aload_n 0, 1) := by decide +kernel
theorem dX8_asks_26 : decode cX8_asks 26 = .ok (.invokevirtual 78, 3) := by decide +kernel
theorem dX8_asks_29 : decode cX8_asks 29 = .ok (.aload_n 0, 1) := by decide +kernel
theorem dX8_asks_30 : decode cX8_asks 30 = .ok (.getfield 10, 3) := by decide +kernel
theorem dX8_asks_33 : decode cX8_asks 33 = .ok (.iload_n 1, 1) := by decide +kernel
theorem dX8_asks_34 : decode cX8_asks 34 = .ok (.putfield 84, 3) := by decide +kernel
theorem dX8_asks_37 : decode cX8_asks 37 = .ok (.iload_n 2, 1) := by decide +kernel
theorem dX8_asks_38 : decode cX8_asks 38 = .ok (.ireturn, 1) := by decide +kernel
theorem dX8_costs_0 : decode cX8_costs 0 = .ok (.iload_n 1, 1) := by decide +kernel
theorem dX8_costs_1 : decode cX8_costs 1 = .ok (.ifCond .lt 10, 3) := by decide +kernel
theorem dX8_costs_4 : decode cX8_costs 4 = .ok (.iload_n 1, 1) := by decide +kernel
theorem dX8_costs_5 : decode cX8_costs 5 = .ok (.sipush 999, 3) := by decide +kernel
theorem dX8_costs_8 : decode cX8_costs 8 = .ok (.if_icmp .le 5, 3) := by decide +kernel
theorem dX8_costs_11 : decode cX8_costs 11 = .ok (.iconst (-1), 1) := by decide +kernel
theorem dX8_costs_12 : decode cX8_costs 12 = .ok (.ireturn, 1) := by decide +kernel
theorem dX8_costs_13 : decode cX8_costs 13 = .ok (.aload_n 0, 1) := by decide +kernel
theorem dX8_costs_14 : decode cX8_costs 14 = .ok (.getfield 10, 3) := by decide +kernel
theorem dX8_costs_17 : decode cX8_costs 17 = .ok (.getfield 87, 3) := by decide +kernel
theorem dX8_costs_20 : decode cX8_costs 20 = .ok (.istore_n 2, 1) := by decide +kernel
theorem dX8_costs_21 : decode cX8_costs 21 = .ok (.iload_n 2, 1) := by decide +kernel
theorem dX8_costs_22 : decode cX8_costs 22 = .ok (.iload_n 1, 1) := by decide +kernel
theorem dX8_costs_23 : decode cX8_costs 23 = .ok (.if_icmp .ne 6, 3) := by decide +kernel
theorem dX8_costs_26 : decode cX8_costs 26 = .ok (.bipush (-2), 2) := by decide +kernel
theorem dX8_costs_28 : decode cX8_costs 28 = .ok (.ireturn, 1) := by decide +kernel
theorem dX8_costs_29 : decode cX8_costs 29 = .ok (.aload_n 0, 1) := by decide +kernel
theorem dX8_costs_30 : decode cX8_costs 30 = .ok (.invokevirtual 78, 3) := by decide +kernel
theorem dX8_costs_33 : decode cX8_costs 33 = .ok (.aload_n 0, 1) := by decide +kernel
theorem dX8_costs_34 : decode cX8_costs 34 = .ok (.getfield 10, 3) := by decide +kernel
theorem dX8_costs_37 : decode cX8_costs 37 = .ok (.iload_n 1, 1) := by decide +kernel
theorem dX8_costs_38 : decode cX8_costs 38 = .ok (.putfield 87, 3) := by decide +kernel
theorem dX8_costs_41 : decode cX8_costs 41 = .ok (.iload_n 2, 1) := by decide +kernel
theorem dX8_costs_42 : decode cX8_costs 42 = .ok (.ireturn, 1) := by decide +kernel
theorem dX8_closes_0 : decode cX8_closes 0 = .ok (.aload_n 0, 1) := by decide +kernel
theorem dX8_closes_1 : decode cX8_closes 1 = .ok (.getfield 43, 3) := by decide +kernel
theorem dX8_closes_4 : decode cX8_closes 4 = .ok (.invokevirtual 90, 3) := by decide +kernel
theorem dX8_closes_7 : decode cX8_closes 7 = .ok (.astore_n 1, 1) := by decide +kernel
theorem dX8_closes_8 : decode cX8_closes 8 = .ok (.aload_n 0, 1) := by decide +kernel
theorem dX8_closes_9 : decode cX8_closes 9 = .ok (.getfield 43, 3) := by decide +kernel
theorem dX8_closes_12 : decode cX8_closes 12 = .ok (.invokevirtual 94, 3) := by decide +kernel
theorem dX8_closes_15 : decode cX8_closes 15 = .ok (.astore_n 2, 1) := by decide +kernel
theorem dX8_closes_16 : decode cX8_closes 16 = .ok (.aload_n 0, 1) := by decide +kernel
theorem dX8_closes_17 : decode cX8_closes 17 = .ok (.aload_n 1, 1) := by decide +kernel
theorem dX8_closes_18 : decode cX8_closes 18 = .ok (.aload_n 2, 1) := by decide +kernel
theorem dX8_closes_19 : decode cX8_closes 19 = .ok (.invokevirtual 98, 3) := by decide +kernel
theorem dX8_closes_22 : decode cX8_closes 22 = .ok (.istore_n 3, 1) := by decide +kernel
theorem dX8_closes_23 : decode cX8_closes 23 = .ok (.aload_n 0, 1) := by decide +kernel
theorem dX8_closes_24 : decode cX8_closes 24 = .ok (.invokevirtual 78, 3) := by decide +kernel
theorem dX8_closes_27 : decode cX8_closes 27 = .ok (.aload_n 0, 1) := by decide +kernel
theorem dX8_closes_28 : decode cX8_closes 28 = .ok (.getfield 10, 3) := by decide +kernel
theorem dX8_closes_31 : decode cX8_closes 31 = .ok (.aload_n 1, 1) := by decide +kernel
theorem dX8_closes_32 : decode cX8_closes 32 = .ok (.getfield 102, 3) := by decide +kernel
theorem dX8_closes_35 : decode cX8_closes 35 = .ok (.iconst 1, 1) := by decide +kernel
theorem dX8_closes_36 : decode cX8_closes 36 = .ok (.isub, 1) := by decide +kernel
theorem dX8_closes_37 : decode cX8_closes 37 = .ok (.iconst 0, 1) := by decide +kernel
theorem dX8_closes_38 : decode cX8_closes 38 = .ok (.invokestatic 107, 3) := by decide +kernel
theorem dX8_closes_41 : decode cX8_closes 41 = .ok (.putfield 112, 3) := by decide +kernel
theorem dX8_closes_44 : decode cX8_closes 44 = .ok (.iconst 0, 1) := by decide +kernel
theorem dX8_closes_45 : decode cX8_closes 45 = .ok (.istore 4, 2) := by decide +kernel
theorem dX8_closes_47 : decode cX8_closes 47 = .ok (.iload 4, 2) := by decide +kernel
theorem dX8_closes_49 : decode cX8_closes 49 = .ok (.aload_n 0, 1) := by decide +kernel
theorem dX8_closes_50 : decode cX8_closes 50 = .ok (.getfield 10, 3) := by decide +kernel
theorem dX8_closes_53 : decode cX8_closes 53 = .ok (.getfield 112, 3) := by decide +kernel
theorem dX8_closes_56 : decode cX8_closes 56 = .ok (.if_icmp .ge 44, 3) := by decide +kernel
theorem dX8_closes_59 : decode cX8_closes 59 = .ok (.iload 4, 2) := by decide +kernel
theorem dX8_closes_61 : decode cX8_closes 61 = .ok (.aload_n 0, 1) := by decide +kernel
theorem dX8_closes_62 : decode cX8_closes 62 = .ok (.getfield 10, 3) := by decide +kernel
theorem dX8_closes_65 : decode cX8_closes 65 = .ok (.getfield 115, 3) := by decide +kernel
theorem dX8_closes_68 : decode cX8_closes 68 = .ok (.arraylength, 1) := by decide +kernel
theorem dX8_closes_69 : decode cX8_closes 69 = .ok (.if_icmp .ge 31, 3) := by decide +kernel
theorem dX8_closes_72 : decode cX8_closes 72 = .ok (.aload_n 0, 1) := by decide +kernel
theorem dX8_closes_73 : decode cX8_closes 73 = .ok (.getfield 10, 3) := by decide +kernel
theorem dX8_closes_76 : decode cX8_closes 76 = .ok (.getfield 115, 3) := by decide +kernel
theorem dX8_closes_79 : decode cX8_closes 79 = .ok (.iload 4, 2) := by decide +kernel
theorem dX8_closes_81 : decode cX8_closes 81 = .ok (.aload_n 2, 1) := by decide +kernel
theorem dX8_closes_82 : decode cX8_closes 82 = .ok (.aload_n 1, 1) := by decide +kernel
theorem dX8_closes_83 : decode cX8_closes 83 = .ok (.iload 4, 2) := by decide +kernel
theorem dX8_closes_85 : decode cX8_closes 85 = .ok (.iconst 1, 1) := by decide +kernel
theorem dX8_closes_86 : decode cX8_closes 86 = .ok (.iadd, 1) := by decide +kernel
theorem dX8_closes_87 : decode cX8_closes 87 = .ok (.invokevirtual 118, 3) := by decide +kernel
theorem dX8_closes_90 : decode cX8_closes 90 = .ok (.invokevirtual 122, 3) := by decide +kernel
theorem dX8_closes_93 : decode cX8_closes 93 = .ok (.iastore, 1) := by decide +kernel
theorem dX8_closes_94 : decode cX8_closes 94 = .ok (.iinc 4 1, 3) := by decide +kernel
theorem dX8_closes_97 : decode cX8_closes 97 = .ok (.goto (-50), 3) := by decide +kernel
theorem dX8_closes_100 : decode cX8_closes 100 = .ok (.iload_n 3, 1) := by decide +kernel
theorem dX8_closes_101 : decode cX8_closes 101 = .ok (.ireturn, 1) := by decide +kernel
theorem dX8_undo_0 : decode cX8_undo 0 = .ok (.aload_n 0, 1) := by decide +kernel
theorem dX8_undo_1 : decode cX8_undo 1 = .ok (.getfield 19, 3) := by decide +kernel
theorem dX8_undo_4 : decode cX8_undo 4 = .ok (.getfield 127, 3) := by decide +kernel
theorem dX8_undo_7 : decode cX8_undo 7 = .ok (.ifCond .ne 6, 3) := by decide +kernel
theorem dX8_undo_10 : decode cX8_undo 10 = .ok (.bipush (-2), 2) := by decide +kernel
theorem dX8_undo_12 : decode cX8_undo 12 = .ok (.ireturn, 1) := by decide +kernel
theorem dX8_undo_13 : decode cX8_undo 13 = .ok (.aload_n 0, 1) := by decide +kernel
theorem dX8_undo_14 : decode cX8_undo 14 = .ok (.getfield 19, 3) := by decide +kernel
theorem dX8_undo_17 : decode cX8_undo 17 = .ok (.aload_n 0, 1) := by decide +kernel
theorem dX8_undo_18 : decode cX8_undo 18 = .ok (.getfield 10, 3) := by decide +kernel
theorem dX8_undo_21 : decode cX8_undo 21 = .ok (.invokevirtual 130, 3) := by decide +kernel
theorem dX8_undo_24 : decode cX8_undo 24 = .ok (.aload_n 0, 1) := by decide +kernel
theorem dX8_undo_25 : decode cX8_undo 25 = .ok (.getfield 43, 3) := by decide +kernel
theorem dX8_undo_28 : decode cX8_undo 28 = .ok (.invokevirtual 66, 3) := by decide +kernel
theorem dX8_undo_31 : decode cX8_undo 31 = .ok (.aload_n 0, 1) := by decide +kernel
theorem dX8_undo_32 : decode cX8_undo 32 = .ok (.getfield 19, 3) := by decide +kernel
theorem dX8_undo_35 : decode cX8_undo 35 = .ok (.getfield 127, 3) := by decide +kernel
theorem dX8_undo_38 : decode cX8_undo 38 = .ok (.ireturn, 1) := by decide +kernel
theorem dX8_place_0 : decode cX8_place 0 = .ok (.iload_n 1, 1) := by decide +kernel
theorem dX8_place_1 : decode cX8_place 1 = .ok (.iload_n 2, 1) := by decide +kernel
theorem dX8_place_2 : decode cX8_place 2 = .ok (.invokestatic 67, 3) := by decide +kernel
theorem dX8_place_5 : decode cX8_place 5 = .ok (.istore 4, 2) := by decide +kernel
theorem dX8_place_7 : decode cX8_place 7 = .ok (.iload 4, 2) := by decide +kernel
theorem dX8_place_9 : decode cX8_place 9 = .ok (.ifCond .lt 12, 3) := by decide +kernel
theorem dX8_place_12 : decode cX8_place 12 = .ok (.iload_n 3, 1) := by decide +kernel
theorem dX8_place_13 : decode cX8_place 13 = .ok (.ifCond .lt 8, 3) := by decide +kernel
theorem dX8_place_16 : decode cX8_place 16 = .ok (.iload_n 3, 1) := by decide +kernel
theorem dX8_place_17 : decode cX8_place 17 = .ok (.iconst 2, 1) := by decide +kernel
theorem dX8_place_18 : decode cX8_place 18 = .ok (.if_icmp .le 5, 3) := by decide +kernel
theorem dX8_place_21 : decode cX8_place 21 = .ok (.iconst (-1), 1) := by decide +kernel
theorem dX8_place_22 : decode cX8_place 22 = .ok (.ireturn, 1) := by decide +kernel
theorem dX8_place_23 : decode cX8_place 23 = .ok (.aload_n 0, 1) := by decide +kernel
theorem dX8_place_24 : decode cX8_place 24 = .ok (.getfield 10, 3) := by decide +kernel
theorem dX8_place_27 : decode cX8_place 27 = .ok (.getfield 71, 3) := by decide +kernel
theorem dX8_place_30 : decode cX8_place 30 = .ok (.iload 4, 2) := by decide +kernel
theorem dX8_place_32 : decode cX8_place 32 = .ok (.iaload, 1) := by decide +kernel
theorem dX8_place_33 : decode cX8_place 33 = .ok (.istore 5, 2) := by decide +kernel
theorem dX8_place_35 : decode cX8_place 35 = .ok (.iload 5, 2) := by decide +kernel
theorem dX8_place_37 : decode cX8_place 37 = .ok (.iconst (-1), 1) := by decide +kernel
theorem dX8_place_38 : decode cX8_place 38 = .ok (.if_icmp .ne 6, 3) := by decide +kernel
theorem dX8_place_41 : decode cX8_place 41 = .ok (.bipush (-9), 2) := by decide +kernel
theorem dX8_place_43 : decode cX8_place 43 = .ok (.ireturn, 1) := by decide +kernel
theorem dX8_place_44 : decode cX8_place 44 = .ok (.iload_n 3, 1) := by decide +kernel
theorem dX8_place_45 : decode cX8_place 45 = .ok (.ifCond .ne 6, 3) := by decide +kernel
theorem dX8_place_48 : decode cX8_place 48 = .ok (.iload 5, 2) := by decide +kernel
theorem dX8_place_50 : decode cX8_place 50 = .ok (.ireturn, 1) := by decide +kernel
theorem dX8_place_51 : decode cX8_place 51 = .ok (.aload_n 0, 1) := by decide +kernel
theorem dX8_place_52 : decode cX8_place 52 = .ok (.getfield 43, 3) := by decide +kernel
theorem dX8_place_55 : decode cX8_place 55 = .ok (.invokevirtual 90, 3) := by decide +kernel
theorem dX8_place_58 : decode cX8_place 58 = .ok (.astore 6, 2) := by decide +kernel
theorem dX8_place_60 : decode cX8_place 60 = .ok (.aload 6, 2) := by decide +kernel
theorem dX8_place_62 : decode cX8_place 62 = .ok (.aload_n 0, 1) := by decide +kernel
theorem dX8_place_63 : decode cX8_place 63 = .ok (.getfield 43, 3) := by decide +kernel
theorem dX8_place_66 : decode cX8_place 66 = .ok (.invokevirtual 94, 3) := by decide +kernel
theorem dX8_place_69 : decode cX8_place 69 = .ok (.iload 5, 2) := by decide +kernel
theorem dX8_place_71 : decode cX8_place 71 = .ok (.invokevirtual 133, 3) := by decide +kernel
theorem dX8_place_74 : decode cX8_place 74 = .ok (.invokevirtual 136, 3) := by decide +kernel
theorem dX8_place_77 : decode cX8_place 77 = .ok (.istore 7, 2) := by decide +kernel
theorem dX8_place_79 : decode cX8_place 79 = .ok (.iload_n 3, 1) := by decide +kernel
theorem dX8_place_80 : decode cX8_place 80 = .ok (.iconst 1, 1) := by decide +kernel
theorem dX8_place_81 : decode cX8_place 81 = .ok (.if_icmp .ne 8, 3) := by decide +kernel
theorem dX8_place_84 : decode cX8_place 84 = .ok (.iload 7, 2) := by decide +kernel
theorem dX8_place_86 : decode cX8_place 86 = .ok (.goto 13, 3) := by decide +kernel
theorem dX8_place_89 : decode cX8_place 89 = .ok (.iload 7, 2) := by decide +kernel
theorem dX8_place_91 : decode cX8_place 91 = .ok (.aload 6, 2) := by decide +kernel
theorem dX8_place_93 : decode cX8_place 93 = .ok (.getfield 102, 3) := by decide +kernel
theorem dX8_place_96 : decode cX8_place 96 = .ok (.invokestatic 139, 3) := by decide +kernel
theorem dX8_place_99 : decode cX8_place 99 = .ok (.ireturn, 1) := by decide +kernel
theorem dX8_sorted_0 : decode cX8_sorted 0 = .ok (.aload_n 0, 1) := by decide +kernel
theorem dX8_sorted_1 : decode cX8_sorted 1 = .ok (.getfield 43, 3) := by decide +kernel
theorem dX8_sorted_4 : decode cX8_sorted 4 = .ok (.invokevirtual 94, 3) := by decide +kernel
theorem dX8_sorted_7 : decode cX8_sorted 7 = .ok (.astore_n 3, 1) := by decide +kernel
theorem dX8_sorted_8 : decode cX8_sorted 8 = .ok (.iload_n 1, 1) := by decide +kernel
theorem dX8_sorted_9 : decode cX8_sorted 9 = .ok (.ifCond .lt 20, 3) := by decide +kernel
theorem dX8_sorted_12 : decode cX8_sorted 12 = .ok (.iload_n 1, 1) := by decide +kernel
theorem dX8_sorted_13 : decode cX8_sorted 13 = .ok (.aload_n 3, 1) := by decide +kernel
theorem dX8_sorted_14 : decode cX8_sorted 14 = .ok (.getfield 142, 3) := by decide +kernel
theorem dX8_sorted_17 : decode cX8_sorted 17 = .ok (.if_icmp .ge 12, 3) := by decide +kernel
theorem dX8_sorted_20 : decode cX8_sorted 20 = .ok (.iload_n 2, 1) := by decide +kernel
theorem dX8_sorted_21 : decode cX8_sorted 21 = .ok (.ifCond .lt 8, 3) := by decide +kernel
theorem dX8_sorted_24 : decode cX8_sorted 24 = .ok (.iload_n 2, 1) := by decide +kernel
theorem dX8_sorted_25 : decode cX8_sorted 25 = .ok (.iconst 2, 1) := by decide +kernel
theorem dX8_sorted_26 : decode cX8_sorted 26 = .ok (.if_icmp .le 5, 3) := by decide +kernel
theorem dX8_sorted_29 : decode cX8_sorted 29 = .ok (.iconst (-1), 1) := by decide +kernel
theorem dX8_sorted_30 : decode cX8_sorted 30 = .ok (.ireturn, 1) := by decide +kernel
theorem dX8_sorted_31 : decode cX8_sorted 31 = .ok (.iload_n 2, 1) := by decide +kernel
theorem dX8_sorted_32 : decode cX8_sorted 32 = .ok (.ifCond .ne 9, 3) := by decide +kernel
theorem dX8_sorted_35 : decode cX8_sorted 35 = .ok (.aload_n 3, 1) := by decide +kernel
theorem dX8_sorted_36 : decode cX8_sorted 36 = .ok (.iload_n 1, 1) := by decide +kernel
theorem dX8_sorted_37 : decode cX8_sorted 37 = .ok (.invokevirtual 122, 3) := by decide +kernel
theorem dX8_sorted_40 : decode cX8_sorted 40 = .ok (.ireturn, 1) := by decide +kernel
theorem dX8_sorted_41 : decode cX8_sorted 41 = .ok (.iload_n 2, 1) := by decide +kernel
theorem dX8_sorted_42 : decode cX8_sorted 42 = .ok (.iconst 1, 1) := by decide +kernel
theorem dX8_sorted_43 : decode cX8_sorted 43 = .ok (.if_icmp .ne 11, 3) := by decide +kernel
theorem dX8_sorted_46 : decode cX8_sorted 46 = .ok (.aload_n 3, 1) := by decide +kernel
theorem dX8_sorted_47 : decode cX8_sorted 47 = .ok (.iload_n 1, 1) := by decide +kernel
theorem dX8_sorted_48 : decode cX8_sorted 48 = .ok (.invokevirtual 145, 3) := by decide +kernel
theorem dX8_sorted_51 : decode cX8_sorted 51 = .ok (.goto 14, 3) := by decide +kernel
theorem dX8_sorted_54 : decode cX8_sorted 54 = .ok (.aload_n 0, 1) := by decide +kernel
theorem dX8_sorted_55 : decode cX8_sorted 55 = .ok (.getfield 43, 3) := by decide +kernel
theorem dX8_sorted_58 : decode cX8_sorted 58 = .ok (.invokevirtual 90, 3) := by decide +kernel
theorem dX8_sorted_61 : decode cX8_sorted 61 = .ok (.iload_n 1, 1) := by decide +kernel
theorem dX8_sorted_62 : decode cX8_sorted 62 = .ok (.invokevirtual 136, 3) := by decide +kernel
theorem dX8_sorted_65 : decode cX8_sorted 65 = .ok (.ireturn, 1) := by decide +kernel
theorem dX8_now_0 : decode cX8_now 0 = .ok (.aload_n 0, 1) := by decide +kernel
theorem dX8_now_1 : decode cX8_now 1 = .ok (.aload_n 0, 1) := by decide +kernel
theorem dX8_now_2 : decode cX8_now 2 = .ok (.getfield 43, 3) := by decide +kernel
theorem dX8_now_5 : decode cX8_now 5 = .ok (.invokevirtual 90, 3) := by decide +kernel
theorem dX8_now_8 : decode cX8_now 8 = .ok (.iload_n 1, 1) := by decide +kernel
theorem dX8_now_9 : decode cX8_now 9 = .ok (.invokevirtual 148, 3) := by decide +kernel
theorem dX8_now_12 : decode cX8_now 12 = .ok (.ireturn, 1) := by decide +kernel
theorem dX8_spread_0 : decode cX8_spread 0 = .ok (.iload_n 1, 1) := by decide +kernel
theorem dX8_spread_1 : decode cX8_spread 1 = .ok (.ifCond .lt 8, 3) := by decide +kernel
theorem dX8_spread_4 : decode cX8_spread 4 = .ok (.iload_n 1, 1) := by decide +kernel
theorem dX8_spread_5 : decode cX8_spread 5 = .ok (.iconst 1, 1) := by decide +kernel
theorem dX8_spread_6 : decode cX8_spread 6 = .ok (.if_icmp .le 7, 3) := by decide +kernel
theorem dX8_spread_9 : decode cX8_spread 9 = .ok (.ldc2_w 152, 3) := by decide +kernel
theorem dX8_spread_12 : decode cX8_spread 12 = .ok (.lreturn, 1) := by decide +kernel
theorem dX8_spread_13 : decode cX8_spread 13 = .ok (.aload_n 0, 1) := by decide +kernel
theorem dX8_spread_14 : decode cX8_spread 14 = .ok (.getfield 43, 3) := by decide +kernel
theorem dX8_spread_17 : decode cX8_spread 17 = .ok (.invokevirtual 90, 3) := by decide +kernel
theorem dX8_spread_20 : decode cX8_spread 20 = .ok (.getfield 154, 3) := by decide +kernel
theorem dX8_spread_23 : decode cX8_spread 23 = .ok (.iload_n 1, 1) := by decide +kernel
theorem dX8_spread_24 : decode cX8_spread 24 = .ok (.ifCond .ne 7, 3) := by decide +kernel
theorem dX8_spread_27 : decode cX8_spread 27 = .ok (.iconst 1, 1) := by decide +kernel
theorem dX8_spread_28 : decode cX8_spread 28 = .ok (.goto 4, 3) := by decide +kernel
theorem dX8_spread_31 : decode cX8_spread 31 = .ok (.iconst 0, 1) := by decide +kernel
theorem dX8_spread_32 : decode cX8_spread 32 = .ok (.invokestatic 158, 3) := by decide +kernel
theorem dX8_spread_35 : decode cX8_spread 35 = .ok (.lreturn, 1) := by decide +kernel
theorem dX8_moved_0 : decode cX8_moved 0 = .ok (.aload_n 0, 1) := by decide +kernel
theorem dX8_moved_1 : decode cX8_moved 1 = .ok (.aload_n 0, 1) := by decide +kernel
theorem dX8_moved_2 : decode cX8_moved 2 = .ok (.getfield 43, 3) := by decide +kernel
theorem dX8_moved_5 : decode cX8_moved 5 = .ok (.invokevirtual 90, 3) := by decide +kernel
theorem dX8_moved_8 : decode cX8_moved 8 = .ok (.aload_n 0, 1) := by decide +kernel
theorem dX8_moved_9 : decode cX8_moved 9 = .ok (.getfield 43, 3) := by decide +kernel
theorem dX8_moved_12 : decode cX8_moved 12 = .ok (.invokevirtual 94, 3) := by decide +kernel
theorem dX8_moved_15 : decode cX8_moved 15 = .ok (.invokevirtual 98, 3) := by decide +kernel
theorem dX8_moved_18 : decode cX8_moved 18 = .ok (.ireturn, 1) := by decide +kernel
theorem dX8_least_0 : decode cX8_least 0 = .ok (.iload_n 1, 1) := by decide +kernel
theorem dX8_least_1 : decode cX8_least 1 = .ok (.invokestatic 81, 3) := by decide +kernel
theorem dX8_least_4 : decode cX8_least 4 = .ok (.ifCond .eq 19, 3) := by decide +kernel
theorem dX8_least_7 : decode cX8_least 7 = .ok (.aload_n 0, 1) := by decide +kernel
theorem dX8_least_8 : decode cX8_least 8 = .ok (.aload_n 0, 1) := by decide +kernel
theorem dX8_least_9 : decode cX8_least 9 = .ok (.getfield 43, 3) := by decide +kernel
theorem dX8_least_12 : decode cX8_least 12 = .ok (.iload_n 1, 1) := by decide +kernel
theorem dX8_least_13 : decode cX8_least 13 = .ok (.invokevirtual 162, 3) := by decide +kernel
theorem dX8_least_16 : decode cX8_least 16 = .ok (.iload_n 2, 1) := by decide +kernel
theorem dX8_least_17 : decode cX8_least 17 = .ok (.invokevirtual 148, 3) := by decide +kernel
theorem dX8_least_20 : decode cX8_least 20 = .ok (.goto 4, 3) := by decide +kernel
theorem dX8_least_23 : decode cX8_least 23 = .ok (.iconst (-1), 1) := by decide +kernel
theorem dX8_least_24 : decode cX8_least 24 = .ok (.ireturn, 1) := by decide +kernel
theorem dX8_gain_0 : decode cX8_gain 0 = .ok (.iload_n 1, 1) := by decide +kernel
theorem dX8_gain_1 : decode cX8_gain 1 = .ok (.invokestatic 81, 3) := by decide +kernel
theorem dX8_gain_4 : decode cX8_gain 4 = .ok (.ifCond .eq 22, 3) := by decide +kernel
theorem dX8_gain_7 : decode cX8_gain 7 = .ok (.iload_n 2, 1) := by decide +kernel
theorem dX8_gain_8 : decode cX8_gain 8 = .ok (.ifCond .lt 18, 3) := by decide +kernel
theorem dX8_gain_11 : decode cX8_gain 11 = .ok (.iload_n 2, 1) := by decide +kernel
theorem dX8_gain_12 : decode cX8_gain 12 = .ok (.iconst 3, 1) := by decide +kernel
theorem dX8_gain_13 : decode cX8_gain 13 = .ok (.if_icmp .gt 13, 3) := by decide +kernel
theorem dX8_gain_16 : decode cX8_gain 16 = .ok (.iload_n 2, 1) := by decide +kernel
theorem dX8_gain_17 : decode cX8_gain 17 = .ok (.iconst 1, 1) := by decide +kernel
theorem dX8_gain_18 : decode cX8_gain 18 = .ok (.if_icmp .le 12, 3) := by decide +kernel
theorem dX8_gain_21 : decode cX8_gain 21 = .ok (.iload_n 1, 1) := by decide +kernel
theorem dX8_gain_22 : decode cX8_gain 22 = .ok (.iconst 2, 1) := by decide +kernel
theorem dX8_gain_23 : decode cX8_gain 23 = .ok (.if_icmp .ge 7, 3) := by decide +kernel
theorem dX8_gain_26 : decode cX8_gain 26 = .ok (.ldc2_w 152, 3) := by decide +kernel
theorem dX8_gain_29 : decode cX8_gain 29 = .ok (.lreturn, 1) := by decide +kernel
theorem dX8_gain_30 : decode cX8_gain 30 = .ok (.aload_n 0, 1) := by decide +kernel
theorem dX8_gain_31 : decode cX8_gain 31 = .ok (.getfield 43, 3) := by decide +kernel
theorem dX8_gain_34 : decode cX8_gain 34 = .ok (.iload_n 1, 1) := by decide +kernel
theorem dX8_gain_35 : decode cX8_gain 35 = .ok (.invokevirtual 162, 3) := by decide +kernel
theorem dX8_gain_38 : decode cX8_gain 38 = .ok (.getfield 154, 3) := by decide +kernel
theorem dX8_gain_41 : decode cX8_gain 41 = .ok (.lstore_n 3, 1) := by decide +kernel
theorem dX8_gain_42 : decode cX8_gain 42 = .ok (.iload_n 2, 1) := by decide +kernel
theorem dX8_gain_43 : decode cX8_gain 43 = .ok (.iconst 2, 1) := by decide +kernel
theorem dX8_gain_44 : decode cX8_gain 44 = .ok (.if_icmp .ge 7, 3) := by decide +kernel
theorem dX8_gain_47 : decode cX8_gain 47 = .ok (.lload_n 3, 1) := by decide +kernel
theorem dX8_gain_48 : decode cX8_gain 48 = .ok (.goto 18, 3) := by decide +kernel
theorem dX8_gain_51 : decode cX8_gain 51 = .ok (.aload_n 0, 1) := by decide +kernel
theorem dX8_gain_52 : decode cX8_gain 52 = .ok (.getfield 43, 3) := by decide +kernel
theorem dX8_gain_55 : decode cX8_gain 55 = .ok (.iload_n 1, 1) := by decide +kernel
theorem dX8_gain_56 : decode cX8_gain 56 = .ok (.iconst 1, 1) := by decide +kernel
theorem dX8_gain_57 : decode cX8_gain 57 = .ok (.isub, 1) := by decide +kernel
theorem dX8_gain_58 : decode cX8_gain 58 = .ok (.invokevirtual 162, 3) := by decide +kernel
theorem dX8_gain_61 : decode cX8_gain 61 = .ok (.getfield 154, 3) := by decide +kernel
theorem dX8_gain_64 : decode cX8_gain 64 = .ok (.lload_n 3, 1) := by decide +kernel
theorem dX8_gain_65 : decode cX8_gain 65 = .ok (.lsub, 1) := by decide +kernel
theorem dX8_gain_66 : decode cX8_gain 66 = .ok (.lstore 5, 2) := by decide +kernel
theorem dX8_gain_68 : decode cX8_gain 68 = .ok (.lload 5, 2) := by decide +kernel
theorem dX8_gain_70 : decode cX8_gain 70 = .ok (.iload_n 2, 1) := by decide +kernel
theorem dX8_gain_71 : decode cX8_gain 71 = .ok (.iconst 2, 1) := by decide +kernel
theorem dX8_gain_72 : decode cX8_gain 72 = .ok (.irem, 1) := by decide +kernel
theorem dX8_gain_73 : decode cX8_gain 73 = .ok (.ifCond .ne 7, 3) := by decide +kernel
theorem dX8_gain_76 : decode cX8_gain 76 = .ok (.iconst 1, 1) := by decide +kernel
theorem dX8_gain_77 : decode cX8_gain 77 = .ok (.goto 4, 3) := by decide +kernel
theorem dX8_gain_80 : decode cX8_gain 80 = .ok (.iconst 0, 1) := by decide +kernel
theorem dX8_gain_81 : decode cX8_gain 81 = .ok (.invokestatic 158, 3) := by decide +kernel
theorem dX8_gain_84 : decode cX8_gain 84 = .ok (.lreturn, 1) := by decide +kernel
theorem dX8_last_0 : decode cX8_last 0 = .ok (.iload_n 1, 1) := by decide +kernel
theorem dX8_last_1 : decode cX8_last 1 = .ok (.invokestatic 81, 3) := by decide +kernel
theorem dX8_last_4 : decode cX8_last 4 = .ok (.ifCond .eq 22, 3) := by decide +kernel
theorem dX8_last_7 : decode cX8_last 7 = .ok (.iload_n 2, 1) := by decide +kernel
theorem dX8_last_8 : decode cX8_last 8 = .ok (.iconst 1, 1) := by decide +kernel
theorem dX8_last_9 : decode cX8_last 9 = .ok (.if_icmp .lt 17, 3) := by decide +kernel
theorem dX8_last_12 : decode cX8_last 12 = .ok (.iload_n 2, 1) := by decide +kernel
theorem dX8_last_13 : decode cX8_last 13 = .ok (.aload_n 0, 1) := by decide +kernel
theorem dX8_last_14 : decode cX8_last 14 = .ok (.getfield 43, 3) := by decide +kernel
theorem dX8_last_17 : decode cX8_last 17 = .ok (.invokevirtual 94, 3) := by decide +kernel
theorem dX8_last_20 : decode cX8_last 20 = .ok (.getfield 142, 3) := by decide +kernel
theorem dX8_last_23 : decode cX8_last 23 = .ok (.if_icmp .le 5, 3) := by decide +kernel
theorem dX8_last_26 : decode cX8_last 26 = .ok (.iconst (-1), 1) := by decide +kernel
theorem dX8_last_27 : decode cX8_last 27 = .ok (.ireturn, 1) := by decide +kernel
theorem dX8_last_28 : decode cX8_last 28 = .ok (.aload_n 0, 1) := by decide +kernel
theorem dX8_last_29 : decode cX8_last 29 = .ok (.getfield 43, 3) := by decide +kernel
theorem dX8_last_32 : decode cX8_last 32 = .ok (.iload_n 1, 1) := by decide +kernel
theorem dX8_last_33 : decode cX8_last 33 = .ok (.iload_n 2, 1) := by decide +kernel
theorem dX8_last_34 : decode cX8_last 34 = .ok (.invokevirtual 166, 3) := by decide +kernel
theorem dX8_last_37 : decode cX8_last 37 = .ok (.ireturn, 1) := by decide +kernel
theorem dX8_enough_0 : decode cX8_enough 0 = .ok (.iload_n 1, 1) := by decide +kernel
theorem dX8_enough_1 : decode cX8_enough 1 = .ok (.ifCond .lt 9, 3) := by decide +kernel
theorem dX8_enough_4 : decode cX8_enough 4 = .ok (.iload_n 1, 1) := by decide +kernel
theorem dX8_enough_5 : decode cX8_enough 5 = .ok (.bipush 100, 2) := by decide +kernel
theorem dX8_enough_7 : decode cX8_enough 7 = .ok (.if_icmp .le 5, 3) := by decide +kernel
theorem dX8_enough_10 : decode cX8_enough 10 = .ok (.iconst (-1), 1) := by decide +kernel
theorem dX8_enough_11 : decode cX8_enough 11 = .ok (.ireturn, 1) := by decide +kernel
theorem dX8_enough_12 : decode cX8_enough 12 = .ok (.iload_n 1, 1) := by decide +kernel
theorem dX8_enough_13 : decode cX8_enough 13 = .ok (.i2l, 1) := by decide +kernel
theorem dX8_enough_14 : decode cX8_enough 14 = .ok (.aload_n 0, 1) := by decide +kernel
theorem dX8_enough_15 : decode cX8_enough 15 = .ok (.getfield 43, 3) := by decide +kernel
theorem dX8_enough_18 : decode cX8_enough 18 = .ok (.iconst 1, 1) := by decide +kernel
theorem dX8_enough_19 : decode cX8_enough 19 = .ok (.invokevirtual 162, 3) := by decide +kernel
theorem dX8_enough_22 : decode cX8_enough 22 = .ok (.getfield 154, 3) := by decide +kernel
theorem dX8_enough_25 : decode cX8_enough 25 = .ok (.lmul, 1) := by decide +kernel
theorem dX8_enough_26 : decode cX8_enough 26 = .ok (.lstore_n 2, 1) := by decide +kernel
theorem dX8_enough_27 : decode cX8_enough 27 = .ok (.iconst 1, 1) := by decide +kernel
theorem dX8_enough_28 : decode cX8_enough 28 = .ok (.istore 4, 2) := by decide +kernel
theorem dX8_enough_30 : decode cX8_enough 30 = .ok (.iload 4, 2) := by decide +kernel
theorem dX8_enough_32 : decode cX8_enough 32 = .ok (.bipush 6, 2) := by decide +kernel
theorem dX8_enough_34 : decode cX8_enough 34 = .ok (.if_icmp .gt 33, 3) := by decide +kernel
theorem dX8_enough_37 : decode cX8_enough 37 = .ok (.ldc2_w 169, 3) := by decide +kernel
theorem dX8_enough_40 : decode cX8_enough 40 = .ok (.aload_n 0, 1) := by decide +kernel
theorem dX8_enough_41 : decode cX8_enough 41 = .ok (.getfield 43, 3) := by decide +kernel
theorem dX8_enough_44 : decode cX8_enough 44 = .ok (.iload 4, 2) := by decide +kernel
theorem dX8_enough_46 : decode cX8_enough 46 = .ok (.invokevirtual 162, 3) := by decide +kernel
theorem dX8_enough_49 : decode cX8_enough 49 = .ok (.getfield 154, 3) := by decide +kernel
theorem dX8_enough_52 : decode cX8_enough 52 = .ok (.lmul, 1) := by decide +kernel
theorem dX8_enough_53 : decode cX8_enough 53 = .ok (.lload_n 2, 1) := by decide +kernel
theorem dX8_enough_54 : decode cX8_enough 54 = .ok (.lcmp, 1) := by decide +kernel
theorem dX8_enough_55 : decode cX8_enough 55 = .ok (.ifCond .gt 6, 3) := by decide +kernel
theorem dX8_enough_58 : decode cX8_enough 58 = .ok (.iload 4, 2) := by decide +kernel
theorem dX8_enough_60 : decode cX8_enough 60 = .ok (.ireturn, 1) := by decide +kernel
theorem dX8_enough_61 : decode cX8_enough 61 = .ok (.iinc 4 1, 3) := by decide +kernel
theorem dX8_enough_64 : decode cX8_enough 64 = .ok (.goto (-34), 3) := by decide +kernel
theorem dX8_enough_67 : decode cX8_enough 67 = .ok (.bipush (-9), 2) := by decide +kernel
theorem dX8_enough_69 : decode cX8_enough 69 = .ok (.ireturn, 1) := by decide +kernel
theorem dX8_keep_0 : decode cX8_keep 0 = .ok (.iload_n 1, 1) := by decide +kernel
theorem dX8_keep_1 : decode cX8_keep 1 = .ok (.ifCond .lt 8, 3) := by decide +kernel
theorem dX8_keep_4 : decode cX8_keep 4 = .ok (.iload_n 1, 1) := by decide +kernel
theorem dX8_keep_5 : decode cX8_keep 5 = .ok (.iconst 2, 1) := by decide +kernel
theorem dX8_keep_6 : decode cX8_keep 6 = .ok (.if_icmp .lt 5, 3) := by decide +kernel
theorem dX8_keep_9 : decode cX8_keep 9 = .ok (.iconst (-1), 1) := by decide +kernel
theorem dX8_keep_10 : decode cX8_keep 10 = .ok (.ireturn, 1) := by decide +kernel
theorem dX8_keep_11 : decode cX8_keep 11 = .ok (.aload_n 0, 1) := by decide +kernel
theorem dX8_keep_12 : decode cX8_keep 12 = .ok (.getfield 23, 3) := by decide +kernel
theorem dX8_keep_15 : decode cX8_keep 15 = .ok (.iload_n 1, 1) := by decide +kernel
theorem dX8_keep_16 : decode cX8_keep 16 = .ok (.aaload, 1) := by decide +kernel
theorem dX8_keep_17 : decode cX8_keep 17 = .ok (.aload_n 0, 1) := by decide +kernel
theorem dX8_keep_18 : decode cX8_keep 18 = .ok (.getfield 10, 3) := by decide +kernel
theorem dX8_keep_21 : decode cX8_keep 21 = .ok (.invokevirtual 60, 3) := by decide +kernel
theorem dX8_keep_24 : decode cX8_keep 24 = .ok (.aload_n 0, 1) := by decide +kernel
theorem dX8_keep_25 : decode cX8_keep 25 = .ok (.getfield 27, 3) := by decide +kernel
theorem dX8_keep_28 : decode cX8_keep 28 = .ok (.iload_n 1, 1) := by decide +kernel
theorem dX8_keep_29 : decode cX8_keep 29 = .ok (.iconst 1, 1) := by decide +kernel
theorem dX8_keep_30 : decode cX8_keep 30 = .ok (.bastore, 1) := by decide +kernel
theorem dX8_keep_31 : decode cX8_keep 31 = .ok (.aload_n 0, 1) := by decide +kernel
theorem dX8_keep_32 : decode cX8_keep 32 = .ok (.getfield 10, 3) := by decide +kernel
theorem dX8_keep_35 : decode cX8_keep 35 = .ok (.invokevirtual 75, 3) := by decide +kernel
theorem dX8_keep_38 : decode cX8_keep 38 = .ok (.ireturn, 1) := by decide +kernel
theorem dX8_back_0 : decode cX8_back 0 = .ok (.iload_n 1, 1) := by decide +kernel
theorem dX8_back_1 : decode cX8_back 1 = .ok (.ifCond .lt 8, 3) := by decide +kernel
theorem dX8_back_4 : decode cX8_back 4 = .ok (.iload_n 1, 1) := by decide +kernel
theorem dX8_back_5 : decode cX8_back 5 = .ok (.iconst 2, 1) := by decide +kernel
theorem dX8_back_6 : decode cX8_back 6 = .ok (.if_icmp .lt 5, 3) := by decide +kernel
theorem dX8_back_9 : decode cX8_back 9 = .ok (.iconst (-1), 1) := by decide +kernel
theorem dX8_back_10 : decode cX8_back 10 = .ok (.ireturn, 1) := by decide +kernel
theorem dX8_back_11 : decode cX8_back 11 = .ok (.aload_n 0, 1) := by decide +kernel
theorem dX8_back_12 : decode cX8_back 12 = .ok (.getfield 27, 3) := by decide +kernel
theorem dX8_back_15 : decode cX8_back 15 = .ok (.iload_n 1, 1) := by decide +kernel
theorem dX8_back_16 : decode cX8_back 16 = .ok (.baload, 1) := by decide +kernel
theorem dX8_back_17 : decode cX8_back 17 = .ok (.ifCond .ne 6, 3) := by decide +kernel
theorem dX8_back_20 : decode cX8_back 20 = .ok (.bipush (-2), 2) := by decide +kernel
theorem dX8_back_22 : decode cX8_back 22 = .ok (.ireturn, 1) := by decide +kernel
theorem dX8_back_23 : decode cX8_back 23 = .ok (.aload_n 0, 1) := by decide +kernel
theorem dX8_back_24 : decode cX8_back 24 = .ok (.getfield 10, 3) := by decide +kernel
theorem dX8_back_27 : decode cX8_back 27 = .ok (.aload_n 0, 1) := by decide +kernel
theorem dX8_back_28 : decode cX8_back 28 = .ok (.getfield 23, 3) := by decide +kernel
theorem dX8_back_31 : decode cX8_back 31 = .ok (.iload_n 1, 1) := by decide +kernel
theorem dX8_back_32 : decode cX8_back 32 = .ok (.aaload, 1) := by decide +kernel
theorem dX8_back_33 : decode cX8_back 33 = .ok (.invokevirtual 60, 3) := by decide +kernel
theorem dX8_back_36 : decode cX8_back 36 = .ok (.aload_n 0, 1) := by decide +kernel
theorem dX8_back_37 : decode cX8_back 37 = .ok (.getfield 19, 3) := by decide +kernel
theorem dX8_back_40 : decode cX8_back 40 = .ok (.invokevirtual 63, 3) := by decide +kernel
theorem dX8_back_43 : decode cX8_back 43 = .ok (.aload_n 0, 1) := by decide +kernel
theorem dX8_back_44 : decode cX8_back 44 = .ok (.getfield 43, 3) := by decide +kernel
theorem dX8_back_47 : decode cX8_back 47 = .ok (.invokevirtual 66, 3) := by decide +kernel
theorem dX8_back_50 : decode cX8_back 50 = .ok (.aload_n 0, 1) := by decide +kernel
theorem dX8_back_51 : decode cX8_back 51 = .ok (.getfield 10, 3) := by decide +kernel
theorem dX8_back_54 : decode cX8_back 54 = .ok (.invokevirtual 75, 3) := by decide +kernel
theorem dX8_back_57 : decode cX8_back 57 = .ok (.ireturn, 1) := by decide +kernel
theorem dX8_count_0 : decode cX8_count 0 = .ok (.iload_n 1, 1) := by decide +kernel
theorem dX8_count_1 : decode cX8_count 1 = .ok (.tableswitch 114 0 7 #[47, 55, 66, 74, 82, 90, 98, 106], 47) := by decide +kernel
theorem dX8_count_48 : decode cX8_count 48 = .ok (.aload_n 0, 1) := by decide +kernel
theorem dX8_count_49 : decode cX8_count 49 = .ok (.getfield 10, 3) := by decide +kernel
theorem dX8_count_52 : decode cX8_count 52 = .ok (.invokevirtual 75, 3) := by decide +kernel
theorem dX8_count_55 : decode cX8_count 55 = .ok (.ireturn, 1) := by decide +kernel
theorem dX8_count_56 : decode cX8_count 56 = .ok (.aload_n 0, 1) := by decide +kernel
theorem dX8_count_57 : decode cX8_count 57 = .ok (.getfield 43, 3) := by decide +kernel
theorem dX8_count_60 : decode cX8_count 60 = .ok (.invokevirtual 94, 3) := by decide +kernel
theorem dX8_count_63 : decode cX8_count 63 = .ok (.getfield 142, 3) := by decide +kernel
theorem dX8_count_66 : decode cX8_count 66 = .ok (.ireturn, 1) := by decide +kernel
theorem dX8_count_67 : decode cX8_count 67 = .ok (.aload_n 0, 1) := by decide +kernel
theorem dX8_count_68 : decode cX8_count 68 = .ok (.getfield 10, 3) := by decide +kernel
theorem dX8_count_71 : decode cX8_count 71 = .ok (.getfield 84, 3) := by decide +kernel
theorem dX8_count_74 : decode cX8_count 74 = .ok (.ireturn, 1) := by decide +kernel
theorem dX8_count_75 : decode cX8_count 75 = .ok (.aload_n 0, 1) := by decide +kernel
theorem dX8_count_76 : decode cX8_count 76 = .ok (.getfield 10, 3) := by decide +kernel
theorem dX8_count_79 : decode cX8_count 79 = .ok (.getfield 87, 3) := by decide +kernel
theorem dX8_count_82 : decode cX8_count 82 = .ok (.ireturn, 1) := by decide +kernel
theorem dX8_count_83 : decode cX8_count 83 = .ok (.aload_n 0, 1) := by decide +kernel
theorem dX8_count_84 : decode cX8_count 84 = .ok (.getfield 10, 3) := by decide +kernel
theorem dX8_count_87 : decode cX8_count 87 = .ok (.getfield 112, 3) := by decide +kernel
theorem dX8_count_90 : decode cX8_count 90 = .ok (.ireturn, 1) := by decide +kernel
theorem dX8_count_91 : decode cX8_count 91 = .ok (.aload_n 0, 1) := by decide +kernel
theorem dX8_count_92 : decode cX8_count 92 = .ok (.getfield 10, 3) := by decide +kernel
theorem dX8_count_95 : decode cX8_count 95 = .ok (.invokevirtual 171, 3) := by decide +kernel
theorem dX8_count_98 : decode cX8_count 98 = .ok (.ireturn, 1) := by decide +kernel
theorem dX8_count_99 : decode cX8_count 99 = .ok (.aload_n 0, 1) := by decide +kernel
theorem dX8_count_100 : decode cX8_count 100 = .ok (.getfield 19, 3) := by decide +kernel
theorem dX8_count_103 : decode cX8_count 103 = .ok (.getfield 127, 3) := by decide +kernel
theorem dX8_count_106 : decode cX8_count 106 = .ok (.ireturn, 1) := by decide +kernel
theorem dX8_count_107 : decode cX8_count 107 = .ok (.aload_n 0, 1) := by decide +kernel
theorem dX8_count_108 : decode cX8_count 108 = .ok (.getfield 34, 3) := by decide +kernel
theorem dX8_count_111 : decode cX8_count 111 = .ok (.getfield 51, 3) := by decide +kernel
theorem dX8_count_114 : decode cX8_count 114 = .ok (.ireturn, 1) := by decide +kernel
theorem dX8_count_115 : decode cX8_count 115 = .ok (.iconst (-1), 1) := by decide +kernel
theorem dX8_count_116 : decode cX8_count 116 = .ok (.ireturn, 1) := by decide +kernel
theorem dX8_aheadOfChange_0 : decode cX8_aheadOfChange 0 = .ok (.aload_n 0, 1) := by decide +kernel
theorem dX8_aheadOfChange_1 : decode cX8_aheadOfChange 1 = .ok (.getfield 19, 3) := by decide +kernel
theorem dX8_aheadOfChange_4 : decode cX8_aheadOfChange 4 = .ok (.aload_n 0, 1) := by decide +kernel
theorem dX8_aheadOfChange_5 : decode cX8_aheadOfChange 5 = .ok (.getfield 10, 3) := by decide +kernel
theorem dX8_aheadOfChange_8 : decode cX8_aheadOfChange 8 = .ok (.invokevirtual 174, 3) := by decide +kernel
theorem dX8_aheadOfChange_11 : decode cX8_aheadOfChange 11 = .ok (.aload_n 0, 1) := by decide +kernel
theorem dX8_aheadOfChange_12 : decode cX8_aheadOfChange 12 = .ok (.getfield 43, 3) := by decide +kernel
theorem dX8_aheadOfChange_15 : decode cX8_aheadOfChange 15 = .ok (.invokevirtual 66, 3) := by decide +kernel
theorem dX8_aheadOfChange_18 : decode cX8_aheadOfChange 18 = .ok (.return_, 1) := by decide +kernel
theorem dX8_beginning_0 : decode cX8_beginning 0 = .ok (.iload_n 2, 1) := by decide +kernel
theorem dX8_beginning_1 : decode cX8_beginning 1 = .ok (.iconst (-1), 1) := by decide +kernel
theorem dX8_beginning_2 : decode cX8_beginning 2 = .ok (.if_icmp .lt 11, 3) := by decide +kernel
theorem dX8_beginning_5 : decode cX8_beginning 5 = .ok (.iload_n 2, 1) := by decide +kernel
theorem dX8_beginning_6 : decode cX8_beginning 6 = .ok (.aload_n 1, 1) := by decide +kernel
theorem dX8_beginning_7 : decode cX8_beginning 7 = .ok (.getfield 102, 3) := by decide +kernel
theorem dX8_beginning_10 : decode cX8_beginning 10 = .ok (.if_icmp .lt 5, 3) := by decide +kernel
theorem dX8_beginning_13 : decode cX8_beginning 13 = .ok (.iconst (-1), 1) := by decide +kernel
theorem dX8_beginning_14 : decode cX8_beginning 14 = .ok (.ireturn, 1) := by decide +kernel
theorem dX8_beginning_15 : decode cX8_beginning 15 = .ok (.iload_n 2, 1) := by decide +kernel
theorem dX8_beginning_16 : decode cX8_beginning 16 = .ok (.iconst (-1), 1) := by decide +kernel
theorem dX8_beginning_17 : decode cX8_beginning 17 = .ok (.if_icmp .ne 10, 3) := by decide +kernel
theorem dX8_beginning_20 : decode cX8_beginning 20 = .ok (.aload_n 1, 1) := by decide +kernel
theorem dX8_beginning_21 : decode cX8_beginning 21 = .ok (.getfield 102, 3) := by decide +kernel
theorem dX8_beginning_24 : decode cX8_beginning 24 = .ok (.goto 18, 3) := by decide +kernel
theorem dX8_beginning_27 : decode cX8_beginning 27 = .ok (.aload_n 0, 1) := by decide +kernel
theorem dX8_beginning_28 : decode cX8_beginning 28 = .ok (.getfield 43, 3) := by decide +kernel
theorem dX8_beginning_31 : decode cX8_beginning 31 = .ok (.invokevirtual 94, 3) := by decide +kernel
theorem dX8_beginning_34 : decode cX8_beginning 34 = .ok (.aload_n 1, 1) := by decide +kernel
theorem dX8_beginning_35 : decode cX8_beginning 35 = .ok (.iload_n 2, 1) := by decide +kernel
theorem dX8_beginning_36 : decode cX8_beginning 36 = .ok (.invokevirtual 118, 3) := by decide +kernel
theorem dX8_beginning_39 : decode cX8_beginning 39 = .ok (.invokevirtual 122, 3) := by decide +kernel
theorem dX8_beginning_42 : decode cX8_beginning 42 = .ok (.ireturn, 1) := by decide +kernel
theorem dX8_strangeBorders_0 : decode cX8_strangeBorders 0 = .ok (.iconst 0, 1) := by decide +kernel
theorem dX8_strangeBorders_1 : decode cX8_strangeBorders 1 = .ok (.istore_n 3, 1) := by decide +kernel
theorem dX8_strangeBorders_2 : decode cX8_strangeBorders 2 = .ok (.iconst 1, 1) := by decide +kernel
theorem dX8_strangeBorders_3 : decode cX8_strangeBorders 3 = .ok (.istore 4, 2) := by decide +kernel
theorem dX8_strangeBorders_5 : decode cX8_strangeBorders 5 = .ok (.iload 4, 2) := by decide +kernel
theorem dX8_strangeBorders_7 : decode cX8_strangeBorders 7 = .ok (.aload_n 1, 1) := by decide +kernel
theorem dX8_strangeBorders_8 : decode cX8_strangeBorders 8 = .ok (.getfield 102, 3) := by decide +kernel
theorem dX8_strangeBorders_11 : decode cX8_strangeBorders 11 = .ok (.if_icmp .ge 32, 3) := by decide +kernel
theorem dX8_strangeBorders_14 : decode cX8_strangeBorders 14 = .ok (.aload_n 0, 1) := by decide +kernel
theorem dX8_strangeBorders_15 : decode cX8_strangeBorders 15 = .ok (.getfield 10, 3) := by decide +kernel
theorem dX8_strangeBorders_18 : decode cX8_strangeBorders 18 = .ok (.aload_n 2, 1) := by decide +kernel
theorem dX8_strangeBorders_19 : decode cX8_strangeBorders 19 = .ok (.aload_n 1, 1) := by decide +kernel
theorem dX8_strangeBorders_20 : decode cX8_strangeBorders 20 = .ok (.iload 4, 2) := by decide +kernel
theorem dX8_strangeBorders_22 : decode cX8_strangeBorders 22 = .ok (.invokevirtual 118, 3) := by decide +kernel
theorem dX8_strangeBorders_25 : decode cX8_strangeBorders 25 = .ok (.invokevirtual 122, 3) := by decide +kernel
theorem dX8_strangeBorders_28 : decode cX8_strangeBorders 28 = .ok (.invokevirtual 177, 3) := by decide +kernel
theorem dX8_strangeBorders_31 : decode cX8_strangeBorders 31 = .ok (.ifCond .ne 6, 3) := by decide +kernel
theorem dX8_strangeBorders_34 : decode cX8_strangeBorders 34 = .ok (.iinc 3 1, 3) := by decide +kernel
theorem dX8_strangeBorders_37 : decode cX8_strangeBorders 37 = .ok (.iinc 4 1, 3) := by decide +kernel
theorem dX8_strangeBorders_40 : decode cX8_strangeBorders 40 = .ok (.goto (-35), 3) := by decide +kernel
theorem dX8_strangeBorders_43 : decode cX8_strangeBorders 43 = .ok (.iload_n 3, 1) := by decide +kernel
theorem dX8_strangeBorders_44 : decode cX8_strangeBorders 44 = .ok (.ireturn, 1) := by decide +kernel
theorem dX8_isClasses_0 : decode cX8_isClasses 0 = .ok (.iload_n 0, 1) := by decide +kernel
theorem dX8_isClasses_1 : decode cX8_isClasses 1 = .ok (.iconst 1, 1) := by decide +kernel
theorem dX8_isClasses_2 : decode cX8_isClasses 2 = .ok (.if_icmp .lt 13, 3) := by decide +kernel
theorem dX8_isClasses_5 : decode cX8_isClasses 5 = .ok (.iload_n 0, 1) := by decide +kernel
theorem dX8_isClasses_6 : decode cX8_isClasses 6 = .ok (.bipush 6, 2) := by decide +kernel
theorem dX8_isClasses_8 : decode cX8_isClasses 8 = .ok (.if_icmp .gt 7, 3) := by decide +kernel
theorem dX8_isClasses_11 : decode cX8_isClasses 11 = .ok (.iconst 1, 1) := by decide +kernel
theorem dX8_isClasses_12 : decode cX8_isClasses 12 = .ok (.goto 4, 3) := by decide +kernel
theorem dX8_isClasses_15 : decode cX8_isClasses 15 = .ok (.iconst 0, 1) := by decide +kernel
theorem dX8_isClasses_16 : decode cX8_isClasses 16 = .ok (.ireturn, 1) := by decide +kernel
theorem dX8_isSide_0 : decode cX8_isSide 0 = .ok (.iload_n 0, 1) := by decide +kernel
theorem dX8_isSide_1 : decode cX8_isSide 1 = .ok (.ifCond .lt 13, 3) := by decide +kernel
theorem dX8_isSide_4 : decode cX8_isSide 4 = .ok (.iload_n 0, 1) := by decide +kernel
theorem dX8_isSide_5 : decode cX8_isSide 5 = .ok (.bipush 10, 2) := by decide +kernel
theorem dX8_isSide_7 : decode cX8_isSide 7 = .ok (.if_icmp .ge 7, 3) := by decide +kernel
theorem dX8_isSide_10 : decode cX8_isSide 10 = .ok (.iconst 1, 1) := by decide +kernel
theorem dX8_isSide_11 : decode cX8_isSide 11 = .ok (.goto 4, 3) := by decide +kernel
theorem dX8_isSide_14 : decode cX8_isSide 14 = .ok (.iconst 0, 1) := by decide +kernel
theorem dX8_isSide_15 : decode cX8_isSide 15 = .ok (.ireturn, 1) := by decide +kernel
theorem dX8_cellOf_0 : decode cX8_cellOf 0 = .ok (.iload_n 0, 1) := by decide +kernel
theorem dX8_cellOf_1 : decode cX8_cellOf 1 = .ok (.invokestatic 180, 3) := by decide +kernel
theorem dX8_cellOf_4 : decode cX8_cellOf 4 = .ok (.ifCond .eq 19, 3) := by decide +kernel
theorem dX8_cellOf_7 : decode cX8_cellOf 7 = .ok (.iload_n 1, 1) := by decide +kernel
theorem dX8_cellOf_8 : decode cX8_cellOf 8 = .ok (.invokestatic 180, 3) := by decide +kernel
theorem dX8_cellOf_11 : decode cX8_cellOf 11 = .ok (.ifCond .eq 12, 3) := by decide +kernel
theorem dX8_cellOf_14 : decode cX8_cellOf 14 = .ok (.iload_n 0, 1) := by decide +kernel
theorem dX8_cellOf_15 : decode cX8_cellOf 15 = .ok (.bipush 10, 2) := by decide +kernel
theorem dX8_cellOf_17 : decode cX8_cellOf 17 = .ok (.imul, 1) := by decide +kernel
theorem dX8_cellOf_18 : decode cX8_cellOf 18 = .ok (.iload_n 1, 1) := by decide +kernel
theorem dX8_cellOf_19 : decode cX8_cellOf 19 = .ok (.iadd, 1) := by decide +kernel
theorem dX8_cellOf_20 : decode cX8_cellOf 20 = .ok (.goto 4, 3) := by decide +kernel
theorem dX8_cellOf_23 : decode cX8_cellOf 23 = .ok (.iconst (-1), 1) := by decide +kernel
theorem dX8_cellOf_24 : decode cX8_cellOf 24 = .ok (.ireturn, 1) := by decide +kernel
theorem dX8_tintOf_0 : decode cX8_tintOf 0 = .ok (.iload_n 1, 1) := by decide +kernel
theorem dX8_tintOf_1 : decode cX8_tintOf 1 = .ok (.iconst 2, 1) := by decide +kernel
theorem dX8_tintOf_2 : decode cX8_tintOf 2 = .ok (.if_icmp .ge 7, 3) := by decide +kernel
theorem dX8_tintOf_5 : decode cX8_tintOf 5 = .ok (.sipush 255, 3) := by decide +kernel
theorem dX8_tintOf_8 : decode cX8_tintOf 8 = .ok (.ireturn, 1) := by decide +kernel
theorem dX8_tintOf_9 : decode cX8_tintOf 9 = .ok (.sipush 255, 3) := by decide +kernel
theorem dX8_tintOf_12 : decode cX8_tintOf 12 = .ok (.ldc 183, 2) := by decide +kernel
theorem dX8_tintOf_14 : decode cX8_tintOf 14 = .ok (.iload_n 0, 1) := by decide +kernel
theorem dX8_tintOf_15 : decode cX8_tintOf 15 = .ok (.i2f, 1) := by decide +kernel
theorem dX8_tintOf_16 : decode cX8_tintOf 16 = .ok (.fmul, 1) := by decide +kernel
theorem dX8_tintOf_17 : decode cX8_tintOf 17 = .ok (.iload_n 1, 1) := by decide +kernel
theorem dX8_tintOf_18 : decode cX8_tintOf 18 = .ok (.iconst 1, 1) := by decide +kernel
theorem dX8_tintOf_19 : decode cX8_tintOf 19 = .ok (.isub, 1) := by decide +kernel
theorem dX8_tintOf_20 : decode cX8_tintOf 20 = .ok (.i2f, 1) := by decide +kernel
theorem dX8_tintOf_21 : decode cX8_tintOf 21 = .ok (.fdiv, 1) := by decide +kernel
theorem dX8_tintOf_22 : decode cX8_tintOf 22 = .ok (.f2i, 1) := by decide +kernel
theorem dX8_tintOf_23 : decode cX8_tintOf 23 = .ok (.isub, 1) := by decide +kernel
theorem dX8_tintOf_24 : decode cX8_tintOf 24 = .ok (.ireturn, 1) := by decide +kernel
theorem dX8_inLeastTerms_0 : decode cX8_inLeastTerms 0 = .ok (.lload_n 0, 1) := by decide +kernel
theorem dX8_inLeastTerms_1 : decode cX8_inLeastTerms 1 = .ok (.ldc2_w 184, 3) := by decide +kernel
theorem dX8_inLeastTerms_4 : decode cX8_inLeastTerms 4 = .ok (.invokestatic 186, 3) := by decide +kernel
theorem dX8_inLeastTerms_7 : decode cX8_inLeastTerms 7 = .ok (.lstore_n 3, 1) := by decide +kernel
theorem dX8_inLeastTerms_8 : decode cX8_inLeastTerms 8 = .ok (.lload_n 3, 1) := by decide +kernel
theorem dX8_inLeastTerms_9 : decode cX8_inLeastTerms 9 = .ok (.lconst 1, 1) := by decide +kernel
theorem dX8_inLeastTerms_10 : decode cX8_inLeastTerms 10 = .ok (.lcmp, 1) := by decide +kernel
theorem dX8_inLeastTerms_11 : decode cX8_inLeastTerms 11 = .ok (.ifCond .ge 7, 3) := by decide +kernel
theorem dX8_inLeastTerms_14 : decode cX8_inLeastTerms 14 = .ok (.ldc2_w 152, 3) := by decide +kernel
theorem dX8_inLeastTerms_17 : decode cX8_inLeastTerms 17 = .ok (.lreturn, 1) := by decide +kernel
theorem dX8_inLeastTerms_18 : decode cX8_inLeastTerms 18 = .ok (.iload_n 2, 1) := by decide +kernel
theorem dX8_inLeastTerms_19 : decode cX8_inLeastTerms 19 = .ok (.ifCond .eq 7, 3) := by decide +kernel
theorem dX8_inLeastTerms_22 : decode cX8_inLeastTerms 22 = .ok (.lload_n 0, 1) := by decide +kernel
theorem dX8_inLeastTerms_23 : decode cX8_inLeastTerms 23 = .ok (.goto 6, 3) := by decide +kernel
theorem dX8_inLeastTerms_26 : decode cX8_inLeastTerms 26 = .ok (.ldc2_w 184, 3) := by decide +kernel
theorem dX8_inLeastTerms_29 : decode cX8_inLeastTerms 29 = .ok (.lload_n 3, 1) := by decide +kernel
theorem dX8_inLeastTerms_30 : decode cX8_inLeastTerms 30 = .ok (.ldiv, 1) := by decide +kernel
theorem dX8_inLeastTerms_31 : decode cX8_inLeastTerms 31 = .ok (.lreturn, 1) := by decide +kernel
theorem dX8_commonDivisor_0 : decode cX8_commonDivisor 0 = .ok (.lload_n 0, 1) := by decide +kernel
theorem dX8_commonDivisor_1 : decode cX8_commonDivisor 1 = .ok (.lstore 4, 2) := by decide +kernel
theorem dX8_commonDivisor_3 : decode cX8_commonDivisor 3 = .ok (.lload_n 2, 1) := by decide +kernel
theorem dX8_commonDivisor_4 : decode cX8_commonDivisor 4 = .ok (.lstore 6, 2) := by decide +kernel
theorem dX8_commonDivisor_6 : decode cX8_commonDivisor 6 = .ok (.iconst 0, 1) := by decide +kernel
theorem dX8_commonDivisor_7 : decode cX8_commonDivisor 7 = .ok (.istore 8, 2) := by decide +kernel
theorem dX8_commonDivisor_9 : decode cX8_commonDivisor 9 = .ok (.iload 8, 2) := by decide +kernel
theorem dX8_commonDivisor_11 : decode cX8_commonDivisor 11 = .ok (.bipush 100, 2) := by decide +kernel
theorem dX8_commonDivisor_13 : decode cX8_commonDivisor 13 = .ok (.if_icmp .ge 31, 3) := by decide +kernel
theorem dX8_commonDivisor_16 : decode cX8_commonDivisor 16 = .ok (.lload 6, 2) := by decide +kernel
theorem dX8_commonDivisor_18 : decode cX8_commonDivisor 18 = .ok (.lconst 0, 1) := by decide +kernel
theorem dX8_commonDivisor_19 : decode cX8_commonDivisor 19 = .ok (.lcmp, 1) := by decide +kernel
theorem dX8_commonDivisor_20 : decode cX8_commonDivisor 20 = .ok (.ifCond .eq 24, 3) := by decide +kernel
theorem dX8_commonDivisor_23 : decode cX8_commonDivisor 23 = .ok (.lload 4, 2) := by decide +kernel
theorem dX8_commonDivisor_25 : decode cX8_commonDivisor 25 = .ok (.lload 6, 2) := by decide +kernel
theorem dX8_commonDivisor_27 : decode cX8_commonDivisor 27 = .ok (.lrem, 1) := by decide +kernel
theorem dX8_commonDivisor_28 : decode cX8_commonDivisor 28 = .ok (.lstore 9, 2) := by decide +kernel
theorem dX8_commonDivisor_30 : decode cX8_commonDivisor 30 = .ok (.lload 6, 2) := by decide +kernel
theorem dX8_commonDivisor_32 : decode cX8_commonDivisor 32 = .ok (.lstore 4, 2) := by decide +kernel
theorem dX8_commonDivisor_34 : decode cX8_commonDivisor 34 = .ok (.lload 9, 2) := by decide +kernel
theorem dX8_commonDivisor_36 : decode cX8_commonDivisor 36 = .ok (.lstore 6, 2) := by decide +kernel
theorem dX8_commonDivisor_38 : decode cX8_commonDivisor 38 = .ok (.iinc 8 1, 3) := by decide +kernel
theorem dX8_commonDivisor_41 : decode cX8_commonDivisor 41 = .ok (.goto (-32), 3) := by decide +kernel
theorem dX8_commonDivisor_44 : decode cX8_commonDivisor 44 = .ok (.lload 4, 2) := by decide +kernel
theorem dX8_commonDivisor_46 : decode cX8_commonDivisor 46 = .ok (.lreturn, 1) := by decide +kernel
theorem dJ9_max_7cf53_0 : decode cJ9_max_7cf53 0 = .ok (.iload_n 0, 1) := by decide +kernel
theorem dJ9_max_7cf53_1 : decode cJ9_max_7cf53 1 = .ok (.iload_n 1, 1) := by decide +kernel
theorem dJ9_max_7cf53_2 : decode cJ9_max_7cf53 2 = .ok (.if_icmp .lt 7, 3) := by decide +kernel
theorem dJ9_max_7cf53_5 : decode cJ9_max_7cf53 5 = .ok (.iload_n 0, 1) := by decide +kernel
theorem dJ9_max_7cf53_6 : decode cJ9_max_7cf53 6 = .ok (.goto 4, 3) := by decide +kernel
theorem dJ9_max_7cf53_9 : decode cJ9_max_7cf53 9 = .ok (.iload_n 1, 1) := by decide +kernel
theorem dJ9_max_7cf53_10 : decode cJ9_max_7cf53 10 = .ok (.ireturn, 1) := by decide +kernel
theorem dJ9_min_7cf53_0 : decode cJ9_min_7cf53 0 = .ok (.iload_n 0, 1) := by decide +kernel
theorem dJ9_min_7cf53_1 : decode cJ9_min_7cf53 1 = .ok (.iload_n 1, 1) := by decide +kernel
theorem dJ9_min_7cf53_2 : decode cJ9_min_7cf53 2 = .ok (.if_icmp .gt 7, 3) := by decide +kernel
theorem dJ9_min_7cf53_5 : decode cJ9_min_7cf53 5 = .ok (.iload_n 0, 1) := by decide +kernel
theorem dJ9_min_7cf53_6 : decode cJ9_min_7cf53 6 = .ok (.goto 4, 3) := by decide +kernel
theorem dJ9_min_7cf53_9 : decode cJ9_min_7cf53 9 = .ok (.iload_n 1, 1) := by decide +kernel
theorem dJ9_min_7cf53_10 : decode cJ9_min_7cf53 10 = .ok (.ireturn, 1) := by decide +kernel
theorem dJ7_fill_53178_0 : decode cJ7_fill_53178 0 = .ok (.iconst 0, 1) := by decide +kernel
theorem dJ7_fill_53178_1 : decode cJ7_fill_53178 1 = .ok (.istore_n 2, 1) := by decide +kernel
theorem dJ7_fill_53178_2 : decode cJ7_fill_53178 2 = .ok (.aload_n 0, 1) := by decide +kernel
theorem dJ7_fill_53178_3 : decode cJ7_fill_53178 3 = .ok (.arraylength, 1) := by decide +kernel
theorem dJ7_fill_53178_4 : decode cJ7_fill_53178 4 = .ok (.istore_n 3, 1) := by decide +kernel
theorem dJ7_fill_53178_5 : decode cJ7_fill_53178 5 = .ok (.iload_n 2, 1) := by decide +kernel
theorem dJ7_fill_53178_6 : decode cJ7_fill_53178 6 = .ok (.iload_n 3, 1) := by decide +kernel
theorem dJ7_fill_53178_7 : decode cJ7_fill_53178 7 = .ok (.if_icmp .ge 13, 3) := by decide +kernel
theorem dJ7_fill_53178_10 : decode cJ7_fill_53178 10 = .ok (.aload_n 0, 1) := by decide +kernel
theorem dJ7_fill_53178_11 : decode cJ7_fill_53178 11 = .ok (.iload_n 2, 1) := by decide +kernel
theorem dJ7_fill_53178_12 : decode cJ7_fill_53178 12 = .ok (.iload_n 1, 1) := by decide +kernel
theorem dJ7_fill_53178_13 : decode cJ7_fill_53178 13 = .ok (.iastore, 1) := by decide +kernel
theorem dJ7_fill_53178_14 : decode cJ7_fill_53178 14 = .ok (.iinc 2 1, 3) := by decide +kernel
theorem dJ7_fill_53178_17 : decode cJ7_fill_53178 17 = .ok (.goto (-12), 3) := by decide +kernel
theorem dJ7_fill_53178_20 : decode cJ7_fill_53178 20 = .ok (.return_, 1) := by decide +kernel
