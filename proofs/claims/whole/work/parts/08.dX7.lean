theorem dX7_init_0 : decode cX7_init 0 = .ok (.aload_n 0, 1) := by decide +kernel
theorem dX7_init_1 : decode cX7_init 1 = .ok (.invokespecial 1, 3) := by decide +kernel
theorem dX7_init_4 : decode cX7_init 4 = .ok (.aload_n 0, 1) := by decide +kernel
theorem dX7_init_5 : decode cX7_init 5 = .ok (.iload_n 1, 1) := by decide +kernel
theorem dX7_init_6 : decode cX7_init 6 = .ok (.newarray .int, 2) := by decide +kernel
theorem dX7_init_8 : decode cX7_init 8 = .ok (.putfield 7, 3) := by decide +kernel
theorem dX7_init_11 : decode cX7_init 11 = .ok (.return_, 1) := by decide +kernel
theorem dX7_clear_0 : decode cX7_clear 0 = .ok (.aload_n 0, 1) := by decide +kernel
theorem dX7_clear_1 : decode cX7_clear 1 = .ok (.iconst 0, 1) := by decide +kernel
theorem dX7_clear_2 : decode cX7_clear 2 = .ok (.putfield 13, 3) := by decide +kernel
theorem dX7_clear_5 : decode cX7_clear 5 = .ok (.aload_n 0, 1) := by decide +kernel
theorem dX7_clear_6 : decode cX7_clear 6 = .ok (.iconst 0, 1) := by decide +kernel
theorem dX7_clear_7 : decode cX7_clear 7 = .ok (.putfield 17, 3) := by decide +kernel
theorem dX7_clear_10 : decode cX7_clear 10 = .ok (.return_, 1) := by decide +kernel
theorem dX7_copy_0 : decode cX7_copy 0 = .ok (.aload_n 1, 1) := by decide +kernel
theorem dX7_copy_1 : decode cX7_copy 1 = .ok (.getfield 7, 3) := by decide +kernel
theorem dX7_copy_4 : decode cX7_copy 4 = .ok (.iconst 0, 1) := by decide +kernel
theorem dX7_copy_5 : decode cX7_copy 5 = .ok (.aload_n 0, 1) := by decide +kernel
theorem dX7_copy_6 : decode cX7_copy 6 = .ok (.getfield 7, 3) := by decide +kernel
theorem dX7_copy_9 : decode cX7_copy 9 = .ok (.iconst 0, 1) := by decide +kernel
theorem dX7_copy_10 : decode cX7_copy 10 = .ok (.aload_n 1, 1) := by decide +kernel
theorem dX7_copy_11 : decode cX7_copy 11 = .ok (.getfield 13, 3) := by decide +kernel
theorem dX7_copy_14 : decode cX7_copy 14 = .ok (.invokestatic 20, 3) := by decide +kernel
theorem dX7_copy_17 : decode cX7_copy 17 = .ok (.aload_n 0, 1) := by decide +kernel
theorem dX7_copy_18 : decode cX7_copy 18 = .ok (.aload_n 1, 1) := by decide +kernel
theorem dX7_copy_19 : decode cX7_copy 19 = .ok (.getfield 13, 3) := by decide +kernel
theorem dX7_copy_22 : decode cX7_copy 22 = .ok (.putfield 13, 3) := by decide +kernel
theorem dX7_copy_25 : decode cX7_copy 25 = .ok (.aload_n 0, 1) := by decide +kernel
theorem dX7_copy_26 : decode cX7_copy 26 = .ok (.aload_n 1, 1) := by decide +kernel
theorem dX7_copy_27 : decode cX7_copy 27 = .ok (.getfield 17, 3) := by decide +kernel
theorem dX7_copy_30 : decode cX7_copy 30 = .ok (.putfield 17, 3) := by decide +kernel
theorem dX7_copy_33 : decode cX7_copy 33 = .ok (.return_, 1) := by decide +kernel
theorem dX7_of_0 : decode cX7_of 0 = .ok (.lload_n 1, 1) := by decide +kernel
theorem dX7_of_1 : decode cX7_of 1 = .ok (.lconst 0, 1) := by decide +kernel
theorem dX7_of_2 : decode cX7_of 2 = .ok (.lcmp, 1) := by decide +kernel
theorem dX7_of_3 : decode cX7_of 3 = .ok (.ifCond .ge 8, 3) := by decide +kernel
theorem dX7_of_6 : decode cX7_of 6 = .ok (.lload_n 1, 1) := by decide +kernel
theorem dX7_of_7 : decode cX7_of 7 = .ok (.lneg, 1) := by decide +kernel
theorem dX7_of_8 : decode cX7_of 8 = .ok (.goto 4, 3) := by decide +kernel
theorem dX7_of_11 : decode cX7_of 11 = .ok (.lload_n 1, 1) := by decide +kernel
theorem dX7_of_12 : decode cX7_of 12 = .ok (.lstore_n 3, 1) := by decide +kernel
theorem dX7_of_13 : decode cX7_of 13 = .ok (.aload_n 0, 1) := by decide +kernel
theorem dX7_of_14 : decode cX7_of 14 = .ok (.getfield 7, 3) := by decide +kernel
theorem dX7_of_17 : decode cX7_of 17 = .ok (.iconst 0, 1) := by decide +kernel
theorem dX7_of_18 : decode cX7_of 18 = .ok (.lload_n 3, 1) := by decide +kernel
theorem dX7_of_19 : decode cX7_of 19 = .ok (.l2i, 1) := by decide +kernel
theorem dX7_of_20 : decode cX7_of 20 = .ok (.iastore, 1) := by decide +kernel
theorem dX7_of_21 : decode cX7_of 21 = .ok (.aload_n 0, 1) := by decide +kernel
theorem dX7_of_22 : decode cX7_of 22 = .ok (.getfield 7, 3) := by decide +kernel
theorem dX7_of_25 : decode cX7_of 25 = .ok (.iconst 1, 1) := by decide +kernel
theorem dX7_of_26 : decode cX7_of 26 = .ok (.lload_n 3, 1) := by decide +kernel
theorem dX7_of_27 : decode cX7_of 27 = .ok (.bipush 32, 2) := by decide +kernel
theorem dX7_of_29 : decode cX7_of 29 = .ok (.lushr, 1) := by decide +kernel
theorem dX7_of_30 : decode cX7_of 30 = .ok (.l2i, 1) := by decide +kernel
theorem dX7_of_31 : decode cX7_of 31 = .ok (.iastore, 1) := by decide +kernel
theorem dX7_of_32 : decode cX7_of 32 = .ok (.aload_n 0, 1) := by decide +kernel
theorem dX7_of_33 : decode cX7_of 33 = .ok (.iconst 2, 1) := by decide +kernel
theorem dX7_of_34 : decode cX7_of 34 = .ok (.putfield 13, 3) := by decide +kernel
theorem dX7_of_37 : decode cX7_of 37 = .ok (.aload_n 0, 1) := by decide +kernel
theorem dX7_of_38 : decode cX7_of 38 = .ok (.lload_n 1, 1) := by decide +kernel
theorem dX7_of_39 : decode cX7_of 39 = .ok (.lconst 0, 1) := by decide +kernel
theorem dX7_of_40 : decode cX7_of 40 = .ok (.lcmp, 1) := by decide +kernel
theorem dX7_of_41 : decode cX7_of 41 = .ok (.ifCond .ge 7, 3) := by decide +kernel
theorem dX7_of_44 : decode cX7_of 44 = .ok (.iconst (-1), 1) := by decide +kernel
theorem dX7_of_45 : decode cX7_of 45 = .ok (.goto 14, 3) := by decide +kernel
theorem dX7_of_48 : decode cX7_of 48 = .ok (.lload_n 1, 1) := by decide +kernel
theorem dX7_of_49 : decode cX7_of 49 = .ok (.lconst 0, 1) := by decide +kernel
theorem dX7_of_50 : decode cX7_of 50 = .ok (.lcmp, 1) := by decide +kernel
theorem dX7_of_51 : decode cX7_of 51 = .ok (.ifCond .le 7, 3) := by decide +kernel
theorem dX7_of_54 : decode cX7_of 54 = .ok (.iconst 1, 1) := by decide +kernel
theorem dX7_of_55 : decode cX7_of 55 = .ok (.goto 4, 3) := by decide +kernel
theorem dX7_of_58 : decode cX7_of 58 = .ok (.iconst 0, 1) := by decide +kernel
theorem dX7_of_59 : decode cX7_of 59 = .ok (.putfield 17, 3) := by decide +kernel
theorem dX7_of_62 : decode cX7_of 62 = .ok (.aload_n 0, 1) := by decide +kernel
theorem dX7_of_63 : decode cX7_of 63 = .ok (.invokevirtual 26, 3) := by decide +kernel
theorem dX7_of_66 : decode cX7_of 66 = .ok (.return_, 1) := by decide +kernel
theorem dX7_trim_0 : decode cX7_trim 0 = .ok (.aload_n 0, 1) := by decide +kernel
theorem dX7_trim_1 : decode cX7_trim 1 = .ok (.getfield 13, 3) := by decide +kernel
theorem dX7_trim_4 : decode cX7_trim 4 = .ok (.ifCond .le 30, 3) := by decide +kernel
theorem dX7_trim_7 : decode cX7_trim 7 = .ok (.aload_n 0, 1) := by decide +kernel
theorem dX7_trim_8 : decode cX7_trim 8 = .ok (.getfield 7, 3) := by decide +kernel
theorem dX7_trim_11 : decode cX7_trim 11 = .ok (.aload_n 0, 1) := by decide +kernel
theorem dX7_trim_12 : decode cX7_trim 12 = .ok (.getfield 13, 3) := by decide +kernel
theorem dX7_trim_15 : decode cX7_trim 15 = .ok (.iconst 1, 1) := by decide +kernel
theorem dX7_trim_16 : decode cX7_trim 16 = .ok (.isub, 1) := by decide +kernel
theorem dX7_trim_17 : decode cX7_trim 17 = .ok (.iaload, 1) := by decide +kernel
theorem dX7_trim_18 : decode cX7_trim 18 = .ok (.ifCond .ne 16, 3) := by decide +kernel
theorem dX7_trim_21 : decode cX7_trim 21 = .ok (.aload_n 0, 1) := by decide +kernel
theorem dX7_trim_22 : decode cX7_trim 22 = .ok (.dup, 1) := by decide +kernel
theorem dX7_trim_23 : decode cX7_trim 23 = .ok (.getfield 13, 3) := by decide +kernel
theorem dX7_trim_26 : decode cX7_trim 26 = .ok (.iconst 1, 1) := by decide +kernel
theorem dX7_trim_27 : decode cX7_trim 27 = .ok (.isub, 1) := by decide +kernel
theorem dX7_trim_28 : decode cX7_trim 28 = .ok (.putfield 13, 3) := by decide +kernel
theorem dX7_trim_31 : decode cX7_trim 31 = .ok (.goto (-31), 3) := by decide +kernel
theorem dX7_trim_34 : decode cX7_trim 34 = .ok (.aload_n 0, 1) := by decide +kernel
theorem dX7_trim_35 : decode cX7_trim 35 = .ok (.aload_n 0, 1) := by decide +kernel
theorem dX7_trim_36 : decode cX7_trim 36 = .ok (.getfield 13, 3) := by decide +kernel
theorem dX7_trim_39 : decode cX7_trim 39 = .ok (.ifCond .ne 7, 3) := by decide +kernel
theorem dX7_trim_42 : decode cX7_trim 42 = .ok (.iconst 0, 1) := by decide +kernel
theorem dX7_trim_43 : decode cX7_trim 43 = .ok (.goto 7, 3) := by decide +kernel
theorem dX7_trim_46 : decode cX7_trim 46 = .ok (.aload_n 0, 1) := by decide +kernel
theorem dX7_trim_47 : decode cX7_trim 47 = .ok (.getfield 17, 3) := by decide +kernel
theorem dX7_trim_50 : decode cX7_trim 50 = .ok (.putfield 17, 3) := by decide +kernel
theorem dX7_trim_53 : decode cX7_trim 53 = .ok (.return_, 1) := by decide +kernel
theorem dX7_at_0 : decode cX7_at 0 = .ok (.iload_n 1, 1) := by decide +kernel
theorem dX7_at_1 : decode cX7_at 1 = .ok (.aload_n 0, 1) := by decide +kernel
theorem dX7_at_2 : decode cX7_at 2 = .ok (.getfield 13, 3) := by decide +kernel
theorem dX7_at_5 : decode cX7_at 5 = .ok (.if_icmp .ge 17, 3) := by decide +kernel
theorem dX7_at_8 : decode cX7_at 8 = .ok (.aload_n 0, 1) := by decide +kernel
theorem dX7_at_9 : decode cX7_at 9 = .ok (.getfield 7, 3) := by decide +kernel
theorem dX7_at_12 : decode cX7_at 12 = .ok (.iload_n 1, 1) := by decide +kernel
theorem dX7_at_13 : decode cX7_at 13 = .ok (.iaload, 1) := by decide +kernel
theorem dX7_at_14 : decode cX7_at 14 = .ok (.i2l, 1) := by decide +kernel
theorem dX7_at_15 : decode cX7_at 15 = .ok (.ldc2_w 29, 3) := by decide +kernel
theorem dX7_at_18 : decode cX7_at 18 = .ok (.land, 1) := by decide +kernel
theorem dX7_at_19 : decode cX7_at 19 = .ok (.goto 4, 3) := by decide +kernel
theorem dX7_at_22 : decode cX7_at 22 = .ok (.lconst 0, 1) := by decide +kernel
theorem dX7_at_23 : decode cX7_at 23 = .ok (.lreturn, 1) := by decide +kernel
theorem dX7_bits_0 : decode cX7_bits 0 = .ok (.aload_n 0, 1) := by decide +kernel
theorem dX7_bits_1 : decode cX7_bits 1 = .ok (.getfield 13, 3) := by decide +kernel
theorem dX7_bits_4 : decode cX7_bits 4 = .ok (.ifCond .ne 7, 3) := by decide +kernel
theorem dX7_bits_7 : decode cX7_bits 7 = .ok (.iconst 0, 1) := by decide +kernel
theorem dX7_bits_8 : decode cX7_bits 8 = .ok (.goto 25, 3) := by decide +kernel
theorem dX7_bits_11 : decode cX7_bits 11 = .ok (.bipush 32, 2) := by decide +kernel
theorem dX7_bits_13 : decode cX7_bits 13 = .ok (.aload_n 0, 1) := by decide +kernel
theorem dX7_bits_14 : decode cX7_bits 14 = .ok (.getfield 13, 3) := by decide +kernel
theorem dX7_bits_17 : decode cX7_bits 17 = .ok (.imul, 1) := by decide +kernel
theorem dX7_bits_18 : decode cX7_bits 18 = .ok (.aload_n 0, 1) := by decide +kernel
theorem dX7_bits_19 : decode cX7_bits 19 = .ok (.getfield 7, 3) := by decide +kernel
theorem dX7_bits_22 : decode cX7_bits 22 = .ok (.aload_n 0, 1) := by decide +kernel
theorem dX7_bits_23 : decode cX7_bits 23 = .ok (.getfield 13, 3) := by decide +kernel
theorem dX7_bits_26 : decode cX7_bits 26 = .ok (.iconst 1, 1) := by decide +kernel
theorem dX7_bits_27 : decode cX7_bits 27 = .ok (.isub, 1) := by decide +kernel
theorem dX7_bits_28 : decode cX7_bits 28 = .ok (.iaload, 1) := by decide +kernel
theorem dX7_bits_29 : decode cX7_bits 29 = .ok (.invokestatic 31, 3) := by decide +kernel
theorem dX7_bits_32 : decode cX7_bits 32 = .ok (.isub, 1) := by decide +kernel
theorem dX7_bits_33 : decode cX7_bits 33 = .ok (.ireturn, 1) := by decide +kernel
theorem dX7_compareSize_0 : decode cX7_compareSize 0 = .ok (.aload_n 0, 1) := by decide +kernel
theorem dX7_compareSize_1 : decode cX7_compareSize 1 = .ok (.getfield 13, 3) := by decide +kernel
theorem dX7_compareSize_4 : decode cX7_compareSize 4 = .ok (.aload_n 1, 1) := by decide +kernel
theorem dX7_compareSize_5 : decode cX7_compareSize 5 = .ok (.getfield 13, 3) := by decide +kernel
theorem dX7_compareSize_8 : decode cX7_compareSize 8 = .ok (.if_icmp .eq 20, 3) := by decide +kernel
theorem dX7_compareSize_11 : decode cX7_compareSize 11 = .ok (.aload_n 0, 1) := by decide +kernel
theorem dX7_compareSize_12 : decode cX7_compareSize 12 = .ok (.getfield 13, 3) := by decide +kernel
theorem dX7_compareSize_15 : decode cX7_compareSize 15 = .ok (.aload_n 1, 1) := by decide +kernel
theorem dX7_compareSize_16 : decode cX7_compareSize 16 = .ok (.getfield 13, 3) := by decide +kernel
theorem dX7_compareSize_19 : decode cX7_compareSize 19 = .ok (.if_icmp .ge 7, 3) := by decide +kernel
theorem dX7_compareSize_22 : decode cX7_compareSize 22 = .ok (.iconst (-1), 1) := by decide +kernel
theorem dX7_compareSize_23 : decode cX7_compareSize 23 = .ok (.goto 4, 3) := by decide +kernel
theorem dX7_compareSize_26 : decode cX7_compareSize 26 = .ok (.iconst 1, 1) := by decide +kernel
theorem dX7_compareSize_27 : decode cX7_compareSize 27 = .ok (.ireturn, 1) := by decide +kernel
theorem dX7_compareSize_28 : decode cX7_compareSize 28 = .ok (.aload_n 0, 1) := by decide +kernel
theorem dX7_compareSize_29 : decode cX7_compareSize 29 = .ok (.getfield 13, 3) := by decide +kernel
theorem dX7_compareSize_32 : decode cX7_compareSize 32 = .ok (.iconst 1, 1) := by decide +kernel
theorem dX7_compareSize_33 : decode cX7_compareSize 33 = .ok (.isub, 1) := by decide +kernel
theorem dX7_compareSize_34 : decode cX7_compareSize 34 = .ok (.istore_n 2, 1) := by decide +kernel
theorem dX7_compareSize_35 : decode cX7_compareSize 35 = .ok (.iload_n 2, 1) := by decide +kernel
theorem dX7_compareSize_36 : decode cX7_compareSize 36 = .ok (.ifCond .lt 24, 3) := by decide +kernel
theorem dX7_compareSize_39 : decode cX7_compareSize 39 = .ok (.aload_n 0, 1) := by decide +kernel
theorem dX7_compareSize_40 : decode cX7_compareSize 40 = .ok (.getfield 7, 3) := by decide +kernel
theorem dX7_compareSize_43 : decode cX7_compareSize 43 = .ok (.iload_n 2, 1) := by decide +kernel
theorem dX7_compareSize_44 : decode cX7_compareSize 44 = .ok (.iaload, 1) := by decide +kernel
theorem dX7_compareSize_45 : decode cX7_compareSize 45 = .ok (.aload_n 1, 1) := by decide +kernel
theorem dX7_compareSize_46 : decode cX7_compareSize 46 = .ok (.getfield 7, 3) := by decide +kernel
theorem dX7_compareSize_49 : decode cX7_compareSize 49 = .ok (.iload_n 2, 1) := by decide +kernel
theorem dX7_compareSize_50 : decode cX7_compareSize 50 = .ok (.iaload, 1) := by decide +kernel
theorem dX7_compareSize_51 : decode cX7_compareSize 51 = .ok (.if_icmp .ne 9, 3) := by decide +kernel
theorem dX7_compareSize_54 : decode cX7_compareSize 54 = .ok (.iinc 2 (-1), 3) := by decide +kernel
theorem dX7_compareSize_57 : decode cX7_compareSize 57 = .ok (.goto (-22), 3) := by decide +kernel
theorem dX7_compareSize_60 : decode cX7_compareSize 60 = .ok (.iload_n 2, 1) := by decide +kernel
theorem dX7_compareSize_61 : decode cX7_compareSize 61 = .ok (.ifCond .ge 7, 3) := by decide +kernel
theorem dX7_compareSize_64 : decode cX7_compareSize 64 = .ok (.iconst 0, 1) := by decide +kernel
theorem dX7_compareSize_65 : decode cX7_compareSize 65 = .ok (.goto 18, 3) := by decide +kernel
theorem dX7_compareSize_68 : decode cX7_compareSize 68 = .ok (.aload_n 0, 1) := by decide +kernel
theorem dX7_compareSize_69 : decode cX7_compareSize 69 = .ok (.getfield 7, 3) := by decide +kernel
theorem dX7_compareSize_72 : decode cX7_compareSize 72 = .ok (.iload_n 2, 1) := by decide +kernel
theorem dX7_compareSize_73 : decode cX7_compareSize 73 = .ok (.iaload, 1) := by decide +kernel
theorem dX7_compareSize_74 : decode cX7_compareSize 74 = .ok (.aload_n 1, 1) := by decide +kernel
theorem dX7_compareSize_75 : decode cX7_compareSize 75 = .ok (.getfield 7, 3) := by decide +kernel
theorem dX7_compareSize_78 : decode cX7_compareSize 78 = .ok (.iload_n 2, 1) := by decide +kernel
theorem dX7_compareSize_79 : decode cX7_compareSize 79 = .ok (.iaload, 1) := by decide +kernel
theorem dX7_compareSize_80 : decode cX7_compareSize 80 = .ok (.invokestatic 37, 3) := by decide +kernel
theorem dX7_compareSize_83 : decode cX7_compareSize 83 = .ok (.ireturn, 1) := by decide +kernel
theorem dX7_compare_0 : decode cX7_compare 0 = .ok (.aload_n 0, 1) := by decide +kernel
theorem dX7_compare_1 : decode cX7_compare 1 = .ok (.getfield 17, 3) := by decide +kernel
theorem dX7_compare_4 : decode cX7_compare 4 = .ok (.aload_n 1, 1) := by decide +kernel
theorem dX7_compare_5 : decode cX7_compare 5 = .ok (.getfield 17, 3) := by decide +kernel
theorem dX7_compare_8 : decode cX7_compare 8 = .ok (.if_icmp .eq 20, 3) := by decide +kernel
theorem dX7_compare_11 : decode cX7_compare 11 = .ok (.aload_n 0, 1) := by decide +kernel
theorem dX7_compare_12 : decode cX7_compare 12 = .ok (.getfield 17, 3) := by decide +kernel
theorem dX7_compare_15 : decode cX7_compare 15 = .ok (.aload_n 1, 1) := by decide +kernel
theorem dX7_compare_16 : decode cX7_compare 16 = .ok (.getfield 17, 3) := by decide +kernel
theorem dX7_compare_19 : decode cX7_compare 19 = .ok (.if_icmp .ge 7, 3) := by decide +kernel
theorem dX7_compare_22 : decode cX7_compare 22 = .ok (.iconst (-1), 1) := by decide +kernel
theorem dX7_compare_23 : decode cX7_compare 23 = .ok (.goto 4, 3) := by decide +kernel
theorem dX7_compare_26 : decode cX7_compare 26 = .ok (.iconst 1, 1) := by decide +kernel
theorem dX7_compare_27 : decode cX7_compare 27 = .ok (.ireturn, 1) := by decide +kernel
theorem dX7_compare_28 : decode cX7_compare 28 = .ok (.aload_n 0, 1) := by decide +kernel
theorem dX7_compare_29 : decode cX7_compare 29 = .ok (.getfield 17, 3) := by decide +kernel
theorem dX7_compare_32 : decode cX7_compare 32 = .ok (.aload_n 0, 1) := by decide +kernel
theorem dX7_compare_33 : decode cX7_compare 33 = .ok (.aload_n 1, 1) := by decide +kernel
theorem dX7_compare_34 : decode cX7_compare 34 = .ok (.invokevirtual 41, 3) := by decide +kernel
theorem dX7_compare_37 : decode cX7_compare 37 = .ok (.imul, 1) := by decide +kernel
theorem dX7_compare_38 : decode cX7_compare 38 = .ok (.ireturn, 1) := by decide +kernel
theorem dX7_addSizes_0 : decode cX7_addSizes 0 = .ok (.aload_n 1, 1) := by decide +kernel
theorem dX7_addSizes_1 : decode cX7_addSizes 1 = .ok (.getfield 13, 3) := by decide +kernel
theorem dX7_addSizes_4 : decode cX7_addSizes 4 = .ok (.aload_n 2, 1) := by decide +kernel
theorem dX7_addSizes_5 : decode cX7_addSizes 5 = .ok (.getfield 13, 3) := by decide +kernel
theorem dX7_addSizes_8 : decode cX7_addSizes 8 = .ok (.invokestatic 45, 3) := by decide +kernel
theorem dX7_addSizes_11 : decode cX7_addSizes 11 = .ok (.istore_n 3, 1) := by decide +kernel
theorem dX7_addSizes_12 : decode cX7_addSizes 12 = .ok (.lconst 0, 1) := by decide +kernel
theorem dX7_addSizes_13 : decode cX7_addSizes 13 = .ok (.lstore 4, 2) := by decide +kernel
theorem dX7_addSizes_15 : decode cX7_addSizes 15 = .ok (.iconst 0, 1) := by decide +kernel
theorem dX7_addSizes_16 : decode cX7_addSizes 16 = .ok (.istore 6, 2) := by decide +kernel
theorem dX7_addSizes_18 : decode cX7_addSizes 18 = .ok (.iload 6, 2) := by decide +kernel
theorem dX7_addSizes_20 : decode cX7_addSizes 20 = .ok (.iload_n 3, 1) := by decide +kernel
theorem dX7_addSizes_21 : decode cX7_addSizes 21 = .ok (.if_icmp .ge 44, 3) := by decide +kernel
theorem dX7_addSizes_24 : decode cX7_addSizes 24 = .ok (.lload 4, 2) := by decide +kernel
theorem dX7_addSizes_26 : decode cX7_addSizes 26 = .ok (.aload_n 1, 1) := by decide +kernel
theorem dX7_addSizes_27 : decode cX7_addSizes 27 = .ok (.iload 6, 2) := by decide +kernel
theorem dX7_addSizes_29 : decode cX7_addSizes 29 = .ok (.invokevirtual 50, 3) := by decide +kernel
theorem dX7_addSizes_32 : decode cX7_addSizes 32 = .ok (.aload_n 2, 1) := by decide +kernel
theorem dX7_addSizes_33 : decode cX7_addSizes 33 = .ok (.iload 6, 2) := by decide +kernel
theorem dX7_addSizes_35 : decode cX7_addSizes 35 = .ok (.invokevirtual 50, 3) := by decide +kernel
theorem dX7_addSizes_38 : decode cX7_addSizes 38 = .ok (.ladd, 1) := by decide +kernel
theorem dX7_addSizes_39 : decode cX7_addSizes 39 = .ok (.ladd, 1) := by decide +kernel
theorem dX7_addSizes_40 : decode cX7_addSizes 40 = .ok (.lstore 4, 2) := by decide +kernel
theorem dX7_addSizes_42 : decode cX7_addSizes 42 = .ok (.aload_n 0, 1) := by decide +kernel
theorem dX7_addSizes_43 : decode cX7_addSizes 43 = .ok (.getfield 7, 3) := by decide +kernel
theorem dX7_addSizes_46 : decode cX7_addSizes 46 = .ok (.iload 6, 2) := by decide +kernel
theorem dX7_addSizes_48 : decode cX7_addSizes 48 = .ok (.lload 4, 2) := by decide +kernel
theorem dX7_addSizes_50 : decode cX7_addSizes 50 = .ok (.l2i, 1) := by decide +kernel
theorem dX7_addSizes_51 : decode cX7_addSizes 51 = .ok (.iastore, 1) := by decide +kernel
theorem dX7_addSizes_52 : decode cX7_addSizes 52 = .ok (.lload 4, 2) := by decide +kernel
theorem dX7_addSizes_54 : decode cX7_addSizes 54 = .ok (.bipush 32, 2) := by decide +kernel
theorem dX7_addSizes_56 : decode cX7_addSizes 56 = .ok (.lushr, 1) := by decide +kernel
theorem dX7_addSizes_57 : decode cX7_addSizes 57 = .ok (.lstore 4, 2) := by decide +kernel
theorem dX7_addSizes_59 : decode cX7_addSizes 59 = .ok (.iinc 6 1, 3) := by decide +kernel
theorem dX7_addSizes_62 : decode cX7_addSizes 62 = .ok (.goto (-44), 3) := by decide +kernel
theorem dX7_addSizes_65 : decode cX7_addSizes 65 = .ok (.aload_n 0, 1) := by decide +kernel
theorem dX7_addSizes_66 : decode cX7_addSizes 66 = .ok (.getfield 7, 3) := by decide +kernel
theorem dX7_addSizes_69 : decode cX7_addSizes 69 = .ok (.iload_n 3, 1) := by decide +kernel
theorem dX7_addSizes_70 : decode cX7_addSizes 70 = .ok (.lload 4, 2) := by decide +kernel
theorem dX7_addSizes_72 : decode cX7_addSizes 72 = .ok (.l2i, 1) := by decide +kernel
theorem dX7_addSizes_73 : decode cX7_addSizes 73 = .ok (.iastore, 1) := by decide +kernel
theorem dX7_addSizes_74 : decode cX7_addSizes 74 = .ok (.aload_n 0, 1) := by decide +kernel
theorem dX7_addSizes_75 : decode cX7_addSizes 75 = .ok (.iload_n 3, 1) := by decide +kernel
theorem dX7_addSizes_76 : decode cX7_addSizes 76 = .ok (.iconst 1, 1) := by decide +kernel
theorem dX7_addSizes_77 : decode cX7_addSizes 77 = .ok (.iadd, 1) := by decide +kernel
theorem dX7_addSizes_78 : decode cX7_addSizes 78 = .ok (.putfield 13, 3) := by decide +kernel
theorem dX7_addSizes_81 : decode cX7_addSizes 81 = .ok (.return_, 1) := by decide +kernel
theorem dX7_takeSizes_0 : decode cX7_takeSizes 0 = .ok (.aload_n 1, 1) := by decide +kernel
theorem dX7_takeSizes_1 : decode cX7_takeSizes 1 = .ok (.getfield 13, 3) := by decide +kernel
theorem dX7_takeSizes_4 : decode cX7_takeSizes 4 = .ok (.istore_n 3, 1) := by decide +kernel
theorem dX7_takeSizes_5 : decode cX7_takeSizes 5 = .ok (.lconst 0, 1) := by decide +kernel
theorem dX7_takeSizes_6 : decode cX7_takeSizes 6 = .ok (.lstore 4, 2) := by decide +kernel
theorem dX7_takeSizes_8 : decode cX7_takeSizes 8 = .ok (.iconst 0, 1) := by decide +kernel
theorem dX7_takeSizes_9 : decode cX7_takeSizes 9 = .ok (.istore 6, 2) := by decide +kernel
theorem dX7_takeSizes_11 : decode cX7_takeSizes 11 = .ok (.iload 6, 2) := by decide +kernel
theorem dX7_takeSizes_13 : decode cX7_takeSizes 13 = .ok (.iload_n 3, 1) := by decide +kernel
theorem dX7_takeSizes_14 : decode cX7_takeSizes 14 = .ok (.if_icmp .ge 51, 3) := by decide +kernel
theorem dX7_takeSizes_17 : decode cX7_takeSizes 17 = .ok (.aload_n 1, 1) := by decide +kernel
theorem dX7_takeSizes_18 : decode cX7_takeSizes 18 = .ok (.iload 6, 2) := by decide +kernel
theorem dX7_takeSizes_20 : decode cX7_takeSizes 20 = .ok (.invokevirtual 50, 3) := by decide +kernel
theorem dX7_takeSizes_23 : decode cX7_takeSizes 23 = .ok (.aload_n 2, 1) := by decide +kernel
theorem dX7_takeSizes_24 : decode cX7_takeSizes 24 = .ok (.iload 6, 2) := by decide +kernel
theorem dX7_takeSizes_26 : decode cX7_takeSizes 26 = .ok (.invokevirtual 50, 3) := by decide +kernel
theorem dX7_takeSizes_29 : decode cX7_takeSizes 29 = .ok (.lsub, 1) := by decide +kernel
theorem dX7_takeSizes_30 : decode cX7_takeSizes 30 = .ok (.lload 4, 2) := by decide +kernel
theorem dX7_takeSizes_32 : decode cX7_takeSizes 32 = .ok (.lsub, 1) := by decide +kernel
theorem dX7_takeSizes_33 : decode cX7_takeSizes 33 = .ok (.lstore 7, 2) := by decide +kernel
theorem dX7_takeSizes_35 : decode cX7_takeSizes 35 = .ok (.aload_n 0, 1) := by decide +kernel
theorem dX7_takeSizes_36 : decode cX7_takeSizes 36 = .ok (.getfield 7, 3) := by decide +kernel
theorem dX7_takeSizes_39 : decode cX7_takeSizes 39 = .ok (.iload 6, 2) := by decide +kernel
theorem dX7_takeSizes_41 : decode cX7_takeSizes 41 = .ok (.lload 7, 2) := by decide +kernel
theorem dX7_takeSizes_43 : decode cX7_takeSizes 43 = .ok (.l2i, 1) := by decide +kernel
theorem dX7_takeSizes_44 : decode cX7_takeSizes 44 = .ok (.iastore, 1) := by decide +kernel
theorem dX7_takeSizes_45 : decode cX7_takeSizes 45 = .ok (.lload 7, 2) := by decide +kernel
theorem dX7_takeSizes_47 : decode cX7_takeSizes 47 = .ok (.lconst 0, 1) := by decide +kernel
theorem dX7_takeSizes_48 : decode cX7_takeSizes 48 = .ok (.lcmp, 1) := by decide +kernel
theorem dX7_takeSizes_49 : decode cX7_takeSizes 49 = .ok (.ifCond .ge 7, 3) := by decide +kernel
theorem dX7_takeSizes_52 : decode cX7_takeSizes 52 = .ok (.lconst 1, 1) := by decide +kernel
theorem dX7_takeSizes_53 : decode cX7_takeSizes 53 = .ok (.goto 4, 3) := by decide +kernel
theorem dX7_takeSizes_56 : decode cX7_takeSizes 56 = .ok (.lconst 0, 1) := by decide +kernel
theorem dX7_takeSizes_57 : decode cX7_takeSizes 57 = .ok (.lstore 4, 2) := by decide +kernel
theorem dX7_takeSizes_59 : decode cX7_takeSizes 59 = .ok (.iinc 6 1, 3) := by decide +kernel
theorem dX7_takeSizes_62 : decode cX7_takeSizes 62 = .ok (.goto (-51), 3) := by decide +kernel
theorem dX7_takeSizes_65 : decode cX7_takeSizes 65 = .ok (.aload_n 0, 1) := by decide +kernel
theorem dX7_takeSizes_66 : decode cX7_takeSizes 66 = .ok (.iload_n 3, 1) := by decide +kernel
theorem dX7_takeSizes_67 : decode cX7_takeSizes 67 = .ok (.putfield 13, 3) := by decide +kernel
theorem dX7_takeSizes_70 : decode cX7_takeSizes 70 = .ok (.return_, 1) := by decide +kernel
theorem dX7_join_0 : decode cX7_join 0 = .ok (.aload_n 1, 1) := by decide +kernel
theorem dX7_join_1 : decode cX7_join 1 = .ok (.getfield 17, 3) := by decide +kernel
theorem dX7_join_4 : decode cX7_join 4 = .ok (.ifCond .eq 7, 3) := by decide +kernel
theorem dX7_join_7 : decode cX7_join 7 = .ok (.iload_n 3, 1) := by decide +kernel
theorem dX7_join_8 : decode cX7_join 8 = .ok (.ifCond .ne 45, 3) := by decide +kernel
theorem dX7_join_11 : decode cX7_join 11 = .ok (.aload_n 1, 1) := by decide +kernel
theorem dX7_join_12 : decode cX7_join 12 = .ok (.getfield 17, 3) := by decide +kernel
theorem dX7_join_15 : decode cX7_join 15 = .ok (.ifCond .ne 7, 3) := by decide +kernel
theorem dX7_join_18 : decode cX7_join 18 = .ok (.iload_n 3, 1) := by decide +kernel
theorem dX7_join_19 : decode cX7_join 19 = .ok (.goto 7, 3) := by decide +kernel
theorem dX7_join_22 : decode cX7_join 22 = .ok (.aload_n 1, 1) := by decide +kernel
theorem dX7_join_23 : decode cX7_join 23 = .ok (.getfield 17, 3) := by decide +kernel
theorem dX7_join_26 : decode cX7_join 26 = .ok (.istore 4, 2) := by decide +kernel
theorem dX7_join_28 : decode cX7_join 28 = .ok (.aload_n 0, 1) := by decide +kernel
theorem dX7_join_29 : decode cX7_join 29 = .ok (.aload_n 1, 1) := by decide +kernel
theorem dX7_join_30 : decode cX7_join 30 = .ok (.getfield 17, 3) := by decide +kernel
theorem dX7_join_33 : decode cX7_join 33 = .ok (.ifCond .ne 7, 3) := by decide +kernel
theorem dX7_join_36 : decode cX7_join 36 = .ok (.aload_n 2, 1) := by decide +kernel
theorem dX7_join_37 : decode cX7_join 37 = .ok (.goto 4, 3) := by decide +kernel
theorem dX7_join_40 : decode cX7_join 40 = .ok (.aload_n 1, 1) := by decide +kernel
theorem dX7_join_41 : decode cX7_join 41 = .ok (.invokevirtual 54, 3) := by decide +kernel
theorem dX7_join_44 : decode cX7_join 44 = .ok (.aload_n 0, 1) := by decide +kernel
theorem dX7_join_45 : decode cX7_join 45 = .ok (.iload 4, 2) := by decide +kernel
theorem dX7_join_47 : decode cX7_join 47 = .ok (.putfield 17, 3) := by decide +kernel
theorem dX7_join_50 : decode cX7_join 50 = .ok (.goto 88, 3) := by decide +kernel
theorem dX7_join_53 : decode cX7_join 53 = .ok (.aload_n 1, 1) := by decide +kernel
theorem dX7_join_54 : decode cX7_join 54 = .ok (.getfield 17, 3) := by decide +kernel
theorem dX7_join_57 : decode cX7_join 57 = .ok (.iload_n 3, 1) := by decide +kernel
theorem dX7_join_58 : decode cX7_join 58 = .ok (.if_icmp .ne 28, 3) := by decide +kernel
theorem dX7_join_61 : decode cX7_join 61 = .ok (.aload_n 1, 1) := by decide +kernel
theorem dX7_join_62 : decode cX7_join 62 = .ok (.getfield 17, 3) := by decide +kernel
theorem dX7_join_65 : decode cX7_join 65 = .ok (.istore 4, 2) := by decide +kernel
theorem dX7_join_67 : decode cX7_join 67 = .ok (.aload_n 0, 1) := by decide +kernel
theorem dX7_join_68 : decode cX7_join 68 = .ok (.aload_n 1, 1) := by decide +kernel
theorem dX7_join_69 : decode cX7_join 69 = .ok (.aload_n 2, 1) := by decide +kernel
theorem dX7_join_70 : decode cX7_join 70 = .ok (.invokevirtual 58, 3) := by decide +kernel
theorem dX7_join_73 : decode cX7_join 73 = .ok (.aload_n 0, 1) := by decide +kernel
theorem dX7_join_74 : decode cX7_join 74 = .ok (.iload 4, 2) := by decide +kernel
theorem dX7_join_76 : decode cX7_join 76 = .ok (.putfield 17, 3) := by decide +kernel
theorem dX7_join_79 : decode cX7_join 79 = .ok (.aload_n 0, 1) := by decide +kernel
theorem dX7_join_80 : decode cX7_join 80 = .ok (.invokevirtual 26, 3) := by decide +kernel
theorem dX7_join_83 : decode cX7_join 83 = .ok (.goto 55, 3) := by decide +kernel
theorem dX7_join_86 : decode cX7_join 86 = .ok (.aload_n 1, 1) := by decide +kernel
theorem dX7_join_87 : decode cX7_join 87 = .ok (.aload_n 2, 1) := by decide +kernel
theorem dX7_join_88 : decode cX7_join 88 = .ok (.invokevirtual 41, 3) := by decide +kernel
theorem dX7_join_91 : decode cX7_join 91 = .ok (.istore 4, 2) := by decide +kernel
theorem dX7_join_93 : decode cX7_join 93 = .ok (.iload 4, 2) := by decide +kernel
theorem dX7_join_95 : decode cX7_join 95 = .ok (.ifCond .ge 7, 3) := by decide +kernel
theorem dX7_join_98 : decode cX7_join 98 = .ok (.iload_n 3, 1) := by decide +kernel
theorem dX7_join_99 : decode cX7_join 99 = .ok (.goto 7, 3) := by decide +kernel
theorem dX7_join_102 : decode cX7_join 102 = .ok (.aload_n 1, 1) := by decide +kernel
theorem dX7_join_103 : decode cX7_join 103 = .ok (.getfield 17, 3) := by decide +kernel
theorem dX7_join_106 : decode cX7_join 106 = .ok (.istore 5, 2) := by decide +kernel
theorem dX7_join_108 : decode cX7_join 108 = .ok (.iload 4, 2) := by decide +kernel
theorem dX7_join_110 : decode cX7_join 110 = .ok (.ifCond .ge 12, 3) := by decide +kernel
theorem dX7_join_113 : decode cX7_join 113 = .ok (.aload_n 0, 1) := by decide +kernel
theorem dX7_join_114 : decode cX7_join 114 = .ok (.aload_n 2, 1) := by decide +kernel
theorem dX7_join_115 : decode cX7_join 115 = .ok (.aload_n 1, 1) := by decide +kernel
theorem dX7_join_116 : decode cX7_join 116 = .ok (.invokevirtual 62, 3) := by decide +kernel
theorem dX7_join_119 : decode cX7_join 119 = .ok (.goto 9, 3) := by decide +kernel
theorem dX7_join_122 : decode cX7_join 122 = .ok (.aload_n 0, 1) := by decide +kernel
theorem dX7_join_123 : decode cX7_join 123 = .ok (.aload_n 1, 1) := by decide +kernel
theorem dX7_join_124 : decode cX7_join 124 = .ok (.aload_n 2, 1) := by decide +kernel
theorem dX7_join_125 : decode cX7_join 125 = .ok (.invokevirtual 62, 3) := by decide +kernel
theorem dX7_join_128 : decode cX7_join 128 = .ok (.aload_n 0, 1) := by decide +kernel
theorem dX7_join_129 : decode cX7_join 129 = .ok (.iload 5, 2) := by decide +kernel
theorem dX7_join_131 : decode cX7_join 131 = .ok (.putfield 17, 3) := by decide +kernel
theorem dX7_join_134 : decode cX7_join 134 = .ok (.aload_n 0, 1) := by decide +kernel
theorem dX7_join_135 : decode cX7_join 135 = .ok (.invokevirtual 26, 3) := by decide +kernel
theorem dX7_join_138 : decode cX7_join 138 = .ok (.return_, 1) := by decide +kernel
theorem dX7_add_0 : decode cX7_add 0 = .ok (.aload_n 0, 1) := by decide +kernel
theorem dX7_add_1 : decode cX7_add 1 = .ok (.aload_n 1, 1) := by decide +kernel
theorem dX7_add_2 : decode cX7_add 2 = .ok (.aload_n 2, 1) := by decide +kernel
theorem dX7_add_3 : decode cX7_add 3 = .ok (.aload_n 2, 1) := by decide +kernel
theorem dX7_add_4 : decode cX7_add 4 = .ok (.getfield 17, 3) := by decide +kernel
theorem dX7_add_7 : decode cX7_add 7 = .ok (.invokevirtual 65, 3) := by decide +kernel
theorem dX7_add_10 : decode cX7_add 10 = .ok (.return_, 1) := by decide +kernel
theorem dX7_less_0 : decode cX7_less 0 = .ok (.aload_n 0, 1) := by decide +kernel
theorem dX7_less_1 : decode cX7_less 1 = .ok (.aload_n 1, 1) := by decide +kernel
theorem dX7_less_2 : decode cX7_less 2 = .ok (.aload_n 2, 1) := by decide +kernel
theorem dX7_less_3 : decode cX7_less 3 = .ok (.aload_n 2, 1) := by decide +kernel
theorem dX7_less_4 : decode cX7_less 4 = .ok (.getfield 17, 3) := by decide +kernel
theorem dX7_less_7 : decode cX7_less 7 = .ok (.ineg, 1) := by decide +kernel
theorem dX7_less_8 : decode cX7_less 8 = .ok (.invokevirtual 65, 3) := by decide +kernel
theorem dX7_less_11 : decode cX7_less 11 = .ok (.return_, 1) := by decide +kernel
theorem dX7_times_0 : decode cX7_times 0 = .ok (.aload_n 0, 1) := by decide +kernel
theorem dX7_times_1 : decode cX7_times 1 = .ok (.aload_n 1, 1) := by decide +kernel
theorem dX7_times_2 : decode cX7_times 2 = .ok (.getfield 13, 3) := by decide +kernel
theorem dX7_times_5 : decode cX7_times 5 = .ok (.aload_n 2, 1) := by decide +kernel
theorem dX7_times_6 : decode cX7_times 6 = .ok (.getfield 13, 3) := by decide +kernel
theorem dX7_times_9 : decode cX7_times 9 = .ok (.iadd, 1) := by decide +kernel
theorem dX7_times_10 : decode cX7_times 10 = .ok (.putfield 13, 3) := by decide +kernel
theorem dX7_times_13 : decode cX7_times 13 = .ok (.iconst 0, 1) := by decide +kernel
theorem dX7_times_14 : decode cX7_times 14 = .ok (.istore_n 3, 1) := by decide +kernel
theorem dX7_times_15 : decode cX7_times 15 = .ok (.iload_n 3, 1) := by decide +kernel
theorem dX7_times_16 : decode cX7_times 16 = .ok (.aload_n 0, 1) := by decide +kernel
theorem dX7_times_17 : decode cX7_times 17 = .ok (.getfield 13, 3) := by decide +kernel
theorem dX7_times_20 : decode cX7_times 20 = .ok (.if_icmp .ge 16, 3) := by decide +kernel
theorem dX7_times_23 : decode cX7_times 23 = .ok (.aload_n 0, 1) := by decide +kernel
theorem dX7_times_24 : decode cX7_times 24 = .ok (.getfield 7, 3) := by decide +kernel
theorem dX7_times_27 : decode cX7_times 27 = .ok (.iload_n 3, 1) := by decide +kernel
theorem dX7_times_28 : decode cX7_times 28 = .ok (.iconst 0, 1) := by decide +kernel
theorem dX7_times_29 : decode cX7_times 29 = .ok (.iastore, 1) := by decide +kernel
theorem dX7_times_30 : decode cX7_times 30 = .ok (.iinc 3 1, 3) := by decide +kernel
theorem dX7_times_33 : decode cX7_times 33 = .ok (.goto (-18), 3) := by decide +kernel
theorem dX7_times_36 : decode cX7_times 36 = .ok (.iconst 0, 1) := by decide +kernel
theorem dX7_times_37 : decode cX7_times 37 = .ok (.istore_n 3, 1) := by decide +kernel
theorem dX7_times_38 : decode cX7_times 38 = .ok (.iload_n 3, 1) := by decide +kernel
theorem dX7_times_39 : decode cX7_times 39 = .ok (.aload_n 1, 1) := by decide +kernel
theorem dX7_times_40 : decode cX7_times 40 = .ok (.getfield 13, 3) := by decide +kernel
theorem dX7_times_43 : decode cX7_times 43 = .ok (.if_icmp .ge 99, 3) := by decide +kernel
theorem dX7_times_46 : decode cX7_times 46 = .ok (.lconst 0, 1) := by decide +kernel
theorem dX7_times_47 : decode cX7_times 47 = .ok (.lstore 4, 2) := by decide +kernel
theorem dX7_times_49 : decode cX7_times 49 = .ok (.aload_n 1, 1) := by decide +kernel
theorem dX7_times_50 : decode cX7_times 50 = .ok (.iload_n 3, 1) := by decide +kernel
theorem dX7_times_51 : decode cX7_times 51 = .ok (.invokevirtual 50, 3) := by decide +kernel
theorem dX7_times_54 : decode cX7_times 54 = .ok (.lstore 6, 2) := by decide +kernel
theorem dX7_times_56 : decode cX7_times 56 = .ok (.iconst 0, 1) := by decide +kernel
theorem dX7_times_57 : decode cX7_times 57 = .ok (.istore 8, 2) := by decide +kernel
theorem dX7_times_59 : decode cX7_times 59 = .ok (.iload 8, 2) := by decide +kernel
theorem dX7_times_61 : decode cX7_times 61 = .ok (.aload_n 2, 1) := by decide +kernel
theorem dX7_times_62 : decode cX7_times 62 = .ok (.getfield 13, 3) := by decide +kernel
theorem dX7_times_65 : decode cX7_times 65 = .ok (.if_icmp .ge 57, 3) := by decide +kernel
theorem dX7_times_68 : decode cX7_times 68 = .ok (.lload 4, 2) := by decide +kernel
theorem dX7_times_70 : decode cX7_times 70 = .ok (.lload 6, 2) := by decide +kernel
theorem dX7_times_72 : decode cX7_times 72 = .ok (.aload_n 2, 1) := by decide +kernel
theorem dX7_times_73 : decode cX7_times 73 = .ok (.iload 8, 2) := by decide +kernel
theorem dX7_times_75 : decode cX7_times 75 = .ok (.invokevirtual 50, 3) := by decide +kernel
theorem dX7_times_78 : decode cX7_times 78 = .ok (.lmul, 1) := by decide +kernel
theorem dX7_times_79 : decode cX7_times 79 = .ok (.aload_n 0, 1) := by decide +kernel
theorem dX7_times_80 : decode cX7_times 80 = .ok (.getfield 7, 3) := by decide +kernel
theorem dX7_times_83 : decode cX7_times 83 = .ok (.iload_n 3, 1) := by decide +kernel
theorem dX7_times_84 : decode cX7_times 84 = .ok (.iload 8, 2) := by decide +kernel
theorem dX7_times_86 : decode cX7_times 86 = .ok (.iadd, 1) := by decide +kernel
theorem dX7_times_87 : decode cX7_times 87 = .ok (.iaload, 1) := by decide +kernel
theorem dX7_times_88 : decode cX7_times 88 = .ok (.i2l, 1) := by decide +kernel
theorem dX7_times_89 : decode cX7_times 89 = .ok (.ldc2_w 29, 3) := by decide +kernel
theorem dX7_times_92 : decode cX7_times 92 = .ok (.land, 1) := by decide +kernel
theorem dX7_times_93 : decode cX7_times 93 = .ok (.ladd, 1) := by decide +kernel
theorem dX7_times_94 : decode cX7_times 94 = .ok (.ladd, 1) := by decide +kernel
theorem dX7_times_95 : decode cX7_times 95 = .ok (.lstore 4, 2) := by decide +kernel
theorem dX7_times_97 : decode cX7_times 97 = .ok (.aload_n 0, 1) := by decide +kernel
theorem dX7_times_98 : decode cX7_times 98 = .ok (.getfield 7, 3) := by decide +kernel
theorem dX7_times_101 : decode cX7_times 101 = .ok (.iload_n 3, 1) := by decide +kernel
theorem dX7_times_102 : decode cX7_times 102 = .ok (.iload 8, 2) := by decide +kernel
theorem dX7_times_104 : decode cX7_times 104 = .ok (.iadd, 1) := by decide +kernel
theorem dX7_times_105 : decode cX7_times 105 = .ok (.lload 4, 2) := by decide +kernel
theorem dX7_times_107 : decode cX7_times 107 = .ok (.l2i, 1) := by decide +kernel
theorem dX7_times_108 : decode cX7_times 108 = .ok (.iastore, 1) := by decide +kernel
theorem dX7_times_109 : decode cX7_times 109 = .ok (.lload 4, 2) := by decide +kernel
theorem dX7_times_111 : decode cX7_times 111 = .ok (.bipush 32, 2) := by decide +kernel
theorem dX7_times_113 : decode cX7_times 113 = .ok (.lushr, 1) := by decide +kernel
theorem dX7_times_114 : decode cX7_times 114 = .ok (.lstore 4, 2) := by decide +kernel
theorem dX7_times_116 : decode cX7_times 116 = .ok (.iinc 8 1, 3) := by decide +kernel
theorem dX7_times_119 : decode cX7_times 119 = .ok (.goto (-60), 3) := by decide +kernel
theorem dX7_times_122 : decode cX7_times 122 = .ok (.aload_n 0, 1) := by decide +kernel
theorem dX7_times_123 : decode cX7_times 123 = .ok (.getfield 7, 3) := by decide +kernel
theorem dX7_times_126 : decode cX7_times 126 = .ok (.iload_n 3, 1) := by decide +kernel
theorem dX7_times_127 : decode cX7_times 127 = .ok (.aload_n 2, 1) := by decide +kernel
theorem dX7_times_128 : decode cX7_times 128 = .ok (.getfield 13, 3) := by decide +kernel
theorem dX7_times_131 : decode cX7_times 131 = .ok (.iadd, 1) := by decide +kernel
theorem dX7_times_132 : decode cX7_times 132 = .ok (.lload 4, 2) := by decide +kernel
theorem dX7_times_134 : decode cX7_times 134 = .ok (.l2i, 1) := by decide +kernel
theorem dX7_times_135 : decode cX7_times 135 = .ok (.iastore, 1) := by decide +kernel
theorem dX7_times_136 : decode cX7_times 136 = .ok (.iinc 3 1, 3) := by decide +kernel
theorem dX7_times_139 : decode cX7_times 139 = .ok (.goto (-101), 3) := by decide +kernel
theorem dX7_times_142 : decode cX7_times 142 = .ok (.aload_n 0, 1) := by decide +kernel
theorem dX7_times_143 : decode cX7_times 143 = .ok (.aload_n 1, 1) := by decide +kernel
theorem dX7_times_144 : decode cX7_times 144 = .ok (.getfield 17, 3) := by decide +kernel
theorem dX7_times_147 : decode cX7_times 147 = .ok (.aload_n 2, 1) := by decide +kernel
theorem dX7_times_148 : decode cX7_times 148 = .ok (.getfield 17, 3) := by decide +kernel
theorem dX7_times_151 : decode cX7_times 151 = .ok (.imul, 1) := by decide +kernel
theorem dX7_times_152 : decode cX7_times 152 = .ok (.putfield 17, 3) := by decide +kernel
theorem dX7_times_155 : decode cX7_times 155 = .ok (.aload_n 0, 1) := by decide +kernel
theorem dX7_times_156 : decode cX7_times 156 = .ok (.invokevirtual 26, 3) := by decide +kernel
theorem dX7_times_159 : decode cX7_times 159 = .ok (.return_, 1) := by decide +kernel
theorem dX7_overSmall_0 : decode cX7_overSmall 0 = .ok (.lconst 0, 1) := by decide +kernel
theorem dX7_overSmall_1 : decode cX7_overSmall 1 = .ok (.lstore_n 2, 1) := by decide +kernel
theorem dX7_overSmall_2 : decode cX7_overSmall 2 = .ok (.aload_n 0, 1) := by decide +kernel
theorem dX7_overSmall_3 : decode cX7_overSmall 3 = .ok (.getfield 13, 3) := by decide +kernel
theorem dX7_overSmall_6 : decode cX7_overSmall 6 = .ok (.iconst 1, 1) := by decide +kernel
theorem dX7_overSmall_7 : decode cX7_overSmall 7 = .ok (.isub, 1) := by decide +kernel
theorem dX7_overSmall_8 : decode cX7_overSmall 8 = .ok (.istore 4, 2) := by decide +kernel
theorem dX7_overSmall_10 : decode cX7_overSmall 10 = .ok (.iload 4, 2) := by decide +kernel
theorem dX7_overSmall_12 : decode cX7_overSmall 12 = .ok (.ifCond .lt 38, 3) := by decide +kernel
theorem dX7_overSmall_15 : decode cX7_overSmall 15 = .ok (.lload_n 2, 1) := by decide +kernel
theorem dX7_overSmall_16 : decode cX7_overSmall 16 = .ok (.bipush 32, 2) := by decide +kernel
theorem dX7_overSmall_18 : decode cX7_overSmall 18 = .ok (.lshl, 1) := by decide +kernel
theorem dX7_overSmall_19 : decode cX7_overSmall 19 = .ok (.aload_n 0, 1) := by decide +kernel
theorem dX7_overSmall_20 : decode cX7_overSmall 20 = .ok (.iload 4, 2) := by decide +kernel
theorem dX7_overSmall_22 : decode cX7_overSmall 22 = .ok (.invokevirtual 50, 3) := by decide +kernel
theorem dX7_overSmall_25 : decode cX7_overSmall 25 = .ok (.lor, 1) := by decide +kernel
theorem dX7_overSmall_26 : decode cX7_overSmall 26 = .ok (.lstore_n 2, 1) := by decide +kernel
theorem dX7_overSmall_27 : decode cX7_overSmall 27 = .ok (.aload_n 0, 1) := by decide +kernel
theorem dX7_overSmall_28 : decode cX7_overSmall 28 = .ok (.getfield 7, 3) := by decide +kernel
theorem dX7_overSmall_31 : decode cX7_overSmall 31 = .ok (.iload 4, 2) := by decide +kernel
theorem dX7_overSmall_33 : decode cX7_overSmall 33 = .ok (.lload_n 2, 1) := by decide +kernel
theorem dX7_overSmall_34 : decode cX7_overSmall 34 = .ok (.iload_n 1, 1) := by decide +kernel
theorem dX7_overSmall_35 : decode cX7_overSmall 35 = .ok (.i2l, 1) := by decide +kernel
theorem dX7_overSmall_36 : decode cX7_overSmall 36 = .ok (.ldiv, 1) := by decide +kernel
theorem dX7_overSmall_37 : decode cX7_overSmall 37 = .ok (.l2i, 1) := by decide +kernel
theorem dX7_overSmall_38 : decode cX7_overSmall 38 = .ok (.iastore, 1) := by decide +kernel
theorem dX7_overSmall_39 : decode cX7_overSmall 39 = .ok (.lload_n 2, 1) := by decide +kernel
theorem dX7_overSmall_40 : decode cX7_overSmall 40 = .ok (.iload_n 1, 1) := by decide +kernel
theorem dX7_overSmall_41 : decode cX7_overSmall 41 = .ok (.i2l, 1) := by decide +kernel
theorem dX7_overSmall_42 : decode cX7_overSmall 42 = .ok (.lrem, 1) := by decide +kernel
theorem dX7_overSmall_43 : decode cX7_overSmall 43 = .ok (.lstore_n 2, 1) := by decide +kernel
theorem dX7_overSmall_44 : decode cX7_overSmall 44 = .ok (.iinc 4 (-1), 3) := by decide +kernel
theorem dX7_overSmall_47 : decode cX7_overSmall 47 = .ok (.goto (-37), 3) := by decide +kernel
theorem dX7_overSmall_50 : decode cX7_overSmall 50 = .ok (.aload_n 0, 1) := by decide +kernel
theorem dX7_overSmall_51 : decode cX7_overSmall 51 = .ok (.invokevirtual 26, 3) := by decide +kernel
theorem dX7_overSmall_54 : decode cX7_overSmall 54 = .ok (.lload_n 2, 1) := by decide +kernel
theorem dX7_overSmall_55 : decode cX7_overSmall 55 = .ok (.l2i, 1) := by decide +kernel
theorem dX7_overSmall_56 : decode cX7_overSmall 56 = .ok (.ireturn, 1) := by decide +kernel
theorem dX7_up_0 : decode cX7_up 0 = .ok (.aload_n 0, 1) := by decide +kernel
theorem dX7_up_1 : decode cX7_up 1 = .ok (.getfield 17, 3) := by decide +kernel
theorem dX7_up_4 : decode cX7_up 4 = .ok (.ifCond .eq 7, 3) := by decide +kernel
theorem dX7_up_7 : decode cX7_up 7 = .ok (.iload_n 1, 1) := by decide +kernel
theorem dX7_up_8 : decode cX7_up 8 = .ok (.ifCond .ne 4, 3) := by decide +kernel
theorem dX7_up_11 : decode cX7_up 11 = .ok (.return_, 1) := by decide +kernel
theorem dX7_up_12 : decode cX7_up 12 = .ok (.iload_n 1, 1) := by decide +kernel
theorem dX7_up_13 : decode cX7_up 13 = .ok (.bipush 32, 2) := by decide +kernel
theorem dX7_up_15 : decode cX7_up 15 = .ok (.idiv, 1) := by decide +kernel
theorem dX7_up_16 : decode cX7_up 16 = .ok (.istore_n 2, 1) := by decide +kernel
theorem dX7_up_17 : decode cX7_up 17 = .ok (.iload_n 1, 1) := by decide +kernel
theorem dX7_up_18 : decode cX7_up 18 = .ok (.bipush 32, 2) := by decide +kernel
theorem dX7_up_20 : decode cX7_up 20 = .ok (.irem, 1) := by decide +kernel
theorem dX7_up_21 : decode cX7_up 21 = .ok (.istore_n 3, 1) := by decide +kernel
theorem dX7_up_22 : decode cX7_up 22 = .ok (.aload_n 0, 1) := by decide +kernel
theorem dX7_up_23 : decode cX7_up 23 = .ok (.getfield 7, 3) := by decide +kernel
theorem dX7_up_26 : decode cX7_up 26 = .ok (.aload_n 0, 1) := by decide +kernel
theorem dX7_up_27 : decode cX7_up 27 = .ok (.getfield 13, 3) := by decide +kernel
theorem dX7_up_30 : decode cX7_up 30 = .ok (.iconst 0, 1) := by decide +kernel
theorem dX7_up_31 : decode cX7_up 31 = .ok (.iastore, 1) := by decide +kernel
theorem dX7_up_32 : decode cX7_up 32 = .ok (.aload_n 0, 1) := by decide +kernel
theorem dX7_up_33 : decode cX7_up 33 = .ok (.getfield 13, 3) := by decide +kernel
theorem dX7_up_36 : decode cX7_up 36 = .ok (.istore 4, 2) := by decide +kernel
theorem dX7_up_38 : decode cX7_up 38 = .ok (.iload 4, 2) := by decide +kernel
theorem dX7_up_40 : decode cX7_up 40 = .ok (.ifCond .lt 68, 3) := by decide +kernel
theorem dX7_up_43 : decode cX7_up 43 = .ok (.iload 4, 2) := by decide +kernel
theorem dX7_up_45 : decode cX7_up 45 = .ok (.aload_n 0, 1) := by decide +kernel
theorem dX7_up_46 : decode cX7_up 46 = .ok (.getfield 13, 3) := by decide +kernel
theorem dX7_up_49 : decode cX7_up 49 = .ok (.if_icmp .ge 12, 3) := by decide +kernel
theorem dX7_up_52 : decode cX7_up 52 = .ok (.aload_n 0, 1) := by decide +kernel
theorem dX7_up_53 : decode cX7_up 53 = .ok (.iload 4, 2) := by decide +kernel
theorem dX7_up_55 : decode cX7_up 55 = .ok (.invokevirtual 50, 3) := by decide +kernel
theorem dX7_up_58 : decode cX7_up 58 = .ok (.goto 4, 3) := by decide +kernel
theorem dX7_up_61 : decode cX7_up 61 = .ok (.lconst 0, 1) := by decide +kernel
theorem dX7_up_62 : decode cX7_up 62 = .ok (.bipush 32, 2) := by decide +kernel
theorem dX7_up_64 : decode cX7_up 64 = .ok (.lshl, 1) := by decide +kernel
theorem dX7_up_65 : decode cX7_up 65 = .ok (.iload 4, 2) := by decide +kernel
theorem dX7_up_67 : decode cX7_up 67 = .ok (.ifCond .le 14, 3) := by decide +kernel
theorem dX7_up_70 : decode cX7_up 70 = .ok (.aload_n 0, 1) := by decide +kernel
theorem dX7_up_71 : decode cX7_up 71 = .ok (.iload 4, 2) := by decide +kernel
theorem dX7_up_73 : decode cX7_up 73 = .ok (.iconst 1, 1) := by decide +kernel
theorem dX7_up_74 : decode cX7_up 74 = .ok (.isub, 1) := by decide +kernel
theorem dX7_up_75 : decode cX7_up 75 = .ok (.invokevirtual 50, 3) := by decide +kernel
theorem dX7_up_78 : decode cX7_up 78 = .ok (.goto 4, 3) := by decide +kernel
theorem dX7_up_81 : decode cX7_up 81 = .ok (.lconst 0, 1) := by decide +kernel
theorem dX7_up_82 : decode cX7_up 82 = .ok (.lor, 1) := by decide +kernel
theorem dX7_up_83 : decode cX7_up 83 = .ok (.lstore 5, 2) := by decide +kernel
theorem dX7_up_85 : decode cX7_up 85 = .ok (.aload_n 0, 1) := by decide +kernel
theorem dX7_up_86 : decode cX7_up 86 = .ok (.getfield 7, 3) := by decide +kernel
theorem dX7_up_89 : decode cX7_up 89 = .ok (.iload 4, 2) := by decide +kernel
theorem dX7_up_91 : decode cX7_up 91 = .ok (.iload_n 2, 1) := by decide +kernel
theorem dX7_up_92 : decode cX7_up 92 = .ok (.iadd, 1) := by decide +kernel
theorem dX7_up_93 : decode cX7_up 93 = .ok (.lload 5, 2) := by decide +kernel
theorem dX7_up_95 : decode cX7_up 95 = .ok (.bipush 32, 2) := by decide +kernel
theorem dX7_up_97 : decode cX7_up 97 = .ok (.iload_n 3, 1) := by decide +kernel
theorem dX7_up_98 : decode cX7_up 98 = .ok (.isub, 1) := by decide +kernel
theorem dX7_up_99 : decode cX7_up 99 = .ok (.lushr, 1) := by decide +kernel
theorem dX7_up_100 : decode cX7_up 100 = .ok (.l2i, 1) := by decide +kernel
theorem dX7_up_101 : decode cX7_up 101 = .ok (.iastore, 1) := by decide +kernel
theorem dX7_up_102 : decode cX7_up 102 = .ok (.iinc 4 (-1), 3) := by decide +kernel
theorem dX7_up_105 : decode cX7_up 105 = .ok (.goto (-67), 3) := by decide +kernel
theorem dX7_up_108 : decode cX7_up 108 = .ok (.iconst 0, 1) := by decide +kernel
theorem dX7_up_109 : decode cX7_up 109 = .ok (.istore 4, 2) := by decide +kernel
theorem dX7_up_111 : decode cX7_up 111 = .ok (.iload 4, 2) := by decide +kernel
theorem dX7_up_113 : decode cX7_up 113 = .ok (.iload_n 2, 1) := by decide +kernel
theorem dX7_up_114 : decode cX7_up 114 = .ok (.if_icmp .ge 17, 3) := by decide +kernel
theorem dX7_up_117 : decode cX7_up 117 = .ok (.aload_n 0, 1) := by decide +kernel
theorem dX7_up_118 : decode cX7_up 118 = .ok (.getfield 7, 3) := by decide +kernel
theorem dX7_up_121 : decode cX7_up 121 = .ok (.iload 4, 2) := by decide +kernel
theorem dX7_up_123 : decode cX7_up 123 = .ok (.iconst 0, 1) := by decide +kernel
theorem dX7_up_124 : decode cX7_up 124 = .ok (.iastore, 1) := by decide +kernel
theorem dX7_up_125 : decode cX7_up 125 = .ok (.iinc 4 1, 3) := by decide +kernel
theorem dX7_up_128 : decode cX7_up 128 = .ok (.goto (-17), 3) := by decide +kernel
theorem dX7_up_131 : decode cX7_up 131 = .ok (.aload_n 0, 1) := by decide +kernel
theorem dX7_up_132 : decode cX7_up 132 = .ok (.dup, 1) := by decide +kernel
theorem dX7_up_133 : decode cX7_up 133 = .ok (.getfield 13, 3) := by decide +kernel
theorem dX7_up_136 : decode cX7_up 136 = .ok (.iload_n 2, 1) := by decide +kernel
theorem dX7_up_137 : decode cX7_up 137 = .ok (.iconst 1, 1) := by decide +kernel
theorem dX7_up_138 : decode cX7_up 138 = .ok (.iadd, 1) := by decide +kernel
theorem dX7_up_139 : decode cX7_up 139 = .ok (.iadd, 1) := by decide +kernel
theorem dX7_up_140 : decode cX7_up 140 = .ok (.putfield 13, 3) := by decide +kernel
theorem dX7_up_143 : decode cX7_up 143 = .ok (.aload_n 0, 1) := by decide +kernel
theorem dX7_up_144 : decode cX7_up 144 = .ok (.invokevirtual 26, 3) := by decide +kernel
theorem dX7_up_147 : decode cX7_up 147 = .ok (.return_, 1) := by decide +kernel
theorem dX7_down_0 : decode cX7_down 0 = .ok (.iload_n 1, 1) := by decide +kernel
theorem dX7_down_1 : decode cX7_down 1 = .ok (.bipush 32, 2) := by decide +kernel
theorem dX7_down_3 : decode cX7_down 3 = .ok (.idiv, 1) := by decide +kernel
theorem dX7_down_4 : decode cX7_down 4 = .ok (.istore_n 2, 1) := by decide +kernel
theorem dX7_down_5 : decode cX7_down 5 = .ok (.iload_n 1, 1) := by decide +kernel
theorem dX7_down_6 : decode cX7_down 6 = .ok (.bipush 32, 2) := by decide +kernel
theorem dX7_down_8 : decode cX7_down 8 = .ok (.irem, 1) := by decide +kernel
theorem dX7_down_9 : decode cX7_down 9 = .ok (.istore_n 3, 1) := by decide +kernel
theorem dX7_down_10 : decode cX7_down 10 = .ok (.aload_n 0, 1) := by decide +kernel
theorem dX7_down_11 : decode cX7_down 11 = .ok (.getfield 17, 3) := by decide +kernel
theorem dX7_down_14 : decode cX7_down 14 = .ok (.istore 4, 2) := by decide +kernel
theorem dX7_down_16 : decode cX7_down 16 = .ok (.iconst 0, 1) := by decide +kernel
theorem dX7_down_17 : decode cX7_down 17 = .ok (.istore 5, 2) := by decide +kernel
theorem dX7_down_19 : decode cX7_down 19 = .ok (.iload 5, 2) := by decide +kernel
theorem dX7_down_21 : decode cX7_down 21 = .ok (.iload_n 2, 1) := by decide +kernel
theorem dX7_down_22 : decode cX7_down 22 = .ok (.iadd, 1) := by decide +kernel
theorem dX7_down_23 : decode cX7_down 23 = .ok (.aload_n 0, 1) := by decide +kernel
theorem dX7_down_24 : decode cX7_down 24 = .ok (.getfield 13, 3) := by decide +kernel
theorem dX7_down_27 : decode cX7_down 27 = .ok (.if_icmp .ge 41, 3) := by decide +kernel
theorem dX7_down_30 : decode cX7_down 30 = .ok (.aload_n 0, 1) := by decide +kernel
theorem dX7_down_31 : decode cX7_down 31 = .ok (.getfield 7, 3) := by decide +kernel
theorem dX7_down_34 : decode cX7_down 34 = .ok (.iload 5, 2) := by decide +kernel
theorem dX7_down_36 : decode cX7_down 36 = .ok (.aload_n 0, 1) := by decide +kernel
theorem dX7_down_37 : decode cX7_down 37 = .ok (.iload 5, 2) := by decide +kernel
theorem dX7_down_39 : decode cX7_down 39 = .ok (.iload_n 2, 1) := by decide +kernel
theorem dX7_down_40 : decode cX7_down 40 = .ok (.iadd, 1) := by decide +kernel
theorem dX7_down_41 : decode cX7_down 41 = .ok (.iconst 1, 1) := by decide +kernel
theorem dX7_down_42 : decode cX7_down 42 = .ok (.iadd, 1) := by decide +kernel
theorem dX7_down_43 : decode cX7_down 43 = .ok (.invokevirtual 50, 3) := by decide +kernel
theorem dX7_down_46 : decode cX7_down 46 = .ok (.bipush 32, 2) := by decide +kernel
theorem dX7_down_48 : decode cX7_down 48 = .ok (.lshl, 1) := by decide +kernel
theorem dX7_down_49 : decode cX7_down 49 = .ok (.aload_n 0, 1) := by decide +kernel
theorem dX7_down_50 : decode cX7_down 50 = .ok (.iload 5, 2) := by decide +kernel
theorem dX7_down_52 : decode cX7_down 52 = .ok (.iload_n 2, 1) := by decide +kernel
theorem dX7_down_53 : decode cX7_down 53 = .ok (.iadd, 1) := by decide +kernel
theorem dX7_down_54 : decode cX7_down 54 = .ok (.invokevirtual 50, 3) := by decide +kernel
theorem dX7_down_57 : decode cX7_down 57 = .ok (.lor, 1) := by decide +kernel
theorem dX7_down_58 : decode cX7_down 58 = .ok (.iload_n 3, 1) := by decide +kernel
theorem dX7_down_59 : decode cX7_down 59 = .ok (.lushr, 1) := by decide +kernel
theorem dX7_down_60 : decode cX7_down 60 = .ok (.l2i, 1) := by decide +kernel
theorem dX7_down_61 : decode cX7_down 61 = .ok (.iastore, 1) := by decide +kernel
theorem dX7_down_62 : decode cX7_down 62 = .ok (.iinc 5 1, 3) := by decide +kernel
theorem dX7_down_65 : decode cX7_down 65 = .ok (.goto (-46), 3) := by decide +kernel
theorem dX7_down_68 : decode cX7_down 68 = .ok (.aload_n 0, 1) := by decide +kernel
theorem dX7_down_69 : decode cX7_down 69 = .ok (.iconst 0, 1) := by decide +kernel
theorem dX7_down_70 : decode cX7_down 70 = .ok (.aload_n 0, 1) := by decide +kernel
theorem dX7_down_71 : decode cX7_down 71 = .ok (.getfield 13, 3) := by decide +kernel
theorem dX7_down_74 : decode cX7_down 74 = .ok (.iload_n 2, 1) := by decide +kernel
theorem dX7_down_75 : decode cX7_down 75 = .ok (.isub, 1) := by decide +kernel
theorem dX7_down_76 : decode cX7_down 76 = .ok (.invokestatic 45, 3) := by decide +kernel
theorem dX7_down_79 : decode cX7_down 79 = .ok (.putfield 13, 3) := by decide +kernel
theorem dX7_down_82 : decode cX7_down 82 = .ok (.aload_n 0, 1) := by decide +kernel
theorem dX7_down_83 : decode cX7_down 83 = .ok (.invokevirtual 26, 3) := by decide +kernel
theorem dX7_down_86 : decode cX7_down 86 = .ok (.aload_n 0, 1) := by decide +kernel
theorem dX7_down_87 : decode cX7_down 87 = .ok (.aload_n 0, 1) := by decide +kernel
theorem dX7_down_88 : decode cX7_down 88 = .ok (.getfield 13, 3) := by decide +kernel
theorem dX7_down_91 : decode cX7_down 91 = .ok (.ifCond .ne 7, 3) := by decide +kernel
theorem dX7_down_94 : decode cX7_down 94 = .ok (.iconst 0, 1) := by decide +kernel
theorem dX7_down_95 : decode cX7_down 95 = .ok (.goto 5, 3) := by decide +kernel
theorem dX7_down_98 : decode cX7_down 98 = .ok (.iload 4, 2) := by decide +kernel
theorem dX7_down_100 : decode cX7_down 100 = .ok (.putfield 17, 3) := by decide +kernel
theorem dX7_down_103 : decode cX7_down 103 = .ok (.return_, 1) := by decide +kernel
theorem dX7_over_0 : decode cX7_over 0 = .ok (.aload_n 1, 1) := by decide +kernel
theorem dX7_over_1 : decode cX7_over 1 = .ok (.aload_n 2, 1) := by decide +kernel
theorem dX7_over_2 : decode cX7_over 2 = .ok (.invokevirtual 41, 3) := by decide +kernel
theorem dX7_over_5 : decode cX7_over 5 = .ok (.ifCond .ge 13, 3) := by decide +kernel
theorem dX7_over_8 : decode cX7_over 8 = .ok (.aload_n 3, 1) := by decide +kernel
theorem dX7_over_9 : decode cX7_over 9 = .ok (.aload_n 1, 1) := by decide +kernel
theorem dX7_over_10 : decode cX7_over 10 = .ok (.invokevirtual 54, 3) := by decide +kernel
theorem dX7_over_13 : decode cX7_over 13 = .ok (.aload_n 0, 1) := by decide +kernel
theorem dX7_over_14 : decode cX7_over 14 = .ok (.invokevirtual 69, 3) := by decide +kernel
theorem dX7_over_17 : decode cX7_over 17 = .ok (.return_, 1) := by decide +kernel
theorem dX7_over_18 : decode cX7_over 18 = .ok (.aload_n 1, 1) := by decide +kernel
theorem dX7_over_19 : decode cX7_over 19 = .ok (.getfield 17, 3) := by decide +kernel
theorem dX7_over_22 : decode cX7_over 22 = .ok (.istore 4, 2) := by decide +kernel
theorem dX7_over_24 : decode cX7_over 24 = .ok (.aload_n 2, 1) := by decide +kernel
theorem dX7_over_25 : decode cX7_over 25 = .ok (.getfield 17, 3) := by decide +kernel
theorem dX7_over_28 : decode cX7_over 28 = .ok (.istore 5, 2) := by decide +kernel
theorem dX7_over_30 : decode cX7_over 30 = .ok (.aload_n 2, 1) := by decide +kernel
theorem dX7_over_31 : decode cX7_over 31 = .ok (.getfield 13, 3) := by decide +kernel
theorem dX7_over_34 : decode cX7_over 34 = .ok (.iconst 1, 1) := by decide +kernel
theorem dX7_over_35 : decode cX7_over 35 = .ok (.if_icmp .ne 95, 3) := by decide +kernel
theorem dX7_over_38 : decode cX7_over 38 = .ok (.aload_n 2, 1) := by decide +kernel
theorem dX7_over_39 : decode cX7_over 39 = .ok (.getfield 7, 3) := by decide +kernel
theorem dX7_over_42 : decode cX7_over 42 = .ok (.iconst 0, 1) := by decide +kernel
theorem dX7_over_43 : decode cX7_over 43 = .ok (.iaload, 1) := by decide +kernel
theorem dX7_over_44 : decode cX7_over 44 = .ok (.istore 6, 2) := by decide +kernel
theorem dX7_over_46 : decode cX7_over 46 = .ok (.aload_n 0, 1) := by decide +kernel
theorem dX7_over_47 : decode cX7_over 47 = .ok (.aload_n 1, 1) := by decide +kernel
theorem dX7_over_48 : decode cX7_over 48 = .ok (.invokevirtual 54, 3) := by decide +kernel
theorem dX7_over_51 : decode cX7_over 51 = .ok (.lconst 0, 1) := by decide +kernel
theorem dX7_over_52 : decode cX7_over 52 = .ok (.lstore 7, 2) := by decide +kernel
theorem dX7_over_54 : decode cX7_over 54 = .ok (.aload_n 0, 1) := by decide +kernel
theorem dX7_over_55 : decode cX7_over 55 = .ok (.getfield 13, 3) := by decide +kernel
theorem dX7_over_58 : decode cX7_over 58 = .ok (.iconst 1, 1) := by decide +kernel
theorem dX7_over_59 : decode cX7_over 59 = .ok (.isub, 1) := by decide +kernel
theorem dX7_over_60 : decode cX7_over 60 = .ok (.istore 9, 2) := by decide +kernel
theorem dX7_over_62 : decode cX7_over 62 = .ok (.iload 9, 2) := by decide +kernel
theorem dX7_over_64 : decode cX7_over 64 = .ok (.ifCond .lt 57, 3) := by decide +kernel
theorem dX7_over_67 : decode cX7_over 67 = .ok (.lload 7, 2) := by decide +kernel
theorem dX7_over_69 : decode cX7_over 69 = .ok (.bipush 32, 2) := by decide +kernel
theorem dX7_over_71 : decode cX7_over 71 = .ok (.lshl, 1) := by decide +kernel
theorem dX7_over_72 : decode cX7_over 72 = .ok (.aload_n 0, 1) := by decide +kernel
theorem dX7_over_73 : decode cX7_over 73 = .ok (.iload 9, 2) := by decide +kernel
theorem dX7_over_75 : decode cX7_over 75 = .ok (.invokevirtual 50, 3) := by decide +kernel
theorem dX7_over_78 : decode cX7_over 78 = .ok (.lor, 1) := by decide +kernel
theorem dX7_over_79 : decode cX7_over 79 = .ok (.lstore 10, 2) := by decide +kernel
theorem dX7_over_81 : decode cX7_over 81 = .ok (.aload_n 0, 1) := by decide +kernel
theorem dX7_over_82 : decode cX7_over 82 = .ok (.getfield 7, 3) := by decide +kernel
theorem dX7_over_85 : decode cX7_over 85 = .ok (.iload 9, 2) := by decide +kernel
theorem dX7_over_87 : decode cX7_over 87 = .ok (.lload 10, 2) := by decide +kernel
theorem dX7_over_89 : decode cX7_over 89 = .ok (.iload 6, 2) := by decide +kernel
theorem dX7_over_91 : decode cX7_over 91 = .ok (.i2l, 1) := by decide +kernel
theorem dX7_over_92 : decode cX7_over 92 = .ok (.ldc2_w 29, 3) := by decide +kernel
theorem dX7_over_95 : decode cX7_over 95 = .ok (.land, 1) := by decide +kernel
theorem dX7_over_96 : decode cX7_over 96 = .ok (.invokestatic 72, 3) := by decide +kernel
theorem dX7_over_99 : decode cX7_over 99 = .ok (.l2i, 1) := by decide +kernel
theorem dX7_over_100 : decode cX7_over 100 = .ok (.iastore, 1) := by decide +kernel
theorem dX7_over_101 : decode cX7_over 101 = .ok (.lload 10, 2) := by decide +kernel
theorem dX7_over_103 : decode cX7_over 103 = .ok (.iload 6, 2) := by decide +kernel
theorem dX7_over_105 : decode cX7_over 105 = .ok (.i2l, 1) := by decide +kernel
theorem dX7_over_106 : decode cX7_over 106 = .ok (.ldc2_w 29, 3) := by decide +kernel
theorem dX7_over_109 : decode cX7_over 109 = .ok (.land, 1) := by decide +kernel
theorem dX7_over_110 : decode cX7_over 110 = .ok (.invokestatic 78, 3) := by decide +kernel
theorem dX7_over_113 : decode cX7_over 113 = .ok (.lstore 7, 2) := by decide +kernel
theorem dX7_over_115 : decode cX7_over 115 = .ok (.iinc 9 (-1), 3) := by decide +kernel
theorem dX7_over_118 : decode cX7_over 118 = .ok (.goto (-56), 3) := by decide +kernel
theorem dX7_over_121 : decode cX7_over 121 = .ok (.aload_n 3, 1) := by decide +kernel
theorem dX7_over_122 : decode cX7_over 122 = .ok (.lload 7, 2) := by decide +kernel
theorem dX7_over_124 : decode cX7_over 124 = .ok (.invokevirtual 81, 3) := by decide +kernel
theorem dX7_over_127 : decode cX7_over 127 = .ok (.goto 10, 3) := by decide +kernel
theorem dX7_over_130 : decode cX7_over 130 = .ok (.aload_n 0, 1) := by decide +kernel
theorem dX7_over_131 : decode cX7_over 131 = .ok (.aload_n 1, 1) := by decide +kernel
theorem dX7_over_132 : decode cX7_over 132 = .ok (.aload_n 2, 1) := by decide +kernel
theorem dX7_over_133 : decode cX7_over 133 = .ok (.aload_n 3, 1) := by decide +kernel
theorem dX7_over_134 : decode cX7_over 134 = .ok (.invokevirtual 85, 3) := by decide +kernel
theorem dX7_over_137 : decode cX7_over 137 = .ok (.aload_n 0, 1) := by decide +kernel
theorem dX7_over_138 : decode cX7_over 138 = .ok (.iload 4, 2) := by decide +kernel
theorem dX7_over_140 : decode cX7_over 140 = .ok (.iload 5, 2) := by decide +kernel
theorem dX7_over_142 : decode cX7_over 142 = .ok (.imul, 1) := by decide +kernel
theorem dX7_over_143 : decode cX7_over 143 = .ok (.putfield 17, 3) := by decide +kernel
theorem dX7_over_146 : decode cX7_over 146 = .ok (.aload_n 0, 1) := by decide +kernel
theorem dX7_over_147 : decode cX7_over 147 = .ok (.invokevirtual 26, 3) := by decide +kernel
theorem dX7_over_150 : decode cX7_over 150 = .ok (.aload_n 3, 1) := by decide +kernel
theorem dX7_over_151 : decode cX7_over 151 = .ok (.aload_n 3, 1) := by decide +kernel
theorem dX7_over_152 : decode cX7_over 152 = .ok (.getfield 13, 3) := by decide +kernel
theorem dX7_over_155 : decode cX7_over 155 = .ok (.ifCond .ne 7, 3) := by decide +kernel
theorem dX7_over_158 : decode cX7_over 158 = .ok (.iconst 0, 1) := by decide +kernel
theorem dX7_over_159 : decode cX7_over 159 = .ok (.goto 5, 3) := by decide +kernel
theorem dX7_over_162 : decode cX7_over 162 = .ok (.iload 4, 2) := by decide +kernel
theorem dX7_over_164 : decode cX7_over 164 = .ok (.putfield 17, 3) := by decide +kernel
theorem dX7_over_167 : decode cX7_over 167 = .ok (.return_, 1) := by decide +kernel
theorem dX7_longOver_0 : decode cX7_longOver 0 = .ok (.aload_n 2, 1) := by decide +kernel
theorem dX7_longOver_1 : decode cX7_longOver 1 = .ok (.getfield 7, 3) := by decide +kernel
theorem dX7_longOver_4 : decode cX7_longOver 4 = .ok (.aload_n 2, 1) := by decide +kernel
theorem dX7_longOver_5 : decode cX7_longOver 5 = .ok (.getfield 13, 3) := by decide +kernel
theorem dX7_longOver_8 : decode cX7_longOver 8 = .ok (.iconst 1, 1) := by decide +kernel
theorem dX7_longOver_9 : decode cX7_longOver 9 = .ok (.isub, 1) := by decide +kernel
theorem dX7_longOver_10 : decode cX7_longOver 10 = .ok (.iaload, 1) := by decide +kernel
theorem dX7_longOver_11 : decode cX7_longOver 11 = .ok (.invokestatic 31, 3) := by decide +kernel
theorem dX7_longOver_14 : decode cX7_longOver 14 = .ok (.istore 4, 2) := by decide +kernel
theorem dX7_longOver_16 : decode cX7_longOver 16 = .ok (.aload_n 2, 1) := by decide +kernel
theorem dX7_longOver_17 : decode cX7_longOver 17 = .ok (.getfield 13, 3) := by decide +kernel
theorem dX7_longOver_20 : decode cX7_longOver 20 = .ok (.istore 5, 2) := by decide +kernel
theorem dX7_longOver_22 : decode cX7_longOver 22 = .ok (.aload_n 3, 1) := by decide +kernel
theorem dX7_longOver_23 : decode cX7_longOver 23 = .ok (.aload_n 1, 1) := by decide +kernel
theorem dX7_longOver_24 : decode cX7_longOver 24 = .ok (.invokevirtual 54, 3) := by decide +kernel
theorem dX7_longOver_27 : decode cX7_longOver 27 = .ok (.aload_n 3, 1) := by decide +kernel
theorem dX7_longOver_28 : decode cX7_longOver 28 = .ok (.iconst 1, 1) := by decide +kernel
theorem dX7_longOver_29 : decode cX7_longOver 29 = .ok (.putfield 17, 3) := by decide +kernel
theorem dX7_longOver_32 : decode cX7_longOver 32 = .ok (.aload_n 3, 1) := by decide +kernel
theorem dX7_longOver_33 : decode cX7_longOver 33 = .ok (.iload 4, 2) := by decide +kernel
theorem dX7_longOver_35 : decode cX7_longOver 35 = .ok (.invokevirtual 89, 3) := by decide +kernel
theorem dX7_longOver_38 : decode cX7_longOver 38 = .ok (.aload_n 3, 1) := by decide +kernel
theorem dX7_longOver_39 : decode cX7_longOver 39 = .ok (.getfield 13, 3) := by decide +kernel
theorem dX7_longOver_42 : decode cX7_longOver 42 = .ok (.istore 6, 2) := by decide +kernel
theorem dX7_longOver_44 : decode cX7_longOver 44 = .ok (.iload 6, 2) := by decide +kernel
theorem dX7_longOver_46 : decode cX7_longOver 46 = .ok (.istore 7, 2) := by decide +kernel
theorem dX7_longOver_48 : decode cX7_longOver 48 = .ok (.iload 7, 2) := by decide +kernel
theorem dX7_longOver_50 : decode cX7_longOver 50 = .ok (.aload_n 1, 1) := by decide +kernel
theorem dX7_longOver_51 : decode cX7_longOver 51 = .ok (.getfield 13, 3) := by decide +kernel
theorem dX7_longOver_54 : decode cX7_longOver 54 = .ok (.iconst 1, 1) := by decide +kernel
theorem dX7_longOver_55 : decode cX7_longOver 55 = .ok (.iadd, 1) := by decide +kernel
theorem dX7_longOver_56 : decode cX7_longOver 56 = .ok (.if_icmp .gt 17, 3) := by decide +kernel
theorem dX7_longOver_59 : decode cX7_longOver 59 = .ok (.aload_n 3, 1) := by decide +kernel
theorem dX7_longOver_60 : decode cX7_longOver 60 = .ok (.getfield 7, 3) := by decide +kernel
theorem dX7_longOver_63 : decode cX7_longOver 63 = .ok (.iload 7, 2) := by decide +kernel
theorem dX7_longOver_65 : decode cX7_longOver 65 = .ok (.iconst 0, 1) := by decide +kernel
theorem dX7_longOver_66 : decode cX7_longOver 66 = .ok (.iastore, 1) := by decide +kernel
theorem dX7_longOver_67 : decode cX7_longOver 67 = .ok (.iinc 7 1, 3) := by decide +kernel
theorem dX7_longOver_70 : decode cX7_longOver 70 = .ok (.goto (-22), 3) := by decide +kernel
theorem dX7_longOver_73 : decode cX7_longOver 73 = .ok (.aload_n 2, 1) := by decide +kernel
theorem dX7_longOver_74 : decode cX7_longOver 74 = .ok (.iload 5, 2) := by decide +kernel
theorem dX7_longOver_76 : decode cX7_longOver 76 = .ok (.iconst 1, 1) := by decide +kernel
theorem dX7_longOver_77 : decode cX7_longOver 77 = .ok (.isub, 1) := by decide +kernel
theorem dX7_longOver_78 : decode cX7_longOver 78 = .ok (.iload 4, 2) := by decide +kernel
theorem dX7_longOver_80 : decode cX7_longOver 80 = .ok (.invokestatic 93, 3) := by decide +kernel
theorem dX7_longOver_83 : decode cX7_longOver 83 = .ok (.lstore 7, 2) := by decide +kernel
theorem dX7_longOver_85 : decode cX7_longOver 85 = .ok (.aload_n 2, 1) := by decide +kernel
theorem dX7_longOver_86 : decode cX7_longOver 86 = .ok (.iload 5, 2) := by decide +kernel
theorem dX7_longOver_88 : decode cX7_longOver 88 = .ok (.iconst 2, 1) := by decide +kernel
theorem dX7_longOver_89 : decode cX7_longOver 89 = .ok (.isub, 1) := by decide +kernel
theorem dX7_longOver_90 : decode cX7_longOver 90 = .ok (.iload 4, 2) := by decide +kernel
theorem dX7_longOver_92 : decode cX7_longOver 92 = .ok (.invokestatic 93, 3) := by decide +kernel
theorem dX7_longOver_95 : decode cX7_longOver 95 = .ok (.lstore 9, 2) := by decide +kernel
theorem dX7_longOver_97 : decode cX7_longOver 97 = .ok (.aload_n 1, 1) := by decide +kernel
theorem dX7_longOver_98 : decode cX7_longOver 98 = .ok (.getfield 13, 3) := by decide +kernel
theorem dX7_longOver_101 : decode cX7_longOver 101 = .ok (.iconst 1, 1) := by decide +kernel
theorem dX7_longOver_102 : decode cX7_longOver 102 = .ok (.iadd, 1) := by decide +kernel
theorem dX7_longOver_103 : decode cX7_longOver 103 = .ok (.iload 5, 2) := by decide +kernel
theorem dX7_longOver_105 : decode cX7_longOver 105 = .ok (.isub, 1) := by decide +kernel
theorem dX7_longOver_106 : decode cX7_longOver 106 = .ok (.istore 11, 2) := by decide +kernel
theorem dX7_longOver_108 : decode cX7_longOver 108 = .ok (.aload_n 0, 1) := by decide +kernel
theorem dX7_longOver_109 : decode cX7_longOver 109 = .ok (.iload 11, 2) := by decide +kernel
theorem dX7_longOver_111 : decode cX7_longOver 111 = .ok (.putfield 13, 3) := by decide +kernel
theorem dX7_longOver_114 : decode cX7_longOver 114 = .ok (.iload 11, 2) := by decide +kernel
theorem dX7_longOver_116 : decode cX7_longOver 116 = .ok (.iconst 1, 1) := by decide +kernel
theorem dX7_longOver_117 : decode cX7_longOver 117 = .ok (.isub, 1) := by decide +kernel
theorem dX7_longOver_118 : decode cX7_longOver 118 = .ok (.istore 12, 2) := by decide +kernel
theorem dX7_longOver_120 : decode cX7_longOver 120 = .ok (.iload 12, 2) := by decide +kernel
theorem dX7_longOver_122 : decode cX7_longOver 122 = .ok (.ifCond .lt 156, 3) := by decide +kernel
theorem dX7_longOver_125 : decode cX7_longOver 125 = .ok (.aload_n 3, 1) := by decide +kernel
theorem dX7_longOver_126 : decode cX7_longOver 126 = .ok (.getfield 7, 3) := by decide +kernel
theorem dX7_longOver_129 : decode cX7_longOver 129 = .ok (.iload 12, 2) := by decide +kernel
theorem dX7_longOver_131 : decode cX7_longOver 131 = .ok (.iload 5, 2) := by decide +kernel
theorem dX7_longOver_133 : decode cX7_longOver 133 = .ok (.iadd, 1) := by decide +kernel
theorem dX7_longOver_134 : decode cX7_longOver 134 = .ok (.iaload, 1) := by decide +kernel
theorem dX7_longOver_135 : decode cX7_longOver 135 = .ok (.i2l, 1) := by decide +kernel
theorem dX7_longOver_136 : decode cX7_longOver 136 = .ok (.ldc2_w 29, 3) := by decide +kernel
theorem dX7_longOver_139 : decode cX7_longOver 139 = .ok (.land, 1) := by decide +kernel
theorem dX7_longOver_140 : decode cX7_longOver 140 = .ok (.bipush 32, 2) := by decide +kernel
theorem dX7_longOver_142 : decode cX7_longOver 142 = .ok (.lshl, 1) := by decide +kernel
theorem dX7_longOver_143 : decode cX7_longOver 143 = .ok (.aload_n 3, 1) := by decide +kernel
theorem dX7_longOver_144 : decode cX7_longOver 144 = .ok (.getfield 7, 3) := by decide +kernel
theorem dX7_longOver_147 : decode cX7_longOver 147 = .ok (.iload 12, 2) := by decide +kernel
theorem dX7_longOver_149 : decode cX7_longOver 149 = .ok (.iload 5, 2) := by decide +kernel
theorem dX7_longOver_151 : decode cX7_longOver 151 = .ok (.iadd, 1) := by decide +kernel
theorem dX7_longOver_152 : decode cX7_longOver 152 = .ok (.iconst 1, 1) := by decide +kernel
theorem dX7_longOver_153 : decode cX7_longOver 153 = .ok (.isub, 1) := by decide +kernel
theorem dX7_longOver_154 : decode cX7_longOver 154 = .ok (.iaload, 1) := by decide +kernel
theorem dX7_longOver_155 : decode cX7_longOver 155 = .ok (.i2l, 1) := by decide +kernel
theorem dX7_longOver_156 : decode cX7_longOver 156 = .ok (.ldc2_w 29, 3) := by decide +kernel
theorem dX7_longOver_159 : decode cX7_longOver 159 = .ok (.land, 1) := by decide +kernel
theorem dX7_longOver_160 : decode cX7_longOver 160 = .ok (.lor, 1) := by decide +kernel
theorem dX7_longOver_161 : decode cX7_longOver 161 = .ok (.lstore 13, 2) := by decide +kernel
theorem dX7_longOver_163 : decode cX7_longOver 163 = .ok (.lload 13, 2) := by decide +kernel
theorem dX7_longOver_165 : decode cX7_longOver 165 = .ok (.lload 7, 2) := by decide +kernel
theorem dX7_longOver_167 : decode cX7_longOver 167 = .ok (.invokestatic 72, 3) := by decide +kernel
theorem dX7_longOver_170 : decode cX7_longOver 170 = .ok (.lstore 15, 2) := by decide +kernel
theorem dX7_longOver_172 : decode cX7_longOver 172 = .ok (.lload 13, 2) := by decide +kernel
theorem dX7_longOver_174 : decode cX7_longOver 174 = .ok (.lload 7, 2) := by decide +kernel
theorem dX7_longOver_176 : decode cX7_longOver 176 = .ok (.invokestatic 78, 3) := by decide +kernel
theorem dX7_longOver_179 : decode cX7_longOver 179 = .ok (.lstore 17, 2) := by decide +kernel
theorem dX7_longOver_181 : decode cX7_longOver 181 = .ok (.lload 17, 2) := by decide +kernel
theorem dX7_longOver_183 : decode cX7_longOver 183 = .ok (.bipush 32, 2) := by decide +kernel
theorem dX7_longOver_185 : decode cX7_longOver 185 = .ok (.lushr, 1) := by decide +kernel
theorem dX7_longOver_186 : decode cX7_longOver 186 = .ok (.lconst 0, 1) := by decide +kernel
theorem dX7_longOver_187 : decode cX7_longOver 187 = .ok (.lcmp, 1) := by decide +kernel
theorem dX7_longOver_188 : decode cX7_longOver 188 = .ok (.ifCond .ne 63, 3) := by decide +kernel
theorem dX7_longOver_191 : decode cX7_longOver 191 = .ok (.lload 15, 2) := by decide +kernel
theorem dX7_longOver_193 : decode cX7_longOver 193 = .ok (.bipush 32, 2) := by decide +kernel
theorem dX7_longOver_195 : decode cX7_longOver 195 = .ok (.lushr, 1) := by decide +kernel
theorem dX7_longOver_196 : decode cX7_longOver 196 = .ok (.lconst 0, 1) := by decide +kernel
theorem dX7_longOver_197 : decode cX7_longOver 197 = .ok (.lcmp, 1) := by decide +kernel
theorem dX7_longOver_198 : decode cX7_longOver 198 = .ok (.ifCond .ne 37, 3) := by decide +kernel
theorem dX7_longOver_201 : decode cX7_longOver 201 = .ok (.lload 15, 2) := by decide +kernel
theorem dX7_longOver_203 : decode cX7_longOver 203 = .ok (.lload 9, 2) := by decide +kernel
theorem dX7_longOver_205 : decode cX7_longOver 205 = .ok (.lmul, 1) := by decide +kernel
theorem dX7_longOver_206 : decode cX7_longOver 206 = .ok (.lload 17, 2) := by decide +kernel
theorem dX7_longOver_208 : decode cX7_longOver 208 = .ok (.bipush 32, 2) := by decide +kernel
theorem dX7_longOver_210 : decode cX7_longOver 210 = .ok (.lshl, 1) := by decide +kernel
theorem dX7_longOver_211 : decode cX7_longOver 211 = .ok (.aload_n 3, 1) := by decide +kernel
theorem dX7_longOver_212 : decode cX7_longOver 212 = .ok (.getfield 7, 3) := by decide +kernel
theorem dX7_longOver_215 : decode cX7_longOver 215 = .ok (.iload 12, 2) := by decide +kernel
theorem dX7_longOver_217 : decode cX7_longOver 217 = .ok (.iload 5, 2) := by decide +kernel
theorem dX7_longOver_219 : decode cX7_longOver 219 = .ok (.iadd, 1) := by decide +kernel
theorem dX7_longOver_220 : decode cX7_longOver 220 = .ok (.iconst 2, 1) := by decide +kernel
theorem dX7_longOver_221 : decode cX7_longOver 221 = .ok (.isub, 1) := by decide +kernel
theorem dX7_longOver_222 : decode cX7_longOver 222 = .ok (.iaload, 1) := by decide +kernel
theorem dX7_longOver_223 : decode cX7_longOver 223 = .ok (.i2l, 1) := by decide +kernel
theorem dX7_longOver_224 : decode cX7_longOver 224 = .ok (.ldc2_w 29, 3) := by decide +kernel
theorem dX7_longOver_227 : decode cX7_longOver 227 = .ok (.land, 1) := by decide +kernel
theorem dX7_longOver_228 : decode cX7_longOver 228 = .ok (.lor, 1) := by decide +kernel
theorem dX7_longOver_229 : decode cX7_longOver 229 = .ok (.invokestatic 97, 3) := by decide +kernel
theorem dX7_longOver_232 : decode cX7_longOver 232 = .ok (.ifCond .le 19, 3) := by decide +kernel
theorem dX7_longOver_235 : decode cX7_longOver 235 = .ok (.lload 15, 2) := by decide +kernel
theorem dX7_longOver_237 : decode cX7_longOver 237 = .ok (.lconst 1, 1) := by decide +kernel
theorem dX7_longOver_238 : decode cX7_longOver 238 = .ok (.lsub, 1) := by decide +kernel
theorem dX7_longOver_239 : decode cX7_longOver 239 = .ok (.lstore 15, 2) := by decide +kernel
theorem dX7_longOver_241 : decode cX7_longOver 241 = .ok (.lload 17, 2) := by decide +kernel
theorem dX7_longOver_243 : decode cX7_longOver 243 = .ok (.lload 7, 2) := by decide +kernel
theorem dX7_longOver_245 : decode cX7_longOver 245 = .ok (.ladd, 1) := by decide +kernel
theorem dX7_longOver_246 : decode cX7_longOver 246 = .ok (.lstore 17, 2) := by decide +kernel
theorem dX7_longOver_248 : decode cX7_longOver 248 = .ok (.goto (-67), 3) := by decide +kernel
theorem dX7_longOver_251 : decode cX7_longOver 251 = .ok (.aload_n 0, 1) := by decide +kernel
theorem dX7_longOver_252 : decode cX7_longOver 252 = .ok (.getfield 7, 3) := by decide +kernel
theorem dX7_longOver_255 : decode cX7_longOver 255 = .ok (.iload 12, 2) := by decide +kernel
theorem dX7_longOver_257 : decode cX7_longOver 257 = .ok (.aload_n 3, 1) := by decide +kernel
theorem dX7_longOver_258 : decode cX7_longOver 258 = .ok (.aload_n 2, 1) := by decide +kernel
theorem dX7_longOver_259 : decode cX7_longOver 259 = .ok (.iload 12, 2) := by decide +kernel
theorem dX7_longOver_261 : decode cX7_longOver 261 = .ok (.iload 5, 2) := by decide +kernel
theorem dX7_longOver_263 : decode cX7_longOver 263 = .ok (.iload 4, 2) := by decide +kernel
theorem dX7_longOver_265 : decode cX7_longOver 265 = .ok (.lload 15, 2) := by decide +kernel
theorem dX7_longOver_267 : decode cX7_longOver 267 = .ok (.invokestatic 100, 3) := by decide +kernel
theorem dX7_longOver_270 : decode cX7_longOver 270 = .ok (.l2i, 1) := by decide +kernel
theorem dX7_longOver_271 : decode cX7_longOver 271 = .ok (.iastore, 1) := by decide +kernel
theorem dX7_longOver_272 : decode cX7_longOver 272 = .ok (.iinc 12 (-1), 3) := by decide +kernel
theorem dX7_longOver_275 : decode cX7_longOver 275 = .ok (.goto (-155), 3) := by decide +kernel
theorem dX7_longOver_278 : decode cX7_longOver 278 = .ok (.aload_n 3, 1) := by decide +kernel
theorem dX7_longOver_279 : decode cX7_longOver 279 = .ok (.iload 5, 2) := by decide +kernel
theorem dX7_longOver_281 : decode cX7_longOver 281 = .ok (.putfield 13, 3) := by decide +kernel
theorem dX7_longOver_284 : decode cX7_longOver 284 = .ok (.aload_n 3, 1) := by decide +kernel
theorem dX7_longOver_285 : decode cX7_longOver 285 = .ok (.invokevirtual 26, 3) := by decide +kernel
theorem dX7_longOver_288 : decode cX7_longOver 288 = .ok (.aload_n 3, 1) := by decide +kernel
theorem dX7_longOver_289 : decode cX7_longOver 289 = .ok (.aload_n 3, 1) := by decide +kernel
theorem dX7_longOver_290 : decode cX7_longOver 290 = .ok (.getfield 13, 3) := by decide +kernel
theorem dX7_longOver_293 : decode cX7_longOver 293 = .ok (.ifCond .ne 7, 3) := by decide +kernel
theorem dX7_longOver_296 : decode cX7_longOver 296 = .ok (.iconst 0, 1) := by decide +kernel
theorem dX7_longOver_297 : decode cX7_longOver 297 = .ok (.goto 4, 3) := by decide +kernel
theorem dX7_longOver_300 : decode cX7_longOver 300 = .ok (.iconst 1, 1) := by decide +kernel
theorem dX7_longOver_301 : decode cX7_longOver 301 = .ok (.putfield 17, 3) := by decide +kernel
theorem dX7_longOver_304 : decode cX7_longOver 304 = .ok (.aload_n 3, 1) := by decide +kernel
theorem dX7_longOver_305 : decode cX7_longOver 305 = .ok (.iload 4, 2) := by decide +kernel
theorem dX7_longOver_307 : decode cX7_longOver 307 = .ok (.invokevirtual 104, 3) := by decide +kernel
theorem dX7_longOver_310 : decode cX7_longOver 310 = .ok (.return_, 1) := by decide +kernel
theorem dX7_lifted_0 : decode cX7_lifted 0 = .ok (.aload_n 0, 1) := by decide +kernel
theorem dX7_lifted_1 : decode cX7_lifted 1 = .ok (.iload_n 1, 1) := by decide +kernel
theorem dX7_lifted_2 : decode cX7_lifted 2 = .ok (.invokevirtual 50, 3) := by decide +kernel
theorem dX7_lifted_5 : decode cX7_lifted 5 = .ok (.bipush 32, 2) := by decide +kernel
theorem dX7_lifted_7 : decode cX7_lifted 7 = .ok (.lshl, 1) := by decide +kernel
theorem dX7_lifted_8 : decode cX7_lifted 8 = .ok (.iload_n 1, 1) := by decide +kernel
theorem dX7_lifted_9 : decode cX7_lifted 9 = .ok (.ifCond .le 13, 3) := by decide +kernel
theorem dX7_lifted_12 : decode cX7_lifted 12 = .ok (.aload_n 0, 1) := by decide +kernel
theorem dX7_lifted_13 : decode cX7_lifted 13 = .ok (.iload_n 1, 1) := by decide +kernel
theorem dX7_lifted_14 : decode cX7_lifted 14 = .ok (.iconst 1, 1) := by decide +kernel
theorem dX7_lifted_15 : decode cX7_lifted 15 = .ok (.isub, 1) := by decide +kernel
theorem dX7_lifted_16 : decode cX7_lifted 16 = .ok (.invokevirtual 50, 3) := by decide +kernel
theorem dX7_lifted_19 : decode cX7_lifted 19 = .ok (.goto 4, 3) := by decide +kernel
theorem dX7_lifted_22 : decode cX7_lifted 22 = .ok (.lconst 0, 1) := by decide +kernel
theorem dX7_lifted_23 : decode cX7_lifted 23 = .ok (.lor, 1) := by decide +kernel
theorem dX7_lifted_24 : decode cX7_lifted 24 = .ok (.lstore_n 3, 1) := by decide +kernel
theorem dX7_lifted_25 : decode cX7_lifted 25 = .ok (.lload_n 3, 1) := by decide +kernel
theorem dX7_lifted_26 : decode cX7_lifted 26 = .ok (.iload_n 2, 1) := by decide +kernel
theorem dX7_lifted_27 : decode cX7_lifted 27 = .ok (.lshl, 1) := by decide +kernel
theorem dX7_lifted_28 : decode cX7_lifted 28 = .ok (.bipush 32, 2) := by decide +kernel
theorem dX7_lifted_30 : decode cX7_lifted 30 = .ok (.lushr, 1) := by decide +kernel
theorem dX7_lifted_31 : decode cX7_lifted 31 = .ok (.lreturn, 1) := by decide +kernel
theorem dX7_takeAway_0 : decode cX7_takeAway 0 = .ok (.lconst 0, 1) := by decide +kernel
theorem dX7_takeAway_1 : decode cX7_takeAway 1 = .ok (.lstore 7, 2) := by decide +kernel
theorem dX7_takeAway_3 : decode cX7_takeAway 3 = .ok (.lconst 0, 1) := by decide +kernel
theorem dX7_takeAway_4 : decode cX7_takeAway 4 = .ok (.lstore 9, 2) := by decide +kernel
theorem dX7_takeAway_6 : decode cX7_takeAway 6 = .ok (.iconst 0, 1) := by decide +kernel
theorem dX7_takeAway_7 : decode cX7_takeAway 7 = .ok (.istore 11, 2) := by decide +kernel
theorem dX7_takeAway_9 : decode cX7_takeAway 9 = .ok (.iload 11, 2) := by decide +kernel
theorem dX7_takeAway_11 : decode cX7_takeAway 11 = .ok (.iload_n 3, 1) := by decide +kernel
theorem dX7_takeAway_12 : decode cX7_takeAway 12 = .ok (.if_icmp .ge 84, 3) := by decide +kernel
theorem dX7_takeAway_15 : decode cX7_takeAway 15 = .ok (.lload 9, 2) := by decide +kernel
theorem dX7_takeAway_17 : decode cX7_takeAway 17 = .ok (.lload 5, 2) := by decide +kernel
theorem dX7_takeAway_19 : decode cX7_takeAway 19 = .ok (.aload_n 1, 1) := by decide +kernel
theorem dX7_takeAway_20 : decode cX7_takeAway 20 = .ok (.iload 11, 2) := by decide +kernel
theorem dX7_takeAway_22 : decode cX7_takeAway 22 = .ok (.iload 4, 2) := by decide +kernel
theorem dX7_takeAway_24 : decode cX7_takeAway 24 = .ok (.invokestatic 93, 3) := by decide +kernel
theorem dX7_takeAway_27 : decode cX7_takeAway 27 = .ok (.lmul, 1) := by decide +kernel
theorem dX7_takeAway_28 : decode cX7_takeAway 28 = .ok (.ladd, 1) := by decide +kernel
theorem dX7_takeAway_29 : decode cX7_takeAway 29 = .ok (.lstore 9, 2) := by decide +kernel
theorem dX7_takeAway_31 : decode cX7_takeAway 31 = .ok (.aload_n 0, 1) := by decide +kernel
theorem dX7_takeAway_32 : decode cX7_takeAway 32 = .ok (.getfield 7, 3) := by decide +kernel
theorem dX7_takeAway_35 : decode cX7_takeAway 35 = .ok (.iload_n 2, 1) := by decide +kernel
theorem dX7_takeAway_36 : decode cX7_takeAway 36 = .ok (.iload 11, 2) := by decide +kernel
theorem dX7_takeAway_38 : decode cX7_takeAway 38 = .ok (.iadd, 1) := by decide +kernel
theorem dX7_takeAway_39 : decode cX7_takeAway 39 = .ok (.iaload, 1) := by decide +kernel
theorem dX7_takeAway_40 : decode cX7_takeAway 40 = .ok (.i2l, 1) := by decide +kernel
theorem dX7_takeAway_41 : decode cX7_takeAway 41 = .ok (.ldc2_w 29, 3) := by decide +kernel
theorem dX7_takeAway_44 : decode cX7_takeAway 44 = .ok (.land, 1) := by decide +kernel
theorem dX7_takeAway_45 : decode cX7_takeAway 45 = .ok (.lload 9, 2) := by decide +kernel
theorem dX7_takeAway_47 : decode cX7_takeAway 47 = .ok (.ldc2_w 29, 3) := by decide +kernel
theorem dX7_takeAway_50 : decode cX7_takeAway 50 = .ok (.land, 1) := by decide +kernel
theorem dX7_takeAway_51 : decode cX7_takeAway 51 = .ok (.lsub, 1) := by decide +kernel
theorem dX7_takeAway_52 : decode cX7_takeAway 52 = .ok (.lload 7, 2) := by decide +kernel
theorem dX7_takeAway_54 : decode cX7_takeAway 54 = .ok (.lsub, 1) := by decide +kernel
theorem dX7_takeAway_55 : decode cX7_takeAway 55 = .ok (.lstore 12, 2) := by decide +kernel
theorem dX7_takeAway_57 : decode cX7_takeAway 57 = .ok (.aload_n 0, 1) := by decide +kernel
theorem dX7_takeAway_58 : decode cX7_takeAway 58 = .ok (.getfield 7, 3) := by decide +kernel
theorem dX7_takeAway_61 : decode cX7_takeAway 61 = .ok (.iload_n 2, 1) := by decide +kernel
theorem dX7_takeAway_62 : decode cX7_takeAway 62 = .ok (.iload 11, 2) := by decide +kernel
theorem dX7_takeAway_64 : decode cX7_takeAway 64 = .ok (.iadd, 1) := by decide +kernel
theorem dX7_takeAway_65 : decode cX7_takeAway 65 = .ok (.lload 12, 2) := by decide +kernel
theorem dX7_takeAway_67 : decode cX7_takeAway 67 = .ok (.l2i, 1) := by decide +kernel
theorem dX7_takeAway_68 : decode cX7_takeAway 68 = .ok (.iastore, 1) := by decide +kernel
theorem dX7_takeAway_69 : decode cX7_takeAway 69 = .ok (.lload 12, 2) := by decide +kernel
theorem dX7_takeAway_71 : decode cX7_takeAway 71 = .ok (.lconst 0, 1) := by decide +kernel
theorem dX7_takeAway_72 : decode cX7_takeAway 72 = .ok (.lcmp, 1) := by decide +kernel
theorem dX7_takeAway_73 : decode cX7_takeAway 73 = .ok (.ifCond .ge 7, 3) := by decide +kernel
theorem dX7_takeAway_76 : decode cX7_takeAway 76 = .ok (.lconst 1, 1) := by decide +kernel
theorem dX7_takeAway_77 : decode cX7_takeAway 77 = .ok (.goto 4, 3) := by decide +kernel
theorem dX7_takeAway_80 : decode cX7_takeAway 80 = .ok (.lconst 0, 1) := by decide +kernel
theorem dX7_takeAway_81 : decode cX7_takeAway 81 = .ok (.lstore 7, 2) := by decide +kernel
theorem dX7_takeAway_83 : decode cX7_takeAway 83 = .ok (.lload 9, 2) := by decide +kernel
theorem dX7_takeAway_85 : decode cX7_takeAway 85 = .ok (.bipush 32, 2) := by decide +kernel
theorem dX7_takeAway_87 : decode cX7_takeAway 87 = .ok (.lushr, 1) := by decide +kernel
theorem dX7_takeAway_88 : decode cX7_takeAway 88 = .ok (.lstore 9, 2) := by decide +kernel
theorem dX7_takeAway_90 : decode cX7_takeAway 90 = .ok (.iinc 11 1, 3) := by decide +kernel
theorem dX7_takeAway_93 : decode cX7_takeAway 93 = .ok (.goto (-84), 3) := by decide +kernel
theorem dX7_takeAway_96 : decode cX7_takeAway 96 = .ok (.aload_n 0, 1) := by decide +kernel
theorem dX7_takeAway_97 : decode cX7_takeAway 97 = .ok (.getfield 7, 3) := by decide +kernel
theorem dX7_takeAway_100 : decode cX7_takeAway 100 = .ok (.iload_n 2, 1) := by decide +kernel
theorem dX7_takeAway_101 : decode cX7_takeAway 101 = .ok (.iload_n 3, 1) := by decide +kernel
theorem dX7_takeAway_102 : decode cX7_takeAway 102 = .ok (.iadd, 1) := by decide +kernel
theorem dX7_takeAway_103 : decode cX7_takeAway 103 = .ok (.iaload, 1) := by decide +kernel
theorem dX7_takeAway_104 : decode cX7_takeAway 104 = .ok (.i2l, 1) := by decide +kernel
theorem dX7_takeAway_105 : decode cX7_takeAway 105 = .ok (.ldc2_w 29, 3) := by decide +kernel
theorem dX7_takeAway_108 : decode cX7_takeAway 108 = .ok (.land, 1) := by decide +kernel
theorem dX7_takeAway_109 : decode cX7_takeAway 109 = .ok (.lload 9, 2) := by decide +kernel
theorem dX7_takeAway_111 : decode cX7_takeAway 111 = .ok (.lsub, 1) := by decide +kernel
theorem dX7_takeAway_112 : decode cX7_takeAway 112 = .ok (.lload 7, 2) := by decide +kernel
theorem dX7_takeAway_114 : decode cX7_takeAway 114 = .ok (.lsub, 1) := by decide +kernel
theorem dX7_takeAway_115 : decode cX7_takeAway 115 = .ok (.lstore 11, 2) := by decide +kernel
theorem dX7_takeAway_117 : decode cX7_takeAway 117 = .ok (.aload_n 0, 1) := by decide +kernel
theorem dX7_takeAway_118 : decode cX7_takeAway 118 = .ok (.getfield 7, 3) := by decide +kernel
theorem dX7_takeAway_121 : decode cX7_takeAway 121 = .ok (.iload_n 2, 1) := by decide +kernel
theorem dX7_takeAway_122 : decode cX7_takeAway 122 = .ok (.iload_n 3, 1) := by decide +kernel
theorem dX7_takeAway_123 : decode cX7_takeAway 123 = .ok (.iadd, 1) := by decide +kernel
theorem dX7_takeAway_124 : decode cX7_takeAway 124 = .ok (.lload 11, 2) := by decide +kernel
theorem dX7_takeAway_126 : decode cX7_takeAway 126 = .ok (.l2i, 1) := by decide +kernel
theorem dX7_takeAway_127 : decode cX7_takeAway 127 = .ok (.iastore, 1) := by decide +kernel
theorem dX7_takeAway_128 : decode cX7_takeAway 128 = .ok (.lload 11, 2) := by decide +kernel
theorem dX7_takeAway_130 : decode cX7_takeAway 130 = .ok (.lconst 0, 1) := by decide +kernel
theorem dX7_takeAway_131 : decode cX7_takeAway 131 = .ok (.lcmp, 1) := by decide +kernel
theorem dX7_takeAway_132 : decode cX7_takeAway 132 = .ok (.ifCond .lt 6, 3) := by decide +kernel
theorem dX7_takeAway_135 : decode cX7_takeAway 135 = .ok (.lload 5, 2) := by decide +kernel
theorem dX7_takeAway_137 : decode cX7_takeAway 137 = .ok (.lreturn, 1) := by decide +kernel
theorem dX7_takeAway_138 : decode cX7_takeAway 138 = .ok (.lconst 0, 1) := by decide +kernel
theorem dX7_takeAway_139 : decode cX7_takeAway 139 = .ok (.lstore 13, 2) := by decide +kernel
theorem dX7_takeAway_141 : decode cX7_takeAway 141 = .ok (.iconst 0, 1) := by decide +kernel
theorem dX7_takeAway_142 : decode cX7_takeAway 142 = .ok (.istore 15, 2) := by decide +kernel
theorem dX7_takeAway_144 : decode cX7_takeAway 144 = .ok (.iload 15, 2) := by decide +kernel
theorem dX7_takeAway_146 : decode cX7_takeAway 146 = .ok (.iload_n 3, 1) := by decide +kernel
theorem dX7_takeAway_147 : decode cX7_takeAway 147 = .ok (.if_icmp .ge 56, 3) := by decide +kernel
theorem dX7_takeAway_150 : decode cX7_takeAway 150 = .ok (.lload 13, 2) := by decide +kernel
theorem dX7_takeAway_152 : decode cX7_takeAway 152 = .ok (.aload_n 0, 1) := by decide +kernel
theorem dX7_takeAway_153 : decode cX7_takeAway 153 = .ok (.getfield 7, 3) := by decide +kernel
theorem dX7_takeAway_156 : decode cX7_takeAway 156 = .ok (.iload_n 2, 1) := by decide +kernel
theorem dX7_takeAway_157 : decode cX7_takeAway 157 = .ok (.iload 15, 2) := by decide +kernel
theorem dX7_takeAway_159 : decode cX7_takeAway 159 = .ok (.iadd, 1) := by decide +kernel
theorem dX7_takeAway_160 : decode cX7_takeAway 160 = .ok (.iaload, 1) := by decide +kernel
theorem dX7_takeAway_161 : decode cX7_takeAway 161 = .ok (.i2l, 1) := by decide +kernel
theorem dX7_takeAway_162 : decode cX7_takeAway 162 = .ok (.ldc2_w 29, 3) := by decide +kernel
theorem dX7_takeAway_165 : decode cX7_takeAway 165 = .ok (.land, 1) := by decide +kernel
theorem dX7_takeAway_166 : decode cX7_takeAway 166 = .ok (.aload_n 1, 1) := by decide +kernel
theorem dX7_takeAway_167 : decode cX7_takeAway 167 = .ok (.iload 15, 2) := by decide +kernel
theorem dX7_takeAway_169 : decode cX7_takeAway 169 = .ok (.iload 4, 2) := by decide +kernel
theorem dX7_takeAway_171 : decode cX7_takeAway 171 = .ok (.invokestatic 93, 3) := by decide +kernel
theorem dX7_takeAway_174 : decode cX7_takeAway 174 = .ok (.ladd, 1) := by decide +kernel
theorem dX7_takeAway_175 : decode cX7_takeAway 175 = .ok (.ladd, 1) := by decide +kernel
theorem dX7_takeAway_176 : decode cX7_takeAway 176 = .ok (.lstore 13, 2) := by decide +kernel
theorem dX7_takeAway_178 : decode cX7_takeAway 178 = .ok (.aload_n 0, 1) := by decide +kernel
theorem dX7_takeAway_179 : decode cX7_takeAway 179 = .ok (.getfield 7, 3) := by decide +kernel
theorem dX7_takeAway_182 : decode cX7_takeAway 182 = .ok (.iload_n 2, 1) := by decide +kernel
theorem dX7_takeAway_183 : decode cX7_takeAway 183 = .ok (.iload 15, 2) := by decide +kernel
theorem dX7_takeAway_185 : decode cX7_takeAway 185 = .ok (.iadd, 1) := by decide +kernel
theorem dX7_takeAway_186 : decode cX7_takeAway 186 = .ok (.lload 13, 2) := by decide +kernel
theorem dX7_takeAway_188 : decode cX7_takeAway 188 = .ok (.l2i, 1) := by decide +kernel
theorem dX7_takeAway_189 : decode cX7_takeAway 189 = .ok (.iastore, 1) := by decide +kernel
theorem dX7_takeAway_190 : decode cX7_takeAway 190 = .ok (.lload 13, 2) := by decide +kernel
theorem dX7_takeAway_192 : decode cX7_takeAway 192 = .ok (.bipush 32, 2) := by decide +kernel
theorem dX7_takeAway_194 : decode cX7_takeAway 194 = .ok (.lushr, 1) := by decide +kernel
theorem dX7_takeAway_195 : decode cX7_takeAway 195 = .ok (.lstore 13, 2) := by decide +kernel
theorem dX7_takeAway_197 : decode cX7_takeAway 197 = .ok (.iinc 15 1, 3) := by decide +kernel
theorem dX7_takeAway_200 : decode cX7_takeAway 200 = .ok (.goto (-56), 3) := by decide +kernel
theorem dX7_takeAway_203 : decode cX7_takeAway 203 = .ok (.aload_n 0, 1) := by decide +kernel
theorem dX7_takeAway_204 : decode cX7_takeAway 204 = .ok (.getfield 7, 3) := by decide +kernel
theorem dX7_takeAway_207 : decode cX7_takeAway 207 = .ok (.iload_n 2, 1) := by decide +kernel
theorem dX7_takeAway_208 : decode cX7_takeAway 208 = .ok (.iload_n 3, 1) := by decide +kernel
theorem dX7_takeAway_209 : decode cX7_takeAway 209 = .ok (.iadd, 1) := by decide +kernel
theorem dX7_takeAway_210 : decode cX7_takeAway 210 = .ok (.dup2, 1) := by decide +kernel
theorem dX7_takeAway_211 : decode cX7_takeAway 211 = .ok (.iaload, 1) := by decide +kernel
theorem dX7_takeAway_212 : decode cX7_takeAway 212 = .ok (.lload 13, 2) := by decide +kernel
theorem dX7_takeAway_214 : decode cX7_takeAway 214 = .ok (.l2i, 1) := by decide +kernel
theorem dX7_takeAway_215 : decode cX7_takeAway 215 = .ok (.iadd, 1) := by decide +kernel
theorem dX7_takeAway_216 : decode cX7_takeAway 216 = .ok (.iastore, 1) := by decide +kernel
theorem dX7_takeAway_217 : decode cX7_takeAway 217 = .ok (.lload 5, 2) := by decide +kernel
theorem dX7_takeAway_219 : decode cX7_takeAway 219 = .ok (.lconst 1, 1) := by decide +kernel
theorem dX7_takeAway_220 : decode cX7_takeAway 220 = .ok (.lsub, 1) := by decide +kernel
theorem dX7_takeAway_221 : decode cX7_takeAway 221 = .ok (.lreturn, 1) := by decide +kernel
theorem dJ6_compare_7cf53_0 : decode cJ6_compare_7cf53 0 = .ok (.iload_n 0, 1) := by decide +kernel
theorem dJ6_compare_7cf53_1 : decode cJ6_compare_7cf53 1 = .ok (.iload_n 1, 1) := by decide +kernel
theorem dJ6_compare_7cf53_2 : decode cJ6_compare_7cf53 2 = .ok (.if_icmp .ge 7, 3) := by decide +kernel
theorem dJ6_compare_7cf53_5 : decode cJ6_compare_7cf53 5 = .ok (.iconst (-1), 1) := by decide +kernel
theorem dJ6_compare_7cf53_6 : decode cJ6_compare_7cf53 6 = .ok (.goto 13, 3) := by decide +kernel
theorem dJ6_compare_7cf53_9 : decode cJ6_compare_7cf53 9 = .ok (.iload_n 0, 1) := by decide +kernel
theorem dJ6_compare_7cf53_10 : decode cJ6_compare_7cf53 10 = .ok (.iload_n 1, 1) := by decide +kernel
theorem dJ6_compare_7cf53_11 : decode cJ6_compare_7cf53 11 = .ok (.if_icmp .ne 7, 3) := by decide +kernel
theorem dJ6_compare_7cf53_14 : decode cJ6_compare_7cf53 14 = .ok (.iconst 0, 1) := by decide +kernel
theorem dJ6_compare_7cf53_15 : decode cJ6_compare_7cf53 15 = .ok (.goto 4, 3) := by decide +kernel
theorem dJ6_compare_7cf53_18 : decode cJ6_compare_7cf53 18 = .ok (.iconst 1, 1) := by decide +kernel
theorem dJ6_compare_7cf53_19 : decode cJ6_compare_7cf53 19 = .ok (.ireturn, 1) := by decide +kernel
theorem dJ6_compareUnsigned_7cf53_0 : decode cJ6_compareUnsigned_7cf53 0 = .ok (.iload_n 0, 1) := by decide +kernel
theorem dJ6_compareUnsigned_7cf53_1 : decode cJ6_compareUnsigned_7cf53 1 = .ok (.ldc 127, 2) := by decide +kernel
theorem dJ6_compareUnsigned_7cf53_3 : decode cJ6_compareUnsigned_7cf53 3 = .ok (.iadd, 1) := by decide +kernel
theorem dJ6_compareUnsigned_7cf53_4 : decode cJ6_compareUnsigned_7cf53 4 = .ok (.iload_n 1, 1) := by decide +kernel
theorem dJ6_compareUnsigned_7cf53_5 : decode cJ6_compareUnsigned_7cf53 5 = .ok (.ldc 127, 2) := by decide +kernel
theorem dJ6_compareUnsigned_7cf53_7 : decode cJ6_compareUnsigned_7cf53 7 = .ok (.iadd, 1) := by decide +kernel
theorem dJ6_compareUnsigned_7cf53_8 : decode cJ6_compareUnsigned_7cf53 8 = .ok (.invokestatic 259, 3) := by decide +kernel
theorem dJ6_compareUnsigned_7cf53_11 : decode cJ6_compareUnsigned_7cf53 11 = .ok (.ireturn, 1) := by decide +kernel
theorem dJ6_numberOfLeadingZeros_0f7a4_0 : decode cJ6_numberOfLeadingZeros_0f7a4 0 = .ok (.iload_n 0, 1) := by decide +kernel
theorem dJ6_numberOfLeadingZeros_0f7a4_1 : decode cJ6_numberOfLeadingZeros_0f7a4 1 = .ok (.ifCond .gt 14, 3) := by decide +kernel
theorem dJ6_numberOfLeadingZeros_0f7a4_4 : decode cJ6_numberOfLeadingZeros_0f7a4 4 = .ok (.iload_n 0, 1) := by decide +kernel
theorem dJ6_numberOfLeadingZeros_0f7a4_5 : decode cJ6_numberOfLeadingZeros_0f7a4 5 = .ok (.ifCond .ne 8, 3) := by decide +kernel
theorem dJ6_numberOfLeadingZeros_0f7a4_8 : decode cJ6_numberOfLeadingZeros_0f7a4 8 = .ok (.bipush 32, 2) := by decide +kernel
theorem dJ6_numberOfLeadingZeros_0f7a4_10 : decode cJ6_numberOfLeadingZeros_0f7a4 10 = .ok (.goto 4, 3) := by decide +kernel
theorem dJ6_numberOfLeadingZeros_0f7a4_13 : decode cJ6_numberOfLeadingZeros_0f7a4 13 = .ok (.iconst 0, 1) := by decide +kernel
theorem dJ6_numberOfLeadingZeros_0f7a4_14 : decode cJ6_numberOfLeadingZeros_0f7a4 14 = .ok (.ireturn, 1) := by decide +kernel
theorem dJ6_numberOfLeadingZeros_0f7a4_15 : decode cJ6_numberOfLeadingZeros_0f7a4 15 = .ok (.bipush 31, 2) := by decide +kernel
theorem dJ6_numberOfLeadingZeros_0f7a4_17 : decode cJ6_numberOfLeadingZeros_0f7a4 17 = .ok (.istore_n 1, 1) := by decide +kernel
theorem dJ6_numberOfLeadingZeros_0f7a4_18 : decode cJ6_numberOfLeadingZeros_0f7a4 18 = .ok (.iload_n 0, 1) := by decide +kernel
theorem dJ6_numberOfLeadingZeros_0f7a4_19 : decode cJ6_numberOfLeadingZeros_0f7a4 19 = .ok (.ldc_w 264, 3) := by decide +kernel
theorem dJ6_numberOfLeadingZeros_0f7a4_22 : decode cJ6_numberOfLeadingZeros_0f7a4 22 = .ok (.if_icmp .lt 11, 3) := by decide +kernel
theorem dJ6_numberOfLeadingZeros_0f7a4_25 : decode cJ6_numberOfLeadingZeros_0f7a4 25 = .ok (.iinc 1 (-16), 3) := by decide +kernel
theorem dJ6_numberOfLeadingZeros_0f7a4_28 : decode cJ6_numberOfLeadingZeros_0f7a4 28 = .ok (.iload_n 0, 1) := by decide +kernel
theorem dJ6_numberOfLeadingZeros_0f7a4_29 : decode cJ6_numberOfLeadingZeros_0f7a4 29 = .ok (.bipush 16, 2) := by decide +kernel
theorem dJ6_numberOfLeadingZeros_0f7a4_31 : decode cJ6_numberOfLeadingZeros_0f7a4 31 = .ok (.iushr, 1) := by decide +kernel
theorem dJ6_numberOfLeadingZeros_0f7a4_32 : decode cJ6_numberOfLeadingZeros_0f7a4 32 = .ok (.istore_n 0, 1) := by decide +kernel
theorem dJ6_numberOfLeadingZeros_0f7a4_33 : decode cJ6_numberOfLeadingZeros_0f7a4 33 = .ok (.iload_n 0, 1) := by decide +kernel
theorem dJ6_numberOfLeadingZeros_0f7a4_34 : decode cJ6_numberOfLeadingZeros_0f7a4 34 = .ok (.sipush 256, 3) := by decide +kernel
theorem dJ6_numberOfLeadingZeros_0f7a4_37 : decode cJ6_numberOfLeadingZeros_0f7a4 37 = .ok (.if_icmp .lt 11, 3) := by decide +kernel
theorem dJ6_numberOfLeadingZeros_0f7a4_40 : decode cJ6_numberOfLeadingZeros_0f7a4 40 = .ok (.iinc 1 (-8), 3) := by decide +kernel
theorem dJ6_numberOfLeadingZeros_0f7a4_43 : decode cJ6_numberOfLeadingZeros_0f7a4 43 = .ok (.iload_n 0, 1) := by decide +kernel
theorem dJ6_numberOfLeadingZeros_0f7a4_44 : decode cJ6_numberOfLeadingZeros_0f7a4 44 = .ok (.bipush 8, 2) := by decide +kernel
theorem dJ6_numberOfLeadingZeros_0f7a4_46 : decode cJ6_numberOfLeadingZeros_0f7a4 46 = .ok (.iushr, 1) := by decide +kernel
theorem dJ6_numberOfLeadingZeros_0f7a4_47 : decode cJ6_numberOfLeadingZeros_0f7a4 47 = .ok (.istore_n 0, 1) := by decide +kernel
theorem dJ6_numberOfLeadingZeros_0f7a4_48 : decode cJ6_numberOfLeadingZeros_0f7a4 48 = .ok (.iload_n 0, 1) := by decide +kernel
theorem dJ6_numberOfLeadingZeros_0f7a4_49 : decode cJ6_numberOfLeadingZeros_0f7a4 49 = .ok (.bipush 16, 2) := by decide +kernel
theorem dJ6_numberOfLeadingZeros_0f7a4_51 : decode cJ6_numberOfLeadingZeros_0f7a4 51 = .ok (.if_icmp .lt 10, 3) := by decide +kernel
theorem dJ6_numberOfLeadingZeros_0f7a4_54 : decode cJ6_numberOfLeadingZeros_0f7a4 54 = .ok (.iinc 1 (-4), 3) := by decide +kernel
theorem dJ6_numberOfLeadingZeros_0f7a4_57 : decode cJ6_numberOfLeadingZeros_0f7a4 57 = .ok (.iload_n 0, 1) := by decide +kernel
theorem dJ6_numberOfLeadingZeros_0f7a4_58 : decode cJ6_numberOfLeadingZeros_0f7a4 58 = .ok (.iconst 4, 1) := by decide +kernel
theorem dJ6_numberOfLeadingZeros_0f7a4_59 : decode cJ6_numberOfLeadingZeros_0f7a4 59 = .ok (.iushr, 1) := by decide +kernel
theorem dJ6_numberOfLeadingZeros_0f7a4_60 : decode cJ6_numberOfLeadingZeros_0f7a4 60 = .ok (.istore_n 0, 1) := by decide +kernel
theorem dJ6_numberOfLeadingZeros_0f7a4_61 : decode cJ6_numberOfLeadingZeros_0f7a4 61 = .ok (.iload_n 0, 1) := by decide +kernel
theorem dJ6_numberOfLeadingZeros_0f7a4_62 : decode cJ6_numberOfLeadingZeros_0f7a4 62 = .ok (.iconst 4, 1) := by decide +kernel
theorem dJ6_numberOfLeadingZeros_0f7a4_63 : decode cJ6_numberOfLeadingZeros_0f7a4 63 = .ok (.if_icmp .lt 10, 3) := by decide +kernel
theorem dJ6_numberOfLeadingZeros_0f7a4_66 : decode cJ6_numberOfLeadingZeros_0f7a4 66 = .ok (.iinc 1 (-2), 3) := by decide +kernel
theorem dJ6_numberOfLeadingZeros_0f7a4_69 : decode cJ6_numberOfLeadingZeros_0f7a4 69 = .ok (.iload_n 0, 1) := by decide +kernel
theorem dJ6_numberOfLeadingZeros_0f7a4_70 : decode cJ6_numberOfLeadingZeros_0f7a4 70 = .ok (.iconst 2, 1) := by decide +kernel
theorem dJ6_numberOfLeadingZeros_0f7a4_71 : decode cJ6_numberOfLeadingZeros_0f7a4 71 = .ok (.iushr, 1) := by decide +kernel
theorem dJ6_numberOfLeadingZeros_0f7a4_72 : decode cJ6_numberOfLeadingZeros_0f7a4 72 = .ok (.istore_n 0, 1) := by decide +kernel
theorem dJ6_numberOfLeadingZeros_0f7a4_73 : decode cJ6_numberOfLeadingZeros_0f7a4 73 = .ok (.iload_n 1, 1) := by decide +kernel
theorem dJ6_numberOfLeadingZeros_0f7a4_74 : decode cJ6_numberOfLeadingZeros_0f7a4 74 = .ok (.iload_n 0, 1) := by decide +kernel
theorem dJ6_numberOfLeadingZeros_0f7a4_75 : decode cJ6_numberOfLeadingZeros_0f7a4 75 = .ok (.iconst 1, 1) := by decide +kernel
theorem dJ6_numberOfLeadingZeros_0f7a4_76 : decode cJ6_numberOfLeadingZeros_0f7a4 76 = .ok (.iushr, 1) := by decide +kernel
theorem dJ6_numberOfLeadingZeros_0f7a4_77 : decode cJ6_numberOfLeadingZeros_0f7a4 77 = .ok (.isub, 1) := by decide +kernel
theorem dJ6_numberOfLeadingZeros_0f7a4_78 : decode cJ6_numberOfLeadingZeros_0f7a4 78 = .ok (.ireturn, 1) := by decide +kernel
theorem dJ13_compare_74951_0 : decode cJ13_compare_74951 0 = .ok (.lload_n 0, 1) := by decide +kernel
theorem dJ13_compare_74951_1 : decode cJ13_compare_74951 1 = .ok (.lload_n 2, 1) := by decide +kernel
theorem dJ13_compare_74951_2 : decode cJ13_compare_74951 2 = .ok (.lcmp, 1) := by decide +kernel
theorem dJ13_compare_74951_3 : decode cJ13_compare_74951 3 = .ok (.ifCond .ge 7, 3) := by decide +kernel
theorem dJ13_compare_74951_6 : decode cJ13_compare_74951 6 = .ok (.iconst (-1), 1) := by decide +kernel
theorem dJ13_compare_74951_7 : decode cJ13_compare_74951 7 = .ok (.goto 14, 3) := by decide +kernel
theorem dJ13_compare_74951_10 : decode cJ13_compare_74951 10 = .ok (.lload_n 0, 1) := by decide +kernel
theorem dJ13_compare_74951_11 : decode cJ13_compare_74951 11 = .ok (.lload_n 2, 1) := by decide +kernel
theorem dJ13_compare_74951_12 : decode cJ13_compare_74951 12 = .ok (.lcmp, 1) := by decide +kernel
theorem dJ13_compare_74951_13 : decode cJ13_compare_74951 13 = .ok (.ifCond .ne 7, 3) := by decide +kernel
theorem dJ13_compare_74951_16 : decode cJ13_compare_74951 16 = .ok (.iconst 0, 1) := by decide +kernel
theorem dJ13_compare_74951_17 : decode cJ13_compare_74951 17 = .ok (.goto 4, 3) := by decide +kernel
theorem dJ13_compare_74951_20 : decode cJ13_compare_74951 20 = .ok (.iconst 1, 1) := by decide +kernel
theorem dJ13_compare_74951_21 : decode cJ13_compare_74951 21 = .ok (.ireturn, 1) := by decide +kernel
theorem dJ13_compareUnsigned_74951_0 : decode cJ13_compareUnsigned_74951 0 = .ok (.lload_n 0, 1) := by decide +kernel
theorem dJ13_compareUnsigned_74951_1 : decode cJ13_compareUnsigned_74951 1 = .ok (.ldc2_w 168, 3) := by decide +kernel
theorem dJ13_compareUnsigned_74951_4 : decode cJ13_compareUnsigned_74951 4 = .ok (.ladd, 1) := by decide +kernel
theorem dJ13_compareUnsigned_74951_5 : decode cJ13_compareUnsigned_74951 5 = .ok (.lload_n 2, 1) := by decide +kernel
theorem dJ13_compareUnsigned_74951_6 : decode cJ13_compareUnsigned_74951 6 = .ok (.ldc2_w 168, 3) := by decide +kernel
theorem dJ13_compareUnsigned_74951_9 : decode cJ13_compareUnsigned_74951 9 = .ok (.ladd, 1) := by decide +kernel
theorem dJ13_compareUnsigned_74951_10 : decode cJ13_compareUnsigned_74951 10 = .ok (.invokestatic 302, 3) := by decide +kernel
theorem dJ13_compareUnsigned_74951_13 : decode cJ13_compareUnsigned_74951 13 = .ok (.ireturn, 1) := by decide +kernel
theorem dJ13_divideUnsigned_f86c9_0 : decode cJ13_divideUnsigned_f86c9 0 = .ok (.lload_n 2, 1) := by decide +kernel
theorem dJ13_divideUnsigned_f86c9_1 : decode cJ13_divideUnsigned_f86c9 1 = .ok (.lconst 0, 1) := by decide +kernel
theorem dJ13_divideUnsigned_f86c9_2 : decode cJ13_divideUnsigned_f86c9 2 = .ok (.lcmp, 1) := by decide +kernel
theorem dJ13_divideUnsigned_f86c9_3 : decode cJ13_divideUnsigned_f86c9 3 = .ok (.ifCond .lt 38, 3) := by decide +kernel
theorem dJ13_divideUnsigned_f86c9_6 : decode cJ13_divideUnsigned_f86c9 6 = .ok (.lload_n 0, 1) := by decide +kernel
theorem dJ13_divideUnsigned_f86c9_7 : decode cJ13_divideUnsigned_f86c9 7 = .ok (.iconst 1, 1) := by decide +kernel
theorem dJ13_divideUnsigned_f86c9_8 : decode cJ13_divideUnsigned_f86c9 8 = .ok (.lushr, 1) := by decide +kernel
theorem dJ13_divideUnsigned_f86c9_9 : decode cJ13_divideUnsigned_f86c9 9 = .ok (.lload_n 2, 1) := by decide +kernel
theorem dJ13_divideUnsigned_f86c9_10 : decode cJ13_divideUnsigned_f86c9 10 = .ok (.ldiv, 1) := by decide +kernel
theorem dJ13_divideUnsigned_f86c9_11 : decode cJ13_divideUnsigned_f86c9 11 = .ok (.iconst 1, 1) := by decide +kernel
theorem dJ13_divideUnsigned_f86c9_12 : decode cJ13_divideUnsigned_f86c9 12 = .ok (.lshl, 1) := by decide +kernel
theorem dJ13_divideUnsigned_f86c9_13 : decode cJ13_divideUnsigned_f86c9 13 = .ok (.lstore 4, 2) := by decide +kernel
theorem dJ13_divideUnsigned_f86c9_15 : decode cJ13_divideUnsigned_f86c9 15 = .ok (.lload_n 0, 1) := by decide +kernel
theorem dJ13_divideUnsigned_f86c9_16 : decode cJ13_divideUnsigned_f86c9 16 = .ok (.lload 4, 2) := by decide +kernel
theorem dJ13_divideUnsigned_f86c9_18 : decode cJ13_divideUnsigned_f86c9 18 = .ok (.lload_n 2, 1) := by decide +kernel
theorem dJ13_divideUnsigned_f86c9_19 : decode cJ13_divideUnsigned_f86c9 19 = .ok (.lmul, 1) := by decide +kernel
theorem dJ13_divideUnsigned_f86c9_20 : decode cJ13_divideUnsigned_f86c9 20 = .ok (.lsub, 1) := by decide +kernel
theorem dJ13_divideUnsigned_f86c9_21 : decode cJ13_divideUnsigned_f86c9 21 = .ok (.lstore 6, 2) := by decide +kernel
theorem dJ13_divideUnsigned_f86c9_23 : decode cJ13_divideUnsigned_f86c9 23 = .ok (.lload 4, 2) := by decide +kernel
theorem dJ13_divideUnsigned_f86c9_25 : decode cJ13_divideUnsigned_f86c9 25 = .ok (.lload 6, 2) := by decide +kernel
theorem dJ13_divideUnsigned_f86c9_27 : decode cJ13_divideUnsigned_f86c9 27 = .ok (.lload 6, 2) := by decide +kernel
theorem dJ13_divideUnsigned_f86c9_29 : decode cJ13_divideUnsigned_f86c9 29 = .ok (.lload_n 2, 1) := by decide +kernel
theorem dJ13_divideUnsigned_f86c9_30 : decode cJ13_divideUnsigned_f86c9 30 = .ok (.lsub, 1) := by decide +kernel
theorem dJ13_divideUnsigned_f86c9_31 : decode cJ13_divideUnsigned_f86c9 31 = .ok (.ldc2_w 306, 3) := by decide +kernel
theorem dJ13_divideUnsigned_f86c9_34 : decode cJ13_divideUnsigned_f86c9 34 = .ok (.lxor, 1) := by decide +kernel
theorem dJ13_divideUnsigned_f86c9_35 : decode cJ13_divideUnsigned_f86c9 35 = .ok (.lor, 1) := by decide +kernel
theorem dJ13_divideUnsigned_f86c9_36 : decode cJ13_divideUnsigned_f86c9 36 = .ok (.bipush 63, 2) := by decide +kernel
theorem dJ13_divideUnsigned_f86c9_38 : decode cJ13_divideUnsigned_f86c9 38 = .ok (.lushr, 1) := by decide +kernel
theorem dJ13_divideUnsigned_f86c9_39 : decode cJ13_divideUnsigned_f86c9 39 = .ok (.ladd, 1) := by decide +kernel
theorem dJ13_divideUnsigned_f86c9_40 : decode cJ13_divideUnsigned_f86c9 40 = .ok (.lreturn, 1) := by decide +kernel
theorem dJ13_divideUnsigned_f86c9_41 : decode cJ13_divideUnsigned_f86c9 41 = .ok (.lload_n 0, 1) := by decide +kernel
theorem dJ13_divideUnsigned_f86c9_42 : decode cJ13_divideUnsigned_f86c9 42 = .ok (.lload_n 0, 1) := by decide +kernel
theorem dJ13_divideUnsigned_f86c9_43 : decode cJ13_divideUnsigned_f86c9 43 = .ok (.lload_n 2, 1) := by decide +kernel
theorem dJ13_divideUnsigned_f86c9_44 : decode cJ13_divideUnsigned_f86c9 44 = .ok (.lsub, 1) := by decide +kernel
theorem dJ13_divideUnsigned_f86c9_45 : decode cJ13_divideUnsigned_f86c9 45 = .ok (.ldc2_w 306, 3) := by decide +kernel
theorem dJ13_divideUnsigned_f86c9_48 : decode cJ13_divideUnsigned_f86c9 48 = .ok (.lxor, 1) := by decide +kernel
theorem dJ13_divideUnsigned_f86c9_49 : decode cJ13_divideUnsigned_f86c9 49 = .ok (.land, 1) := by decide +kernel
theorem dJ13_divideUnsigned_f86c9_50 : decode cJ13_divideUnsigned_f86c9 50 = .ok (.bipush 63, 2) := by decide +kernel
theorem dJ13_divideUnsigned_f86c9_52 : decode cJ13_divideUnsigned_f86c9 52 = .ok (.lushr, 1) := by decide +kernel
theorem dJ13_divideUnsigned_f86c9_53 : decode cJ13_divideUnsigned_f86c9 53 = .ok (.lreturn, 1) := by decide +kernel
theorem dJ13_remainderUnsigned_f86c9_0 : decode cJ13_remainderUnsigned_f86c9 0 = .ok (.lload_n 2, 1) := by decide +kernel
theorem dJ13_remainderUnsigned_f86c9_1 : decode cJ13_remainderUnsigned_f86c9 1 = .ok (.lconst 0, 1) := by decide +kernel
theorem dJ13_remainderUnsigned_f86c9_2 : decode cJ13_remainderUnsigned_f86c9 2 = .ok (.lcmp, 1) := by decide +kernel
theorem dJ13_remainderUnsigned_f86c9_3 : decode cJ13_remainderUnsigned_f86c9 3 = .ok (.ifCond .lt 37, 3) := by decide +kernel
theorem dJ13_remainderUnsigned_f86c9_6 : decode cJ13_remainderUnsigned_f86c9 6 = .ok (.lload_n 0, 1) := by decide +kernel
theorem dJ13_remainderUnsigned_f86c9_7 : decode cJ13_remainderUnsigned_f86c9 7 = .ok (.iconst 1, 1) := by decide +kernel
theorem dJ13_remainderUnsigned_f86c9_8 : decode cJ13_remainderUnsigned_f86c9 8 = .ok (.lushr, 1) := by decide +kernel
theorem dJ13_remainderUnsigned_f86c9_9 : decode cJ13_remainderUnsigned_f86c9 9 = .ok (.lload_n 2, 1) := by decide +kernel
theorem dJ13_remainderUnsigned_f86c9_10 : decode cJ13_remainderUnsigned_f86c9 10 = .ok (.ldiv, 1) := by decide +kernel
theorem dJ13_remainderUnsigned_f86c9_11 : decode cJ13_remainderUnsigned_f86c9 11 = .ok (.iconst 1, 1) := by decide +kernel
theorem dJ13_remainderUnsigned_f86c9_12 : decode cJ13_remainderUnsigned_f86c9 12 = .ok (.lshl, 1) := by decide +kernel
theorem dJ13_remainderUnsigned_f86c9_13 : decode cJ13_remainderUnsigned_f86c9 13 = .ok (.lstore 4, 2) := by decide +kernel
theorem dJ13_remainderUnsigned_f86c9_15 : decode cJ13_remainderUnsigned_f86c9 15 = .ok (.lload_n 0, 1) := by decide +kernel
theorem dJ13_remainderUnsigned_f86c9_16 : decode cJ13_remainderUnsigned_f86c9 16 = .ok (.lload 4, 2) := by decide +kernel
theorem dJ13_remainderUnsigned_f86c9_18 : decode cJ13_remainderUnsigned_f86c9 18 = .ok (.lload_n 2, 1) := by decide +kernel
theorem dJ13_remainderUnsigned_f86c9_19 : decode cJ13_remainderUnsigned_f86c9 19 = .ok (.lmul, 1) := by decide +kernel
theorem dJ13_remainderUnsigned_f86c9_20 : decode cJ13_remainderUnsigned_f86c9 20 = .ok (.lsub, 1) := by decide +kernel
theorem dJ13_remainderUnsigned_f86c9_21 : decode cJ13_remainderUnsigned_f86c9 21 = .ok (.lstore 6, 2) := by decide +kernel
theorem dJ13_remainderUnsigned_f86c9_23 : decode cJ13_remainderUnsigned_f86c9 23 = .ok (.lload 6, 2) := by decide +kernel
theorem dJ13_remainderUnsigned_f86c9_25 : decode cJ13_remainderUnsigned_f86c9 25 = .ok (.lload 6, 2) := by decide +kernel
theorem dJ13_remainderUnsigned_f86c9_27 : decode cJ13_remainderUnsigned_f86c9 27 = .ok (.lload_n 2, 1) := by decide +kernel
theorem dJ13_remainderUnsigned_f86c9_28 : decode cJ13_remainderUnsigned_f86c9 28 = .ok (.lsub, 1) := by decide +kernel
theorem dJ13_remainderUnsigned_f86c9_29 : decode cJ13_remainderUnsigned_f86c9 29 = .ok (.ldc2_w 306, 3) := by decide +kernel
theorem dJ13_remainderUnsigned_f86c9_32 : decode cJ13_remainderUnsigned_f86c9 32 = .ok (.lxor, 1) := by decide +kernel
theorem dJ13_remainderUnsigned_f86c9_33 : decode cJ13_remainderUnsigned_f86c9 33 = .ok (.bipush 63, 2) := by decide +kernel
theorem dJ13_remainderUnsigned_f86c9_35 : decode cJ13_remainderUnsigned_f86c9 35 = .ok (.lshr, 1) := by decide +kernel
theorem dJ13_remainderUnsigned_f86c9_36 : decode cJ13_remainderUnsigned_f86c9 36 = .ok (.lload_n 2, 1) := by decide +kernel
theorem dJ13_remainderUnsigned_f86c9_37 : decode cJ13_remainderUnsigned_f86c9 37 = .ok (.land, 1) := by decide +kernel
theorem dJ13_remainderUnsigned_f86c9_38 : decode cJ13_remainderUnsigned_f86c9 38 = .ok (.lsub, 1) := by decide +kernel
theorem dJ13_remainderUnsigned_f86c9_39 : decode cJ13_remainderUnsigned_f86c9 39 = .ok (.lreturn, 1) := by decide +kernel
theorem dJ13_remainderUnsigned_f86c9_40 : decode cJ13_remainderUnsigned_f86c9 40 = .ok (.lload_n 0, 1) := by decide +kernel
theorem dJ13_remainderUnsigned_f86c9_41 : decode cJ13_remainderUnsigned_f86c9 41 = .ok (.lload_n 0, 1) := by decide +kernel
theorem dJ13_remainderUnsigned_f86c9_42 : decode cJ13_remainderUnsigned_f86c9 42 = .ok (.lload_n 0, 1) := by decide +kernel
theorem dJ13_remainderUnsigned_f86c9_43 : decode cJ13_remainderUnsigned_f86c9 43 = .ok (.lload_n 2, 1) := by decide +kernel
theorem dJ13_remainderUnsigned_f86c9_44 : decode cJ13_remainderUnsigned_f86c9 44 = .ok (.lsub, 1) := by decide +kernel
theorem dJ13_remainderUnsigned_f86c9_45 : decode cJ13_remainderUnsigned_f86c9 45 = .ok (.ldc2_w 306, 3) := by decide +kernel
theorem dJ13_remainderUnsigned_f86c9_48 : decode cJ13_remainderUnsigned_f86c9 48 = .ok (.lxor, 1) := by decide +kernel
theorem dJ13_remainderUnsigned_f86c9_49 : decode cJ13_remainderUnsigned_f86c9 49 = .ok (.land, 1) := by decide +kernel
theorem dJ13_remainderUnsigned_f86c9_50 : decode cJ13_remainderUnsigned_f86c9 50 = .ok (.bipush 63, 2) := by decide +kernel
theorem dJ13_remainderUnsigned_f86c9_52 : decode cJ13_remainderUnsigned_f86c9 52 = .ok (.lshr, 1) := by decide +kernel
theorem dJ13_remainderUnsigned_f86c9_53 : decode cJ13_remainderUnsigned_f86c9 53 = .ok (.lload_n 2, 1) := by decide +kernel
theorem dJ13_remainderUnsigned_f86c9_54 : decode cJ13_remainderUnsigned_f86c9 54 = .ok (.land, 1) := by decide +kernel
theorem dJ13_remainderUnsigned_f86c9_55 : decode cJ13_remainderUnsigned_f86c9 55 = .ok (.lsub, 1) := by decide +kernel
theorem dJ13_remainderUnsigned_f86c9_56 : decode cJ13_remainderUnsigned_f86c9 56 = .ok (.lreturn, 1) := by decide +kernel
theorem dJ9_max_7cf53_0 : decode cJ9_max_7cf53 0 = .ok (.iload_n 0, 1) := by decide +kernel
theorem dJ9_max_7cf53_1 : decode cJ9_max_7cf53 1 = .ok (.iload_n 1, 1) := by decide +kernel
theorem dJ9_max_7cf53_2 : decode cJ9_max_7cf53 2 = .ok (.if_icmp .lt 7, 3) := by decide +kernel
theorem dJ9_max_7cf53_5 : decode cJ9_max_7cf53 5 = .ok (.iload_n 0, 1) := by decide +kernel
theorem dJ9_max_7cf53_6 : decode cJ9_max_7cf53 6 = .ok (.goto 4, 3) := by decide +kernel
theorem dJ9_max_7cf53_9 : decode cJ9_max_7cf53 9 = .ok (.iload_n 1, 1) := by decide +kernel
theorem dJ9_max_7cf53_10 : decode cJ9_max_7cf53 10 = .ok (.ireturn, 1) := by decide +kernel
theorem dJ9_min_7cf53_0 : decode cJ9_min_7cf53 0 = .ok (.iload_n 0, 1) := by decide +kernel
theorem dJ9_min_7cf53_1 : decode cJ9_min_7cf53 1 = .ok (.iload_n 1, 1) := by decide +kernel
theorem dJ9_min_7cf53_2 : decode cJ9_min_7cf53 2 = .ok (.if_icmp .gt 7, 3) := by decide +kernel
theorem dJ9_min_7cf53_5 : decode cJ9_min_7cf53 5 = .ok (.iload_n 0, 1) := by decide +kernel
theorem dJ9_min_7cf53_6 : decode cJ9_min_7cf53 6 = .ok (.goto 4, 3) := by decide +kernel
theorem dJ9_min_7cf53_9 : decode cJ9_min_7cf53 9 = .ok (.iload_n 1, 1) := by decide +kernel
theorem dJ9_min_7cf53_10 : decode cJ9_min_7cf53 10 = .ok (.ireturn, 1) := by decide +kernel
