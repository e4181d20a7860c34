theorem dX5_init_0 : decode cX5_init 0 = .ok (.aload_n 0, 1) := by decide +kernel
theorem dX5_init_1 : decode cX5_init 1 = .ok (.invokespecial 3, 3) := by decide +kernel
theorem dX5_init_4 : decode cX5_init 4 = .ok (.aload_n 0, 1) := by decide +kernel
theorem dX5_init_5 : decode cX5_init 5 = .ok (.iconst 1, 1) := by decide +kernel
theorem dX5_init_6 : decode cX5_init 6 = .ok (.iload_n 1, 1) := by decide +kernel
theorem dX5_init_7 : decode cX5_init 7 = .ok (.invokestatic 9, 3) := by decide +kernel
theorem dX5_init_10 : decode cX5_init 10 = .ok (.newarray .int, 2) := by decide +kernel
theorem dX5_init_12 : decode cX5_init 12 = .ok (.putfield 15, 3) := by decide +kernel
theorem dX5_init_15 : decode cX5_init 15 = .ok (.aload_n 0, 1) := by decide +kernel
theorem dX5_init_16 : decode cX5_init 16 = .ok (.iconst 0, 1) := by decide +kernel
theorem dX5_init_17 : decode cX5_init 17 = .ok (.putfield 21, 3) := by decide +kernel
theorem dX5_init_20 : decode cX5_init 20 = .ok (.return_, 1) := by decide +kernel
theorem dX5_isNought_0 : decode cX5_isNought 0 = .ok (.aload_n 0, 1) := by decide +kernel
theorem dX5_isNought_1 : decode cX5_isNought 1 = .ok (.getfield 21, 3) := by decide +kernel
theorem dX5_isNought_4 : decode cX5_isNought 4 = .ok (.ifCond .ne 7, 3) := by decide +kernel
theorem dX5_isNought_7 : decode cX5_isNought 7 = .ok (.iconst 1, 1) := by decide +kernel
theorem dX5_isNought_8 : decode cX5_isNought 8 = .ok (.goto 4, 3) := by decide +kernel
theorem dX5_isNought_11 : decode cX5_isNought 11 = .ok (.iconst 0, 1) := by decide +kernel
theorem dX5_isNought_12 : decode cX5_isNought 12 = .ok (.ireturn, 1) := by decide +kernel
theorem dX5_limbAt_0 : decode cX5_limbAt 0 = .ok (.iload_n 1, 1) := by decide +kernel
theorem dX5_limbAt_1 : decode cX5_limbAt 1 = .ok (.ifCond .lt 21, 3) := by decide +kernel
theorem dX5_limbAt_4 : decode cX5_limbAt 4 = .ok (.iload_n 1, 1) := by decide +kernel
theorem dX5_limbAt_5 : decode cX5_limbAt 5 = .ok (.aload_n 0, 1) := by decide +kernel
theorem dX5_limbAt_6 : decode cX5_limbAt 6 = .ok (.getfield 21, 3) := by decide +kernel
theorem dX5_limbAt_9 : decode cX5_limbAt 9 = .ok (.if_icmp .ge 13, 3) := by decide +kernel
theorem dX5_limbAt_12 : decode cX5_limbAt 12 = .ok (.aload_n 0, 1) := by decide +kernel
theorem dX5_limbAt_13 : decode cX5_limbAt 13 = .ok (.getfield 15, 3) := by decide +kernel
theorem dX5_limbAt_16 : decode cX5_limbAt 16 = .ok (.iload_n 1, 1) := by decide +kernel
theorem dX5_limbAt_17 : decode cX5_limbAt 17 = .ok (.iaload, 1) := by decide +kernel
theorem dX5_limbAt_18 : decode cX5_limbAt 18 = .ok (.i2l, 1) := by decide +kernel
theorem dX5_limbAt_19 : decode cX5_limbAt 19 = .ok (.goto 4, 3) := by decide +kernel
theorem dX5_limbAt_22 : decode cX5_limbAt 22 = .ok (.lconst 0, 1) := by decide +kernel
theorem dX5_limbAt_23 : decode cX5_limbAt 23 = .ok (.lreturn, 1) := by decide +kernel
theorem dX5_setSmall_0 : decode cX5_setSmall 0 = .ok (.aload_n 0, 1) := by decide +kernel
theorem dX5_setSmall_1 : decode cX5_setSmall 1 = .ok (.getfield 15, 3) := by decide +kernel
theorem dX5_setSmall_4 : decode cX5_setSmall 4 = .ok (.iconst 0, 1) := by decide +kernel
theorem dX5_setSmall_5 : decode cX5_setSmall 5 = .ok (.iload_n 1, 1) := by decide +kernel
theorem dX5_setSmall_6 : decode cX5_setSmall 6 = .ok (.iastore, 1) := by decide +kernel
theorem dX5_setSmall_7 : decode cX5_setSmall 7 = .ok (.aload_n 0, 1) := by decide +kernel
theorem dX5_setSmall_8 : decode cX5_setSmall 8 = .ok (.iconst 1, 1) := by decide +kernel
theorem dX5_setSmall_9 : decode cX5_setSmall 9 = .ok (.invokevirtual 25, 3) := by decide +kernel
theorem dX5_setSmall_12 : decode cX5_setSmall 12 = .ok (.return_, 1) := by decide +kernel
theorem dX5_setTo_0 : decode cX5_setTo 0 = .ok (.aload_n 1, 1) := by decide +kernel
theorem dX5_setTo_1 : decode cX5_setTo 1 = .ok (.getfield 21, 3) := by decide +kernel
theorem dX5_setTo_4 : decode cX5_setTo 4 = .ok (.aload_n 0, 1) := by decide +kernel
theorem dX5_setTo_5 : decode cX5_setTo 5 = .ok (.getfield 15, 3) := by decide +kernel
theorem dX5_setTo_8 : decode cX5_setTo 8 = .ok (.arraylength, 1) := by decide +kernel
theorem dX5_setTo_9 : decode cX5_setTo 9 = .ok (.invokestatic 29, 3) := by decide +kernel
theorem dX5_setTo_12 : decode cX5_setTo 12 = .ok (.istore_n 2, 1) := by decide +kernel
theorem dX5_setTo_13 : decode cX5_setTo 13 = .ok (.aload_n 1, 1) := by decide +kernel
theorem dX5_setTo_14 : decode cX5_setTo 14 = .ok (.getfield 15, 3) := by decide +kernel
theorem dX5_setTo_17 : decode cX5_setTo 17 = .ok (.iconst 0, 1) := by decide +kernel
theorem dX5_setTo_18 : decode cX5_setTo 18 = .ok (.aload_n 0, 1) := by decide +kernel
theorem dX5_setTo_19 : decode cX5_setTo 19 = .ok (.getfield 15, 3) := by decide +kernel
theorem dX5_setTo_22 : decode cX5_setTo 22 = .ok (.iconst 0, 1) := by decide +kernel
theorem dX5_setTo_23 : decode cX5_setTo 23 = .ok (.iload_n 2, 1) := by decide +kernel
theorem dX5_setTo_24 : decode cX5_setTo 24 = .ok (.invokestatic 32, 3) := by decide +kernel
theorem dX5_setTo_27 : decode cX5_setTo 27 = .ok (.aload_n 0, 1) := by decide +kernel
theorem dX5_setTo_28 : decode cX5_setTo 28 = .ok (.iload_n 2, 1) := by decide +kernel
theorem dX5_setTo_29 : decode cX5_setTo 29 = .ok (.putfield 21, 3) := by decide +kernel
theorem dX5_setTo_32 : decode cX5_setTo 32 = .ok (.return_, 1) := by decide +kernel
theorem dX5_setScaled_0 : decode cX5_setScaled 0 = .ok (.aload_n 1, 1) := by decide +kernel
theorem dX5_setScaled_1 : decode cX5_setScaled 1 = .ok (.getfield 21, 3) := by decide +kernel
theorem dX5_setScaled_4 : decode cX5_setScaled 4 = .ok (.aload_n 0, 1) := by decide +kernel
theorem dX5_setScaled_5 : decode cX5_setScaled 5 = .ok (.getfield 15, 3) := by decide +kernel
theorem dX5_setScaled_8 : decode cX5_setScaled 8 = .ok (.arraylength, 1) := by decide +kernel
theorem dX5_setScaled_9 : decode cX5_setScaled 9 = .ok (.iconst 1, 1) := by decide +kernel
theorem dX5_setScaled_10 : decode cX5_setScaled 10 = .ok (.isub, 1) := by decide +kernel
theorem dX5_setScaled_11 : decode cX5_setScaled 11 = .ok (.invokestatic 29, 3) := by decide +kernel
theorem dX5_setScaled_14 : decode cX5_setScaled 14 = .ok (.istore 4, 2) := by decide +kernel
theorem dX5_setScaled_16 : decode cX5_setScaled 16 = .ok (.lconst 0, 1) := by decide +kernel
theorem dX5_setScaled_17 : decode cX5_setScaled 17 = .ok (.lstore 5, 2) := by decide +kernel
theorem dX5_setScaled_19 : decode cX5_setScaled 19 = .ok (.iconst 0, 1) := by decide +kernel
theorem dX5_setScaled_20 : decode cX5_setScaled 20 = .ok (.istore 7, 2) := by decide +kernel
theorem dX5_setScaled_22 : decode cX5_setScaled 22 = .ok (.iload 7, 2) := by decide +kernel
theorem dX5_setScaled_24 : decode cX5_setScaled 24 = .ok (.iload 4, 2) := by decide +kernel
theorem dX5_setScaled_26 : decode cX5_setScaled 26 = .ok (.if_icmp .ge 46, 3) := by decide +kernel
theorem dX5_setScaled_29 : decode cX5_setScaled 29 = .ok (.aload_n 1, 1) := by decide +kernel
theorem dX5_setScaled_30 : decode cX5_setScaled 30 = .ok (.getfield 15, 3) := by decide +kernel
theorem dX5_setScaled_33 : decode cX5_setScaled 33 = .ok (.iload 7, 2) := by decide +kernel
theorem dX5_setScaled_35 : decode cX5_setScaled 35 = .ok (.iaload, 1) := by decide +kernel
theorem dX5_setScaled_36 : decode cX5_setScaled 36 = .ok (.i2l, 1) := by decide +kernel
theorem dX5_setScaled_37 : decode cX5_setScaled 37 = .ok (.lload_n 2, 1) := by decide +kernel
theorem dX5_setScaled_38 : decode cX5_setScaled 38 = .ok (.lmul, 1) := by decide +kernel
theorem dX5_setScaled_39 : decode cX5_setScaled 39 = .ok (.lload 5, 2) := by decide +kernel
theorem dX5_setScaled_41 : decode cX5_setScaled 41 = .ok (.ladd, 1) := by decide +kernel
theorem dX5_setScaled_42 : decode cX5_setScaled 42 = .ok (.lstore 8, 2) := by decide +kernel
theorem dX5_setScaled_44 : decode cX5_setScaled 44 = .ok (.aload_n 0, 1) := by decide +kernel
theorem dX5_setScaled_45 : decode cX5_setScaled 45 = .ok (.getfield 15, 3) := by decide +kernel
theorem dX5_setScaled_48 : decode cX5_setScaled 48 = .ok (.iload 7, 2) := by decide +kernel
theorem dX5_setScaled_50 : decode cX5_setScaled 50 = .ok (.lload 8, 2) := by decide +kernel
theorem dX5_setScaled_52 : decode cX5_setScaled 52 = .ok (.ldc2_w 38, 3) := by decide +kernel
theorem dX5_setScaled_55 : decode cX5_setScaled 55 = .ok (.lrem, 1) := by decide +kernel
theorem dX5_setScaled_56 : decode cX5_setScaled 56 = .ok (.l2i, 1) := by decide +kernel
theorem dX5_setScaled_57 : decode cX5_setScaled 57 = .ok (.iastore, 1) := by decide +kernel
theorem dX5_setScaled_58 : decode cX5_setScaled 58 = .ok (.lload 8, 2) := by decide +kernel
theorem dX5_setScaled_60 : decode cX5_setScaled 60 = .ok (.ldc2_w 38, 3) := by decide +kernel
theorem dX5_setScaled_63 : decode cX5_setScaled 63 = .ok (.ldiv, 1) := by decide +kernel
theorem dX5_setScaled_64 : decode cX5_setScaled 64 = .ok (.lstore 5, 2) := by decide +kernel
theorem dX5_setScaled_66 : decode cX5_setScaled 66 = .ok (.iinc 7 1, 3) := by decide +kernel
theorem dX5_setScaled_69 : decode cX5_setScaled 69 = .ok (.goto (-47), 3) := by decide +kernel
theorem dX5_setScaled_72 : decode cX5_setScaled 72 = .ok (.aload_n 0, 1) := by decide +kernel
theorem dX5_setScaled_73 : decode cX5_setScaled 73 = .ok (.getfield 15, 3) := by decide +kernel
theorem dX5_setScaled_76 : decode cX5_setScaled 76 = .ok (.iload 4, 2) := by decide +kernel
theorem dX5_setScaled_78 : decode cX5_setScaled 78 = .ok (.lload 5, 2) := by decide +kernel
theorem dX5_setScaled_80 : decode cX5_setScaled 80 = .ok (.l2i, 1) := by decide +kernel
theorem dX5_setScaled_81 : decode cX5_setScaled 81 = .ok (.iastore, 1) := by decide +kernel
theorem dX5_setScaled_82 : decode cX5_setScaled 82 = .ok (.aload_n 0, 1) := by decide +kernel
theorem dX5_setScaled_83 : decode cX5_setScaled 83 = .ok (.iload 4, 2) := by decide +kernel
theorem dX5_setScaled_85 : decode cX5_setScaled 85 = .ok (.iconst 1, 1) := by decide +kernel
theorem dX5_setScaled_86 : decode cX5_setScaled 86 = .ok (.iadd, 1) := by decide +kernel
theorem dX5_setScaled_87 : decode cX5_setScaled 87 = .ok (.invokevirtual 25, 3) := by decide +kernel
theorem dX5_setScaled_90 : decode cX5_setScaled 90 = .ok (.return_, 1) := by decide +kernel
theorem dX5_setMix_0 : decode cX5_setMix 0 = .ok (.iload_n 3, 1) := by decide +kernel
theorem dX5_setMix_1 : decode cX5_setMix 1 = .ok (.aload_n 1, 1) := by decide +kernel
theorem dX5_setMix_2 : decode cX5_setMix 2 = .ok (.arraylength, 1) := by decide +kernel
theorem dX5_setMix_3 : decode cX5_setMix 3 = .ok (.aload_n 2, 1) := by decide +kernel
theorem dX5_setMix_4 : decode cX5_setMix 4 = .ok (.arraylength, 1) := by decide +kernel
theorem dX5_setMix_5 : decode cX5_setMix 5 = .ok (.invokestatic 29, 3) := by decide +kernel
theorem dX5_setMix_8 : decode cX5_setMix 8 = .ok (.invokestatic 29, 3) := by decide +kernel
theorem dX5_setMix_11 : decode cX5_setMix 11 = .ok (.istore 4, 2) := by decide +kernel
theorem dX5_setMix_13 : decode cX5_setMix 13 = .ok (.iconst 0, 1) := by decide +kernel
theorem dX5_setMix_14 : decode cX5_setMix 14 = .ok (.istore 5, 2) := by decide +kernel
theorem dX5_setMix_16 : decode cX5_setMix 16 = .ok (.iconst 0, 1) := by decide +kernel
theorem dX5_setMix_17 : decode cX5_setMix 17 = .ok (.istore 6, 2) := by decide +kernel
theorem dX5_setMix_19 : decode cX5_setMix 19 = .ok (.iload 6, 2) := by decide +kernel
theorem dX5_setMix_21 : decode cX5_setMix 21 = .ok (.iload 4, 2) := by decide +kernel
theorem dX5_setMix_23 : decode cX5_setMix 23 = .ok (.if_icmp .ge 23, 3) := by decide +kernel
theorem dX5_setMix_26 : decode cX5_setMix 26 = .ok (.iload 5, 2) := by decide +kernel
theorem dX5_setMix_28 : decode cX5_setMix 28 = .ok (.aload_n 1, 1) := by decide +kernel
theorem dX5_setMix_29 : decode cX5_setMix 29 = .ok (.iload 6, 2) := by decide +kernel
theorem dX5_setMix_31 : decode cX5_setMix 31 = .ok (.aaload, 1) := by decide +kernel
theorem dX5_setMix_32 : decode cX5_setMix 32 = .ok (.getfield 21, 3) := by decide +kernel
theorem dX5_setMix_35 : decode cX5_setMix 35 = .ok (.invokestatic 9, 3) := by decide +kernel
theorem dX5_setMix_38 : decode cX5_setMix 38 = .ok (.istore 5, 2) := by decide +kernel
theorem dX5_setMix_40 : decode cX5_setMix 40 = .ok (.iinc 6 1, 3) := by decide +kernel
theorem dX5_setMix_43 : decode cX5_setMix 43 = .ok (.goto (-24), 3) := by decide +kernel
theorem dX5_setMix_46 : decode cX5_setMix 46 = .ok (.iload 5, 2) := by decide +kernel
theorem dX5_setMix_48 : decode cX5_setMix 48 = .ok (.iconst 1, 1) := by decide +kernel
theorem dX5_setMix_49 : decode cX5_setMix 49 = .ok (.iadd, 1) := by decide +kernel
theorem dX5_setMix_50 : decode cX5_setMix 50 = .ok (.aload_n 0, 1) := by decide +kernel
theorem dX5_setMix_51 : decode cX5_setMix 51 = .ok (.getfield 15, 3) := by decide +kernel
theorem dX5_setMix_54 : decode cX5_setMix 54 = .ok (.arraylength, 1) := by decide +kernel
theorem dX5_setMix_55 : decode cX5_setMix 55 = .ok (.invokestatic 29, 3) := by decide +kernel
theorem dX5_setMix_58 : decode cX5_setMix 58 = .ok (.istore 6, 2) := by decide +kernel
theorem dX5_setMix_60 : decode cX5_setMix 60 = .ok (.lconst 0, 1) := by decide +kernel
theorem dX5_setMix_61 : decode cX5_setMix 61 = .ok (.lstore 7, 2) := by decide +kernel
theorem dX5_setMix_63 : decode cX5_setMix 63 = .ok (.iconst 0, 1) := by decide +kernel
theorem dX5_setMix_64 : decode cX5_setMix 64 = .ok (.istore 9, 2) := by decide +kernel
theorem dX5_setMix_66 : decode cX5_setMix 66 = .ok (.iload 9, 2) := by decide +kernel
theorem dX5_setMix_68 : decode cX5_setMix 68 = .ok (.iload 6, 2) := by decide +kernel
theorem dX5_setMix_70 : decode cX5_setMix 70 = .ok (.if_icmp .ge 70, 3) := by decide +kernel
theorem dX5_setMix_73 : decode cX5_setMix 73 = .ok (.lload 7, 2) := by decide +kernel
theorem dX5_setMix_75 : decode cX5_setMix 75 = .ok (.lstore 10, 2) := by decide +kernel
theorem dX5_setMix_77 : decode cX5_setMix 77 = .ok (.iconst 0, 1) := by decide +kernel
theorem dX5_setMix_78 : decode cX5_setMix 78 = .ok (.istore 12, 2) := by decide +kernel
theorem dX5_setMix_80 : decode cX5_setMix 80 = .ok (.iload 12, 2) := by decide +kernel
theorem dX5_setMix_82 : decode cX5_setMix 82 = .ok (.iload 4, 2) := by decide +kernel
theorem dX5_setMix_84 : decode cX5_setMix 84 = .ok (.if_icmp .ge 28, 3) := by decide +kernel
theorem dX5_setMix_87 : decode cX5_setMix 87 = .ok (.lload 10, 2) := by decide +kernel
theorem dX5_setMix_89 : decode cX5_setMix 89 = .ok (.aload_n 1, 1) := by decide +kernel
theorem dX5_setMix_90 : decode cX5_setMix 90 = .ok (.iload 12, 2) := by decide +kernel
theorem dX5_setMix_92 : decode cX5_setMix 92 = .ok (.aaload, 1) := by decide +kernel
theorem dX5_setMix_93 : decode cX5_setMix 93 = .ok (.iload 9, 2) := by decide +kernel
theorem dX5_setMix_95 : decode cX5_setMix 95 = .ok (.invokevirtual 40, 3) := by decide +kernel
theorem dX5_setMix_98 : decode cX5_setMix 98 = .ok (.aload_n 2, 1) := by decide +kernel
theorem dX5_setMix_99 : decode cX5_setMix 99 = .ok (.iload 12, 2) := by decide +kernel
theorem dX5_setMix_101 : decode cX5_setMix 101 = .ok (.laload, 1) := by decide +kernel
theorem dX5_setMix_102 : decode cX5_setMix 102 = .ok (.lmul, 1) := by decide +kernel
theorem dX5_setMix_103 : decode cX5_setMix 103 = .ok (.ladd, 1) := by decide +kernel
theorem dX5_setMix_104 : decode cX5_setMix 104 = .ok (.lstore 10, 2) := by decide +kernel
theorem dX5_setMix_106 : decode cX5_setMix 106 = .ok (.iinc 12 1, 3) := by decide +kernel
theorem dX5_setMix_109 : decode cX5_setMix 109 = .ok (.goto (-29), 3) := by decide +kernel
theorem dX5_setMix_112 : decode cX5_setMix 112 = .ok (.aload_n 0, 1) := by decide +kernel
theorem dX5_setMix_113 : decode cX5_setMix 113 = .ok (.getfield 15, 3) := by decide +kernel
theorem dX5_setMix_116 : decode cX5_setMix 116 = .ok (.iload 9, 2) := by decide +kernel
theorem dX5_setMix_118 : decode cX5_setMix 118 = .ok (.lload 10, 2) := by decide +kernel
theorem dX5_setMix_120 : decode cX5_setMix 120 = .ok (.ldc2_w 38, 3) := by decide +kernel
theorem dX5_setMix_123 : decode cX5_setMix 123 = .ok (.lrem, 1) := by decide +kernel
theorem dX5_setMix_124 : decode cX5_setMix 124 = .ok (.l2i, 1) := by decide +kernel
theorem dX5_setMix_125 : decode cX5_setMix 125 = .ok (.iastore, 1) := by decide +kernel
theorem dX5_setMix_126 : decode cX5_setMix 126 = .ok (.lload 10, 2) := by decide +kernel
theorem dX5_setMix_128 : decode cX5_setMix 128 = .ok (.ldc2_w 38, 3) := by decide +kernel
theorem dX5_setMix_131 : decode cX5_setMix 131 = .ok (.ldiv, 1) := by decide +kernel
theorem dX5_setMix_132 : decode cX5_setMix 132 = .ok (.lstore 7, 2) := by decide +kernel
theorem dX5_setMix_134 : decode cX5_setMix 134 = .ok (.iinc 9 1, 3) := by decide +kernel
theorem dX5_setMix_137 : decode cX5_setMix 137 = .ok (.goto (-71), 3) := by decide +kernel
theorem dX5_setMix_140 : decode cX5_setMix 140 = .ok (.aload_n 0, 1) := by decide +kernel
theorem dX5_setMix_141 : decode cX5_setMix 141 = .ok (.iload 6, 2) := by decide +kernel
theorem dX5_setMix_143 : decode cX5_setMix 143 = .ok (.invokevirtual 25, 3) := by decide +kernel
theorem dX5_setMix_146 : decode cX5_setMix 146 = .ok (.return_, 1) := by decide +kernel
theorem dX5_setProduct_0 : decode cX5_setProduct 0 = .ok (.aload_n 1, 1) := by decide +kernel
theorem dX5_setProduct_1 : decode cX5_setProduct 1 = .ok (.getfield 21, 3) := by decide +kernel
theorem dX5_setProduct_4 : decode cX5_setProduct 4 = .ok (.aload_n 2, 1) := by decide +kernel
theorem dX5_setProduct_5 : decode cX5_setProduct 5 = .ok (.getfield 21, 3) := by decide +kernel
theorem dX5_setProduct_8 : decode cX5_setProduct 8 = .ok (.iadd, 1) := by decide +kernel
theorem dX5_setProduct_9 : decode cX5_setProduct 9 = .ok (.aload_n 0, 1) := by decide +kernel
theorem dX5_setProduct_10 : decode cX5_setProduct 10 = .ok (.getfield 15, 3) := by decide +kernel
theorem dX5_setProduct_13 : decode cX5_setProduct 13 = .ok (.arraylength, 1) := by decide +kernel
theorem dX5_setProduct_14 : decode cX5_setProduct 14 = .ok (.invokestatic 29, 3) := by decide +kernel
theorem dX5_setProduct_17 : decode cX5_setProduct 17 = .ok (.istore_n 3, 1) := by decide +kernel
theorem dX5_setProduct_18 : decode cX5_setProduct 18 = .ok (.iconst 0, 1) := by decide +kernel
theorem dX5_setProduct_19 : decode cX5_setProduct 19 = .ok (.istore 4, 2) := by decide +kernel
theorem dX5_setProduct_21 : decode cX5_setProduct 21 = .ok (.iload 4, 2) := by decide +kernel
theorem dX5_setProduct_23 : decode cX5_setProduct 23 = .ok (.iload_n 3, 1) := by decide +kernel
theorem dX5_setProduct_24 : decode cX5_setProduct 24 = .ok (.if_icmp .ge 17, 3) := by decide +kernel
theorem dX5_setProduct_27 : decode cX5_setProduct 27 = .ok (.aload_n 0, 1) := by decide +kernel
theorem dX5_setProduct_28 : decode cX5_setProduct 28 = .ok (.getfield 15, 3) := by decide +kernel
theorem dX5_setProduct_31 : decode cX5_setProduct 31 = .ok (.iload 4, 2) := by decide +kernel
theorem dX5_setProduct_33 : decode cX5_setProduct 33 = .ok (.iconst 0, 1) := by decide +kernel
theorem dX5_setProduct_34 : decode cX5_setProduct 34 = .ok (.iastore, 1) := by decide +kernel
theorem dX5_setProduct_35 : decode cX5_setProduct 35 = .ok (.iinc 4 1, 3) := by decide +kernel
theorem dX5_setProduct_38 : decode cX5_setProduct 38 = .ok (.goto (-17), 3) := by decide +kernel
theorem dX5_setProduct_41 : decode cX5_setProduct 41 = .ok (.iconst 0, 1) := by decide +kernel
theorem dX5_setProduct_42 : decode cX5_setProduct 42 = .ok (.istore 4, 2) := by decide +kernel
theorem dX5_setProduct_44 : decode cX5_setProduct 44 = .ok (.iload 4, 2) := by decide +kernel
theorem dX5_setProduct_46 : decode cX5_setProduct 46 = .ok (.aload_n 1, 1) := by decide +kernel
theorem dX5_setProduct_47 : decode cX5_setProduct 47 = .ok (.getfield 21, 3) := by decide +kernel
theorem dX5_setProduct_50 : decode cX5_setProduct 50 = .ok (.if_icmp .ge 94, 3) := by decide +kernel
theorem dX5_setProduct_53 : decode cX5_setProduct 53 = .ok (.lconst 0, 1) := by decide +kernel
theorem dX5_setProduct_54 : decode cX5_setProduct 54 = .ok (.lstore 5, 2) := by decide +kernel
theorem dX5_setProduct_56 : decode cX5_setProduct 56 = .ok (.iconst 0, 1) := by decide +kernel
theorem dX5_setProduct_57 : decode cX5_setProduct 57 = .ok (.istore 7, 2) := by decide +kernel
theorem dX5_setProduct_59 : decode cX5_setProduct 59 = .ok (.iload 7, 2) := by decide +kernel
theorem dX5_setProduct_61 : decode cX5_setProduct 61 = .ok (.aload_n 2, 1) := by decide +kernel
theorem dX5_setProduct_62 : decode cX5_setProduct 62 = .ok (.getfield 21, 3) := by decide +kernel
theorem dX5_setProduct_65 : decode cX5_setProduct 65 = .ok (.if_icmp .gt 73, 3) := by decide +kernel
theorem dX5_setProduct_68 : decode cX5_setProduct 68 = .ok (.iload 4, 2) := by decide +kernel
theorem dX5_setProduct_70 : decode cX5_setProduct 70 = .ok (.iload 7, 2) := by decide +kernel
theorem dX5_setProduct_72 : decode cX5_setProduct 72 = .ok (.iadd, 1) := by decide +kernel
theorem dX5_setProduct_73 : decode cX5_setProduct 73 = .ok (.iload_n 3, 1) := by decide +kernel
theorem dX5_setProduct_74 : decode cX5_setProduct 74 = .ok (.if_icmp .ge 64, 3) := by decide +kernel
theorem dX5_setProduct_77 : decode cX5_setProduct 77 = .ok (.aload_n 0, 1) := by decide +kernel
theorem dX5_setProduct_78 : decode cX5_setProduct 78 = .ok (.getfield 15, 3) := by decide +kernel
theorem dX5_setProduct_81 : decode cX5_setProduct 81 = .ok (.iload 4, 2) := by decide +kernel
theorem dX5_setProduct_83 : decode cX5_setProduct 83 = .ok (.iload 7, 2) := by decide +kernel
theorem dX5_setProduct_85 : decode cX5_setProduct 85 = .ok (.iadd, 1) := by decide +kernel
theorem dX5_setProduct_86 : decode cX5_setProduct 86 = .ok (.iaload, 1) := by decide +kernel
theorem dX5_setProduct_87 : decode cX5_setProduct 87 = .ok (.i2l, 1) := by decide +kernel
theorem dX5_setProduct_88 : decode cX5_setProduct 88 = .ok (.aload_n 1, 1) := by decide +kernel
theorem dX5_setProduct_89 : decode cX5_setProduct 89 = .ok (.iload 4, 2) := by decide +kernel
theorem dX5_setProduct_91 : decode cX5_setProduct 91 = .ok (.invokevirtual 40, 3) := by decide +kernel
theorem dX5_setProduct_94 : decode cX5_setProduct 94 = .ok (.aload_n 2, 1) := by decide +kernel
theorem dX5_setProduct_95 : decode cX5_setProduct 95 = .ok (.iload 7, 2) := by decide +kernel
theorem dX5_setProduct_97 : decode cX5_setProduct 97 = .ok (.invokevirtual 40, 3) := by decide +kernel
theorem dX5_setProduct_100 : decode cX5_setProduct 100 = .ok (.lmul, 1) := by decide +kernel
theorem dX5_setProduct_101 : decode cX5_setProduct 101 = .ok (.ladd, 1) := by decide +kernel
theorem dX5_setProduct_102 : decode cX5_setProduct 102 = .ok (.lload 5, 2) := by decide +kernel
theorem dX5_setProduct_104 : decode cX5_setProduct 104 = .ok (.ladd, 1) := by decide +kernel
theorem dX5_setProduct_105 : decode cX5_setProduct 105 = .ok (.lstore 8, 2) := by decide +kernel
theorem dX5_setProduct_107 : decode cX5_setProduct 107 = .ok (.aload_n 0, 1) := by decide +kernel
theorem dX5_setProduct_108 : decode cX5_setProduct 108 = .ok (.getfield 15, 3) := by decide +kernel
theorem dX5_setProduct_111 : decode cX5_setProduct 111 = .ok (.iload 4, 2) := by decide +kernel
theorem dX5_setProduct_113 : decode cX5_setProduct 113 = .ok (.iload 7, 2) := by decide +kernel
theorem dX5_setProduct_115 : decode cX5_setProduct 115 = .ok (.iadd, 1) := by decide +kernel
theorem dX5_setProduct_116 : decode cX5_setProduct 116 = .ok (.lload 8, 2) := by decide +kernel
theorem dX5_setProduct_118 : decode cX5_setProduct 118 = .ok (.ldc2_w 38, 3) := by decide +kernel
theorem dX5_setProduct_121 : decode cX5_setProduct 121 = .ok (.lrem, 1) := by decide +kernel
theorem dX5_setProduct_122 : decode cX5_setProduct 122 = .ok (.l2i, 1) := by decide +kernel
theorem dX5_setProduct_123 : decode cX5_setProduct 123 = .ok (.iastore, 1) := by decide +kernel
theorem dX5_setProduct_124 : decode cX5_setProduct 124 = .ok (.lload 8, 2) := by decide +kernel
theorem dX5_setProduct_126 : decode cX5_setProduct 126 = .ok (.ldc2_w 38, 3) := by decide +kernel
theorem dX5_setProduct_129 : decode cX5_setProduct 129 = .ok (.ldiv, 1) := by decide +kernel
theorem dX5_setProduct_130 : decode cX5_setProduct 130 = .ok (.lstore 5, 2) := by decide +kernel
theorem dX5_setProduct_132 : decode cX5_setProduct 132 = .ok (.iinc 7 1, 3) := by decide +kernel
theorem dX5_setProduct_135 : decode cX5_setProduct 135 = .ok (.goto (-76), 3) := by decide +kernel
theorem dX5_setProduct_138 : decode cX5_setProduct 138 = .ok (.iinc 4 1, 3) := by decide +kernel
theorem dX5_setProduct_141 : decode cX5_setProduct 141 = .ok (.goto (-97), 3) := by decide +kernel
theorem dX5_setProduct_144 : decode cX5_setProduct 144 = .ok (.aload_n 0, 1) := by decide +kernel
theorem dX5_setProduct_145 : decode cX5_setProduct 145 = .ok (.iload_n 3, 1) := by decide +kernel
theorem dX5_setProduct_146 : decode cX5_setProduct 146 = .ok (.invokevirtual 25, 3) := by decide +kernel
theorem dX5_setProduct_149 : decode cX5_setProduct 149 = .ok (.return_, 1) := by decide +kernel
theorem dX5_trimFrom_0 : decode cX5_trimFrom 0 = .ok (.aload_n 0, 1) := by decide +kernel
theorem dX5_trimFrom_1 : decode cX5_trimFrom 1 = .ok (.iload_n 1, 1) := by decide +kernel
theorem dX5_trimFrom_2 : decode cX5_trimFrom 2 = .ok (.aload_n 0, 1) := by decide +kernel
theorem dX5_trimFrom_3 : decode cX5_trimFrom 3 = .ok (.getfield 15, 3) := by decide +kernel
theorem dX5_trimFrom_6 : decode cX5_trimFrom 6 = .ok (.arraylength, 1) := by decide +kernel
theorem dX5_trimFrom_7 : decode cX5_trimFrom 7 = .ok (.invokestatic 29, 3) := by decide +kernel
theorem dX5_trimFrom_10 : decode cX5_trimFrom 10 = .ok (.putfield 21, 3) := by decide +kernel
theorem dX5_trimFrom_13 : decode cX5_trimFrom 13 = .ok (.aload_n 0, 1) := by decide +kernel
theorem dX5_trimFrom_14 : decode cX5_trimFrom 14 = .ok (.getfield 21, 3) := by decide +kernel
theorem dX5_trimFrom_17 : decode cX5_trimFrom 17 = .ok (.ifCond .le 30, 3) := by decide +kernel
theorem dX5_trimFrom_20 : decode cX5_trimFrom 20 = .ok (.aload_n 0, 1) := by decide +kernel
theorem dX5_trimFrom_21 : decode cX5_trimFrom 21 = .ok (.getfield 15, 3) := by decide +kernel
theorem dX5_trimFrom_24 : decode cX5_trimFrom 24 = .ok (.aload_n 0, 1) := by decide +kernel
theorem dX5_trimFrom_25 : decode cX5_trimFrom 25 = .ok (.getfield 21, 3) := by decide +kernel
theorem dX5_trimFrom_28 : decode cX5_trimFrom 28 = .ok (.iconst 1, 1) := by decide +kernel
theorem dX5_trimFrom_29 : decode cX5_trimFrom 29 = .ok (.isub, 1) := by decide +kernel
theorem dX5_trimFrom_30 : decode cX5_trimFrom 30 = .ok (.iaload, 1) := by decide +kernel
theorem dX5_trimFrom_31 : decode cX5_trimFrom 31 = .ok (.ifCond .ne 16, 3) := by decide +kernel
theorem dX5_trimFrom_34 : decode cX5_trimFrom 34 = .ok (.aload_n 0, 1) := by decide +kernel
theorem dX5_trimFrom_35 : decode cX5_trimFrom 35 = .ok (.dup, 1) := by decide +kernel
theorem dX5_trimFrom_36 : decode cX5_trimFrom 36 = .ok (.getfield 21, 3) := by decide +kernel
theorem dX5_trimFrom_39 : decode cX5_trimFrom 39 = .ok (.iconst 1, 1) := by decide +kernel
theorem dX5_trimFrom_40 : decode cX5_trimFrom 40 = .ok (.isub, 1) := by decide +kernel
theorem dX5_trimFrom_41 : decode cX5_trimFrom 41 = .ok (.putfield 21, 3) := by decide +kernel
theorem dX5_trimFrom_44 : decode cX5_trimFrom 44 = .ok (.goto (-31), 3) := by decide +kernel
theorem dX5_trimFrom_47 : decode cX5_trimFrom 47 = .ok (.return_, 1) := by decide +kernel
theorem dX5_orderTo_0 : decode cX5_orderTo 0 = .ok (.aload_n 0, 1) := by decide +kernel
theorem dX5_orderTo_1 : decode cX5_orderTo 1 = .ok (.getfield 21, 3) := by decide +kernel
theorem dX5_orderTo_4 : decode cX5_orderTo 4 = .ok (.aload_n 1, 1) := by decide +kernel
theorem dX5_orderTo_5 : decode cX5_orderTo 5 = .ok (.getfield 21, 3) := by decide +kernel
theorem dX5_orderTo_8 : decode cX5_orderTo 8 = .ok (.if_icmp .eq 20, 3) := by decide +kernel
theorem dX5_orderTo_11 : decode cX5_orderTo 11 = .ok (.aload_n 0, 1) := by decide +kernel
theorem dX5_orderTo_12 : decode cX5_orderTo 12 = .ok (.getfield 21, 3) := by decide +kernel
theorem dX5_orderTo_15 : decode cX5_orderTo 15 = .ok (.aload_n 1, 1) := by decide +kernel
theorem dX5_orderTo_16 : decode cX5_orderTo 16 = .ok (.getfield 21, 3) := by decide +kernel
theorem dX5_orderTo_19 : decode cX5_orderTo 19 = .ok (.if_icmp .ge 7, 3) := by decide +kernel
theorem dX5_orderTo_22 : decode cX5_orderTo 22 = .ok (.iconst (-1), 1) := by decide +kernel
theorem dX5_orderTo_23 : decode cX5_orderTo 23 = .ok (.goto 4, 3) := by decide +kernel
theorem dX5_orderTo_26 : decode cX5_orderTo 26 = .ok (.iconst 1, 1) := by decide +kernel
theorem dX5_orderTo_27 : decode cX5_orderTo 27 = .ok (.ireturn, 1) := by decide +kernel
theorem dX5_orderTo_28 : decode cX5_orderTo 28 = .ok (.aload_n 0, 1) := by decide +kernel
theorem dX5_orderTo_29 : decode cX5_orderTo 29 = .ok (.getfield 21, 3) := by decide +kernel
theorem dX5_orderTo_32 : decode cX5_orderTo 32 = .ok (.iconst 1, 1) := by decide +kernel
theorem dX5_orderTo_33 : decode cX5_orderTo 33 = .ok (.isub, 1) := by decide +kernel
theorem dX5_orderTo_34 : decode cX5_orderTo 34 = .ok (.istore_n 2, 1) := by decide +kernel
theorem dX5_orderTo_35 : decode cX5_orderTo 35 = .ok (.iload_n 2, 1) := by decide +kernel
theorem dX5_orderTo_36 : decode cX5_orderTo 36 = .ok (.ifCond .lt 43, 3) := by decide +kernel
theorem dX5_orderTo_39 : decode cX5_orderTo 39 = .ok (.aload_n 0, 1) := by decide +kernel
theorem dX5_orderTo_40 : decode cX5_orderTo 40 = .ok (.iload_n 2, 1) := by decide +kernel
theorem dX5_orderTo_41 : decode cX5_orderTo 41 = .ok (.invokevirtual 40, 3) := by decide +kernel
theorem dX5_orderTo_44 : decode cX5_orderTo 44 = .ok (.aload_n 1, 1) := by decide +kernel
theorem dX5_orderTo_45 : decode cX5_orderTo 45 = .ok (.iload_n 2, 1) := by decide +kernel
theorem dX5_orderTo_46 : decode cX5_orderTo 46 = .ok (.invokevirtual 40, 3) := by decide +kernel
theorem dX5_orderTo_49 : decode cX5_orderTo 49 = .ok (.lcmp, 1) := by decide +kernel
theorem dX5_orderTo_50 : decode cX5_orderTo 50 = .ok (.ifCond .eq 23, 3) := by decide +kernel
theorem dX5_orderTo_53 : decode cX5_orderTo 53 = .ok (.aload_n 0, 1) := by decide +kernel
theorem dX5_orderTo_54 : decode cX5_orderTo 54 = .ok (.iload_n 2, 1) := by decide +kernel
theorem dX5_orderTo_55 : decode cX5_orderTo 55 = .ok (.invokevirtual 40, 3) := by decide +kernel
theorem dX5_orderTo_58 : decode cX5_orderTo 58 = .ok (.aload_n 1, 1) := by decide +kernel
theorem dX5_orderTo_59 : decode cX5_orderTo 59 = .ok (.iload_n 2, 1) := by decide +kernel
theorem dX5_orderTo_60 : decode cX5_orderTo 60 = .ok (.invokevirtual 40, 3) := by decide +kernel
theorem dX5_orderTo_63 : decode cX5_orderTo 63 = .ok (.lcmp, 1) := by decide +kernel
theorem dX5_orderTo_64 : decode cX5_orderTo 64 = .ok (.ifCond .ge 7, 3) := by decide +kernel
theorem dX5_orderTo_67 : decode cX5_orderTo 67 = .ok (.iconst (-1), 1) := by decide +kernel
theorem dX5_orderTo_68 : decode cX5_orderTo 68 = .ok (.goto 4, 3) := by decide +kernel
theorem dX5_orderTo_71 : decode cX5_orderTo 71 = .ok (.iconst 1, 1) := by decide +kernel
theorem dX5_orderTo_72 : decode cX5_orderTo 72 = .ok (.ireturn, 1) := by decide +kernel
theorem dX5_orderTo_73 : decode cX5_orderTo 73 = .ok (.iinc 2 (-1), 3) := by decide +kernel
theorem dX5_orderTo_76 : decode cX5_orderTo 76 = .ok (.goto (-41), 3) := by decide +kernel
theorem dX5_orderTo_79 : decode cX5_orderTo 79 = .ok (.iconst 0, 1) := by decide +kernel
theorem dX5_orderTo_80 : decode cX5_orderTo 80 = .ok (.ireturn, 1) := by decide +kernel
theorem dX5_digits_0 : decode cX5_digits 0 = .ok (.aload_n 0, 1) := by decide +kernel
theorem dX5_digits_1 : decode cX5_digits 1 = .ok (.getfield 21, 3) := by decide +kernel
theorem dX5_digits_4 : decode cX5_digits 4 = .ok (.ifCond .ne 5, 3) := by decide +kernel
theorem dX5_digits_7 : decode cX5_digits 7 = .ok (.iconst 1, 1) := by decide +kernel
theorem dX5_digits_8 : decode cX5_digits 8 = .ok (.ireturn, 1) := by decide +kernel
theorem dX5_digits_9 : decode cX5_digits 9 = .ok (.bipush 9, 2) := by decide +kernel
theorem dX5_digits_11 : decode cX5_digits 11 = .ok (.aload_n 0, 1) := by decide +kernel
theorem dX5_digits_12 : decode cX5_digits 12 = .ok (.getfield 21, 3) := by decide +kernel
theorem dX5_digits_15 : decode cX5_digits 15 = .ok (.iconst 1, 1) := by decide +kernel
theorem dX5_digits_16 : decode cX5_digits 16 = .ok (.isub, 1) := by decide +kernel
theorem dX5_digits_17 : decode cX5_digits 17 = .ok (.imul, 1) := by decide +kernel
theorem dX5_digits_18 : decode cX5_digits 18 = .ok (.istore_n 1, 1) := by decide +kernel
theorem dX5_digits_19 : decode cX5_digits 19 = .ok (.aload_n 0, 1) := by decide +kernel
theorem dX5_digits_20 : decode cX5_digits 20 = .ok (.aload_n 0, 1) := by decide +kernel
theorem dX5_digits_21 : decode cX5_digits 21 = .ok (.getfield 21, 3) := by decide +kernel
theorem dX5_digits_24 : decode cX5_digits 24 = .ok (.iconst 1, 1) := by decide +kernel
theorem dX5_digits_25 : decode cX5_digits 25 = .ok (.isub, 1) := by decide +kernel
theorem dX5_digits_26 : decode cX5_digits 26 = .ok (.invokevirtual 40, 3) := by decide +kernel
theorem dX5_digits_29 : decode cX5_digits 29 = .ok (.lstore_n 2, 1) := by decide +kernel
theorem dX5_digits_30 : decode cX5_digits 30 = .ok (.lload_n 2, 1) := by decide +kernel
theorem dX5_digits_31 : decode cX5_digits 31 = .ok (.lconst 0, 1) := by decide +kernel
theorem dX5_digits_32 : decode cX5_digits 32 = .ok (.lcmp, 1) := by decide +kernel
theorem dX5_digits_33 : decode cX5_digits 33 = .ok (.ifCond .le 15, 3) := by decide +kernel
theorem dX5_digits_36 : decode cX5_digits 36 = .ok (.iinc 1 1, 3) := by decide +kernel
theorem dX5_digits_39 : decode cX5_digits 39 = .ok (.lload_n 2, 1) := by decide +kernel
theorem dX5_digits_40 : decode cX5_digits 40 = .ok (.ldc2_w 44, 3) := by decide +kernel
theorem dX5_digits_43 : decode cX5_digits 43 = .ok (.ldiv, 1) := by decide +kernel
theorem dX5_digits_44 : decode cX5_digits 44 = .ok (.lstore_n 2, 1) := by decide +kernel
theorem dX5_digits_45 : decode cX5_digits 45 = .ok (.goto (-15), 3) := by decide +kernel
theorem dX5_digits_48 : decode cX5_digits 48 = .ok (.iload_n 1, 1) := by decide +kernel
theorem dX5_digits_49 : decode cX5_digits 49 = .ok (.ireturn, 1) := by decide +kernel
theorem dX5_eighteenDigits_0 : decode cX5_eighteenDigits 0 = .ok (.aload_n 0, 1) := by decide +kernel
theorem dX5_eighteenDigits_1 : decode cX5_eighteenDigits 1 = .ok (.iconst 2, 1) := by decide +kernel
theorem dX5_eighteenDigits_2 : decode cX5_eighteenDigits 2 = .ok (.iload_n 1, 1) := by decide +kernel
theorem dX5_eighteenDigits_3 : decode cX5_eighteenDigits 3 = .ok (.imul, 1) := by decide +kernel
theorem dX5_eighteenDigits_4 : decode cX5_eighteenDigits 4 = .ok (.iconst 1, 1) := by decide +kernel
theorem dX5_eighteenDigits_5 : decode cX5_eighteenDigits 5 = .ok (.iadd, 1) := by decide +kernel
theorem dX5_eighteenDigits_6 : decode cX5_eighteenDigits 6 = .ok (.invokevirtual 40, 3) := by decide +kernel
theorem dX5_eighteenDigits_9 : decode cX5_eighteenDigits 9 = .ok (.ldc2_w 38, 3) := by decide +kernel
theorem dX5_eighteenDigits_12 : decode cX5_eighteenDigits 12 = .ok (.lmul, 1) := by decide +kernel
theorem dX5_eighteenDigits_13 : decode cX5_eighteenDigits 13 = .ok (.aload_n 0, 1) := by decide +kernel
theorem dX5_eighteenDigits_14 : decode cX5_eighteenDigits 14 = .ok (.iconst 2, 1) := by decide +kernel
theorem dX5_eighteenDigits_15 : decode cX5_eighteenDigits 15 = .ok (.iload_n 1, 1) := by decide +kernel
theorem dX5_eighteenDigits_16 : decode cX5_eighteenDigits 16 = .ok (.imul, 1) := by decide +kernel
theorem dX5_eighteenDigits_17 : decode cX5_eighteenDigits 17 = .ok (.invokevirtual 40, 3) := by decide +kernel
theorem dX5_eighteenDigits_20 : decode cX5_eighteenDigits 20 = .ok (.ladd, 1) := by decide +kernel
theorem dX5_eighteenDigits_21 : decode cX5_eighteenDigits 21 = .ok (.lreturn, 1) := by decide +kernel
theorem dX0_init_0 : decode cX0_init 0 = .ok (.aload_n 0, 1) := by decide +kernel
theorem dX0_init_1 : decode cX0_init 1 = .ok (.invokespecial 3, 3) := by decide +kernel
theorem dX0_init_4 : decode cX0_init 4 = .ok (.aload_n 0, 1) := by decide +kernel
theorem dX0_init_5 : decode cX0_init 5 = .ok (.iconst 1, 1) := by decide +kernel
theorem dX0_init_6 : decode cX0_init 6 = .ok (.iload_n 1, 1) := by decide +kernel
theorem dX0_init_7 : decode cX0_init 7 = .ok (.bipush 8, 2) := by decide +kernel
theorem dX0_init_9 : decode cX0_init 9 = .ok (.invokestatic 9, 3) := by decide +kernel
theorem dX0_init_12 : decode cX0_init 12 = .ok (.invokestatic 15, 3) := by decide +kernel
theorem dX0_init_15 : decode cX0_init 15 = .ok (.putfield 18, 3) := by decide +kernel
theorem dX0_init_18 : decode cX0_init 18 = .ok (.aload_n 0, 1) := by decide +kernel
theorem dX0_init_19 : decode cX0_init 19 = .ok (.iconst 1, 1) := by decide +kernel
theorem dX0_init_20 : decode cX0_init 20 = .ok (.iload_n 2, 1) := by decide +kernel
theorem dX0_init_21 : decode cX0_init 21 = .ok (.bipush 6, 2) := by decide +kernel
theorem dX0_init_23 : decode cX0_init 23 = .ok (.invokestatic 9, 3) := by decide +kernel
theorem dX0_init_26 : decode cX0_init 26 = .ok (.invokestatic 15, 3) := by decide +kernel
theorem dX0_init_29 : decode cX0_init 29 = .ok (.putfield 24, 3) := by decide +kernel
theorem dX0_init_32 : decode cX0_init 32 = .ok (.aload_n 0, 1) := by decide +kernel
theorem dX0_init_33 : decode cX0_init 33 = .ok (.iload_n 3, 1) := by decide +kernel
theorem dX0_init_34 : decode cX0_init 34 = .ok (.putfield 27, 3) := by decide +kernel
theorem dX0_init_37 : decode cX0_init 37 = .ok (.aload_n 0, 1) := by decide +kernel
theorem dX0_init_38 : decode cX0_init 38 = .ok (.aload_n 0, 1) := by decide +kernel
theorem dX0_init_39 : decode cX0_init 39 = .ok (.getfield 18, 3) := by decide +kernel
theorem dX0_init_42 : decode cX0_init 42 = .ok (.newarray .int, 2) := by decide +kernel
theorem dX0_init_44 : decode cX0_init 44 = .ok (.putfield 30, 3) := by decide +kernel
theorem dX0_init_47 : decode cX0_init 47 = .ok (.aload_n 0, 1) := by decide +kernel
theorem dX0_init_48 : decode cX0_init 48 = .ok (.aload_n 0, 1) := by decide +kernel
theorem dX0_init_49 : decode cX0_init 49 = .ok (.getfield 18, 3) := by decide +kernel
theorem dX0_init_52 : decode cX0_init 52 = .ok (.aload_n 0, 1) := by decide +kernel
theorem dX0_init_53 : decode cX0_init 53 = .ok (.getfield 18, 3) := by decide +kernel
theorem dX0_init_56 : decode cX0_init 56 = .ok (.imul, 1) := by decide +kernel
theorem dX0_init_57 : decode cX0_init 57 = .ok (.newarray .int, 2) := by decide +kernel
theorem dX0_init_59 : decode cX0_init 59 = .ok (.putfield 34, 3) := by decide +kernel
theorem dX0_init_62 : decode cX0_init 62 = .ok (.aload_n 0, 1) := by decide +kernel
theorem dX0_init_63 : decode cX0_init 63 = .ok (.aload_n 0, 1) := by decide +kernel
theorem dX0_init_64 : decode cX0_init 64 = .ok (.getfield 18, 3) := by decide +kernel
theorem dX0_init_67 : decode cX0_init 67 = .ok (.aload_n 0, 1) := by decide +kernel
theorem dX0_init_68 : decode cX0_init 68 = .ok (.getfield 24, 3) := by decide +kernel
theorem dX0_init_71 : decode cX0_init 71 = .ok (.imul, 1) := by decide +kernel
theorem dX0_init_72 : decode cX0_init 72 = .ok (.newarray .int, 2) := by decide +kernel
theorem dX0_init_74 : decode cX0_init 74 = .ok (.putfield 37, 3) := by decide +kernel
theorem dX0_init_77 : decode cX0_init 77 = .ok (.return_, 1) := by decide +kernel
theorem dX0_hasState_0 : decode cX0_hasState 0 = .ok (.iload_n 1, 1) := by decide +kernel
theorem dX0_hasState_1 : decode cX0_hasState 1 = .ok (.ifCond .lt 15, 3) := by decide +kernel
theorem dX0_hasState_4 : decode cX0_hasState 4 = .ok (.iload_n 1, 1) := by decide +kernel
theorem dX0_hasState_5 : decode cX0_hasState 5 = .ok (.aload_n 0, 1) := by decide +kernel
theorem dX0_hasState_6 : decode cX0_hasState 6 = .ok (.getfield 18, 3) := by decide +kernel
theorem dX0_hasState_9 : decode cX0_hasState 9 = .ok (.if_icmp .ge 7, 3) := by decide +kernel
theorem dX0_hasState_12 : decode cX0_hasState 12 = .ok (.iconst 1, 1) := by decide +kernel
theorem dX0_hasState_13 : decode cX0_hasState 13 = .ok (.goto 4, 3) := by decide +kernel
theorem dX0_hasState_16 : decode cX0_hasState 16 = .ok (.iconst 0, 1) := by decide +kernel
theorem dX0_hasState_17 : decode cX0_hasState 17 = .ok (.ireturn, 1) := by decide +kernel
theorem dX0_hasSign_0 : decode cX0_hasSign 0 = .ok (.iload_n 1, 1) := by decide +kernel
theorem dX0_hasSign_1 : decode cX0_hasSign 1 = .ok (.ifCond .lt 15, 3) := by decide +kernel
theorem dX0_hasSign_4 : decode cX0_hasSign 4 = .ok (.iload_n 1, 1) := by decide +kernel
theorem dX0_hasSign_5 : decode cX0_hasSign 5 = .ok (.aload_n 0, 1) := by decide +kernel
theorem dX0_hasSign_6 : decode cX0_hasSign 6 = .ok (.getfield 24, 3) := by decide +kernel
theorem dX0_hasSign_9 : decode cX0_hasSign 9 = .ok (.if_icmp .ge 7, 3) := by decide +kernel
theorem dX0_hasSign_12 : decode cX0_hasSign 12 = .ok (.iconst 1, 1) := by decide +kernel
theorem dX0_hasSign_13 : decode cX0_hasSign 13 = .ok (.goto 4, 3) := by decide +kernel
theorem dX0_hasSign_16 : decode cX0_hasSign 16 = .ok (.iconst 0, 1) := by decide +kernel
theorem dX0_hasSign_17 : decode cX0_hasSign 17 = .ok (.ireturn, 1) := by decide +kernel
theorem dX0_hasWeight_0 : decode cX0_hasWeight 0 = .ok (.iload_n 1, 1) := by decide +kernel
theorem dX0_hasWeight_1 : decode cX0_hasWeight 1 = .ok (.ifCond .lt 15, 3) := by decide +kernel
theorem dX0_hasWeight_4 : decode cX0_hasWeight 4 = .ok (.iload_n 1, 1) := by decide +kernel
theorem dX0_hasWeight_5 : decode cX0_hasWeight 5 = .ok (.aload_n 0, 1) := by decide +kernel
theorem dX0_hasWeight_6 : decode cX0_hasWeight 6 = .ok (.getfield 27, 3) := by decide +kernel
theorem dX0_hasWeight_9 : decode cX0_hasWeight 9 = .ok (.if_icmp .gt 7, 3) := by decide +kernel
theorem dX0_hasWeight_12 : decode cX0_hasWeight 12 = .ok (.iconst 1, 1) := by decide +kernel
theorem dX0_hasWeight_13 : decode cX0_hasWeight 13 = .ok (.goto 4, 3) := by decide +kernel
theorem dX0_hasWeight_16 : decode cX0_hasWeight 16 = .ok (.iconst 0, 1) := by decide +kernel
theorem dX0_hasWeight_17 : decode cX0_hasWeight 17 = .ok (.ireturn, 1) := by decide +kernel
theorem dX0_beginOf_0 : decode cX0_beginOf 0 = .ok (.aload_n 0, 1) := by decide +kernel
theorem dX0_beginOf_1 : decode cX0_beginOf 1 = .ok (.iload_n 1, 1) := by decide +kernel
theorem dX0_beginOf_2 : decode cX0_beginOf 2 = .ok (.invokevirtual 40, 3) := by decide +kernel
theorem dX0_beginOf_5 : decode cX0_beginOf 5 = .ok (.ifCond .eq 12, 3) := by decide +kernel
theorem dX0_beginOf_8 : decode cX0_beginOf 8 = .ok (.aload_n 0, 1) := by decide +kernel
theorem dX0_beginOf_9 : decode cX0_beginOf 9 = .ok (.getfield 30, 3) := by decide +kernel
theorem dX0_beginOf_12 : decode cX0_beginOf 12 = .ok (.iload_n 1, 1) := by decide +kernel
theorem dX0_beginOf_13 : decode cX0_beginOf 13 = .ok (.iaload, 1) := by decide +kernel
theorem dX0_beginOf_14 : decode cX0_beginOf 14 = .ok (.goto 4, 3) := by decide +kernel
theorem dX0_beginOf_17 : decode cX0_beginOf 17 = .ok (.iconst 0, 1) := by decide +kernel
theorem dX0_beginOf_18 : decode cX0_beginOf 18 = .ok (.ireturn, 1) := by decide +kernel
theorem dX0_goOf_0 : decode cX0_goOf 0 = .ok (.aload_n 0, 1) := by decide +kernel
theorem dX0_goOf_1 : decode cX0_goOf 1 = .ok (.iload_n 1, 1) := by decide +kernel
theorem dX0_goOf_2 : decode cX0_goOf 2 = .ok (.invokevirtual 40, 3) := by decide +kernel
theorem dX0_goOf_5 : decode cX0_goOf 5 = .ok (.ifCond .eq 27, 3) := by decide +kernel
theorem dX0_goOf_8 : decode cX0_goOf 8 = .ok (.aload_n 0, 1) := by decide +kernel
theorem dX0_goOf_9 : decode cX0_goOf 9 = .ok (.iload_n 2, 1) := by decide +kernel
theorem dX0_goOf_10 : decode cX0_goOf 10 = .ok (.invokevirtual 40, 3) := by decide +kernel
theorem dX0_goOf_13 : decode cX0_goOf 13 = .ok (.ifCond .eq 19, 3) := by decide +kernel
theorem dX0_goOf_16 : decode cX0_goOf 16 = .ok (.aload_n 0, 1) := by decide +kernel
theorem dX0_goOf_17 : decode cX0_goOf 17 = .ok (.getfield 34, 3) := by decide +kernel
theorem dX0_goOf_20 : decode cX0_goOf 20 = .ok (.iload_n 1, 1) := by decide +kernel
theorem dX0_goOf_21 : decode cX0_goOf 21 = .ok (.aload_n 0, 1) := by decide +kernel
theorem dX0_goOf_22 : decode cX0_goOf 22 = .ok (.getfield 18, 3) := by decide +kernel
theorem dX0_goOf_25 : decode cX0_goOf 25 = .ok (.imul, 1) := by decide +kernel
theorem dX0_goOf_26 : decode cX0_goOf 26 = .ok (.iload_n 2, 1) := by decide +kernel
theorem dX0_goOf_27 : decode cX0_goOf 27 = .ok (.iadd, 1) := by decide +kernel
theorem dX0_goOf_28 : decode cX0_goOf 28 = .ok (.iaload, 1) := by decide +kernel
theorem dX0_goOf_29 : decode cX0_goOf 29 = .ok (.goto 4, 3) := by decide +kernel
theorem dX0_goOf_32 : decode cX0_goOf 32 = .ok (.iconst 0, 1) := by decide +kernel
theorem dX0_goOf_33 : decode cX0_goOf 33 = .ok (.ireturn, 1) := by decide +kernel
theorem dX0_showOf_0 : decode cX0_showOf 0 = .ok (.iload_n 2, 1) := by decide +kernel
theorem dX0_showOf_1 : decode cX0_showOf 1 = .ok (.iconst (-1), 1) := by decide +kernel
theorem dX0_showOf_2 : decode cX0_showOf 2 = .ok (.if_icmp .ne 8, 3) := by decide +kernel
theorem dX0_showOf_5 : decode cX0_showOf 5 = .ok (.aload_n 0, 1) := by decide +kernel
theorem dX0_showOf_6 : decode cX0_showOf 6 = .ok (.getfield 27, 3) := by decide +kernel
theorem dX0_showOf_9 : decode cX0_showOf 9 = .ok (.ireturn, 1) := by decide +kernel
theorem dX0_showOf_10 : decode cX0_showOf 10 = .ok (.aload_n 0, 1) := by decide +kernel
theorem dX0_showOf_11 : decode cX0_showOf 11 = .ok (.iload_n 1, 1) := by decide +kernel
theorem dX0_showOf_12 : decode cX0_showOf 12 = .ok (.invokevirtual 40, 3) := by decide +kernel
theorem dX0_showOf_15 : decode cX0_showOf 15 = .ok (.ifCond .eq 27, 3) := by decide +kernel
theorem dX0_showOf_18 : decode cX0_showOf 18 = .ok (.aload_n 0, 1) := by decide +kernel
theorem dX0_showOf_19 : decode cX0_showOf 19 = .ok (.iload_n 2, 1) := by decide +kernel
theorem dX0_showOf_20 : decode cX0_showOf 20 = .ok (.invokevirtual 44, 3) := by decide +kernel
theorem dX0_showOf_23 : decode cX0_showOf 23 = .ok (.ifCond .eq 19, 3) := by decide +kernel
theorem dX0_showOf_26 : decode cX0_showOf 26 = .ok (.aload_n 0, 1) := by decide +kernel
theorem dX0_showOf_27 : decode cX0_showOf 27 = .ok (.getfield 37, 3) := by decide +kernel
theorem dX0_showOf_30 : decode cX0_showOf 30 = .ok (.iload_n 1, 1) := by decide +kernel
theorem dX0_showOf_31 : decode cX0_showOf 31 = .ok (.aload_n 0, 1) := by decide +kernel
theorem dX0_showOf_32 : decode cX0_showOf 32 = .ok (.getfield 24, 3) := by decide +kernel
theorem dX0_showOf_35 : decode cX0_showOf 35 = .ok (.imul, 1) := by decide +kernel
theorem dX0_showOf_36 : decode cX0_showOf 36 = .ok (.iload_n 2, 1) := by decide +kernel
theorem dX0_showOf_37 : decode cX0_showOf 37 = .ok (.iadd, 1) := by decide +kernel
theorem dX0_showOf_38 : decode cX0_showOf 38 = .ok (.iaload, 1) := by decide +kernel
theorem dX0_showOf_39 : decode cX0_showOf 39 = .ok (.goto 4, 3) := by decide +kernel
theorem dX0_showOf_42 : decode cX0_showOf 42 = .ok (.iconst 0, 1) := by decide +kernel
theorem dX0_showOf_43 : decode cX0_showOf 43 = .ok (.ireturn, 1) := by decide +kernel
theorem dX0_stepWeight_0 : decode cX0_stepWeight 0 = .ok (.aload_n 0, 1) := by decide +kernel
theorem dX0_stepWeight_1 : decode cX0_stepWeight 1 = .ok (.iload_n 1, 1) := by decide +kernel
theorem dX0_stepWeight_2 : decode cX0_stepWeight 2 = .ok (.iload_n 2, 1) := by decide +kernel
theorem dX0_stepWeight_3 : decode cX0_stepWeight 3 = .ok (.invokevirtual 47, 3) := by decide +kernel
theorem dX0_stepWeight_6 : decode cX0_stepWeight 6 = .ok (.i2l, 1) := by decide +kernel
theorem dX0_stepWeight_7 : decode cX0_stepWeight 7 = .ok (.aload_n 0, 1) := by decide +kernel
theorem dX0_stepWeight_8 : decode cX0_stepWeight 8 = .ok (.iload_n 2, 1) := by decide +kernel
theorem dX0_stepWeight_9 : decode cX0_stepWeight 9 = .ok (.iload_n 3, 1) := by decide +kernel
theorem dX0_stepWeight_10 : decode cX0_stepWeight 10 = .ok (.invokevirtual 50, 3) := by decide +kernel
theorem dX0_stepWeight_13 : decode cX0_stepWeight 13 = .ok (.i2l, 1) := by decide +kernel
theorem dX0_stepWeight_14 : decode cX0_stepWeight 14 = .ok (.lmul, 1) := by decide +kernel
theorem dX0_stepWeight_15 : decode cX0_stepWeight 15 = .ok (.lreturn, 1) := by decide +kernel
theorem dX0_startWeight_0 : decode cX0_startWeight 0 = .ok (.aload_n 0, 1) := by decide +kernel
theorem dX0_startWeight_1 : decode cX0_startWeight 1 = .ok (.iload_n 1, 1) := by decide +kernel
theorem dX0_startWeight_2 : decode cX0_startWeight 2 = .ok (.invokevirtual 53, 3) := by decide +kernel
theorem dX0_startWeight_5 : decode cX0_startWeight 5 = .ok (.aload_n 0, 1) := by decide +kernel
theorem dX0_startWeight_6 : decode cX0_startWeight 6 = .ok (.iload_n 1, 1) := by decide +kernel
theorem dX0_startWeight_7 : decode cX0_startWeight 7 = .ok (.iload_n 2, 1) := by decide +kernel
theorem dX0_startWeight_8 : decode cX0_startWeight 8 = .ok (.invokevirtual 50, 3) := by decide +kernel
theorem dX0_startWeight_11 : decode cX0_startWeight 11 = .ok (.imul, 1) := by decide +kernel
theorem dX0_startWeight_12 : decode cX0_startWeight 12 = .ok (.ireturn, 1) := by decide +kernel
theorem dX0_putBegin_0 : decode cX0_putBegin 0 = .ok (.aload_n 0, 1) := by decide +kernel
theorem dX0_putBegin_1 : decode cX0_putBegin 1 = .ok (.iload_n 1, 1) := by decide +kernel
theorem dX0_putBegin_2 : decode cX0_putBegin 2 = .ok (.invokevirtual 40, 3) := by decide +kernel
theorem dX0_putBegin_5 : decode cX0_putBegin 5 = .ok (.ifCond .eq 15, 3) := by decide +kernel
theorem dX0_putBegin_8 : decode cX0_putBegin 8 = .ok (.aload_n 0, 1) := by decide +kernel
theorem dX0_putBegin_9 : decode cX0_putBegin 9 = .ok (.getfield 30, 3) := by decide +kernel
theorem dX0_putBegin_12 : decode cX0_putBegin 12 = .ok (.iload_n 1, 1) := by decide +kernel
theorem dX0_putBegin_13 : decode cX0_putBegin 13 = .ok (.iload_n 2, 1) := by decide +kernel
theorem dX0_putBegin_14 : decode cX0_putBegin 14 = .ok (.invokestatic 57, 3) := by decide +kernel
theorem dX0_putBegin_17 : decode cX0_putBegin 17 = .ok (.goto 4, 3) := by decide +kernel
theorem dX0_putBegin_20 : decode cX0_putBegin 20 = .ok (.iconst (-1), 1) := by decide +kernel
theorem dX0_putBegin_21 : decode cX0_putBegin 21 = .ok (.ireturn, 1) := by decide +kernel
theorem dX0_putGo_0 : decode cX0_putGo 0 = .ok (.aload_n 0, 1) := by decide +kernel
theorem dX0_putGo_1 : decode cX0_putGo 1 = .ok (.iload_n 1, 1) := by decide +kernel
theorem dX0_putGo_2 : decode cX0_putGo 2 = .ok (.invokevirtual 40, 3) := by decide +kernel
theorem dX0_putGo_5 : decode cX0_putGo 5 = .ok (.ifCond .eq 30, 3) := by decide +kernel
theorem dX0_putGo_8 : decode cX0_putGo 8 = .ok (.aload_n 0, 1) := by decide +kernel
theorem dX0_putGo_9 : decode cX0_putGo 9 = .ok (.iload_n 2, 1) := by decide +kernel
theorem dX0_putGo_10 : decode cX0_putGo 10 = .ok (.invokevirtual 40, 3) := by decide +kernel
theorem dX0_putGo_13 : decode cX0_putGo 13 = .ok (.ifCond .eq 22, 3) := by decide +kernel
theorem dX0_putGo_16 : decode cX0_putGo 16 = .ok (.aload_n 0, 1) := by decide +kernel
theorem dX0_putGo_17 : decode cX0_putGo 17 = .ok (.getfield 34, 3) := by decide +kernel
theorem dX0_putGo_20 : decode cX0_putGo 20 = .ok (.iload_n 1, 1) := by decide +kernel
theorem dX0_putGo_21 : decode cX0_putGo 21 = .ok (.aload_n 0, 1) := by decide +kernel
theorem dX0_putGo_22 : decode cX0_putGo 22 = .ok (.getfield 18, 3) := by decide +kernel
theorem dX0_putGo_25 : decode cX0_putGo 25 = .ok (.imul, 1) := by decide +kernel
theorem dX0_putGo_26 : decode cX0_putGo 26 = .ok (.iload_n 2, 1) := by decide +kernel
theorem dX0_putGo_27 : decode cX0_putGo 27 = .ok (.iadd, 1) := by decide +kernel
theorem dX0_putGo_28 : decode cX0_putGo 28 = .ok (.iload_n 3, 1) := by decide +kernel
theorem dX0_putGo_29 : decode cX0_putGo 29 = .ok (.invokestatic 57, 3) := by decide +kernel
theorem dX0_putGo_32 : decode cX0_putGo 32 = .ok (.goto 4, 3) := by decide +kernel
theorem dX0_putGo_35 : decode cX0_putGo 35 = .ok (.iconst (-1), 1) := by decide +kernel
theorem dX0_putGo_36 : decode cX0_putGo 36 = .ok (.ireturn, 1) := by decide +kernel
theorem dX0_putShow_0 : decode cX0_putShow 0 = .ok (.aload_n 0, 1) := by decide +kernel
theorem dX0_putShow_1 : decode cX0_putShow 1 = .ok (.iload_n 1, 1) := by decide +kernel
theorem dX0_putShow_2 : decode cX0_putShow 2 = .ok (.invokevirtual 40, 3) := by decide +kernel
theorem dX0_putShow_5 : decode cX0_putShow 5 = .ok (.ifCond .eq 30, 3) := by decide +kernel
theorem dX0_putShow_8 : decode cX0_putShow 8 = .ok (.aload_n 0, 1) := by decide +kernel
theorem dX0_putShow_9 : decode cX0_putShow 9 = .ok (.iload_n 2, 1) := by decide +kernel
theorem dX0_putShow_10 : decode cX0_putShow 10 = .ok (.invokevirtual 44, 3) := by decide +kernel
theorem dX0_putShow_13 : decode cX0_putShow 13 = .ok (.ifCond .eq 22, 3) := by decide +kernel
theorem dX0_putShow_16 : decode cX0_putShow 16 = .ok (.aload_n 0, 1) := by decide +kernel
theorem dX0_putShow_17 : decode cX0_putShow 17 = .ok (.getfield 37, 3) := by decide +kernel
theorem dX0_putShow_20 : decode cX0_putShow 20 = .ok (.iload_n 1, 1) := by decide +kernel
theorem dX0_putShow_21 : decode cX0_putShow 21 = .ok (.aload_n 0, 1) := by decide +kernel
theorem dX0_putShow_22 : decode cX0_putShow 22 = .ok (.getfield 24, 3) := by decide +kernel
theorem dX0_putShow_25 : decode cX0_putShow 25 = .ok (.imul, 1) := by decide +kernel
theorem dX0_putShow_26 : decode cX0_putShow 26 = .ok (.iload_n 2, 1) := by decide +kernel
theorem dX0_putShow_27 : decode cX0_putShow 27 = .ok (.iadd, 1) := by decide +kernel
theorem dX0_putShow_28 : decode cX0_putShow 28 = .ok (.iload_n 3, 1) := by decide +kernel
theorem dX0_putShow_29 : decode cX0_putShow 29 = .ok (.invokestatic 57, 3) := by decide +kernel
theorem dX0_putShow_32 : decode cX0_putShow 32 = .ok (.goto 4, 3) := by decide +kernel
theorem dX0_putShow_35 : decode cX0_putShow 35 = .ok (.iconst (-1), 1) := by decide +kernel
theorem dX0_putShow_36 : decode cX0_putShow 36 = .ok (.ireturn, 1) := by decide +kernel
theorem dX0_replace_0 : decode cX0_replace 0 = .ok (.iload_n 1, 1) := by decide +kernel
theorem dX0_replace_1 : decode cX0_replace 1 = .ok (.ifCond .lt 9, 3) := by decide +kernel
theorem dX0_replace_4 : decode cX0_replace 4 = .ok (.iload_n 1, 1) := by decide +kernel
theorem dX0_replace_5 : decode cX0_replace 5 = .ok (.aload_n 0, 1) := by decide +kernel
theorem dX0_replace_6 : decode cX0_replace 6 = .ok (.arraylength, 1) := by decide +kernel
theorem dX0_replace_7 : decode cX0_replace 7 = .ok (.if_icmp .lt 5, 3) := by decide +kernel
theorem dX0_replace_10 : decode cX0_replace 10 = .ok (.iconst (-1), 1) := by decide +kernel
theorem dX0_replace_11 : decode cX0_replace 11 = .ok (.ireturn, 1) := by decide +kernel
theorem dX0_replace_12 : decode cX0_replace 12 = .ok (.aload_n 0, 1) := by decide +kernel
theorem dX0_replace_13 : decode cX0_replace 13 = .ok (.iload_n 1, 1) := by decide +kernel
theorem dX0_replace_14 : decode cX0_replace 14 = .ok (.iaload, 1) := by decide +kernel
theorem dX0_replace_15 : decode cX0_replace 15 = .ok (.istore_n 3, 1) := by decide +kernel
theorem dX0_replace_16 : decode cX0_replace 16 = .ok (.aload_n 0, 1) := by decide +kernel
theorem dX0_replace_17 : decode cX0_replace 17 = .ok (.iload_n 1, 1) := by decide +kernel
theorem dX0_replace_18 : decode cX0_replace 18 = .ok (.iload_n 2, 1) := by decide +kernel
theorem dX0_replace_19 : decode cX0_replace 19 = .ok (.iastore, 1) := by decide +kernel
theorem dX0_replace_20 : decode cX0_replace 20 = .ok (.iload_n 3, 1) := by decide +kernel
theorem dX0_replace_21 : decode cX0_replace 21 = .ok (.ireturn, 1) := by decide +kernel
theorem dX0_isSound_0 : decode cX0_isSound 0 = .ok (.aload_n 0, 1) := by decide +kernel
theorem dX0_isSound_1 : decode cX0_isSound 1 = .ok (.aload_n 0, 1) := by decide +kernel
theorem dX0_isSound_2 : decode cX0_isSound 2 = .ok (.getfield 30, 3) := by decide +kernel
theorem dX0_isSound_5 : decode cX0_isSound 5 = .ok (.iconst 0, 1) := by decide +kernel
theorem dX0_isSound_6 : decode cX0_isSound 6 = .ok (.aload_n 0, 1) := by decide +kernel
theorem dX0_isSound_7 : decode cX0_isSound 7 = .ok (.getfield 18, 3) := by decide +kernel
theorem dX0_isSound_10 : decode cX0_isSound 10 = .ok (.invokevirtual 61, 3) := by decide +kernel
theorem dX0_isSound_13 : decode cX0_isSound 13 = .ok (.ifCond .ne 5, 3) := by decide +kernel
theorem dX0_isSound_16 : decode cX0_isSound 16 = .ok (.iconst 0, 1) := by decide +kernel
theorem dX0_isSound_17 : decode cX0_isSound 17 = .ok (.ireturn, 1) := by decide +kernel
theorem dX0_isSound_18 : decode cX0_isSound 18 = .ok (.iconst 0, 1) := by decide +kernel
theorem dX0_isSound_19 : decode cX0_isSound 19 = .ok (.istore_n 1, 1) := by decide +kernel
theorem dX0_isSound_20 : decode cX0_isSound 20 = .ok (.iload_n 1, 1) := by decide +kernel
theorem dX0_isSound_21 : decode cX0_isSound 21 = .ok (.aload_n 0, 1) := by decide +kernel
theorem dX0_isSound_22 : decode cX0_isSound 22 = .ok (.getfield 18, 3) := by decide +kernel
theorem dX0_isSound_25 : decode cX0_isSound 25 = .ok (.if_icmp .ge 53, 3) := by decide +kernel
theorem dX0_isSound_28 : decode cX0_isSound 28 = .ok (.aload_n 0, 1) := by decide +kernel
theorem dX0_isSound_29 : decode cX0_isSound 29 = .ok (.aload_n 0, 1) := by decide +kernel
theorem dX0_isSound_30 : decode cX0_isSound 30 = .ok (.getfield 34, 3) := by decide +kernel
theorem dX0_isSound_33 : decode cX0_isSound 33 = .ok (.iload_n 1, 1) := by decide +kernel
theorem dX0_isSound_34 : decode cX0_isSound 34 = .ok (.aload_n 0, 1) := by decide +kernel
theorem dX0_isSound_35 : decode cX0_isSound 35 = .ok (.getfield 18, 3) := by decide +kernel
theorem dX0_isSound_38 : decode cX0_isSound 38 = .ok (.imul, 1) := by decide +kernel
theorem dX0_isSound_39 : decode cX0_isSound 39 = .ok (.aload_n 0, 1) := by decide +kernel
theorem dX0_isSound_40 : decode cX0_isSound 40 = .ok (.getfield 18, 3) := by decide +kernel
theorem dX0_isSound_43 : decode cX0_isSound 43 = .ok (.invokevirtual 61, 3) := by decide +kernel
theorem dX0_isSound_46 : decode cX0_isSound 46 = .ok (.ifCond .eq 24, 3) := by decide +kernel
theorem dX0_isSound_49 : decode cX0_isSound 49 = .ok (.aload_n 0, 1) := by decide +kernel
theorem dX0_isSound_50 : decode cX0_isSound 50 = .ok (.aload_n 0, 1) := by decide +kernel
theorem dX0_isSound_51 : decode cX0_isSound 51 = .ok (.getfield 37, 3) := by decide +kernel
theorem dX0_isSound_54 : decode cX0_isSound 54 = .ok (.iload_n 1, 1) := by decide +kernel
theorem dX0_isSound_55 : decode cX0_isSound 55 = .ok (.aload_n 0, 1) := by decide +kernel
theorem dX0_isSound_56 : decode cX0_isSound 56 = .ok (.getfield 24, 3) := by decide +kernel
theorem dX0_isSound_59 : decode cX0_isSound 59 = .ok (.imul, 1) := by decide +kernel
theorem dX0_isSound_60 : decode cX0_isSound 60 = .ok (.aload_n 0, 1) := by decide +kernel
theorem dX0_isSound_61 : decode cX0_isSound 61 = .ok (.getfield 24, 3) := by decide +kernel
theorem dX0_isSound_64 : decode cX0_isSound 64 = .ok (.invokevirtual 61, 3) := by decide +kernel
theorem dX0_isSound_67 : decode cX0_isSound 67 = .ok (.ifCond .ne 5, 3) := by decide +kernel
theorem dX0_isSound_70 : decode cX0_isSound 70 = .ok (.iconst 0, 1) := by decide +kernel
theorem dX0_isSound_71 : decode cX0_isSound 71 = .ok (.ireturn, 1) := by decide +kernel
theorem dX0_isSound_72 : decode cX0_isSound 72 = .ok (.iinc 1 1, 3) := by decide +kernel
theorem dX0_isSound_75 : decode cX0_isSound 75 = .ok (.goto (-55), 3) := by decide +kernel
theorem dX0_isSound_78 : decode cX0_isSound 78 = .ok (.iconst 1, 1) := by decide +kernel
theorem dX0_isSound_79 : decode cX0_isSound 79 = .ok (.ireturn, 1) := by decide +kernel
theorem dX0_isTotal_0 : decode cX0_isTotal 0 = .ok (.iconst 0, 1) := by decide +kernel
theorem dX0_isTotal_1 : decode cX0_isTotal 1 = .ok (.istore 4, 2) := by decide +kernel
theorem dX0_isTotal_3 : decode cX0_isTotal 3 = .ok (.iload_n 2, 1) := by decide +kernel
theorem dX0_isTotal_4 : decode cX0_isTotal 4 = .ok (.istore 5, 2) := by decide +kernel
theorem dX0_isTotal_6 : decode cX0_isTotal 6 = .ok (.iload 5, 2) := by decide +kernel
theorem dX0_isTotal_8 : decode cX0_isTotal 8 = .ok (.iload_n 2, 1) := by decide +kernel
theorem dX0_isTotal_9 : decode cX0_isTotal 9 = .ok (.iload_n 3, 1) := by decide +kernel
theorem dX0_isTotal_10 : decode cX0_isTotal 10 = .ok (.iadd, 1) := by decide +kernel
theorem dX0_isTotal_11 : decode cX0_isTotal 11 = .ok (.if_icmp .ge 25, 3) := by decide +kernel
theorem dX0_isTotal_14 : decode cX0_isTotal 14 = .ok (.iload 5, 2) := by decide +kernel
theorem dX0_isTotal_16 : decode cX0_isTotal 16 = .ok (.aload_n 1, 1) := by decide +kernel
theorem dX0_isTotal_17 : decode cX0_isTotal 17 = .ok (.arraylength, 1) := by decide +kernel
theorem dX0_isTotal_18 : decode cX0_isTotal 18 = .ok (.if_icmp .ge 18, 3) := by decide +kernel
theorem dX0_isTotal_21 : decode cX0_isTotal 21 = .ok (.iload 4, 2) := by decide +kernel
theorem dX0_isTotal_23 : decode cX0_isTotal 23 = .ok (.aload_n 1, 1) := by decide +kernel
theorem dX0_isTotal_24 : decode cX0_isTotal 24 = .ok (.iload 5, 2) := by decide +kernel
theorem dX0_isTotal_26 : decode cX0_isTotal 26 = .ok (.iaload, 1) := by decide +kernel
theorem dX0_isTotal_27 : decode cX0_isTotal 27 = .ok (.iadd, 1) := by decide +kernel
theorem dX0_isTotal_28 : decode cX0_isTotal 28 = .ok (.istore 4, 2) := by decide +kernel
theorem dX0_isTotal_30 : decode cX0_isTotal 30 = .ok (.iinc 5 1, 3) := by decide +kernel
theorem dX0_isTotal_33 : decode cX0_isTotal 33 = .ok (.goto (-27), 3) := by decide +kernel
theorem dX0_isTotal_36 : decode cX0_isTotal 36 = .ok (.iload 4, 2) := by decide +kernel
theorem dX0_isTotal_38 : decode cX0_isTotal 38 = .ok (.aload_n 0, 1) := by decide +kernel
theorem dX0_isTotal_39 : decode cX0_isTotal 39 = .ok (.getfield 27, 3) := by decide +kernel
theorem dX0_isTotal_42 : decode cX0_isTotal 42 = .ok (.if_icmp .ne 7, 3) := by decide +kernel
theorem dX0_isTotal_45 : decode cX0_isTotal 45 = .ok (.iconst 1, 1) := by decide +kernel
theorem dX0_isTotal_46 : decode cX0_isTotal 46 = .ok (.goto 4, 3) := by decide +kernel
theorem dX0_isTotal_49 : decode cX0_isTotal 49 = .ok (.iconst 0, 1) := by decide +kernel
theorem dX0_isTotal_50 : decode cX0_isTotal 50 = .ok (.ireturn, 1) := by decide +kernel
theorem dX2_init_0 : decode cX2_init 0 = .ok (.aload_n 0, 1) := by decide +kernel
theorem dX2_init_1 : decode cX2_init 1 = .ok (.invokespecial 3, 3) := by decide +kernel
theorem dX2_init_4 : decode cX2_init 4 = .ok (.aload_n 0, 1) := by decide +kernel
theorem dX2_init_5 : decode cX2_init 5 = .ok (.bipush 60, 2) := by decide +kernel
theorem dX2_init_7 : decode cX2_init 7 = .ok (.newarray .int, 2) := by decide +kernel
theorem dX2_init_9 : decode cX2_init 9 = .ok (.putfield 9, 3) := by decide +kernel
theorem dX2_init_12 : decode cX2_init 12 = .ok (.aload_n 0, 1) := by decide +kernel
theorem dX2_init_13 : decode cX2_init 13 = .ok (.iconst 0, 1) := by decide +kernel
theorem dX2_init_14 : decode cX2_init 14 = .ok (.putfield 15, 3) := by decide +kernel
theorem dX2_init_17 : decode cX2_init 17 = .ok (.return_, 1) := by decide +kernel
theorem dX2_length_0 : decode cX2_length 0 = .ok (.aload_n 0, 1) := by decide +kernel
theorem dX2_length_1 : decode cX2_length 1 = .ok (.getfield 15, 3) := by decide +kernel
theorem dX2_length_4 : decode cX2_length 4 = .ok (.ireturn, 1) := by decide +kernel
theorem dX2_isFull_0 : decode cX2_isFull 0 = .ok (.aload_n 0, 1) := by decide +kernel
theorem dX2_isFull_1 : decode cX2_isFull 1 = .ok (.getfield 15, 3) := by decide +kernel
theorem dX2_isFull_4 : decode cX2_isFull 4 = .ok (.aload_n 0, 1) := by decide +kernel
theorem dX2_isFull_5 : decode cX2_isFull 5 = .ok (.getfield 9, 3) := by decide +kernel
theorem dX2_isFull_8 : decode cX2_isFull 8 = .ok (.arraylength, 1) := by decide +kernel
theorem dX2_isFull_9 : decode cX2_isFull 9 = .ok (.if_icmp .lt 7, 3) := by decide +kernel
theorem dX2_isFull_12 : decode cX2_isFull 12 = .ok (.iconst 1, 1) := by decide +kernel
theorem dX2_isFull_13 : decode cX2_isFull 13 = .ok (.goto 4, 3) := by decide +kernel
theorem dX2_isFull_16 : decode cX2_isFull 16 = .ok (.iconst 0, 1) := by decide +kernel
theorem dX2_isFull_17 : decode cX2_isFull 17 = .ok (.ireturn, 1) := by decide +kernel
theorem dX2_hasPlace_0 : decode cX2_hasPlace 0 = .ok (.iload_n 1, 1) := by decide +kernel
theorem dX2_hasPlace_1 : decode cX2_hasPlace 1 = .ok (.ifCond .lt 15, 3) := by decide +kernel
theorem dX2_hasPlace_4 : decode cX2_hasPlace 4 = .ok (.iload_n 1, 1) := by decide +kernel
theorem dX2_hasPlace_5 : decode cX2_hasPlace 5 = .ok (.aload_n 0, 1) := by decide +kernel
theorem dX2_hasPlace_6 : decode cX2_hasPlace 6 = .ok (.getfield 15, 3) := by decide +kernel
theorem dX2_hasPlace_9 : decode cX2_hasPlace 9 = .ok (.if_icmp .ge 7, 3) := by decide +kernel
theorem dX2_hasPlace_12 : decode cX2_hasPlace 12 = .ok (.iconst 1, 1) := by decide +kernel
theorem dX2_hasPlace_13 : decode cX2_hasPlace 13 = .ok (.goto 4, 3) := by decide +kernel
theorem dX2_hasPlace_16 : decode cX2_hasPlace 16 = .ok (.iconst 0, 1) := by decide +kernel
theorem dX2_hasPlace_17 : decode cX2_hasPlace 17 = .ok (.ireturn, 1) := by decide +kernel
theorem dX2_signAt_0 : decode cX2_signAt 0 = .ok (.aload_n 0, 1) := by decide +kernel
theorem dX2_signAt_1 : decode cX2_signAt 1 = .ok (.iload_n 1, 1) := by decide +kernel
theorem dX2_signAt_2 : decode cX2_signAt 2 = .ok (.invokevirtual 19, 3) := by decide +kernel
theorem dX2_signAt_5 : decode cX2_signAt 5 = .ok (.ifCond .eq 12, 3) := by decide +kernel
theorem dX2_signAt_8 : decode cX2_signAt 8 = .ok (.aload_n 0, 1) := by decide +kernel
theorem dX2_signAt_9 : decode cX2_signAt 9 = .ok (.getfield 9, 3) := by decide +kernel
theorem dX2_signAt_12 : decode cX2_signAt 12 = .ok (.iload_n 1, 1) := by decide +kernel
theorem dX2_signAt_13 : decode cX2_signAt 13 = .ok (.iaload, 1) := by decide +kernel
theorem dX2_signAt_14 : decode cX2_signAt 14 = .ok (.goto 4, 3) := by decide +kernel
theorem dX2_signAt_17 : decode cX2_signAt 17 = .ok (.iconst (-1), 1) := by decide +kernel
theorem dX2_signAt_18 : decode cX2_signAt 18 = .ok (.ireturn, 1) := by decide +kernel
theorem dX2_append_0 : decode cX2_append 0 = .ok (.aload_n 0, 1) := by decide +kernel
theorem dX2_append_1 : decode cX2_append 1 = .ok (.invokevirtual 23, 3) := by decide +kernel
theorem dX2_append_4 : decode cX2_append 4 = .ok (.ifCond .ne 23, 3) := by decide +kernel
theorem dX2_append_7 : decode cX2_append 7 = .ok (.aload_n 0, 1) := by decide +kernel
theorem dX2_append_8 : decode cX2_append 8 = .ok (.getfield 9, 3) := by decide +kernel
theorem dX2_append_11 : decode cX2_append 11 = .ok (.aload_n 0, 1) := by decide +kernel
theorem dX2_append_12 : decode cX2_append 12 = .ok (.getfield 15, 3) := by decide +kernel
theorem dX2_append_15 : decode cX2_append 15 = .ok (.iload_n 1, 1) := by decide +kernel
theorem dX2_append_16 : decode cX2_append 16 = .ok (.iastore, 1) := by decide +kernel
theorem dX2_append_17 : decode cX2_append 17 = .ok (.aload_n 0, 1) := by decide +kernel
theorem dX2_append_18 : decode cX2_append 18 = .ok (.dup, 1) := by decide +kernel
theorem dX2_append_19 : decode cX2_append 19 = .ok (.getfield 15, 3) := by decide +kernel
theorem dX2_append_22 : decode cX2_append 22 = .ok (.iconst 1, 1) := by decide +kernel
theorem dX2_append_23 : decode cX2_append 23 = .ok (.iadd, 1) := by decide +kernel
theorem dX2_append_24 : decode cX2_append 24 = .ok (.putfield 15, 3) := by decide +kernel
theorem dX2_append_27 : decode cX2_append 27 = .ok (.return_, 1) := by decide +kernel
theorem dX2_shorten_0 : decode cX2_shorten 0 = .ok (.iload_n 1, 1) := by decide +kernel
theorem dX2_shorten_1 : decode cX2_shorten 1 = .ok (.ifCond .lt 16, 3) := by decide +kernel
theorem dX2_shorten_4 : decode cX2_shorten 4 = .ok (.iload_n 1, 1) := by decide +kernel
theorem dX2_shorten_5 : decode cX2_shorten 5 = .ok (.aload_n 0, 1) := by decide +kernel
theorem dX2_shorten_6 : decode cX2_shorten 6 = .ok (.getfield 15, 3) := by decide +kernel
theorem dX2_shorten_9 : decode cX2_shorten 9 = .ok (.if_icmp .ge 8, 3) := by decide +kernel
theorem dX2_shorten_12 : decode cX2_shorten 12 = .ok (.aload_n 0, 1) := by decide +kernel
theorem dX2_shorten_13 : decode cX2_shorten 13 = .ok (.iload_n 1, 1) := by decide +kernel
theorem dX2_shorten_14 : decode cX2_shorten 14 = .ok (.putfield 15, 3) := by decide +kernel
theorem dX2_shorten_17 : decode cX2_shorten 17 = .ok (.return_, 1) := by decide +kernel
theorem dX2_fits_0 : decode cX2_fits 0 = .ok (.iconst 0, 1) := by decide +kernel
theorem dX2_fits_1 : decode cX2_fits 1 = .ok (.istore_n 2, 1) := by decide +kernel
theorem dX2_fits_2 : decode cX2_fits 2 = .ok (.iload_n 2, 1) := by decide +kernel
theorem dX2_fits_3 : decode cX2_fits 3 = .ok (.aload_n 0, 1) := by decide +kernel
theorem dX2_fits_4 : decode cX2_fits 4 = .ok (.getfield 15, 3) := by decide +kernel
theorem dX2_fits_7 : decode cX2_fits 7 = .ok (.if_icmp .ge 34, 3) := by decide +kernel
theorem dX2_fits_10 : decode cX2_fits 10 = .ok (.aload_n 0, 1) := by decide +kernel
theorem dX2_fits_11 : decode cX2_fits 11 = .ok (.getfield 9, 3) := by decide +kernel
theorem dX2_fits_14 : decode cX2_fits 14 = .ok (.iload_n 2, 1) := by decide +kernel
theorem dX2_fits_15 : decode cX2_fits 15 = .ok (.iaload, 1) := by decide +kernel
theorem dX2_fits_16 : decode cX2_fits 16 = .ok (.iconst (-1), 1) := by decide +kernel
theorem dX2_fits_17 : decode cX2_fits 17 = .ok (.if_icmp .eq 18, 3) := by decide +kernel
theorem dX2_fits_20 : decode cX2_fits 20 = .ok (.aload_n 1, 1) := by decide +kernel
theorem dX2_fits_21 : decode cX2_fits 21 = .ok (.aload_n 0, 1) := by decide +kernel
theorem dX2_fits_22 : decode cX2_fits 22 = .ok (.getfield 9, 3) := by decide +kernel
theorem dX2_fits_25 : decode cX2_fits 25 = .ok (.iload_n 2, 1) := by decide +kernel
theorem dX2_fits_26 : decode cX2_fits 26 = .ok (.iaload, 1) := by decide +kernel
theorem dX2_fits_27 : decode cX2_fits 27 = .ok (.invokevirtual 27, 3) := by decide +kernel
theorem dX2_fits_30 : decode cX2_fits 30 = .ok (.ifCond .ne 5, 3) := by decide +kernel
theorem dX2_fits_33 : decode cX2_fits 33 = .ok (.iconst 0, 1) := by decide +kernel
theorem dX2_fits_34 : decode cX2_fits 34 = .ok (.ireturn, 1) := by decide +kernel
theorem dX2_fits_35 : decode cX2_fits 35 = .ok (.iinc 2 1, 3) := by decide +kernel
theorem dX2_fits_38 : decode cX2_fits 38 = .ok (.goto (-36), 3) := by decide +kernel
theorem dX2_fits_41 : decode cX2_fits 41 = .ok (.iconst 1, 1) := by decide +kernel
theorem dX2_fits_42 : decode cX2_fits 42 = .ok (.ireturn, 1) := by decide +kernel
