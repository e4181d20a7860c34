theorem dX3_init_0 : decode cX3_init 0 = .ok (.aload_n 0, 1) := by decide +kernel
theorem dX3_init_1 : decode cX3_init 1 = .ok (.invokespecial 3, 3) := by decide +kernel
theorem dX3_init_4 : decode cX3_init 4 = .ok (.aload_n 0, 1) := by decide +kernel
theorem dX3_init_5 : decode cX3_init 5 = .ok (.bipush 8, 2) := by decide +kernel
theorem dX3_init_7 : decode cX3_init 7 = .ok (.invokestatic 9, 3) := by decide +kernel
theorem dX3_init_10 : decode cX3_init 10 = .ok (.putfield 13, 3) := by decide +kernel
theorem dX3_init_13 : decode cX3_init 13 = .ok (.aload_n 0, 1) := by decide +kernel
theorem dX3_init_14 : decode cX3_init 14 = .ok (.bipush 8, 2) := by decide +kernel
theorem dX3_init_16 : decode cX3_init 16 = .ok (.invokestatic 9, 3) := by decide +kernel
theorem dX3_init_19 : decode cX3_init 19 = .ok (.putfield 19, 3) := by decide +kernel
theorem dX3_init_22 : decode cX3_init 22 = .ok (.aload_n 0, 1) := by decide +kernel
theorem dX3_init_23 : decode cX3_init 23 = .ok (.bipush 8, 2) := by decide +kernel
theorem dX3_init_25 : decode cX3_init 25 = .ok (.invokestatic 9, 3) := by decide +kernel
theorem dX3_init_28 : decode cX3_init 28 = .ok (.putfield 22, 3) := by decide +kernel
theorem dX3_init_31 : decode cX3_init 31 = .ok (.aload_n 0, 1) := by decide +kernel
theorem dX3_init_32 : decode cX3_init 32 = .ok (.bipush 8, 2) := by decide +kernel
theorem dX3_init_34 : decode cX3_init 34 = .ok (.newarray .long, 2) := by decide +kernel
theorem dX3_init_36 : decode cX3_init 36 = .ok (.putfield 25, 3) := by decide +kernel
theorem dX3_init_39 : decode cX3_init 39 = .ok (.aload_n 0, 1) := by decide +kernel
theorem dX3_init_40 : decode cX3_init 40 = .ok (.new 29, 3) := by decide +kernel
theorem dX3_init_43 : decode cX3_init 43 = .ok (.dup, 1) := by decide +kernel
theorem dX3_init_44 : decode cX3_init 44 = .ok (.bipush 42, 2) := by decide +kernel
theorem dX3_init_46 : decode cX3_init 46 = .ok (.invokespecial 31, 3) := by decide +kernel
theorem dX3_init_49 : decode cX3_init 49 = .ok (.putfield 34, 3) := by decide +kernel
theorem dX3_init_52 : decode cX3_init 52 = .ok (.aload_n 0, 1) := by decide +kernel
theorem dX3_init_53 : decode cX3_init 53 = .ok (.new 29, 3) := by decide +kernel
theorem dX3_init_56 : decode cX3_init 56 = .ok (.dup, 1) := by decide +kernel
theorem dX3_init_57 : decode cX3_init 57 = .ok (.bipush 42, 2) := by decide +kernel
theorem dX3_init_59 : decode cX3_init 59 = .ok (.invokespecial 31, 3) := by decide +kernel
theorem dX3_init_62 : decode cX3_init 62 = .ok (.putfield 38, 3) := by decide +kernel
theorem dX3_init_65 : decode cX3_init 65 = .ok (.return_, 1) := by decide +kernel
theorem dX3_sweepAhead_0 : decode cX3_sweepAhead 0 = .ok (.aload_n 1, 1) := by decide +kernel
theorem dX3_sweepAhead_1 : decode cX3_sweepAhead 1 = .ok (.getfield 41, 3) := by decide +kernel
theorem dX3_sweepAhead_4 : decode cX3_sweepAhead 4 = .ok (.aload_n 0, 1) := by decide +kernel
theorem dX3_sweepAhead_5 : decode cX3_sweepAhead 5 = .ok (.getfield 13, 3) := by decide +kernel
theorem dX3_sweepAhead_8 : decode cX3_sweepAhead 8 = .ok (.arraylength, 1) := by decide +kernel
theorem dX3_sweepAhead_9 : decode cX3_sweepAhead 9 = .ok (.invokestatic 47, 3) := by decide +kernel
theorem dX3_sweepAhead_12 : decode cX3_sweepAhead 12 = .ok (.istore 4, 2) := by decide +kernel
theorem dX3_sweepAhead_14 : decode cX3_sweepAhead 14 = .ok (.iconst 0, 1) := by decide +kernel
theorem dX3_sweepAhead_15 : decode cX3_sweepAhead 15 = .ok (.istore 5, 2) := by decide +kernel
theorem dX3_sweepAhead_17 : decode cX3_sweepAhead 17 = .ok (.iload 5, 2) := by decide +kernel
theorem dX3_sweepAhead_19 : decode cX3_sweepAhead 19 = .ok (.iload 4, 2) := by decide +kernel
theorem dX3_sweepAhead_21 : decode cX3_sweepAhead 21 = .ok (.if_icmp .ge 30, 3) := by decide +kernel
theorem dX3_sweepAhead_24 : decode cX3_sweepAhead 24 = .ok (.aload_n 0, 1) := by decide +kernel
theorem dX3_sweepAhead_25 : decode cX3_sweepAhead 25 = .ok (.getfield 13, 3) := by decide +kernel
theorem dX3_sweepAhead_28 : decode cX3_sweepAhead 28 = .ok (.iload 5, 2) := by decide +kernel
theorem dX3_sweepAhead_30 : decode cX3_sweepAhead 30 = .ok (.aaload, 1) := by decide +kernel
theorem dX3_sweepAhead_31 : decode cX3_sweepAhead 31 = .ok (.aload_n 1, 1) := by decide +kernel
theorem dX3_sweepAhead_32 : decode cX3_sweepAhead 32 = .ok (.iload 5, 2) := by decide +kernel
theorem dX3_sweepAhead_34 : decode cX3_sweepAhead 34 = .ok (.aload_n 2, 1) := by decide +kernel
theorem dX3_sweepAhead_35 : decode cX3_sweepAhead 35 = .ok (.iconst 0, 1) := by decide +kernel
theorem dX3_sweepAhead_36 : decode cX3_sweepAhead 36 = .ok (.invokevirtual 53, 3) := by decide +kernel
theorem dX3_sweepAhead_39 : decode cX3_sweepAhead 39 = .ok (.invokevirtual 59, 3) := by decide +kernel
theorem dX3_sweepAhead_42 : decode cX3_sweepAhead 42 = .ok (.invokevirtual 62, 3) := by decide +kernel
theorem dX3_sweepAhead_45 : decode cX3_sweepAhead 45 = .ok (.iinc 5 1, 3) := by decide +kernel
theorem dX3_sweepAhead_48 : decode cX3_sweepAhead 48 = .ok (.goto (-31), 3) := by decide +kernel
theorem dX3_sweepAhead_51 : decode cX3_sweepAhead 51 = .ok (.iconst 1, 1) := by decide +kernel
theorem dX3_sweepAhead_52 : decode cX3_sweepAhead 52 = .ok (.istore 5, 2) := by decide +kernel
theorem dX3_sweepAhead_54 : decode cX3_sweepAhead 54 = .ok (.iload 5, 2) := by decide +kernel
theorem dX3_sweepAhead_56 : decode cX3_sweepAhead 56 = .ok (.iload_n 3, 1) := by decide +kernel
theorem dX3_sweepAhead_57 : decode cX3_sweepAhead 57 = .ok (.if_icmp .gt 102, 3) := by decide +kernel
theorem dX3_sweepAhead_60 : decode cX3_sweepAhead 60 = .ok (.iconst 0, 1) := by decide +kernel
theorem dX3_sweepAhead_61 : decode cX3_sweepAhead 61 = .ok (.istore 6, 2) := by decide +kernel
theorem dX3_sweepAhead_63 : decode cX3_sweepAhead 63 = .ok (.iload 6, 2) := by decide +kernel
theorem dX3_sweepAhead_65 : decode cX3_sweepAhead 65 = .ok (.iload 4, 2) := by decide +kernel
theorem dX3_sweepAhead_67 : decode cX3_sweepAhead 67 = .ok (.if_icmp .ge 66, 3) := by decide +kernel
theorem dX3_sweepAhead_70 : decode cX3_sweepAhead 70 = .ok (.iconst 0, 1) := by decide +kernel
theorem dX3_sweepAhead_71 : decode cX3_sweepAhead 71 = .ok (.istore 7, 2) := by decide +kernel
theorem dX3_sweepAhead_73 : decode cX3_sweepAhead 73 = .ok (.iload 7, 2) := by decide +kernel
theorem dX3_sweepAhead_75 : decode cX3_sweepAhead 75 = .ok (.iload 4, 2) := by decide +kernel
theorem dX3_sweepAhead_77 : decode cX3_sweepAhead 77 = .ok (.if_icmp .ge 30, 3) := by decide +kernel
theorem dX3_sweepAhead_80 : decode cX3_sweepAhead 80 = .ok (.aload_n 0, 1) := by decide +kernel
theorem dX3_sweepAhead_81 : decode cX3_sweepAhead 81 = .ok (.getfield 25, 3) := by decide +kernel
theorem dX3_sweepAhead_84 : decode cX3_sweepAhead 84 = .ok (.iload 7, 2) := by decide +kernel
theorem dX3_sweepAhead_86 : decode cX3_sweepAhead 86 = .ok (.aload_n 1, 1) := by decide +kernel
theorem dX3_sweepAhead_87 : decode cX3_sweepAhead 87 = .ok (.iload 7, 2) := by decide +kernel
theorem dX3_sweepAhead_89 : decode cX3_sweepAhead 89 = .ok (.iload 6, 2) := by decide +kernel
theorem dX3_sweepAhead_91 : decode cX3_sweepAhead 91 = .ok (.aload_n 2, 1) := by decide +kernel
theorem dX3_sweepAhead_92 : decode cX3_sweepAhead 92 = .ok (.iload 5, 2) := by decide +kernel
theorem dX3_sweepAhead_94 : decode cX3_sweepAhead 94 = .ok (.invokevirtual 53, 3) := by decide +kernel
theorem dX3_sweepAhead_97 : decode cX3_sweepAhead 97 = .ok (.invokevirtual 65, 3) := by decide +kernel
theorem dX3_sweepAhead_100 : decode cX3_sweepAhead 100 = .ok (.lastore, 1) := by decide +kernel
theorem dX3_sweepAhead_101 : decode cX3_sweepAhead 101 = .ok (.iinc 7 1, 3) := by decide +kernel
theorem dX3_sweepAhead_104 : decode cX3_sweepAhead 104 = .ok (.goto (-31), 3) := by decide +kernel
theorem dX3_sweepAhead_107 : decode cX3_sweepAhead 107 = .ok (.aload_n 0, 1) := by decide +kernel
theorem dX3_sweepAhead_108 : decode cX3_sweepAhead 108 = .ok (.getfield 22, 3) := by decide +kernel
theorem dX3_sweepAhead_111 : decode cX3_sweepAhead 111 = .ok (.iload 6, 2) := by decide +kernel
theorem dX3_sweepAhead_113 : decode cX3_sweepAhead 113 = .ok (.aaload, 1) := by decide +kernel
theorem dX3_sweepAhead_114 : decode cX3_sweepAhead 114 = .ok (.aload_n 0, 1) := by decide +kernel
theorem dX3_sweepAhead_115 : decode cX3_sweepAhead 115 = .ok (.getfield 13, 3) := by decide +kernel
theorem dX3_sweepAhead_118 : decode cX3_sweepAhead 118 = .ok (.aload_n 0, 1) := by decide +kernel
theorem dX3_sweepAhead_119 : decode cX3_sweepAhead 119 = .ok (.getfield 25, 3) := by decide +kernel
theorem dX3_sweepAhead_122 : decode cX3_sweepAhead 122 = .ok (.iload 4, 2) := by decide +kernel
theorem dX3_sweepAhead_124 : decode cX3_sweepAhead 124 = .ok (.invokevirtual 69, 3) := by decide +kernel
theorem dX3_sweepAhead_127 : decode cX3_sweepAhead 127 = .ok (.iinc 6 1, 3) := by decide +kernel
theorem dX3_sweepAhead_130 : decode cX3_sweepAhead 130 = .ok (.goto (-67), 3) := by decide +kernel
theorem dX3_sweepAhead_133 : decode cX3_sweepAhead 133 = .ok (.aload_n 0, 1) := by decide +kernel
theorem dX3_sweepAhead_134 : decode cX3_sweepAhead 134 = .ok (.getfield 13, 3) := by decide +kernel
theorem dX3_sweepAhead_137 : decode cX3_sweepAhead 137 = .ok (.astore 6, 2) := by decide +kernel
theorem dX3_sweepAhead_139 : decode cX3_sweepAhead 139 = .ok (.aload_n 0, 1) := by decide +kernel
theorem dX3_sweepAhead_140 : decode cX3_sweepAhead 140 = .ok (.aload_n 0, 1) := by decide +kernel
theorem dX3_sweepAhead_141 : decode cX3_sweepAhead 141 = .ok (.getfield 22, 3) := by decide +kernel
theorem dX3_sweepAhead_144 : decode cX3_sweepAhead 144 = .ok (.putfield 13, 3) := by decide +kernel
theorem dX3_sweepAhead_147 : decode cX3_sweepAhead 147 = .ok (.aload_n 0, 1) := by decide +kernel
theorem dX3_sweepAhead_148 : decode cX3_sweepAhead 148 = .ok (.aload 6, 2) := by decide +kernel
theorem dX3_sweepAhead_150 : decode cX3_sweepAhead 150 = .ok (.putfield 22, 3) := by decide +kernel
theorem dX3_sweepAhead_153 : decode cX3_sweepAhead 153 = .ok (.iinc 5 1, 3) := by decide +kernel
theorem dX3_sweepAhead_156 : decode cX3_sweepAhead 156 = .ok (.goto (-102), 3) := by decide +kernel
theorem dX3_sweepAhead_159 : decode cX3_sweepAhead 159 = .ok (.return_, 1) := by decide +kernel
theorem dX3_sweepBehind_0 : decode cX3_sweepBehind 0 = .ok (.aload_n 1, 1) := by decide +kernel
theorem dX3_sweepBehind_1 : decode cX3_sweepBehind 1 = .ok (.getfield 41, 3) := by decide +kernel
theorem dX3_sweepBehind_4 : decode cX3_sweepBehind 4 = .ok (.aload_n 0, 1) := by decide +kernel
theorem dX3_sweepBehind_5 : decode cX3_sweepBehind 5 = .ok (.getfield 19, 3) := by decide +kernel
theorem dX3_sweepBehind_8 : decode cX3_sweepBehind 8 = .ok (.arraylength, 1) := by decide +kernel
theorem dX3_sweepBehind_9 : decode cX3_sweepBehind 9 = .ok (.invokestatic 47, 3) := by decide +kernel
theorem dX3_sweepBehind_12 : decode cX3_sweepBehind 12 = .ok (.istore 4, 2) := by decide +kernel
theorem dX3_sweepBehind_14 : decode cX3_sweepBehind 14 = .ok (.iconst 0, 1) := by decide +kernel
theorem dX3_sweepBehind_15 : decode cX3_sweepBehind 15 = .ok (.istore 5, 2) := by decide +kernel
theorem dX3_sweepBehind_17 : decode cX3_sweepBehind 17 = .ok (.iload 5, 2) := by decide +kernel
theorem dX3_sweepBehind_19 : decode cX3_sweepBehind 19 = .ok (.iload 4, 2) := by decide +kernel
theorem dX3_sweepBehind_21 : decode cX3_sweepBehind 21 = .ok (.if_icmp .ge 20, 3) := by decide +kernel
theorem dX3_sweepBehind_24 : decode cX3_sweepBehind 24 = .ok (.aload_n 0, 1) := by decide +kernel
theorem dX3_sweepBehind_25 : decode cX3_sweepBehind 25 = .ok (.getfield 19, 3) := by decide +kernel
theorem dX3_sweepBehind_28 : decode cX3_sweepBehind 28 = .ok (.iload 5, 2) := by decide +kernel
theorem dX3_sweepBehind_30 : decode cX3_sweepBehind 30 = .ok (.aaload, 1) := by decide +kernel
theorem dX3_sweepBehind_31 : decode cX3_sweepBehind 31 = .ok (.iconst 1, 1) := by decide +kernel
theorem dX3_sweepBehind_32 : decode cX3_sweepBehind 32 = .ok (.invokevirtual 62, 3) := by decide +kernel
theorem dX3_sweepBehind_35 : decode cX3_sweepBehind 35 = .ok (.iinc 5 1, 3) := by decide +kernel
theorem dX3_sweepBehind_38 : decode cX3_sweepBehind 38 = .ok (.goto (-21), 3) := by decide +kernel
theorem dX3_sweepBehind_41 : decode cX3_sweepBehind 41 = .ok (.aload_n 2, 1) := by decide +kernel
theorem dX3_sweepBehind_42 : decode cX3_sweepBehind 42 = .ok (.invokevirtual 73, 3) := by decide +kernel
theorem dX3_sweepBehind_45 : decode cX3_sweepBehind 45 = .ok (.iconst 1, 1) := by decide +kernel
theorem dX3_sweepBehind_46 : decode cX3_sweepBehind 46 = .ok (.isub, 1) := by decide +kernel
theorem dX3_sweepBehind_47 : decode cX3_sweepBehind 47 = .ok (.istore 5, 2) := by decide +kernel
theorem dX3_sweepBehind_49 : decode cX3_sweepBehind 49 = .ok (.iload 5, 2) := by decide +kernel
theorem dX3_sweepBehind_51 : decode cX3_sweepBehind 51 = .ok (.iload_n 3, 1) := by decide +kernel
theorem dX3_sweepBehind_52 : decode cX3_sweepBehind 52 = .ok (.if_icmp .le 102, 3) := by decide +kernel
theorem dX3_sweepBehind_55 : decode cX3_sweepBehind 55 = .ok (.iconst 0, 1) := by decide +kernel
theorem dX3_sweepBehind_56 : decode cX3_sweepBehind 56 = .ok (.istore 6, 2) := by decide +kernel
theorem dX3_sweepBehind_58 : decode cX3_sweepBehind 58 = .ok (.iload 6, 2) := by decide +kernel
theorem dX3_sweepBehind_60 : decode cX3_sweepBehind 60 = .ok (.iload 4, 2) := by decide +kernel
theorem dX3_sweepBehind_62 : decode cX3_sweepBehind 62 = .ok (.if_icmp .ge 66, 3) := by decide +kernel
theorem dX3_sweepBehind_65 : decode cX3_sweepBehind 65 = .ok (.iconst 0, 1) := by decide +kernel
theorem dX3_sweepBehind_66 : decode cX3_sweepBehind 66 = .ok (.istore 7, 2) := by decide +kernel
theorem dX3_sweepBehind_68 : decode cX3_sweepBehind 68 = .ok (.iload 7, 2) := by decide +kernel
theorem dX3_sweepBehind_70 : decode cX3_sweepBehind 70 = .ok (.iload 4, 2) := by decide +kernel
theorem dX3_sweepBehind_72 : decode cX3_sweepBehind 72 = .ok (.if_icmp .ge 30, 3) := by decide +kernel
theorem dX3_sweepBehind_75 : decode cX3_sweepBehind 75 = .ok (.aload_n 0, 1) := by decide +kernel
theorem dX3_sweepBehind_76 : decode cX3_sweepBehind 76 = .ok (.getfield 25, 3) := by decide +kernel
theorem dX3_sweepBehind_79 : decode cX3_sweepBehind 79 = .ok (.iload 7, 2) := by decide +kernel
theorem dX3_sweepBehind_81 : decode cX3_sweepBehind 81 = .ok (.aload_n 1, 1) := by decide +kernel
theorem dX3_sweepBehind_82 : decode cX3_sweepBehind 82 = .ok (.iload 6, 2) := by decide +kernel
theorem dX3_sweepBehind_84 : decode cX3_sweepBehind 84 = .ok (.iload 7, 2) := by decide +kernel
theorem dX3_sweepBehind_86 : decode cX3_sweepBehind 86 = .ok (.aload_n 2, 1) := by decide +kernel
theorem dX3_sweepBehind_87 : decode cX3_sweepBehind 87 = .ok (.iload 5, 2) := by decide +kernel
theorem dX3_sweepBehind_89 : decode cX3_sweepBehind 89 = .ok (.invokevirtual 53, 3) := by decide +kernel
theorem dX3_sweepBehind_92 : decode cX3_sweepBehind 92 = .ok (.invokevirtual 65, 3) := by decide +kernel
theorem dX3_sweepBehind_95 : decode cX3_sweepBehind 95 = .ok (.lastore, 1) := by decide +kernel
theorem dX3_sweepBehind_96 : decode cX3_sweepBehind 96 = .ok (.iinc 7 1, 3) := by decide +kernel
theorem dX3_sweepBehind_99 : decode cX3_sweepBehind 99 = .ok (.goto (-31), 3) := by decide +kernel
theorem dX3_sweepBehind_102 : decode cX3_sweepBehind 102 = .ok (.aload_n 0, 1) := by decide +kernel
theorem dX3_sweepBehind_103 : decode cX3_sweepBehind 103 = .ok (.getfield 22, 3) := by decide +kernel
theorem dX3_sweepBehind_106 : decode cX3_sweepBehind 106 = .ok (.iload 6, 2) := by decide +kernel
theorem dX3_sweepBehind_108 : decode cX3_sweepBehind 108 = .ok (.aaload, 1) := by decide +kernel
theorem dX3_sweepBehind_109 : decode cX3_sweepBehind 109 = .ok (.aload_n 0, 1) := by decide +kernel
theorem dX3_sweepBehind_110 : decode cX3_sweepBehind 110 = .ok (.getfield 19, 3) := by decide +kernel
theorem dX3_sweepBehind_113 : decode cX3_sweepBehind 113 = .ok (.aload_n 0, 1) := by decide +kernel
theorem dX3_sweepBehind_114 : decode cX3_sweepBehind 114 = .ok (.getfield 25, 3) := by decide +kernel
theorem dX3_sweepBehind_117 : decode cX3_sweepBehind 117 = .ok (.iload 4, 2) := by decide +kernel
theorem dX3_sweepBehind_119 : decode cX3_sweepBehind 119 = .ok (.invokevirtual 69, 3) := by decide +kernel
theorem dX3_sweepBehind_122 : decode cX3_sweepBehind 122 = .ok (.iinc 6 1, 3) := by decide +kernel
theorem dX3_sweepBehind_125 : decode cX3_sweepBehind 125 = .ok (.goto (-67), 3) := by decide +kernel
theorem dX3_sweepBehind_128 : decode cX3_sweepBehind 128 = .ok (.aload_n 0, 1) := by decide +kernel
theorem dX3_sweepBehind_129 : decode cX3_sweepBehind 129 = .ok (.getfield 19, 3) := by decide +kernel
theorem dX3_sweepBehind_132 : decode cX3_sweepBehind 132 = .ok (.astore 6, 2) := by decide +kernel
theorem dX3_sweepBehind_134 : decode cX3_sweepBehind 134 = .ok (.aload_n 0, 1) := by decide +kernel
theorem dX3_sweepBehind_135 : decode cX3_sweepBehind 135 = .ok (.aload_n 0, 1) := by decide +kernel
theorem dX3_sweepBehind_136 : decode cX3_sweepBehind 136 = .ok (.getfield 22, 3) := by decide +kernel
theorem dX3_sweepBehind_139 : decode cX3_sweepBehind 139 = .ok (.putfield 19, 3) := by decide +kernel
theorem dX3_sweepBehind_142 : decode cX3_sweepBehind 142 = .ok (.aload_n 0, 1) := by decide +kernel
theorem dX3_sweepBehind_143 : decode cX3_sweepBehind 143 = .ok (.aload 6, 2) := by decide +kernel
theorem dX3_sweepBehind_145 : decode cX3_sweepBehind 145 = .ok (.putfield 22, 3) := by decide +kernel
theorem dX3_sweepBehind_148 : decode cX3_sweepBehind 148 = .ok (.iinc 5 (-1), 3) := by decide +kernel
theorem dX3_sweepBehind_151 : decode cX3_sweepBehind 151 = .ok (.goto (-102), 3) := by decide +kernel
theorem dX3_sweepBehind_154 : decode cX3_sweepBehind 154 = .ok (.return_, 1) := by decide +kernel
theorem dX3_putChance_0 : decode cX3_putChance 0 = .ok (.aload_n 0, 1) := by decide +kernel
theorem dX3_putChance_1 : decode cX3_putChance 1 = .ok (.aload_n 2, 1) := by decide +kernel
theorem dX3_putChance_2 : decode cX3_putChance 2 = .ok (.aload_n 3, 1) := by decide +kernel
theorem dX3_putChance_3 : decode cX3_putChance 3 = .ok (.aload_n 3, 1) := by decide +kernel
theorem dX3_putChance_4 : decode cX3_putChance 4 = .ok (.invokevirtual 73, 3) := by decide +kernel
theorem dX3_putChance_7 : decode cX3_putChance 7 = .ok (.iconst 1, 1) := by decide +kernel
theorem dX3_putChance_8 : decode cX3_putChance 8 = .ok (.isub, 1) := by decide +kernel
theorem dX3_putChance_9 : decode cX3_putChance 9 = .ok (.invokevirtual 77, 3) := by decide +kernel
theorem dX3_putChance_12 : decode cX3_putChance 12 = .ok (.iconst 0, 1) := by decide +kernel
theorem dX3_putChance_13 : decode cX3_putChance 13 = .ok (.istore 4, 2) := by decide +kernel
theorem dX3_putChance_15 : decode cX3_putChance 15 = .ok (.iload 4, 2) := by decide +kernel
theorem dX3_putChance_17 : decode cX3_putChance 17 = .ok (.aload_n 0, 1) := by decide +kernel
theorem dX3_putChance_18 : decode cX3_putChance 18 = .ok (.getfield 25, 3) := by decide +kernel
theorem dX3_putChance_21 : decode cX3_putChance 21 = .ok (.arraylength, 1) := by decide +kernel
theorem dX3_putChance_22 : decode cX3_putChance 22 = .ok (.if_icmp .ge 17, 3) := by decide +kernel
theorem dX3_putChance_25 : decode cX3_putChance 25 = .ok (.aload_n 0, 1) := by decide +kernel
theorem dX3_putChance_26 : decode cX3_putChance 26 = .ok (.getfield 25, 3) := by decide +kernel
theorem dX3_putChance_29 : decode cX3_putChance 29 = .ok (.iload 4, 2) := by decide +kernel
theorem dX3_putChance_31 : decode cX3_putChance 31 = .ok (.lconst 1, 1) := by decide +kernel
theorem dX3_putChance_32 : decode cX3_putChance 32 = .ok (.lastore, 1) := by decide +kernel
theorem dX3_putChance_33 : decode cX3_putChance 33 = .ok (.iinc 4 1, 3) := by decide +kernel
theorem dX3_putChance_36 : decode cX3_putChance 36 = .ok (.goto (-21), 3) := by decide +kernel
theorem dX3_putChance_39 : decode cX3_putChance 39 = .ok (.aload_n 1, 1) := by decide +kernel
theorem dX3_putChance_40 : decode cX3_putChance 40 = .ok (.aload_n 0, 1) := by decide +kernel
theorem dX3_putChance_41 : decode cX3_putChance 41 = .ok (.getfield 13, 3) := by decide +kernel
theorem dX3_putChance_44 : decode cX3_putChance 44 = .ok (.aload_n 0, 1) := by decide +kernel
theorem dX3_putChance_45 : decode cX3_putChance 45 = .ok (.getfield 25, 3) := by decide +kernel
theorem dX3_putChance_48 : decode cX3_putChance 48 = .ok (.aload_n 2, 1) := by decide +kernel
theorem dX3_putChance_49 : decode cX3_putChance 49 = .ok (.getfield 41, 3) := by decide +kernel
theorem dX3_putChance_52 : decode cX3_putChance 52 = .ok (.invokevirtual 69, 3) := by decide +kernel
theorem dX3_putChance_55 : decode cX3_putChance 55 = .ok (.return_, 1) := by decide +kernel
theorem dX3_putAhead_0 : decode cX3_putAhead 0 = .ok (.aload_n 0, 1) := by decide +kernel
theorem dX3_putAhead_1 : decode cX3_putAhead 1 = .ok (.aload_n 2, 1) := by decide +kernel
theorem dX3_putAhead_2 : decode cX3_putAhead 2 = .ok (.aload_n 3, 1) := by decide +kernel
theorem dX3_putAhead_3 : decode cX3_putAhead 3 = .ok (.iload 4, 2) := by decide +kernel
theorem dX3_putAhead_5 : decode cX3_putAhead 5 = .ok (.invokevirtual 77, 3) := by decide +kernel
theorem dX3_putAhead_8 : decode cX3_putAhead 8 = .ok (.iload 5, 2) := by decide +kernel
theorem dX3_putAhead_10 : decode cX3_putAhead 10 = .ok (.ifCond .lt 24, 3) := by decide +kernel
theorem dX3_putAhead_13 : decode cX3_putAhead 13 = .ok (.iload 5, 2) := by decide +kernel
theorem dX3_putAhead_15 : decode cX3_putAhead 15 = .ok (.aload_n 0, 1) := by decide +kernel
theorem dX3_putAhead_16 : decode cX3_putAhead 16 = .ok (.getfield 13, 3) := by decide +kernel
theorem dX3_putAhead_19 : decode cX3_putAhead 19 = .ok (.arraylength, 1) := by decide +kernel
theorem dX3_putAhead_20 : decode cX3_putAhead 20 = .ok (.if_icmp .ge 14, 3) := by decide +kernel
theorem dX3_putAhead_23 : decode cX3_putAhead 23 = .ok (.aload_n 1, 1) := by decide +kernel
theorem dX3_putAhead_24 : decode cX3_putAhead 24 = .ok (.aload_n 0, 1) := by decide +kernel
theorem dX3_putAhead_25 : decode cX3_putAhead 25 = .ok (.getfield 13, 3) := by decide +kernel
theorem dX3_putAhead_28 : decode cX3_putAhead 28 = .ok (.iload 5, 2) := by decide +kernel
theorem dX3_putAhead_30 : decode cX3_putAhead 30 = .ok (.aaload, 1) := by decide +kernel
theorem dX3_putAhead_31 : decode cX3_putAhead 31 = .ok (.invokevirtual 81, 3) := by decide +kernel
theorem dX3_putAhead_34 : decode cX3_putAhead 34 = .ok (.return_, 1) := by decide +kernel
theorem dX3_putBehind_0 : decode cX3_putBehind 0 = .ok (.aload_n 0, 1) := by decide +kernel
theorem dX3_putBehind_1 : decode cX3_putBehind 1 = .ok (.aload_n 2, 1) := by decide +kernel
theorem dX3_putBehind_2 : decode cX3_putBehind 2 = .ok (.aload_n 3, 1) := by decide +kernel
theorem dX3_putBehind_3 : decode cX3_putBehind 3 = .ok (.iload 4, 2) := by decide +kernel
theorem dX3_putBehind_5 : decode cX3_putBehind 5 = .ok (.invokevirtual 85, 3) := by decide +kernel
theorem dX3_putBehind_8 : decode cX3_putBehind 8 = .ok (.iload 5, 2) := by decide +kernel
theorem dX3_putBehind_10 : decode cX3_putBehind 10 = .ok (.ifCond .lt 24, 3) := by decide +kernel
theorem dX3_putBehind_13 : decode cX3_putBehind 13 = .ok (.iload 5, 2) := by decide +kernel
theorem dX3_putBehind_15 : decode cX3_putBehind 15 = .ok (.aload_n 0, 1) := by decide +kernel
theorem dX3_putBehind_16 : decode cX3_putBehind 16 = .ok (.getfield 19, 3) := by decide +kernel
theorem dX3_putBehind_19 : decode cX3_putBehind 19 = .ok (.arraylength, 1) := by decide +kernel
theorem dX3_putBehind_20 : decode cX3_putBehind 20 = .ok (.if_icmp .ge 14, 3) := by decide +kernel
theorem dX3_putBehind_23 : decode cX3_putBehind 23 = .ok (.aload_n 1, 1) := by decide +kernel
theorem dX3_putBehind_24 : decode cX3_putBehind 24 = .ok (.aload_n 0, 1) := by decide +kernel
theorem dX3_putBehind_25 : decode cX3_putBehind 25 = .ok (.getfield 19, 3) := by decide +kernel
theorem dX3_putBehind_28 : decode cX3_putBehind 28 = .ok (.iload 5, 2) := by decide +kernel
theorem dX3_putBehind_30 : decode cX3_putBehind 30 = .ok (.aaload, 1) := by decide +kernel
theorem dX3_putBehind_31 : decode cX3_putBehind 31 = .ok (.invokevirtual 81, 3) := by decide +kernel
theorem dX3_putBehind_34 : decode cX3_putBehind 34 = .ok (.return_, 1) := by decide +kernel
theorem dX3_putBoth_0 : decode cX3_putBoth 0 = .ok (.aload_n 0, 1) := by decide +kernel
theorem dX3_putBoth_1 : decode cX3_putBoth 1 = .ok (.aload_n 2, 1) := by decide +kernel
theorem dX3_putBoth_2 : decode cX3_putBoth 2 = .ok (.aload_n 3, 1) := by decide +kernel
theorem dX3_putBoth_3 : decode cX3_putBoth 3 = .ok (.iload 4, 2) := by decide +kernel
theorem dX3_putBoth_5 : decode cX3_putBoth 5 = .ok (.invokevirtual 77, 3) := by decide +kernel
theorem dX3_putBoth_8 : decode cX3_putBoth 8 = .ok (.aload_n 0, 1) := by decide +kernel
theorem dX3_putBoth_9 : decode cX3_putBoth 9 = .ok (.aload_n 2, 1) := by decide +kernel
theorem dX3_putBoth_10 : decode cX3_putBoth 10 = .ok (.aload_n 3, 1) := by decide +kernel
theorem dX3_putBoth_11 : decode cX3_putBoth 11 = .ok (.iload 4, 2) := by decide +kernel
theorem dX3_putBoth_13 : decode cX3_putBoth 13 = .ok (.invokevirtual 85, 3) := by decide +kernel
theorem dX3_putBoth_16 : decode cX3_putBoth 16 = .ok (.iload 5, 2) := by decide +kernel
theorem dX3_putBoth_18 : decode cX3_putBoth 18 = .ok (.ifCond .lt 41, 3) := by decide +kernel
theorem dX3_putBoth_21 : decode cX3_putBoth 21 = .ok (.iload 5, 2) := by decide +kernel
theorem dX3_putBoth_23 : decode cX3_putBoth 23 = .ok (.aload_n 0, 1) := by decide +kernel
theorem dX3_putBoth_24 : decode cX3_putBoth 24 = .ok (.getfield 13, 3) := by decide +kernel
theorem dX3_putBoth_27 : decode cX3_putBoth 27 = .ok (.arraylength, 1) := by decide +kernel
theorem dX3_putBoth_28 : decode cX3_putBoth 28 = .ok (.if_icmp .ge 31, 3) := by decide +kernel
theorem dX3_putBoth_31 : decode cX3_putBoth 31 = .ok (.iload 5, 2) := by decide +kernel
theorem dX3_putBoth_33 : decode cX3_putBoth 33 = .ok (.aload_n 0, 1) := by decide +kernel
theorem dX3_putBoth_34 : decode cX3_putBoth 34 = .ok (.getfield 19, 3) := by decide +kernel
theorem dX3_putBoth_37 : decode cX3_putBoth 37 = .ok (.arraylength, 1) := by decide +kernel
theorem dX3_putBoth_38 : decode cX3_putBoth 38 = .ok (.if_icmp .ge 21, 3) := by decide +kernel
theorem dX3_putBoth_41 : decode cX3_putBoth 41 = .ok (.aload_n 1, 1) := by decide +kernel
theorem dX3_putBoth_42 : decode cX3_putBoth 42 = .ok (.aload_n 0, 1) := by decide +kernel
theorem dX3_putBoth_43 : decode cX3_putBoth 43 = .ok (.getfield 13, 3) := by decide +kernel
theorem dX3_putBoth_46 : decode cX3_putBoth 46 = .ok (.iload 5, 2) := by decide +kernel
theorem dX3_putBoth_48 : decode cX3_putBoth 48 = .ok (.aaload, 1) := by decide +kernel
theorem dX3_putBoth_49 : decode cX3_putBoth 49 = .ok (.aload_n 0, 1) := by decide +kernel
theorem dX3_putBoth_50 : decode cX3_putBoth 50 = .ok (.getfield 19, 3) := by decide +kernel
theorem dX3_putBoth_53 : decode cX3_putBoth 53 = .ok (.iload 5, 2) := by decide +kernel
theorem dX3_putBoth_55 : decode cX3_putBoth 55 = .ok (.aaload, 1) := by decide +kernel
theorem dX3_putBoth_56 : decode cX3_putBoth 56 = .ok (.invokevirtual 88, 3) := by decide +kernel
theorem dX3_putBoth_59 : decode cX3_putBoth 59 = .ok (.return_, 1) := by decide +kernel
theorem dX3_likeliestState_0 : decode cX3_likeliestState 0 = .ok (.aload_n 1, 1) := by decide +kernel
theorem dX3_likeliestState_1 : decode cX3_likeliestState 1 = .ok (.getfield 41, 3) := by decide +kernel
theorem dX3_likeliestState_4 : decode cX3_likeliestState 4 = .ok (.aload_n 0, 1) := by decide +kernel
theorem dX3_likeliestState_5 : decode cX3_likeliestState 5 = .ok (.getfield 13, 3) := by decide +kernel
theorem dX3_likeliestState_8 : decode cX3_likeliestState 8 = .ok (.arraylength, 1) := by decide +kernel
theorem dX3_likeliestState_9 : decode cX3_likeliestState 9 = .ok (.invokestatic 47, 3) := by decide +kernel
theorem dX3_likeliestState_12 : decode cX3_likeliestState 12 = .ok (.istore 4, 2) := by decide +kernel
theorem dX3_likeliestState_14 : decode cX3_likeliestState 14 = .ok (.iconst (-1), 1) := by decide +kernel
theorem dX3_likeliestState_15 : decode cX3_likeliestState 15 = .ok (.istore 5, 2) := by decide +kernel
theorem dX3_likeliestState_17 : decode cX3_likeliestState 17 = .ok (.aload_n 0, 1) := by decide +kernel
theorem dX3_likeliestState_18 : decode cX3_likeliestState 18 = .ok (.getfield 38, 3) := by decide +kernel
theorem dX3_likeliestState_21 : decode cX3_likeliestState 21 = .ok (.iconst 0, 1) := by decide +kernel
theorem dX3_likeliestState_22 : decode cX3_likeliestState 22 = .ok (.invokevirtual 62, 3) := by decide +kernel
theorem dX3_likeliestState_25 : decode cX3_likeliestState 25 = .ok (.aload_n 0, 1) := by decide +kernel
theorem dX3_likeliestState_26 : decode cX3_likeliestState 26 = .ok (.aload_n 1, 1) := by decide +kernel
theorem dX3_likeliestState_27 : decode cX3_likeliestState 27 = .ok (.aload_n 2, 1) := by decide +kernel
theorem dX3_likeliestState_28 : decode cX3_likeliestState 28 = .ok (.iload_n 3, 1) := by decide +kernel
theorem dX3_likeliestState_29 : decode cX3_likeliestState 29 = .ok (.invokevirtual 77, 3) := by decide +kernel
theorem dX3_likeliestState_32 : decode cX3_likeliestState 32 = .ok (.aload_n 0, 1) := by decide +kernel
theorem dX3_likeliestState_33 : decode cX3_likeliestState 33 = .ok (.aload_n 1, 1) := by decide +kernel
theorem dX3_likeliestState_34 : decode cX3_likeliestState 34 = .ok (.aload_n 2, 1) := by decide +kernel
theorem dX3_likeliestState_35 : decode cX3_likeliestState 35 = .ok (.iload_n 3, 1) := by decide +kernel
theorem dX3_likeliestState_36 : decode cX3_likeliestState 36 = .ok (.invokevirtual 85, 3) := by decide +kernel
theorem dX3_likeliestState_39 : decode cX3_likeliestState 39 = .ok (.iconst 0, 1) := by decide +kernel
theorem dX3_likeliestState_40 : decode cX3_likeliestState 40 = .ok (.istore 6, 2) := by decide +kernel
theorem dX3_likeliestState_42 : decode cX3_likeliestState 42 = .ok (.iload 6, 2) := by decide +kernel
theorem dX3_likeliestState_44 : decode cX3_likeliestState 44 = .ok (.iload 4, 2) := by decide +kernel
theorem dX3_likeliestState_46 : decode cX3_likeliestState 46 = .ok (.if_icmp .ge 59, 3) := by decide +kernel
theorem dX3_likeliestState_49 : decode cX3_likeliestState 49 = .ok (.aload_n 0, 1) := by decide +kernel
theorem dX3_likeliestState_50 : decode cX3_likeliestState 50 = .ok (.getfield 34, 3) := by decide +kernel
theorem dX3_likeliestState_53 : decode cX3_likeliestState 53 = .ok (.aload_n 0, 1) := by decide +kernel
theorem dX3_likeliestState_54 : decode cX3_likeliestState 54 = .ok (.getfield 13, 3) := by decide +kernel
theorem dX3_likeliestState_57 : decode cX3_likeliestState 57 = .ok (.iload 6, 2) := by decide +kernel
theorem dX3_likeliestState_59 : decode cX3_likeliestState 59 = .ok (.aaload, 1) := by decide +kernel
theorem dX3_likeliestState_60 : decode cX3_likeliestState 60 = .ok (.aload_n 0, 1) := by decide +kernel
theorem dX3_likeliestState_61 : decode cX3_likeliestState 61 = .ok (.getfield 19, 3) := by decide +kernel
theorem dX3_likeliestState_64 : decode cX3_likeliestState 64 = .ok (.iload 6, 2) := by decide +kernel
theorem dX3_likeliestState_66 : decode cX3_likeliestState 66 = .ok (.aaload, 1) := by decide +kernel
theorem dX3_likeliestState_67 : decode cX3_likeliestState 67 = .ok (.invokevirtual 88, 3) := by decide +kernel
theorem dX3_likeliestState_70 : decode cX3_likeliestState 70 = .ok (.aload_n 0, 1) := by decide +kernel
theorem dX3_likeliestState_71 : decode cX3_likeliestState 71 = .ok (.getfield 34, 3) := by decide +kernel
theorem dX3_likeliestState_74 : decode cX3_likeliestState 74 = .ok (.aload_n 0, 1) := by decide +kernel
theorem dX3_likeliestState_75 : decode cX3_likeliestState 75 = .ok (.getfield 38, 3) := by decide +kernel
theorem dX3_likeliestState_78 : decode cX3_likeliestState 78 = .ok (.invokevirtual 92, 3) := by decide +kernel
theorem dX3_likeliestState_81 : decode cX3_likeliestState 81 = .ok (.ifCond .le 18, 3) := by decide +kernel
theorem dX3_likeliestState_84 : decode cX3_likeliestState 84 = .ok (.aload_n 0, 1) := by decide +kernel
theorem dX3_likeliestState_85 : decode cX3_likeliestState 85 = .ok (.getfield 38, 3) := by decide +kernel
theorem dX3_likeliestState_88 : decode cX3_likeliestState 88 = .ok (.aload_n 0, 1) := by decide +kernel
theorem dX3_likeliestState_89 : decode cX3_likeliestState 89 = .ok (.getfield 34, 3) := by decide +kernel
theorem dX3_likeliestState_92 : decode cX3_likeliestState 92 = .ok (.invokevirtual 81, 3) := by decide +kernel
theorem dX3_likeliestState_95 : decode cX3_likeliestState 95 = .ok (.iload 6, 2) := by decide +kernel
theorem dX3_likeliestState_97 : decode cX3_likeliestState 97 = .ok (.istore 5, 2) := by decide +kernel
theorem dX3_likeliestState_99 : decode cX3_likeliestState 99 = .ok (.iinc 6 1, 3) := by decide +kernel
theorem dX3_likeliestState_102 : decode cX3_likeliestState 102 = .ok (.goto (-60), 3) := by decide +kernel
theorem dX3_likeliestState_105 : decode cX3_likeliestState 105 = .ok (.iload 5, 2) := by decide +kernel
theorem dX3_likeliestState_107 : decode cX3_likeliestState 107 = .ok (.ireturn, 1) := by decide +kernel
theorem dX1_init_0 : decode cX1_init 0 = .ok (.aload_n 0, 1) := by decide +kernel
theorem dX1_init_1 : decode cX1_init 1 = .ok (.invokespecial 3, 3) := by decide +kernel
theorem dX1_init_4 : decode cX1_init 4 = .ok (.aload_n 0, 1) := by decide +kernel
theorem dX1_init_5 : decode cX1_init 5 = .ok (.sipush 160, 3) := by decide +kernel
theorem dX1_init_8 : decode cX1_init 8 = .ok (.invokestatic 9, 3) := by decide +kernel
theorem dX1_init_11 : decode cX1_init 11 = .ok (.putfield 13, 3) := by decide +kernel
theorem dX1_init_14 : decode cX1_init 14 = .ok (.aload_n 0, 1) := by decide +kernel
theorem dX1_init_15 : decode cX1_init 15 = .ok (.bipush 8, 2) := by decide +kernel
theorem dX1_init_17 : decode cX1_init 17 = .ok (.newarray .int, 2) := by decide +kernel
theorem dX1_init_19 : decode cX1_init 19 = .ok (.putfield 19, 3) := by decide +kernel
theorem dX1_init_22 : decode cX1_init 22 = .ok (.aload_n 0, 1) := by decide +kernel
theorem dX1_init_23 : decode cX1_init 23 = .ok (.sipush 160, 3) := by decide +kernel
theorem dX1_init_26 : decode cX1_init 26 = .ok (.invokestatic 9, 3) := by decide +kernel
theorem dX1_init_29 : decode cX1_init 29 = .ok (.putfield 23, 3) := by decide +kernel
theorem dX1_init_32 : decode cX1_init 32 = .ok (.aload_n 0, 1) := by decide +kernel
theorem dX1_init_33 : decode cX1_init 33 = .ok (.bipush 8, 2) := by decide +kernel
theorem dX1_init_35 : decode cX1_init 35 = .ok (.newarray .int, 2) := by decide +kernel
theorem dX1_init_37 : decode cX1_init 37 = .ok (.putfield 26, 3) := by decide +kernel
theorem dX1_init_40 : decode cX1_init 40 = .ok (.aload_n 0, 1) := by decide +kernel
theorem dX1_init_41 : decode cX1_init 41 = .ok (.bipush 8, 2) := by decide +kernel
theorem dX1_init_43 : decode cX1_init 43 = .ok (.invokestatic 9, 3) := by decide +kernel
theorem dX1_init_46 : decode cX1_init 46 = .ok (.putfield 29, 3) := by decide +kernel
theorem dX1_init_49 : decode cX1_init 49 = .ok (.aload_n 0, 1) := by decide +kernel
theorem dX1_init_50 : decode cX1_init 50 = .ok (.bipush 8, 2) := by decide +kernel
theorem dX1_init_52 : decode cX1_init 52 = .ok (.newarray .int, 2) := by decide +kernel
theorem dX1_init_54 : decode cX1_init 54 = .ok (.putfield 32, 3) := by decide +kernel
theorem dX1_init_57 : decode cX1_init 57 = .ok (.aload_n 0, 1) := by decide +kernel
theorem dX1_init_58 : decode cX1_init 58 = .ok (.bipush 8, 2) := by decide +kernel
theorem dX1_init_60 : decode cX1_init 60 = .ok (.newarray .long, 2) := by decide +kernel
theorem dX1_init_62 : decode cX1_init 62 = .ok (.putfield 35, 3) := by decide +kernel
theorem dX1_init_65 : decode cX1_init 65 = .ok (.aload_n 0, 1) := by decide +kernel
theorem dX1_init_66 : decode cX1_init 66 = .ok (.sipush 9600, 3) := by decide +kernel
theorem dX1_init_69 : decode cX1_init 69 = .ok (.newarray .int, 2) := by decide +kernel
theorem dX1_init_71 : decode cX1_init 71 = .ok (.putfield 39, 3) := by decide +kernel
theorem dX1_init_74 : decode cX1_init 74 = .ok (.return_, 1) := by decide +kernel
theorem dX1_entry_0 : decode cX1_entry 0 = .ok (.iload_n 0, 1) := by decide +kernel
theorem dX1_entry_1 : decode cX1_entry 1 = .ok (.bipush 20, 2) := by decide +kernel
theorem dX1_entry_3 : decode cX1_entry 3 = .ok (.imul, 1) := by decide +kernel
theorem dX1_entry_4 : decode cX1_entry 4 = .ok (.iload_n 1, 1) := by decide +kernel
theorem dX1_entry_5 : decode cX1_entry 5 = .ok (.iadd, 1) := by decide +kernel
theorem dX1_entry_6 : decode cX1_entry 6 = .ok (.ireturn, 1) := by decide +kernel
theorem dX1_rankRows_0 : decode cX1_rankRows 0 = .ok (.aload_n 1, 1) := by decide +kernel
theorem dX1_rankRows_1 : decode cX1_rankRows 1 = .ok (.getfield 42, 3) := by decide +kernel
theorem dX1_rankRows_4 : decode cX1_rankRows 4 = .ok (.bipush 8, 2) := by decide +kernel
theorem dX1_rankRows_6 : decode cX1_rankRows 6 = .ok (.invokestatic 48, 3) := by decide +kernel
theorem dX1_rankRows_9 : decode cX1_rankRows 9 = .ok (.istore 4, 2) := by decide +kernel
theorem dX1_rankRows_11 : decode cX1_rankRows 11 = .ok (.iload_n 3, 1) := by decide +kernel
theorem dX1_rankRows_12 : decode cX1_rankRows 12 = .ok (.bipush 20, 2) := by decide +kernel
theorem dX1_rankRows_14 : decode cX1_rankRows 14 = .ok (.invokestatic 48, 3) := by decide +kernel
theorem dX1_rankRows_17 : decode cX1_rankRows 17 = .ok (.istore 5, 2) := by decide +kernel
theorem dX1_rankRows_19 : decode cX1_rankRows 19 = .ok (.iconst 0, 1) := by decide +kernel
theorem dX1_rankRows_20 : decode cX1_rankRows 20 = .ok (.istore 6, 2) := by decide +kernel
theorem dX1_rankRows_22 : decode cX1_rankRows 22 = .ok (.iload 6, 2) := by decide +kernel
theorem dX1_rankRows_24 : decode cX1_rankRows 24 = .ok (.iload 4, 2) := by decide +kernel
theorem dX1_rankRows_26 : decode cX1_rankRows 26 = .ok (.if_icmp .ge 32, 3) := by decide +kernel
theorem dX1_rankRows_29 : decode cX1_rankRows 29 = .ok (.aload_n 0, 1) := by decide +kernel
theorem dX1_rankRows_30 : decode cX1_rankRows 30 = .ok (.getfield 13, 3) := by decide +kernel
theorem dX1_rankRows_33 : decode cX1_rankRows 33 = .ok (.iload 6, 2) := by decide +kernel
theorem dX1_rankRows_35 : decode cX1_rankRows 35 = .ok (.iconst 0, 1) := by decide +kernel
theorem dX1_rankRows_36 : decode cX1_rankRows 36 = .ok (.invokestatic 54, 3) := by decide +kernel
theorem dX1_rankRows_39 : decode cX1_rankRows 39 = .ok (.aaload, 1) := by decide +kernel
theorem dX1_rankRows_40 : decode cX1_rankRows 40 = .ok (.iconst 1, 1) := by decide +kernel
theorem dX1_rankRows_41 : decode cX1_rankRows 41 = .ok (.invokevirtual 57, 3) := by decide +kernel
theorem dX1_rankRows_44 : decode cX1_rankRows 44 = .ok (.aload_n 0, 1) := by decide +kernel
theorem dX1_rankRows_45 : decode cX1_rankRows 45 = .ok (.getfield 19, 3) := by decide +kernel
theorem dX1_rankRows_48 : decode cX1_rankRows 48 = .ok (.iload 6, 2) := by decide +kernel
theorem dX1_rankRows_50 : decode cX1_rankRows 50 = .ok (.iconst 1, 1) := by decide +kernel
theorem dX1_rankRows_51 : decode cX1_rankRows 51 = .ok (.iastore, 1) := by decide +kernel
theorem dX1_rankRows_52 : decode cX1_rankRows 52 = .ok (.iinc 6 1, 3) := by decide +kernel
theorem dX1_rankRows_55 : decode cX1_rankRows 55 = .ok (.goto (-33), 3) := by decide +kernel
theorem dX1_rankRows_58 : decode cX1_rankRows 58 = .ok (.aload_n 2, 1) := by decide +kernel
theorem dX1_rankRows_59 : decode cX1_rankRows 59 = .ok (.invokevirtual 63, 3) := by decide +kernel
theorem dX1_rankRows_62 : decode cX1_rankRows 62 = .ok (.iconst 1, 1) := by decide +kernel
theorem dX1_rankRows_63 : decode cX1_rankRows 63 = .ok (.isub, 1) := by decide +kernel
theorem dX1_rankRows_64 : decode cX1_rankRows 64 = .ok (.istore 6, 2) := by decide +kernel
theorem dX1_rankRows_66 : decode cX1_rankRows 66 = .ok (.iload 6, 2) := by decide +kernel
theorem dX1_rankRows_68 : decode cX1_rankRows 68 = .ok (.ifCond .le 78, 3) := by decide +kernel
theorem dX1_rankRows_71 : decode cX1_rankRows 71 = .ok (.iconst 0, 1) := by decide +kernel
theorem dX1_rankRows_72 : decode cX1_rankRows 72 = .ok (.istore 7, 2) := by decide +kernel
theorem dX1_rankRows_74 : decode cX1_rankRows 74 = .ok (.iload 7, 2) := by decide +kernel
theorem dX1_rankRows_76 : decode cX1_rankRows 76 = .ok (.iload 4, 2) := by decide +kernel
theorem dX1_rankRows_78 : decode cX1_rankRows 78 = .ok (.if_icmp .ge 58, 3) := by decide +kernel
theorem dX1_rankRows_81 : decode cX1_rankRows 81 = .ok (.iconst 0, 1) := by decide +kernel
theorem dX1_rankRows_82 : decode cX1_rankRows 82 = .ok (.istore 8, 2) := by decide +kernel
theorem dX1_rankRows_84 : decode cX1_rankRows 84 = .ok (.iload 8, 2) := by decide +kernel
theorem dX1_rankRows_86 : decode cX1_rankRows 86 = .ok (.iload 4, 2) := by decide +kernel
theorem dX1_rankRows_88 : decode cX1_rankRows 88 = .ok (.if_icmp .ge 30, 3) := by decide +kernel
theorem dX1_rankRows_91 : decode cX1_rankRows 91 = .ok (.aload_n 0, 1) := by decide +kernel
theorem dX1_rankRows_92 : decode cX1_rankRows 92 = .ok (.getfield 35, 3) := by decide +kernel
theorem dX1_rankRows_95 : decode cX1_rankRows 95 = .ok (.iload 8, 2) := by decide +kernel
theorem dX1_rankRows_97 : decode cX1_rankRows 97 = .ok (.aload_n 1, 1) := by decide +kernel
theorem dX1_rankRows_98 : decode cX1_rankRows 98 = .ok (.iload 7, 2) := by decide +kernel
theorem dX1_rankRows_100 : decode cX1_rankRows 100 = .ok (.iload 8, 2) := by decide +kernel
theorem dX1_rankRows_102 : decode cX1_rankRows 102 = .ok (.aload_n 2, 1) := by decide +kernel
theorem dX1_rankRows_103 : decode cX1_rankRows 103 = .ok (.iload 6, 2) := by decide +kernel
theorem dX1_rankRows_105 : decode cX1_rankRows 105 = .ok (.invokevirtual 69, 3) := by decide +kernel
theorem dX1_rankRows_108 : decode cX1_rankRows 108 = .ok (.invokevirtual 73, 3) := by decide +kernel
theorem dX1_rankRows_111 : decode cX1_rankRows 111 = .ok (.lastore, 1) := by decide +kernel
theorem dX1_rankRows_112 : decode cX1_rankRows 112 = .ok (.iinc 8 1, 3) := by decide +kernel
theorem dX1_rankRows_115 : decode cX1_rankRows 115 = .ok (.goto (-31), 3) := by decide +kernel
theorem dX1_rankRows_118 : decode cX1_rankRows 118 = .ok (.aload_n 0, 1) := by decide +kernel
theorem dX1_rankRows_119 : decode cX1_rankRows 119 = .ok (.iload 6, 2) := by decide +kernel
theorem dX1_rankRows_121 : decode cX1_rankRows 121 = .ok (.iload 7, 2) := by decide +kernel
theorem dX1_rankRows_123 : decode cX1_rankRows 123 = .ok (.iload 4, 2) := by decide +kernel
theorem dX1_rankRows_125 : decode cX1_rankRows 125 = .ok (.iload 5, 2) := by decide +kernel
theorem dX1_rankRows_127 : decode cX1_rankRows 127 = .ok (.invokevirtual 77, 3) := by decide +kernel
theorem dX1_rankRows_130 : decode cX1_rankRows 130 = .ok (.iinc 7 1, 3) := by decide +kernel
theorem dX1_rankRows_133 : decode cX1_rankRows 133 = .ok (.goto (-59), 3) := by decide +kernel
theorem dX1_rankRows_136 : decode cX1_rankRows 136 = .ok (.aload_n 0, 1) := by decide +kernel
theorem dX1_rankRows_137 : decode cX1_rankRows 137 = .ok (.invokevirtual 81, 3) := by decide +kernel
theorem dX1_rankRows_140 : decode cX1_rankRows 140 = .ok (.iinc 6 (-1), 3) := by decide +kernel
theorem dX1_rankRows_143 : decode cX1_rankRows 143 = .ok (.goto (-77), 3) := by decide +kernel
theorem dX1_rankRows_146 : decode cX1_rankRows 146 = .ok (.iconst 0, 1) := by decide +kernel
theorem dX1_rankRows_147 : decode cX1_rankRows 147 = .ok (.istore 6, 2) := by decide +kernel
theorem dX1_rankRows_149 : decode cX1_rankRows 149 = .ok (.iload 6, 2) := by decide +kernel
theorem dX1_rankRows_151 : decode cX1_rankRows 151 = .ok (.iload 4, 2) := by decide +kernel
theorem dX1_rankRows_153 : decode cX1_rankRows 153 = .ok (.if_icmp .ge 28, 3) := by decide +kernel
theorem dX1_rankRows_156 : decode cX1_rankRows 156 = .ok (.aload_n 0, 1) := by decide +kernel
theorem dX1_rankRows_157 : decode cX1_rankRows 157 = .ok (.getfield 35, 3) := by decide +kernel
theorem dX1_rankRows_160 : decode cX1_rankRows 160 = .ok (.iload 6, 2) := by decide +kernel
theorem dX1_rankRows_162 : decode cX1_rankRows 162 = .ok (.aload_n 1, 1) := by decide +kernel
theorem dX1_rankRows_163 : decode cX1_rankRows 163 = .ok (.iload 6, 2) := by decide +kernel
theorem dX1_rankRows_165 : decode cX1_rankRows 165 = .ok (.aload_n 2, 1) := by decide +kernel
theorem dX1_rankRows_166 : decode cX1_rankRows 166 = .ok (.iconst 0, 1) := by decide +kernel
theorem dX1_rankRows_167 : decode cX1_rankRows 167 = .ok (.invokevirtual 69, 3) := by decide +kernel
theorem dX1_rankRows_170 : decode cX1_rankRows 170 = .ok (.invokevirtual 84, 3) := by decide +kernel
theorem dX1_rankRows_173 : decode cX1_rankRows 173 = .ok (.i2l, 1) := by decide +kernel
theorem dX1_rankRows_174 : decode cX1_rankRows 174 = .ok (.lastore, 1) := by decide +kernel
theorem dX1_rankRows_175 : decode cX1_rankRows 175 = .ok (.iinc 6 1, 3) := by decide +kernel
theorem dX1_rankRows_178 : decode cX1_rankRows 178 = .ok (.goto (-29), 3) := by decide +kernel
theorem dX1_rankRows_181 : decode cX1_rankRows 181 = .ok (.aload_n 0, 1) := by decide +kernel
theorem dX1_rankRows_182 : decode cX1_rankRows 182 = .ok (.iconst 0, 1) := by decide +kernel
theorem dX1_rankRows_183 : decode cX1_rankRows 183 = .ok (.iconst 0, 1) := by decide +kernel
theorem dX1_rankRows_184 : decode cX1_rankRows 184 = .ok (.iload 4, 2) := by decide +kernel
theorem dX1_rankRows_186 : decode cX1_rankRows 186 = .ok (.iload 5, 2) := by decide +kernel
theorem dX1_rankRows_188 : decode cX1_rankRows 188 = .ok (.invokevirtual 77, 3) := by decide +kernel
theorem dX1_rankRows_191 : decode cX1_rankRows 191 = .ok (.aload_n 0, 1) := by decide +kernel
theorem dX1_rankRows_192 : decode cX1_rankRows 192 = .ok (.invokevirtual 81, 3) := by decide +kernel
theorem dX1_rankRows_195 : decode cX1_rankRows 195 = .ok (.aload_n 0, 1) := by decide +kernel
theorem dX1_rankRows_196 : decode cX1_rankRows 196 = .ok (.getfield 19, 3) := by decide +kernel
theorem dX1_rankRows_199 : decode cX1_rankRows 199 = .ok (.iconst 0, 1) := by decide +kernel
theorem dX1_rankRows_200 : decode cX1_rankRows 200 = .ok (.iaload, 1) := by decide +kernel
theorem dX1_rankRows_201 : decode cX1_rankRows 201 = .ok (.ireturn, 1) := by decide +kernel
theorem dX1_swapLists_0 : decode cX1_swapLists 0 = .ok (.aload_n 0, 1) := by decide +kernel
theorem dX1_swapLists_1 : decode cX1_swapLists 1 = .ok (.getfield 23, 3) := by decide +kernel
theorem dX1_swapLists_4 : decode cX1_swapLists 4 = .ok (.astore_n 1, 1) := by decide +kernel
theorem dX1_swapLists_5 : decode cX1_swapLists 5 = .ok (.aload_n 0, 1) := by decide +kernel
theorem dX1_swapLists_6 : decode cX1_swapLists 6 = .ok (.aload_n 0, 1) := by decide +kernel
theorem dX1_swapLists_7 : decode cX1_swapLists 7 = .ok (.getfield 13, 3) := by decide +kernel
theorem dX1_swapLists_10 : decode cX1_swapLists 10 = .ok (.putfield 23, 3) := by decide +kernel
theorem dX1_swapLists_13 : decode cX1_swapLists 13 = .ok (.aload_n 0, 1) := by decide +kernel
theorem dX1_swapLists_14 : decode cX1_swapLists 14 = .ok (.aload_n 1, 1) := by decide +kernel
theorem dX1_swapLists_15 : decode cX1_swapLists 15 = .ok (.putfield 13, 3) := by decide +kernel
theorem dX1_swapLists_18 : decode cX1_swapLists 18 = .ok (.aload_n 0, 1) := by decide +kernel
theorem dX1_swapLists_19 : decode cX1_swapLists 19 = .ok (.getfield 26, 3) := by decide +kernel
theorem dX1_swapLists_22 : decode cX1_swapLists 22 = .ok (.astore_n 2, 1) := by decide +kernel
theorem dX1_swapLists_23 : decode cX1_swapLists 23 = .ok (.aload_n 0, 1) := by decide +kernel
theorem dX1_swapLists_24 : decode cX1_swapLists 24 = .ok (.aload_n 0, 1) := by decide +kernel
theorem dX1_swapLists_25 : decode cX1_swapLists 25 = .ok (.getfield 19, 3) := by decide +kernel
theorem dX1_swapLists_28 : decode cX1_swapLists 28 = .ok (.putfield 26, 3) := by decide +kernel
theorem dX1_swapLists_31 : decode cX1_swapLists 31 = .ok (.aload_n 0, 1) := by decide +kernel
theorem dX1_swapLists_32 : decode cX1_swapLists 32 = .ok (.aload_n 2, 1) := by decide +kernel
theorem dX1_swapLists_33 : decode cX1_swapLists 33 = .ok (.putfield 19, 3) := by decide +kernel
theorem dX1_swapLists_36 : decode cX1_swapLists 36 = .ok (.return_, 1) := by decide +kernel
theorem dX1_mergeLists_0 : decode cX1_mergeLists 0 = .ok (.iconst 0, 1) := by decide +kernel
theorem dX1_mergeLists_1 : decode cX1_mergeLists 1 = .ok (.istore 5, 2) := by decide +kernel
theorem dX1_mergeLists_3 : decode cX1_mergeLists 3 = .ok (.iload 5, 2) := by decide +kernel
theorem dX1_mergeLists_5 : decode cX1_mergeLists 5 = .ok (.iload_n 3, 1) := by decide +kernel
theorem dX1_mergeLists_6 : decode cX1_mergeLists 6 = .ok (.if_icmp .ge 23, 3) := by decide +kernel
theorem dX1_mergeLists_9 : decode cX1_mergeLists 9 = .ok (.aload_n 0, 1) := by decide +kernel
theorem dX1_mergeLists_10 : decode cX1_mergeLists 10 = .ok (.getfield 32, 3) := by decide +kernel
theorem dX1_mergeLists_13 : decode cX1_mergeLists 13 = .ok (.iload 5, 2) := by decide +kernel
theorem dX1_mergeLists_15 : decode cX1_mergeLists 15 = .ok (.iconst 0, 1) := by decide +kernel
theorem dX1_mergeLists_16 : decode cX1_mergeLists 16 = .ok (.iastore, 1) := by decide +kernel
theorem dX1_mergeLists_17 : decode cX1_mergeLists 17 = .ok (.aload_n 0, 1) := by decide +kernel
theorem dX1_mergeLists_18 : decode cX1_mergeLists 18 = .ok (.iload 5, 2) := by decide +kernel
theorem dX1_mergeLists_20 : decode cX1_mergeLists 20 = .ok (.invokevirtual 87, 3) := by decide +kernel
theorem dX1_mergeLists_23 : decode cX1_mergeLists 23 = .ok (.iinc 5 1, 3) := by decide +kernel
theorem dX1_mergeLists_26 : decode cX1_mergeLists 26 = .ok (.goto (-23), 3) := by decide +kernel
theorem dX1_mergeLists_29 : decode cX1_mergeLists 29 = .ok (.iload_n 1, 1) := by decide +kernel
theorem dX1_mergeLists_30 : decode cX1_mergeLists 30 = .ok (.bipush 8, 2) := by decide +kernel
theorem dX1_mergeLists_32 : decode cX1_mergeLists 32 = .ok (.imul, 1) := by decide +kernel
theorem dX1_mergeLists_33 : decode cX1_mergeLists 33 = .ok (.bipush 20, 2) := by decide +kernel
theorem dX1_mergeLists_35 : decode cX1_mergeLists 35 = .ok (.imul, 1) := by decide +kernel
theorem dX1_mergeLists_36 : decode cX1_mergeLists 36 = .ok (.istore 5, 2) := by decide +kernel
theorem dX1_mergeLists_38 : decode cX1_mergeLists 38 = .ok (.iconst 0, 1) := by decide +kernel
theorem dX1_mergeLists_39 : decode cX1_mergeLists 39 = .ok (.istore 6, 2) := by decide +kernel
theorem dX1_mergeLists_41 : decode cX1_mergeLists 41 = .ok (.iload 6, 2) := by decide +kernel
theorem dX1_mergeLists_43 : decode cX1_mergeLists 43 = .ok (.iload 4, 2) := by decide +kernel
theorem dX1_mergeLists_45 : decode cX1_mergeLists 45 = .ok (.if_icmp .ge 106, 3) := by decide +kernel
theorem dX1_mergeLists_48 : decode cX1_mergeLists 48 = .ok (.aload_n 0, 1) := by decide +kernel
theorem dX1_mergeLists_49 : decode cX1_mergeLists 49 = .ok (.iload_n 3, 1) := by decide +kernel
theorem dX1_mergeLists_50 : decode cX1_mergeLists 50 = .ok (.invokevirtual 90, 3) := by decide +kernel
theorem dX1_mergeLists_53 : decode cX1_mergeLists 53 = .ok (.istore 7, 2) := by decide +kernel
theorem dX1_mergeLists_55 : decode cX1_mergeLists 55 = .ok (.iload 7, 2) := by decide +kernel
theorem dX1_mergeLists_57 : decode cX1_mergeLists 57 = .ok (.ifCond .ge 6, 3) := by decide +kernel
theorem dX1_mergeLists_60 : decode cX1_mergeLists 60 = .ok (.goto 91, 3) := by decide +kernel
theorem dX1_mergeLists_63 : decode cX1_mergeLists 63 = .ok (.iload_n 2, 1) := by decide +kernel
theorem dX1_mergeLists_64 : decode cX1_mergeLists 64 = .ok (.iload 6, 2) := by decide +kernel
theorem dX1_mergeLists_66 : decode cX1_mergeLists 66 = .ok (.invokestatic 54, 3) := by decide +kernel
theorem dX1_mergeLists_69 : decode cX1_mergeLists 69 = .ok (.istore 8, 2) := by decide +kernel
theorem dX1_mergeLists_71 : decode cX1_mergeLists 71 = .ok (.aload_n 0, 1) := by decide +kernel
theorem dX1_mergeLists_72 : decode cX1_mergeLists 72 = .ok (.getfield 23, 3) := by decide +kernel
theorem dX1_mergeLists_75 : decode cX1_mergeLists 75 = .ok (.iload 8, 2) := by decide +kernel
theorem dX1_mergeLists_77 : decode cX1_mergeLists 77 = .ok (.aaload, 1) := by decide +kernel
theorem dX1_mergeLists_78 : decode cX1_mergeLists 78 = .ok (.aload_n 0, 1) := by decide +kernel
theorem dX1_mergeLists_79 : decode cX1_mergeLists 79 = .ok (.getfield 29, 3) := by decide +kernel
theorem dX1_mergeLists_82 : decode cX1_mergeLists 82 = .ok (.iload 7, 2) := by decide +kernel
theorem dX1_mergeLists_84 : decode cX1_mergeLists 84 = .ok (.aaload, 1) := by decide +kernel
theorem dX1_mergeLists_85 : decode cX1_mergeLists 85 = .ok (.invokevirtual 93, 3) := by decide +kernel
theorem dX1_mergeLists_88 : decode cX1_mergeLists 88 = .ok (.iload 5, 2) := by decide +kernel
theorem dX1_mergeLists_90 : decode cX1_mergeLists 90 = .ok (.ifCond .lt 38, 3) := by decide +kernel
theorem dX1_mergeLists_93 : decode cX1_mergeLists 93 = .ok (.iload 5, 2) := by decide +kernel
theorem dX1_mergeLists_95 : decode cX1_mergeLists 95 = .ok (.iload 8, 2) := by decide +kernel
theorem dX1_mergeLists_97 : decode cX1_mergeLists 97 = .ok (.iadd, 1) := by decide +kernel
theorem dX1_mergeLists_98 : decode cX1_mergeLists 98 = .ok (.aload_n 0, 1) := by decide +kernel
theorem dX1_mergeLists_99 : decode cX1_mergeLists 99 = .ok (.getfield 39, 3) := by decide +kernel
theorem dX1_mergeLists_102 : decode cX1_mergeLists 102 = .ok (.arraylength, 1) := by decide +kernel
theorem dX1_mergeLists_103 : decode cX1_mergeLists 103 = .ok (.if_icmp .ge 25, 3) := by decide +kernel
theorem dX1_mergeLists_106 : decode cX1_mergeLists 106 = .ok (.aload_n 0, 1) := by decide +kernel
theorem dX1_mergeLists_107 : decode cX1_mergeLists 107 = .ok (.getfield 39, 3) := by decide +kernel
theorem dX1_mergeLists_110 : decode cX1_mergeLists 110 = .ok (.iload 5, 2) := by decide +kernel
theorem dX1_mergeLists_112 : decode cX1_mergeLists 112 = .ok (.iload 8, 2) := by decide +kernel
theorem dX1_mergeLists_114 : decode cX1_mergeLists 114 = .ok (.iadd, 1) := by decide +kernel
theorem dX1_mergeLists_115 : decode cX1_mergeLists 115 = .ok (.iload 7, 2) := by decide +kernel
theorem dX1_mergeLists_117 : decode cX1_mergeLists 117 = .ok (.aload_n 0, 1) := by decide +kernel
theorem dX1_mergeLists_118 : decode cX1_mergeLists 118 = .ok (.getfield 32, 3) := by decide +kernel
theorem dX1_mergeLists_121 : decode cX1_mergeLists 121 = .ok (.iload 7, 2) := by decide +kernel
theorem dX1_mergeLists_123 : decode cX1_mergeLists 123 = .ok (.iaload, 1) := by decide +kernel
theorem dX1_mergeLists_124 : decode cX1_mergeLists 124 = .ok (.invokestatic 54, 3) := by decide +kernel
theorem dX1_mergeLists_127 : decode cX1_mergeLists 127 = .ok (.iastore, 1) := by decide +kernel
theorem dX1_mergeLists_128 : decode cX1_mergeLists 128 = .ok (.aload_n 0, 1) := by decide +kernel
theorem dX1_mergeLists_129 : decode cX1_mergeLists 129 = .ok (.getfield 32, 3) := by decide +kernel
theorem dX1_mergeLists_132 : decode cX1_mergeLists 132 = .ok (.iload 7, 2) := by decide +kernel
theorem dX1_mergeLists_134 : decode cX1_mergeLists 134 = .ok (.dup2, 1) := by decide +kernel
theorem dX1_mergeLists_135 : decode cX1_mergeLists 135 = .ok (.iaload, 1) := by decide +kernel
theorem dX1_mergeLists_136 : decode cX1_mergeLists 136 = .ok (.iconst 1, 1) := by decide +kernel
theorem dX1_mergeLists_137 : decode cX1_mergeLists 137 = .ok (.iadd, 1) := by decide +kernel
theorem dX1_mergeLists_138 : decode cX1_mergeLists 138 = .ok (.iastore, 1) := by decide +kernel
theorem dX1_mergeLists_139 : decode cX1_mergeLists 139 = .ok (.aload_n 0, 1) := by decide +kernel
theorem dX1_mergeLists_140 : decode cX1_mergeLists 140 = .ok (.iload 7, 2) := by decide +kernel
theorem dX1_mergeLists_142 : decode cX1_mergeLists 142 = .ok (.invokevirtual 87, 3) := by decide +kernel
theorem dX1_mergeLists_145 : decode cX1_mergeLists 145 = .ok (.iinc 6 1, 3) := by decide +kernel
theorem dX1_mergeLists_148 : decode cX1_mergeLists 148 = .ok (.goto (-107), 3) := by decide +kernel
theorem dX1_mergeLists_151 : decode cX1_mergeLists 151 = .ok (.aload_n 0, 1) := by decide +kernel
theorem dX1_mergeLists_152 : decode cX1_mergeLists 152 = .ok (.getfield 26, 3) := by decide +kernel
theorem dX1_mergeLists_155 : decode cX1_mergeLists 155 = .ok (.iload_n 2, 1) := by decide +kernel
theorem dX1_mergeLists_156 : decode cX1_mergeLists 156 = .ok (.iload 6, 2) := by decide +kernel
theorem dX1_mergeLists_158 : decode cX1_mergeLists 158 = .ok (.iastore, 1) := by decide +kernel
theorem dX1_mergeLists_159 : decode cX1_mergeLists 159 = .ok (.return_, 1) := by decide +kernel
theorem dX1_weighHead_0 : decode cX1_weighHead 0 = .ok (.aload_n 0, 1) := by decide +kernel
theorem dX1_weighHead_1 : decode cX1_weighHead 1 = .ok (.getfield 32, 3) := by decide +kernel
theorem dX1_weighHead_4 : decode cX1_weighHead 4 = .ok (.iload_n 1, 1) := by decide +kernel
theorem dX1_weighHead_5 : decode cX1_weighHead 5 = .ok (.iaload, 1) := by decide +kernel
theorem dX1_weighHead_6 : decode cX1_weighHead 6 = .ok (.istore_n 2, 1) := by decide +kernel
theorem dX1_weighHead_7 : decode cX1_weighHead 7 = .ok (.aload_n 0, 1) := by decide +kernel
theorem dX1_weighHead_8 : decode cX1_weighHead 8 = .ok (.getfield 35, 3) := by decide +kernel
theorem dX1_weighHead_11 : decode cX1_weighHead 11 = .ok (.iload_n 1, 1) := by decide +kernel
theorem dX1_weighHead_12 : decode cX1_weighHead 12 = .ok (.laload, 1) := by decide +kernel
theorem dX1_weighHead_13 : decode cX1_weighHead 13 = .ok (.lconst 0, 1) := by decide +kernel
theorem dX1_weighHead_14 : decode cX1_weighHead 14 = .ok (.lcmp, 1) := by decide +kernel
theorem dX1_weighHead_15 : decode cX1_weighHead 15 = .ok (.ifCond .le 47, 3) := by decide +kernel
theorem dX1_weighHead_18 : decode cX1_weighHead 18 = .ok (.iload_n 2, 1) := by decide +kernel
theorem dX1_weighHead_19 : decode cX1_weighHead 19 = .ok (.aload_n 0, 1) := by decide +kernel
theorem dX1_weighHead_20 : decode cX1_weighHead 20 = .ok (.getfield 19, 3) := by decide +kernel
theorem dX1_weighHead_23 : decode cX1_weighHead 23 = .ok (.iload_n 1, 1) := by decide +kernel
theorem dX1_weighHead_24 : decode cX1_weighHead 24 = .ok (.iaload, 1) := by decide +kernel
theorem dX1_weighHead_25 : decode cX1_weighHead 25 = .ok (.if_icmp .ge 37, 3) := by decide +kernel
theorem dX1_weighHead_28 : decode cX1_weighHead 28 = .ok (.iload_n 2, 1) := by decide +kernel
theorem dX1_weighHead_29 : decode cX1_weighHead 29 = .ok (.bipush 20, 2) := by decide +kernel
theorem dX1_weighHead_31 : decode cX1_weighHead 31 = .ok (.if_icmp .ge 31, 3) := by decide +kernel
theorem dX1_weighHead_34 : decode cX1_weighHead 34 = .ok (.aload_n 0, 1) := by decide +kernel
theorem dX1_weighHead_35 : decode cX1_weighHead 35 = .ok (.getfield 29, 3) := by decide +kernel
theorem dX1_weighHead_38 : decode cX1_weighHead 38 = .ok (.iload_n 1, 1) := by decide +kernel
theorem dX1_weighHead_39 : decode cX1_weighHead 39 = .ok (.aaload, 1) := by decide +kernel
theorem dX1_weighHead_40 : decode cX1_weighHead 40 = .ok (.aload_n 0, 1) := by decide +kernel
theorem dX1_weighHead_41 : decode cX1_weighHead 41 = .ok (.getfield 13, 3) := by decide +kernel
theorem dX1_weighHead_44 : decode cX1_weighHead 44 = .ok (.iload_n 1, 1) := by decide +kernel
theorem dX1_weighHead_45 : decode cX1_weighHead 45 = .ok (.iload_n 2, 1) := by decide +kernel
theorem dX1_weighHead_46 : decode cX1_weighHead 46 = .ok (.invokestatic 54, 3) := by decide +kernel
theorem dX1_weighHead_49 : decode cX1_weighHead 49 = .ok (.aaload, 1) := by decide +kernel
theorem dX1_weighHead_50 : decode cX1_weighHead 50 = .ok (.aload_n 0, 1) := by decide +kernel
theorem dX1_weighHead_51 : decode cX1_weighHead 51 = .ok (.getfield 35, 3) := by decide +kernel
theorem dX1_weighHead_54 : decode cX1_weighHead 54 = .ok (.iload_n 1, 1) := by decide +kernel
theorem dX1_weighHead_55 : decode cX1_weighHead 55 = .ok (.laload, 1) := by decide +kernel
theorem dX1_weighHead_56 : decode cX1_weighHead 56 = .ok (.invokevirtual 97, 3) := by decide +kernel
theorem dX1_weighHead_59 : decode cX1_weighHead 59 = .ok (.goto 13, 3) := by decide +kernel
theorem dX1_weighHead_62 : decode cX1_weighHead 62 = .ok (.aload_n 0, 1) := by decide +kernel
theorem dX1_weighHead_63 : decode cX1_weighHead 63 = .ok (.getfield 29, 3) := by decide +kernel
theorem dX1_weighHead_66 : decode cX1_weighHead 66 = .ok (.iload_n 1, 1) := by decide +kernel
theorem dX1_weighHead_67 : decode cX1_weighHead 67 = .ok (.aaload, 1) := by decide +kernel
theorem dX1_weighHead_68 : decode cX1_weighHead 68 = .ok (.iconst 0, 1) := by decide +kernel
theorem dX1_weighHead_69 : decode cX1_weighHead 69 = .ok (.invokevirtual 57, 3) := by decide +kernel
theorem dX1_weighHead_72 : decode cX1_weighHead 72 = .ok (.return_, 1) := by decide +kernel
theorem dX1_greatestHead_0 : decode cX1_greatestHead 0 = .ok (.iconst (-1), 1) := by decide +kernel
theorem dX1_greatestHead_1 : decode cX1_greatestHead 1 = .ok (.istore_n 2, 1) := by decide +kernel
theorem dX1_greatestHead_2 : decode cX1_greatestHead 2 = .ok (.iconst 0, 1) := by decide +kernel
theorem dX1_greatestHead_3 : decode cX1_greatestHead 3 = .ok (.istore_n 3, 1) := by decide +kernel
theorem dX1_greatestHead_4 : decode cX1_greatestHead 4 = .ok (.iload_n 3, 1) := by decide +kernel
theorem dX1_greatestHead_5 : decode cX1_greatestHead 5 = .ok (.iload_n 1, 1) := by decide +kernel
theorem dX1_greatestHead_6 : decode cX1_greatestHead 6 = .ok (.if_icmp .ge 45, 3) := by decide +kernel
theorem dX1_greatestHead_9 : decode cX1_greatestHead 9 = .ok (.aload_n 0, 1) := by decide +kernel
theorem dX1_greatestHead_10 : decode cX1_greatestHead 10 = .ok (.getfield 29, 3) := by decide +kernel
theorem dX1_greatestHead_13 : decode cX1_greatestHead 13 = .ok (.iload_n 3, 1) := by decide +kernel
theorem dX1_greatestHead_14 : decode cX1_greatestHead 14 = .ok (.aaload, 1) := by decide +kernel
theorem dX1_greatestHead_15 : decode cX1_greatestHead 15 = .ok (.invokevirtual 101, 3) := by decide +kernel
theorem dX1_greatestHead_18 : decode cX1_greatestHead 18 = .ok (.ifCond .ne 27, 3) := by decide +kernel
theorem dX1_greatestHead_21 : decode cX1_greatestHead 21 = .ok (.iload_n 2, 1) := by decide +kernel
theorem dX1_greatestHead_22 : decode cX1_greatestHead 22 = .ok (.ifCond .lt 21, 3) := by decide +kernel
theorem dX1_greatestHead_25 : decode cX1_greatestHead 25 = .ok (.aload_n 0, 1) := by decide +kernel
theorem dX1_greatestHead_26 : decode cX1_greatestHead 26 = .ok (.getfield 29, 3) := by decide +kernel
theorem dX1_greatestHead_29 : decode cX1_greatestHead 29 = .ok (.iload_n 3, 1) := by decide +kernel
theorem dX1_greatestHead_30 : decode cX1_greatestHead 30 = .ok (.aaload, 1) := by decide +kernel
theorem dX1_greatestHead_31 : decode cX1_greatestHead 31 = .ok (.aload_n 0, 1) := by decide +kernel
theorem dX1_greatestHead_32 : decode cX1_greatestHead 32 = .ok (.getfield 29, 3) := by decide +kernel
theorem dX1_greatestHead_35 : decode cX1_greatestHead 35 = .ok (.iload_n 2, 1) := by decide +kernel
theorem dX1_greatestHead_36 : decode cX1_greatestHead 36 = .ok (.aaload, 1) := by decide +kernel
theorem dX1_greatestHead_37 : decode cX1_greatestHead 37 = .ok (.invokevirtual 105, 3) := by decide +kernel
theorem dX1_greatestHead_40 : decode cX1_greatestHead 40 = .ok (.ifCond .le 5, 3) := by decide +kernel
theorem dX1_greatestHead_43 : decode cX1_greatestHead 43 = .ok (.iload_n 3, 1) := by decide +kernel
theorem dX1_greatestHead_44 : decode cX1_greatestHead 44 = .ok (.istore_n 2, 1) := by decide +kernel
theorem dX1_greatestHead_45 : decode cX1_greatestHead 45 = .ok (.iinc 3 1, 3) := by decide +kernel
theorem dX1_greatestHead_48 : decode cX1_greatestHead 48 = .ok (.goto (-44), 3) := by decide +kernel
theorem dX1_greatestHead_51 : decode cX1_greatestHead 51 = .ok (.iload_n 2, 1) := by decide +kernel
theorem dX1_greatestHead_52 : decode cX1_greatestHead 52 = .ok (.ireturn, 1) := by decide +kernel
theorem dX1_putValue_0 : decode cX1_putValue 0 = .ok (.iload_n 2, 1) := by decide +kernel
theorem dX1_putValue_1 : decode cX1_putValue 1 = .ok (.ifCond .lt 27, 3) := by decide +kernel
theorem dX1_putValue_4 : decode cX1_putValue 4 = .ok (.iload_n 2, 1) := by decide +kernel
theorem dX1_putValue_5 : decode cX1_putValue 5 = .ok (.aload_n 0, 1) := by decide +kernel
theorem dX1_putValue_6 : decode cX1_putValue 6 = .ok (.getfield 19, 3) := by decide +kernel
theorem dX1_putValue_9 : decode cX1_putValue 9 = .ok (.iconst 0, 1) := by decide +kernel
theorem dX1_putValue_10 : decode cX1_putValue 10 = .ok (.iaload, 1) := by decide +kernel
theorem dX1_putValue_11 : decode cX1_putValue 11 = .ok (.if_icmp .ge 17, 3) := by decide +kernel
theorem dX1_putValue_14 : decode cX1_putValue 14 = .ok (.aload_n 1, 1) := by decide +kernel
theorem dX1_putValue_15 : decode cX1_putValue 15 = .ok (.aload_n 0, 1) := by decide +kernel
theorem dX1_putValue_16 : decode cX1_putValue 16 = .ok (.getfield 13, 3) := by decide +kernel
theorem dX1_putValue_19 : decode cX1_putValue 19 = .ok (.iconst 0, 1) := by decide +kernel
theorem dX1_putValue_20 : decode cX1_putValue 20 = .ok (.iload_n 2, 1) := by decide +kernel
theorem dX1_putValue_21 : decode cX1_putValue 21 = .ok (.invokestatic 54, 3) := by decide +kernel
theorem dX1_putValue_24 : decode cX1_putValue 24 = .ok (.aaload, 1) := by decide +kernel
theorem dX1_putValue_25 : decode cX1_putValue 25 = .ok (.invokevirtual 93, 3) := by decide +kernel
theorem dX1_putValue_28 : decode cX1_putValue 28 = .ok (.return_, 1) := by decide +kernel
theorem dX1_traceStates_0 : decode cX1_traceStates 0 = .ok (.iload_n 1, 1) := by decide +kernel
theorem dX1_traceStates_1 : decode cX1_traceStates 1 = .ok (.istore 4, 2) := by decide +kernel
theorem dX1_traceStates_3 : decode cX1_traceStates 3 = .ok (.iconst 0, 1) := by decide +kernel
theorem dX1_traceStates_4 : decode cX1_traceStates 4 = .ok (.istore 5, 2) := by decide +kernel
theorem dX1_traceStates_6 : decode cX1_traceStates 6 = .ok (.iload 5, 2) := by decide +kernel
theorem dX1_traceStates_8 : decode cX1_traceStates 8 = .ok (.iload_n 3, 1) := by decide +kernel
theorem dX1_traceStates_9 : decode cX1_traceStates 9 = .ok (.if_icmp .ge 63, 3) := by decide +kernel
theorem dX1_traceStates_12 : decode cX1_traceStates 12 = .ok (.iload 5, 2) := by decide +kernel
theorem dX1_traceStates_14 : decode cX1_traceStates 14 = .ok (.aload_n 2, 1) := by decide +kernel
theorem dX1_traceStates_15 : decode cX1_traceStates 15 = .ok (.arraylength, 1) := by decide +kernel
theorem dX1_traceStates_16 : decode cX1_traceStates 16 = .ok (.if_icmp .ge 56, 3) := by decide +kernel
theorem dX1_traceStates_19 : decode cX1_traceStates 19 = .ok (.iload 5, 2) := by decide +kernel
theorem dX1_traceStates_21 : decode cX1_traceStates 21 = .ok (.bipush 8, 2) := by decide +kernel
theorem dX1_traceStates_23 : decode cX1_traceStates 23 = .ok (.imul, 1) := by decide +kernel
theorem dX1_traceStates_24 : decode cX1_traceStates 24 = .ok (.bipush 20, 2) := by decide +kernel
theorem dX1_traceStates_26 : decode cX1_traceStates 26 = .ok (.imul, 1) := by decide +kernel
theorem dX1_traceStates_27 : decode cX1_traceStates 27 = .ok (.iload 4, 2) := by decide +kernel
theorem dX1_traceStates_29 : decode cX1_traceStates 29 = .ok (.iadd, 1) := by decide +kernel
theorem dX1_traceStates_30 : decode cX1_traceStates 30 = .ok (.istore 6, 2) := by decide +kernel
theorem dX1_traceStates_32 : decode cX1_traceStates 32 = .ok (.iload 6, 2) := by decide +kernel
theorem dX1_traceStates_34 : decode cX1_traceStates 34 = .ok (.ifCond .lt 13, 3) := by decide +kernel
theorem dX1_traceStates_37 : decode cX1_traceStates 37 = .ok (.iload 6, 2) := by decide +kernel
theorem dX1_traceStates_39 : decode cX1_traceStates 39 = .ok (.aload_n 0, 1) := by decide +kernel
theorem dX1_traceStates_40 : decode cX1_traceStates 40 = .ok (.getfield 39, 3) := by decide +kernel
theorem dX1_traceStates_43 : decode cX1_traceStates 43 = .ok (.arraylength, 1) := by decide +kernel
theorem dX1_traceStates_44 : decode cX1_traceStates 44 = .ok (.if_icmp .lt 4, 3) := by decide +kernel
theorem dX1_traceStates_47 : decode cX1_traceStates 47 = .ok (.return_, 1) := by decide +kernel
theorem dX1_traceStates_48 : decode cX1_traceStates 48 = .ok (.aload_n 0, 1) := by decide +kernel
theorem dX1_traceStates_49 : decode cX1_traceStates 49 = .ok (.getfield 39, 3) := by decide +kernel
theorem dX1_traceStates_52 : decode cX1_traceStates 52 = .ok (.iload 6, 2) := by decide +kernel
theorem dX1_traceStates_54 : decode cX1_traceStates 54 = .ok (.iaload, 1) := by decide +kernel
theorem dX1_traceStates_55 : decode cX1_traceStates 55 = .ok (.istore 4, 2) := by decide +kernel
theorem dX1_traceStates_57 : decode cX1_traceStates 57 = .ok (.aload_n 2, 1) := by decide +kernel
theorem dX1_traceStates_58 : decode cX1_traceStates 58 = .ok (.iload 5, 2) := by decide +kernel
theorem dX1_traceStates_60 : decode cX1_traceStates 60 = .ok (.iload 4, 2) := by decide +kernel
theorem dX1_traceStates_62 : decode cX1_traceStates 62 = .ok (.bipush 20, 2) := by decide +kernel
theorem dX1_traceStates_64 : decode cX1_traceStates 64 = .ok (.idiv, 1) := by decide +kernel
theorem dX1_traceStates_65 : decode cX1_traceStates 65 = .ok (.iastore, 1) := by decide +kernel
theorem dX1_traceStates_66 : decode cX1_traceStates 66 = .ok (.iinc 5 1, 3) := by decide +kernel
theorem dX1_traceStates_69 : decode cX1_traceStates 69 = .ok (.goto (-63), 3) := by decide +kernel
theorem dX1_traceStates_72 : decode cX1_traceStates 72 = .ok (.return_, 1) := by decide +kernel
theorem dX4_init_0 : decode cX4_init 0 = .ok (.aload_n 0, 1) := by decide +kernel
theorem dX4_init_1 : decode cX4_init 1 = .ok (.invokespecial 3, 3) := by decide +kernel
theorem dX4_init_4 : decode cX4_init 4 = .ok (.aload_n 0, 1) := by decide +kernel
theorem dX4_init_5 : decode cX4_init 5 = .ok (.iconst 0, 1) := by decide +kernel
theorem dX4_init_6 : decode cX4_init 6 = .ok (.putfield 9, 3) := by decide +kernel
theorem dX4_init_9 : decode cX4_init 9 = .ok (.aload_n 0, 1) := by decide +kernel
theorem dX4_init_10 : decode cX4_init 10 = .ok (.iconst 0, 1) := by decide +kernel
theorem dX4_init_11 : decode cX4_init 11 = .ok (.putfield 15, 3) := by decide +kernel
theorem dX4_init_14 : decode cX4_init 14 = .ok (.aload_n 0, 1) := by decide +kernel
theorem dX4_init_15 : decode cX4_init 15 = .ok (.sipush 256, 3) := by decide +kernel
theorem dX4_init_18 : decode cX4_init 18 = .ok (.newarray .int, 2) := by decide +kernel
theorem dX4_init_20 : decode cX4_init 20 = .ok (.putfield 18, 3) := by decide +kernel
theorem dX4_init_23 : decode cX4_init 23 = .ok (.aload_n 0, 1) := by decide +kernel
theorem dX4_init_24 : decode cX4_init 24 = .ok (.bipush 96, 2) := by decide +kernel
theorem dX4_init_26 : decode cX4_init 26 = .ok (.newarray .int, 2) := by decide +kernel
theorem dX4_init_28 : decode cX4_init 28 = .ok (.putfield 22, 3) := by decide +kernel
theorem dX4_init_31 : decode cX4_init 31 = .ok (.aload_n 0, 1) := by decide +kernel
theorem dX4_init_32 : decode cX4_init 32 = .ok (.bipush 16, 2) := by decide +kernel
theorem dX4_init_34 : decode cX4_init 34 = .ok (.newarray .int, 2) := by decide +kernel
theorem dX4_init_36 : decode cX4_init 36 = .ok (.putfield 25, 3) := by decide +kernel
theorem dX4_init_39 : decode cX4_init 39 = .ok (.aload_n 0, 1) := by decide +kernel
theorem dX4_init_40 : decode cX4_init 40 = .ok (.iconst 0, 1) := by decide +kernel
theorem dX4_init_41 : decode cX4_init 41 = .ok (.putfield 28, 3) := by decide +kernel
theorem dX4_init_44 : decode cX4_init 44 = .ok (.aload_n 0, 1) := by decide +kernel
theorem dX4_init_45 : decode cX4_init 45 = .ok (.sipush 256, 3) := by decide +kernel
theorem dX4_init_48 : decode cX4_init 48 = .ok (.newarray .int, 2) := by decide +kernel
theorem dX4_init_50 : decode cX4_init 50 = .ok (.putfield 31, 3) := by decide +kernel
theorem dX4_init_53 : decode cX4_init 53 = .ok (.aload_n 0, 1) := by decide +kernel
theorem dX4_init_54 : decode cX4_init 54 = .ok (.bipush 16, 2) := by decide +kernel
theorem dX4_init_56 : decode cX4_init 56 = .ok (.newarray .int, 2) := by decide +kernel
theorem dX4_init_58 : decode cX4_init 58 = .ok (.putfield 34, 3) := by decide +kernel
theorem dX4_init_61 : decode cX4_init 61 = .ok (.aload_n 0, 1) := by decide +kernel
theorem dX4_init_62 : decode cX4_init 62 = .ok (.sipush 256, 3) := by decide +kernel
theorem dX4_init_65 : decode cX4_init 65 = .ok (.newarray .long, 2) := by decide +kernel
theorem dX4_init_67 : decode cX4_init 67 = .ok (.putfield 37, 3) := by decide +kernel
theorem dX4_init_70 : decode cX4_init 70 = .ok (.aload_n 0, 1) := by decide +kernel
theorem dX4_init_71 : decode cX4_init 71 = .ok (.sipush 256, 3) := by decide +kernel
theorem dX4_init_74 : decode cX4_init 74 = .ok (.newarray .long, 2) := by decide +kernel
theorem dX4_init_76 : decode cX4_init 76 = .ok (.putfield 41, 3) := by decide +kernel
theorem dX4_init_79 : decode cX4_init 79 = .ok (.aload_n 0, 1) := by decide +kernel
theorem dX4_init_80 : decode cX4_init 80 = .ok (.bipush 16, 2) := by decide +kernel
theorem dX4_init_82 : decode cX4_init 82 = .ok (.newarray .int, 2) := by decide +kernel
theorem dX4_init_84 : decode cX4_init 84 = .ok (.putfield 44, 3) := by decide +kernel
theorem dX4_init_87 : decode cX4_init 87 = .ok (.aload_n 0, 1) := by decide +kernel
theorem dX4_init_88 : decode cX4_init 88 = .ok (.bipush 16, 2) := by decide +kernel
theorem dX4_init_90 : decode cX4_init 90 = .ok (.newarray .long, 2) := by decide +kernel
theorem dX4_init_92 : decode cX4_init 92 = .ok (.putfield 47, 3) := by decide +kernel
theorem dX4_init_95 : decode cX4_init 95 = .ok (.aload_n 0, 1) := by decide +kernel
theorem dX4_init_96 : decode cX4_init 96 = .ok (.bipush 16, 2) := by decide +kernel
theorem dX4_init_98 : decode cX4_init 98 = .ok (.newarray .long, 2) := by decide +kernel
theorem dX4_init_100 : decode cX4_init 100 = .ok (.putfield 50, 3) := by decide +kernel
theorem dX4_init_103 : decode cX4_init 103 = .ok (.aload_n 0, 1) := by decide +kernel
theorem dX4_init_104 : decode cX4_init 104 = .ok (.bipush 16, 2) := by decide +kernel
theorem dX4_init_106 : decode cX4_init 106 = .ok (.newarray .int, 2) := by decide +kernel
theorem dX4_init_108 : decode cX4_init 108 = .ok (.putfield 53, 3) := by decide +kernel
theorem dX4_init_111 : decode cX4_init 111 = .ok (.aload_n 0, 1) := by decide +kernel
theorem dX4_init_112 : decode cX4_init 112 = .ok (.iconst 0, 1) := by decide +kernel
theorem dX4_init_113 : decode cX4_init 113 = .ok (.putfield 56, 3) := by decide +kernel
theorem dX4_init_116 : decode cX4_init 116 = .ok (.return_, 1) := by decide +kernel
theorem dX4_loadChains_0 : decode cX4_loadChains 0 = .ok (.aload_n 0, 1) := by decide +kernel
theorem dX4_loadChains_1 : decode cX4_loadChains 1 = .ok (.aload_n 1, 1) := by decide +kernel
theorem dX4_loadChains_2 : decode cX4_loadChains 2 = .ok (.getfield 59, 3) := by decide +kernel
theorem dX4_loadChains_5 : decode cX4_loadChains 5 = .ok (.invokevirtual 62, 3) := by decide +kernel
theorem dX4_loadChains_8 : decode cX4_loadChains 8 = .ok (.aload_n 0, 1) := by decide +kernel
theorem dX4_loadChains_9 : decode cX4_loadChains 9 = .ok (.aload_n 1, 1) := by decide +kernel
theorem dX4_loadChains_10 : decode cX4_loadChains 10 = .ok (.invokevirtual 66, 3) := by decide +kernel
theorem dX4_loadChains_13 : decode cX4_loadChains 13 = .ok (.aload_n 0, 1) := by decide +kernel
theorem dX4_loadChains_14 : decode cX4_loadChains 14 = .ok (.getfield 9, 3) := by decide +kernel
theorem dX4_loadChains_17 : decode cX4_loadChains 17 = .ok (.istore_n 3, 1) := by decide +kernel
theorem dX4_loadChains_18 : decode cX4_loadChains 18 = .ok (.aload_n 0, 1) := by decide +kernel
theorem dX4_loadChains_19 : decode cX4_loadChains 19 = .ok (.aload_n 2, 1) := by decide +kernel
theorem dX4_loadChains_20 : decode cX4_loadChains 20 = .ok (.invokevirtual 66, 3) := by decide +kernel
theorem dX4_loadChains_23 : decode cX4_loadChains 23 = .ok (.iconst 0, 1) := by decide +kernel
theorem dX4_loadChains_24 : decode cX4_loadChains 24 = .ok (.istore 4, 2) := by decide +kernel
theorem dX4_loadChains_26 : decode cX4_loadChains 26 = .ok (.iload 4, 2) := by decide +kernel
theorem dX4_loadChains_28 : decode cX4_loadChains 28 = .ok (.aload_n 1, 1) := by decide +kernel
theorem dX4_loadChains_29 : decode cX4_loadChains 29 = .ok (.getfield 70, 3) := by decide +kernel
theorem dX4_loadChains_32 : decode cX4_loadChains 32 = .ok (.if_icmp .ge 28, 3) := by decide +kernel
theorem dX4_loadChains_35 : decode cX4_loadChains 35 = .ok (.iload 4, 2) := by decide +kernel
theorem dX4_loadChains_37 : decode cX4_loadChains 37 = .ok (.iload_n 3, 1) := by decide +kernel
theorem dX4_loadChains_38 : decode cX4_loadChains 38 = .ok (.if_icmp .ge 22, 3) := by decide +kernel
theorem dX4_loadChains_41 : decode cX4_loadChains 41 = .ok (.aload_n 0, 1) := by decide +kernel
theorem dX4_loadChains_42 : decode cX4_loadChains 42 = .ok (.getfield 25, 3) := by decide +kernel
theorem dX4_loadChains_45 : decode cX4_loadChains 45 = .ok (.iload 4, 2) := by decide +kernel
theorem dX4_loadChains_47 : decode cX4_loadChains 47 = .ok (.aload_n 1, 1) := by decide +kernel
theorem dX4_loadChains_48 : decode cX4_loadChains 48 = .ok (.iload 4, 2) := by decide +kernel
theorem dX4_loadChains_50 : decode cX4_loadChains 50 = .ok (.invokevirtual 73, 3) := by decide +kernel
theorem dX4_loadChains_53 : decode cX4_loadChains 53 = .ok (.iastore, 1) := by decide +kernel
theorem dX4_loadChains_54 : decode cX4_loadChains 54 = .ok (.iinc 4 1, 3) := by decide +kernel
theorem dX4_loadChains_57 : decode cX4_loadChains 57 = .ok (.goto (-31), 3) := by decide +kernel
theorem dX4_loadChains_60 : decode cX4_loadChains 60 = .ok (.iconst 0, 1) := by decide +kernel
theorem dX4_loadChains_61 : decode cX4_loadChains 61 = .ok (.istore 4, 2) := by decide +kernel
theorem dX4_loadChains_63 : decode cX4_loadChains 63 = .ok (.iload 4, 2) := by decide +kernel
theorem dX4_loadChains_65 : decode cX4_loadChains 65 = .ok (.aload_n 2, 1) := by decide +kernel
theorem dX4_loadChains_66 : decode cX4_loadChains 66 = .ok (.getfield 70, 3) := by decide +kernel
theorem dX4_loadChains_69 : decode cX4_loadChains 69 = .ok (.if_icmp .ge 36, 3) := by decide +kernel
theorem dX4_loadChains_72 : decode cX4_loadChains 72 = .ok (.iload_n 3, 1) := by decide +kernel
theorem dX4_loadChains_73 : decode cX4_loadChains 73 = .ok (.iload 4, 2) := by decide +kernel
theorem dX4_loadChains_75 : decode cX4_loadChains 75 = .ok (.iadd, 1) := by decide +kernel
theorem dX4_loadChains_76 : decode cX4_loadChains 76 = .ok (.aload_n 0, 1) := by decide +kernel
theorem dX4_loadChains_77 : decode cX4_loadChains 77 = .ok (.getfield 9, 3) := by decide +kernel
theorem dX4_loadChains_80 : decode cX4_loadChains 80 = .ok (.if_icmp .ge 25, 3) := by decide +kernel
theorem dX4_loadChains_83 : decode cX4_loadChains 83 = .ok (.aload_n 0, 1) := by decide +kernel
theorem dX4_loadChains_84 : decode cX4_loadChains 84 = .ok (.getfield 25, 3) := by decide +kernel
theorem dX4_loadChains_87 : decode cX4_loadChains 87 = .ok (.iload_n 3, 1) := by decide +kernel
theorem dX4_loadChains_88 : decode cX4_loadChains 88 = .ok (.iload 4, 2) := by decide +kernel
theorem dX4_loadChains_90 : decode cX4_loadChains 90 = .ok (.iadd, 1) := by decide +kernel
theorem dX4_loadChains_91 : decode cX4_loadChains 91 = .ok (.aload_n 2, 1) := by decide +kernel
theorem dX4_loadChains_92 : decode cX4_loadChains 92 = .ok (.iload 4, 2) := by decide +kernel
theorem dX4_loadChains_94 : decode cX4_loadChains 94 = .ok (.invokevirtual 73, 3) := by decide +kernel
theorem dX4_loadChains_97 : decode cX4_loadChains 97 = .ok (.ineg, 1) := by decide +kernel
theorem dX4_loadChains_98 : decode cX4_loadChains 98 = .ok (.iastore, 1) := by decide +kernel
theorem dX4_loadChains_99 : decode cX4_loadChains 99 = .ok (.iinc 4 1, 3) := by decide +kernel
theorem dX4_loadChains_102 : decode cX4_loadChains 102 = .ok (.goto (-39), 3) := by decide +kernel
theorem dX4_loadChains_105 : decode cX4_loadChains 105 = .ok (.return_, 1) := by decide +kernel
theorem dX4_loadStates_0 : decode cX4_loadStates 0 = .ok (.aload_n 0, 1) := by decide +kernel
theorem dX4_loadStates_1 : decode cX4_loadStates 1 = .ok (.aload_n 1, 1) := by decide +kernel
theorem dX4_loadStates_2 : decode cX4_loadStates 2 = .ok (.getfield 59, 3) := by decide +kernel
theorem dX4_loadStates_5 : decode cX4_loadStates 5 = .ok (.invokevirtual 62, 3) := by decide +kernel
theorem dX4_loadStates_8 : decode cX4_loadStates 8 = .ok (.aload_n 0, 1) := by decide +kernel
theorem dX4_loadStates_9 : decode cX4_loadStates 9 = .ok (.aload_n 1, 1) := by decide +kernel
theorem dX4_loadStates_10 : decode cX4_loadStates 10 = .ok (.invokevirtual 66, 3) := by decide +kernel
theorem dX4_loadStates_13 : decode cX4_loadStates 13 = .ok (.iload_n 2, 1) := by decide +kernel
theorem dX4_loadStates_14 : decode cX4_loadStates 14 = .ok (.iload_n 3, 1) := by decide +kernel
theorem dX4_loadStates_15 : decode cX4_loadStates 15 = .ok (.if_icmp .eq 33, 3) := by decide +kernel
theorem dX4_loadStates_18 : decode cX4_loadStates 18 = .ok (.aload_n 1, 1) := by decide +kernel
theorem dX4_loadStates_19 : decode cX4_loadStates 19 = .ok (.iload_n 2, 1) := by decide +kernel
theorem dX4_loadStates_20 : decode cX4_loadStates 20 = .ok (.invokevirtual 77, 3) := by decide +kernel
theorem dX4_loadStates_23 : decode cX4_loadStates 23 = .ok (.ifCond .eq 25, 3) := by decide +kernel
theorem dX4_loadStates_26 : decode cX4_loadStates 26 = .ok (.aload_n 1, 1) := by decide +kernel
theorem dX4_loadStates_27 : decode cX4_loadStates 27 = .ok (.iload_n 3, 1) := by decide +kernel
theorem dX4_loadStates_28 : decode cX4_loadStates 28 = .ok (.invokevirtual 77, 3) := by decide +kernel
theorem dX4_loadStates_31 : decode cX4_loadStates 31 = .ok (.ifCond .eq 17, 3) := by decide +kernel
theorem dX4_loadStates_34 : decode cX4_loadStates 34 = .ok (.aload_n 0, 1) := by decide +kernel
theorem dX4_loadStates_35 : decode cX4_loadStates 35 = .ok (.getfield 25, 3) := by decide +kernel
theorem dX4_loadStates_38 : decode cX4_loadStates 38 = .ok (.iload_n 2, 1) := by decide +kernel
theorem dX4_loadStates_39 : decode cX4_loadStates 39 = .ok (.iconst 1, 1) := by decide +kernel
theorem dX4_loadStates_40 : decode cX4_loadStates 40 = .ok (.iastore, 1) := by decide +kernel
theorem dX4_loadStates_41 : decode cX4_loadStates 41 = .ok (.aload_n 0, 1) := by decide +kernel
theorem dX4_loadStates_42 : decode cX4_loadStates 42 = .ok (.getfield 25, 3) := by decide +kernel
theorem dX4_loadStates_45 : decode cX4_loadStates 45 = .ok (.iload_n 3, 1) := by decide +kernel
theorem dX4_loadStates_46 : decode cX4_loadStates 46 = .ok (.iconst (-1), 1) := by decide +kernel
theorem dX4_loadStates_47 : decode cX4_loadStates 47 = .ok (.iastore, 1) := by decide +kernel
theorem dX4_loadStates_48 : decode cX4_loadStates 48 = .ok (.return_, 1) := by decide +kernel
theorem dX4_clearTables_0 : decode cX4_clearTables 0 = .ok (.aload_n 0, 1) := by decide +kernel
theorem dX4_clearTables_1 : decode cX4_clearTables 1 = .ok (.iconst 0, 1) := by decide +kernel
theorem dX4_clearTables_2 : decode cX4_clearTables 2 = .ok (.putfield 9, 3) := by decide +kernel
theorem dX4_clearTables_5 : decode cX4_clearTables 5 = .ok (.aload_n 0, 1) := by decide +kernel
theorem dX4_clearTables_6 : decode cX4_clearTables 6 = .ok (.iload_n 1, 1) := by decide +kernel
theorem dX4_clearTables_7 : decode cX4_clearTables 7 = .ok (.bipush 6, 2) := by decide +kernel
theorem dX4_clearTables_9 : decode cX4_clearTables 9 = .ok (.invokestatic 81, 3) := by decide +kernel
theorem dX4_clearTables_12 : decode cX4_clearTables 12 = .ok (.putfield 15, 3) := by decide +kernel
theorem dX4_clearTables_15 : decode cX4_clearTables 15 = .ok (.iconst 0, 1) := by decide +kernel
theorem dX4_clearTables_16 : decode cX4_clearTables 16 = .ok (.istore_n 2, 1) := by decide +kernel
theorem dX4_clearTables_17 : decode cX4_clearTables 17 = .ok (.iload_n 2, 1) := by decide +kernel
theorem dX4_clearTables_18 : decode cX4_clearTables 18 = .ok (.aload_n 0, 1) := by decide +kernel
theorem dX4_clearTables_19 : decode cX4_clearTables 19 = .ok (.getfield 18, 3) := by decide +kernel
theorem dX4_clearTables_22 : decode cX4_clearTables 22 = .ok (.arraylength, 1) := by decide +kernel
theorem dX4_clearTables_23 : decode cX4_clearTables 23 = .ok (.if_icmp .ge 16, 3) := by decide +kernel
theorem dX4_clearTables_26 : decode cX4_clearTables 26 = .ok (.aload_n 0, 1) := by decide +kernel
theorem dX4_clearTables_27 : decode cX4_clearTables 27 = .ok (.getfield 18, 3) := by decide +kernel
theorem dX4_clearTables_30 : decode cX4_clearTables 30 = .ok (.iload_n 2, 1) := by decide +kernel
theorem dX4_clearTables_31 : decode cX4_clearTables 31 = .ok (.iconst 0, 1) := by decide +kernel
theorem dX4_clearTables_32 : decode cX4_clearTables 32 = .ok (.iastore, 1) := by decide +kernel
theorem dX4_clearTables_33 : decode cX4_clearTables 33 = .ok (.iinc 2 1, 3) := by decide +kernel
theorem dX4_clearTables_36 : decode cX4_clearTables 36 = .ok (.goto (-19), 3) := by decide +kernel
theorem dX4_clearTables_39 : decode cX4_clearTables 39 = .ok (.iconst 0, 1) := by decide +kernel
theorem dX4_clearTables_40 : decode cX4_clearTables 40 = .ok (.istore_n 2, 1) := by decide +kernel
theorem dX4_clearTables_41 : decode cX4_clearTables 41 = .ok (.iload_n 2, 1) := by decide +kernel
theorem dX4_clearTables_42 : decode cX4_clearTables 42 = .ok (.aload_n 0, 1) := by decide +kernel
theorem dX4_clearTables_43 : decode cX4_clearTables 43 = .ok (.getfield 25, 3) := by decide +kernel
theorem dX4_clearTables_46 : decode cX4_clearTables 46 = .ok (.arraylength, 1) := by decide +kernel
theorem dX4_clearTables_47 : decode cX4_clearTables 47 = .ok (.if_icmp .ge 16, 3) := by decide +kernel
theorem dX4_clearTables_50 : decode cX4_clearTables 50 = .ok (.aload_n 0, 1) := by decide +kernel
theorem dX4_clearTables_51 : decode cX4_clearTables 51 = .ok (.getfield 25, 3) := by decide +kernel
theorem dX4_clearTables_54 : decode cX4_clearTables 54 = .ok (.iload_n 2, 1) := by decide +kernel
theorem dX4_clearTables_55 : decode cX4_clearTables 55 = .ok (.iconst 0, 1) := by decide +kernel
theorem dX4_clearTables_56 : decode cX4_clearTables 56 = .ok (.iastore, 1) := by decide +kernel
theorem dX4_clearTables_57 : decode cX4_clearTables 57 = .ok (.iinc 2 1, 3) := by decide +kernel
theorem dX4_clearTables_60 : decode cX4_clearTables 60 = .ok (.goto (-19), 3) := by decide +kernel
theorem dX4_clearTables_63 : decode cX4_clearTables 63 = .ok (.return_, 1) := by decide +kernel
theorem dX4_addStates_0 : decode cX4_addStates 0 = .ok (.aload_n 0, 1) := by decide +kernel
theorem dX4_addStates_1 : decode cX4_addStates 1 = .ok (.getfield 9, 3) := by decide +kernel
theorem dX4_addStates_4 : decode cX4_addStates 4 = .ok (.istore_n 2, 1) := by decide +kernel
theorem dX4_addStates_5 : decode cX4_addStates 5 = .ok (.aload_n 0, 1) := by decide +kernel
theorem dX4_addStates_6 : decode cX4_addStates 6 = .ok (.iload_n 2, 1) := by decide +kernel
theorem dX4_addStates_7 : decode cX4_addStates 7 = .ok (.aload_n 1, 1) := by decide +kernel
theorem dX4_addStates_8 : decode cX4_addStates 8 = .ok (.getfield 70, 3) := by decide +kernel
theorem dX4_addStates_11 : decode cX4_addStates 11 = .ok (.iadd, 1) := by decide +kernel
theorem dX4_addStates_12 : decode cX4_addStates 12 = .ok (.bipush 16, 2) := by decide +kernel
theorem dX4_addStates_14 : decode cX4_addStates 14 = .ok (.invokestatic 81, 3) := by decide +kernel
theorem dX4_addStates_17 : decode cX4_addStates 17 = .ok (.putfield 9, 3) := by decide +kernel
theorem dX4_addStates_20 : decode cX4_addStates 20 = .ok (.iconst 0, 1) := by decide +kernel
theorem dX4_addStates_21 : decode cX4_addStates 21 = .ok (.istore_n 3, 1) := by decide +kernel
theorem dX4_addStates_22 : decode cX4_addStates 22 = .ok (.iload_n 2, 1) := by decide +kernel
theorem dX4_addStates_23 : decode cX4_addStates 23 = .ok (.iload_n 3, 1) := by decide +kernel
theorem dX4_addStates_24 : decode cX4_addStates 24 = .ok (.iadd, 1) := by decide +kernel
theorem dX4_addStates_25 : decode cX4_addStates 25 = .ok (.aload_n 0, 1) := by decide +kernel
theorem dX4_addStates_26 : decode cX4_addStates 26 = .ok (.getfield 9, 3) := by decide +kernel
theorem dX4_addStates_29 : decode cX4_addStates 29 = .ok (.if_icmp .ge 91, 3) := by decide +kernel
theorem dX4_addStates_32 : decode cX4_addStates 32 = .ok (.iconst 0, 1) := by decide +kernel
theorem dX4_addStates_33 : decode cX4_addStates 33 = .ok (.istore 4, 2) := by decide +kernel
theorem dX4_addStates_35 : decode cX4_addStates 35 = .ok (.iload_n 2, 1) := by decide +kernel
theorem dX4_addStates_36 : decode cX4_addStates 36 = .ok (.iload 4, 2) := by decide +kernel
theorem dX4_addStates_38 : decode cX4_addStates 38 = .ok (.iadd, 1) := by decide +kernel
theorem dX4_addStates_39 : decode cX4_addStates 39 = .ok (.aload_n 0, 1) := by decide +kernel
theorem dX4_addStates_40 : decode cX4_addStates 40 = .ok (.getfield 9, 3) := by decide +kernel
theorem dX4_addStates_43 : decode cX4_addStates 43 = .ok (.if_icmp .ge 32, 3) := by decide +kernel
theorem dX4_addStates_46 : decode cX4_addStates 46 = .ok (.aload_n 0, 1) := by decide +kernel
theorem dX4_addStates_47 : decode cX4_addStates 47 = .ok (.getfield 18, 3) := by decide +kernel
theorem dX4_addStates_50 : decode cX4_addStates 50 = .ok (.iload_n 2, 1) := by decide +kernel
theorem dX4_addStates_51 : decode cX4_addStates 51 = .ok (.iload_n 3, 1) := by decide +kernel
theorem dX4_addStates_52 : decode cX4_addStates 52 = .ok (.iadd, 1) := by decide +kernel
theorem dX4_addStates_53 : decode cX4_addStates 53 = .ok (.bipush 16, 2) := by decide +kernel
theorem dX4_addStates_55 : decode cX4_addStates 55 = .ok (.imul, 1) := by decide +kernel
theorem dX4_addStates_56 : decode cX4_addStates 56 = .ok (.iload_n 2, 1) := by decide +kernel
theorem dX4_addStates_57 : decode cX4_addStates 57 = .ok (.iadd, 1) := by decide +kernel
theorem dX4_addStates_58 : decode cX4_addStates 58 = .ok (.iload 4, 2) := by decide +kernel
theorem dX4_addStates_60 : decode cX4_addStates 60 = .ok (.iadd, 1) := by decide +kernel
theorem dX4_addStates_61 : decode cX4_addStates 61 = .ok (.aload_n 1, 1) := by decide +kernel
theorem dX4_addStates_62 : decode cX4_addStates 62 = .ok (.iload_n 3, 1) := by decide +kernel
theorem dX4_addStates_63 : decode cX4_addStates 63 = .ok (.iload 4, 2) := by decide +kernel
theorem dX4_addStates_65 : decode cX4_addStates 65 = .ok (.invokevirtual 87, 3) := by decide +kernel
theorem dX4_addStates_68 : decode cX4_addStates 68 = .ok (.iastore, 1) := by decide +kernel
theorem dX4_addStates_69 : decode cX4_addStates 69 = .ok (.iinc 4 1, 3) := by decide +kernel
theorem dX4_addStates_72 : decode cX4_addStates 72 = .ok (.goto (-37), 3) := by decide +kernel
theorem dX4_addStates_75 : decode cX4_addStates 75 = .ok (.iconst 0, 1) := by decide +kernel
theorem dX4_addStates_76 : decode cX4_addStates 76 = .ok (.istore 4, 2) := by decide +kernel
theorem dX4_addStates_78 : decode cX4_addStates 78 = .ok (.iload 4, 2) := by decide +kernel
theorem dX4_addStates_80 : decode cX4_addStates 80 = .ok (.aload_n 0, 1) := by decide +kernel
theorem dX4_addStates_81 : decode cX4_addStates 81 = .ok (.getfield 15, 3) := by decide +kernel
theorem dX4_addStates_84 : decode cX4_addStates 84 = .ok (.if_icmp .ge 30, 3) := by decide +kernel
theorem dX4_addStates_87 : decode cX4_addStates 87 = .ok (.aload_n 0, 1) := by decide +kernel
theorem dX4_addStates_88 : decode cX4_addStates 88 = .ok (.getfield 22, 3) := by decide +kernel
theorem dX4_addStates_91 : decode cX4_addStates 91 = .ok (.iload_n 2, 1) := by decide +kernel
theorem dX4_addStates_92 : decode cX4_addStates 92 = .ok (.iload_n 3, 1) := by decide +kernel
theorem dX4_addStates_93 : decode cX4_addStates 93 = .ok (.iadd, 1) := by decide +kernel
theorem dX4_addStates_94 : decode cX4_addStates 94 = .ok (.bipush 6, 2) := by decide +kernel
theorem dX4_addStates_96 : decode cX4_addStates 96 = .ok (.imul, 1) := by decide +kernel
theorem dX4_addStates_97 : decode cX4_addStates 97 = .ok (.iload 4, 2) := by decide +kernel
theorem dX4_addStates_99 : decode cX4_addStates 99 = .ok (.iadd, 1) := by decide +kernel
theorem dX4_addStates_100 : decode cX4_addStates 100 = .ok (.aload_n 1, 1) := by decide +kernel
theorem dX4_addStates_101 : decode cX4_addStates 101 = .ok (.iload_n 3, 1) := by decide +kernel
theorem dX4_addStates_102 : decode cX4_addStates 102 = .ok (.iload 4, 2) := by decide +kernel
theorem dX4_addStates_104 : decode cX4_addStates 104 = .ok (.invokevirtual 90, 3) := by decide +kernel
theorem dX4_addStates_107 : decode cX4_addStates 107 = .ok (.iastore, 1) := by decide +kernel
theorem dX4_addStates_108 : decode cX4_addStates 108 = .ok (.iinc 4 1, 3) := by decide +kernel
theorem dX4_addStates_111 : decode cX4_addStates 111 = .ok (.goto (-33), 3) := by decide +kernel
theorem dX4_addStates_114 : decode cX4_addStates 114 = .ok (.iinc 3 1, 3) := by decide +kernel
theorem dX4_addStates_117 : decode cX4_addStates 117 = .ok (.goto (-95), 3) := by decide +kernel
theorem dX4_addStates_120 : decode cX4_addStates 120 = .ok (.return_, 1) := by decide +kernel
theorem dX4_foundSign_0 : decode cX4_foundSign 0 = .ok (.iload_n 1, 1) := by decide +kernel
theorem dX4_foundSign_1 : decode cX4_foundSign 1 = .ok (.ifCond .lt 20, 3) := by decide +kernel
theorem dX4_foundSign_4 : decode cX4_foundSign 4 = .ok (.iload_n 1, 1) := by decide +kernel
theorem dX4_foundSign_5 : decode cX4_foundSign 5 = .ok (.aload_n 0, 1) := by decide +kernel
theorem dX4_foundSign_6 : decode cX4_foundSign 6 = .ok (.getfield 56, 3) := by decide +kernel
theorem dX4_foundSign_9 : decode cX4_foundSign 9 = .ok (.if_icmp .ge 12, 3) := by decide +kernel
theorem dX4_foundSign_12 : decode cX4_foundSign 12 = .ok (.aload_n 0, 1) := by decide +kernel
theorem dX4_foundSign_13 : decode cX4_foundSign 13 = .ok (.getfield 53, 3) := by decide +kernel
theorem dX4_foundSign_16 : decode cX4_foundSign 16 = .ok (.iload_n 1, 1) := by decide +kernel
theorem dX4_foundSign_17 : decode cX4_foundSign 17 = .ok (.iaload, 1) := by decide +kernel
theorem dX4_foundSign_18 : decode cX4_foundSign 18 = .ok (.goto 4, 3) := by decide +kernel
theorem dX4_foundSign_21 : decode cX4_foundSign 21 = .ok (.iconst 0, 1) := by decide +kernel
theorem dX4_foundSign_22 : decode cX4_foundSign 22 = .ok (.ireturn, 1) := by decide +kernel
theorem dX4_findTelling_0 : decode cX4_findTelling 0 = .ok (.aload_n 0, 1) := by decide +kernel
theorem dX4_findTelling_1 : decode cX4_findTelling 1 = .ok (.iconst 0, 1) := by decide +kernel
theorem dX4_findTelling_2 : decode cX4_findTelling 2 = .ok (.putfield 56, 3) := by decide +kernel
theorem dX4_findTelling_5 : decode cX4_findTelling 5 = .ok (.aload_n 0, 1) := by decide +kernel
theorem dX4_findTelling_6 : decode cX4_findTelling 6 = .ok (.getfield 9, 3) := by decide +kernel
theorem dX4_findTelling_9 : decode cX4_findTelling 9 = .ok (.iconst 1, 1) := by decide +kernel
theorem dX4_findTelling_10 : decode cX4_findTelling 10 = .ok (.isub, 1) := by decide +kernel
theorem dX4_findTelling_11 : decode cX4_findTelling 11 = .ok (.istore_n 1, 1) := by decide +kernel
theorem dX4_findTelling_12 : decode cX4_findTelling 12 = .ok (.iconst 0, 1) := by decide +kernel
theorem dX4_findTelling_13 : decode cX4_findTelling 13 = .ok (.istore_n 2, 1) := by decide +kernel
theorem dX4_findTelling_14 : decode cX4_findTelling 14 = .ok (.iload_n 2, 1) := by decide +kernel
theorem dX4_findTelling_15 : decode cX4_findTelling 15 = .ok (.getstatic 93, 3) := by decide +kernel
theorem dX4_findTelling_18 : decode cX4_findTelling 18 = .ok (.arraylength, 1) := by decide +kernel
theorem dX4_findTelling_19 : decode cX4_findTelling 19 = .ok (.if_icmp .ge 40, 3) := by decide +kernel
theorem dX4_findTelling_22 : decode cX4_findTelling 22 = .ok (.iconst 3, 1) := by decide +kernel
theorem dX4_findTelling_23 : decode cX4_findTelling 23 = .ok (.iload_n 2, 1) := by decide +kernel
theorem dX4_findTelling_24 : decode cX4_findTelling 24 = .ok (.imul, 1) := by decide +kernel
theorem dX4_findTelling_25 : decode cX4_findTelling 25 = .ok (.iconst 2, 1) := by decide +kernel
theorem dX4_findTelling_26 : decode cX4_findTelling 26 = .ok (.iload_n 1, 1) := by decide +kernel
theorem dX4_findTelling_27 : decode cX4_findTelling 27 = .ok (.imul, 1) := by decide +kernel
theorem dX4_findTelling_28 : decode cX4_findTelling 28 = .ok (.if_icmp .ge 31, 3) := by decide +kernel
theorem dX4_findTelling_31 : decode cX4_findTelling 31 = .ok (.aload_n 0, 1) := by decide +kernel
theorem dX4_findTelling_32 : decode cX4_findTelling 32 = .ok (.getstatic 93, 3) := by decide +kernel
theorem dX4_findTelling_35 : decode cX4_findTelling 35 = .ok (.iload_n 2, 1) := by decide +kernel
theorem dX4_findTelling_36 : decode cX4_findTelling 36 = .ok (.iaload, 1) := by decide +kernel
theorem dX4_findTelling_37 : decode cX4_findTelling 37 = .ok (.iload_n 1, 1) := by decide +kernel
theorem dX4_findTelling_38 : decode cX4_findTelling 38 = .ok (.invokevirtual 96, 3) := by decide +kernel
theorem dX4_findTelling_41 : decode cX4_findTelling 41 = .ok (.aload_n 0, 1) := by decide +kernel
theorem dX4_findTelling_42 : decode cX4_findTelling 42 = .ok (.getfield 56, 3) := by decide +kernel
theorem dX4_findTelling_45 : decode cX4_findTelling 45 = .ok (.ifCond .le 8, 3) := by decide +kernel
theorem dX4_findTelling_48 : decode cX4_findTelling 48 = .ok (.aload_n 0, 1) := by decide +kernel
theorem dX4_findTelling_49 : decode cX4_findTelling 49 = .ok (.getfield 56, 3) := by decide +kernel
theorem dX4_findTelling_52 : decode cX4_findTelling 52 = .ok (.istore_n 1, 1) := by decide +kernel
theorem dX4_findTelling_53 : decode cX4_findTelling 53 = .ok (.iinc 2 1, 3) := by decide +kernel
theorem dX4_findTelling_56 : decode cX4_findTelling 56 = .ok (.goto (-42), 3) := by decide +kernel
theorem dX4_findTelling_59 : decode cX4_findTelling 59 = .ok (.aload_n 0, 1) := by decide +kernel
theorem dX4_findTelling_60 : decode cX4_findTelling 60 = .ok (.getfield 56, 3) := by decide +kernel
theorem dX4_findTelling_63 : decode cX4_findTelling 63 = .ok (.ireturn, 1) := by decide +kernel
theorem dX4_searchBy_0 : decode cX4_searchBy 0 = .ok (.aload_n 0, 1) := by decide +kernel
theorem dX4_searchBy_1 : decode cX4_searchBy 1 = .ok (.iconst 0, 1) := by decide +kernel
theorem dX4_searchBy_2 : decode cX4_searchBy 2 = .ok (.putfield 28, 3) := by decide +kernel
theorem dX4_searchBy_5 : decode cX4_searchBy 5 = .ok (.iconst 0, 1) := by decide +kernel
theorem dX4_searchBy_6 : decode cX4_searchBy 6 = .ok (.istore_n 3, 1) := by decide +kernel
theorem dX4_searchBy_7 : decode cX4_searchBy 7 = .ok (.iload_n 3, 1) := by decide +kernel
theorem dX4_searchBy_8 : decode cX4_searchBy 8 = .ok (.aload_n 0, 1) := by decide +kernel
theorem dX4_searchBy_9 : decode cX4_searchBy 9 = .ok (.getfield 9, 3) := by decide +kernel
theorem dX4_searchBy_12 : decode cX4_searchBy 12 = .ok (.if_icmp .ge 26, 3) := by decide +kernel
theorem dX4_searchBy_15 : decode cX4_searchBy 15 = .ok (.aload_n 0, 1) := by decide +kernel
theorem dX4_searchBy_16 : decode cX4_searchBy 16 = .ok (.getfield 50, 3) := by decide +kernel
theorem dX4_searchBy_19 : decode cX4_searchBy 19 = .ok (.iload_n 3, 1) := by decide +kernel
theorem dX4_searchBy_20 : decode cX4_searchBy 20 = .ok (.aload_n 0, 1) := by decide +kernel
theorem dX4_searchBy_21 : decode cX4_searchBy 21 = .ok (.getfield 25, 3) := by decide +kernel
theorem dX4_searchBy_24 : decode cX4_searchBy 24 = .ok (.iload_n 3, 1) := by decide +kernel
theorem dX4_searchBy_25 : decode cX4_searchBy 25 = .ok (.iaload, 1) := by decide +kernel
theorem dX4_searchBy_26 : decode cX4_searchBy 26 = .ok (.i2l, 1) := by decide +kernel
theorem dX4_searchBy_27 : decode cX4_searchBy 27 = .ok (.iload_n 1, 1) := by decide +kernel
theorem dX4_searchBy_28 : decode cX4_searchBy 28 = .ok (.invokestatic 100, 3) := by decide +kernel
theorem dX4_searchBy_31 : decode cX4_searchBy 31 = .ok (.lastore, 1) := by decide +kernel
theorem dX4_searchBy_32 : decode cX4_searchBy 32 = .ok (.iinc 3 1, 3) := by decide +kernel
theorem dX4_searchBy_35 : decode cX4_searchBy 35 = .ok (.goto (-28), 3) := by decide +kernel
theorem dX4_searchBy_38 : decode cX4_searchBy 38 = .ok (.aload_n 0, 1) := by decide +kernel
theorem dX4_searchBy_39 : decode cX4_searchBy 39 = .ok (.iconst (-1), 1) := by decide +kernel
theorem dX4_searchBy_40 : decode cX4_searchBy 40 = .ok (.iconst 0, 1) := by decide +kernel
theorem dX4_searchBy_41 : decode cX4_searchBy 41 = .ok (.iload_n 1, 1) := by decide +kernel
theorem dX4_searchBy_42 : decode cX4_searchBy 42 = .ok (.invokevirtual 104, 3) := by decide +kernel
theorem dX4_searchBy_45 : decode cX4_searchBy 45 = .ok (.iconst 0, 1) := by decide +kernel
theorem dX4_searchBy_46 : decode cX4_searchBy 46 = .ok (.istore_n 3, 1) := by decide +kernel
theorem dX4_searchBy_47 : decode cX4_searchBy 47 = .ok (.iload_n 3, 1) := by decide +kernel
theorem dX4_searchBy_48 : decode cX4_searchBy 48 = .ok (.aload_n 0, 1) := by decide +kernel
theorem dX4_searchBy_49 : decode cX4_searchBy 49 = .ok (.getfield 28, 3) := by decide +kernel
theorem dX4_searchBy_52 : decode cX4_searchBy 52 = .ok (.if_icmp .ge 71, 3) := by decide +kernel
theorem dX4_searchBy_55 : decode cX4_searchBy 55 = .ok (.aload_n 0, 1) := by decide +kernel
theorem dX4_searchBy_56 : decode cX4_searchBy 56 = .ok (.getfield 34, 3) := by decide +kernel
theorem dX4_searchBy_59 : decode cX4_searchBy 59 = .ok (.iload_n 3, 1) := by decide +kernel
theorem dX4_searchBy_60 : decode cX4_searchBy 60 = .ok (.iaload, 1) := by decide +kernel
theorem dX4_searchBy_61 : decode cX4_searchBy 61 = .ok (.iload_n 2, 1) := by decide +kernel
theorem dX4_searchBy_62 : decode cX4_searchBy 62 = .ok (.if_icmp .ge 61, 3) := by decide +kernel
theorem dX4_searchBy_65 : decode cX4_searchBy 65 = .ok (.iconst 0, 1) := by decide +kernel
theorem dX4_searchBy_66 : decode cX4_searchBy 66 = .ok (.istore 4, 2) := by decide +kernel
theorem dX4_searchBy_68 : decode cX4_searchBy 68 = .ok (.iload 4, 2) := by decide +kernel
theorem dX4_searchBy_70 : decode cX4_searchBy 70 = .ok (.aload_n 0, 1) := by decide +kernel
theorem dX4_searchBy_71 : decode cX4_searchBy 71 = .ok (.getfield 15, 3) := by decide +kernel
theorem dX4_searchBy_74 : decode cX4_searchBy 74 = .ok (.if_icmp .ge 43, 3) := by decide +kernel
theorem dX4_searchBy_77 : decode cX4_searchBy 77 = .ok (.aload_n 0, 1) := by decide +kernel
theorem dX4_searchBy_78 : decode cX4_searchBy 78 = .ok (.iload_n 3, 1) := by decide +kernel
theorem dX4_searchBy_79 : decode cX4_searchBy 79 = .ok (.iload 4, 2) := by decide +kernel
theorem dX4_searchBy_81 : decode cX4_searchBy 81 = .ok (.iload_n 1, 1) := by decide +kernel
theorem dX4_searchBy_82 : decode cX4_searchBy 82 = .ok (.invokevirtual 108, 3) := by decide +kernel
theorem dX4_searchBy_85 : decode cX4_searchBy 85 = .ok (.lconst 0, 1) := by decide +kernel
theorem dX4_searchBy_86 : decode cX4_searchBy 86 = .ok (.lcmp, 1) := by decide +kernel
theorem dX4_searchBy_87 : decode cX4_searchBy 87 = .ok (.ifCond .eq 11, 3) := by decide +kernel
theorem dX4_searchBy_90 : decode cX4_searchBy 90 = .ok (.aload_n 0, 1) := by decide +kernel
theorem dX4_searchBy_91 : decode cX4_searchBy 91 = .ok (.iload_n 3, 1) := by decide +kernel
theorem dX4_searchBy_92 : decode cX4_searchBy 92 = .ok (.iload 4, 2) := by decide +kernel
theorem dX4_searchBy_94 : decode cX4_searchBy 94 = .ok (.invokevirtual 112, 3) := by decide +kernel
theorem dX4_searchBy_97 : decode cX4_searchBy 97 = .ok (.return_, 1) := by decide +kernel
theorem dX4_searchBy_98 : decode cX4_searchBy 98 = .ok (.aload_n 0, 1) := by decide +kernel
theorem dX4_searchBy_99 : decode cX4_searchBy 99 = .ok (.iload_n 1, 1) := by decide +kernel
theorem dX4_searchBy_100 : decode cX4_searchBy 100 = .ok (.invokevirtual 115, 3) := by decide +kernel
theorem dX4_searchBy_103 : decode cX4_searchBy 103 = .ok (.aload_n 0, 1) := by decide +kernel
theorem dX4_searchBy_104 : decode cX4_searchBy 104 = .ok (.iload_n 3, 1) := by decide +kernel
theorem dX4_searchBy_105 : decode cX4_searchBy 105 = .ok (.iload 4, 2) := by decide +kernel
theorem dX4_searchBy_107 : decode cX4_searchBy 107 = .ok (.iload_n 1, 1) := by decide +kernel
theorem dX4_searchBy_108 : decode cX4_searchBy 108 = .ok (.invokevirtual 104, 3) := by decide +kernel
theorem dX4_searchBy_111 : decode cX4_searchBy 111 = .ok (.iinc 4 1, 3) := by decide +kernel
theorem dX4_searchBy_114 : decode cX4_searchBy 114 = .ok (.goto (-46), 3) := by decide +kernel
theorem dX4_searchBy_117 : decode cX4_searchBy 117 = .ok (.iinc 3 1, 3) := by decide +kernel
theorem dX4_searchBy_120 : decode cX4_searchBy 120 = .ok (.goto (-73), 3) := by decide +kernel
theorem dX4_searchBy_123 : decode cX4_searchBy 123 = .ok (.return_, 1) := by decide +kernel
theorem dX4_restOf_0 : decode cX4_restOf 0 = .ok (.iload_n 2, 1) := by decide +kernel
theorem dX4_restOf_1 : decode cX4_restOf 1 = .ok (.iconst 2, 1) := by decide +kernel
theorem dX4_restOf_2 : decode cX4_restOf 2 = .ok (.if_icmp .ge 5, 3) := by decide +kernel
theorem dX4_restOf_5 : decode cX4_restOf 5 = .ok (.lconst 0, 1) := by decide +kernel
theorem dX4_restOf_6 : decode cX4_restOf 6 = .ok (.lreturn, 1) := by decide +kernel
theorem dX4_restOf_7 : decode cX4_restOf 7 = .ok (.lload_n 0, 1) := by decide +kernel
theorem dX4_restOf_8 : decode cX4_restOf 8 = .ok (.iload_n 2, 1) := by decide +kernel
theorem dX4_restOf_9 : decode cX4_restOf 9 = .ok (.i2l, 1) := by decide +kernel
theorem dX4_restOf_10 : decode cX4_restOf 10 = .ok (.lrem, 1) := by decide +kernel
theorem dX4_restOf_11 : decode cX4_restOf 11 = .ok (.lstore_n 3, 1) := by decide +kernel
theorem dX4_restOf_12 : decode cX4_restOf 12 = .ok (.lload_n 3, 1) := by decide +kernel
theorem dX4_restOf_13 : decode cX4_restOf 13 = .ok (.lconst 0, 1) := by decide +kernel
theorem dX4_restOf_14 : decode cX4_restOf 14 = .ok (.lcmp, 1) := by decide +kernel
theorem dX4_restOf_15 : decode cX4_restOf 15 = .ok (.ifCond .ge 10, 3) := by decide +kernel
theorem dX4_restOf_18 : decode cX4_restOf 18 = .ok (.lload_n 3, 1) := by decide +kernel
theorem dX4_restOf_19 : decode cX4_restOf 19 = .ok (.iload_n 2, 1) := by decide +kernel
theorem dX4_restOf_20 : decode cX4_restOf 20 = .ok (.i2l, 1) := by decide +kernel
theorem dX4_restOf_21 : decode cX4_restOf 21 = .ok (.ladd, 1) := by decide +kernel
theorem dX4_restOf_22 : decode cX4_restOf 22 = .ok (.goto 4, 3) := by decide +kernel
theorem dX4_restOf_25 : decode cX4_restOf 25 = .ok (.lload_n 3, 1) := by decide +kernel
theorem dX4_restOf_26 : decode cX4_restOf 26 = .ok (.lreturn, 1) := by decide +kernel
theorem dX4_showSign_0 : decode cX4_showSign 0 = .ok (.lconst 0, 1) := by decide +kernel
theorem dX4_showSign_1 : decode cX4_showSign 1 = .ok (.lstore 4, 2) := by decide +kernel
theorem dX4_showSign_3 : decode cX4_showSign 3 = .ok (.iconst 0, 1) := by decide +kernel
theorem dX4_showSign_4 : decode cX4_showSign 4 = .ok (.istore 6, 2) := by decide +kernel
theorem dX4_showSign_6 : decode cX4_showSign 6 = .ok (.iload 6, 2) := by decide +kernel
theorem dX4_showSign_8 : decode cX4_showSign 8 = .ok (.aload_n 0, 1) := by decide +kernel
theorem dX4_showSign_9 : decode cX4_showSign 9 = .ok (.getfield 9, 3) := by decide +kernel
theorem dX4_showSign_12 : decode cX4_showSign 12 = .ok (.if_icmp .ge 58, 3) := by decide +kernel
theorem dX4_showSign_15 : decode cX4_showSign 15 = .ok (.aload_n 0, 1) := by decide +kernel
theorem dX4_showSign_16 : decode cX4_showSign 16 = .ok (.getfield 47, 3) := by decide +kernel
theorem dX4_showSign_19 : decode cX4_showSign 19 = .ok (.iload 6, 2) := by decide +kernel
theorem dX4_showSign_21 : decode cX4_showSign 21 = .ok (.aload_n 0, 1) := by decide +kernel
theorem dX4_showSign_22 : decode cX4_showSign 22 = .ok (.getfield 37, 3) := by decide +kernel
theorem dX4_showSign_25 : decode cX4_showSign 25 = .ok (.iload_n 1, 1) := by decide +kernel
theorem dX4_showSign_26 : decode cX4_showSign 26 = .ok (.bipush 16, 2) := by decide +kernel
theorem dX4_showSign_28 : decode cX4_showSign 28 = .ok (.imul, 1) := by decide +kernel
theorem dX4_showSign_29 : decode cX4_showSign 29 = .ok (.iload 6, 2) := by decide +kernel
theorem dX4_showSign_31 : decode cX4_showSign 31 = .ok (.iadd, 1) := by decide +kernel
theorem dX4_showSign_32 : decode cX4_showSign 32 = .ok (.laload, 1) := by decide +kernel
theorem dX4_showSign_33 : decode cX4_showSign 33 = .ok (.aload_n 0, 1) := by decide +kernel
theorem dX4_showSign_34 : decode cX4_showSign 34 = .ok (.getfield 22, 3) := by decide +kernel
theorem dX4_showSign_37 : decode cX4_showSign 37 = .ok (.iload 6, 2) := by decide +kernel
theorem dX4_showSign_39 : decode cX4_showSign 39 = .ok (.bipush 6, 2) := by decide +kernel
theorem dX4_showSign_41 : decode cX4_showSign 41 = .ok (.imul, 1) := by decide +kernel
theorem dX4_showSign_42 : decode cX4_showSign 42 = .ok (.iload_n 2, 1) := by decide +kernel
theorem dX4_showSign_43 : decode cX4_showSign 43 = .ok (.iadd, 1) := by decide +kernel
theorem dX4_showSign_44 : decode cX4_showSign 44 = .ok (.iaload, 1) := by decide +kernel
theorem dX4_showSign_45 : decode cX4_showSign 45 = .ok (.i2l, 1) := by decide +kernel
theorem dX4_showSign_46 : decode cX4_showSign 46 = .ok (.lmul, 1) := by decide +kernel
theorem dX4_showSign_47 : decode cX4_showSign 47 = .ok (.iload_n 3, 1) := by decide +kernel
theorem dX4_showSign_48 : decode cX4_showSign 48 = .ok (.invokestatic 100, 3) := by decide +kernel
theorem dX4_showSign_51 : decode cX4_showSign 51 = .ok (.lastore, 1) := by decide +kernel
theorem dX4_showSign_52 : decode cX4_showSign 52 = .ok (.lload 4, 2) := by decide +kernel
theorem dX4_showSign_54 : decode cX4_showSign 54 = .ok (.aload_n 0, 1) := by decide +kernel
theorem dX4_showSign_55 : decode cX4_showSign 55 = .ok (.getfield 47, 3) := by decide +kernel
theorem dX4_showSign_58 : decode cX4_showSign 58 = .ok (.iload 6, 2) := by decide +kernel
theorem dX4_showSign_60 : decode cX4_showSign 60 = .ok (.laload, 1) := by decide +kernel
theorem dX4_showSign_61 : decode cX4_showSign 61 = .ok (.ladd, 1) := by decide +kernel
theorem dX4_showSign_62 : decode cX4_showSign 62 = .ok (.lstore 4, 2) := by decide +kernel
theorem dX4_showSign_64 : decode cX4_showSign 64 = .ok (.iinc 6 1, 3) := by decide +kernel
theorem dX4_showSign_67 : decode cX4_showSign 67 = .ok (.goto (-61), 3) := by decide +kernel
theorem dX4_showSign_70 : decode cX4_showSign 70 = .ok (.lload 4, 2) := by decide +kernel
theorem dX4_showSign_72 : decode cX4_showSign 72 = .ok (.iload_n 3, 1) := by decide +kernel
theorem dX4_showSign_73 : decode cX4_showSign 73 = .ok (.invokestatic 100, 3) := by decide +kernel
theorem dX4_showSign_76 : decode cX4_showSign 76 = .ok (.lreturn, 1) := by decide +kernel
theorem dX4_goOn_0 : decode cX4_goOn 0 = .ok (.iconst 0, 1) := by decide +kernel
theorem dX4_goOn_1 : decode cX4_goOn 1 = .ok (.istore_n 2, 1) := by decide +kernel
theorem dX4_goOn_2 : decode cX4_goOn 2 = .ok (.iload_n 2, 1) := by decide +kernel
theorem dX4_goOn_3 : decode cX4_goOn 3 = .ok (.aload_n 0, 1) := by decide +kernel
theorem dX4_goOn_4 : decode cX4_goOn 4 = .ok (.getfield 9, 3) := by decide +kernel
theorem dX4_goOn_7 : decode cX4_goOn 7 = .ok (.if_icmp .ge 64, 3) := by decide +kernel
theorem dX4_goOn_10 : decode cX4_goOn 10 = .ok (.lconst 0, 1) := by decide +kernel
theorem dX4_goOn_11 : decode cX4_goOn 11 = .ok (.lstore_n 3, 1) := by decide +kernel
theorem dX4_goOn_12 : decode cX4_goOn 12 = .ok (.iconst 0, 1) := by decide +kernel
theorem dX4_goOn_13 : decode cX4_goOn 13 = .ok (.istore 5, 2) := by decide +kernel
theorem dX4_goOn_15 : decode cX4_goOn 15 = .ok (.iload 5, 2) := by decide +kernel
theorem dX4_goOn_17 : decode cX4_goOn 17 = .ok (.aload_n 0, 1) := by decide +kernel
theorem dX4_goOn_18 : decode cX4_goOn 18 = .ok (.getfield 9, 3) := by decide +kernel
theorem dX4_goOn_21 : decode cX4_goOn 21 = .ok (.if_icmp .ge 33, 3) := by decide +kernel
theorem dX4_goOn_24 : decode cX4_goOn 24 = .ok (.lload_n 3, 1) := by decide +kernel
theorem dX4_goOn_25 : decode cX4_goOn 25 = .ok (.aload_n 0, 1) := by decide +kernel
theorem dX4_goOn_26 : decode cX4_goOn 26 = .ok (.getfield 47, 3) := by decide +kernel
theorem dX4_goOn_29 : decode cX4_goOn 29 = .ok (.iload 5, 2) := by decide +kernel
theorem dX4_goOn_31 : decode cX4_goOn 31 = .ok (.laload, 1) := by decide +kernel
theorem dX4_goOn_32 : decode cX4_goOn 32 = .ok (.aload_n 0, 1) := by decide +kernel
theorem dX4_goOn_33 : decode cX4_goOn 33 = .ok (.getfield 18, 3) := by decide +kernel
theorem dX4_goOn_36 : decode cX4_goOn 36 = .ok (.iload 5, 2) := by decide +kernel
theorem dX4_goOn_38 : decode cX4_goOn 38 = .ok (.bipush 16, 2) := by decide +kernel
theorem dX4_goOn_40 : decode cX4_goOn 40 = .ok (.imul, 1) := by decide +kernel
theorem dX4_goOn_41 : decode cX4_goOn 41 = .ok (.iload_n 2, 1) := by decide +kernel
theorem dX4_goOn_42 : decode cX4_goOn 42 = .ok (.iadd, 1) := by decide +kernel
theorem dX4_goOn_43 : decode cX4_goOn 43 = .ok (.iaload, 1) := by decide +kernel
theorem dX4_goOn_44 : decode cX4_goOn 44 = .ok (.i2l, 1) := by decide +kernel
theorem dX4_goOn_45 : decode cX4_goOn 45 = .ok (.lmul, 1) := by decide +kernel
theorem dX4_goOn_46 : decode cX4_goOn 46 = .ok (.ladd, 1) := by decide +kernel
theorem dX4_goOn_47 : decode cX4_goOn 47 = .ok (.lstore_n 3, 1) := by decide +kernel
theorem dX4_goOn_48 : decode cX4_goOn 48 = .ok (.iinc 5 1, 3) := by decide +kernel
theorem dX4_goOn_51 : decode cX4_goOn 51 = .ok (.goto (-36), 3) := by decide +kernel
theorem dX4_goOn_54 : decode cX4_goOn 54 = .ok (.aload_n 0, 1) := by decide +kernel
theorem dX4_goOn_55 : decode cX4_goOn 55 = .ok (.getfield 50, 3) := by decide +kernel
theorem dX4_goOn_58 : decode cX4_goOn 58 = .ok (.iload_n 2, 1) := by decide +kernel
theorem dX4_goOn_59 : decode cX4_goOn 59 = .ok (.lload_n 3, 1) := by decide +kernel
theorem dX4_goOn_60 : decode cX4_goOn 60 = .ok (.iload_n 1, 1) := by decide +kernel
theorem dX4_goOn_61 : decode cX4_goOn 61 = .ok (.invokestatic 100, 3) := by decide +kernel
theorem dX4_goOn_64 : decode cX4_goOn 64 = .ok (.lastore, 1) := by decide +kernel
theorem dX4_goOn_65 : decode cX4_goOn 65 = .ok (.iinc 2 1, 3) := by decide +kernel
theorem dX4_goOn_68 : decode cX4_goOn 68 = .ok (.goto (-66), 3) := by decide +kernel
theorem dX4_goOn_71 : decode cX4_goOn 71 = .ok (.return_, 1) := by decide +kernel
theorem dX4_keepGrown_0 : decode cX4_keepGrown 0 = .ok (.aload_n 0, 1) := by decide +kernel
theorem dX4_keepGrown_1 : decode cX4_keepGrown 1 = .ok (.getfield 28, 3) := by decide +kernel
theorem dX4_keepGrown_4 : decode cX4_keepGrown 4 = .ok (.bipush 16, 2) := by decide +kernel
theorem dX4_keepGrown_6 : decode cX4_keepGrown 6 = .ok (.if_icmp .lt 4, 3) := by decide +kernel
theorem dX4_keepGrown_9 : decode cX4_keepGrown 9 = .ok (.return_, 1) := by decide +kernel
theorem dX4_keepGrown_10 : decode cX4_keepGrown 10 = .ok (.aload_n 0, 1) := by decide +kernel
theorem dX4_keepGrown_11 : decode cX4_keepGrown 11 = .ok (.getfield 28, 3) := by decide +kernel
theorem dX4_keepGrown_14 : decode cX4_keepGrown 14 = .ok (.bipush 16, 2) := by decide +kernel
theorem dX4_keepGrown_16 : decode cX4_keepGrown 16 = .ok (.imul, 1) := by decide +kernel
theorem dX4_keepGrown_17 : decode cX4_keepGrown 17 = .ok (.istore 4, 2) := by decide +kernel
theorem dX4_keepGrown_19 : decode cX4_keepGrown 19 = .ok (.iconst 0, 1) := by decide +kernel
theorem dX4_keepGrown_20 : decode cX4_keepGrown 20 = .ok (.istore 5, 2) := by decide +kernel
theorem dX4_keepGrown_22 : decode cX4_keepGrown 22 = .ok (.iload 5, 2) := by decide +kernel
theorem dX4_keepGrown_24 : decode cX4_keepGrown 24 = .ok (.aload_n 0, 1) := by decide +kernel
theorem dX4_keepGrown_25 : decode cX4_keepGrown 25 = .ok (.getfield 9, 3) := by decide +kernel
theorem dX4_keepGrown_28 : decode cX4_keepGrown 28 = .ok (.if_icmp .ge 43, 3) := by decide +kernel
theorem dX4_keepGrown_31 : decode cX4_keepGrown 31 = .ok (.aload_n 0, 1) := by decide +kernel
theorem dX4_keepGrown_32 : decode cX4_keepGrown 32 = .ok (.getfield 37, 3) := by decide +kernel
theorem dX4_keepGrown_35 : decode cX4_keepGrown 35 = .ok (.iload 4, 2) := by decide +kernel
theorem dX4_keepGrown_37 : decode cX4_keepGrown 37 = .ok (.iload 5, 2) := by decide +kernel
theorem dX4_keepGrown_39 : decode cX4_keepGrown 39 = .ok (.iadd, 1) := by decide +kernel
theorem dX4_keepGrown_40 : decode cX4_keepGrown 40 = .ok (.aload_n 0, 1) := by decide +kernel
theorem dX4_keepGrown_41 : decode cX4_keepGrown 41 = .ok (.getfield 50, 3) := by decide +kernel
theorem dX4_keepGrown_44 : decode cX4_keepGrown 44 = .ok (.iload 5, 2) := by decide +kernel
theorem dX4_keepGrown_46 : decode cX4_keepGrown 46 = .ok (.laload, 1) := by decide +kernel
theorem dX4_keepGrown_47 : decode cX4_keepGrown 47 = .ok (.lastore, 1) := by decide +kernel
theorem dX4_keepGrown_48 : decode cX4_keepGrown 48 = .ok (.aload_n 0, 1) := by decide +kernel
theorem dX4_keepGrown_49 : decode cX4_keepGrown 49 = .ok (.getfield 41, 3) := by decide +kernel
theorem dX4_keepGrown_52 : decode cX4_keepGrown 52 = .ok (.iload 4, 2) := by decide +kernel
theorem dX4_keepGrown_54 : decode cX4_keepGrown 54 = .ok (.iload 5, 2) := by decide +kernel
theorem dX4_keepGrown_56 : decode cX4_keepGrown 56 = .ok (.iadd, 1) := by decide +kernel
theorem dX4_keepGrown_57 : decode cX4_keepGrown 57 = .ok (.aload_n 0, 1) := by decide +kernel
theorem dX4_keepGrown_58 : decode cX4_keepGrown 58 = .ok (.getfield 50, 3) := by decide +kernel
theorem dX4_keepGrown_61 : decode cX4_keepGrown 61 = .ok (.iload 5, 2) := by decide +kernel
theorem dX4_keepGrown_63 : decode cX4_keepGrown 63 = .ok (.laload, 1) := by decide +kernel
theorem dX4_keepGrown_64 : decode cX4_keepGrown 64 = .ok (.lastore, 1) := by decide +kernel
theorem dX4_keepGrown_65 : decode cX4_keepGrown 65 = .ok (.iinc 5 1, 3) := by decide +kernel
theorem dX4_keepGrown_68 : decode cX4_keepGrown 68 = .ok (.goto (-46), 3) := by decide +kernel
theorem dX4_keepGrown_71 : decode cX4_keepGrown 71 = .ok (.aload_n 0, 1) := by decide +kernel
theorem dX4_keepGrown_72 : decode cX4_keepGrown 72 = .ok (.iload_n 3, 1) := by decide +kernel
theorem dX4_keepGrown_73 : decode cX4_keepGrown 73 = .ok (.invokevirtual 118, 3) := by decide +kernel
theorem dX4_keepGrown_76 : decode cX4_keepGrown 76 = .ok (.istore 5, 2) := by decide +kernel
theorem dX4_keepGrown_78 : decode cX4_keepGrown 78 = .ok (.iload 5, 2) := by decide +kernel
theorem dX4_keepGrown_80 : decode cX4_keepGrown 80 = .ok (.ifCond .ge 4, 3) := by decide +kernel
theorem dX4_keepGrown_83 : decode cX4_keepGrown 83 = .ok (.return_, 1) := by decide +kernel
theorem dX4_keepGrown_84 : decode cX4_keepGrown 84 = .ok (.aload_n 0, 1) := by decide +kernel
theorem dX4_keepGrown_85 : decode cX4_keepGrown 85 = .ok (.getfield 44, 3) := by decide +kernel
theorem dX4_keepGrown_88 : decode cX4_keepGrown 88 = .ok (.aload_n 0, 1) := by decide +kernel
theorem dX4_keepGrown_89 : decode cX4_keepGrown 89 = .ok (.getfield 28, 3) := by decide +kernel
theorem dX4_keepGrown_92 : decode cX4_keepGrown 92 = .ok (.iload 5, 2) := by decide +kernel
theorem dX4_keepGrown_94 : decode cX4_keepGrown 94 = .ok (.iastore, 1) := by decide +kernel
theorem dX4_keepGrown_95 : decode cX4_keepGrown 95 = .ok (.aload_n 0, 1) := by decide +kernel
theorem dX4_keepGrown_96 : decode cX4_keepGrown 96 = .ok (.getfield 34, 3) := by decide +kernel
theorem dX4_keepGrown_99 : decode cX4_keepGrown 99 = .ok (.aload_n 0, 1) := by decide +kernel
theorem dX4_keepGrown_100 : decode cX4_keepGrown 100 = .ok (.getfield 28, 3) := by decide +kernel
theorem dX4_keepGrown_103 : decode cX4_keepGrown 103 = .ok (.iconst 0, 1) := by decide +kernel
theorem dX4_keepGrown_104 : decode cX4_keepGrown 104 = .ok (.iastore, 1) := by decide +kernel
theorem dX4_keepGrown_105 : decode cX4_keepGrown 105 = .ok (.iload_n 1, 1) := by decide +kernel
theorem dX4_keepGrown_106 : decode cX4_keepGrown 106 = .ok (.ifCond .lt 24, 3) := by decide +kernel
theorem dX4_keepGrown_109 : decode cX4_keepGrown 109 = .ok (.aload_n 0, 1) := by decide +kernel
theorem dX4_keepGrown_110 : decode cX4_keepGrown 110 = .ok (.getfield 34, 3) := by decide +kernel
theorem dX4_keepGrown_113 : decode cX4_keepGrown 113 = .ok (.aload_n 0, 1) := by decide +kernel
theorem dX4_keepGrown_114 : decode cX4_keepGrown 114 = .ok (.getfield 28, 3) := by decide +kernel
theorem dX4_keepGrown_117 : decode cX4_keepGrown 117 = .ok (.aload_n 0, 1) := by decide +kernel
theorem dX4_keepGrown_118 : decode cX4_keepGrown 118 = .ok (.aload_n 0, 1) := by decide +kernel
theorem dX4_keepGrown_119 : decode cX4_keepGrown 119 = .ok (.getfield 31, 3) := by decide +kernel
theorem dX4_keepGrown_122 : decode cX4_keepGrown 122 = .ok (.iload 4, 2) := by decide +kernel
theorem dX4_keepGrown_124 : decode cX4_keepGrown 124 = .ok (.iload_n 1, 1) := by decide +kernel
theorem dX4_keepGrown_125 : decode cX4_keepGrown 125 = .ok (.iload_n 2, 1) := by decide +kernel
theorem dX4_keepGrown_126 : decode cX4_keepGrown 126 = .ok (.invokevirtual 121, 3) := by decide +kernel
theorem dX4_keepGrown_129 : decode cX4_keepGrown 129 = .ok (.iastore, 1) := by decide +kernel
theorem dX4_keepGrown_130 : decode cX4_keepGrown 130 = .ok (.aload_n 0, 1) := by decide +kernel
theorem dX4_keepGrown_131 : decode cX4_keepGrown 131 = .ok (.dup, 1) := by decide +kernel
theorem dX4_keepGrown_132 : decode cX4_keepGrown 132 = .ok (.getfield 28, 3) := by decide +kernel
theorem dX4_keepGrown_135 : decode cX4_keepGrown 135 = .ok (.iconst 1, 1) := by decide +kernel
theorem dX4_keepGrown_136 : decode cX4_keepGrown 136 = .ok (.iadd, 1) := by decide +kernel
theorem dX4_keepGrown_137 : decode cX4_keepGrown 137 = .ok (.putfield 28, 3) := by decide +kernel
theorem dX4_keepGrown_140 : decode cX4_keepGrown 140 = .ok (.return_, 1) := by decide +kernel
theorem dX4_reduceLast_0 : decode cX4_reduceLast 0 = .ok (.aload_n 0, 1) := by decide +kernel
theorem dX4_reduceLast_1 : decode cX4_reduceLast 1 = .ok (.getfield 28, 3) := by decide +kernel
theorem dX4_reduceLast_4 : decode cX4_reduceLast 4 = .ok (.bipush 16, 2) := by decide +kernel
theorem dX4_reduceLast_6 : decode cX4_reduceLast 6 = .ok (.imul, 1) := by decide +kernel
theorem dX4_reduceLast_7 : decode cX4_reduceLast 7 = .ok (.istore_n 2, 1) := by decide +kernel
theorem dX4_reduceLast_8 : decode cX4_reduceLast 8 = .ok (.iconst 0, 1) := by decide +kernel
theorem dX4_reduceLast_9 : decode cX4_reduceLast 9 = .ok (.istore_n 3, 1) := by decide +kernel
theorem dX4_reduceLast_10 : decode cX4_reduceLast 10 = .ok (.iload_n 3, 1) := by decide +kernel
theorem dX4_reduceLast_11 : decode cX4_reduceLast 11 = .ok (.aload_n 0, 1) := by decide +kernel
theorem dX4_reduceLast_12 : decode cX4_reduceLast 12 = .ok (.getfield 28, 3) := by decide +kernel
theorem dX4_reduceLast_15 : decode cX4_reduceLast 15 = .ok (.if_icmp .ge 110, 3) := by decide +kernel
theorem dX4_reduceLast_18 : decode cX4_reduceLast 18 = .ok (.iload_n 3, 1) := by decide +kernel
theorem dX4_reduceLast_19 : decode cX4_reduceLast 19 = .ok (.bipush 16, 2) := by decide +kernel
theorem dX4_reduceLast_21 : decode cX4_reduceLast 21 = .ok (.imul, 1) := by decide +kernel
theorem dX4_reduceLast_22 : decode cX4_reduceLast 22 = .ok (.istore 4, 2) := by decide +kernel
theorem dX4_reduceLast_24 : decode cX4_reduceLast 24 = .ok (.aload_n 0, 1) := by decide +kernel
theorem dX4_reduceLast_25 : decode cX4_reduceLast 25 = .ok (.getfield 41, 3) := by decide +kernel
theorem dX4_reduceLast_28 : decode cX4_reduceLast 28 = .ok (.iload_n 2, 1) := by decide +kernel
theorem dX4_reduceLast_29 : decode cX4_reduceLast 29 = .ok (.aload_n 0, 1) := by decide +kernel
theorem dX4_reduceLast_30 : decode cX4_reduceLast 30 = .ok (.getfield 44, 3) := by decide +kernel
theorem dX4_reduceLast_33 : decode cX4_reduceLast 33 = .ok (.iload_n 3, 1) := by decide +kernel
theorem dX4_reduceLast_34 : decode cX4_reduceLast 34 = .ok (.iaload, 1) := by decide +kernel
theorem dX4_reduceLast_35 : decode cX4_reduceLast 35 = .ok (.iadd, 1) := by decide +kernel
theorem dX4_reduceLast_36 : decode cX4_reduceLast 36 = .ok (.laload, 1) := by decide +kernel
theorem dX4_reduceLast_37 : decode cX4_reduceLast 37 = .ok (.lstore 5, 2) := by decide +kernel
theorem dX4_reduceLast_39 : decode cX4_reduceLast 39 = .ok (.aload_n 0, 1) := by decide +kernel
theorem dX4_reduceLast_40 : decode cX4_reduceLast 40 = .ok (.getfield 41, 3) := by decide +kernel
theorem dX4_reduceLast_43 : decode cX4_reduceLast 43 = .ok (.iload 4, 2) := by decide +kernel
theorem dX4_reduceLast_45 : decode cX4_reduceLast 45 = .ok (.aload_n 0, 1) := by decide +kernel
theorem dX4_reduceLast_46 : decode cX4_reduceLast 46 = .ok (.getfield 44, 3) := by decide +kernel
theorem dX4_reduceLast_49 : decode cX4_reduceLast 49 = .ok (.iload_n 3, 1) := by decide +kernel
theorem dX4_reduceLast_50 : decode cX4_reduceLast 50 = .ok (.iaload, 1) := by decide +kernel
theorem dX4_reduceLast_51 : decode cX4_reduceLast 51 = .ok (.iadd, 1) := by decide +kernel
theorem dX4_reduceLast_52 : decode cX4_reduceLast 52 = .ok (.laload, 1) := by decide +kernel
theorem dX4_reduceLast_53 : decode cX4_reduceLast 53 = .ok (.lstore 7, 2) := by decide +kernel
theorem dX4_reduceLast_55 : decode cX4_reduceLast 55 = .ok (.iconst 0, 1) := by decide +kernel
theorem dX4_reduceLast_56 : decode cX4_reduceLast 56 = .ok (.istore 9, 2) := by decide +kernel
theorem dX4_reduceLast_58 : decode cX4_reduceLast 58 = .ok (.lload 5, 2) := by decide +kernel
theorem dX4_reduceLast_60 : decode cX4_reduceLast 60 = .ok (.lconst 0, 1) := by decide +kernel
theorem dX4_reduceLast_61 : decode cX4_reduceLast 61 = .ok (.lcmp, 1) := by decide +kernel
theorem dX4_reduceLast_62 : decode cX4_reduceLast 62 = .ok (.ifCond .eq 57, 3) := by decide +kernel
theorem dX4_reduceLast_65 : decode cX4_reduceLast 65 = .ok (.iload 9, 2) := by decide +kernel
theorem dX4_reduceLast_67 : decode cX4_reduceLast 67 = .ok (.aload_n 0, 1) := by decide +kernel
theorem dX4_reduceLast_68 : decode cX4_reduceLast 68 = .ok (.getfield 9, 3) := by decide +kernel
theorem dX4_reduceLast_71 : decode cX4_reduceLast 71 = .ok (.if_icmp .ge 48, 3) := by decide +kernel
theorem dX4_reduceLast_74 : decode cX4_reduceLast 74 = .ok (.aload_n 0, 1) := by decide +kernel
theorem dX4_reduceLast_75 : decode cX4_reduceLast 75 = .ok (.getfield 41, 3) := by decide +kernel
theorem dX4_reduceLast_78 : decode cX4_reduceLast 78 = .ok (.iload_n 2, 1) := by decide +kernel
theorem dX4_reduceLast_79 : decode cX4_reduceLast 79 = .ok (.iload 9, 2) := by decide +kernel
theorem dX4_reduceLast_81 : decode cX4_reduceLast 81 = .ok (.iadd, 1) := by decide +kernel
theorem dX4_reduceLast_82 : decode cX4_reduceLast 82 = .ok (.aload_n 0, 1) := by decide +kernel
theorem dX4_reduceLast_83 : decode cX4_reduceLast 83 = .ok (.getfield 41, 3) := by decide +kernel
theorem dX4_reduceLast_86 : decode cX4_reduceLast 86 = .ok (.iload_n 2, 1) := by decide +kernel
theorem dX4_reduceLast_87 : decode cX4_reduceLast 87 = .ok (.iload 9, 2) := by decide +kernel
theorem dX4_reduceLast_89 : decode cX4_reduceLast 89 = .ok (.iadd, 1) := by decide +kernel
theorem dX4_reduceLast_90 : decode cX4_reduceLast 90 = .ok (.laload, 1) := by decide +kernel
theorem dX4_reduceLast_91 : decode cX4_reduceLast 91 = .ok (.lload 7, 2) := by decide +kernel
theorem dX4_reduceLast_93 : decode cX4_reduceLast 93 = .ok (.lmul, 1) := by decide +kernel
theorem dX4_reduceLast_94 : decode cX4_reduceLast 94 = .ok (.aload_n 0, 1) := by decide +kernel
theorem dX4_reduceLast_95 : decode cX4_reduceLast 95 = .ok (.getfield 41, 3) := by decide +kernel
theorem dX4_reduceLast_98 : decode cX4_reduceLast 98 = .ok (.iload 4, 2) := by decide +kernel
theorem dX4_reduceLast_100 : decode cX4_reduceLast 100 = .ok (.iload 9, 2) := by decide +kernel
theorem dX4_reduceLast_102 : decode cX4_reduceLast 102 = .ok (.iadd, 1) := by decide +kernel
theorem dX4_reduceLast_103 : decode cX4_reduceLast 103 = .ok (.laload, 1) := by decide +kernel
theorem dX4_reduceLast_104 : decode cX4_reduceLast 104 = .ok (.lload 5, 2) := by decide +kernel
theorem dX4_reduceLast_106 : decode cX4_reduceLast 106 = .ok (.lmul, 1) := by decide +kernel
theorem dX4_reduceLast_107 : decode cX4_reduceLast 107 = .ok (.lsub, 1) := by decide +kernel
theorem dX4_reduceLast_108 : decode cX4_reduceLast 108 = .ok (.iload_n 1, 1) := by decide +kernel
theorem dX4_reduceLast_109 : decode cX4_reduceLast 109 = .ok (.invokestatic 100, 3) := by decide +kernel
theorem dX4_reduceLast_112 : decode cX4_reduceLast 112 = .ok (.lastore, 1) := by decide +kernel
theorem dX4_reduceLast_113 : decode cX4_reduceLast 113 = .ok (.iinc 9 1, 3) := by decide +kernel
theorem dX4_reduceLast_116 : decode cX4_reduceLast 116 = .ok (.goto (-58), 3) := by decide +kernel
theorem dX4_reduceLast_119 : decode cX4_reduceLast 119 = .ok (.iinc 3 1, 3) := by decide +kernel
theorem dX4_reduceLast_122 : decode cX4_reduceLast 122 = .ok (.goto (-112), 3) := by decide +kernel
theorem dX4_reduceLast_125 : decode cX4_reduceLast 125 = .ok (.iconst 0, 1) := by decide +kernel
theorem dX4_reduceLast_126 : decode cX4_reduceLast 126 = .ok (.istore_n 3, 1) := by decide +kernel
theorem dX4_reduceLast_127 : decode cX4_reduceLast 127 = .ok (.iload_n 3, 1) := by decide +kernel
theorem dX4_reduceLast_128 : decode cX4_reduceLast 128 = .ok (.aload_n 0, 1) := by decide +kernel
theorem dX4_reduceLast_129 : decode cX4_reduceLast 129 = .ok (.getfield 9, 3) := by decide +kernel
theorem dX4_reduceLast_132 : decode cX4_reduceLast 132 = .ok (.if_icmp .ge 24, 3) := by decide +kernel
theorem dX4_reduceLast_135 : decode cX4_reduceLast 135 = .ok (.aload_n 0, 1) := by decide +kernel
theorem dX4_reduceLast_136 : decode cX4_reduceLast 136 = .ok (.getfield 41, 3) := by decide +kernel
theorem dX4_reduceLast_139 : decode cX4_reduceLast 139 = .ok (.iload_n 2, 1) := by decide +kernel
theorem dX4_reduceLast_140 : decode cX4_reduceLast 140 = .ok (.iload_n 3, 1) := by decide +kernel
theorem dX4_reduceLast_141 : decode cX4_reduceLast 141 = .ok (.iadd, 1) := by decide +kernel
theorem dX4_reduceLast_142 : decode cX4_reduceLast 142 = .ok (.laload, 1) := by decide +kernel
theorem dX4_reduceLast_143 : decode cX4_reduceLast 143 = .ok (.lconst 0, 1) := by decide +kernel
theorem dX4_reduceLast_144 : decode cX4_reduceLast 144 = .ok (.lcmp, 1) := by decide +kernel
theorem dX4_reduceLast_145 : decode cX4_reduceLast 145 = .ok (.ifCond .eq 5, 3) := by decide +kernel
theorem dX4_reduceLast_148 : decode cX4_reduceLast 148 = .ok (.iload_n 3, 1) := by decide +kernel
theorem dX4_reduceLast_149 : decode cX4_reduceLast 149 = .ok (.ireturn, 1) := by decide +kernel
theorem dX4_reduceLast_150 : decode cX4_reduceLast 150 = .ok (.iinc 3 1, 3) := by decide +kernel
theorem dX4_reduceLast_153 : decode cX4_reduceLast 153 = .ok (.goto (-26), 3) := by decide +kernel
theorem dX4_reduceLast_156 : decode cX4_reduceLast 156 = .ok (.iconst (-1), 1) := by decide +kernel
theorem dX4_reduceLast_157 : decode cX4_reduceLast 157 = .ok (.ireturn, 1) := by decide +kernel
theorem dX4_writeWord_0 : decode cX4_writeWord 0 = .ok (.aload_n 0, 1) := by decide +kernel
theorem dX4_writeWord_1 : decode cX4_writeWord 1 = .ok (.getfield 34, 3) := by decide +kernel
theorem dX4_writeWord_4 : decode cX4_writeWord 4 = .ok (.iload_n 3, 1) := by decide +kernel
theorem dX4_writeWord_5 : decode cX4_writeWord 5 = .ok (.iaload, 1) := by decide +kernel
theorem dX4_writeWord_6 : decode cX4_writeWord 6 = .ok (.istore 5, 2) := by decide +kernel
theorem dX4_writeWord_8 : decode cX4_writeWord 8 = .ok (.iconst 0, 1) := by decide +kernel
theorem dX4_writeWord_9 : decode cX4_writeWord 9 = .ok (.istore 6, 2) := by decide +kernel
theorem dX4_writeWord_11 : decode cX4_writeWord 11 = .ok (.iload 6, 2) := by decide +kernel
theorem dX4_writeWord_13 : decode cX4_writeWord 13 = .ok (.iload 5, 2) := by decide +kernel
theorem dX4_writeWord_15 : decode cX4_writeWord 15 = .ok (.if_icmp .ge 36, 3) := by decide +kernel
theorem dX4_writeWord_18 : decode cX4_writeWord 18 = .ok (.iload_n 2, 1) := by decide +kernel
theorem dX4_writeWord_19 : decode cX4_writeWord 19 = .ok (.iload 6, 2) := by decide +kernel
theorem dX4_writeWord_21 : decode cX4_writeWord 21 = .ok (.iadd, 1) := by decide +kernel
theorem dX4_writeWord_22 : decode cX4_writeWord 22 = .ok (.aload_n 1, 1) := by decide +kernel
theorem dX4_writeWord_23 : decode cX4_writeWord 23 = .ok (.arraylength, 1) := by decide +kernel
theorem dX4_writeWord_24 : decode cX4_writeWord 24 = .ok (.if_icmp .ge 27, 3) := by decide +kernel
theorem dX4_writeWord_27 : decode cX4_writeWord 27 = .ok (.aload_n 1, 1) := by decide +kernel
theorem dX4_writeWord_28 : decode cX4_writeWord 28 = .ok (.iload_n 2, 1) := by decide +kernel
theorem dX4_writeWord_29 : decode cX4_writeWord 29 = .ok (.iload 6, 2) := by decide +kernel
theorem dX4_writeWord_31 : decode cX4_writeWord 31 = .ok (.iadd, 1) := by decide +kernel
theorem dX4_writeWord_32 : decode cX4_writeWord 32 = .ok (.aload_n 0, 1) := by decide +kernel
theorem dX4_writeWord_33 : decode cX4_writeWord 33 = .ok (.getfield 31, 3) := by decide +kernel
theorem dX4_writeWord_36 : decode cX4_writeWord 36 = .ok (.iload_n 3, 1) := by decide +kernel
theorem dX4_writeWord_37 : decode cX4_writeWord 37 = .ok (.bipush 16, 2) := by decide +kernel
theorem dX4_writeWord_39 : decode cX4_writeWord 39 = .ok (.imul, 1) := by decide +kernel
theorem dX4_writeWord_40 : decode cX4_writeWord 40 = .ok (.iload 6, 2) := by decide +kernel
theorem dX4_writeWord_42 : decode cX4_writeWord 42 = .ok (.iadd, 1) := by decide +kernel
theorem dX4_writeWord_43 : decode cX4_writeWord 43 = .ok (.iaload, 1) := by decide +kernel
theorem dX4_writeWord_44 : decode cX4_writeWord 44 = .ok (.iastore, 1) := by decide +kernel
theorem dX4_writeWord_45 : decode cX4_writeWord 45 = .ok (.iinc 6 1, 3) := by decide +kernel
theorem dX4_writeWord_48 : decode cX4_writeWord 48 = .ok (.goto (-37), 3) := by decide +kernel
theorem dX4_writeWord_51 : decode cX4_writeWord 51 = .ok (.iload_n 2, 1) := by decide +kernel
theorem dX4_writeWord_52 : decode cX4_writeWord 52 = .ok (.iload 5, 2) := by decide +kernel
theorem dX4_writeWord_54 : decode cX4_writeWord 54 = .ok (.iadd, 1) := by decide +kernel
theorem dX4_writeWord_55 : decode cX4_writeWord 55 = .ok (.aload_n 1, 1) := by decide +kernel
theorem dX4_writeWord_56 : decode cX4_writeWord 56 = .ok (.arraylength, 1) := by decide +kernel
theorem dX4_writeWord_57 : decode cX4_writeWord 57 = .ok (.if_icmp .ge 11, 3) := by decide +kernel
theorem dX4_writeWord_60 : decode cX4_writeWord 60 = .ok (.aload_n 1, 1) := by decide +kernel
theorem dX4_writeWord_61 : decode cX4_writeWord 61 = .ok (.iload_n 2, 1) := by decide +kernel
theorem dX4_writeWord_62 : decode cX4_writeWord 62 = .ok (.iload 5, 2) := by decide +kernel
theorem dX4_writeWord_64 : decode cX4_writeWord 64 = .ok (.iadd, 1) := by decide +kernel
theorem dX4_writeWord_65 : decode cX4_writeWord 65 = .ok (.iload 4, 2) := by decide +kernel
theorem dX4_writeWord_67 : decode cX4_writeWord 67 = .ok (.iastore, 1) := by decide +kernel
theorem dX4_writeWord_68 : decode cX4_writeWord 68 = .ok (.iload 5, 2) := by decide +kernel
theorem dX4_writeWord_70 : decode cX4_writeWord 70 = .ok (.iconst 1, 1) := by decide +kernel
theorem dX4_writeWord_71 : decode cX4_writeWord 71 = .ok (.iadd, 1) := by decide +kernel
theorem dX4_writeWord_72 : decode cX4_writeWord 72 = .ok (.ireturn, 1) := by decide +kernel
theorem dX4_offerFound_0 : decode cX4_offerFound 0 = .ok (.aload_n 0, 1) := by decide +kernel
theorem dX4_offerFound_1 : decode cX4_offerFound 1 = .ok (.getfield 56, 3) := by decide +kernel
theorem dX4_offerFound_4 : decode cX4_offerFound 4 = .ok (.ifCond .eq 12, 3) := by decide +kernel
theorem dX4_offerFound_7 : decode cX4_offerFound 7 = .ok (.aload_n 0, 1) := by decide +kernel
theorem dX4_offerFound_8 : decode cX4_offerFound 8 = .ok (.iload_n 1, 1) := by decide +kernel
theorem dX4_offerFound_9 : decode cX4_offerFound 9 = .ok (.iload_n 2, 1) := by decide +kernel
theorem dX4_offerFound_10 : decode cX4_offerFound 10 = .ok (.invokevirtual 125, 3) := by decide +kernel
theorem dX4_offerFound_13 : decode cX4_offerFound 13 = .ok (.ifCond .eq 18, 3) := by decide +kernel
theorem dX4_offerFound_16 : decode cX4_offerFound 16 = .ok (.aload_n 0, 1) := by decide +kernel
theorem dX4_offerFound_17 : decode cX4_offerFound 17 = .ok (.aload_n 0, 1) := by decide +kernel
theorem dX4_offerFound_18 : decode cX4_offerFound 18 = .ok (.aload_n 0, 1) := by decide +kernel
theorem dX4_offerFound_19 : decode cX4_offerFound 19 = .ok (.getfield 53, 3) := by decide +kernel
theorem dX4_offerFound_22 : decode cX4_offerFound 22 = .ok (.iconst 0, 1) := by decide +kernel
theorem dX4_offerFound_23 : decode cX4_offerFound 23 = .ok (.iload_n 1, 1) := by decide +kernel
theorem dX4_offerFound_24 : decode cX4_offerFound 24 = .ok (.iload_n 2, 1) := by decide +kernel
theorem dX4_offerFound_25 : decode cX4_offerFound 25 = .ok (.invokevirtual 121, 3) := by decide +kernel
theorem dX4_offerFound_28 : decode cX4_offerFound 28 = .ok (.putfield 56, 3) := by decide +kernel
theorem dX4_offerFound_31 : decode cX4_offerFound 31 = .ok (.return_, 1) := by decide +kernel
theorem dX4_comesBeforeFound_0 : decode cX4_comesBeforeFound 0 = .ok (.aload_n 0, 1) := by decide +kernel
theorem dX4_comesBeforeFound_1 : decode cX4_comesBeforeFound 1 = .ok (.getfield 34, 3) := by decide +kernel
theorem dX4_comesBeforeFound_4 : decode cX4_comesBeforeFound 4 = .ok (.iload_n 1, 1) := by decide +kernel
theorem dX4_comesBeforeFound_5 : decode cX4_comesBeforeFound 5 = .ok (.iaload, 1) := by decide +kernel
theorem dX4_comesBeforeFound_6 : decode cX4_comesBeforeFound 6 = .ok (.istore_n 3, 1) := by decide +kernel
theorem dX4_comesBeforeFound_7 : decode cX4_comesBeforeFound 7 = .ok (.iload_n 3, 1) := by decide +kernel
theorem dX4_comesBeforeFound_8 : decode cX4_comesBeforeFound 8 = .ok (.iconst 1, 1) := by decide +kernel
theorem dX4_comesBeforeFound_9 : decode cX4_comesBeforeFound 9 = .ok (.iadd, 1) := by decide +kernel
theorem dX4_comesBeforeFound_10 : decode cX4_comesBeforeFound 10 = .ok (.aload_n 0, 1) := by decide +kernel
theorem dX4_comesBeforeFound_11 : decode cX4_comesBeforeFound 11 = .ok (.getfield 56, 3) := by decide +kernel
theorem dX4_comesBeforeFound_14 : decode cX4_comesBeforeFound 14 = .ok (.if_icmp .eq 19, 3) := by decide +kernel
theorem dX4_comesBeforeFound_17 : decode cX4_comesBeforeFound 17 = .ok (.iload_n 3, 1) := by decide +kernel
theorem dX4_comesBeforeFound_18 : decode cX4_comesBeforeFound 18 = .ok (.iconst 1, 1) := by decide +kernel
theorem dX4_comesBeforeFound_19 : decode cX4_comesBeforeFound 19 = .ok (.iadd, 1) := by decide +kernel
theorem dX4_comesBeforeFound_20 : decode cX4_comesBeforeFound 20 = .ok (.aload_n 0, 1) := by decide +kernel
theorem dX4_comesBeforeFound_21 : decode cX4_comesBeforeFound 21 = .ok (.getfield 56, 3) := by decide +kernel
theorem dX4_comesBeforeFound_24 : decode cX4_comesBeforeFound 24 = .ok (.if_icmp .ge 7, 3) := by decide +kernel
theorem dX4_comesBeforeFound_27 : decode cX4_comesBeforeFound 27 = .ok (.iconst 1, 1) := by decide +kernel
theorem dX4_comesBeforeFound_28 : decode cX4_comesBeforeFound 28 = .ok (.goto 4, 3) := by decide +kernel
theorem dX4_comesBeforeFound_31 : decode cX4_comesBeforeFound 31 = .ok (.iconst 0, 1) := by decide +kernel
theorem dX4_comesBeforeFound_32 : decode cX4_comesBeforeFound 32 = .ok (.ireturn, 1) := by decide +kernel
theorem dX4_comesBeforeFound_33 : decode cX4_comesBeforeFound 33 = .ok (.iconst 0, 1) := by decide +kernel
theorem dX4_comesBeforeFound_34 : decode cX4_comesBeforeFound 34 = .ok (.istore 4, 2) := by decide +kernel
theorem dX4_comesBeforeFound_36 : decode cX4_comesBeforeFound 36 = .ok (.iload 4, 2) := by decide +kernel
theorem dX4_comesBeforeFound_38 : decode cX4_comesBeforeFound 38 = .ok (.iload_n 3, 1) := by decide +kernel
theorem dX4_comesBeforeFound_39 : decode cX4_comesBeforeFound 39 = .ok (.if_icmp .ge 53, 3) := by decide +kernel
theorem dX4_comesBeforeFound_42 : decode cX4_comesBeforeFound 42 = .ok (.aload_n 0, 1) := by decide +kernel
theorem dX4_comesBeforeFound_43 : decode cX4_comesBeforeFound 43 = .ok (.getfield 31, 3) := by decide +kernel
theorem dX4_comesBeforeFound_46 : decode cX4_comesBeforeFound 46 = .ok (.iload_n 1, 1) := by decide +kernel
theorem dX4_comesBeforeFound_47 : decode cX4_comesBeforeFound 47 = .ok (.bipush 16, 2) := by decide +kernel
theorem dX4_comesBeforeFound_49 : decode cX4_comesBeforeFound 49 = .ok (.imul, 1) := by decide +kernel
theorem dX4_comesBeforeFound_50 : decode cX4_comesBeforeFound 50 = .ok (.iload 4, 2) := by decide +kernel
theorem dX4_comesBeforeFound_52 : decode cX4_comesBeforeFound 52 = .ok (.iadd, 1) := by decide +kernel
theorem dX4_comesBeforeFound_53 : decode cX4_comesBeforeFound 53 = .ok (.iaload, 1) := by decide +kernel
theorem dX4_comesBeforeFound_54 : decode cX4_comesBeforeFound 54 = .ok (.istore 5, 2) := by decide +kernel
theorem dX4_comesBeforeFound_56 : decode cX4_comesBeforeFound 56 = .ok (.iload 5, 2) := by decide +kernel
theorem dX4_comesBeforeFound_58 : decode cX4_comesBeforeFound 58 = .ok (.aload_n 0, 1) := by decide +kernel
theorem dX4_comesBeforeFound_59 : decode cX4_comesBeforeFound 59 = .ok (.getfield 53, 3) := by decide +kernel
theorem dX4_comesBeforeFound_62 : decode cX4_comesBeforeFound 62 = .ok (.iload 4, 2) := by decide +kernel
theorem dX4_comesBeforeFound_64 : decode cX4_comesBeforeFound 64 = .ok (.iaload, 1) := by decide +kernel
theorem dX4_comesBeforeFound_65 : decode cX4_comesBeforeFound 65 = .ok (.if_icmp .eq 21, 3) := by decide +kernel
theorem dX4_comesBeforeFound_68 : decode cX4_comesBeforeFound 68 = .ok (.iload 5, 2) := by decide +kernel
theorem dX4_comesBeforeFound_70 : decode cX4_comesBeforeFound 70 = .ok (.aload_n 0, 1) := by decide +kernel
theorem dX4_comesBeforeFound_71 : decode cX4_comesBeforeFound 71 = .ok (.getfield 53, 3) := by decide +kernel
theorem dX4_comesBeforeFound_74 : decode cX4_comesBeforeFound 74 = .ok (.iload 4, 2) := by decide +kernel
theorem dX4_comesBeforeFound_76 : decode cX4_comesBeforeFound 76 = .ok (.iaload, 1) := by decide +kernel
theorem dX4_comesBeforeFound_77 : decode cX4_comesBeforeFound 77 = .ok (.if_icmp .ge 7, 3) := by decide +kernel
theorem dX4_comesBeforeFound_80 : decode cX4_comesBeforeFound 80 = .ok (.iconst 1, 1) := by decide +kernel
theorem dX4_comesBeforeFound_81 : decode cX4_comesBeforeFound 81 = .ok (.goto 4, 3) := by decide +kernel
theorem dX4_comesBeforeFound_84 : decode cX4_comesBeforeFound 84 = .ok (.iconst 0, 1) := by decide +kernel
theorem dX4_comesBeforeFound_85 : decode cX4_comesBeforeFound 85 = .ok (.ireturn, 1) := by decide +kernel
theorem dX4_comesBeforeFound_86 : decode cX4_comesBeforeFound 86 = .ok (.iinc 4 1, 3) := by decide +kernel
theorem dX4_comesBeforeFound_89 : decode cX4_comesBeforeFound 89 = .ok (.goto (-53), 3) := by decide +kernel
theorem dX4_comesBeforeFound_92 : decode cX4_comesBeforeFound 92 = .ok (.iload_n 2, 1) := by decide +kernel
theorem dX4_comesBeforeFound_93 : decode cX4_comesBeforeFound 93 = .ok (.aload_n 0, 1) := by decide +kernel
theorem dX4_comesBeforeFound_94 : decode cX4_comesBeforeFound 94 = .ok (.getfield 53, 3) := by decide +kernel
theorem dX4_comesBeforeFound_97 : decode cX4_comesBeforeFound 97 = .ok (.iload_n 3, 1) := by decide +kernel
theorem dX4_comesBeforeFound_98 : decode cX4_comesBeforeFound 98 = .ok (.iaload, 1) := by decide +kernel
theorem dX4_comesBeforeFound_99 : decode cX4_comesBeforeFound 99 = .ok (.if_icmp .ge 7, 3) := by decide +kernel
theorem dX4_comesBeforeFound_102 : decode cX4_comesBeforeFound 102 = .ok (.iconst 1, 1) := by decide +kernel
theorem dX4_comesBeforeFound_103 : decode cX4_comesBeforeFound 103 = .ok (.goto 4, 3) := by decide +kernel
theorem dX4_comesBeforeFound_106 : decode cX4_comesBeforeFound 106 = .ok (.iconst 0, 1) := by decide +kernel
theorem dX4_comesBeforeFound_107 : decode cX4_comesBeforeFound 107 = .ok (.ireturn, 1) := by decide +kernel
