theorem dX6_init_0 : decode cX6_init 0 = .ok (.aload_n 0, 1) := by decide +kernel
theorem dX6_init_1 : decode cX6_init 1 = .ok (.invokespecial 3, 3) := by decide +kernel
theorem dX6_init_4 : decode cX6_init 4 = .ok (.aload_n 0, 1) := by decide +kernel
theorem dX6_init_5 : decode cX6_init 5 = .ok (.bipush 6, 2) := by decide +kernel
theorem dX6_init_7 : decode cX6_init 7 = .ok (.anewarray 9, 3) := by decide +kernel
theorem dX6_init_10 : decode cX6_init 10 = .ok (.putfield 11, 3) := by decide +kernel
theorem dX6_init_13 : decode cX6_init 13 = .ok (.aload_n 0, 1) := by decide +kernel
theorem dX6_init_14 : decode cX6_init 14 = .ok (.iconst 0, 1) := by decide +kernel
theorem dX6_init_15 : decode cX6_init 15 = .ok (.putfield 15, 3) := by decide +kernel
theorem dX6_init_18 : decode cX6_init 18 = .ok (.aload_n 0, 1) := by decide +kernel
theorem dX6_init_19 : decode cX6_init 19 = .ok (.new 19, 3) := by decide +kernel
theorem dX6_init_22 : decode cX6_init 22 = .ok (.dup, 1) := by decide +kernel
theorem dX6_init_23 : decode cX6_init 23 = .ok (.invokespecial 21, 3) := by decide +kernel
theorem dX6_init_26 : decode cX6_init 26 = .ok (.putfield 22, 3) := by decide +kernel
theorem dX6_init_29 : decode cX6_init 29 = .ok (.aload_n 0, 1) := by decide +kernel
theorem dX6_init_30 : decode cX6_init 30 = .ok (.new 26, 3) := by decide +kernel
theorem dX6_init_33 : decode cX6_init 33 = .ok (.dup, 1) := by decide +kernel
theorem dX6_init_34 : decode cX6_init 34 = .ok (.bipush 42, 2) := by decide +kernel
theorem dX6_init_36 : decode cX6_init 36 = .ok (.invokespecial 28, 3) := by decide +kernel
theorem dX6_init_39 : decode cX6_init 39 = .ok (.putfield 31, 3) := by decide +kernel
theorem dX6_init_42 : decode cX6_init 42 = .ok (.aload_n 0, 1) := by decide +kernel
theorem dX6_init_43 : decode cX6_init 43 = .ok (.new 35, 3) := by decide +kernel
theorem dX6_init_46 : decode cX6_init 46 = .ok (.dup, 1) := by decide +kernel
theorem dX6_init_47 : decode cX6_init 47 = .ok (.invokespecial 37, 3) := by decide +kernel
theorem dX6_init_50 : decode cX6_init 50 = .ok (.putfield 38, 3) := by decide +kernel
theorem dX6_init_53 : decode cX6_init 53 = .ok (.aload_n 0, 1) := by decide +kernel
theorem dX6_init_54 : decode cX6_init 54 = .ok (.new 26, 3) := by decide +kernel
theorem dX6_init_57 : decode cX6_init 57 = .ok (.dup, 1) := by decide +kernel
theorem dX6_init_58 : decode cX6_init 58 = .ok (.bipush 84, 2) := by decide +kernel
theorem dX6_init_60 : decode cX6_init 60 = .ok (.invokespecial 28, 3) := by decide +kernel
theorem dX6_init_63 : decode cX6_init 63 = .ok (.putfield 42, 3) := by decide +kernel
theorem dX6_init_66 : decode cX6_init 66 = .ok (.aload_n 0, 1) := by decide +kernel
theorem dX6_init_67 : decode cX6_init 67 = .ok (.new 26, 3) := by decide +kernel
theorem dX6_init_70 : decode cX6_init 70 = .ok (.dup, 1) := by decide +kernel
theorem dX6_init_71 : decode cX6_init 71 = .ok (.bipush 84, 2) := by decide +kernel
theorem dX6_init_73 : decode cX6_init 73 = .ok (.invokespecial 28, 3) := by decide +kernel
theorem dX6_init_76 : decode cX6_init 76 = .ok (.putfield 45, 3) := by decide +kernel
theorem dX6_init_79 : decode cX6_init 79 = .ok (.aload_n 0, 1) := by decide +kernel
theorem dX6_init_80 : decode cX6_init 80 = .ok (.new 48, 3) := by decide +kernel
theorem dX6_init_83 : decode cX6_init 83 = .ok (.dup, 1) := by decide +kernel
theorem dX6_init_84 : decode cX6_init 84 = .ok (.invokespecial 50, 3) := by decide +kernel
theorem dX6_init_87 : decode cX6_init 87 = .ok (.putfield 51, 3) := by decide +kernel
theorem dX6_init_90 : decode cX6_init 90 = .ok (.aload_n 0, 1) := by decide +kernel
theorem dX6_init_91 : decode cX6_init 91 = .ok (.aconst_null, 1) := by decide +kernel
theorem dX6_init_92 : decode cX6_init 92 = .ok (.putfield 55, 3) := by decide +kernel
theorem dX6_init_95 : decode cX6_init 95 = .ok (.aload_n 0, 1) := by decide +kernel
theorem dX6_init_96 : decode cX6_init 96 = .ok (.bipush 60, 2) := by decide +kernel
theorem dX6_init_98 : decode cX6_init 98 = .ok (.newarray .int, 2) := by decide +kernel
theorem dX6_init_100 : decode cX6_init 100 = .ok (.putfield 59, 3) := by decide +kernel
theorem dX6_init_103 : decode cX6_init 103 = .ok (.aload_n 0, 1) := by decide +kernel
theorem dX6_init_104 : decode cX6_init 104 = .ok (.iconst 0, 1) := by decide +kernel
theorem dX6_init_105 : decode cX6_init 105 = .ok (.putfield 63, 3) := by decide +kernel
theorem dX6_init_108 : decode cX6_init 108 = .ok (.return_, 1) := by decide +kernel
theorem dX6_chain_0 : decode cX6_chain 0 = .ok (.iload_n 1, 1) := by decide +kernel
theorem dX6_chain_1 : decode cX6_chain 1 = .ok (.iconst 1, 1) := by decide +kernel
theorem dX6_chain_2 : decode cX6_chain 2 = .ok (.bipush 8, 2) := by decide +kernel
theorem dX6_chain_4 : decode cX6_chain 4 = .ok (.invokestatic 66, 3) := by decide +kernel
theorem dX6_chain_7 : decode cX6_chain 7 = .ok (.ifCond .eq 24, 3) := by decide +kernel
theorem dX6_chain_10 : decode cX6_chain 10 = .ok (.iload_n 2, 1) := by decide +kernel
theorem dX6_chain_11 : decode cX6_chain 11 = .ok (.iconst 1, 1) := by decide +kernel
theorem dX6_chain_12 : decode cX6_chain 12 = .ok (.bipush 6, 2) := by decide +kernel
theorem dX6_chain_14 : decode cX6_chain 14 = .ok (.invokestatic 66, 3) := by decide +kernel
theorem dX6_chain_17 : decode cX6_chain 17 = .ok (.ifCond .eq 14, 3) := by decide +kernel
theorem dX6_chain_20 : decode cX6_chain 20 = .ok (.iload_n 3, 1) := by decide +kernel
theorem dX6_chain_21 : decode cX6_chain 21 = .ok (.iconst 1, 1) := by decide +kernel
theorem dX6_chain_22 : decode cX6_chain 22 = .ok (.sipush 1000, 3) := by decide +kernel
theorem dX6_chain_25 : decode cX6_chain 25 = .ok (.invokestatic 66, 3) := by decide +kernel
theorem dX6_chain_28 : decode cX6_chain 28 = .ok (.ifCond .ne 5, 3) := by decide +kernel
theorem dX6_chain_31 : decode cX6_chain 31 = .ok (.iconst (-1), 1) := by decide +kernel
theorem dX6_chain_32 : decode cX6_chain 32 = .ok (.ireturn, 1) := by decide +kernel
theorem dX6_chain_33 : decode cX6_chain 33 = .ok (.aload_n 0, 1) := by decide +kernel
theorem dX6_chain_34 : decode cX6_chain 34 = .ok (.getfield 15, 3) := by decide +kernel
theorem dX6_chain_37 : decode cX6_chain 37 = .ok (.bipush 6, 2) := by decide +kernel
theorem dX6_chain_39 : decode cX6_chain 39 = .ok (.if_icmp .lt 6, 3) := by decide +kernel
theorem dX6_chain_42 : decode cX6_chain 42 = .ok (.bipush (-6), 2) := by decide +kernel
theorem dX6_chain_44 : decode cX6_chain 44 = .ok (.ireturn, 1) := by decide +kernel
theorem dX6_chain_45 : decode cX6_chain 45 = .ok (.aload_n 0, 1) := by decide +kernel
theorem dX6_chain_46 : decode cX6_chain 46 = .ok (.getfield 11, 3) := by decide +kernel
theorem dX6_chain_49 : decode cX6_chain 49 = .ok (.aload_n 0, 1) := by decide +kernel
theorem dX6_chain_50 : decode cX6_chain 50 = .ok (.getfield 15, 3) := by decide +kernel
theorem dX6_chain_53 : decode cX6_chain 53 = .ok (.new 9, 3) := by decide +kernel
theorem dX6_chain_56 : decode cX6_chain 56 = .ok (.dup, 1) := by decide +kernel
theorem dX6_chain_57 : decode cX6_chain 57 = .ok (.iload_n 1, 1) := by decide +kernel
theorem dX6_chain_58 : decode cX6_chain 58 = .ok (.iload_n 2, 1) := by decide +kernel
theorem dX6_chain_59 : decode cX6_chain 59 = .ok (.iload_n 3, 1) := by decide +kernel
theorem dX6_chain_60 : decode cX6_chain 60 = .ok (.invokespecial 70, 3) := by decide +kernel
theorem dX6_chain_63 : decode cX6_chain 63 = .ok (.aastore, 1) := by decide +kernel
theorem dX6_chain_64 : decode cX6_chain 64 = .ok (.aload_n 0, 1) := by decide +kernel
theorem dX6_chain_65 : decode cX6_chain 65 = .ok (.dup, 1) := by decide +kernel
theorem dX6_chain_66 : decode cX6_chain 66 = .ok (.getfield 15, 3) := by decide +kernel
theorem dX6_chain_69 : decode cX6_chain 69 = .ok (.iconst 1, 1) := by decide +kernel
theorem dX6_chain_70 : decode cX6_chain 70 = .ok (.iadd, 1) := by decide +kernel
theorem dX6_chain_71 : decode cX6_chain 71 = .ok (.putfield 15, 3) := by decide +kernel
theorem dX6_chain_74 : decode cX6_chain 74 = .ok (.aload_n 0, 1) := by decide +kernel
theorem dX6_chain_75 : decode cX6_chain 75 = .ok (.getfield 15, 3) := by decide +kernel
theorem dX6_chain_78 : decode cX6_chain 78 = .ok (.iconst 1, 1) := by decide +kernel
theorem dX6_chain_79 : decode cX6_chain 79 = .ok (.isub, 1) := by decide +kernel
theorem dX6_chain_80 : decode cX6_chain 80 = .ok (.ireturn, 1) := by decide +kernel
theorem dX6_begin_0 : decode cX6_begin 0 = .ok (.aload_n 0, 1) := by decide +kernel
theorem dX6_begin_1 : decode cX6_begin 1 = .ok (.iload_n 1, 1) := by decide +kernel
theorem dX6_begin_2 : decode cX6_begin 2 = .ok (.invokevirtual 73, 3) := by decide +kernel
theorem dX6_begin_5 : decode cX6_begin 5 = .ok (.astore 4, 2) := by decide +kernel
theorem dX6_begin_7 : decode cX6_begin 7 = .ok (.aload 4, 2) := by decide +kernel
theorem dX6_begin_9 : decode cX6_begin 9 = .ok (.ifnull 21, 3) := by decide +kernel
theorem dX6_begin_12 : decode cX6_begin 12 = .ok (.aload 4, 2) := by decide +kernel
theorem dX6_begin_14 : decode cX6_begin 14 = .ok (.iload_n 2, 1) := by decide +kernel
theorem dX6_begin_15 : decode cX6_begin 15 = .ok (.invokevirtual 77, 3) := by decide +kernel
theorem dX6_begin_18 : decode cX6_begin 18 = .ok (.ifCond .eq 12, 3) := by decide +kernel
theorem dX6_begin_21 : decode cX6_begin 21 = .ok (.aload 4, 2) := by decide +kernel
theorem dX6_begin_23 : decode cX6_begin 23 = .ok (.iload_n 3, 1) := by decide +kernel
theorem dX6_begin_24 : decode cX6_begin 24 = .ok (.invokevirtual 81, 3) := by decide +kernel
theorem dX6_begin_27 : decode cX6_begin 27 = .ok (.ifCond .ne 5, 3) := by decide +kernel
theorem dX6_begin_30 : decode cX6_begin 30 = .ok (.iconst (-1), 1) := by decide +kernel
theorem dX6_begin_31 : decode cX6_begin 31 = .ok (.ireturn, 1) := by decide +kernel
theorem dX6_begin_32 : decode cX6_begin 32 = .ok (.aload 4, 2) := by decide +kernel
theorem dX6_begin_34 : decode cX6_begin 34 = .ok (.iload_n 2, 1) := by decide +kernel
theorem dX6_begin_35 : decode cX6_begin 35 = .ok (.iload_n 3, 1) := by decide +kernel
theorem dX6_begin_36 : decode cX6_begin 36 = .ok (.invokevirtual 84, 3) := by decide +kernel
theorem dX6_begin_39 : decode cX6_begin 39 = .ok (.ireturn, 1) := by decide +kernel
theorem dX6_go_0 : decode cX6_go 0 = .ok (.aload_n 0, 1) := by decide +kernel
theorem dX6_go_1 : decode cX6_go 1 = .ok (.iload_n 1, 1) := by decide +kernel
theorem dX6_go_2 : decode cX6_go 2 = .ok (.invokevirtual 73, 3) := by decide +kernel
theorem dX6_go_5 : decode cX6_go 5 = .ok (.astore 5, 2) := by decide +kernel
theorem dX6_go_7 : decode cX6_go 7 = .ok (.aload 5, 2) := by decide +kernel
theorem dX6_go_9 : decode cX6_go 9 = .ok (.ifnull 31, 3) := by decide +kernel
theorem dX6_go_12 : decode cX6_go 12 = .ok (.aload 5, 2) := by decide +kernel
theorem dX6_go_14 : decode cX6_go 14 = .ok (.iload_n 2, 1) := by decide +kernel
theorem dX6_go_15 : decode cX6_go 15 = .ok (.invokevirtual 77, 3) := by decide +kernel
theorem dX6_go_18 : decode cX6_go 18 = .ok (.ifCond .eq 22, 3) := by decide +kernel
theorem dX6_go_21 : decode cX6_go 21 = .ok (.aload 5, 2) := by decide +kernel
theorem dX6_go_23 : decode cX6_go 23 = .ok (.iload_n 3, 1) := by decide +kernel
theorem dX6_go_24 : decode cX6_go 24 = .ok (.invokevirtual 77, 3) := by decide +kernel
theorem dX6_go_27 : decode cX6_go 27 = .ok (.ifCond .eq 13, 3) := by decide +kernel
theorem dX6_go_30 : decode cX6_go 30 = .ok (.aload 5, 2) := by decide +kernel
theorem dX6_go_32 : decode cX6_go 32 = .ok (.iload 4, 2) := by decide +kernel
theorem dX6_go_34 : decode cX6_go 34 = .ok (.invokevirtual 81, 3) := by decide +kernel
theorem dX6_go_37 : decode cX6_go 37 = .ok (.ifCond .ne 5, 3) := by decide +kernel
theorem dX6_go_40 : decode cX6_go 40 = .ok (.iconst (-1), 1) := by decide +kernel
theorem dX6_go_41 : decode cX6_go 41 = .ok (.ireturn, 1) := by decide +kernel
theorem dX6_go_42 : decode cX6_go 42 = .ok (.aload 5, 2) := by decide +kernel
theorem dX6_go_44 : decode cX6_go 44 = .ok (.iload_n 2, 1) := by decide +kernel
theorem dX6_go_45 : decode cX6_go 45 = .ok (.iload_n 3, 1) := by decide +kernel
theorem dX6_go_46 : decode cX6_go 46 = .ok (.iload 4, 2) := by decide +kernel
theorem dX6_go_48 : decode cX6_go 48 = .ok (.invokevirtual 88, 3) := by decide +kernel
theorem dX6_go_51 : decode cX6_go 51 = .ok (.ireturn, 1) := by decide +kernel
theorem dX6_show_0 : decode cX6_show 0 = .ok (.aload_n 0, 1) := by decide +kernel
theorem dX6_show_1 : decode cX6_show 1 = .ok (.iload_n 1, 1) := by decide +kernel
theorem dX6_show_2 : decode cX6_show 2 = .ok (.invokevirtual 73, 3) := by decide +kernel
theorem dX6_show_5 : decode cX6_show 5 = .ok (.astore 5, 2) := by decide +kernel
theorem dX6_show_7 : decode cX6_show 7 = .ok (.aload 5, 2) := by decide +kernel
theorem dX6_show_9 : decode cX6_show 9 = .ok (.ifnull 31, 3) := by decide +kernel
theorem dX6_show_12 : decode cX6_show 12 = .ok (.aload 5, 2) := by decide +kernel
theorem dX6_show_14 : decode cX6_show 14 = .ok (.iload_n 2, 1) := by decide +kernel
theorem dX6_show_15 : decode cX6_show 15 = .ok (.invokevirtual 77, 3) := by decide +kernel
theorem dX6_show_18 : decode cX6_show 18 = .ok (.ifCond .eq 22, 3) := by decide +kernel
theorem dX6_show_21 : decode cX6_show 21 = .ok (.aload 5, 2) := by decide +kernel
theorem dX6_show_23 : decode cX6_show 23 = .ok (.iload_n 3, 1) := by decide +kernel
theorem dX6_show_24 : decode cX6_show 24 = .ok (.invokevirtual 92, 3) := by decide +kernel
theorem dX6_show_27 : decode cX6_show 27 = .ok (.ifCond .eq 13, 3) := by decide +kernel
theorem dX6_show_30 : decode cX6_show 30 = .ok (.aload 5, 2) := by decide +kernel
theorem dX6_show_32 : decode cX6_show 32 = .ok (.iload 4, 2) := by decide +kernel
theorem dX6_show_34 : decode cX6_show 34 = .ok (.invokevirtual 81, 3) := by decide +kernel
theorem dX6_show_37 : decode cX6_show 37 = .ok (.ifCond .ne 5, 3) := by decide +kernel
theorem dX6_show_40 : decode cX6_show 40 = .ok (.iconst (-1), 1) := by decide +kernel
theorem dX6_show_41 : decode cX6_show 41 = .ok (.ireturn, 1) := by decide +kernel
theorem dX6_show_42 : decode cX6_show 42 = .ok (.aload 5, 2) := by decide +kernel
theorem dX6_show_44 : decode cX6_show 44 = .ok (.iload_n 2, 1) := by decide +kernel
theorem dX6_show_45 : decode cX6_show 45 = .ok (.iload_n 3, 1) := by decide +kernel
theorem dX6_show_46 : decode cX6_show 46 = .ok (.iload 4, 2) := by decide +kernel
theorem dX6_show_48 : decode cX6_show 48 = .ok (.invokevirtual 95, 3) := by decide +kernel
theorem dX6_show_51 : decode cX6_show 51 = .ok (.ireturn, 1) := by decide +kernel
theorem dX6_sound_0 : decode cX6_sound 0 = .ok (.aload_n 0, 1) := by decide +kernel
theorem dX6_sound_1 : decode cX6_sound 1 = .ok (.iload_n 1, 1) := by decide +kernel
theorem dX6_sound_2 : decode cX6_sound 2 = .ok (.invokevirtual 73, 3) := by decide +kernel
theorem dX6_sound_5 : decode cX6_sound 5 = .ok (.astore_n 2, 1) := by decide +kernel
theorem dX6_sound_6 : decode cX6_sound 6 = .ok (.aload_n 2, 1) := by decide +kernel
theorem dX6_sound_7 : decode cX6_sound 7 = .ok (.ifnonnull 5, 3) := by decide +kernel
theorem dX6_sound_10 : decode cX6_sound 10 = .ok (.iconst (-1), 1) := by decide +kernel
theorem dX6_sound_11 : decode cX6_sound 11 = .ok (.ireturn, 1) := by decide +kernel
theorem dX6_sound_12 : decode cX6_sound 12 = .ok (.aload_n 2, 1) := by decide +kernel
theorem dX6_sound_13 : decode cX6_sound 13 = .ok (.invokevirtual 98, 3) := by decide +kernel
theorem dX6_sound_16 : decode cX6_sound 16 = .ok (.ifCond .eq 7, 3) := by decide +kernel
theorem dX6_sound_19 : decode cX6_sound 19 = .ok (.iconst 1, 1) := by decide +kernel
theorem dX6_sound_20 : decode cX6_sound 20 = .ok (.goto 4, 3) := by decide +kernel
theorem dX6_sound_23 : decode cX6_sound 23 = .ok (.iconst 0, 1) := by decide +kernel
theorem dX6_sound_24 : decode cX6_sound 24 = .ok (.ireturn, 1) := by decide +kernel
theorem dX6_told_0 : decode cX6_told 0 = .ok (.aload_n 0, 1) := by decide +kernel
theorem dX6_told_1 : decode cX6_told 1 = .ok (.iload_n 1, 1) := by decide +kernel
theorem dX6_told_2 : decode cX6_told 2 = .ok (.invokevirtual 73, 3) := by decide +kernel
theorem dX6_told_5 : decode cX6_told 5 = .ok (.astore_n 3, 1) := by decide +kernel
theorem dX6_told_6 : decode cX6_told 6 = .ok (.aload_n 3, 1) := by decide +kernel
theorem dX6_told_7 : decode cX6_told 7 = .ok (.ifnonnull 5, 3) := by decide +kernel
theorem dX6_told_10 : decode cX6_told 10 = .ok (.iconst (-1), 1) := by decide +kernel
theorem dX6_told_11 : decode cX6_told 11 = .ok (.ireturn, 1) := by decide +kernel
theorem dX6_told_12 : decode cX6_told 12 = .ok (.iload_n 2, 1) := by decide +kernel
theorem dX6_told_13 : decode cX6_told 13 = .ok (.tableswitch 42 0 2 #[27, 32, 37], 27) := by decide +kernel
theorem dX6_told_40 : decode cX6_told 40 = .ok (.aload_n 3, 1) := by decide +kernel
theorem dX6_told_41 : decode cX6_told 41 = .ok (.getfield 102, 3) := by decide +kernel
theorem dX6_told_44 : decode cX6_told 44 = .ok (.ireturn, 1) := by decide +kernel
theorem dX6_told_45 : decode cX6_told 45 = .ok (.aload_n 3, 1) := by decide +kernel
theorem dX6_told_46 : decode cX6_told 46 = .ok (.getfield 105, 3) := by decide +kernel
theorem dX6_told_49 : decode cX6_told 49 = .ok (.ireturn, 1) := by decide +kernel
theorem dX6_told_50 : decode cX6_told 50 = .ok (.aload_n 3, 1) := by decide +kernel
theorem dX6_told_51 : decode cX6_told 51 = .ok (.getfield 108, 3) := by decide +kernel
theorem dX6_told_54 : decode cX6_told 54 = .ok (.ireturn, 1) := by decide +kernel
theorem dX6_told_55 : decode cX6_told 55 = .ok (.iconst (-1), 1) := by decide +kernel
theorem dX6_told_56 : decode cX6_told 56 = .ok (.ireturn, 1) := by decide +kernel
theorem dX6_sign_0 : decode cX6_sign 0 = .ok (.iload_n 1, 1) := by decide +kernel
theorem dX6_sign_1 : decode cX6_sign 1 = .ok (.iconst (-1), 1) := by decide +kernel
theorem dX6_sign_2 : decode cX6_sign 2 = .ok (.if_icmp .eq 14, 3) := by decide +kernel
theorem dX6_sign_5 : decode cX6_sign 5 = .ok (.iload_n 1, 1) := by decide +kernel
theorem dX6_sign_6 : decode cX6_sign 6 = .ok (.iconst 0, 1) := by decide +kernel
theorem dX6_sign_7 : decode cX6_sign 7 = .ok (.iconst 5, 1) := by decide +kernel
theorem dX6_sign_8 : decode cX6_sign 8 = .ok (.invokestatic 66, 3) := by decide +kernel
theorem dX6_sign_11 : decode cX6_sign 11 = .ok (.ifCond .ne 5, 3) := by decide +kernel
theorem dX6_sign_14 : decode cX6_sign 14 = .ok (.iconst (-1), 1) := by decide +kernel
theorem dX6_sign_15 : decode cX6_sign 15 = .ok (.ireturn, 1) := by decide +kernel
theorem dX6_sign_16 : decode cX6_sign 16 = .ok (.aload_n 0, 1) := by decide +kernel
theorem dX6_sign_17 : decode cX6_sign 17 = .ok (.getfield 22, 3) := by decide +kernel
theorem dX6_sign_20 : decode cX6_sign 20 = .ok (.invokevirtual 111, 3) := by decide +kernel
theorem dX6_sign_23 : decode cX6_sign 23 = .ok (.ifCond .eq 6, 3) := by decide +kernel
theorem dX6_sign_26 : decode cX6_sign 26 = .ok (.bipush (-6), 2) := by decide +kernel
theorem dX6_sign_28 : decode cX6_sign 28 = .ok (.ireturn, 1) := by decide +kernel
theorem dX6_sign_29 : decode cX6_sign 29 = .ok (.aload_n 0, 1) := by decide +kernel
theorem dX6_sign_30 : decode cX6_sign 30 = .ok (.getfield 22, 3) := by decide +kernel
theorem dX6_sign_33 : decode cX6_sign 33 = .ok (.iload_n 1, 1) := by decide +kernel
theorem dX6_sign_34 : decode cX6_sign 34 = .ok (.invokevirtual 114, 3) := by decide +kernel
theorem dX6_sign_37 : decode cX6_sign 37 = .ok (.aload_n 0, 1) := by decide +kernel
theorem dX6_sign_38 : decode cX6_sign 38 = .ok (.getfield 22, 3) := by decide +kernel
theorem dX6_sign_41 : decode cX6_sign 41 = .ok (.invokevirtual 117, 3) := by decide +kernel
theorem dX6_sign_44 : decode cX6_sign 44 = .ok (.ireturn, 1) := by decide +kernel
theorem dX6_cut_0 : decode cX6_cut 0 = .ok (.iload_n 1, 1) := by decide +kernel
theorem dX6_cut_1 : decode cX6_cut 1 = .ok (.iconst 0, 1) := by decide +kernel
theorem dX6_cut_2 : decode cX6_cut 2 = .ok (.aload_n 0, 1) := by decide +kernel
theorem dX6_cut_3 : decode cX6_cut 3 = .ok (.getfield 22, 3) := by decide +kernel
theorem dX6_cut_6 : decode cX6_cut 6 = .ok (.invokevirtual 117, 3) := by decide +kernel
theorem dX6_cut_9 : decode cX6_cut 9 = .ok (.invokestatic 66, 3) := by decide +kernel
theorem dX6_cut_12 : decode cX6_cut 12 = .ok (.ifCond .ne 5, 3) := by decide +kernel
theorem dX6_cut_15 : decode cX6_cut 15 = .ok (.iconst (-1), 1) := by decide +kernel
theorem dX6_cut_16 : decode cX6_cut 16 = .ok (.ireturn, 1) := by decide +kernel
theorem dX6_cut_17 : decode cX6_cut 17 = .ok (.aload_n 0, 1) := by decide +kernel
theorem dX6_cut_18 : decode cX6_cut 18 = .ok (.getfield 22, 3) := by decide +kernel
theorem dX6_cut_21 : decode cX6_cut 21 = .ok (.iload_n 1, 1) := by decide +kernel
theorem dX6_cut_22 : decode cX6_cut 22 = .ok (.invokevirtual 121, 3) := by decide +kernel
theorem dX6_cut_25 : decode cX6_cut 25 = .ok (.iload_n 1, 1) := by decide +kernel
theorem dX6_cut_26 : decode cX6_cut 26 = .ok (.ireturn, 1) := by decide +kernel
theorem dX6_at_0 : decode cX6_at 0 = .ok (.aload_n 0, 1) := by decide +kernel
theorem dX6_at_1 : decode cX6_at 1 = .ok (.getfield 22, 3) := by decide +kernel
theorem dX6_at_4 : decode cX6_at 4 = .ok (.iload_n 1, 1) := by decide +kernel
theorem dX6_at_5 : decode cX6_at 5 = .ok (.invokevirtual 124, 3) := by decide +kernel
theorem dX6_at_8 : decode cX6_at 8 = .ok (.ifCond .eq 14, 3) := by decide +kernel
theorem dX6_at_11 : decode cX6_at 11 = .ok (.aload_n 0, 1) := by decide +kernel
theorem dX6_at_12 : decode cX6_at 12 = .ok (.getfield 22, 3) := by decide +kernel
theorem dX6_at_15 : decode cX6_at 15 = .ok (.iload_n 1, 1) := by decide +kernel
theorem dX6_at_16 : decode cX6_at 16 = .ok (.invokevirtual 127, 3) := by decide +kernel
theorem dX6_at_19 : decode cX6_at 19 = .ok (.goto 5, 3) := by decide +kernel
theorem dX6_at_22 : decode cX6_at 22 = .ok (.bipush (-2), 2) := by decide +kernel
theorem dX6_at_24 : decode cX6_at 24 = .ok (.ireturn, 1) := by decide +kernel
theorem dX6_sum_0 : decode cX6_sum 0 = .ok (.aload_n 0, 1) := by decide +kernel
theorem dX6_sum_1 : decode cX6_sum 1 = .ok (.iload_n 1, 1) := by decide +kernel
theorem dX6_sum_2 : decode cX6_sum 2 = .ok (.invokevirtual 73, 3) := by decide +kernel
theorem dX6_sum_5 : decode cX6_sum 5 = .ok (.astore_n 2, 1) := by decide +kernel
theorem dX6_sum_6 : decode cX6_sum 6 = .ok (.aload_n 2, 1) := by decide +kernel
theorem dX6_sum_7 : decode cX6_sum 7 = .ok (.ifnonnull 5, 3) := by decide +kernel
theorem dX6_sum_10 : decode cX6_sum 10 = .ok (.iconst (-1), 1) := by decide +kernel
theorem dX6_sum_11 : decode cX6_sum 11 = .ok (.ireturn, 1) := by decide +kernel
theorem dX6_sum_12 : decode cX6_sum 12 = .ok (.aload_n 0, 1) := by decide +kernel
theorem dX6_sum_13 : decode cX6_sum 13 = .ok (.aload_n 2, 1) := by decide +kernel
theorem dX6_sum_14 : decode cX6_sum 14 = .ok (.invokevirtual 131, 3) := by decide +kernel
theorem dX6_sum_17 : decode cX6_sum 17 = .ok (.istore_n 3, 1) := by decide +kernel
theorem dX6_sum_18 : decode cX6_sum 18 = .ok (.iload_n 3, 1) := by decide +kernel
theorem dX6_sum_19 : decode cX6_sum 19 = .ok (.ifCond .eq 5, 3) := by decide +kernel
theorem dX6_sum_22 : decode cX6_sum 22 = .ok (.iload_n 3, 1) := by decide +kernel
theorem dX6_sum_23 : decode cX6_sum 23 = .ok (.ireturn, 1) := by decide +kernel
theorem dX6_sum_24 : decode cX6_sum 24 = .ok (.aload_n 0, 1) := by decide +kernel
theorem dX6_sum_25 : decode cX6_sum 25 = .ok (.getfield 38, 3) := by decide +kernel
theorem dX6_sum_28 : decode cX6_sum 28 = .ok (.aload_n 0, 1) := by decide +kernel
theorem dX6_sum_29 : decode cX6_sum 29 = .ok (.getfield 31, 3) := by decide +kernel
theorem dX6_sum_32 : decode cX6_sum 32 = .ok (.aload_n 2, 1) := by decide +kernel
theorem dX6_sum_33 : decode cX6_sum 33 = .ok (.aload_n 0, 1) := by decide +kernel
theorem dX6_sum_34 : decode cX6_sum 34 = .ok (.getfield 22, 3) := by decide +kernel
theorem dX6_sum_37 : decode cX6_sum 37 = .ok (.invokevirtual 135, 3) := by decide +kernel
theorem dX6_sum_40 : decode cX6_sum 40 = .ok (.aload_n 0, 1) := by decide +kernel
theorem dX6_sum_41 : decode cX6_sum 41 = .ok (.getfield 31, 3) := by decide +kernel
theorem dX6_sum_44 : decode cX6_sum 44 = .ok (.invokevirtual 139, 3) := by decide +kernel
theorem dX6_sum_47 : decode cX6_sum 47 = .ok (.ireturn, 1) := by decide +kernel
theorem dX6_odds_0 : decode cX6_odds 0 = .ok (.aload_n 0, 1) := by decide +kernel
theorem dX6_odds_1 : decode cX6_odds 1 = .ok (.iload_n 1, 1) := by decide +kernel
theorem dX6_odds_2 : decode cX6_odds 2 = .ok (.invokevirtual 73, 3) := by decide +kernel
theorem dX6_odds_5 : decode cX6_odds 5 = .ok (.astore 5, 2) := by decide +kernel
theorem dX6_odds_7 : decode cX6_odds 7 = .ok (.aload 5, 2) := by decide +kernel
theorem dX6_odds_9 : decode cX6_odds 9 = .ok (.ifnull 33, 3) := by decide +kernel
theorem dX6_odds_12 : decode cX6_odds 12 = .ok (.aload_n 0, 1) := by decide +kernel
theorem dX6_odds_13 : decode cX6_odds 13 = .ok (.getfield 22, 3) := by decide +kernel
theorem dX6_odds_16 : decode cX6_odds 16 = .ok (.iload_n 2, 1) := by decide +kernel
theorem dX6_odds_17 : decode cX6_odds 17 = .ok (.invokevirtual 124, 3) := by decide +kernel
theorem dX6_odds_20 : decode cX6_odds 20 = .ok (.ifCond .eq 22, 3) := by decide +kernel
theorem dX6_odds_23 : decode cX6_odds 23 = .ok (.aload 5, 2) := by decide +kernel
theorem dX6_odds_25 : decode cX6_odds 25 = .ok (.iload_n 3, 1) := by decide +kernel
theorem dX6_odds_26 : decode cX6_odds 26 = .ok (.invokevirtual 77, 3) := by decide +kernel
theorem dX6_odds_29 : decode cX6_odds 29 = .ok (.ifCond .eq 13, 3) := by decide +kernel
theorem dX6_odds_32 : decode cX6_odds 32 = .ok (.iload 4, 2) := by decide +kernel
theorem dX6_odds_34 : decode cX6_odds 34 = .ok (.iconst 0, 1) := by decide +kernel
theorem dX6_odds_35 : decode cX6_odds 35 = .ok (.iconst 2, 1) := by decide +kernel
theorem dX6_odds_36 : decode cX6_odds 36 = .ok (.invokestatic 66, 3) := by decide +kernel
theorem dX6_odds_39 : decode cX6_odds 39 = .ok (.ifCond .ne 5, 3) := by decide +kernel
theorem dX6_odds_42 : decode cX6_odds 42 = .ok (.iconst (-1), 1) := by decide +kernel
theorem dX6_odds_43 : decode cX6_odds 43 = .ok (.ireturn, 1) := by decide +kernel
theorem dX6_odds_44 : decode cX6_odds 44 = .ok (.aload_n 0, 1) := by decide +kernel
theorem dX6_odds_45 : decode cX6_odds 45 = .ok (.aload 5, 2) := by decide +kernel
theorem dX6_odds_47 : decode cX6_odds 47 = .ok (.invokevirtual 131, 3) := by decide +kernel
theorem dX6_odds_50 : decode cX6_odds 50 = .ok (.istore 6, 2) := by decide +kernel
theorem dX6_odds_52 : decode cX6_odds 52 = .ok (.iload 6, 2) := by decide +kernel
theorem dX6_odds_54 : decode cX6_odds 54 = .ok (.ifCond .eq 6, 3) := by decide +kernel
theorem dX6_odds_57 : decode cX6_odds 57 = .ok (.iload 6, 2) := by decide +kernel
theorem dX6_odds_59 : decode cX6_odds 59 = .ok (.ireturn, 1) := by decide +kernel
theorem dX6_odds_60 : decode cX6_odds 60 = .ok (.iload 4, 2) := by decide +kernel
theorem dX6_odds_62 : decode cX6_odds 62 = .ok (.ifCond .ne 25, 3) := by decide +kernel
theorem dX6_odds_65 : decode cX6_odds 65 = .ok (.aload_n 0, 1) := by decide +kernel
theorem dX6_odds_66 : decode cX6_odds 66 = .ok (.getfield 38, 3) := by decide +kernel
theorem dX6_odds_69 : decode cX6_odds 69 = .ok (.aload_n 0, 1) := by decide +kernel
theorem dX6_odds_70 : decode cX6_odds 70 = .ok (.getfield 31, 3) := by decide +kernel
theorem dX6_odds_73 : decode cX6_odds 73 = .ok (.aload 5, 2) := by decide +kernel
theorem dX6_odds_75 : decode cX6_odds 75 = .ok (.aload_n 0, 1) := by decide +kernel
theorem dX6_odds_76 : decode cX6_odds 76 = .ok (.getfield 22, 3) := by decide +kernel
theorem dX6_odds_79 : decode cX6_odds 79 = .ok (.iload_n 2, 1) := by decide +kernel
theorem dX6_odds_80 : decode cX6_odds 80 = .ok (.iload_n 3, 1) := by decide +kernel
theorem dX6_odds_81 : decode cX6_odds 81 = .ok (.invokevirtual 142, 3) := by decide +kernel
theorem dX6_odds_84 : decode cX6_odds 84 = .ok (.goto 50, 3) := by decide +kernel
theorem dX6_odds_87 : decode cX6_odds 87 = .ok (.iload 4, 2) := by decide +kernel
theorem dX6_odds_89 : decode cX6_odds 89 = .ok (.iconst 1, 1) := by decide +kernel
theorem dX6_odds_90 : decode cX6_odds 90 = .ok (.if_icmp .ne 25, 3) := by decide +kernel
theorem dX6_odds_93 : decode cX6_odds 93 = .ok (.aload_n 0, 1) := by decide +kernel
theorem dX6_odds_94 : decode cX6_odds 94 = .ok (.getfield 38, 3) := by decide +kernel
theorem dX6_odds_97 : decode cX6_odds 97 = .ok (.aload_n 0, 1) := by decide +kernel
theorem dX6_odds_98 : decode cX6_odds 98 = .ok (.getfield 31, 3) := by decide +kernel
theorem dX6_odds_101 : decode cX6_odds 101 = .ok (.aload 5, 2) := by decide +kernel
theorem dX6_odds_103 : decode cX6_odds 103 = .ok (.aload_n 0, 1) := by decide +kernel
theorem dX6_odds_104 : decode cX6_odds 104 = .ok (.getfield 22, 3) := by decide +kernel
theorem dX6_odds_107 : decode cX6_odds 107 = .ok (.iload_n 2, 1) := by decide +kernel
theorem dX6_odds_108 : decode cX6_odds 108 = .ok (.iload_n 3, 1) := by decide +kernel
theorem dX6_odds_109 : decode cX6_odds 109 = .ok (.invokevirtual 146, 3) := by decide +kernel
theorem dX6_odds_112 : decode cX6_odds 112 = .ok (.goto 22, 3) := by decide +kernel
theorem dX6_odds_115 : decode cX6_odds 115 = .ok (.aload_n 0, 1) := by decide +kernel
theorem dX6_odds_116 : decode cX6_odds 116 = .ok (.getfield 38, 3) := by decide +kernel
theorem dX6_odds_119 : decode cX6_odds 119 = .ok (.aload_n 0, 1) := by decide +kernel
theorem dX6_odds_120 : decode cX6_odds 120 = .ok (.getfield 31, 3) := by decide +kernel
theorem dX6_odds_123 : decode cX6_odds 123 = .ok (.aload 5, 2) := by decide +kernel
theorem dX6_odds_125 : decode cX6_odds 125 = .ok (.aload_n 0, 1) := by decide +kernel
theorem dX6_odds_126 : decode cX6_odds 126 = .ok (.getfield 22, 3) := by decide +kernel
theorem dX6_odds_129 : decode cX6_odds 129 = .ok (.iload_n 2, 1) := by decide +kernel
theorem dX6_odds_130 : decode cX6_odds 130 = .ok (.iload_n 3, 1) := by decide +kernel
theorem dX6_odds_131 : decode cX6_odds 131 = .ok (.invokevirtual 149, 3) := by decide +kernel
theorem dX6_odds_134 : decode cX6_odds 134 = .ok (.aload_n 0, 1) := by decide +kernel
theorem dX6_odds_135 : decode cX6_odds 135 = .ok (.getfield 31, 3) := by decide +kernel
theorem dX6_odds_138 : decode cX6_odds 138 = .ok (.invokevirtual 139, 3) := by decide +kernel
theorem dX6_odds_141 : decode cX6_odds 141 = .ok (.ireturn, 1) := by decide +kernel
theorem dX6_moment_0 : decode cX6_moment 0 = .ok (.aload_n 0, 1) := by decide +kernel
theorem dX6_moment_1 : decode cX6_moment 1 = .ok (.iload_n 1, 1) := by decide +kernel
theorem dX6_moment_2 : decode cX6_moment 2 = .ok (.invokevirtual 73, 3) := by decide +kernel
theorem dX6_moment_5 : decode cX6_moment 5 = .ok (.astore_n 3, 1) := by decide +kernel
theorem dX6_moment_6 : decode cX6_moment 6 = .ok (.aload_n 3, 1) := by decide +kernel
theorem dX6_moment_7 : decode cX6_moment 7 = .ok (.ifnull 14, 3) := by decide +kernel
theorem dX6_moment_10 : decode cX6_moment 10 = .ok (.aload_n 0, 1) := by decide +kernel
theorem dX6_moment_11 : decode cX6_moment 11 = .ok (.getfield 22, 3) := by decide +kernel
theorem dX6_moment_14 : decode cX6_moment 14 = .ok (.iload_n 2, 1) := by decide +kernel
theorem dX6_moment_15 : decode cX6_moment 15 = .ok (.invokevirtual 124, 3) := by decide +kernel
theorem dX6_moment_18 : decode cX6_moment 18 = .ok (.ifCond .ne 5, 3) := by decide +kernel
theorem dX6_moment_21 : decode cX6_moment 21 = .ok (.iconst (-1), 1) := by decide +kernel
theorem dX6_moment_22 : decode cX6_moment 22 = .ok (.ireturn, 1) := by decide +kernel
theorem dX6_moment_23 : decode cX6_moment 23 = .ok (.aload_n 0, 1) := by decide +kernel
theorem dX6_moment_24 : decode cX6_moment 24 = .ok (.aload_n 3, 1) := by decide +kernel
theorem dX6_moment_25 : decode cX6_moment 25 = .ok (.invokevirtual 131, 3) := by decide +kernel
theorem dX6_moment_28 : decode cX6_moment 28 = .ok (.istore 4, 2) := by decide +kernel
theorem dX6_moment_30 : decode cX6_moment 30 = .ok (.iload 4, 2) := by decide +kernel
theorem dX6_moment_32 : decode cX6_moment 32 = .ok (.ifCond .eq 6, 3) := by decide +kernel
theorem dX6_moment_35 : decode cX6_moment 35 = .ok (.iload 4, 2) := by decide +kernel
theorem dX6_moment_37 : decode cX6_moment 37 = .ok (.ireturn, 1) := by decide +kernel
theorem dX6_moment_38 : decode cX6_moment 38 = .ok (.aload_n 0, 1) := by decide +kernel
theorem dX6_moment_39 : decode cX6_moment 39 = .ok (.getfield 38, 3) := by decide +kernel
theorem dX6_moment_42 : decode cX6_moment 42 = .ok (.aload_n 3, 1) := by decide +kernel
theorem dX6_moment_43 : decode cX6_moment 43 = .ok (.aload_n 0, 1) := by decide +kernel
theorem dX6_moment_44 : decode cX6_moment 44 = .ok (.getfield 22, 3) := by decide +kernel
theorem dX6_moment_47 : decode cX6_moment 47 = .ok (.iload_n 2, 1) := by decide +kernel
theorem dX6_moment_48 : decode cX6_moment 48 = .ok (.invokevirtual 152, 3) := by decide +kernel
theorem dX6_moment_51 : decode cX6_moment 51 = .ok (.istore 5, 2) := by decide +kernel
theorem dX6_moment_53 : decode cX6_moment 53 = .ok (.iload 5, 2) := by decide +kernel
theorem dX6_moment_55 : decode cX6_moment 55 = .ok (.ifCond .ge 8, 3) := by decide +kernel
theorem dX6_moment_58 : decode cX6_moment 58 = .ok (.bipush (-5), 2) := by decide +kernel
theorem dX6_moment_60 : decode cX6_moment 60 = .ok (.goto 5, 3) := by decide +kernel
theorem dX6_moment_63 : decode cX6_moment 63 = .ok (.iload 5, 2) := by decide +kernel
theorem dX6_moment_65 : decode cX6_moment 65 = .ok (.ireturn, 1) := by decide +kernel
theorem dX6_best_0 : decode cX6_best 0 = .ok (.aload_n 0, 1) := by decide +kernel
theorem dX6_best_1 : decode cX6_best 1 = .ok (.iload_n 1, 1) := by decide +kernel
theorem dX6_best_2 : decode cX6_best 2 = .ok (.invokevirtual 73, 3) := by decide +kernel
theorem dX6_best_5 : decode cX6_best 5 = .ok (.astore_n 3, 1) := by decide +kernel
theorem dX6_best_6 : decode cX6_best 6 = .ok (.aload_n 3, 1) := by decide +kernel
theorem dX6_best_7 : decode cX6_best 7 = .ok (.ifnull 13, 3) := by decide +kernel
theorem dX6_best_10 : decode cX6_best 10 = .ok (.iload_n 2, 1) := by decide +kernel
theorem dX6_best_11 : decode cX6_best 11 = .ok (.iconst 0, 1) := by decide +kernel
theorem dX6_best_12 : decode cX6_best 12 = .ok (.bipush 19, 2) := by decide +kernel
theorem dX6_best_14 : decode cX6_best 14 = .ok (.invokestatic 66, 3) := by decide +kernel
theorem dX6_best_17 : decode cX6_best 17 = .ok (.ifCond .ne 5, 3) := by decide +kernel
theorem dX6_best_20 : decode cX6_best 20 = .ok (.iconst (-1), 1) := by decide +kernel
theorem dX6_best_21 : decode cX6_best 21 = .ok (.ireturn, 1) := by decide +kernel
theorem dX6_best_22 : decode cX6_best 22 = .ok (.aload_n 0, 1) := by decide +kernel
theorem dX6_best_23 : decode cX6_best 23 = .ok (.aload_n 3, 1) := by decide +kernel
theorem dX6_best_24 : decode cX6_best 24 = .ok (.invokevirtual 131, 3) := by decide +kernel
theorem dX6_best_27 : decode cX6_best 27 = .ok (.istore 4, 2) := by decide +kernel
theorem dX6_best_29 : decode cX6_best 29 = .ok (.iload 4, 2) := by decide +kernel
theorem dX6_best_31 : decode cX6_best 31 = .ok (.ifCond .eq 6, 3) := by decide +kernel
theorem dX6_best_34 : decode cX6_best 34 = .ok (.iload 4, 2) := by decide +kernel
theorem dX6_best_36 : decode cX6_best 36 = .ok (.ireturn, 1) := by decide +kernel
theorem dX6_best_37 : decode cX6_best 37 = .ok (.aload_n 0, 1) := by decide +kernel
theorem dX6_best_38 : decode cX6_best 38 = .ok (.getfield 55, 3) := by decide +kernel
theorem dX6_best_41 : decode cX6_best 41 = .ok (.ifnonnull 14, 3) := by decide +kernel
theorem dX6_best_44 : decode cX6_best 44 = .ok (.aload_n 0, 1) := by decide +kernel
theorem dX6_best_45 : decode cX6_best 45 = .ok (.new 156, 3) := by decide +kernel
theorem dX6_best_48 : decode cX6_best 48 = .ok (.dup, 1) := by decide +kernel
theorem dX6_best_49 : decode cX6_best 49 = .ok (.invokespecial 158, 3) := by decide +kernel
theorem dX6_best_52 : decode cX6_best 52 = .ok (.putfield 55, 3) := by decide +kernel
theorem dX6_best_55 : decode cX6_best 55 = .ok (.aload_n 0, 1) := by decide +kernel
theorem dX6_best_56 : decode cX6_best 56 = .ok (.getfield 55, 3) := by decide +kernel
theorem dX6_best_59 : decode cX6_best 59 = .ok (.aload_n 3, 1) := by decide +kernel
theorem dX6_best_60 : decode cX6_best 60 = .ok (.aload_n 0, 1) := by decide +kernel
theorem dX6_best_61 : decode cX6_best 61 = .ok (.getfield 22, 3) := by decide +kernel
theorem dX6_best_64 : decode cX6_best 64 = .ok (.iload_n 2, 1) := by decide +kernel
theorem dX6_best_65 : decode cX6_best 65 = .ok (.iconst 1, 1) := by decide +kernel
theorem dX6_best_66 : decode cX6_best 66 = .ok (.iadd, 1) := by decide +kernel
theorem dX6_best_67 : decode cX6_best 67 = .ok (.invokevirtual 159, 3) := by decide +kernel
theorem dX6_best_70 : decode cX6_best 70 = .ok (.istore 5, 2) := by decide +kernel
theorem dX6_best_72 : decode cX6_best 72 = .ok (.iload 5, 2) := by decide +kernel
theorem dX6_best_74 : decode cX6_best 74 = .ok (.iload_n 2, 1) := by decide +kernel
theorem dX6_best_75 : decode cX6_best 75 = .ok (.if_icmp .gt 5, 3) := by decide +kernel
theorem dX6_best_78 : decode cX6_best 78 = .ok (.iconst 0, 1) := by decide +kernel
theorem dX6_best_79 : decode cX6_best 79 = .ok (.ireturn, 1) := by decide +kernel
theorem dX6_best_80 : decode cX6_best 80 = .ok (.aload_n 0, 1) := by decide +kernel
theorem dX6_best_81 : decode cX6_best 81 = .ok (.aload_n 0, 1) := by decide +kernel
theorem dX6_best_82 : decode cX6_best 82 = .ok (.getfield 22, 3) := by decide +kernel
theorem dX6_best_85 : decode cX6_best 85 = .ok (.invokevirtual 117, 3) := by decide +kernel
theorem dX6_best_88 : decode cX6_best 88 = .ok (.putfield 63, 3) := by decide +kernel
theorem dX6_best_91 : decode cX6_best 91 = .ok (.aload_n 0, 1) := by decide +kernel
theorem dX6_best_92 : decode cX6_best 92 = .ok (.getfield 55, 3) := by decide +kernel
theorem dX6_best_95 : decode cX6_best 95 = .ok (.iload_n 2, 1) := by decide +kernel
theorem dX6_best_96 : decode cX6_best 96 = .ok (.aload_n 0, 1) := by decide +kernel
theorem dX6_best_97 : decode cX6_best 97 = .ok (.getfield 59, 3) := by decide +kernel
theorem dX6_best_100 : decode cX6_best 100 = .ok (.aload_n 0, 1) := by decide +kernel
theorem dX6_best_101 : decode cX6_best 101 = .ok (.getfield 63, 3) := by decide +kernel
theorem dX6_best_104 : decode cX6_best 104 = .ok (.invokevirtual 162, 3) := by decide +kernel
theorem dX6_best_107 : decode cX6_best 107 = .ok (.aload_n 0, 1) := by decide +kernel
theorem dX6_best_108 : decode cX6_best 108 = .ok (.getfield 55, 3) := by decide +kernel
theorem dX6_best_111 : decode cX6_best 111 = .ok (.aload_n 0, 1) := by decide +kernel
theorem dX6_best_112 : decode cX6_best 112 = .ok (.getfield 31, 3) := by decide +kernel
theorem dX6_best_115 : decode cX6_best 115 = .ok (.iload_n 2, 1) := by decide +kernel
theorem dX6_best_116 : decode cX6_best 116 = .ok (.invokevirtual 166, 3) := by decide +kernel
theorem dX6_best_119 : decode cX6_best 119 = .ok (.aload_n 0, 1) := by decide +kernel
theorem dX6_best_120 : decode cX6_best 120 = .ok (.getfield 31, 3) := by decide +kernel
theorem dX6_best_123 : decode cX6_best 123 = .ok (.invokevirtual 139, 3) := by decide +kernel
theorem dX6_best_126 : decode cX6_best 126 = .ok (.ireturn, 1) := by decide +kernel
theorem dX6_state_0 : decode cX6_state 0 = .ok (.iload_n 1, 1) := by decide +kernel
theorem dX6_state_1 : decode cX6_state 1 = .ok (.iconst 0, 1) := by decide +kernel
theorem dX6_state_2 : decode cX6_state 2 = .ok (.aload_n 0, 1) := by decide +kernel
theorem dX6_state_3 : decode cX6_state 3 = .ok (.getfield 63, 3) := by decide +kernel
theorem dX6_state_6 : decode cX6_state 6 = .ok (.iconst 1, 1) := by decide +kernel
theorem dX6_state_7 : decode cX6_state 7 = .ok (.isub, 1) := by decide +kernel
theorem dX6_state_8 : decode cX6_state 8 = .ok (.invokestatic 66, 3) := by decide +kernel
theorem dX6_state_11 : decode cX6_state 11 = .ok (.ifCond .eq 12, 3) := by decide +kernel
theorem dX6_state_14 : decode cX6_state 14 = .ok (.aload_n 0, 1) := by decide +kernel
theorem dX6_state_15 : decode cX6_state 15 = .ok (.getfield 59, 3) := by decide +kernel
theorem dX6_state_18 : decode cX6_state 18 = .ok (.iload_n 1, 1) := by decide +kernel
theorem dX6_state_19 : decode cX6_state 19 = .ok (.iaload, 1) := by decide +kernel
theorem dX6_state_20 : decode cX6_state 20 = .ok (.goto 4, 3) := by decide +kernel
theorem dX6_state_23 : decode cX6_state 23 = .ok (.iconst (-1), 1) := by decide +kernel
theorem dX6_state_24 : decode cX6_state 24 = .ok (.ireturn, 1) := by decide +kernel
theorem dX6_compare_0 : decode cX6_compare 0 = .ok (.aload_n 0, 1) := by decide +kernel
theorem dX6_compare_1 : decode cX6_compare 1 = .ok (.iload_n 1, 1) := by decide +kernel
theorem dX6_compare_2 : decode cX6_compare 2 = .ok (.invokevirtual 73, 3) := by decide +kernel
theorem dX6_compare_5 : decode cX6_compare 5 = .ok (.astore_n 3, 1) := by decide +kernel
theorem dX6_compare_6 : decode cX6_compare 6 = .ok (.aload_n 0, 1) := by decide +kernel
theorem dX6_compare_7 : decode cX6_compare 7 = .ok (.iload_n 2, 1) := by decide +kernel
theorem dX6_compare_8 : decode cX6_compare 8 = .ok (.invokevirtual 73, 3) := by decide +kernel
theorem dX6_compare_11 : decode cX6_compare 11 = .ok (.astore 4, 2) := by decide +kernel
theorem dX6_compare_13 : decode cX6_compare 13 = .ok (.aload_n 3, 1) := by decide +kernel
theorem dX6_compare_14 : decode cX6_compare 14 = .ok (.ifnull 25, 3) := by decide +kernel
theorem dX6_compare_17 : decode cX6_compare 17 = .ok (.aload 4, 2) := by decide +kernel
theorem dX6_compare_19 : decode cX6_compare 19 = .ok (.ifnull 20, 3) := by decide +kernel
theorem dX6_compare_22 : decode cX6_compare 22 = .ok (.aload_n 0, 1) := by decide +kernel
theorem dX6_compare_23 : decode cX6_compare 23 = .ok (.aload_n 3, 1) := by decide +kernel
theorem dX6_compare_24 : decode cX6_compare 24 = .ok (.invokevirtual 131, 3) := by decide +kernel
theorem dX6_compare_27 : decode cX6_compare 27 = .ok (.ifCond .ne 12, 3) := by decide +kernel
theorem dX6_compare_30 : decode cX6_compare 30 = .ok (.aload_n 0, 1) := by decide +kernel
theorem dX6_compare_31 : decode cX6_compare 31 = .ok (.aload 4, 2) := by decide +kernel
theorem dX6_compare_33 : decode cX6_compare 33 = .ok (.invokevirtual 131, 3) := by decide +kernel
theorem dX6_compare_36 : decode cX6_compare 36 = .ok (.ifCond .eq 6, 3) := by decide +kernel
theorem dX6_compare_39 : decode cX6_compare 39 = .ok (.bipush (-2), 2) := by decide +kernel
theorem dX6_compare_41 : decode cX6_compare 41 = .ok (.ireturn, 1) := by decide +kernel
theorem dX6_compare_42 : decode cX6_compare 42 = .ok (.aload_n 0, 1) := by decide +kernel
theorem dX6_compare_43 : decode cX6_compare 43 = .ok (.aload_n 0, 1) := by decide +kernel
theorem dX6_compare_44 : decode cX6_compare 44 = .ok (.getfield 42, 3) := by decide +kernel
theorem dX6_compare_47 : decode cX6_compare 47 = .ok (.aload_n 3, 1) := by decide +kernel
theorem dX6_compare_48 : decode cX6_compare 48 = .ok (.aload 4, 2) := by decide +kernel
theorem dX6_compare_50 : decode cX6_compare 50 = .ok (.getfield 108, 3) := by decide +kernel
theorem dX6_compare_53 : decode cX6_compare 53 = .ok (.invokevirtual 170, 3) := by decide +kernel
theorem dX6_compare_56 : decode cX6_compare 56 = .ok (.aload_n 0, 1) := by decide +kernel
theorem dX6_compare_57 : decode cX6_compare 57 = .ok (.aload_n 0, 1) := by decide +kernel
theorem dX6_compare_58 : decode cX6_compare 58 = .ok (.getfield 45, 3) := by decide +kernel
theorem dX6_compare_61 : decode cX6_compare 61 = .ok (.aload 4, 2) := by decide +kernel
theorem dX6_compare_63 : decode cX6_compare 63 = .ok (.aload_n 3, 1) := by decide +kernel
theorem dX6_compare_64 : decode cX6_compare 64 = .ok (.getfield 108, 3) := by decide +kernel
theorem dX6_compare_67 : decode cX6_compare 67 = .ok (.invokevirtual 170, 3) := by decide +kernel
theorem dX6_compare_70 : decode cX6_compare 70 = .ok (.aload_n 0, 1) := by decide +kernel
theorem dX6_compare_71 : decode cX6_compare 71 = .ok (.getfield 42, 3) := by decide +kernel
theorem dX6_compare_74 : decode cX6_compare 74 = .ok (.aload_n 0, 1) := by decide +kernel
theorem dX6_compare_75 : decode cX6_compare 75 = .ok (.getfield 45, 3) := by decide +kernel
theorem dX6_compare_78 : decode cX6_compare 78 = .ok (.invokevirtual 174, 3) := by decide +kernel
theorem dX6_compare_81 : decode cX6_compare 81 = .ok (.ireturn, 1) := by decide +kernel
theorem dX6_same_0 : decode cX6_same 0 = .ok (.aload_n 0, 1) := by decide +kernel
theorem dX6_same_1 : decode cX6_same 1 = .ok (.iload_n 1, 1) := by decide +kernel
theorem dX6_same_2 : decode cX6_same 2 = .ok (.iload_n 2, 1) := by decide +kernel
theorem dX6_same_3 : decode cX6_same 3 = .ok (.invokevirtual 178, 3) := by decide +kernel
theorem dX6_same_6 : decode cX6_same 6 = .ok (.istore_n 3, 1) := by decide +kernel
theorem dX6_same_7 : decode cX6_same 7 = .ok (.iload_n 3, 1) := by decide +kernel
theorem dX6_same_8 : decode cX6_same 8 = .ok (.ifCond .eq 5, 3) := by decide +kernel
theorem dX6_same_11 : decode cX6_same 11 = .ok (.iload_n 3, 1) := by decide +kernel
theorem dX6_same_12 : decode cX6_same 12 = .ok (.ireturn, 1) := by decide +kernel
theorem dX6_same_13 : decode cX6_same 13 = .ok (.aload_n 0, 1) := by decide +kernel
theorem dX6_same_14 : decode cX6_same 14 = .ok (.iload_n 1, 1) := by decide +kernel
theorem dX6_same_15 : decode cX6_same 15 = .ok (.iload_n 2, 1) := by decide +kernel
theorem dX6_same_16 : decode cX6_same 16 = .ok (.invokevirtual 181, 3) := by decide +kernel
theorem dX6_same_19 : decode cX6_same 19 = .ok (.ifCond .ne 7, 3) := by decide +kernel
theorem dX6_same_22 : decode cX6_same 22 = .ok (.iconst 1, 1) := by decide +kernel
theorem dX6_same_23 : decode cX6_same 23 = .ok (.goto 4, 3) := by decide +kernel
theorem dX6_same_26 : decode cX6_same 26 = .ok (.iconst 0, 1) := by decide +kernel
theorem dX6_same_27 : decode cX6_same 27 = .ok (.ireturn, 1) := by decide +kernel
theorem dX6_apart_0 : decode cX6_apart 0 = .ok (.aload_n 0, 1) := by decide +kernel
theorem dX6_apart_1 : decode cX6_apart 1 = .ok (.iload_n 1, 1) := by decide +kernel
theorem dX6_apart_2 : decode cX6_apart 2 = .ok (.iload_n 2, 1) := by decide +kernel
theorem dX6_apart_3 : decode cX6_apart 3 = .ok (.invokevirtual 178, 3) := by decide +kernel
theorem dX6_apart_6 : decode cX6_apart 6 = .ok (.istore_n 3, 1) := by decide +kernel
theorem dX6_apart_7 : decode cX6_apart 7 = .ok (.iload_n 3, 1) := by decide +kernel
theorem dX6_apart_8 : decode cX6_apart 8 = .ok (.ifCond .eq 5, 3) := by decide +kernel
theorem dX6_apart_11 : decode cX6_apart 11 = .ok (.iload_n 3, 1) := by decide +kernel
theorem dX6_apart_12 : decode cX6_apart 12 = .ok (.ireturn, 1) := by decide +kernel
theorem dX6_apart_13 : decode cX6_apart 13 = .ok (.aload_n 0, 1) := by decide +kernel
theorem dX6_apart_14 : decode cX6_apart 14 = .ok (.iload_n 1, 1) := by decide +kernel
theorem dX6_apart_15 : decode cX6_apart 15 = .ok (.iload_n 2, 1) := by decide +kernel
theorem dX6_apart_16 : decode cX6_apart 16 = .ok (.invokevirtual 181, 3) := by decide +kernel
theorem dX6_apart_19 : decode cX6_apart 19 = .ok (.istore 4, 2) := by decide +kernel
theorem dX6_apart_21 : decode cX6_apart 21 = .ok (.aload_n 0, 1) := by decide +kernel
theorem dX6_apart_22 : decode cX6_apart 22 = .ok (.getfield 22, 3) := by decide +kernel
theorem dX6_apart_25 : decode cX6_apart 25 = .ok (.iconst 0, 1) := by decide +kernel
theorem dX6_apart_26 : decode cX6_apart 26 = .ok (.invokevirtual 121, 3) := by decide +kernel
theorem dX6_apart_29 : decode cX6_apart 29 = .ok (.iconst 0, 1) := by decide +kernel
theorem dX6_apart_30 : decode cX6_apart 30 = .ok (.istore 5, 2) := by decide +kernel
theorem dX6_apart_32 : decode cX6_apart 32 = .ok (.iload 5, 2) := by decide +kernel
theorem dX6_apart_34 : decode cX6_apart 34 = .ok (.iload 4, 2) := by decide +kernel
theorem dX6_apart_36 : decode cX6_apart 36 = .ok (.if_icmp .ge 25, 3) := by decide +kernel
theorem dX6_apart_39 : decode cX6_apart 39 = .ok (.aload_n 0, 1) := by decide +kernel
theorem dX6_apart_40 : decode cX6_apart 40 = .ok (.getfield 22, 3) := by decide +kernel
theorem dX6_apart_43 : decode cX6_apart 43 = .ok (.aload_n 0, 1) := by decide +kernel
theorem dX6_apart_44 : decode cX6_apart 44 = .ok (.getfield 51, 3) := by decide +kernel
theorem dX6_apart_47 : decode cX6_apart 47 = .ok (.iload 5, 2) := by decide +kernel
theorem dX6_apart_49 : decode cX6_apart 49 = .ok (.invokevirtual 184, 3) := by decide +kernel
theorem dX6_apart_52 : decode cX6_apart 52 = .ok (.invokevirtual 114, 3) := by decide +kernel
theorem dX6_apart_55 : decode cX6_apart 55 = .ok (.iinc 5 1, 3) := by decide +kernel
theorem dX6_apart_58 : decode cX6_apart 58 = .ok (.goto (-26), 3) := by decide +kernel
theorem dX6_apart_61 : decode cX6_apart 61 = .ok (.iload 4, 2) := by decide +kernel
theorem dX6_apart_63 : decode cX6_apart 63 = .ok (.ireturn, 1) := by decide +kernel
theorem dX6_twins_0 : decode cX6_twins 0 = .ok (.aload_n 0, 1) := by decide +kernel
theorem dX6_twins_1 : decode cX6_twins 1 = .ok (.iload_n 1, 1) := by decide +kernel
theorem dX6_twins_2 : decode cX6_twins 2 = .ok (.invokevirtual 73, 3) := by decide +kernel
theorem dX6_twins_5 : decode cX6_twins 5 = .ok (.astore 4, 2) := by decide +kernel
theorem dX6_twins_7 : decode cX6_twins 7 = .ok (.aload 4, 2) := by decide +kernel
theorem dX6_twins_9 : decode cX6_twins 9 = .ok (.ifnull 21, 3) := by decide +kernel
theorem dX6_twins_12 : decode cX6_twins 12 = .ok (.aload 4, 2) := by decide +kernel
theorem dX6_twins_14 : decode cX6_twins 14 = .ok (.iload_n 2, 1) := by decide +kernel
theorem dX6_twins_15 : decode cX6_twins 15 = .ok (.invokevirtual 77, 3) := by decide +kernel
theorem dX6_twins_18 : decode cX6_twins 18 = .ok (.ifCond .eq 12, 3) := by decide +kernel
theorem dX6_twins_21 : decode cX6_twins 21 = .ok (.aload 4, 2) := by decide +kernel
theorem dX6_twins_23 : decode cX6_twins 23 = .ok (.iload_n 3, 1) := by decide +kernel
theorem dX6_twins_24 : decode cX6_twins 24 = .ok (.invokevirtual 77, 3) := by decide +kernel
theorem dX6_twins_27 : decode cX6_twins 27 = .ok (.ifCond .ne 5, 3) := by decide +kernel
theorem dX6_twins_30 : decode cX6_twins 30 = .ok (.iconst (-1), 1) := by decide +kernel
theorem dX6_twins_31 : decode cX6_twins 31 = .ok (.ireturn, 1) := by decide +kernel
theorem dX6_twins_32 : decode cX6_twins 32 = .ok (.aload 4, 2) := by decide +kernel
theorem dX6_twins_34 : decode cX6_twins 34 = .ok (.invokevirtual 98, 3) := by decide +kernel
theorem dX6_twins_37 : decode cX6_twins 37 = .ok (.ifCond .ne 6, 3) := by decide +kernel
theorem dX6_twins_40 : decode cX6_twins 40 = .ok (.bipush (-3), 2) := by decide +kernel
theorem dX6_twins_42 : decode cX6_twins 42 = .ok (.ireturn, 1) := by decide +kernel
theorem dX6_twins_43 : decode cX6_twins 43 = .ok (.aload_n 0, 1) := by decide +kernel
theorem dX6_twins_44 : decode cX6_twins 44 = .ok (.getfield 51, 3) := by decide +kernel
theorem dX6_twins_47 : decode cX6_twins 47 = .ok (.aload 4, 2) := by decide +kernel
theorem dX6_twins_49 : decode cX6_twins 49 = .ok (.iload_n 2, 1) := by decide +kernel
theorem dX6_twins_50 : decode cX6_twins 50 = .ok (.iload_n 3, 1) := by decide +kernel
theorem dX6_twins_51 : decode cX6_twins 51 = .ok (.invokevirtual 187, 3) := by decide +kernel
theorem dX6_twins_54 : decode cX6_twins 54 = .ok (.aload_n 0, 1) := by decide +kernel
theorem dX6_twins_55 : decode cX6_twins 55 = .ok (.getfield 51, 3) := by decide +kernel
theorem dX6_twins_58 : decode cX6_twins 58 = .ok (.invokevirtual 191, 3) := by decide +kernel
theorem dX6_twins_61 : decode cX6_twins 61 = .ok (.ifCond .ne 7, 3) := by decide +kernel
theorem dX6_twins_64 : decode cX6_twins 64 = .ok (.iconst 1, 1) := by decide +kernel
theorem dX6_twins_65 : decode cX6_twins 65 = .ok (.goto 4, 3) := by decide +kernel
theorem dX6_twins_68 : decode cX6_twins 68 = .ok (.iconst 0, 1) := by decide +kernel
theorem dX6_twins_69 : decode cX6_twins 69 = .ok (.ireturn, 1) := by decide +kernel
theorem dX6_part_0 : decode cX6_part 0 = .ok (.iload_n 1, 1) := by decide +kernel
theorem dX6_part_1 : decode cX6_part 1 = .ok (.iconst 0, 1) := by decide +kernel
theorem dX6_part_2 : decode cX6_part 2 = .ok (.bipush 25, 2) := by decide +kernel
theorem dX6_part_4 : decode cX6_part 4 = .ok (.invokestatic 66, 3) := by decide +kernel
theorem dX6_part_7 : decode cX6_part 7 = .ok (.ifCond .eq 14, 3) := by decide +kernel
theorem dX6_part_10 : decode cX6_part 10 = .ok (.aload_n 0, 1) := by decide +kernel
theorem dX6_part_11 : decode cX6_part 11 = .ok (.getfield 31, 3) := by decide +kernel
theorem dX6_part_14 : decode cX6_part 14 = .ok (.iload_n 1, 1) := by decide +kernel
theorem dX6_part_15 : decode cX6_part 15 = .ok (.invokevirtual 194, 3) := by decide +kernel
theorem dX6_part_18 : decode cX6_part 18 = .ok (.goto 6, 3) := by decide +kernel
theorem dX6_part_21 : decode cX6_part 21 = .ok (.ldc2_w 198, 3) := by decide +kernel
theorem dX6_part_24 : decode cX6_part 24 = .ok (.lreturn, 1) := by decide +kernel
theorem dX6_count_0 : decode cX6_count 0 = .ok (.iload_n 1, 1) := by decide +kernel
theorem dX6_count_1 : decode cX6_count 1 = .ok (.lookupswitch 40 #[(0, 27), (1, 32)], 27) := by decide +kernel
theorem dX6_count_28 : decode cX6_count 28 = .ok (.aload_n 0, 1) := by decide +kernel
theorem dX6_count_29 : decode cX6_count 29 = .ok (.getfield 15, 3) := by decide +kernel
theorem dX6_count_32 : decode cX6_count 32 = .ok (.ireturn, 1) := by decide +kernel
theorem dX6_count_33 : decode cX6_count 33 = .ok (.aload_n 0, 1) := by decide +kernel
theorem dX6_count_34 : decode cX6_count 34 = .ok (.getfield 22, 3) := by decide +kernel
theorem dX6_count_37 : decode cX6_count 37 = .ok (.invokevirtual 117, 3) := by decide +kernel
theorem dX6_count_40 : decode cX6_count 40 = .ok (.ireturn, 1) := by decide +kernel
theorem dX6_count_41 : decode cX6_count 41 = .ok (.iconst (-1), 1) := by decide +kernel
theorem dX6_count_42 : decode cX6_count 42 = .ok (.ireturn, 1) := by decide +kernel
theorem dX6_remove_0 : decode cX6_remove 0 = .ok (.aload_n 0, 1) := by decide +kernel
theorem dX6_remove_1 : decode cX6_remove 1 = .ok (.getfield 15, 3) := by decide +kernel
theorem dX6_remove_4 : decode cX6_remove 4 = .ok (.iconst 1, 1) := by decide +kernel
theorem dX6_remove_5 : decode cX6_remove 5 = .ok (.if_icmp .ge 5, 3) := by decide +kernel
theorem dX6_remove_8 : decode cX6_remove 8 = .ok (.iconst (-1), 1) := by decide +kernel
theorem dX6_remove_9 : decode cX6_remove 9 = .ok (.ireturn, 1) := by decide +kernel
theorem dX6_remove_10 : decode cX6_remove 10 = .ok (.aload_n 0, 1) := by decide +kernel
theorem dX6_remove_11 : decode cX6_remove 11 = .ok (.dup, 1) := by decide +kernel
theorem dX6_remove_12 : decode cX6_remove 12 = .ok (.getfield 15, 3) := by decide +kernel
theorem dX6_remove_15 : decode cX6_remove 15 = .ok (.iconst 1, 1) := by decide +kernel
theorem dX6_remove_16 : decode cX6_remove 16 = .ok (.isub, 1) := by decide +kernel
theorem dX6_remove_17 : decode cX6_remove 17 = .ok (.putfield 15, 3) := by decide +kernel
theorem dX6_remove_20 : decode cX6_remove 20 = .ok (.aload_n 0, 1) := by decide +kernel
theorem dX6_remove_21 : decode cX6_remove 21 = .ok (.getfield 11, 3) := by decide +kernel
theorem dX6_remove_24 : decode cX6_remove 24 = .ok (.aload_n 0, 1) := by decide +kernel
theorem dX6_remove_25 : decode cX6_remove 25 = .ok (.getfield 15, 3) := by decide +kernel
theorem dX6_remove_28 : decode cX6_remove 28 = .ok (.aconst_null, 1) := by decide +kernel
theorem dX6_remove_29 : decode cX6_remove 29 = .ok (.aastore, 1) := by decide +kernel
theorem dX6_remove_30 : decode cX6_remove 30 = .ok (.aload_n 0, 1) := by decide +kernel
theorem dX6_remove_31 : decode cX6_remove 31 = .ok (.getfield 15, 3) := by decide +kernel
theorem dX6_remove_34 : decode cX6_remove 34 = .ok (.ireturn, 1) := by decide +kernel
theorem dX6_isWithin_0 : decode cX6_isWithin 0 = .ok (.iload_n 0, 1) := by decide +kernel
theorem dX6_isWithin_1 : decode cX6_isWithin 1 = .ok (.iload_n 1, 1) := by decide +kernel
theorem dX6_isWithin_2 : decode cX6_isWithin 2 = .ok (.if_icmp .lt 12, 3) := by decide +kernel
theorem dX6_isWithin_5 : decode cX6_isWithin 5 = .ok (.iload_n 0, 1) := by decide +kernel
theorem dX6_isWithin_6 : decode cX6_isWithin 6 = .ok (.iload_n 2, 1) := by decide +kernel
theorem dX6_isWithin_7 : decode cX6_isWithin 7 = .ok (.if_icmp .gt 7, 3) := by decide +kernel
theorem dX6_isWithin_10 : decode cX6_isWithin 10 = .ok (.iconst 1, 1) := by decide +kernel
theorem dX6_isWithin_11 : decode cX6_isWithin 11 = .ok (.goto 4, 3) := by decide +kernel
theorem dX6_isWithin_14 : decode cX6_isWithin 14 = .ok (.iconst 0, 1) := by decide +kernel
theorem dX6_isWithin_15 : decode cX6_isWithin 15 = .ok (.ireturn, 1) := by decide +kernel
theorem dX6_makeWholes_0 : decode cX6_makeWholes 0 = .ok (.iconst 1, 1) := by decide +kernel
theorem dX6_makeWholes_1 : decode cX6_makeWholes 1 = .ok (.iload_n 0, 1) := by decide +kernel
theorem dX6_makeWholes_2 : decode cX6_makeWholes 2 = .ok (.invokestatic 200, 3) := by decide +kernel
theorem dX6_makeWholes_5 : decode cX6_makeWholes 5 = .ok (.anewarray 26, 3) := by decide +kernel
theorem dX6_makeWholes_8 : decode cX6_makeWholes 8 = .ok (.astore_n 1, 1) := by decide +kernel
theorem dX6_makeWholes_9 : decode cX6_makeWholes 9 = .ok (.iconst 0, 1) := by decide +kernel
theorem dX6_makeWholes_10 : decode cX6_makeWholes 10 = .ok (.istore_n 2, 1) := by decide +kernel
theorem dX6_makeWholes_11 : decode cX6_makeWholes 11 = .ok (.iload_n 2, 1) := by decide +kernel
theorem dX6_makeWholes_12 : decode cX6_makeWholes 12 = .ok (.aload_n 1, 1) := by decide +kernel
theorem dX6_makeWholes_13 : decode cX6_makeWholes 13 = .ok (.arraylength, 1) := by decide +kernel
theorem dX6_makeWholes_14 : decode cX6_makeWholes 14 = .ok (.if_icmp .ge 21, 3) := by decide +kernel
theorem dX6_makeWholes_17 : decode cX6_makeWholes 17 = .ok (.aload_n 1, 1) := by decide +kernel
theorem dX6_makeWholes_18 : decode cX6_makeWholes 18 = .ok (.iload_n 2, 1) := by decide +kernel
theorem dX6_makeWholes_19 : decode cX6_makeWholes 19 = .ok (.new 26, 3) := by decide +kernel
theorem dX6_makeWholes_22 : decode cX6_makeWholes 22 = .ok (.dup, 1) := by decide +kernel
theorem dX6_makeWholes_23 : decode cX6_makeWholes 23 = .ok (.bipush 42, 2) := by decide +kernel
theorem dX6_makeWholes_25 : decode cX6_makeWholes 25 = .ok (.invokespecial 28, 3) := by decide +kernel
theorem dX6_makeWholes_28 : decode cX6_makeWholes 28 = .ok (.aastore, 1) := by decide +kernel
theorem dX6_makeWholes_29 : decode cX6_makeWholes 29 = .ok (.iinc 2 1, 3) := by decide +kernel
theorem dX6_makeWholes_32 : decode cX6_makeWholes 32 = .ok (.goto (-21), 3) := by decide +kernel
theorem dX6_makeWholes_35 : decode cX6_makeWholes 35 = .ok (.aload_n 1, 1) := by decide +kernel
theorem dX6_makeWholes_36 : decode cX6_makeWholes 36 = .ok (.areturn, 1) := by decide +kernel
theorem dX6_chainNumbered_0 : decode cX6_chainNumbered 0 = .ok (.iload_n 1, 1) := by decide +kernel
theorem dX6_chainNumbered_1 : decode cX6_chainNumbered 1 = .ok (.iconst 0, 1) := by decide +kernel
theorem dX6_chainNumbered_2 : decode cX6_chainNumbered 2 = .ok (.aload_n 0, 1) := by decide +kernel
theorem dX6_chainNumbered_3 : decode cX6_chainNumbered 3 = .ok (.getfield 15, 3) := by decide +kernel
theorem dX6_chainNumbered_6 : decode cX6_chainNumbered 6 = .ok (.iconst 1, 1) := by decide +kernel
theorem dX6_chainNumbered_7 : decode cX6_chainNumbered 7 = .ok (.isub, 1) := by decide +kernel
theorem dX6_chainNumbered_8 : decode cX6_chainNumbered 8 = .ok (.invokestatic 66, 3) := by decide +kernel
theorem dX6_chainNumbered_11 : decode cX6_chainNumbered 11 = .ok (.ifCond .eq 12, 3) := by decide +kernel
theorem dX6_chainNumbered_14 : decode cX6_chainNumbered 14 = .ok (.aload_n 0, 1) := by decide +kernel
theorem dX6_chainNumbered_15 : decode cX6_chainNumbered 15 = .ok (.getfield 11, 3) := by decide +kernel
theorem dX6_chainNumbered_18 : decode cX6_chainNumbered 18 = .ok (.iload_n 1, 1) := by decide +kernel
theorem dX6_chainNumbered_19 : decode cX6_chainNumbered 19 = .ok (.aaload, 1) := by decide +kernel
theorem dX6_chainNumbered_20 : decode cX6_chainNumbered 20 = .ok (.goto 4, 3) := by decide +kernel
theorem dX6_chainNumbered_23 : decode cX6_chainNumbered 23 = .ok (.aconst_null, 1) := by decide +kernel
theorem dX6_chainNumbered_24 : decode cX6_chainNumbered 24 = .ok (.areturn, 1) := by decide +kernel
theorem dX6_rowRefusal_0 : decode cX6_rowRefusal 0 = .ok (.aload_n 0, 1) := by decide +kernel
theorem dX6_rowRefusal_1 : decode cX6_rowRefusal 1 = .ok (.getfield 22, 3) := by decide +kernel
theorem dX6_rowRefusal_4 : decode cX6_rowRefusal 4 = .ok (.invokevirtual 117, 3) := by decide +kernel
theorem dX6_rowRefusal_7 : decode cX6_rowRefusal 7 = .ok (.ifCond .ne 6, 3) := by decide +kernel
theorem dX6_rowRefusal_10 : decode cX6_rowRefusal 10 = .ok (.bipush (-2), 2) := by decide +kernel
theorem dX6_rowRefusal_12 : decode cX6_rowRefusal 12 = .ok (.ireturn, 1) := by decide +kernel
theorem dX6_rowRefusal_13 : decode cX6_rowRefusal 13 = .ok (.aload_n 1, 1) := by decide +kernel
theorem dX6_rowRefusal_14 : decode cX6_rowRefusal 14 = .ok (.invokevirtual 98, 3) := by decide +kernel
theorem dX6_rowRefusal_17 : decode cX6_rowRefusal 17 = .ok (.ifCond .ne 6, 3) := by decide +kernel
theorem dX6_rowRefusal_20 : decode cX6_rowRefusal 20 = .ok (.bipush (-3), 2) := by decide +kernel
theorem dX6_rowRefusal_22 : decode cX6_rowRefusal 22 = .ok (.ireturn, 1) := by decide +kernel
theorem dX6_rowRefusal_23 : decode cX6_rowRefusal 23 = .ok (.aload_n 0, 1) := by decide +kernel
theorem dX6_rowRefusal_24 : decode cX6_rowRefusal 24 = .ok (.getfield 22, 3) := by decide +kernel
theorem dX6_rowRefusal_27 : decode cX6_rowRefusal 27 = .ok (.aload_n 1, 1) := by decide +kernel
theorem dX6_rowRefusal_28 : decode cX6_rowRefusal 28 = .ok (.invokevirtual 205, 3) := by decide +kernel
theorem dX6_rowRefusal_31 : decode cX6_rowRefusal 31 = .ok (.ifCond .eq 7, 3) := by decide +kernel
theorem dX6_rowRefusal_34 : decode cX6_rowRefusal 34 = .ok (.iconst 0, 1) := by decide +kernel
theorem dX6_rowRefusal_35 : decode cX6_rowRefusal 35 = .ok (.goto 5, 3) := by decide +kernel
theorem dX6_rowRefusal_38 : decode cX6_rowRefusal 38 = .ok (.bipush (-4), 2) := by decide +kernel
theorem dX6_rowRefusal_40 : decode cX6_rowRefusal 40 = .ok (.ireturn, 1) := by decide +kernel
theorem dX6_pairRefusal_0 : decode cX6_pairRefusal 0 = .ok (.aload_n 0, 1) := by decide +kernel
theorem dX6_pairRefusal_1 : decode cX6_pairRefusal 1 = .ok (.iload_n 1, 1) := by decide +kernel
theorem dX6_pairRefusal_2 : decode cX6_pairRefusal 2 = .ok (.invokevirtual 73, 3) := by decide +kernel
theorem dX6_pairRefusal_5 : decode cX6_pairRefusal 5 = .ok (.astore_n 3, 1) := by decide +kernel
theorem dX6_pairRefusal_6 : decode cX6_pairRefusal 6 = .ok (.aload_n 0, 1) := by decide +kernel
theorem dX6_pairRefusal_7 : decode cX6_pairRefusal 7 = .ok (.iload_n 2, 1) := by decide +kernel
theorem dX6_pairRefusal_8 : decode cX6_pairRefusal 8 = .ok (.invokevirtual 73, 3) := by decide +kernel
theorem dX6_pairRefusal_11 : decode cX6_pairRefusal 11 = .ok (.astore 4, 2) := by decide +kernel
theorem dX6_pairRefusal_13 : decode cX6_pairRefusal 13 = .ok (.aload_n 3, 1) := by decide +kernel
theorem dX6_pairRefusal_14 : decode cX6_pairRefusal 14 = .ok (.ifnull 8, 3) := by decide +kernel
theorem dX6_pairRefusal_17 : decode cX6_pairRefusal 17 = .ok (.aload 4, 2) := by decide +kernel
theorem dX6_pairRefusal_19 : decode cX6_pairRefusal 19 = .ok (.ifnonnull 5, 3) := by decide +kernel
theorem dX6_pairRefusal_22 : decode cX6_pairRefusal 22 = .ok (.iconst (-1), 1) := by decide +kernel
theorem dX6_pairRefusal_23 : decode cX6_pairRefusal 23 = .ok (.ireturn, 1) := by decide +kernel
theorem dX6_pairRefusal_24 : decode cX6_pairRefusal 24 = .ok (.aload_n 3, 1) := by decide +kernel
theorem dX6_pairRefusal_25 : decode cX6_pairRefusal 25 = .ok (.invokevirtual 98, 3) := by decide +kernel
theorem dX6_pairRefusal_28 : decode cX6_pairRefusal 28 = .ok (.ifCond .eq 11, 3) := by decide +kernel
theorem dX6_pairRefusal_31 : decode cX6_pairRefusal 31 = .ok (.aload 4, 2) := by decide +kernel
theorem dX6_pairRefusal_33 : decode cX6_pairRefusal 33 = .ok (.invokevirtual 98, 3) := by decide +kernel
theorem dX6_pairRefusal_36 : decode cX6_pairRefusal 36 = .ok (.ifCond .ne 6, 3) := by decide +kernel
theorem dX6_pairRefusal_39 : decode cX6_pairRefusal 39 = .ok (.bipush (-3), 2) := by decide +kernel
theorem dX6_pairRefusal_41 : decode cX6_pairRefusal 41 = .ok (.ireturn, 1) := by decide +kernel
theorem dX6_pairRefusal_42 : decode cX6_pairRefusal 42 = .ok (.aload_n 3, 1) := by decide +kernel
theorem dX6_pairRefusal_43 : decode cX6_pairRefusal 43 = .ok (.getfield 105, 3) := by decide +kernel
theorem dX6_pairRefusal_46 : decode cX6_pairRefusal 46 = .ok (.aload 4, 2) := by decide +kernel
theorem dX6_pairRefusal_48 : decode cX6_pairRefusal 48 = .ok (.getfield 105, 3) := by decide +kernel
theorem dX6_pairRefusal_51 : decode cX6_pairRefusal 51 = .ok (.if_icmp .ne 19, 3) := by decide +kernel
theorem dX6_pairRefusal_54 : decode cX6_pairRefusal 54 = .ok (.aload_n 3, 1) := by decide +kernel
theorem dX6_pairRefusal_55 : decode cX6_pairRefusal 55 = .ok (.getfield 108, 3) := by decide +kernel
theorem dX6_pairRefusal_58 : decode cX6_pairRefusal 58 = .ok (.aload 4, 2) := by decide +kernel
theorem dX6_pairRefusal_60 : decode cX6_pairRefusal 60 = .ok (.getfield 108, 3) := by decide +kernel
theorem dX6_pairRefusal_63 : decode cX6_pairRefusal 63 = .ok (.if_icmp .ne 7, 3) := by decide +kernel
theorem dX6_pairRefusal_66 : decode cX6_pairRefusal 66 = .ok (.iconst 0, 1) := by decide +kernel
theorem dX6_pairRefusal_67 : decode cX6_pairRefusal 67 = .ok (.goto 5, 3) := by decide +kernel
theorem dX6_pairRefusal_70 : decode cX6_pairRefusal 70 = .ok (.bipush (-4), 2) := by decide +kernel
theorem dX6_pairRefusal_72 : decode cX6_pairRefusal 72 = .ok (.ireturn, 1) := by decide +kernel
theorem dX6_tellingLength_0 : decode cX6_tellingLength 0 = .ok (.aload_n 0, 1) := by decide +kernel
theorem dX6_tellingLength_1 : decode cX6_tellingLength 1 = .ok (.iload_n 1, 1) := by decide +kernel
theorem dX6_tellingLength_2 : decode cX6_tellingLength 2 = .ok (.invokevirtual 73, 3) := by decide +kernel
theorem dX6_tellingLength_5 : decode cX6_tellingLength 5 = .ok (.astore_n 3, 1) := by decide +kernel
theorem dX6_tellingLength_6 : decode cX6_tellingLength 6 = .ok (.aload_n 0, 1) := by decide +kernel
theorem dX6_tellingLength_7 : decode cX6_tellingLength 7 = .ok (.iload_n 2, 1) := by decide +kernel
theorem dX6_tellingLength_8 : decode cX6_tellingLength 8 = .ok (.invokevirtual 73, 3) := by decide +kernel
theorem dX6_tellingLength_11 : decode cX6_tellingLength 11 = .ok (.astore 4, 2) := by decide +kernel
theorem dX6_tellingLength_13 : decode cX6_tellingLength 13 = .ok (.aload_n 3, 1) := by decide +kernel
theorem dX6_tellingLength_14 : decode cX6_tellingLength 14 = .ok (.ifnull 8, 3) := by decide +kernel
theorem dX6_tellingLength_17 : decode cX6_tellingLength 17 = .ok (.aload 4, 2) := by decide +kernel
theorem dX6_tellingLength_19 : decode cX6_tellingLength 19 = .ok (.ifnonnull 5, 3) := by decide +kernel
theorem dX6_tellingLength_22 : decode cX6_tellingLength 22 = .ok (.iconst 0, 1) := by decide +kernel
theorem dX6_tellingLength_23 : decode cX6_tellingLength 23 = .ok (.ireturn, 1) := by decide +kernel
theorem dX6_tellingLength_24 : decode cX6_tellingLength 24 = .ok (.aload_n 0, 1) := by decide +kernel
theorem dX6_tellingLength_25 : decode cX6_tellingLength 25 = .ok (.getfield 51, 3) := by decide +kernel
theorem dX6_tellingLength_28 : decode cX6_tellingLength 28 = .ok (.aload_n 3, 1) := by decide +kernel
theorem dX6_tellingLength_29 : decode cX6_tellingLength 29 = .ok (.aload 4, 2) := by decide +kernel
theorem dX6_tellingLength_31 : decode cX6_tellingLength 31 = .ok (.invokevirtual 209, 3) := by decide +kernel
theorem dX6_tellingLength_34 : decode cX6_tellingLength 34 = .ok (.aload_n 0, 1) := by decide +kernel
theorem dX6_tellingLength_35 : decode cX6_tellingLength 35 = .ok (.getfield 51, 3) := by decide +kernel
theorem dX6_tellingLength_38 : decode cX6_tellingLength 38 = .ok (.invokevirtual 191, 3) := by decide +kernel
theorem dX6_tellingLength_41 : decode cX6_tellingLength 41 = .ok (.ireturn, 1) := by decide +kernel
theorem dX6_putCrossChance_0 : decode cX6_putCrossChance 0 = .ok (.aload_n 0, 1) := by decide +kernel
theorem dX6_putCrossChance_1 : decode cX6_putCrossChance 1 = .ok (.getfield 38, 3) := by decide +kernel
theorem dX6_putCrossChance_4 : decode cX6_putCrossChance 4 = .ok (.aload_n 1, 1) := by decide +kernel
theorem dX6_putCrossChance_5 : decode cX6_putCrossChance 5 = .ok (.aload_n 2, 1) := by decide +kernel
theorem dX6_putCrossChance_6 : decode cX6_putCrossChance 6 = .ok (.aload_n 0, 1) := by decide +kernel
theorem dX6_putCrossChance_7 : decode cX6_putCrossChance 7 = .ok (.getfield 22, 3) := by decide +kernel
theorem dX6_putCrossChance_10 : decode cX6_putCrossChance 10 = .ok (.invokevirtual 135, 3) := by decide +kernel
theorem dX6_putCrossChance_13 : decode cX6_putCrossChance 13 = .ok (.iconst 0, 1) := by decide +kernel
theorem dX6_putCrossChance_14 : decode cX6_putCrossChance 14 = .ok (.istore 4, 2) := by decide +kernel
theorem dX6_putCrossChance_16 : decode cX6_putCrossChance 16 = .ok (.iload 4, 2) := by decide +kernel
theorem dX6_putCrossChance_18 : decode cX6_putCrossChance 18 = .ok (.aload_n 0, 1) := by decide +kernel
theorem dX6_putCrossChance_19 : decode cX6_putCrossChance 19 = .ok (.getfield 22, 3) := by decide +kernel
theorem dX6_putCrossChance_22 : decode cX6_putCrossChance 22 = .ok (.invokevirtual 117, 3) := by decide +kernel
theorem dX6_putCrossChance_25 : decode cX6_putCrossChance 25 = .ok (.if_icmp .ge 19, 3) := by decide +kernel
theorem dX6_putCrossChance_28 : decode cX6_putCrossChance 28 = .ok (.aload_n 1, 1) := by decide +kernel
theorem dX6_putCrossChance_29 : decode cX6_putCrossChance 29 = .ok (.aload_n 1, 1) := by decide +kernel
theorem dX6_putCrossChance_30 : decode cX6_putCrossChance 30 = .ok (.iload_n 3, 1) := by decide +kernel
theorem dX6_putCrossChance_31 : decode cX6_putCrossChance 31 = .ok (.i2l, 1) := by decide +kernel
theorem dX6_putCrossChance_32 : decode cX6_putCrossChance 32 = .ok (.iload_n 3, 1) := by decide +kernel
theorem dX6_putCrossChance_33 : decode cX6_putCrossChance 33 = .ok (.i2l, 1) := by decide +kernel
theorem dX6_putCrossChance_34 : decode cX6_putCrossChance 34 = .ok (.lmul, 1) := by decide +kernel
theorem dX6_putCrossChance_35 : decode cX6_putCrossChance 35 = .ok (.invokevirtual 213, 3) := by decide +kernel
theorem dX6_putCrossChance_38 : decode cX6_putCrossChance 38 = .ok (.iinc 4 1, 3) := by decide +kernel
theorem dX6_putCrossChance_41 : decode cX6_putCrossChance 41 = .ok (.goto (-25), 3) := by decide +kernel
theorem dX6_putCrossChance_44 : decode cX6_putCrossChance 44 = .ok (.return_, 1) := by decide +kernel
theorem dL_law_0 : decode cL_law 0 = .ok (.new 7, 3) := by decide +kernel
theorem dL_law_3 : decode cL_law 3 = .ok (.dup, 1) := by decide +kernel
theorem dL_law_4 : decode cL_law 4 = .ok (.invokespecial 9, 3) := by decide +kernel
theorem dL_law_7 : decode cL_law 7 = .ok (.astore_n 1, 1) := by decide +kernel
theorem dL_law_8 : decode cL_law 8 = .ok (.new 10, 3) := by decide +kernel
theorem dL_law_11 : decode cL_law 11 = .ok (.dup, 1) := by decide +kernel
theorem dL_law_12 : decode cL_law 12 = .ok (.invokespecial 12, 3) := by decide +kernel
theorem dL_law_15 : decode cL_law 15 = .ok (.astore_n 2, 1) := by decide +kernel
theorem dL_law_16 : decode cL_law 16 = .ok (.iconst 0, 1) := by decide +kernel
theorem dL_law_17 : decode cL_law 17 = .ok (.istore_n 3, 1) := by decide +kernel
theorem dL_law_18 : decode cL_law 18 = .ok (.iload_n 3, 1) := by decide +kernel
theorem dL_law_19 : decode cL_law 19 = .ok (.aload_n 0, 1) := by decide +kernel
theorem dL_law_20 : decode cL_law 20 = .ok (.arraylength, 1) := by decide +kernel
theorem dL_law_21 : decode cL_law 21 = .ok (.iconst 5, 1) := by decide +kernel
theorem dL_law_22 : decode cL_law 22 = .ok (.isub, 1) := by decide +kernel
theorem dL_law_23 : decode cL_law 23 = .ok (.if_icmp .gt 799, 3) := by decide +kernel
theorem dL_law_26 : decode cL_law 26 = .ok (.aload_n 0, 1) := by decide +kernel
theorem dL_law_27 : decode cL_law 27 = .ok (.iload_n 3, 1) := by decide +kernel
theorem dL_law_28 : decode cL_law 28 = .ok (.iaload, 1) := by decide +kernel
theorem dL_law_29 : decode cL_law 29 = .ok (.bipush 31, 2) := by decide +kernel
theorem dL_law_31 : decode cL_law 31 = .ok (.iand, 1) := by decide +kernel
theorem dL_law_32 : decode cL_law 32 = .ok (.tableswitch 784 0 20 #[100, 143, 186, 239, 292, 315, 348, 371, 394, 417, 440, 493, 526, 559, 582, 615, 648, 681, 724, 748, 771], 100) := by decide +kernel
theorem dL_law_132 : decode cL_law 132 = .ok (.aload_n 1, 1) := by decide +kernel
theorem dL_law_133 : decode cL_law 133 = .ok (.aload_n 0, 1) := by decide +kernel
theorem dL_law_134 : decode cL_law 134 = .ok (.iload_n 3, 1) := by decide +kernel
theorem dL_law_135 : decode cL_law 135 = .ok (.iconst 1, 1) := by decide +kernel
theorem dL_law_136 : decode cL_law 136 = .ok (.iadd, 1) := by decide +kernel
theorem dL_law_137 : decode cL_law 137 = .ok (.iaload, 1) := by decide +kernel
theorem dL_law_138 : decode cL_law 138 = .ok (.aload_n 0, 1) := by decide +kernel
theorem dL_law_139 : decode cL_law 139 = .ok (.iload_n 3, 1) := by decide +kernel
theorem dL_law_140 : decode cL_law 140 = .ok (.iconst 2, 1) := by decide +kernel
theorem dL_law_141 : decode cL_law 141 = .ok (.iadd, 1) := by decide +kernel
theorem dL_law_142 : decode cL_law 142 = .ok (.iaload, 1) := by decide +kernel
theorem dL_law_143 : decode cL_law 143 = .ok (.aload_n 0, 1) := by decide +kernel
theorem dL_law_144 : decode cL_law 144 = .ok (.iload_n 3, 1) := by decide +kernel
theorem dL_law_145 : decode cL_law 145 = .ok (.iconst 3, 1) := by decide +kernel
theorem dL_law_146 : decode cL_law 146 = .ok (.iadd, 1) := by decide +kernel
theorem dL_law_147 : decode cL_law 147 = .ok (.iaload, 1) := by decide +kernel
theorem dL_law_148 : decode cL_law 148 = .ok (.invokevirtual 13, 3) := by decide +kernel
theorem dL_law_151 : decode cL_law 151 = .ok (.aload_n 2, 1) := by decide +kernel
theorem dL_law_152 : decode cL_law 152 = .ok (.aload_n 0, 1) := by decide +kernel
theorem dL_law_153 : decode cL_law 153 = .ok (.iload_n 3, 1) := by decide +kernel
theorem dL_law_154 : decode cL_law 154 = .ok (.iconst 1, 1) := by decide +kernel
theorem dL_law_155 : decode cL_law 155 = .ok (.iadd, 1) := by decide +kernel
theorem dL_law_156 : decode cL_law 156 = .ok (.iaload, 1) := by decide +kernel
theorem dL_law_157 : decode cL_law 157 = .ok (.aload_n 0, 1) := by decide +kernel
theorem dL_law_158 : decode cL_law 158 = .ok (.iload_n 3, 1) := by decide +kernel
theorem dL_law_159 : decode cL_law 159 = .ok (.iconst 2, 1) := by decide +kernel
theorem dL_law_160 : decode cL_law 160 = .ok (.iadd, 1) := by decide +kernel
theorem dL_law_161 : decode cL_law 161 = .ok (.iaload, 1) := by decide +kernel
theorem dL_law_162 : decode cL_law 162 = .ok (.aload_n 0, 1) := by decide +kernel
theorem dL_law_163 : decode cL_law 163 = .ok (.iload_n 3, 1) := by decide +kernel
theorem dL_law_164 : decode cL_law 164 = .ok (.iconst 3, 1) := by decide +kernel
theorem dL_law_165 : decode cL_law 165 = .ok (.iadd, 1) := by decide +kernel
theorem dL_law_166 : decode cL_law 166 = .ok (.iaload, 1) := by decide +kernel
theorem dL_law_167 : decode cL_law 167 = .ok (.invokevirtual 17, 3) := by decide +kernel
theorem dL_law_170 : decode cL_law 170 = .ok (.if_icmp .eq 646, 3) := by decide +kernel
theorem dL_law_173 : decode cL_law 173 = .ok (.iconst 0, 1) := by decide +kernel
theorem dL_law_174 : decode cL_law 174 = .ok (.ireturn, 1) := by decide +kernel
theorem dL_law_175 : decode cL_law 175 = .ok (.aload_n 1, 1) := by decide +kernel
theorem dL_law_176 : decode cL_law 176 = .ok (.aload_n 0, 1) := by decide +kernel
theorem dL_law_177 : decode cL_law 177 = .ok (.iload_n 3, 1) := by decide +kernel
theorem dL_law_178 : decode cL_law 178 = .ok (.iconst 1, 1) := by decide +kernel
theorem dL_law_179 : decode cL_law 179 = .ok (.iadd, 1) := by decide +kernel
theorem dL_law_180 : decode cL_law 180 = .ok (.iaload, 1) := by decide +kernel
theorem dL_law_181 : decode cL_law 181 = .ok (.aload_n 0, 1) := by decide +kernel
theorem dL_law_182 : decode cL_law 182 = .ok (.iload_n 3, 1) := by decide +kernel
theorem dL_law_183 : decode cL_law 183 = .ok (.iconst 2, 1) := by decide +kernel
theorem dL_law_184 : decode cL_law 184 = .ok (.iadd, 1) := by decide +kernel
theorem dL_law_185 : decode cL_law 185 = .ok (.iaload, 1) := by decide +kernel
theorem dL_law_186 : decode cL_law 186 = .ok (.aload_n 0, 1) := by decide +kernel
theorem dL_law_187 : decode cL_law 187 = .ok (.iload_n 3, 1) := by decide +kernel
theorem dL_law_188 : decode cL_law 188 = .ok (.iconst 3, 1) := by decide +kernel
theorem dL_law_189 : decode cL_law 189 = .ok (.iadd, 1) := by decide +kernel
theorem dL_law_190 : decode cL_law 190 = .ok (.iaload, 1) := by decide +kernel
theorem dL_law_191 : decode cL_law 191 = .ok (.invokevirtual 18, 3) := by decide +kernel
theorem dL_law_194 : decode cL_law 194 = .ok (.aload_n 2, 1) := by decide +kernel
theorem dL_law_195 : decode cL_law 195 = .ok (.aload_n 0, 1) := by decide +kernel
theorem dL_law_196 : decode cL_law 196 = .ok (.iload_n 3, 1) := by decide +kernel
theorem dL_law_197 : decode cL_law 197 = .ok (.iconst 1, 1) := by decide +kernel
theorem dL_law_198 : decode cL_law 198 = .ok (.iadd, 1) := by decide +kernel
theorem dL_law_199 : decode cL_law 199 = .ok (.iaload, 1) := by decide +kernel
theorem dL_law_200 : decode cL_law 200 = .ok (.aload_n 0, 1) := by decide +kernel
theorem dL_law_201 : decode cL_law 201 = .ok (.iload_n 3, 1) := by decide +kernel
theorem dL_law_202 : decode cL_law 202 = .ok (.iconst 2, 1) := by decide +kernel
theorem dL_law_203 : decode cL_law 203 = .ok (.iadd, 1) := by decide +kernel
theorem dL_law_204 : decode cL_law 204 = .ok (.iaload, 1) := by decide +kernel
theorem dL_law_205 : decode cL_law 205 = .ok (.aload_n 0, 1) := by decide +kernel
theorem dL_law_206 : decode cL_law 206 = .ok (.iload_n 3, 1) := by decide +kernel
theorem dL_law_207 : decode cL_law 207 = .ok (.iconst 3, 1) := by decide +kernel
theorem dL_law_208 : decode cL_law 208 = .ok (.iadd, 1) := by decide +kernel
theorem dL_law_209 : decode cL_law 209 = .ok (.iaload, 1) := by decide +kernel
theorem dL_law_210 : decode cL_law 210 = .ok (.invokevirtual 21, 3) := by decide +kernel
theorem dL_law_213 : decode cL_law 213 = .ok (.if_icmp .eq 603, 3) := by decide +kernel
theorem dL_law_216 : decode cL_law 216 = .ok (.iconst 0, 1) := by decide +kernel
theorem dL_law_217 : decode cL_law 217 = .ok (.ireturn, 1) := by decide +kernel
theorem dL_law_218 : decode cL_law 218 = .ok (.aload_n 1, 1) := by decide +kernel
theorem dL_law_219 : decode cL_law 219 = .ok (.aload_n 0, 1) := by decide +kernel
theorem dL_law_220 : decode cL_law 220 = .ok (.iload_n 3, 1) := by decide +kernel
theorem dL_law_221 : decode cL_law 221 = .ok (.iconst 1, 1) := by decide +kernel
theorem dL_law_222 : decode cL_law 222 = .ok (.iadd, 1) := by decide +kernel
theorem dL_law_223 : decode cL_law 223 = .ok (.iaload, 1) := by decide +kernel
theorem dL_law_224 : decode cL_law 224 = .ok (.aload_n 0, 1) := by decide +kernel
theorem dL_law_225 : decode cL_law 225 = .ok (.iload_n 3, 1) := by decide +kernel
theorem dL_law_226 : decode cL_law 226 = .ok (.iconst 2, 1) := by decide +kernel
theorem dL_law_227 : decode cL_law 227 = .ok (.iadd, 1) := by decide +kernel
theorem dL_law_228 : decode cL_law 228 = .ok (.iaload, 1) := by decide +kernel
theorem dL_law_229 : decode cL_law 229 = .ok (.aload_n 0, 1) := by decide +kernel
theorem dL_law_230 : decode cL_law 230 = .ok (.iload_n 3, 1) := by decide +kernel
theorem dL_law_231 : decode cL_law 231 = .ok (.iconst 3, 1) := by decide +kernel
theorem dL_law_232 : decode cL_law 232 = .ok (.iadd, 1) := by decide +kernel
theorem dL_law_233 : decode cL_law 233 = .ok (.iaload, 1) := by decide +kernel
theorem dL_law_234 : decode cL_law 234 = .ok (.aload_n 0, 1) := by decide +kernel
theorem dL_law_235 : decode cL_law 235 = .ok (.iload_n 3, 1) := by decide +kernel
theorem dL_law_236 : decode cL_law 236 = .ok (.iconst 4, 1) := by decide +kernel
theorem dL_law_237 : decode cL_law 237 = .ok (.iadd, 1) := by decide +kernel
theorem dL_law_238 : decode cL_law 238 = .ok (.iaload, 1) := by decide +kernel
theorem dL_law_239 : decode cL_law 239 = .ok (.invokevirtual 22, 3) := by decide +kernel
theorem dL_law_242 : decode cL_law 242 = .ok (.aload_n 2, 1) := by decide +kernel
theorem dL_law_243 : decode cL_law 243 = .ok (.aload_n 0, 1) := by decide +kernel
theorem dL_law_244 : decode cL_law 244 = .ok (.iload_n 3, 1) := by decide +kernel
theorem dL_law_245 : decode cL_law 245 = .ok (.iconst 1, 1) := by decide +kernel
theorem dL_law_246 : decode cL_law 246 = .ok (.iadd, 1) := by decide +kernel
theorem dL_law_247 : decode cL_law 247 = .ok (.iaload, 1) := by decide +kernel
theorem dL_law_248 : decode cL_law 248 = .ok (.aload_n 0, 1) := by decide +kernel
theorem dL_law_249 : decode cL_law 249 = .ok (.iload_n 3, 1) := by decide +kernel
theorem dL_law_250 : decode cL_law 250 = .ok (.iconst 2, 1) := by decide +kernel
theorem dL_law_251 : decode cL_law 251 = .ok (.iadd, 1) := by decide +kernel
theorem dL_law_252 : decode cL_law 252 = .ok (.iaload, 1) := by decide +kernel
theorem dL_law_253 : decode cL_law 253 = .ok (.aload_n 0, 1) := by decide +kernel
theorem dL_law_254 : decode cL_law 254 = .ok (.iload_n 3, 1) := by decide +kernel
theorem dL_law_255 : decode cL_law 255 = .ok (.iconst 3, 1) := by decide +kernel
theorem dL_law_256 : decode cL_law 256 = .ok (.iadd, 1) := by decide +kernel
theorem dL_law_257 : decode cL_law 257 = .ok (.iaload, 1) := by decide +kernel
theorem dL_law_258 : decode cL_law 258 = .ok (.aload_n 0, 1) := by decide +kernel
theorem dL_law_259 : decode cL_law 259 = .ok (.iload_n 3, 1) := by decide +kernel
theorem dL_law_260 : decode cL_law 260 = .ok (.iconst 4, 1) := by decide +kernel
theorem dL_law_261 : decode cL_law 261 = .ok (.iadd, 1) := by decide +kernel
theorem dL_law_262 : decode cL_law 262 = .ok (.iaload, 1) := by decide +kernel
theorem dL_law_263 : decode cL_law 263 = .ok (.invokevirtual 26, 3) := by decide +kernel
theorem dL_law_266 : decode cL_law 266 = .ok (.if_icmp .eq 550, 3) := by decide +kernel
theorem dL_law_269 : decode cL_law 269 = .ok (.iconst 0, 1) := by decide +kernel
theorem dL_law_270 : decode cL_law 270 = .ok (.ireturn, 1) := by decide +kernel
theorem dL_law_271 : decode cL_law 271 = .ok (.aload_n 1, 1) := by decide +kernel
theorem dL_law_272 : decode cL_law 272 = .ok (.aload_n 0, 1) := by decide +kernel
theorem dL_law_273 : decode cL_law 273 = .ok (.iload_n 3, 1) := by decide +kernel
theorem dL_law_274 : decode cL_law 274 = .ok (.iconst 1, 1) := by decide +kernel
theorem dL_law_275 : decode cL_law 275 = .ok (.iadd, 1) := by decide +kernel
theorem dL_law_276 : decode cL_law 276 = .ok (.iaload, 1) := by decide +kernel
theorem dL_law_277 : decode cL_law 277 = .ok (.aload_n 0, 1) := by decide +kernel
theorem dL_law_278 : decode cL_law 278 = .ok (.iload_n 3, 1) := by decide +kernel
theorem dL_law_279 : decode cL_law 279 = .ok (.iconst 2, 1) := by decide +kernel
theorem dL_law_280 : decode cL_law 280 = .ok (.iadd, 1) := by decide +kernel
theorem dL_law_281 : decode cL_law 281 = .ok (.iaload, 1) := by decide +kernel
theorem dL_law_282 : decode cL_law 282 = .ok (.aload_n 0, 1) := by decide +kernel
theorem dL_law_283 : decode cL_law 283 = .ok (.iload_n 3, 1) := by decide +kernel
theorem dL_law_284 : decode cL_law 284 = .ok (.iconst 3, 1) := by decide +kernel
theorem dL_law_285 : decode cL_law 285 = .ok (.iadd, 1) := by decide +kernel
theorem dL_law_286 : decode cL_law 286 = .ok (.iaload, 1) := by decide +kernel
theorem dL_law_287 : decode cL_law 287 = .ok (.aload_n 0, 1) := by decide +kernel
theorem dL_law_288 : decode cL_law 288 = .ok (.iload_n 3, 1) := by decide +kernel
theorem dL_law_289 : decode cL_law 289 = .ok (.iconst 4, 1) := by decide +kernel
theorem dL_law_290 : decode cL_law 290 = .ok (.iadd, 1) := by decide +kernel
theorem dL_law_291 : decode cL_law 291 = .ok (.iaload, 1) := by decide +kernel
theorem dL_law_292 : decode cL_law 292 = .ok (.invokevirtual 27, 3) := by decide +kernel
theorem dL_law_295 : decode cL_law 295 = .ok (.aload_n 2, 1) := by decide +kernel
theorem dL_law_296 : decode cL_law 296 = .ok (.aload_n 0, 1) := by decide +kernel
theorem dL_law_297 : decode cL_law 297 = .ok (.iload_n 3, 1) := by decide +kernel
theorem dL_law_298 : decode cL_law 298 = .ok (.iconst 1, 1) := by decide +kernel
theorem dL_law_299 : decode cL_law 299 = .ok (.iadd, 1) := by decide +kernel
theorem dL_law_300 : decode cL_law 300 = .ok (.iaload, 1) := by decide +kernel
theorem dL_law_301 : decode cL_law 301 = .ok (.aload_n 0, 1) := by decide +kernel
theorem dL_law_302 : decode cL_law 302 = .ok (.iload_n 3, 1) := by decide +kernel
theorem dL_law_303 : decode cL_law 303 = .ok (.iconst 2, 1) := by decide +kernel
theorem dL_law_304 : decode cL_law 304 = .ok (.iadd, 1) := by decide +kernel
theorem dL_law_305 : decode cL_law 305 = .ok (.iaload, 1) := by decide +kernel
theorem dL_law_306 : decode cL_law 306 = .ok (.aload_n 0, 1) := by decide +kernel
theorem dL_law_307 : decode cL_law 307 = .ok (.iload_n 3, 1) := by decide +kernel
theorem dL_law_308 : decode cL_law 308 = .ok (.iconst 3, 1) := by decide +kernel
theorem dL_law_309 : decode cL_law 309 = .ok (.iadd, 1) := by decide +kernel
theorem dL_law_310 : decode cL_law 310 = .ok (.iaload, 1) := by decide +kernel
theorem dL_law_311 : decode cL_law 311 = .ok (.aload_n 0, 1) := by decide +kernel
theorem dL_law_312 : decode cL_law 312 = .ok (.iload_n 3, 1) := by decide +kernel
theorem dL_law_313 : decode cL_law 313 = .ok (.iconst 4, 1) := by decide +kernel
theorem dL_law_314 : decode cL_law 314 = .ok (.iadd, 1) := by decide +kernel
theorem dL_law_315 : decode cL_law 315 = .ok (.iaload, 1) := by decide +kernel
theorem dL_law_316 : decode cL_law 316 = .ok (.invokevirtual 30, 3) := by decide +kernel
theorem dL_law_319 : decode cL_law 319 = .ok (.if_icmp .eq 497, 3) := by decide +kernel
theorem dL_law_322 : decode cL_law 322 = .ok (.iconst 0, 1) := by decide +kernel
theorem dL_law_323 : decode cL_law 323 = .ok (.ireturn, 1) := by decide +kernel
theorem dL_law_324 : decode cL_law 324 = .ok (.aload_n 1, 1) := by decide +kernel
theorem dL_law_325 : decode cL_law 325 = .ok (.aload_n 0, 1) := by decide +kernel
theorem dL_law_326 : decode cL_law 326 = .ok (.iload_n 3, 1) := by decide +kernel
theorem dL_law_327 : decode cL_law 327 = .ok (.iconst 1, 1) := by decide +kernel
theorem dL_law_328 : decode cL_law 328 = .ok (.iadd, 1) := by decide +kernel
theorem dL_law_329 : decode cL_law 329 = .ok (.iaload, 1) := by decide +kernel
theorem dL_law_330 : decode cL_law 330 = .ok (.invokevirtual 31, 3) := by decide +kernel
theorem dL_law_333 : decode cL_law 333 = .ok (.aload_n 2, 1) := by decide +kernel
theorem dL_law_334 : decode cL_law 334 = .ok (.aload_n 0, 1) := by decide +kernel
theorem dL_law_335 : decode cL_law 335 = .ok (.iload_n 3, 1) := by decide +kernel
theorem dL_law_336 : decode cL_law 336 = .ok (.iconst 1, 1) := by decide +kernel
theorem dL_law_337 : decode cL_law 337 = .ok (.iadd, 1) := by decide +kernel
theorem dL_law_338 : decode cL_law 338 = .ok (.iaload, 1) := by decide +kernel
theorem dL_law_339 : decode cL_law 339 = .ok (.invokevirtual 35, 3) := by decide +kernel
theorem dL_law_342 : decode cL_law 342 = .ok (.if_icmp .eq 474, 3) := by decide +kernel
theorem dL_law_345 : decode cL_law 345 = .ok (.iconst 0, 1) := by decide +kernel
theorem dL_law_346 : decode cL_law 346 = .ok (.ireturn, 1) := by decide +kernel
theorem dL_law_347 : decode cL_law 347 = .ok (.aload_n 1, 1) := by decide +kernel
theorem dL_law_348 : decode cL_law 348 = .ok (.aload_n 0, 1) := by decide +kernel
theorem dL_law_349 : decode cL_law 349 = .ok (.iload_n 3, 1) := by decide +kernel
theorem dL_law_350 : decode cL_law 350 = .ok (.iconst 1, 1) := by decide +kernel
theorem dL_law_351 : decode cL_law 351 = .ok (.iadd, 1) := by decide +kernel
theorem dL_law_352 : decode cL_law 352 = .ok (.iaload, 1) := by decide +kernel
theorem dL_law_353 : decode cL_law 353 = .ok (.aload_n 0, 1) := by decide +kernel
theorem dL_law_354 : decode cL_law 354 = .ok (.iload_n 3, 1) := by decide +kernel
theorem dL_law_355 : decode cL_law 355 = .ok (.iconst 2, 1) := by decide +kernel
theorem dL_law_356 : decode cL_law 356 = .ok (.iadd, 1) := by decide +kernel
theorem dL_law_357 : decode cL_law 357 = .ok (.iaload, 1) := by decide +kernel
theorem dL_law_358 : decode cL_law 358 = .ok (.invokevirtual 36, 3) := by decide +kernel
theorem dL_law_361 : decode cL_law 361 = .ok (.aload_n 2, 1) := by decide +kernel
theorem dL_law_362 : decode cL_law 362 = .ok (.aload_n 0, 1) := by decide +kernel
theorem dL_law_363 : decode cL_law 363 = .ok (.iload_n 3, 1) := by decide +kernel
theorem dL_law_364 : decode cL_law 364 = .ok (.iconst 1, 1) := by decide +kernel
theorem dL_law_365 : decode cL_law 365 = .ok (.iadd, 1) := by decide +kernel
theorem dL_law_366 : decode cL_law 366 = .ok (.iaload, 1) := by decide +kernel
theorem dL_law_367 : decode cL_law 367 = .ok (.aload_n 0, 1) := by decide +kernel
theorem dL_law_368 : decode cL_law 368 = .ok (.iload_n 3, 1) := by decide +kernel
theorem dL_law_369 : decode cL_law 369 = .ok (.iconst 2, 1) := by decide +kernel
theorem dL_law_370 : decode cL_law 370 = .ok (.iadd, 1) := by decide +kernel
theorem dL_law_371 : decode cL_law 371 = .ok (.iaload, 1) := by decide +kernel
theorem dL_law_372 : decode cL_law 372 = .ok (.invokevirtual 40, 3) := by decide +kernel
theorem dL_law_375 : decode cL_law 375 = .ok (.if_icmp .eq 441, 3) := by decide +kernel
theorem dL_law_378 : decode cL_law 378 = .ok (.iconst 0, 1) := by decide +kernel
theorem dL_law_379 : decode cL_law 379 = .ok (.ireturn, 1) := by decide +kernel
theorem dL_law_380 : decode cL_law 380 = .ok (.aload_n 1, 1) := by decide +kernel
theorem dL_law_381 : decode cL_law 381 = .ok (.aload_n 0, 1) := by decide +kernel
theorem dL_law_382 : decode cL_law 382 = .ok (.iload_n 3, 1) := by decide +kernel
theorem dL_law_383 : decode cL_law 383 = .ok (.iconst 1, 1) := by decide +kernel
theorem dL_law_384 : decode cL_law 384 = .ok (.iadd, 1) := by decide +kernel
theorem dL_law_385 : decode cL_law 385 = .ok (.iaload, 1) := by decide +kernel
theorem dL_law_386 : decode cL_law 386 = .ok (.invokevirtual 41, 3) := by decide +kernel
theorem dL_law_389 : decode cL_law 389 = .ok (.aload_n 2, 1) := by decide +kernel
theorem dL_law_390 : decode cL_law 390 = .ok (.aload_n 0, 1) := by decide +kernel
theorem dL_law_391 : decode cL_law 391 = .ok (.iload_n 3, 1) := by decide +kernel
theorem dL_law_392 : decode cL_law 392 = .ok (.iconst 1, 1) := by decide +kernel
theorem dL_law_393 : decode cL_law 393 = .ok (.iadd, 1) := by decide +kernel
theorem dL_law_394 : decode cL_law 394 = .ok (.iaload, 1) := by decide +kernel
theorem dL_law_395 : decode cL_law 395 = .ok (.invokevirtual 44, 3) := by decide +kernel
theorem dL_law_398 : decode cL_law 398 = .ok (.if_icmp .eq 418, 3) := by decide +kernel
theorem dL_law_401 : decode cL_law 401 = .ok (.iconst 0, 1) := by decide +kernel
theorem dL_law_402 : decode cL_law 402 = .ok (.ireturn, 1) := by decide +kernel
theorem dL_law_403 : decode cL_law 403 = .ok (.aload_n 1, 1) := by decide +kernel
theorem dL_law_404 : decode cL_law 404 = .ok (.aload_n 0, 1) := by decide +kernel
theorem dL_law_405 : decode cL_law 405 = .ok (.iload_n 3, 1) := by decide +kernel
theorem dL_law_406 : decode cL_law 406 = .ok (.iconst 1, 1) := by decide +kernel
theorem dL_law_407 : decode cL_law 407 = .ok (.iadd, 1) := by decide +kernel
theorem dL_law_408 : decode cL_law 408 = .ok (.iaload, 1) := by decide +kernel
theorem dL_law_409 : decode cL_law 409 = .ok (.invokevirtual 45, 3) := by decide +kernel
theorem dL_law_412 : decode cL_law 412 = .ok (.aload_n 2, 1) := by decide +kernel
theorem dL_law_413 : decode cL_law 413 = .ok (.aload_n 0, 1) := by decide +kernel
theorem dL_law_414 : decode cL_law 414 = .ok (.iload_n 3, 1) := by decide +kernel
theorem dL_law_415 : decode cL_law 415 = .ok (.iconst 1, 1) := by decide +kernel
theorem dL_law_416 : decode cL_law 416 = .ok (.iadd, 1) := by decide +kernel
theorem dL_law_417 : decode cL_law 417 = .ok (.iaload, 1) := by decide +kernel
theorem dL_law_418 : decode cL_law 418 = .ok (.invokevirtual 48, 3) := by decide +kernel
theorem dL_law_421 : decode cL_law 421 = .ok (.if_icmp .eq 395, 3) := by decide +kernel
theorem dL_law_424 : decode cL_law 424 = .ok (.iconst 0, 1) := by decide +kernel
theorem dL_law_425 : decode cL_law 425 = .ok (.ireturn, 1) := by decide +kernel
theorem dL_law_426 : decode cL_law 426 = .ok (.aload_n 1, 1) := by decide +kernel
theorem dL_law_427 : decode cL_law 427 = .ok (.aload_n 0, 1) := by decide +kernel
theorem dL_law_428 : decode cL_law 428 = .ok (.iload_n 3, 1) := by decide +kernel
theorem dL_law_429 : decode cL_law 429 = .ok (.iconst 1, 1) := by decide +kernel
theorem dL_law_430 : decode cL_law 430 = .ok (.iadd, 1) := by decide +kernel
theorem dL_law_431 : decode cL_law 431 = .ok (.iaload, 1) := by decide +kernel
theorem dL_law_432 : decode cL_law 432 = .ok (.invokevirtual 49, 3) := by decide +kernel
theorem dL_law_435 : decode cL_law 435 = .ok (.aload_n 2, 1) := by decide +kernel
theorem dL_law_436 : decode cL_law 436 = .ok (.aload_n 0, 1) := by decide +kernel
theorem dL_law_437 : decode cL_law 437 = .ok (.iload_n 3, 1) := by decide +kernel
theorem dL_law_438 : decode cL_law 438 = .ok (.iconst 1, 1) := by decide +kernel
theorem dL_law_439 : decode cL_law 439 = .ok (.iadd, 1) := by decide +kernel
theorem dL_law_440 : decode cL_law 440 = .ok (.iaload, 1) := by decide +kernel
theorem dL_law_441 : decode cL_law 441 = .ok (.invokevirtual 52, 3) := by decide +kernel
theorem dL_law_444 : decode cL_law 444 = .ok (.if_icmp .eq 372, 3) := by decide +kernel
theorem dL_law_447 : decode cL_law 447 = .ok (.iconst 0, 1) := by decide +kernel
theorem dL_law_448 : decode cL_law 448 = .ok (.ireturn, 1) := by decide +kernel
theorem dL_law_449 : decode cL_law 449 = .ok (.aload_n 1, 1) := by decide +kernel
theorem dL_law_450 : decode cL_law 450 = .ok (.aload_n 0, 1) := by decide +kernel
theorem dL_law_451 : decode cL_law 451 = .ok (.iload_n 3, 1) := by decide +kernel
theorem dL_law_452 : decode cL_law 452 = .ok (.iconst 1, 1) := by decide +kernel
theorem dL_law_453 : decode cL_law 453 = .ok (.iadd, 1) := by decide +kernel
theorem dL_law_454 : decode cL_law 454 = .ok (.iaload, 1) := by decide +kernel
theorem dL_law_455 : decode cL_law 455 = .ok (.invokevirtual 53, 3) := by decide +kernel
theorem dL_law_458 : decode cL_law 458 = .ok (.aload_n 2, 1) := by decide +kernel
theorem dL_law_459 : decode cL_law 459 = .ok (.aload_n 0, 1) := by decide +kernel
theorem dL_law_460 : decode cL_law 460 = .ok (.iload_n 3, 1) := by decide +kernel
theorem dL_law_461 : decode cL_law 461 = .ok (.iconst 1, 1) := by decide +kernel
theorem dL_law_462 : decode cL_law 462 = .ok (.iadd, 1) := by decide +kernel
theorem dL_law_463 : decode cL_law 463 = .ok (.iaload, 1) := by decide +kernel
theorem dL_law_464 : decode cL_law 464 = .ok (.invokevirtual 56, 3) := by decide +kernel
theorem dL_law_467 : decode cL_law 467 = .ok (.if_icmp .eq 349, 3) := by decide +kernel
theorem dL_law_470 : decode cL_law 470 = .ok (.iconst 0, 1) := by decide +kernel
theorem dL_law_471 : decode cL_law 471 = .ok (.ireturn, 1) := by decide +kernel
theorem dL_law_472 : decode cL_law 472 = .ok (.aload_n 1, 1) := by decide +kernel
theorem dL_law_473 : decode cL_law 473 = .ok (.aload_n 0, 1) := by decide +kernel
theorem dL_law_474 : decode cL_law 474 = .ok (.iload_n 3, 1) := by decide +kernel
theorem dL_law_475 : decode cL_law 475 = .ok (.iconst 1, 1) := by decide +kernel
theorem dL_law_476 : decode cL_law 476 = .ok (.iadd, 1) := by decide +kernel
theorem dL_law_477 : decode cL_law 477 = .ok (.iaload, 1) := by decide +kernel
theorem dL_law_478 : decode cL_law 478 = .ok (.aload_n 0, 1) := by decide +kernel
theorem dL_law_479 : decode cL_law 479 = .ok (.iload_n 3, 1) := by decide +kernel
theorem dL_law_480 : decode cL_law 480 = .ok (.iconst 2, 1) := by decide +kernel
theorem dL_law_481 : decode cL_law 481 = .ok (.iadd, 1) := by decide +kernel
theorem dL_law_482 : decode cL_law 482 = .ok (.iaload, 1) := by decide +kernel
theorem dL_law_483 : decode cL_law 483 = .ok (.aload_n 0, 1) := by decide +kernel
theorem dL_law_484 : decode cL_law 484 = .ok (.iload_n 3, 1) := by decide +kernel
theorem dL_law_485 : decode cL_law 485 = .ok (.iconst 3, 1) := by decide +kernel
theorem dL_law_486 : decode cL_law 486 = .ok (.iadd, 1) := by decide +kernel
theorem dL_law_487 : decode cL_law 487 = .ok (.iaload, 1) := by decide +kernel
theorem dL_law_488 : decode cL_law 488 = .ok (.aload_n 0, 1) := by decide +kernel
theorem dL_law_489 : decode cL_law 489 = .ok (.iload_n 3, 1) := by decide +kernel
theorem dL_law_490 : decode cL_law 490 = .ok (.iconst 4, 1) := by decide +kernel
theorem dL_law_491 : decode cL_law 491 = .ok (.iadd, 1) := by decide +kernel
theorem dL_law_492 : decode cL_law 492 = .ok (.iaload, 1) := by decide +kernel
theorem dL_law_493 : decode cL_law 493 = .ok (.invokevirtual 57, 3) := by decide +kernel
theorem dL_law_496 : decode cL_law 496 = .ok (.aload_n 2, 1) := by decide +kernel
theorem dL_law_497 : decode cL_law 497 = .ok (.aload_n 0, 1) := by decide +kernel
theorem dL_law_498 : decode cL_law 498 = .ok (.iload_n 3, 1) := by decide +kernel
theorem dL_law_499 : decode cL_law 499 = .ok (.iconst 1, 1) := by decide +kernel
theorem dL_law_500 : decode cL_law 500 = .ok (.iadd, 1) := by decide +kernel
theorem dL_law_501 : decode cL_law 501 = .ok (.iaload, 1) := by decide +kernel
theorem dL_law_502 : decode cL_law 502 = .ok (.aload_n 0, 1) := by decide +kernel
theorem dL_law_503 : decode cL_law 503 = .ok (.iload_n 3, 1) := by decide +kernel
theorem dL_law_504 : decode cL_law 504 = .ok (.iconst 2, 1) := by decide +kernel
theorem dL_law_505 : decode cL_law 505 = .ok (.iadd, 1) := by decide +kernel
theorem dL_law_506 : decode cL_law 506 = .ok (.iaload, 1) := by decide +kernel
theorem dL_law_507 : decode cL_law 507 = .ok (.aload_n 0, 1) := by decide +kernel
theorem dL_law_508 : decode cL_law 508 = .ok (.iload_n 3, 1) := by decide +kernel
theorem dL_law_509 : decode cL_law 509 = .ok (.iconst 3, 1) := by decide +kernel
theorem dL_law_510 : decode cL_law 510 = .ok (.iadd, 1) := by decide +kernel
theorem dL_law_511 : decode cL_law 511 = .ok (.iaload, 1) := by decide +kernel
theorem dL_law_512 : decode cL_law 512 = .ok (.aload_n 0, 1) := by decide +kernel
theorem dL_law_513 : decode cL_law 513 = .ok (.iload_n 3, 1) := by decide +kernel
theorem dL_law_514 : decode cL_law 514 = .ok (.iconst 4, 1) := by decide +kernel
theorem dL_law_515 : decode cL_law 515 = .ok (.iadd, 1) := by decide +kernel
theorem dL_law_516 : decode cL_law 516 = .ok (.iaload, 1) := by decide +kernel
theorem dL_law_517 : decode cL_law 517 = .ok (.invokevirtual 60, 3) := by decide +kernel
theorem dL_law_520 : decode cL_law 520 = .ok (.if_icmp .eq 296, 3) := by decide +kernel
theorem dL_law_523 : decode cL_law 523 = .ok (.iconst 0, 1) := by decide +kernel
theorem dL_law_524 : decode cL_law 524 = .ok (.ireturn, 1) := by decide +kernel
theorem dL_law_525 : decode cL_law 525 = .ok (.aload_n 1, 1) := by decide +kernel
theorem dL_law_526 : decode cL_law 526 = .ok (.aload_n 0, 1) := by decide +kernel
theorem dL_law_527 : decode cL_law 527 = .ok (.iload_n 3, 1) := by decide +kernel
theorem dL_law_528 : decode cL_law 528 = .ok (.iconst 1, 1) := by decide +kernel
theorem dL_law_529 : decode cL_law 529 = .ok (.iadd, 1) := by decide +kernel
theorem dL_law_530 : decode cL_law 530 = .ok (.iaload, 1) := by decide +kernel
theorem dL_law_531 : decode cL_law 531 = .ok (.aload_n 0, 1) := by decide +kernel
theorem dL_law_532 : decode cL_law 532 = .ok (.iload_n 3, 1) := by decide +kernel
theorem dL_law_533 : decode cL_law 533 = .ok (.iconst 2, 1) := by decide +kernel
theorem dL_law_534 : decode cL_law 534 = .ok (.iadd, 1) := by decide +kernel
theorem dL_law_535 : decode cL_law 535 = .ok (.iaload, 1) := by decide +kernel
theorem dL_law_536 : decode cL_law 536 = .ok (.invokevirtual 61, 3) := by decide +kernel
theorem dL_law_539 : decode cL_law 539 = .ok (.aload_n 2, 1) := by decide +kernel
theorem dL_law_540 : decode cL_law 540 = .ok (.aload_n 0, 1) := by decide +kernel
theorem dL_law_541 : decode cL_law 541 = .ok (.iload_n 3, 1) := by decide +kernel
theorem dL_law_542 : decode cL_law 542 = .ok (.iconst 1, 1) := by decide +kernel
theorem dL_law_543 : decode cL_law 543 = .ok (.iadd, 1) := by decide +kernel
theorem dL_law_544 : decode cL_law 544 = .ok (.iaload, 1) := by decide +kernel
theorem dL_law_545 : decode cL_law 545 = .ok (.aload_n 0, 1) := by decide +kernel
theorem dL_law_546 : decode cL_law 546 = .ok (.iload_n 3, 1) := by decide +kernel
theorem dL_law_547 : decode cL_law 547 = .ok (.iconst 2, 1) := by decide +kernel
theorem dL_law_548 : decode cL_law 548 = .ok (.iadd, 1) := by decide +kernel
theorem dL_law_549 : decode cL_law 549 = .ok (.iaload, 1) := by decide +kernel
theorem dL_law_550 : decode cL_law 550 = .ok (.invokevirtual 64, 3) := by decide +kernel
theorem dL_law_553 : decode cL_law 553 = .ok (.if_icmp .eq 263, 3) := by decide +kernel
theorem dL_law_556 : decode cL_law 556 = .ok (.iconst 0, 1) := by decide +kernel
theorem dL_law_557 : decode cL_law 557 = .ok (.ireturn, 1) := by decide +kernel
theorem dL_law_558 : decode cL_law 558 = .ok (.aload_n 1, 1) := by decide +kernel
theorem dL_law_559 : decode cL_law 559 = .ok (.aload_n 0, 1) := by decide +kernel
theorem dL_law_560 : decode cL_law 560 = .ok (.iload_n 3, 1) := by decide +kernel
theorem dL_law_561 : decode cL_law 561 = .ok (.iconst 1, 1) := by decide +kernel
theorem dL_law_562 : decode cL_law 562 = .ok (.iadd, 1) := by decide +kernel
theorem dL_law_563 : decode cL_law 563 = .ok (.iaload, 1) := by decide +kernel
theorem dL_law_564 : decode cL_law 564 = .ok (.aload_n 0, 1) := by decide +kernel
theorem dL_law_565 : decode cL_law 565 = .ok (.iload_n 3, 1) := by decide +kernel
theorem dL_law_566 : decode cL_law 566 = .ok (.iconst 2, 1) := by decide +kernel
theorem dL_law_567 : decode cL_law 567 = .ok (.iadd, 1) := by decide +kernel
theorem dL_law_568 : decode cL_law 568 = .ok (.iaload, 1) := by decide +kernel
theorem dL_law_569 : decode cL_law 569 = .ok (.invokevirtual 65, 3) := by decide +kernel
theorem dL_law_572 : decode cL_law 572 = .ok (.aload_n 2, 1) := by decide +kernel
theorem dL_law_573 : decode cL_law 573 = .ok (.aload_n 0, 1) := by decide +kernel
theorem dL_law_574 : decode cL_law 574 = .ok (.iload_n 3, 1) := by decide +kernel
theorem dL_law_575 : decode cL_law 575 = .ok (.iconst 1, 1) := by decide +kernel
theorem dL_law_576 : decode cL_law 576 = .ok (.iadd, 1) := by decide +kernel
theorem dL_law_577 : decode cL_law 577 = .ok (.iaload, 1) := by decide +kernel
theorem dL_law_578 : decode cL_law 578 = .ok (.aload_n 0, 1) := by decide +kernel
theorem dL_law_579 : decode cL_law 579 = .ok (.iload_n 3, 1) := by decide +kernel
theorem dL_law_580 : decode cL_law 580 = .ok (.iconst 2, 1) := by decide +kernel
theorem dL_law_581 : decode cL_law 581 = .ok (.iadd, 1) := by decide +kernel
theorem dL_law_582 : decode cL_law 582 = .ok (.iaload, 1) := by decide +kernel
theorem dL_law_583 : decode cL_law 583 = .ok (.invokevirtual 68, 3) := by decide +kernel
theorem dL_law_586 : decode cL_law 586 = .ok (.if_icmp .eq 230, 3) := by decide +kernel
theorem dL_law_589 : decode cL_law 589 = .ok (.iconst 0, 1) := by decide +kernel
theorem dL_law_590 : decode cL_law 590 = .ok (.ireturn, 1) := by decide +kernel
theorem dL_law_591 : decode cL_law 591 = .ok (.aload_n 1, 1) := by decide +kernel
theorem dL_law_592 : decode cL_law 592 = .ok (.aload_n 0, 1) := by decide +kernel
theorem dL_law_593 : decode cL_law 593 = .ok (.iload_n 3, 1) := by decide +kernel
theorem dL_law_594 : decode cL_law 594 = .ok (.iconst 1, 1) := by decide +kernel
theorem dL_law_595 : decode cL_law 595 = .ok (.iadd, 1) := by decide +kernel
theorem dL_law_596 : decode cL_law 596 = .ok (.iaload, 1) := by decide +kernel
theorem dL_law_597 : decode cL_law 597 = .ok (.invokevirtual 69, 3) := by decide +kernel
theorem dL_law_600 : decode cL_law 600 = .ok (.aload_n 2, 1) := by decide +kernel
theorem dL_law_601 : decode cL_law 601 = .ok (.aload_n 0, 1) := by decide +kernel
theorem dL_law_602 : decode cL_law 602 = .ok (.iload_n 3, 1) := by decide +kernel
theorem dL_law_603 : decode cL_law 603 = .ok (.iconst 1, 1) := by decide +kernel
theorem dL_law_604 : decode cL_law 604 = .ok (.iadd, 1) := by decide +kernel
theorem dL_law_605 : decode cL_law 605 = .ok (.iaload, 1) := by decide +kernel
theorem dL_law_606 : decode cL_law 606 = .ok (.invokevirtual 72, 3) := by decide +kernel
theorem dL_law_609 : decode cL_law 609 = .ok (.if_icmp .eq 207, 3) := by decide +kernel
theorem dL_law_612 : decode cL_law 612 = .ok (.iconst 0, 1) := by decide +kernel
theorem dL_law_613 : decode cL_law 613 = .ok (.ireturn, 1) := by decide +kernel
theorem dL_law_614 : decode cL_law 614 = .ok (.aload_n 1, 1) := by decide +kernel
theorem dL_law_615 : decode cL_law 615 = .ok (.aload_n 0, 1) := by decide +kernel
theorem dL_law_616 : decode cL_law 616 = .ok (.iload_n 3, 1) := by decide +kernel
theorem dL_law_617 : decode cL_law 617 = .ok (.iconst 1, 1) := by decide +kernel
theorem dL_law_618 : decode cL_law 618 = .ok (.iadd, 1) := by decide +kernel
theorem dL_law_619 : decode cL_law 619 = .ok (.iaload, 1) := by decide +kernel
theorem dL_law_620 : decode cL_law 620 = .ok (.aload_n 0, 1) := by decide +kernel
theorem dL_law_621 : decode cL_law 621 = .ok (.iload_n 3, 1) := by decide +kernel
theorem dL_law_622 : decode cL_law 622 = .ok (.iconst 2, 1) := by decide +kernel
theorem dL_law_623 : decode cL_law 623 = .ok (.iadd, 1) := by decide +kernel
theorem dL_law_624 : decode cL_law 624 = .ok (.iaload, 1) := by decide +kernel
theorem dL_law_625 : decode cL_law 625 = .ok (.invokevirtual 73, 3) := by decide +kernel
theorem dL_law_628 : decode cL_law 628 = .ok (.aload_n 2, 1) := by decide +kernel
theorem dL_law_629 : decode cL_law 629 = .ok (.aload_n 0, 1) := by decide +kernel
theorem dL_law_630 : decode cL_law 630 = .ok (.iload_n 3, 1) := by decide +kernel
theorem dL_law_631 : decode cL_law 631 = .ok (.iconst 1, 1) := by decide +kernel
theorem dL_law_632 : decode cL_law 632 = .ok (.iadd, 1) := by decide +kernel
theorem dL_law_633 : decode cL_law 633 = .ok (.iaload, 1) := by decide +kernel
theorem dL_law_634 : decode cL_law 634 = .ok (.aload_n 0, 1) := by decide +kernel
theorem dL_law_635 : decode cL_law 635 = .ok (.iload_n 3, 1) := by decide +kernel
theorem dL_law_636 : decode cL_law 636 = .ok (.iconst 2, 1) := by decide +kernel
theorem dL_law_637 : decode cL_law 637 = .ok (.iadd, 1) := by decide +kernel
theorem dL_law_638 : decode cL_law 638 = .ok (.iaload, 1) := by decide +kernel
theorem dL_law_639 : decode cL_law 639 = .ok (.invokevirtual 76, 3) := by decide +kernel
theorem dL_law_642 : decode cL_law 642 = .ok (.if_icmp .eq 174, 3) := by decide +kernel
theorem dL_law_645 : decode cL_law 645 = .ok (.iconst 0, 1) := by decide +kernel
theorem dL_law_646 : decode cL_law 646 = .ok (.ireturn, 1) := by decide +kernel
theorem dL_law_647 : decode cL_law 647 = .ok (.aload_n 1, 1) := by decide +kernel
theorem dL_law_648 : decode cL_law 648 = .ok (.aload_n 0, 1) := by decide +kernel
theorem dL_law_649 : decode cL_law 649 = .ok (.iload_n 3, 1) := by decide +kernel
theorem dL_law_650 : decode cL_law 650 = .ok (.iconst 1, 1) := by decide +kernel
theorem dL_law_651 : decode cL_law 651 = .ok (.iadd, 1) := by decide +kernel
theorem dL_law_652 : decode cL_law 652 = .ok (.iaload, 1) := by decide +kernel
theorem dL_law_653 : decode cL_law 653 = .ok (.aload_n 0, 1) := by decide +kernel
theorem dL_law_654 : decode cL_law 654 = .ok (.iload_n 3, 1) := by decide +kernel
theorem dL_law_655 : decode cL_law 655 = .ok (.iconst 2, 1) := by decide +kernel
theorem dL_law_656 : decode cL_law 656 = .ok (.iadd, 1) := by decide +kernel
theorem dL_law_657 : decode cL_law 657 = .ok (.iaload, 1) := by decide +kernel
theorem dL_law_658 : decode cL_law 658 = .ok (.invokevirtual 77, 3) := by decide +kernel
theorem dL_law_661 : decode cL_law 661 = .ok (.aload_n 2, 1) := by decide +kernel
theorem dL_law_662 : decode cL_law 662 = .ok (.aload_n 0, 1) := by decide +kernel
theorem dL_law_663 : decode cL_law 663 = .ok (.iload_n 3, 1) := by decide +kernel
theorem dL_law_664 : decode cL_law 664 = .ok (.iconst 1, 1) := by decide +kernel
theorem dL_law_665 : decode cL_law 665 = .ok (.iadd, 1) := by decide +kernel
theorem dL_law_666 : decode cL_law 666 = .ok (.iaload, 1) := by decide +kernel
theorem dL_law_667 : decode cL_law 667 = .ok (.aload_n 0, 1) := by decide +kernel
theorem dL_law_668 : decode cL_law 668 = .ok (.iload_n 3, 1) := by decide +kernel
theorem dL_law_669 : decode cL_law 669 = .ok (.iconst 2, 1) := by decide +kernel
theorem dL_law_670 : decode cL_law 670 = .ok (.iadd, 1) := by decide +kernel
theorem dL_law_671 : decode cL_law 671 = .ok (.iaload, 1) := by decide +kernel
theorem dL_law_672 : decode cL_law 672 = .ok (.invokevirtual 80, 3) := by decide +kernel
theorem dL_law_675 : decode cL_law 675 = .ok (.if_icmp .eq 141, 3) := by decide +kernel
theorem dL_law_678 : decode cL_law 678 = .ok (.iconst 0, 1) := by decide +kernel
theorem dL_law_679 : decode cL_law 679 = .ok (.ireturn, 1) := by decide +kernel
theorem dL_law_680 : decode cL_law 680 = .ok (.aload_n 1, 1) := by decide +kernel
theorem dL_law_681 : decode cL_law 681 = .ok (.aload_n 0, 1) := by decide +kernel
theorem dL_law_682 : decode cL_law 682 = .ok (.iload_n 3, 1) := by decide +kernel
theorem dL_law_683 : decode cL_law 683 = .ok (.iconst 1, 1) := by decide +kernel
theorem dL_law_684 : decode cL_law 684 = .ok (.iadd, 1) := by decide +kernel
theorem dL_law_685 : decode cL_law 685 = .ok (.iaload, 1) := by decide +kernel
theorem dL_law_686 : decode cL_law 686 = .ok (.aload_n 0, 1) := by decide +kernel
theorem dL_law_687 : decode cL_law 687 = .ok (.iload_n 3, 1) := by decide +kernel
theorem dL_law_688 : decode cL_law 688 = .ok (.iconst 2, 1) := by decide +kernel
theorem dL_law_689 : decode cL_law 689 = .ok (.iadd, 1) := by decide +kernel
theorem dL_law_690 : decode cL_law 690 = .ok (.iaload, 1) := by decide +kernel
theorem dL_law_691 : decode cL_law 691 = .ok (.invokevirtual 81, 3) := by decide +kernel
theorem dL_law_694 : decode cL_law 694 = .ok (.aload_n 2, 1) := by decide +kernel
theorem dL_law_695 : decode cL_law 695 = .ok (.aload_n 0, 1) := by decide +kernel
theorem dL_law_696 : decode cL_law 696 = .ok (.iload_n 3, 1) := by decide +kernel
theorem dL_law_697 : decode cL_law 697 = .ok (.iconst 1, 1) := by decide +kernel
theorem dL_law_698 : decode cL_law 698 = .ok (.iadd, 1) := by decide +kernel
theorem dL_law_699 : decode cL_law 699 = .ok (.iaload, 1) := by decide +kernel
theorem dL_law_700 : decode cL_law 700 = .ok (.aload_n 0, 1) := by decide +kernel
theorem dL_law_701 : decode cL_law 701 = .ok (.iload_n 3, 1) := by decide +kernel
theorem dL_law_702 : decode cL_law 702 = .ok (.iconst 2, 1) := by decide +kernel
theorem dL_law_703 : decode cL_law 703 = .ok (.iadd, 1) := by decide +kernel
theorem dL_law_704 : decode cL_law 704 = .ok (.iaload, 1) := by decide +kernel
theorem dL_law_705 : decode cL_law 705 = .ok (.invokevirtual 84, 3) := by decide +kernel
theorem dL_law_708 : decode cL_law 708 = .ok (.if_icmp .eq 108, 3) := by decide +kernel
theorem dL_law_711 : decode cL_law 711 = .ok (.iconst 0, 1) := by decide +kernel
theorem dL_law_712 : decode cL_law 712 = .ok (.ireturn, 1) := by decide +kernel
theorem dL_law_713 : decode cL_law 713 = .ok (.aload_n 1, 1) := by decide +kernel
theorem dL_law_714 : decode cL_law 714 = .ok (.aload_n 0, 1) := by decide +kernel
theorem dL_law_715 : decode cL_law 715 = .ok (.iload_n 3, 1) := by decide +kernel
theorem dL_law_716 : decode cL_law 716 = .ok (.iconst 1, 1) := by decide +kernel
theorem dL_law_717 : decode cL_law 717 = .ok (.iadd, 1) := by decide +kernel
theorem dL_law_718 : decode cL_law 718 = .ok (.iaload, 1) := by decide +kernel
theorem dL_law_719 : decode cL_law 719 = .ok (.aload_n 0, 1) := by decide +kernel
theorem dL_law_720 : decode cL_law 720 = .ok (.iload_n 3, 1) := by decide +kernel
theorem dL_law_721 : decode cL_law 721 = .ok (.iconst 2, 1) := by decide +kernel
theorem dL_law_722 : decode cL_law 722 = .ok (.iadd, 1) := by decide +kernel
theorem dL_law_723 : decode cL_law 723 = .ok (.iaload, 1) := by decide +kernel
theorem dL_law_724 : decode cL_law 724 = .ok (.aload_n 0, 1) := by decide +kernel
theorem dL_law_725 : decode cL_law 725 = .ok (.iload_n 3, 1) := by decide +kernel
theorem dL_law_726 : decode cL_law 726 = .ok (.iconst 3, 1) := by decide +kernel
theorem dL_law_727 : decode cL_law 727 = .ok (.iadd, 1) := by decide +kernel
theorem dL_law_728 : decode cL_law 728 = .ok (.iaload, 1) := by decide +kernel
theorem dL_law_729 : decode cL_law 729 = .ok (.invokevirtual 85, 3) := by decide +kernel
theorem dL_law_732 : decode cL_law 732 = .ok (.aload_n 2, 1) := by decide +kernel
theorem dL_law_733 : decode cL_law 733 = .ok (.aload_n 0, 1) := by decide +kernel
theorem dL_law_734 : decode cL_law 734 = .ok (.iload_n 3, 1) := by decide +kernel
theorem dL_law_735 : decode cL_law 735 = .ok (.iconst 1, 1) := by decide +kernel
theorem dL_law_736 : decode cL_law 736 = .ok (.iadd, 1) := by decide +kernel
theorem dL_law_737 : decode cL_law 737 = .ok (.iaload, 1) := by decide +kernel
theorem dL_law_738 : decode cL_law 738 = .ok (.aload_n 0, 1) := by decide +kernel
theorem dL_law_739 : decode cL_law 739 = .ok (.iload_n 3, 1) := by decide +kernel
theorem dL_law_740 : decode cL_law 740 = .ok (.iconst 2, 1) := by decide +kernel
theorem dL_law_741 : decode cL_law 741 = .ok (.iadd, 1) := by decide +kernel
theorem dL_law_742 : decode cL_law 742 = .ok (.iaload, 1) := by decide +kernel
theorem dL_law_743 : decode cL_law 743 = .ok (.aload_n 0, 1) := by decide +kernel
theorem dL_law_744 : decode cL_law 744 = .ok (.iload_n 3, 1) := by decide +kernel
theorem dL_law_745 : decode cL_law 745 = .ok (.iconst 3, 1) := by decide +kernel
theorem dL_law_746 : decode cL_law 746 = .ok (.iadd, 1) := by decide +kernel
theorem dL_law_747 : decode cL_law 747 = .ok (.iaload, 1) := by decide +kernel
theorem dL_law_748 : decode cL_law 748 = .ok (.invokevirtual 88, 3) := by decide +kernel
theorem dL_law_751 : decode cL_law 751 = .ok (.if_icmp .eq 65, 3) := by decide +kernel
theorem dL_law_754 : decode cL_law 754 = .ok (.iconst 0, 1) := by decide +kernel
theorem dL_law_755 : decode cL_law 755 = .ok (.ireturn, 1) := by decide +kernel
theorem dL_law_756 : decode cL_law 756 = .ok (.aload_n 1, 1) := by decide +kernel
theorem dL_law_757 : decode cL_law 757 = .ok (.aload_n 0, 1) := by decide +kernel
theorem dL_law_758 : decode cL_law 758 = .ok (.iload_n 3, 1) := by decide +kernel
theorem dL_law_759 : decode cL_law 759 = .ok (.iconst 1, 1) := by decide +kernel
theorem dL_law_760 : decode cL_law 760 = .ok (.iadd, 1) := by decide +kernel
theorem dL_law_761 : decode cL_law 761 = .ok (.iaload, 1) := by decide +kernel
theorem dL_law_762 : decode cL_law 762 = .ok (.invokevirtual 89, 3) := by decide +kernel
theorem dL_law_765 : decode cL_law 765 = .ok (.aload_n 2, 1) := by decide +kernel
theorem dL_law_766 : decode cL_law 766 = .ok (.aload_n 0, 1) := by decide +kernel
theorem dL_law_767 : decode cL_law 767 = .ok (.iload_n 3, 1) := by decide +kernel
theorem dL_law_768 : decode cL_law 768 = .ok (.iconst 1, 1) := by decide +kernel
theorem dL_law_769 : decode cL_law 769 = .ok (.iadd, 1) := by decide +kernel
theorem dL_law_770 : decode cL_law 770 = .ok (.iaload, 1) := by decide +kernel
theorem dL_law_771 : decode cL_law 771 = .ok (.invokevirtual 93, 3) := by decide +kernel
theorem dL_law_774 : decode cL_law 774 = .ok (.lcmp, 1) := by decide +kernel
theorem dL_law_775 : decode cL_law 775 = .ok (.ifCond .eq 41, 3) := by decide +kernel
theorem dL_law_778 : decode cL_law 778 = .ok (.iconst 0, 1) := by decide +kernel
theorem dL_law_779 : decode cL_law 779 = .ok (.ireturn, 1) := by decide +kernel
theorem dL_law_780 : decode cL_law 780 = .ok (.aload_n 1, 1) := by decide +kernel
theorem dL_law_781 : decode cL_law 781 = .ok (.aload_n 0, 1) := by decide +kernel
theorem dL_law_782 : decode cL_law 782 = .ok (.iload_n 3, 1) := by decide +kernel
theorem dL_law_783 : decode cL_law 783 = .ok (.iconst 1, 1) := by decide +kernel
theorem dL_law_784 : decode cL_law 784 = .ok (.iadd, 1) := by decide +kernel
theorem dL_law_785 : decode cL_law 785 = .ok (.iaload, 1) := by decide +kernel
theorem dL_law_786 : decode cL_law 786 = .ok (.invokevirtual 94, 3) := by decide +kernel
theorem dL_law_789 : decode cL_law 789 = .ok (.aload_n 2, 1) := by decide +kernel
theorem dL_law_790 : decode cL_law 790 = .ok (.aload_n 0, 1) := by decide +kernel
theorem dL_law_791 : decode cL_law 791 = .ok (.iload_n 3, 1) := by decide +kernel
theorem dL_law_792 : decode cL_law 792 = .ok (.iconst 1, 1) := by decide +kernel
theorem dL_law_793 : decode cL_law 793 = .ok (.iadd, 1) := by decide +kernel
theorem dL_law_794 : decode cL_law 794 = .ok (.iaload, 1) := by decide +kernel
theorem dL_law_795 : decode cL_law 795 = .ok (.invokevirtual 97, 3) := by decide +kernel
theorem dL_law_798 : decode cL_law 798 = .ok (.if_icmp .eq 18, 3) := by decide +kernel
theorem dL_law_801 : decode cL_law 801 = .ok (.iconst 0, 1) := by decide +kernel
theorem dL_law_802 : decode cL_law 802 = .ok (.ireturn, 1) := by decide +kernel
theorem dL_law_803 : decode cL_law 803 = .ok (.aload_n 1, 1) := by decide +kernel
theorem dL_law_804 : decode cL_law 804 = .ok (.invokevirtual 98, 3) := by decide +kernel
theorem dL_law_807 : decode cL_law 807 = .ok (.aload_n 2, 1) := by decide +kernel
theorem dL_law_808 : decode cL_law 808 = .ok (.invokevirtual 102, 3) := by decide +kernel
theorem dL_law_811 : decode cL_law 811 = .ok (.if_icmp .eq 5, 3) := by decide +kernel
theorem dL_law_814 : decode cL_law 814 = .ok (.iconst 0, 1) := by decide +kernel
theorem dL_law_815 : decode cL_law 815 = .ok (.ireturn, 1) := by decide +kernel
theorem dL_law_816 : decode cL_law 816 = .ok (.iinc 3 5, 3) := by decide +kernel
theorem dL_law_819 : decode cL_law 819 = .ok (.goto (-801), 3) := by decide +kernel
theorem dL_law_822 : decode cL_law 822 = .ok (.iconst 1, 1) := by decide +kernel
theorem dL_law_823 : decode cL_law 823 = .ok (.ireturn, 1) := by decide +kernel
