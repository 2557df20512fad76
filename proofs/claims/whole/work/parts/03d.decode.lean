theorem dX5_init_0 : decode cX5_init 0 = .ok (.aload_n 0, 1) := by decide +kernel
theorem dX5_init_1 : decode cX5_init 1 = .ok (.invokespecial 1, 3) := by decide +kernel
theorem dX5_init_4 : decode cX5_init 4 = .ok (.aload_n 0, 1) := by decide +kernel
theorem dX5_init_5 : decode cX5_init 5 = .ok (.bipush 6, 2) := by decide +kernel
theorem dX5_init_7 : decode cX5_init 7 = .ok (.newarray .int, 2) := by decide +kernel
theorem dX5_init_9 : decode cX5_init 9 = .ok (.putfield 7, 3) := by decide +kernel
theorem dX5_init_12 : decode cX5_init 12 = .ok (.aload_n 0, 1) := by decide +kernel
theorem dX5_init_13 : decode cX5_init 13 = .ok (.bipush 6, 2) := by decide +kernel
theorem dX5_init_15 : decode cX5_init 15 = .ok (.newarray .int, 2) := by decide +kernel
theorem dX5_init_17 : decode cX5_init 17 = .ok (.putfield 13, 3) := by decide +kernel
theorem dX5_init_20 : decode cX5_init 20 = .ok (.aload_n 0, 1) := by decide +kernel
theorem dX5_init_21 : decode cX5_init 21 = .ok (.bipush 6, 2) := by decide +kernel
theorem dX5_init_23 : decode cX5_init 23 = .ok (.newarray .int, 2) := by decide +kernel
theorem dX5_init_25 : decode cX5_init 25 = .ok (.putfield 16, 3) := by decide +kernel
theorem dX5_init_28 : decode cX5_init 28 = .ok (.aload_n 0, 1) := by decide +kernel
theorem dX5_init_29 : decode cX5_init 29 = .ok (.bipush 40, 2) := by decide +kernel
theorem dX5_init_31 : decode cX5_init 31 = .ok (.newarray .int, 2) := by decide +kernel
theorem dX5_init_33 : decode cX5_init 33 = .ok (.putfield 19, 3) := by decide +kernel
theorem dX5_init_36 : decode cX5_init 36 = .ok (.aload_n 0, 1) := by decide +kernel
theorem dX5_init_37 : decode cX5_init 37 = .ok (.bipush 11, 2) := by decide +kernel
theorem dX5_init_39 : decode cX5_init 39 = .ok (.newarray .int, 2) := by decide +kernel
theorem dX5_init_41 : decode cX5_init 41 = .ok (.putfield 22, 3) := by decide +kernel
theorem dX5_init_44 : decode cX5_init 44 = .ok (.aload_n 0, 1) := by decide +kernel
theorem dX5_init_45 : decode cX5_init 45 = .ok (.bipush 11, 2) := by decide +kernel
theorem dX5_init_47 : decode cX5_init 47 = .ok (.newarray .int, 2) := by decide +kernel
theorem dX5_init_49 : decode cX5_init 49 = .ok (.putfield 25, 3) := by decide +kernel
theorem dX5_init_52 : decode cX5_init 52 = .ok (.aload_n 0, 1) := by decide +kernel
theorem dX5_init_53 : decode cX5_init 53 = .ok (.bipush 41, 2) := by decide +kernel
theorem dX5_init_55 : decode cX5_init 55 = .ok (.newarray .int, 2) := by decide +kernel
theorem dX5_init_57 : decode cX5_init 57 = .ok (.putfield 28, 3) := by decide +kernel
theorem dX5_init_60 : decode cX5_init 60 = .ok (.aload_n 0, 1) := by decide +kernel
theorem dX5_init_61 : decode cX5_init 61 = .ok (.bipush 8, 2) := by decide +kernel
theorem dX5_init_63 : decode cX5_init 63 = .ok (.newarray .int, 2) := by decide +kernel
theorem dX5_init_65 : decode cX5_init 65 = .ok (.putfield 31, 3) := by decide +kernel
theorem dX5_init_68 : decode cX5_init 68 = .ok (.aload_n 0, 1) := by decide +kernel
theorem dX5_init_69 : decode cX5_init 69 = .ok (.bipush 41, 2) := by decide +kernel
theorem dX5_init_71 : decode cX5_init 71 = .ok (.newarray .boolean, 2) := by decide +kernel
theorem dX5_init_73 : decode cX5_init 73 = .ok (.putfield 34, 3) := by decide +kernel
theorem dX5_init_76 : decode cX5_init 76 = .ok (.aload_n 0, 1) := by decide +kernel
theorem dX5_init_77 : decode cX5_init 77 = .ok (.bipush 6, 2) := by decide +kernel
theorem dX5_init_79 : decode cX5_init 79 = .ok (.newarray .int, 2) := by decide +kernel
theorem dX5_init_81 : decode cX5_init 81 = .ok (.putfield 38, 3) := by decide +kernel
theorem dX5_init_84 : decode cX5_init 84 = .ok (.aload_n 0, 1) := by decide +kernel
theorem dX5_init_85 : decode cX5_init 85 = .ok (.bipush 60, 2) := by decide +kernel
theorem dX5_init_87 : decode cX5_init 87 = .ok (.newarray .int, 2) := by decide +kernel
theorem dX5_init_89 : decode cX5_init 89 = .ok (.putfield 41, 3) := by decide +kernel
theorem dX5_init_92 : decode cX5_init 92 = .ok (.aload_n 0, 1) := by decide +kernel
theorem dX5_init_93 : decode cX5_init 93 = .ok (.iconst 2, 1) := by decide +kernel
theorem dX5_init_94 : decode cX5_init 94 = .ok (.newarray .boolean, 2) := by decide +kernel
theorem dX5_init_96 : decode cX5_init 96 = .ok (.putfield 44, 3) := by decide +kernel
theorem dX5_init_99 : decode cX5_init 99 = .ok (.aload_n 0, 1) := by decide +kernel
theorem dX5_init_100 : decode cX5_init 100 = .ok (.bipush 9, 2) := by decide +kernel
theorem dX5_init_102 : decode cX5_init 102 = .ok (.putfield 47, 3) := by decide +kernel
theorem dX5_init_105 : decode cX5_init 105 = .ok (.return_, 1) := by decide +kernel
theorem dX5_in_0 : decode cX5_in 0 = .ok (.lload_n 0, 1) := by decide +kernel
theorem dX5_in_1 : decode cX5_in 1 = .ok (.lload_n 2, 1) := by decide +kernel
theorem dX5_in_2 : decode cX5_in 2 = .ok (.lcmp, 1) := by decide +kernel
theorem dX5_in_3 : decode cX5_in 3 = .ok (.ifCond .lt 14, 3) := by decide +kernel
theorem dX5_in_6 : decode cX5_in 6 = .ok (.lload_n 0, 1) := by decide +kernel
theorem dX5_in_7 : decode cX5_in 7 = .ok (.lload 4, 2) := by decide +kernel
theorem dX5_in_9 : decode cX5_in 9 = .ok (.lcmp, 1) := by decide +kernel
theorem dX5_in_10 : decode cX5_in 10 = .ok (.ifCond .gt 7, 3) := by decide +kernel
theorem dX5_in_13 : decode cX5_in 13 = .ok (.iconst 1, 1) := by decide +kernel
theorem dX5_in_14 : decode cX5_in 14 = .ok (.goto 4, 3) := by decide +kernel
theorem dX5_in_17 : decode cX5_in 17 = .ok (.iconst 0, 1) := by decide +kernel
theorem dX5_in_18 : decode cX5_in 18 = .ok (.ireturn, 1) := by decide +kernel
theorem dX5_ones_0 : decode cX5_ones 0 = .ok (.iconst 0, 1) := by decide +kernel
theorem dX5_ones_1 : decode cX5_ones 1 = .ok (.istore_n 1, 1) := by decide +kernel
theorem dX5_ones_2 : decode cX5_ones 2 = .ok (.iload_n 0, 1) := by decide +kernel
theorem dX5_ones_3 : decode cX5_ones 3 = .ok (.istore_n 2, 1) := by decide +kernel
theorem dX5_ones_4 : decode cX5_ones 4 = .ok (.iload_n 2, 1) := by decide +kernel
theorem dX5_ones_5 : decode cX5_ones 5 = .ok (.ifCond .eq 15, 3) := by decide +kernel
theorem dX5_ones_8 : decode cX5_ones 8 = .ok (.iinc 1 1, 3) := by decide +kernel
theorem dX5_ones_11 : decode cX5_ones 11 = .ok (.iload_n 2, 1) := by decide +kernel
theorem dX5_ones_12 : decode cX5_ones 12 = .ok (.iload_n 2, 1) := by decide +kernel
theorem dX5_ones_13 : decode cX5_ones 13 = .ok (.iconst 1, 1) := by decide +kernel
theorem dX5_ones_14 : decode cX5_ones 14 = .ok (.isub, 1) := by decide +kernel
theorem dX5_ones_15 : decode cX5_ones 15 = .ok (.iand, 1) := by decide +kernel
theorem dX5_ones_16 : decode cX5_ones 16 = .ok (.istore_n 2, 1) := by decide +kernel
theorem dX5_ones_17 : decode cX5_ones 17 = .ok (.goto (-13), 3) := by decide +kernel
theorem dX5_ones_20 : decode cX5_ones 20 = .ok (.iload_n 1, 1) := by decide +kernel
theorem dX5_ones_21 : decode cX5_ones 21 = .ok (.ireturn, 1) := by decide +kernel
theorem dX5_isPerson_0 : decode cX5_isPerson 0 = .ok (.iload_n 0, 1) := by decide +kernel
theorem dX5_isPerson_1 : decode cX5_isPerson 1 = .ok (.i2l, 1) := by decide +kernel
theorem dX5_isPerson_2 : decode cX5_isPerson 2 = .ok (.lconst 0, 1) := by decide +kernel
theorem dX5_isPerson_3 : decode cX5_isPerson 3 = .ok (.ldc2_w 51, 3) := by decide +kernel
theorem dX5_isPerson_6 : decode cX5_isPerson 6 = .ok (.invokestatic 53, 3) := by decide +kernel
theorem dX5_isPerson_9 : decode cX5_isPerson 9 = .ok (.ireturn, 1) := by decide +kernel
theorem dX5_set_0 : decode cX5_set 0 = .ok (.iload_n 1, 1) := by decide +kernel
theorem dX5_set_1 : decode cX5_set 1 = .ok (.i2l, 1) := by decide +kernel
theorem dX5_set_2 : decode cX5_set 2 = .ok (.lconst 0, 1) := by decide +kernel
theorem dX5_set_3 : decode cX5_set 3 = .ok (.lconst 1, 1) := by decide +kernel
theorem dX5_set_4 : decode cX5_set 4 = .ok (.invokestatic 53, 3) := by decide +kernel
theorem dX5_set_7 : decode cX5_set 7 = .ok (.ifCond .eq 33, 3) := by decide +kernel
theorem dX5_set_10 : decode cX5_set 10 = .ok (.iload_n 2, 1) := by decide +kernel
theorem dX5_set_11 : decode cX5_set 11 = .ok (.i2l, 1) := by decide +kernel
theorem dX5_set_12 : decode cX5_set 12 = .ok (.iload_n 1, 1) := by decide +kernel
theorem dX5_set_13 : decode cX5_set 13 = .ok (.ifCond .ne 7, 3) := by decide +kernel
theorem dX5_set_16 : decode cX5_set 16 = .ok (.lconst 1, 1) := by decide +kernel
theorem dX5_set_17 : decode cX5_set 17 = .ok (.goto 4, 3) := by decide +kernel
theorem dX5_set_20 : decode cX5_set 20 = .ok (.lconst 0, 1) := by decide +kernel
theorem dX5_set_21 : decode cX5_set 21 = .ok (.iload_n 1, 1) := by decide +kernel
theorem dX5_set_22 : decode cX5_set 22 = .ok (.ifCond .ne 9, 3) := by decide +kernel
theorem dX5_set_25 : decode cX5_set 25 = .ok (.ldc2_w 57, 3) := by decide +kernel
theorem dX5_set_28 : decode cX5_set 28 = .ok (.goto 6, 3) := by decide +kernel
theorem dX5_set_31 : decode cX5_set 31 = .ok (.ldc2_w 59, 3) := by decide +kernel
theorem dX5_set_34 : decode cX5_set 34 = .ok (.invokestatic 53, 3) := by decide +kernel
theorem dX5_set_37 : decode cX5_set 37 = .ok (.ifCond .ne 6, 3) := by decide +kernel
theorem dX5_set_40 : decode cX5_set 40 = .ok (.bipush (-2), 2) := by decide +kernel
theorem dX5_set_42 : decode cX5_set 42 = .ok (.ireturn, 1) := by decide +kernel
theorem dX5_set_43 : decode cX5_set 43 = .ok (.iload_n 1, 1) := by decide +kernel
theorem dX5_set_44 : decode cX5_set 44 = .ok (.ifCond .ne 10, 3) := by decide +kernel
theorem dX5_set_47 : decode cX5_set 47 = .ok (.aload_n 0, 1) := by decide +kernel
theorem dX5_set_48 : decode cX5_set 48 = .ok (.getfield 47, 3) := by decide +kernel
theorem dX5_set_51 : decode cX5_set 51 = .ok (.goto 7, 3) := by decide +kernel
theorem dX5_set_54 : decode cX5_set 54 = .ok (.aload_n 0, 1) := by decide +kernel
theorem dX5_set_55 : decode cX5_set 55 = .ok (.getfield 61, 3) := by decide +kernel
theorem dX5_set_58 : decode cX5_set 58 = .ok (.istore_n 3, 1) := by decide +kernel
theorem dX5_set_59 : decode cX5_set 59 = .ok (.aload_n 0, 1) := by decide +kernel
theorem dX5_set_60 : decode cX5_set 60 = .ok (.iload_n 1, 1) := by decide +kernel
theorem dX5_set_61 : decode cX5_set 61 = .ok (.ifCond .ne 7, 3) := by decide +kernel
theorem dX5_set_64 : decode cX5_set 64 = .ok (.iload_n 2, 1) := by decide +kernel
theorem dX5_set_65 : decode cX5_set 65 = .ok (.goto 7, 3) := by decide +kernel
theorem dX5_set_68 : decode cX5_set 68 = .ok (.aload_n 0, 1) := by decide +kernel
theorem dX5_set_69 : decode cX5_set 69 = .ok (.getfield 47, 3) := by decide +kernel
theorem dX5_set_72 : decode cX5_set 72 = .ok (.putfield 47, 3) := by decide +kernel
theorem dX5_set_75 : decode cX5_set 75 = .ok (.aload_n 0, 1) := by decide +kernel
theorem dX5_set_76 : decode cX5_set 76 = .ok (.iload_n 1, 1) := by decide +kernel
theorem dX5_set_77 : decode cX5_set 77 = .ok (.iconst 1, 1) := by decide +kernel
theorem dX5_set_78 : decode cX5_set 78 = .ok (.if_icmp .ne 7, 3) := by decide +kernel
theorem dX5_set_81 : decode cX5_set 81 = .ok (.iload_n 2, 1) := by decide +kernel
theorem dX5_set_82 : decode cX5_set 82 = .ok (.goto 7, 3) := by decide +kernel
theorem dX5_set_85 : decode cX5_set 85 = .ok (.aload_n 0, 1) := by decide +kernel
theorem dX5_set_86 : decode cX5_set 86 = .ok (.getfield 61, 3) := by decide +kernel
theorem dX5_set_89 : decode cX5_set 89 = .ok (.putfield 61, 3) := by decide +kernel
theorem dX5_set_92 : decode cX5_set 92 = .ok (.iload_n 3, 1) := by decide +kernel
theorem dX5_set_93 : decode cX5_set 93 = .ok (.ireturn, 1) := by decide +kernel
theorem dX5_say_0 : decode cX5_say 0 = .ok (.iload_n 1, 1) := by decide +kernel
theorem dX5_say_1 : decode cX5_say 1 = .ok (.i2l, 1) := by decide +kernel
theorem dX5_say_2 : decode cX5_say 2 = .ok (.ldc2_w 64, 3) := by decide +kernel
theorem dX5_say_5 : decode cX5_say 5 = .ok (.ldc2_w 66, 3) := by decide +kernel
theorem dX5_say_8 : decode cX5_say 8 = .ok (.invokestatic 53, 3) := by decide +kernel
theorem dX5_say_11 : decode cX5_say 11 = .ok (.ifCond .ne 6, 3) := by decide +kernel
theorem dX5_say_14 : decode cX5_say 14 = .ok (.bipush (-2), 2) := by decide +kernel
theorem dX5_say_16 : decode cX5_say 16 = .ok (.ireturn, 1) := by decide +kernel
theorem dX5_say_17 : decode cX5_say 17 = .ok (.aload_n 0, 1) := by decide +kernel
theorem dX5_say_18 : decode cX5_say 18 = .ok (.getfield 68, 3) := by decide +kernel
theorem dX5_say_21 : decode cX5_say 21 = .ok (.bipush 40, 2) := by decide +kernel
theorem dX5_say_23 : decode cX5_say 23 = .ok (.if_icmp .ne 6, 3) := by decide +kernel
theorem dX5_say_26 : decode cX5_say 26 = .ok (.bipush (-4), 2) := by decide +kernel
theorem dX5_say_28 : decode cX5_say 28 = .ok (.ireturn, 1) := by decide +kernel
theorem dX5_say_29 : decode cX5_say 29 = .ok (.aload_n 0, 1) := by decide +kernel
theorem dX5_say_30 : decode cX5_say 30 = .ok (.getfield 19, 3) := by decide +kernel
theorem dX5_say_33 : decode cX5_say 33 = .ok (.aload_n 0, 1) := by decide +kernel
theorem dX5_say_34 : decode cX5_say 34 = .ok (.getfield 68, 3) := by decide +kernel
theorem dX5_say_37 : decode cX5_say 37 = .ok (.iload_n 1, 1) := by decide +kernel
theorem dX5_say_38 : decode cX5_say 38 = .ok (.iastore, 1) := by decide +kernel
theorem dX5_say_39 : decode cX5_say 39 = .ok (.aload_n 0, 1) := by decide +kernel
theorem dX5_say_40 : decode cX5_say 40 = .ok (.dup, 1) := by decide +kernel
theorem dX5_say_41 : decode cX5_say 41 = .ok (.getfield 68, 3) := by decide +kernel
theorem dX5_say_44 : decode cX5_say 44 = .ok (.iconst 1, 1) := by decide +kernel
theorem dX5_say_45 : decode cX5_say 45 = .ok (.iadd, 1) := by decide +kernel
theorem dX5_say_46 : decode cX5_say 46 = .ok (.putfield 68, 3) := by decide +kernel
theorem dX5_say_49 : decode cX5_say 49 = .ok (.aload_n 0, 1) := by decide +kernel
theorem dX5_say_50 : decode cX5_say 50 = .ok (.getfield 68, 3) := by decide +kernel
theorem dX5_say_53 : decode cX5_say 53 = .ok (.ireturn, 1) := by decide +kernel
theorem dX5_wipe_0 : decode cX5_wipe 0 = .ok (.aload_n 0, 1) := by decide +kernel
theorem dX5_wipe_1 : decode cX5_wipe 1 = .ok (.getfield 68, 3) := by decide +kernel
theorem dX5_wipe_4 : decode cX5_wipe 4 = .ok (.istore_n 1, 1) := by decide +kernel
theorem dX5_wipe_5 : decode cX5_wipe 5 = .ok (.aload_n 0, 1) := by decide +kernel
theorem dX5_wipe_6 : decode cX5_wipe 6 = .ok (.iconst 0, 1) := by decide +kernel
theorem dX5_wipe_7 : decode cX5_wipe 7 = .ok (.putfield 68, 3) := by decide +kernel
theorem dX5_wipe_10 : decode cX5_wipe 10 = .ok (.iload_n 1, 1) := by decide +kernel
theorem dX5_wipe_11 : decode cX5_wipe 11 = .ok (.ireturn, 1) := by decide +kernel
theorem dX5_isCrossing_0 : decode cX5_isCrossing 0 = .ok (.iload_n 0, 1) := by decide +kernel
theorem dX5_isCrossing_1 : decode cX5_isCrossing 1 = .ok (.bipush 63, 2) := by decide +kernel
theorem dX5_isCrossing_3 : decode cX5_isCrossing 3 = .ok (.if_icmp .eq 17, 3) := by decide +kernel
theorem dX5_isCrossing_6 : decode cX5_isCrossing 6 = .ok (.iload_n 0, 1) := by decide +kernel
theorem dX5_isCrossing_7 : decode cX5_isCrossing 7 = .ok (.i2l, 1) := by decide +kernel
theorem dX5_isCrossing_8 : decode cX5_isCrossing 8 = .ok (.ldc2_w 71, 3) := by decide +kernel
theorem dX5_isCrossing_11 : decode cX5_isCrossing 11 = .ok (.ldc2_w 73, 3) := by decide +kernel
theorem dX5_isCrossing_14 : decode cX5_isCrossing 14 = .ok (.invokestatic 53, 3) := by decide +kernel
theorem dX5_isCrossing_17 : decode cX5_isCrossing 17 = .ok (.ifCond .eq 7, 3) := by decide +kernel
theorem dX5_isCrossing_20 : decode cX5_isCrossing 20 = .ok (.iconst 1, 1) := by decide +kernel
theorem dX5_isCrossing_21 : decode cX5_isCrossing 21 = .ok (.goto 4, 3) := by decide +kernel
theorem dX5_isCrossing_24 : decode cX5_isCrossing 24 = .ok (.iconst 0, 1) := by decide +kernel
theorem dX5_isCrossing_25 : decode cX5_isCrossing 25 = .ok (.ireturn, 1) := by decide +kernel
theorem dX5_isLook_0 : decode cX5_isLook 0 = .ok (.iload_n 0, 1) := by decide +kernel
theorem dX5_isLook_1 : decode cX5_isLook 1 = .ok (.i2l, 1) := by decide +kernel
theorem dX5_isLook_2 : decode cX5_isLook 2 = .ok (.ldc2_w 75, 3) := by decide +kernel
theorem dX5_isLook_5 : decode cX5_isLook 5 = .ok (.ldc2_w 77, 3) := by decide +kernel
theorem dX5_isLook_8 : decode cX5_isLook 8 = .ok (.invokestatic 53, 3) := by decide +kernel
theorem dX5_isLook_11 : decode cX5_isLook 11 = .ok (.ireturn, 1) := by decide +kernel
theorem dX5_fault_0 : decode cX5_fault 0 = .ok (.iconst 0, 1) := by decide +kernel
theorem dX5_fault_1 : decode cX5_fault 1 = .ok (.istore_n 1, 1) := by decide +kernel
theorem dX5_fault_2 : decode cX5_fault 2 = .ok (.iconst 0, 1) := by decide +kernel
theorem dX5_fault_3 : decode cX5_fault 3 = .ok (.istore_n 2, 1) := by decide +kernel
theorem dX5_fault_4 : decode cX5_fault 4 = .ok (.iload_n 2, 1) := by decide +kernel
theorem dX5_fault_5 : decode cX5_fault 5 = .ok (.aload_n 0, 1) := by decide +kernel
theorem dX5_fault_6 : decode cX5_fault 6 = .ok (.getfield 68, 3) := by decide +kernel
theorem dX5_fault_9 : decode cX5_fault 9 = .ok (.if_icmp .ge 59, 3) := by decide +kernel
theorem dX5_fault_12 : decode cX5_fault 12 = .ok (.iload_n 1, 1) := by decide +kernel
theorem dX5_fault_13 : decode cX5_fault 13 = .ok (.aload_n 0, 1) := by decide +kernel
theorem dX5_fault_14 : decode cX5_fault 14 = .ok (.getfield 19, 3) := by decide +kernel
theorem dX5_fault_17 : decode cX5_fault 17 = .ok (.iload_n 2, 1) := by decide +kernel
theorem dX5_fault_18 : decode cX5_fault 18 = .ok (.iaload, 1) := by decide +kernel
theorem dX5_fault_19 : decode cX5_fault 19 = .ok (.bipush 63, 2) := by decide +kernel
theorem dX5_fault_21 : decode cX5_fault 21 = .ok (.if_icmp .ne 7, 3) := by decide +kernel
theorem dX5_fault_24 : decode cX5_fault 24 = .ok (.iconst 1, 1) := by decide +kernel
theorem dX5_fault_25 : decode cX5_fault 25 = .ok (.goto 4, 3) := by decide +kernel
theorem dX5_fault_28 : decode cX5_fault 28 = .ok (.iconst 0, 1) := by decide +kernel
theorem dX5_fault_29 : decode cX5_fault 29 = .ok (.iadd, 1) := by decide +kernel
theorem dX5_fault_30 : decode cX5_fault 30 = .ok (.istore_n 1, 1) := by decide +kernel
theorem dX5_fault_31 : decode cX5_fault 31 = .ok (.aload_n 0, 1) := by decide +kernel
theorem dX5_fault_32 : decode cX5_fault 32 = .ok (.getfield 19, 3) := by decide +kernel
theorem dX5_fault_35 : decode cX5_fault 35 = .ok (.iload_n 2, 1) := by decide +kernel
theorem dX5_fault_36 : decode cX5_fault 36 = .ok (.iaload, 1) := by decide +kernel
theorem dX5_fault_37 : decode cX5_fault 37 = .ok (.invokestatic 79, 3) := by decide +kernel
theorem dX5_fault_40 : decode cX5_fault 40 = .ok (.ifCond .ne 15, 3) := by decide +kernel
theorem dX5_fault_43 : decode cX5_fault 43 = .ok (.aload_n 0, 1) := by decide +kernel
theorem dX5_fault_44 : decode cX5_fault 44 = .ok (.getfield 19, 3) := by decide +kernel
theorem dX5_fault_47 : decode cX5_fault 47 = .ok (.iload_n 2, 1) := by decide +kernel
theorem dX5_fault_48 : decode cX5_fault 48 = .ok (.iaload, 1) := by decide +kernel
theorem dX5_fault_49 : decode cX5_fault 49 = .ok (.invokestatic 83, 3) := by decide +kernel
theorem dX5_fault_52 : decode cX5_fault 52 = .ok (.ifCond .eq 8, 3) := by decide +kernel
theorem dX5_fault_55 : decode cX5_fault 55 = .ok (.iload_n 1, 1) := by decide +kernel
theorem dX5_fault_56 : decode cX5_fault 56 = .ok (.iconst 4, 1) := by decide +kernel
theorem dX5_fault_57 : decode cX5_fault 57 = .ok (.if_icmp .le 5, 3) := by decide +kernel
theorem dX5_fault_60 : decode cX5_fault 60 = .ok (.iload_n 2, 1) := by decide +kernel
theorem dX5_fault_61 : decode cX5_fault 61 = .ok (.ireturn, 1) := by decide +kernel
theorem dX5_fault_62 : decode cX5_fault 62 = .ok (.iinc 2 1, 3) := by decide +kernel
theorem dX5_fault_65 : decode cX5_fault 65 = .ok (.goto (-61), 3) := by decide +kernel
theorem dX5_fault_68 : decode cX5_fault 68 = .ok (.bipush (-6), 2) := by decide +kernel
theorem dX5_fault_70 : decode cX5_fault 70 = .ok (.ireturn, 1) := by decide +kernel
theorem dX5_untoldAmong_0 : decode cX5_untoldAmong 0 = .ok (.iconst 0, 1) := by decide +kernel
theorem dX5_untoldAmong_1 : decode cX5_untoldAmong 1 = .ok (.istore_n 2, 1) := by decide +kernel
theorem dX5_untoldAmong_2 : decode cX5_untoldAmong 2 = .ok (.iconst 0, 1) := by decide +kernel
theorem dX5_untoldAmong_3 : decode cX5_untoldAmong 3 = .ok (.istore_n 3, 1) := by decide +kernel
theorem dX5_untoldAmong_4 : decode cX5_untoldAmong 4 = .ok (.iload_n 3, 1) := by decide +kernel
theorem dX5_untoldAmong_5 : decode cX5_untoldAmong 5 = .ok (.iload_n 1, 1) := by decide +kernel
theorem dX5_untoldAmong_6 : decode cX5_untoldAmong 6 = .ok (.if_icmp .ge 28, 3) := by decide +kernel
theorem dX5_untoldAmong_9 : decode cX5_untoldAmong 9 = .ok (.iload_n 2, 1) := by decide +kernel
theorem dX5_untoldAmong_10 : decode cX5_untoldAmong 10 = .ok (.aload_n 0, 1) := by decide +kernel
theorem dX5_untoldAmong_11 : decode cX5_untoldAmong 11 = .ok (.getfield 19, 3) := by decide +kernel
theorem dX5_untoldAmong_14 : decode cX5_untoldAmong 14 = .ok (.iload_n 3, 1) := by decide +kernel
theorem dX5_untoldAmong_15 : decode cX5_untoldAmong 15 = .ok (.iaload, 1) := by decide +kernel
theorem dX5_untoldAmong_16 : decode cX5_untoldAmong 16 = .ok (.bipush 63, 2) := by decide +kernel
theorem dX5_untoldAmong_18 : decode cX5_untoldAmong 18 = .ok (.if_icmp .ne 7, 3) := by decide +kernel
theorem dX5_untoldAmong_21 : decode cX5_untoldAmong 21 = .ok (.iconst 1, 1) := by decide +kernel
theorem dX5_untoldAmong_22 : decode cX5_untoldAmong 22 = .ok (.goto 4, 3) := by decide +kernel
theorem dX5_untoldAmong_25 : decode cX5_untoldAmong 25 = .ok (.iconst 0, 1) := by decide +kernel
theorem dX5_untoldAmong_26 : decode cX5_untoldAmong 26 = .ok (.iadd, 1) := by decide +kernel
theorem dX5_untoldAmong_27 : decode cX5_untoldAmong 27 = .ok (.istore_n 2, 1) := by decide +kernel
theorem dX5_untoldAmong_28 : decode cX5_untoldAmong 28 = .ok (.iinc 3 1, 3) := by decide +kernel
theorem dX5_untoldAmong_31 : decode cX5_untoldAmong 31 = .ok (.goto (-27), 3) := by decide +kernel
theorem dX5_untoldAmong_34 : decode cX5_untoldAmong 34 = .ok (.iload_n 2, 1) := by decide +kernel
theorem dX5_untoldAmong_35 : decode cX5_untoldAmong 35 = .ok (.ireturn, 1) := by decide +kernel
theorem dX5_refusal_0 : decode cX5_refusal 0 = .ok (.aload_n 0, 1) := by decide +kernel
theorem dX5_refusal_1 : decode cX5_refusal 1 = .ok (.invokevirtual 86, 3) := by decide +kernel
theorem dX5_refusal_4 : decode cX5_refusal 4 = .ok (.ifCond .lt 8, 3) := by decide +kernel
theorem dX5_refusal_7 : decode cX5_refusal 7 = .ok (.bipush (-5), 2) := by decide +kernel
theorem dX5_refusal_9 : decode cX5_refusal 9 = .ok (.goto 21, 3) := by decide +kernel
theorem dX5_refusal_12 : decode cX5_refusal 12 = .ok (.aload_n 0, 1) := by decide +kernel
theorem dX5_refusal_13 : decode cX5_refusal 13 = .ok (.aload_n 0, 1) := by decide +kernel
theorem dX5_refusal_14 : decode cX5_refusal 14 = .ok (.getfield 68, 3) := by decide +kernel
theorem dX5_refusal_17 : decode cX5_refusal 17 = .ok (.invokevirtual 90, 3) := by decide +kernel
theorem dX5_refusal_20 : decode cX5_refusal 20 = .ok (.ifCond .le 8, 3) := by decide +kernel
theorem dX5_refusal_23 : decode cX5_refusal 23 = .ok (.bipush (-3), 2) := by decide +kernel
theorem dX5_refusal_25 : decode cX5_refusal 25 = .ok (.goto 5, 3) := by decide +kernel
theorem dX5_refusal_28 : decode cX5_refusal 28 = .ok (.bipush (-6), 2) := by decide +kernel
theorem dX5_refusal_30 : decode cX5_refusal 30 = .ok (.ireturn, 1) := by decide +kernel
theorem dX5_clear_0 : decode cX5_clear 0 = .ok (.aload_n 0, 1) := by decide +kernel
theorem dX5_clear_1 : decode cX5_clear 1 = .ok (.iconst 0, 1) := by decide +kernel
theorem dX5_clear_2 : decode cX5_clear 2 = .ok (.putfield 94, 3) := by decide +kernel
theorem dX5_clear_5 : decode cX5_clear 5 = .ok (.aload_n 0, 1) := by decide +kernel
theorem dX5_clear_6 : decode cX5_clear 6 = .ok (.aload_n 0, 1) := by decide +kernel
theorem dX5_clear_7 : decode cX5_clear 7 = .ok (.getfield 47, 3) := by decide +kernel
theorem dX5_clear_10 : decode cX5_clear 10 = .ok (.putfield 97, 3) := by decide +kernel
theorem dX5_clear_13 : decode cX5_clear 13 = .ok (.aload_n 0, 1) := by decide +kernel
theorem dX5_clear_14 : decode cX5_clear 14 = .ok (.aload_n 0, 1) := by decide +kernel
theorem dX5_clear_15 : decode cX5_clear 15 = .ok (.getfield 61, 3) := by decide +kernel
theorem dX5_clear_18 : decode cX5_clear 18 = .ok (.putfield 100, 3) := by decide +kernel
theorem dX5_clear_21 : decode cX5_clear 21 = .ok (.return_, 1) := by decide +kernel
theorem dX5_drop_0 : decode cX5_drop 0 = .ok (.aload_n 0, 1) := by decide +kernel
theorem dX5_drop_1 : decode cX5_drop 1 = .ok (.dup, 1) := by decide +kernel
theorem dX5_drop_2 : decode cX5_drop 2 = .ok (.getfield 94, 3) := by decide +kernel
theorem dX5_drop_5 : decode cX5_drop 5 = .ok (.iconst 1, 1) := by decide +kernel
theorem dX5_drop_6 : decode cX5_drop 6 = .ok (.isub, 1) := by decide +kernel
theorem dX5_drop_7 : decode cX5_drop 7 = .ok (.putfield 94, 3) := by decide +kernel
theorem dX5_drop_10 : decode cX5_drop 10 = .ok (.iload_n 1, 1) := by decide +kernel
theorem dX5_drop_11 : decode cX5_drop 11 = .ok (.istore_n 2, 1) := by decide +kernel
theorem dX5_drop_12 : decode cX5_drop 12 = .ok (.iload_n 2, 1) := by decide +kernel
theorem dX5_drop_13 : decode cX5_drop 13 = .ok (.aload_n 0, 1) := by decide +kernel
theorem dX5_drop_14 : decode cX5_drop 14 = .ok (.getfield 94, 3) := by decide +kernel
theorem dX5_drop_17 : decode cX5_drop 17 = .ok (.if_icmp .ge 37, 3) := by decide +kernel
theorem dX5_drop_20 : decode cX5_drop 20 = .ok (.aload_n 0, 1) := by decide +kernel
theorem dX5_drop_21 : decode cX5_drop 21 = .ok (.getfield 22, 3) := by decide +kernel
theorem dX5_drop_24 : decode cX5_drop 24 = .ok (.iload_n 2, 1) := by decide +kernel
theorem dX5_drop_25 : decode cX5_drop 25 = .ok (.aload_n 0, 1) := by decide +kernel
theorem dX5_drop_26 : decode cX5_drop 26 = .ok (.getfield 22, 3) := by decide +kernel
theorem dX5_drop_29 : decode cX5_drop 29 = .ok (.iload_n 2, 1) := by decide +kernel
theorem dX5_drop_30 : decode cX5_drop 30 = .ok (.iconst 1, 1) := by decide +kernel
theorem dX5_drop_31 : decode cX5_drop 31 = .ok (.iadd, 1) := by decide +kernel
theorem dX5_drop_32 : decode cX5_drop 32 = .ok (.iaload, 1) := by decide +kernel
theorem dX5_drop_33 : decode cX5_drop 33 = .ok (.iastore, 1) := by decide +kernel
theorem dX5_drop_34 : decode cX5_drop 34 = .ok (.aload_n 0, 1) := by decide +kernel
theorem dX5_drop_35 : decode cX5_drop 35 = .ok (.getfield 25, 3) := by decide +kernel
theorem dX5_drop_38 : decode cX5_drop 38 = .ok (.iload_n 2, 1) := by decide +kernel
theorem dX5_drop_39 : decode cX5_drop 39 = .ok (.aload_n 0, 1) := by decide +kernel
theorem dX5_drop_40 : decode cX5_drop 40 = .ok (.getfield 25, 3) := by decide +kernel
theorem dX5_drop_43 : decode cX5_drop 43 = .ok (.iload_n 2, 1) := by decide +kernel
theorem dX5_drop_44 : decode cX5_drop 44 = .ok (.iconst 1, 1) := by decide +kernel
theorem dX5_drop_45 : decode cX5_drop 45 = .ok (.iadd, 1) := by decide +kernel
theorem dX5_drop_46 : decode cX5_drop 46 = .ok (.iaload, 1) := by decide +kernel
theorem dX5_drop_47 : decode cX5_drop 47 = .ok (.iastore, 1) := by decide +kernel
theorem dX5_drop_48 : decode cX5_drop 48 = .ok (.iinc 2 1, 3) := by decide +kernel
theorem dX5_drop_51 : decode cX5_drop 51 = .ok (.goto (-39), 3) := by decide +kernel
theorem dX5_drop_54 : decode cX5_drop 54 = .ok (.return_, 1) := by decide +kernel
theorem dX5_placeOf_0 : decode cX5_placeOf 0 = .ok (.iconst 0, 1) := by decide +kernel
theorem dX5_placeOf_1 : decode cX5_placeOf 1 = .ok (.istore_n 2, 1) := by decide +kernel
theorem dX5_placeOf_2 : decode cX5_placeOf 2 = .ok (.iload_n 2, 1) := by decide +kernel
theorem dX5_placeOf_3 : decode cX5_placeOf 3 = .ok (.aload_n 0, 1) := by decide +kernel
theorem dX5_placeOf_4 : decode cX5_placeOf 4 = .ok (.getfield 94, 3) := by decide +kernel
theorem dX5_placeOf_7 : decode cX5_placeOf 7 = .ok (.if_icmp .ge 21, 3) := by decide +kernel
theorem dX5_placeOf_10 : decode cX5_placeOf 10 = .ok (.aload_n 0, 1) := by decide +kernel
theorem dX5_placeOf_11 : decode cX5_placeOf 11 = .ok (.getfield 22, 3) := by decide +kernel
theorem dX5_placeOf_14 : decode cX5_placeOf 14 = .ok (.iload_n 2, 1) := by decide +kernel
theorem dX5_placeOf_15 : decode cX5_placeOf 15 = .ok (.iaload, 1) := by decide +kernel
theorem dX5_placeOf_16 : decode cX5_placeOf 16 = .ok (.iload_n 1, 1) := by decide +kernel
theorem dX5_placeOf_17 : decode cX5_placeOf 17 = .ok (.if_icmp .ne 5, 3) := by decide +kernel
theorem dX5_placeOf_20 : decode cX5_placeOf 20 = .ok (.iload_n 2, 1) := by decide +kernel
theorem dX5_placeOf_21 : decode cX5_placeOf 21 = .ok (.ireturn, 1) := by decide +kernel
theorem dX5_placeOf_22 : decode cX5_placeOf 22 = .ok (.iinc 2 1, 3) := by decide +kernel
theorem dX5_placeOf_25 : decode cX5_placeOf 25 = .ok (.goto (-23), 3) := by decide +kernel
theorem dX5_placeOf_28 : decode cX5_placeOf 28 = .ok (.bipush (-6), 2) := by decide +kernel
theorem dX5_placeOf_30 : decode cX5_placeOf 30 = .ok (.ireturn, 1) := by decide +kernel
theorem dX5_write_0 : decode cX5_write 0 = .ok (.aload_n 0, 1) := by decide +kernel
theorem dX5_write_1 : decode cX5_write 1 = .ok (.iload_n 1, 1) := by decide +kernel
theorem dX5_write_2 : decode cX5_write 2 = .ok (.invokevirtual 103, 3) := by decide +kernel
theorem dX5_write_5 : decode cX5_write 5 = .ok (.istore_n 3, 1) := by decide +kernel
theorem dX5_write_6 : decode cX5_write 6 = .ok (.aload_n 0, 1) := by decide +kernel
theorem dX5_write_7 : decode cX5_write 7 = .ok (.getfield 100, 3) := by decide +kernel
theorem dX5_write_10 : decode cX5_write 10 = .ok (.iconst 1, 1) := by decide +kernel
theorem dX5_write_11 : decode cX5_write 11 = .ok (.if_icmp .ne 12, 3) := by decide +kernel
theorem dX5_write_14 : decode cX5_write 14 = .ok (.iload_n 3, 1) := by decide +kernel
theorem dX5_write_15 : decode cX5_write 15 = .ok (.ifCond .lt 8, 3) := by decide +kernel
theorem dX5_write_18 : decode cX5_write 18 = .ok (.aload_n 0, 1) := by decide +kernel
theorem dX5_write_19 : decode cX5_write 19 = .ok (.iload_n 3, 1) := by decide +kernel
theorem dX5_write_20 : decode cX5_write 20 = .ok (.invokevirtual 106, 3) := by decide +kernel
theorem dX5_write_23 : decode cX5_write 23 = .ok (.aload_n 0, 1) := by decide +kernel
theorem dX5_write_24 : decode cX5_write 24 = .ok (.getfield 94, 3) := by decide +kernel
theorem dX5_write_27 : decode cX5_write 27 = .ok (.istore 4, 2) := by decide +kernel
theorem dX5_write_29 : decode cX5_write 29 = .ok (.iload 4, 2) := by decide +kernel
theorem dX5_write_31 : decode cX5_write 31 = .ok (.ifCond .le 41, 3) := by decide +kernel
theorem dX5_write_34 : decode cX5_write 34 = .ok (.aload_n 0, 1) := by decide +kernel
theorem dX5_write_35 : decode cX5_write 35 = .ok (.getfield 22, 3) := by decide +kernel
theorem dX5_write_38 : decode cX5_write 38 = .ok (.iload 4, 2) := by decide +kernel
theorem dX5_write_40 : decode cX5_write 40 = .ok (.aload_n 0, 1) := by decide +kernel
theorem dX5_write_41 : decode cX5_write 41 = .ok (.getfield 22, 3) := by decide +kernel
theorem dX5_write_44 : decode cX5_write 44 = .ok (.iload 4, 2) := by decide +kernel
theorem dX5_write_46 : decode cX5_write 46 = .ok (.iconst 1, 1) := by decide +kernel
theorem dX5_write_47 : decode cX5_write 47 = .ok (.isub, 1) := by decide +kernel
theorem dX5_write_48 : decode cX5_write 48 = .ok (.iaload, 1) := by decide +kernel
theorem dX5_write_49 : decode cX5_write 49 = .ok (.iastore, 1) := by decide +kernel
theorem dX5_write_50 : decode cX5_write 50 = .ok (.aload_n 0, 1) := by decide +kernel
theorem dX5_write_51 : decode cX5_write 51 = .ok (.getfield 25, 3) := by decide +kernel
theorem dX5_write_54 : decode cX5_write 54 = .ok (.iload 4, 2) := by decide +kernel
theorem dX5_write_56 : decode cX5_write 56 = .ok (.aload_n 0, 1) := by decide +kernel
theorem dX5_write_57 : decode cX5_write 57 = .ok (.getfield 25, 3) := by decide +kernel
theorem dX5_write_60 : decode cX5_write 60 = .ok (.iload 4, 2) := by decide +kernel
theorem dX5_write_62 : decode cX5_write 62 = .ok (.iconst 1, 1) := by decide +kernel
theorem dX5_write_63 : decode cX5_write 63 = .ok (.isub, 1) := by decide +kernel
theorem dX5_write_64 : decode cX5_write 64 = .ok (.iaload, 1) := by decide +kernel
theorem dX5_write_65 : decode cX5_write 65 = .ok (.iastore, 1) := by decide +kernel
theorem dX5_write_66 : decode cX5_write 66 = .ok (.iinc 4 (-1), 3) := by decide +kernel
theorem dX5_write_69 : decode cX5_write 69 = .ok (.goto (-40), 3) := by decide +kernel
theorem dX5_write_72 : decode cX5_write 72 = .ok (.aload_n 0, 1) := by decide +kernel
theorem dX5_write_73 : decode cX5_write 73 = .ok (.getfield 22, 3) := by decide +kernel
theorem dX5_write_76 : decode cX5_write 76 = .ok (.iconst 0, 1) := by decide +kernel
theorem dX5_write_77 : decode cX5_write 77 = .ok (.iload_n 1, 1) := by decide +kernel
theorem dX5_write_78 : decode cX5_write 78 = .ok (.iastore, 1) := by decide +kernel
theorem dX5_write_79 : decode cX5_write 79 = .ok (.aload_n 0, 1) := by decide +kernel
theorem dX5_write_80 : decode cX5_write 80 = .ok (.getfield 25, 3) := by decide +kernel
theorem dX5_write_83 : decode cX5_write 83 = .ok (.iconst 0, 1) := by decide +kernel
theorem dX5_write_84 : decode cX5_write 84 = .ok (.iload_n 2, 1) := by decide +kernel
theorem dX5_write_85 : decode cX5_write 85 = .ok (.iastore, 1) := by decide +kernel
theorem dX5_write_86 : decode cX5_write 86 = .ok (.aload_n 0, 1) := by decide +kernel
theorem dX5_write_87 : decode cX5_write 87 = .ok (.dup, 1) := by decide +kernel
theorem dX5_write_88 : decode cX5_write 88 = .ok (.getfield 94, 3) := by decide +kernel
theorem dX5_write_91 : decode cX5_write 91 = .ok (.iconst 1, 1) := by decide +kernel
theorem dX5_write_92 : decode cX5_write 92 = .ok (.iadd, 1) := by decide +kernel
theorem dX5_write_93 : decode cX5_write 93 = .ok (.putfield 94, 3) := by decide +kernel
theorem dX5_write_96 : decode cX5_write 96 = .ok (.aload_n 0, 1) := by decide +kernel
theorem dX5_write_97 : decode cX5_write 97 = .ok (.aload_n 0, 1) := by decide +kernel
theorem dX5_write_98 : decode cX5_write 98 = .ok (.getfield 94, 3) := by decide +kernel
theorem dX5_write_101 : decode cX5_write 101 = .ok (.aload_n 0, 1) := by decide +kernel
theorem dX5_write_102 : decode cX5_write 102 = .ok (.getfield 97, 3) := by decide +kernel
theorem dX5_write_105 : decode cX5_write 105 = .ok (.if_icmp .le 10, 3) := by decide +kernel
theorem dX5_write_108 : decode cX5_write 108 = .ok (.aload_n 0, 1) := by decide +kernel
theorem dX5_write_109 : decode cX5_write 109 = .ok (.getfield 97, 3) := by decide +kernel
theorem dX5_write_112 : decode cX5_write 112 = .ok (.goto 7, 3) := by decide +kernel
theorem dX5_write_115 : decode cX5_write 115 = .ok (.aload_n 0, 1) := by decide +kernel
theorem dX5_write_116 : decode cX5_write 116 = .ok (.getfield 94, 3) := by decide +kernel
theorem dX5_write_119 : decode cX5_write 119 = .ok (.putfield 94, 3) := by decide +kernel
theorem dX5_write_122 : decode cX5_write 122 = .ok (.aload_n 0, 1) := by decide +kernel
theorem dX5_write_123 : decode cX5_write 123 = .ok (.getfield 97, 3) := by decide +kernel
theorem dX5_write_126 : decode cX5_write 126 = .ok (.iconst 1, 1) := by decide +kernel
theorem dX5_write_127 : decode cX5_write 127 = .ok (.iadd, 1) := by decide +kernel
theorem dX5_write_128 : decode cX5_write 128 = .ok (.iconst 2, 1) := by decide +kernel
theorem dX5_write_129 : decode cX5_write 129 = .ok (.idiv, 1) := by decide +kernel
theorem dX5_write_130 : decode cX5_write 130 = .ok (.iconst 1, 1) := by decide +kernel
theorem dX5_write_131 : decode cX5_write 131 = .ok (.isub, 1) := by decide +kernel
theorem dX5_write_132 : decode cX5_write 132 = .ok (.istore 4, 2) := by decide +kernel
theorem dX5_write_134 : decode cX5_write 134 = .ok (.aload_n 0, 1) := by decide +kernel
theorem dX5_write_135 : decode cX5_write 135 = .ok (.getfield 100, 3) := by decide +kernel
theorem dX5_write_138 : decode cX5_write 138 = .ok (.iconst 2, 1) := by decide +kernel
theorem dX5_write_139 : decode cX5_write 139 = .ok (.if_icmp .ne 18, 3) := by decide +kernel
theorem dX5_write_142 : decode cX5_write 142 = .ok (.iload 4, 2) := by decide +kernel
theorem dX5_write_144 : decode cX5_write 144 = .ok (.aload_n 0, 1) := by decide +kernel
theorem dX5_write_145 : decode cX5_write 145 = .ok (.getfield 94, 3) := by decide +kernel
theorem dX5_write_148 : decode cX5_write 148 = .ok (.if_icmp .ge 9, 3) := by decide +kernel
theorem dX5_write_151 : decode cX5_write 151 = .ok (.aload_n 0, 1) := by decide +kernel
theorem dX5_write_152 : decode cX5_write 152 = .ok (.iload 4, 2) := by decide +kernel
theorem dX5_write_154 : decode cX5_write 154 = .ok (.invokevirtual 106, 3) := by decide +kernel
theorem dX5_write_157 : decode cX5_write 157 = .ok (.return_, 1) := by decide +kernel
theorem dX5_names_0 : decode cX5_names 0 = .ok (.iconst 0, 1) := by decide +kernel
theorem dX5_names_1 : decode cX5_names 1 = .ok (.istore_n 1, 1) := by decide +kernel
theorem dX5_names_2 : decode cX5_names 2 = .ok (.iconst 0, 1) := by decide +kernel
theorem dX5_names_3 : decode cX5_names 3 = .ok (.istore_n 2, 1) := by decide +kernel
theorem dX5_names_4 : decode cX5_names 4 = .ok (.iload_n 2, 1) := by decide +kernel
theorem dX5_names_5 : decode cX5_names 5 = .ok (.aload_n 0, 1) := by decide +kernel
theorem dX5_names_6 : decode cX5_names 6 = .ok (.getfield 94, 3) := by decide +kernel
theorem dX5_names_9 : decode cX5_names 9 = .ok (.if_icmp .ge 35, 3) := by decide +kernel
theorem dX5_names_12 : decode cX5_names 12 = .ok (.iload_n 1, 1) := by decide +kernel
theorem dX5_names_13 : decode cX5_names 13 = .ok (.aload_n 0, 1) := by decide +kernel
theorem dX5_names_14 : decode cX5_names 14 = .ok (.getfield 22, 3) := by decide +kernel
theorem dX5_names_17 : decode cX5_names 17 = .ok (.iload_n 2, 1) := by decide +kernel
theorem dX5_names_18 : decode cX5_names 18 = .ok (.iaload, 1) := by decide +kernel
theorem dX5_names_19 : decode cX5_names 19 = .ok (.bipush 8, 2) := by decide +kernel
theorem dX5_names_21 : decode cX5_names 21 = .ok (.if_icmp .ge 14, 3) := by decide +kernel
theorem dX5_names_24 : decode cX5_names 24 = .ok (.iconst 1, 1) := by decide +kernel
theorem dX5_names_25 : decode cX5_names 25 = .ok (.aload_n 0, 1) := by decide +kernel
theorem dX5_names_26 : decode cX5_names 26 = .ok (.getfield 22, 3) := by decide +kernel
theorem dX5_names_29 : decode cX5_names 29 = .ok (.iload_n 2, 1) := by decide +kernel
theorem dX5_names_30 : decode cX5_names 30 = .ok (.iaload, 1) := by decide +kernel
theorem dX5_names_31 : decode cX5_names 31 = .ok (.ishl, 1) := by decide +kernel
theorem dX5_names_32 : decode cX5_names 32 = .ok (.goto 4, 3) := by decide +kernel
theorem dX5_names_35 : decode cX5_names 35 = .ok (.iconst 0, 1) := by decide +kernel
theorem dX5_names_36 : decode cX5_names 36 = .ok (.ior, 1) := by decide +kernel
theorem dX5_names_37 : decode cX5_names 37 = .ok (.istore_n 1, 1) := by decide +kernel
theorem dX5_names_38 : decode cX5_names 38 = .ok (.iinc 2 1, 3) := by decide +kernel
theorem dX5_names_41 : decode cX5_names 41 = .ok (.goto (-37), 3) := by decide +kernel
theorem dX5_names_44 : decode cX5_names 44 = .ok (.iload_n 1, 1) := by decide +kernel
theorem dX5_names_45 : decode cX5_names 45 = .ok (.ireturn, 1) := by decide +kernel
theorem dX5_layDay_0 : decode cX5_layDay 0 = .ok (.aload_n 0, 1) := by decide +kernel
theorem dX5_layDay_1 : decode cX5_layDay 1 = .ok (.aload_n 0, 1) := by decide +kernel
theorem dX5_layDay_2 : decode cX5_layDay 2 = .ok (.getfield 68, 3) := by decide +kernel
theorem dX5_layDay_5 : decode cX5_layDay 5 = .ok (.putfield 110, 3) := by decide +kernel
theorem dX5_layDay_8 : decode cX5_layDay 8 = .ok (.iconst 0, 1) := by decide +kernel
theorem dX5_layDay_9 : decode cX5_layDay 9 = .ok (.istore_n 1, 1) := by decide +kernel
theorem dX5_layDay_10 : decode cX5_layDay 10 = .ok (.iload_n 1, 1) := by decide +kernel
theorem dX5_layDay_11 : decode cX5_layDay 11 = .ok (.aload_n 0, 1) := by decide +kernel
theorem dX5_layDay_12 : decode cX5_layDay 12 = .ok (.getfield 68, 3) := by decide +kernel
theorem dX5_layDay_15 : decode cX5_layDay 15 = .ok (.if_icmp .ge 51, 3) := by decide +kernel
theorem dX5_layDay_18 : decode cX5_layDay 18 = .ok (.aload_n 0, 1) := by decide +kernel
theorem dX5_layDay_19 : decode cX5_layDay 19 = .ok (.getfield 28, 3) := by decide +kernel
theorem dX5_layDay_22 : decode cX5_layDay 22 = .ok (.iload_n 1, 1) := by decide +kernel
theorem dX5_layDay_23 : decode cX5_layDay 23 = .ok (.aload_n 0, 1) := by decide +kernel
theorem dX5_layDay_24 : decode cX5_layDay 24 = .ok (.getfield 19, 3) := by decide +kernel
theorem dX5_layDay_27 : decode cX5_layDay 27 = .ok (.iload_n 1, 1) := by decide +kernel
theorem dX5_layDay_28 : decode cX5_layDay 28 = .ok (.iaload, 1) := by decide +kernel
theorem dX5_layDay_29 : decode cX5_layDay 29 = .ok (.invokestatic 83, 3) := by decide +kernel
theorem dX5_layDay_32 : decode cX5_layDay 32 = .ok (.ifCond .eq 18, 3) := by decide +kernel
theorem dX5_layDay_35 : decode cX5_layDay 35 = .ok (.bipush 16, 2) := by decide +kernel
theorem dX5_layDay_37 : decode cX5_layDay 37 = .ok (.aload_n 0, 1) := by decide +kernel
theorem dX5_layDay_38 : decode cX5_layDay 38 = .ok (.getfield 19, 3) := by decide +kernel
theorem dX5_layDay_41 : decode cX5_layDay 41 = .ok (.iload_n 1, 1) := by decide +kernel
theorem dX5_layDay_42 : decode cX5_layDay 42 = .ok (.iaload, 1) := by decide +kernel
theorem dX5_layDay_43 : decode cX5_layDay 43 = .ok (.iadd, 1) := by decide +kernel
theorem dX5_layDay_44 : decode cX5_layDay 44 = .ok (.bipush 97, 2) := by decide +kernel
theorem dX5_layDay_46 : decode cX5_layDay 46 = .ok (.isub, 1) := by decide +kernel
theorem dX5_layDay_47 : decode cX5_layDay 47 = .ok (.goto 12, 3) := by decide +kernel
theorem dX5_layDay_50 : decode cX5_layDay 50 = .ok (.aload_n 0, 1) := by decide +kernel
theorem dX5_layDay_51 : decode cX5_layDay 51 = .ok (.getfield 19, 3) := by decide +kernel
theorem dX5_layDay_54 : decode cX5_layDay 54 = .ok (.iload_n 1, 1) := by decide +kernel
theorem dX5_layDay_55 : decode cX5_layDay 55 = .ok (.iaload, 1) := by decide +kernel
theorem dX5_layDay_56 : decode cX5_layDay 56 = .ok (.bipush 65, 2) := by decide +kernel
theorem dX5_layDay_58 : decode cX5_layDay 58 = .ok (.isub, 1) := by decide +kernel
theorem dX5_layDay_59 : decode cX5_layDay 59 = .ok (.iastore, 1) := by decide +kernel
theorem dX5_layDay_60 : decode cX5_layDay 60 = .ok (.iinc 1 1, 3) := by decide +kernel
theorem dX5_layDay_63 : decode cX5_layDay 63 = .ok (.goto (-53), 3) := by decide +kernel
theorem dX5_layDay_66 : decode cX5_layDay 66 = .ok (.return_, 1) := by decide +kernel
theorem dX5_layMore_0 : decode cX5_layMore 0 = .ok (.aload_n 0, 1) := by decide +kernel
theorem dX5_layMore_1 : decode cX5_layMore 1 = .ok (.invokevirtual 113, 3) := by decide +kernel
theorem dX5_layMore_4 : decode cX5_layMore 4 = .ok (.aload_n 0, 1) := by decide +kernel
theorem dX5_layMore_5 : decode cX5_layMore 5 = .ok (.getfield 110, 3) := by decide +kernel
theorem dX5_layMore_8 : decode cX5_layMore 8 = .ok (.istore_n 3, 1) := by decide +kernel
theorem dX5_layMore_9 : decode cX5_layMore 9 = .ok (.iload_n 3, 1) := by decide +kernel
theorem dX5_layMore_10 : decode cX5_layMore 10 = .ok (.iload_n 1, 1) := by decide +kernel
theorem dX5_layMore_11 : decode cX5_layMore 11 = .ok (.if_icmp .le 23, 3) := by decide +kernel
theorem dX5_layMore_14 : decode cX5_layMore 14 = .ok (.aload_n 0, 1) := by decide +kernel
theorem dX5_layMore_15 : decode cX5_layMore 15 = .ok (.getfield 28, 3) := by decide +kernel
theorem dX5_layMore_18 : decode cX5_layMore 18 = .ok (.iload_n 3, 1) := by decide +kernel
theorem dX5_layMore_19 : decode cX5_layMore 19 = .ok (.aload_n 0, 1) := by decide +kernel
theorem dX5_layMore_20 : decode cX5_layMore 20 = .ok (.getfield 28, 3) := by decide +kernel
theorem dX5_layMore_23 : decode cX5_layMore 23 = .ok (.iload_n 3, 1) := by decide +kernel
theorem dX5_layMore_24 : decode cX5_layMore 24 = .ok (.iconst 1, 1) := by decide +kernel
theorem dX5_layMore_25 : decode cX5_layMore 25 = .ok (.isub, 1) := by decide +kernel
theorem dX5_layMore_26 : decode cX5_layMore 26 = .ok (.iaload, 1) := by decide +kernel
theorem dX5_layMore_27 : decode cX5_layMore 27 = .ok (.iastore, 1) := by decide +kernel
theorem dX5_layMore_28 : decode cX5_layMore 28 = .ok (.iinc 3 (-1), 3) := by decide +kernel
theorem dX5_layMore_31 : decode cX5_layMore 31 = .ok (.goto (-22), 3) := by decide +kernel
theorem dX5_layMore_34 : decode cX5_layMore 34 = .ok (.aload_n 0, 1) := by decide +kernel
theorem dX5_layMore_35 : decode cX5_layMore 35 = .ok (.getfield 28, 3) := by decide +kernel
theorem dX5_layMore_38 : decode cX5_layMore 38 = .ok (.iload_n 1, 1) := by decide +kernel
theorem dX5_layMore_39 : decode cX5_layMore 39 = .ok (.iload_n 2, 1) := by decide +kernel
theorem dX5_layMore_40 : decode cX5_layMore 40 = .ok (.iastore, 1) := by decide +kernel
theorem dX5_layMore_41 : decode cX5_layMore 41 = .ok (.aload_n 0, 1) := by decide +kernel
theorem dX5_layMore_42 : decode cX5_layMore 42 = .ok (.dup, 1) := by decide +kernel
theorem dX5_layMore_43 : decode cX5_layMore 43 = .ok (.getfield 110, 3) := by decide +kernel
theorem dX5_layMore_46 : decode cX5_layMore 46 = .ok (.iconst 1, 1) := by decide +kernel
theorem dX5_layMore_47 : decode cX5_layMore 47 = .ok (.iadd, 1) := by decide +kernel
theorem dX5_layMore_48 : decode cX5_layMore 48 = .ok (.putfield 110, 3) := by decide +kernel
theorem dX5_layMore_51 : decode cX5_layMore 51 = .ok (.return_, 1) := by decide +kernel
theorem dX5_go_0 : decode cX5_go 0 = .ok (.aload_n 0, 1) := by decide +kernel
theorem dX5_go_1 : decode cX5_go 1 = .ok (.invokevirtual 116, 3) := by decide +kernel
theorem dX5_go_4 : decode cX5_go 4 = .ok (.iconst 0, 1) := by decide +kernel
theorem dX5_go_5 : decode cX5_go 5 = .ok (.istore_n 2, 1) := by decide +kernel
theorem dX5_go_6 : decode cX5_go 6 = .ok (.iload_n 2, 1) := by decide +kernel
theorem dX5_go_7 : decode cX5_go 7 = .ok (.iload_n 1, 1) := by decide +kernel
theorem dX5_go_8 : decode cX5_go 8 = .ok (.if_icmp .ge 31, 3) := by decide +kernel
theorem dX5_go_11 : decode cX5_go 11 = .ok (.aload_n 0, 1) := by decide +kernel
theorem dX5_go_12 : decode cX5_go 12 = .ok (.getfield 28, 3) := by decide +kernel
theorem dX5_go_15 : decode cX5_go 15 = .ok (.iload_n 2, 1) := by decide +kernel
theorem dX5_go_16 : decode cX5_go 16 = .ok (.iaload, 1) := by decide +kernel
theorem dX5_go_17 : decode cX5_go 17 = .ok (.bipush 16, 2) := by decide +kernel
theorem dX5_go_19 : decode cX5_go 19 = .ok (.if_icmp .ge 14, 3) := by decide +kernel
theorem dX5_go_22 : decode cX5_go 22 = .ok (.aload_n 0, 1) := by decide +kernel
theorem dX5_go_23 : decode cX5_go 23 = .ok (.aload_n 0, 1) := by decide +kernel
theorem dX5_go_24 : decode cX5_go 24 = .ok (.getfield 28, 3) := by decide +kernel
theorem dX5_go_27 : decode cX5_go 27 = .ok (.iload_n 2, 1) := by decide +kernel
theorem dX5_go_28 : decode cX5_go 28 = .ok (.iaload, 1) := by decide +kernel
theorem dX5_go_29 : decode cX5_go 29 = .ok (.iload_n 2, 1) := by decide +kernel
theorem dX5_go_30 : decode cX5_go 30 = .ok (.invokevirtual 119, 3) := by decide +kernel
theorem dX5_go_33 : decode cX5_go 33 = .ok (.iinc 2 1, 3) := by decide +kernel
theorem dX5_go_36 : decode cX5_go 36 = .ok (.goto (-30), 3) := by decide +kernel
theorem dX5_go_39 : decode cX5_go 39 = .ok (.return_, 1) := by decide +kernel
theorem dX5_stands_0 : decode cX5_stands 0 = .ok (.iload_n 1, 1) := by decide +kernel
theorem dX5_stands_1 : decode cX5_stands 1 = .ok (.i2l, 1) := by decide +kernel
theorem dX5_stands_2 : decode cX5_stands 2 = .ok (.ldc2_w 123, 3) := by decide +kernel
theorem dX5_stands_5 : decode cX5_stands 5 = .ok (.aload_n 0, 1) := by decide +kernel
theorem dX5_stands_6 : decode cX5_stands 6 = .ok (.getfield 68, 3) := by decide +kernel
theorem dX5_stands_9 : decode cX5_stands 9 = .ok (.i2l, 1) := by decide +kernel
theorem dX5_stands_10 : decode cX5_stands 10 = .ok (.invokestatic 53, 3) := by decide +kernel
theorem dX5_stands_13 : decode cX5_stands 13 = .ok (.ifCond .eq 15, 3) := by decide +kernel
theorem dX5_stands_16 : decode cX5_stands 16 = .ok (.iload_n 2, 1) := by decide +kernel
theorem dX5_stands_17 : decode cX5_stands 17 = .ok (.i2l, 1) := by decide +kernel
theorem dX5_stands_18 : decode cX5_stands 18 = .ok (.lconst 0, 1) := by decide +kernel
theorem dX5_stands_19 : decode cX5_stands 19 = .ok (.ldc2_w 125, 3) := by decide +kernel
theorem dX5_stands_22 : decode cX5_stands 22 = .ok (.invokestatic 53, 3) := by decide +kernel
theorem dX5_stands_25 : decode cX5_stands 25 = .ok (.ifCond .ne 6, 3) := by decide +kernel
theorem dX5_stands_28 : decode cX5_stands 28 = .ok (.bipush (-2), 2) := by decide +kernel
theorem dX5_stands_30 : decode cX5_stands 30 = .ok (.ireturn, 1) := by decide +kernel
theorem dX5_stands_31 : decode cX5_stands 31 = .ok (.aload_n 0, 1) := by decide +kernel
theorem dX5_stands_32 : decode cX5_stands 32 = .ok (.invokevirtual 86, 3) := by decide +kernel
theorem dX5_stands_35 : decode cX5_stands 35 = .ok (.ifCond .lt 6, 3) := by decide +kernel
theorem dX5_stands_38 : decode cX5_stands 38 = .ok (.bipush (-5), 2) := by decide +kernel
theorem dX5_stands_40 : decode cX5_stands 40 = .ok (.ireturn, 1) := by decide +kernel
theorem dX5_stands_41 : decode cX5_stands 41 = .ok (.iload_n 1, 1) := by decide +kernel
theorem dX5_stands_42 : decode cX5_stands 42 = .ok (.iconst (-1), 1) := by decide +kernel
theorem dX5_stands_43 : decode cX5_stands 43 = .ok (.if_icmp .ne 10, 3) := by decide +kernel
theorem dX5_stands_46 : decode cX5_stands 46 = .ok (.aload_n 0, 1) := by decide +kernel
theorem dX5_stands_47 : decode cX5_stands 47 = .ok (.getfield 68, 3) := by decide +kernel
theorem dX5_stands_50 : decode cX5_stands 50 = .ok (.goto 4, 3) := by decide +kernel
theorem dX5_stands_53 : decode cX5_stands 53 = .ok (.iload_n 1, 1) := by decide +kernel
theorem dX5_stands_54 : decode cX5_stands 54 = .ok (.istore_n 3, 1) := by decide +kernel
theorem dX5_stands_55 : decode cX5_stands 55 = .ok (.aload_n 0, 1) := by decide +kernel
theorem dX5_stands_56 : decode cX5_stands 56 = .ok (.iload_n 3, 1) := by decide +kernel
theorem dX5_stands_57 : decode cX5_stands 57 = .ok (.invokevirtual 90, 3) := by decide +kernel
theorem dX5_stands_60 : decode cX5_stands 60 = .ok (.ifCond .le 6, 3) := by decide +kernel
theorem dX5_stands_63 : decode cX5_stands 63 = .ok (.bipush (-3), 2) := by decide +kernel
theorem dX5_stands_65 : decode cX5_stands 65 = .ok (.ireturn, 1) := by decide +kernel
theorem dX5_stands_66 : decode cX5_stands 66 = .ok (.aload_n 0, 1) := by decide +kernel
theorem dX5_stands_67 : decode cX5_stands 67 = .ok (.invokevirtual 113, 3) := by decide +kernel
theorem dX5_stands_70 : decode cX5_stands 70 = .ok (.aload_n 0, 1) := by decide +kernel
theorem dX5_stands_71 : decode cX5_stands 71 = .ok (.iload_n 3, 1) := by decide +kernel
theorem dX5_stands_72 : decode cX5_stands 72 = .ok (.invokevirtual 127, 3) := by decide +kernel
theorem dX5_stands_75 : decode cX5_stands 75 = .ok (.iload_n 2, 1) := by decide +kernel
theorem dX5_stands_76 : decode cX5_stands 76 = .ok (.aload_n 0, 1) := by decide +kernel
theorem dX5_stands_77 : decode cX5_stands 77 = .ok (.getfield 94, 3) := by decide +kernel
theorem dX5_stands_80 : decode cX5_stands 80 = .ok (.if_icmp .ge 12, 3) := by decide +kernel
theorem dX5_stands_83 : decode cX5_stands 83 = .ok (.aload_n 0, 1) := by decide +kernel
theorem dX5_stands_84 : decode cX5_stands 84 = .ok (.getfield 22, 3) := by decide +kernel
theorem dX5_stands_87 : decode cX5_stands 87 = .ok (.iload_n 2, 1) := by decide +kernel
theorem dX5_stands_88 : decode cX5_stands 88 = .ok (.iaload, 1) := by decide +kernel
theorem dX5_stands_89 : decode cX5_stands 89 = .ok (.goto 5, 3) := by decide +kernel
theorem dX5_stands_92 : decode cX5_stands 92 = .ok (.bipush (-6), 2) := by decide +kernel
theorem dX5_stands_94 : decode cX5_stands 94 = .ok (.ireturn, 1) := by decide +kernel
theorem dX5_goReading_0 : decode cX5_goReading 0 = .ok (.aload_n 0, 1) := by decide +kernel
theorem dX5_goReading_1 : decode cX5_goReading 1 = .ok (.invokevirtual 116, 3) := by decide +kernel
theorem dX5_goReading_4 : decode cX5_goReading 4 = .ok (.iconst 0, 1) := by decide +kernel
theorem dX5_goReading_5 : decode cX5_goReading 5 = .ok (.istore_n 1, 1) := by decide +kernel
theorem dX5_goReading_6 : decode cX5_goReading 6 = .ok (.iload_n 1, 1) := by decide +kernel
theorem dX5_goReading_7 : decode cX5_goReading 7 = .ok (.bipush 8, 2) := by decide +kernel
theorem dX5_goReading_9 : decode cX5_goReading 9 = .ok (.if_icmp .ge 16, 3) := by decide +kernel
theorem dX5_goReading_12 : decode cX5_goReading 12 = .ok (.aload_n 0, 1) := by decide +kernel
theorem dX5_goReading_13 : decode cX5_goReading 13 = .ok (.getfield 31, 3) := by decide +kernel
theorem dX5_goReading_16 : decode cX5_goReading 16 = .ok (.iload_n 1, 1) := by decide +kernel
theorem dX5_goReading_17 : decode cX5_goReading 17 = .ok (.iconst 0, 1) := by decide +kernel
theorem dX5_goReading_18 : decode cX5_goReading 18 = .ok (.iastore, 1) := by decide +kernel
theorem dX5_goReading_19 : decode cX5_goReading 19 = .ok (.iinc 1 1, 3) := by decide +kernel
theorem dX5_goReading_22 : decode cX5_goReading 22 = .ok (.goto (-16), 3) := by decide +kernel
theorem dX5_goReading_25 : decode cX5_goReading 25 = .ok (.iconst 0, 1) := by decide +kernel
theorem dX5_goReading_26 : decode cX5_goReading 26 = .ok (.istore_n 1, 1) := by decide +kernel
theorem dX5_goReading_27 : decode cX5_goReading 27 = .ok (.iload_n 1, 1) := by decide +kernel
theorem dX5_goReading_28 : decode cX5_goReading 28 = .ok (.aload_n 0, 1) := by decide +kernel
theorem dX5_goReading_29 : decode cX5_goReading 29 = .ok (.getfield 110, 3) := by decide +kernel
theorem dX5_goReading_32 : decode cX5_goReading 32 = .ok (.if_icmp .ge 90, 3) := by decide +kernel
theorem dX5_goReading_35 : decode cX5_goReading 35 = .ok (.aload_n 0, 1) := by decide +kernel
theorem dX5_goReading_36 : decode cX5_goReading 36 = .ok (.getfield 34, 3) := by decide +kernel
theorem dX5_goReading_39 : decode cX5_goReading 39 = .ok (.iload_n 1, 1) := by decide +kernel
theorem dX5_goReading_40 : decode cX5_goReading 40 = .ok (.iconst 0, 1) := by decide +kernel
theorem dX5_goReading_41 : decode cX5_goReading 41 = .ok (.bastore, 1) := by decide +kernel
theorem dX5_goReading_42 : decode cX5_goReading 42 = .ok (.aload_n 0, 1) := by decide +kernel
theorem dX5_goReading_43 : decode cX5_goReading 43 = .ok (.getfield 28, 3) := by decide +kernel
theorem dX5_goReading_46 : decode cX5_goReading 46 = .ok (.iload_n 1, 1) := by decide +kernel
theorem dX5_goReading_47 : decode cX5_goReading 47 = .ok (.iaload, 1) := by decide +kernel
theorem dX5_goReading_48 : decode cX5_goReading 48 = .ok (.bipush 16, 2) := by decide +kernel
theorem dX5_goReading_50 : decode cX5_goReading 50 = .ok (.if_icmp .ge 17, 3) := by decide +kernel
theorem dX5_goReading_53 : decode cX5_goReading 53 = .ok (.aload_n 0, 1) := by decide +kernel
theorem dX5_goReading_54 : decode cX5_goReading 54 = .ok (.aload_n 0, 1) := by decide +kernel
theorem dX5_goReading_55 : decode cX5_goReading 55 = .ok (.getfield 28, 3) := by decide +kernel
theorem dX5_goReading_58 : decode cX5_goReading 58 = .ok (.iload_n 1, 1) := by decide +kernel
theorem dX5_goReading_59 : decode cX5_goReading 59 = .ok (.iaload, 1) := by decide +kernel
theorem dX5_goReading_60 : decode cX5_goReading 60 = .ok (.iload_n 1, 1) := by decide +kernel
theorem dX5_goReading_61 : decode cX5_goReading 61 = .ok (.invokevirtual 119, 3) := by decide +kernel
theorem dX5_goReading_64 : decode cX5_goReading 64 = .ok (.goto 52, 3) := by decide +kernel
theorem dX5_goReading_67 : decode cX5_goReading 67 = .ok (.aload_n 0, 1) := by decide +kernel
theorem dX5_goReading_68 : decode cX5_goReading 68 = .ok (.getfield 31, 3) := by decide +kernel
theorem dX5_goReading_71 : decode cX5_goReading 71 = .ok (.aload_n 0, 1) := by decide +kernel
theorem dX5_goReading_72 : decode cX5_goReading 72 = .ok (.getfield 28, 3) := by decide +kernel
theorem dX5_goReading_75 : decode cX5_goReading 75 = .ok (.iload_n 1, 1) := by decide +kernel
theorem dX5_goReading_76 : decode cX5_goReading 76 = .ok (.iaload, 1) := by decide +kernel
theorem dX5_goReading_77 : decode cX5_goReading 77 = .ok (.bipush 16, 2) := by decide +kernel
theorem dX5_goReading_79 : decode cX5_goReading 79 = .ok (.isub, 1) := by decide +kernel
theorem dX5_goReading_80 : decode cX5_goReading 80 = .ok (.dup2, 1) := by decide +kernel
theorem dX5_goReading_81 : decode cX5_goReading 81 = .ok (.iaload, 1) := by decide +kernel
theorem dX5_goReading_82 : decode cX5_goReading 82 = .ok (.aload_n 0, 1) := by decide +kernel
theorem dX5_goReading_83 : decode cX5_goReading 83 = .ok (.invokevirtual 130, 3) := by decide +kernel
theorem dX5_goReading_86 : decode cX5_goReading 86 = .ok (.ior, 1) := by decide +kernel
theorem dX5_goReading_87 : decode cX5_goReading 87 = .ok (.iastore, 1) := by decide +kernel
theorem dX5_goReading_88 : decode cX5_goReading 88 = .ok (.iconst 0, 1) := by decide +kernel
theorem dX5_goReading_89 : decode cX5_goReading 89 = .ok (.istore_n 2, 1) := by decide +kernel
theorem dX5_goReading_90 : decode cX5_goReading 90 = .ok (.iload_n 2, 1) := by decide +kernel
theorem dX5_goReading_91 : decode cX5_goReading 91 = .ok (.aload_n 0, 1) := by decide +kernel
theorem dX5_goReading_92 : decode cX5_goReading 92 = .ok (.getfield 94, 3) := by decide +kernel
theorem dX5_goReading_95 : decode cX5_goReading 95 = .ok (.if_icmp .ge 21, 3) := by decide +kernel
theorem dX5_goReading_98 : decode cX5_goReading 98 = .ok (.aload_n 0, 1) := by decide +kernel
theorem dX5_goReading_99 : decode cX5_goReading 99 = .ok (.getfield 34, 3) := by decide +kernel
theorem dX5_goReading_102 : decode cX5_goReading 102 = .ok (.aload_n 0, 1) := by decide +kernel
theorem dX5_goReading_103 : decode cX5_goReading 103 = .ok (.getfield 25, 3) := by decide +kernel
theorem dX5_goReading_106 : decode cX5_goReading 106 = .ok (.iload_n 2, 1) := by decide +kernel
theorem dX5_goReading_107 : decode cX5_goReading 107 = .ok (.iaload, 1) := by decide +kernel
theorem dX5_goReading_108 : decode cX5_goReading 108 = .ok (.iconst 1, 1) := by decide +kernel
theorem dX5_goReading_109 : decode cX5_goReading 109 = .ok (.bastore, 1) := by decide +kernel
theorem dX5_goReading_110 : decode cX5_goReading 110 = .ok (.iinc 2 1, 3) := by decide +kernel
theorem dX5_goReading_113 : decode cX5_goReading 113 = .ok (.goto (-23), 3) := by decide +kernel
theorem dX5_goReading_116 : decode cX5_goReading 116 = .ok (.iinc 1 1, 3) := by decide +kernel
theorem dX5_goReading_119 : decode cX5_goReading 119 = .ok (.goto (-92), 3) := by decide +kernel
theorem dX5_goReading_122 : decode cX5_goReading 122 = .ok (.return_, 1) := by decide +kernel
theorem dX5_seenBy_0 : decode cX5_seenBy 0 = .ok (.iconst 0, 1) := by decide +kernel
theorem dX5_seenBy_1 : decode cX5_seenBy 1 = .ok (.istore_n 2, 1) := by decide +kernel
theorem dX5_seenBy_2 : decode cX5_seenBy 2 = .ok (.iconst 0, 1) := by decide +kernel
theorem dX5_seenBy_3 : decode cX5_seenBy 3 = .ok (.istore_n 3, 1) := by decide +kernel
theorem dX5_seenBy_4 : decode cX5_seenBy 4 = .ok (.iload_n 3, 1) := by decide +kernel
theorem dX5_seenBy_5 : decode cX5_seenBy 5 = .ok (.bipush 8, 2) := by decide +kernel
theorem dX5_seenBy_7 : decode cX5_seenBy 7 = .ok (.if_icmp .ge 33, 3) := by decide +kernel
theorem dX5_seenBy_10 : decode cX5_seenBy 10 = .ok (.iload_n 2, 1) := by decide +kernel
theorem dX5_seenBy_11 : decode cX5_seenBy 11 = .ok (.aload_n 0, 1) := by decide +kernel
theorem dX5_seenBy_12 : decode cX5_seenBy 12 = .ok (.getfield 31, 3) := by decide +kernel
theorem dX5_seenBy_15 : decode cX5_seenBy 15 = .ok (.iload_n 3, 1) := by decide +kernel
theorem dX5_seenBy_16 : decode cX5_seenBy 16 = .ok (.iaload, 1) := by decide +kernel
theorem dX5_seenBy_17 : decode cX5_seenBy 17 = .ok (.iload_n 1, 1) := by decide +kernel
theorem dX5_seenBy_18 : decode cX5_seenBy 18 = .ok (.ishr, 1) := by decide +kernel
theorem dX5_seenBy_19 : decode cX5_seenBy 19 = .ok (.iconst 1, 1) := by decide +kernel
theorem dX5_seenBy_20 : decode cX5_seenBy 20 = .ok (.iand, 1) := by decide +kernel
theorem dX5_seenBy_21 : decode cX5_seenBy 21 = .ok (.iconst 1, 1) := by decide +kernel
theorem dX5_seenBy_22 : decode cX5_seenBy 22 = .ok (.if_icmp .ne 9, 3) := by decide +kernel
theorem dX5_seenBy_25 : decode cX5_seenBy 25 = .ok (.iconst 1, 1) := by decide +kernel
theorem dX5_seenBy_26 : decode cX5_seenBy 26 = .ok (.iload_n 3, 1) := by decide +kernel
theorem dX5_seenBy_27 : decode cX5_seenBy 27 = .ok (.ishl, 1) := by decide +kernel
theorem dX5_seenBy_28 : decode cX5_seenBy 28 = .ok (.goto 4, 3) := by decide +kernel
theorem dX5_seenBy_31 : decode cX5_seenBy 31 = .ok (.iconst 0, 1) := by decide +kernel
theorem dX5_seenBy_32 : decode cX5_seenBy 32 = .ok (.ior, 1) := by decide +kernel
theorem dX5_seenBy_33 : decode cX5_seenBy 33 = .ok (.istore_n 2, 1) := by decide +kernel
theorem dX5_seenBy_34 : decode cX5_seenBy 34 = .ok (.iinc 3 1, 3) := by decide +kernel
theorem dX5_seenBy_37 : decode cX5_seenBy 37 = .ok (.goto (-33), 3) := by decide +kernel
theorem dX5_seenBy_40 : decode cX5_seenBy 40 = .ok (.iload_n 2, 1) := by decide +kernel
theorem dX5_seenBy_41 : decode cX5_seenBy 41 = .ok (.ireturn, 1) := by decide +kernel
theorem dX5_missedMany_0 : decode cX5_missedMany 0 = .ok (.iconst 0, 1) := by decide +kernel
theorem dX5_missedMany_1 : decode cX5_missedMany 1 = .ok (.istore_n 1, 1) := by decide +kernel
theorem dX5_missedMany_2 : decode cX5_missedMany 2 = .ok (.iconst 0, 1) := by decide +kernel
theorem dX5_missedMany_3 : decode cX5_missedMany 3 = .ok (.istore_n 2, 1) := by decide +kernel
theorem dX5_missedMany_4 : decode cX5_missedMany 4 = .ok (.iload_n 2, 1) := by decide +kernel
theorem dX5_missedMany_5 : decode cX5_missedMany 5 = .ok (.aload_n 0, 1) := by decide +kernel
theorem dX5_missedMany_6 : decode cX5_missedMany 6 = .ok (.getfield 110, 3) := by decide +kernel
theorem dX5_missedMany_9 : decode cX5_missedMany 9 = .ok (.if_icmp .ge 37, 3) := by decide +kernel
theorem dX5_missedMany_12 : decode cX5_missedMany 12 = .ok (.iload_n 1, 1) := by decide +kernel
theorem dX5_missedMany_13 : decode cX5_missedMany 13 = .ok (.aload_n 0, 1) := by decide +kernel
theorem dX5_missedMany_14 : decode cX5_missedMany 14 = .ok (.getfield 28, 3) := by decide +kernel
theorem dX5_missedMany_17 : decode cX5_missedMany 17 = .ok (.iload_n 2, 1) := by decide +kernel
theorem dX5_missedMany_18 : decode cX5_missedMany 18 = .ok (.iaload, 1) := by decide +kernel
theorem dX5_missedMany_19 : decode cX5_missedMany 19 = .ok (.bipush 16, 2) := by decide +kernel
theorem dX5_missedMany_21 : decode cX5_missedMany 21 = .ok (.if_icmp .ge 16, 3) := by decide +kernel
theorem dX5_missedMany_24 : decode cX5_missedMany 24 = .ok (.aload_n 0, 1) := by decide +kernel
theorem dX5_missedMany_25 : decode cX5_missedMany 25 = .ok (.getfield 34, 3) := by decide +kernel
theorem dX5_missedMany_28 : decode cX5_missedMany 28 = .ok (.iload_n 2, 1) := by decide +kernel
theorem dX5_missedMany_29 : decode cX5_missedMany 29 = .ok (.baload, 1) := by decide +kernel
theorem dX5_missedMany_30 : decode cX5_missedMany 30 = .ok (.ifCond .ne 7, 3) := by decide +kernel
theorem dX5_missedMany_33 : decode cX5_missedMany 33 = .ok (.iconst 1, 1) := by decide +kernel
theorem dX5_missedMany_34 : decode cX5_missedMany 34 = .ok (.goto 4, 3) := by decide +kernel
theorem dX5_missedMany_37 : decode cX5_missedMany 37 = .ok (.iconst 0, 1) := by decide +kernel
theorem dX5_missedMany_38 : decode cX5_missedMany 38 = .ok (.iadd, 1) := by decide +kernel
theorem dX5_missedMany_39 : decode cX5_missedMany 39 = .ok (.istore_n 1, 1) := by decide +kernel
theorem dX5_missedMany_40 : decode cX5_missedMany 40 = .ok (.iinc 2 1, 3) := by decide +kernel
theorem dX5_missedMany_43 : decode cX5_missedMany 43 = .ok (.goto (-39), 3) := by decide +kernel
theorem dX5_missedMany_46 : decode cX5_missedMany 46 = .ok (.iload_n 1, 1) := by decide +kernel
theorem dX5_missedMany_47 : decode cX5_missedMany 47 = .ok (.ireturn, 1) := by decide +kernel
theorem dX5_read_0 : decode cX5_read 0 = .ok (.iload_n 1, 1) := by decide +kernel
theorem dX5_read_1 : decode cX5_read 1 = .ok (.invokestatic 133, 3) := by decide +kernel
theorem dX5_read_4 : decode cX5_read 4 = .ok (.ifCond .ne 5, 3) := by decide +kernel
theorem dX5_read_7 : decode cX5_read 7 = .ok (.iconst (-1), 1) := by decide +kernel
theorem dX5_read_8 : decode cX5_read 8 = .ok (.ireturn, 1) := by decide +kernel
theorem dX5_read_9 : decode cX5_read 9 = .ok (.aload_n 0, 1) := by decide +kernel
theorem dX5_read_10 : decode cX5_read 10 = .ok (.invokevirtual 136, 3) := by decide +kernel
theorem dX5_read_13 : decode cX5_read 13 = .ok (.bipush (-6), 2) := by decide +kernel
theorem dX5_read_15 : decode cX5_read 15 = .ok (.if_icmp .eq 8, 3) := by decide +kernel
theorem dX5_read_18 : decode cX5_read 18 = .ok (.aload_n 0, 1) := by decide +kernel
theorem dX5_read_19 : decode cX5_read 19 = .ok (.invokevirtual 136, 3) := by decide +kernel
theorem dX5_read_22 : decode cX5_read 22 = .ok (.ireturn, 1) := by decide +kernel
theorem dX5_read_23 : decode cX5_read 23 = .ok (.aload_n 0, 1) := by decide +kernel
theorem dX5_read_24 : decode cX5_read 24 = .ok (.invokevirtual 113, 3) := by decide +kernel
theorem dX5_read_27 : decode cX5_read 27 = .ok (.aload_n 0, 1) := by decide +kernel
theorem dX5_read_28 : decode cX5_read 28 = .ok (.invokevirtual 139, 3) := by decide +kernel
theorem dX5_read_31 : decode cX5_read 31 = .ok (.aload_n 0, 1) := by decide +kernel
theorem dX5_read_32 : decode cX5_read 32 = .ok (.getfield 31, 3) := by decide +kernel
theorem dX5_read_35 : decode cX5_read 35 = .ok (.iload_n 1, 1) := by decide +kernel
theorem dX5_read_36 : decode cX5_read 36 = .ok (.iaload, 1) := by decide +kernel
theorem dX5_read_37 : decode cX5_read 37 = .ok (.ireturn, 1) := by decide +kernel
theorem dX5_seen_0 : decode cX5_seen 0 = .ok (.iload_n 1, 1) := by decide +kernel
theorem dX5_seen_1 : decode cX5_seen 1 = .ok (.invokestatic 133, 3) := by decide +kernel
theorem dX5_seen_4 : decode cX5_seen 4 = .ok (.ifCond .ne 5, 3) := by decide +kernel
theorem dX5_seen_7 : decode cX5_seen 7 = .ok (.iconst (-1), 1) := by decide +kernel
theorem dX5_seen_8 : decode cX5_seen 8 = .ok (.ireturn, 1) := by decide +kernel
theorem dX5_seen_9 : decode cX5_seen 9 = .ok (.aload_n 0, 1) := by decide +kernel
theorem dX5_seen_10 : decode cX5_seen 10 = .ok (.invokevirtual 136, 3) := by decide +kernel
theorem dX5_seen_13 : decode cX5_seen 13 = .ok (.bipush (-6), 2) := by decide +kernel
theorem dX5_seen_15 : decode cX5_seen 15 = .ok (.if_icmp .eq 8, 3) := by decide +kernel
theorem dX5_seen_18 : decode cX5_seen 18 = .ok (.aload_n 0, 1) := by decide +kernel
theorem dX5_seen_19 : decode cX5_seen 19 = .ok (.invokevirtual 136, 3) := by decide +kernel
theorem dX5_seen_22 : decode cX5_seen 22 = .ok (.ireturn, 1) := by decide +kernel
theorem dX5_seen_23 : decode cX5_seen 23 = .ok (.aload_n 0, 1) := by decide +kernel
theorem dX5_seen_24 : decode cX5_seen 24 = .ok (.invokevirtual 113, 3) := by decide +kernel
theorem dX5_seen_27 : decode cX5_seen 27 = .ok (.aload_n 0, 1) := by decide +kernel
theorem dX5_seen_28 : decode cX5_seen 28 = .ok (.invokevirtual 139, 3) := by decide +kernel
theorem dX5_seen_31 : decode cX5_seen 31 = .ok (.aload_n 0, 1) := by decide +kernel
theorem dX5_seen_32 : decode cX5_seen 32 = .ok (.iload_n 1, 1) := by decide +kernel
theorem dX5_seen_33 : decode cX5_seen 33 = .ok (.invokevirtual 142, 3) := by decide +kernel
theorem dX5_seen_36 : decode cX5_seen 36 = .ok (.ireturn, 1) := by decide +kernel
theorem dX5_missed_0 : decode cX5_missed 0 = .ok (.aload_n 0, 1) := by decide +kernel
theorem dX5_missed_1 : decode cX5_missed 1 = .ok (.invokevirtual 136, 3) := by decide +kernel
theorem dX5_missed_4 : decode cX5_missed 4 = .ok (.bipush (-6), 2) := by decide +kernel
theorem dX5_missed_6 : decode cX5_missed 6 = .ok (.if_icmp .eq 8, 3) := by decide +kernel
theorem dX5_missed_9 : decode cX5_missed 9 = .ok (.aload_n 0, 1) := by decide +kernel
theorem dX5_missed_10 : decode cX5_missed 10 = .ok (.invokevirtual 136, 3) := by decide +kernel
theorem dX5_missed_13 : decode cX5_missed 13 = .ok (.ireturn, 1) := by decide +kernel
theorem dX5_missed_14 : decode cX5_missed 14 = .ok (.aload_n 0, 1) := by decide +kernel
theorem dX5_missed_15 : decode cX5_missed 15 = .ok (.invokevirtual 113, 3) := by decide +kernel
theorem dX5_missed_18 : decode cX5_missed 18 = .ok (.aload_n 0, 1) := by decide +kernel
theorem dX5_missed_19 : decode cX5_missed 19 = .ok (.invokevirtual 139, 3) := by decide +kernel
theorem dX5_missed_22 : decode cX5_missed 22 = .ok (.iload_n 1, 1) := by decide +kernel
theorem dX5_missed_23 : decode cX5_missed 23 = .ok (.iconst (-1), 1) := by decide +kernel
theorem dX5_missed_24 : decode cX5_missed 24 = .ok (.if_icmp .ne 8, 3) := by decide +kernel
theorem dX5_missed_27 : decode cX5_missed 27 = .ok (.aload_n 0, 1) := by decide +kernel
theorem dX5_missed_28 : decode cX5_missed 28 = .ok (.invokevirtual 145, 3) := by decide +kernel
theorem dX5_missed_31 : decode cX5_missed 31 = .ok (.ireturn, 1) := by decide +kernel
theorem dX5_missed_32 : decode cX5_missed 32 = .ok (.iconst 0, 1) := by decide +kernel
theorem dX5_missed_33 : decode cX5_missed 33 = .ok (.istore_n 2, 1) := by decide +kernel
theorem dX5_missed_34 : decode cX5_missed 34 = .ok (.iconst 0, 1) := by decide +kernel
theorem dX5_missed_35 : decode cX5_missed 35 = .ok (.istore_n 3, 1) := by decide +kernel
theorem dX5_missed_36 : decode cX5_missed 36 = .ok (.iload_n 3, 1) := by decide +kernel
theorem dX5_missed_37 : decode cX5_missed 37 = .ok (.aload_n 0, 1) := by decide +kernel
theorem dX5_missed_38 : decode cX5_missed 38 = .ok (.getfield 110, 3) := by decide +kernel
theorem dX5_missed_41 : decode cX5_missed 41 = .ok (.if_icmp .ge 39, 3) := by decide +kernel
theorem dX5_missed_44 : decode cX5_missed 44 = .ok (.aload_n 0, 1) := by decide +kernel
theorem dX5_missed_45 : decode cX5_missed 45 = .ok (.getfield 28, 3) := by decide +kernel
theorem dX5_missed_48 : decode cX5_missed 48 = .ok (.iload_n 3, 1) := by decide +kernel
theorem dX5_missed_49 : decode cX5_missed 49 = .ok (.iaload, 1) := by decide +kernel
theorem dX5_missed_50 : decode cX5_missed 50 = .ok (.bipush 16, 2) := by decide +kernel
theorem dX5_missed_52 : decode cX5_missed 52 = .ok (.if_icmp .ge 22, 3) := by decide +kernel
theorem dX5_missed_55 : decode cX5_missed 55 = .ok (.aload_n 0, 1) := by decide +kernel
theorem dX5_missed_56 : decode cX5_missed 56 = .ok (.getfield 34, 3) := by decide +kernel
theorem dX5_missed_59 : decode cX5_missed 59 = .ok (.iload_n 3, 1) := by decide +kernel
theorem dX5_missed_60 : decode cX5_missed 60 = .ok (.baload, 1) := by decide +kernel
theorem dX5_missed_61 : decode cX5_missed 61 = .ok (.ifCond .ne 13, 3) := by decide +kernel
theorem dX5_missed_64 : decode cX5_missed 64 = .ok (.iload_n 2, 1) := by decide +kernel
theorem dX5_missed_65 : decode cX5_missed 65 = .ok (.iload_n 1, 1) := by decide +kernel
theorem dX5_missed_66 : decode cX5_missed 66 = .ok (.if_icmp .ne 5, 3) := by decide +kernel
theorem dX5_missed_69 : decode cX5_missed 69 = .ok (.iload_n 3, 1) := by decide +kernel
theorem dX5_missed_70 : decode cX5_missed 70 = .ok (.ireturn, 1) := by decide +kernel
theorem dX5_missed_71 : decode cX5_missed 71 = .ok (.iinc 2 1, 3) := by decide +kernel
theorem dX5_missed_74 : decode cX5_missed 74 = .ok (.iinc 3 1, 3) := by decide +kernel
theorem dX5_missed_77 : decode cX5_missed 77 = .ok (.goto (-41), 3) := by decide +kernel
theorem dX5_missed_80 : decode cX5_missed 80 = .ok (.bipush (-6), 2) := by decide +kernel
theorem dX5_missed_82 : decode cX5_missed 82 = .ok (.ireturn, 1) := by decide +kernel
theorem dX5_isOf_0 : decode cX5_isOf 0 = .ok (.iload_n 1, 1) := by decide +kernel
theorem dX5_isOf_1 : decode cX5_isOf 1 = .ok (.bipush 16, 2) := by decide +kernel
theorem dX5_isOf_3 : decode cX5_isOf 3 = .ok (.if_icmp .lt 19, 3) := by decide +kernel
theorem dX5_isOf_6 : decode cX5_isOf 6 = .ok (.iload_n 2, 1) := by decide +kernel
theorem dX5_isOf_7 : decode cX5_isOf 7 = .ok (.iload_n 1, 1) := by decide +kernel
theorem dX5_isOf_8 : decode cX5_isOf 8 = .ok (.bipush 16, 2) := by decide +kernel
theorem dX5_isOf_10 : decode cX5_isOf 10 = .ok (.isub, 1) := by decide +kernel
theorem dX5_isOf_11 : decode cX5_isOf 11 = .ok (.ishr, 1) := by decide +kernel
theorem dX5_isOf_12 : decode cX5_isOf 12 = .ok (.iconst 1, 1) := by decide +kernel
theorem dX5_isOf_13 : decode cX5_isOf 13 = .ok (.iand, 1) := by decide +kernel
theorem dX5_isOf_14 : decode cX5_isOf 14 = .ok (.iconst 1, 1) := by decide +kernel
theorem dX5_isOf_15 : decode cX5_isOf 15 = .ok (.if_icmp .ne 7, 3) := by decide +kernel
theorem dX5_isOf_18 : decode cX5_isOf 18 = .ok (.iconst 1, 1) := by decide +kernel
theorem dX5_isOf_19 : decode cX5_isOf 19 = .ok (.goto 4, 3) := by decide +kernel
theorem dX5_isOf_22 : decode cX5_isOf 22 = .ok (.iconst 0, 1) := by decide +kernel
theorem dX5_isOf_23 : decode cX5_isOf 23 = .ok (.ireturn, 1) := by decide +kernel
theorem dX5_looksOf_0 : decode cX5_looksOf 0 = .ok (.iconst 0, 1) := by decide +kernel
theorem dX5_looksOf_1 : decode cX5_looksOf 1 = .ok (.istore_n 2, 1) := by decide +kernel
theorem dX5_looksOf_2 : decode cX5_looksOf 2 = .ok (.iconst 0, 1) := by decide +kernel
theorem dX5_looksOf_3 : decode cX5_looksOf 3 = .ok (.istore_n 3, 1) := by decide +kernel
theorem dX5_looksOf_4 : decode cX5_looksOf 4 = .ok (.iload_n 3, 1) := by decide +kernel
theorem dX5_looksOf_5 : decode cX5_looksOf 5 = .ok (.aload_n 0, 1) := by decide +kernel
theorem dX5_looksOf_6 : decode cX5_looksOf 6 = .ok (.getfield 110, 3) := by decide +kernel
theorem dX5_looksOf_9 : decode cX5_looksOf 9 = .ok (.if_icmp .ge 31, 3) := by decide +kernel
theorem dX5_looksOf_12 : decode cX5_looksOf 12 = .ok (.iload_n 2, 1) := by decide +kernel
theorem dX5_looksOf_13 : decode cX5_looksOf 13 = .ok (.aload_n 0, 1) := by decide +kernel
theorem dX5_looksOf_14 : decode cX5_looksOf 14 = .ok (.aload_n 0, 1) := by decide +kernel
theorem dX5_looksOf_15 : decode cX5_looksOf 15 = .ok (.getfield 28, 3) := by decide +kernel
theorem dX5_looksOf_18 : decode cX5_looksOf 18 = .ok (.iload_n 3, 1) := by decide +kernel
theorem dX5_looksOf_19 : decode cX5_looksOf 19 = .ok (.iaload, 1) := by decide +kernel
theorem dX5_looksOf_20 : decode cX5_looksOf 20 = .ok (.iload_n 1, 1) := by decide +kernel
theorem dX5_looksOf_21 : decode cX5_looksOf 21 = .ok (.invokevirtual 148, 3) := by decide +kernel
theorem dX5_looksOf_24 : decode cX5_looksOf 24 = .ok (.ifCond .eq 7, 3) := by decide +kernel
theorem dX5_looksOf_27 : decode cX5_looksOf 27 = .ok (.iconst 1, 1) := by decide +kernel
theorem dX5_looksOf_28 : decode cX5_looksOf 28 = .ok (.goto 4, 3) := by decide +kernel
theorem dX5_looksOf_31 : decode cX5_looksOf 31 = .ok (.iconst 0, 1) := by decide +kernel
theorem dX5_looksOf_32 : decode cX5_looksOf 32 = .ok (.iadd, 1) := by decide +kernel
theorem dX5_looksOf_33 : decode cX5_looksOf 33 = .ok (.istore_n 2, 1) := by decide +kernel
theorem dX5_looksOf_34 : decode cX5_looksOf 34 = .ok (.iinc 3 1, 3) := by decide +kernel
theorem dX5_looksOf_37 : decode cX5_looksOf 37 = .ok (.goto (-33), 3) := by decide +kernel
theorem dX5_looksOf_40 : decode cX5_looksOf 40 = .ok (.iload_n 2, 1) := by decide +kernel
theorem dX5_looksOf_41 : decode cX5_looksOf 41 = .ok (.ireturn, 1) := by decide +kernel
theorem dX5_isHidden_0 : decode cX5_isHidden 0 = .ok (.aload_n 0, 1) := by decide +kernel
theorem dX5_isHidden_1 : decode cX5_isHidden 1 = .ok (.invokevirtual 116, 3) := by decide +kernel
theorem dX5_isHidden_4 : decode cX5_isHidden 4 = .ok (.iconst 0, 1) := by decide +kernel
theorem dX5_isHidden_5 : decode cX5_isHidden 5 = .ok (.istore_n 3, 1) := by decide +kernel
theorem dX5_isHidden_6 : decode cX5_isHidden 6 = .ok (.bipush 100, 2) := by decide +kernel
theorem dX5_isHidden_8 : decode cX5_isHidden 8 = .ok (.istore 4, 2) := by decide +kernel
theorem dX5_isHidden_10 : decode cX5_isHidden 10 = .ok (.iconst 0, 1) := by decide +kernel
theorem dX5_isHidden_11 : decode cX5_isHidden 11 = .ok (.istore 5, 2) := by decide +kernel
theorem dX5_isHidden_13 : decode cX5_isHidden 13 = .ok (.iload 5, 2) := by decide +kernel
theorem dX5_isHidden_15 : decode cX5_isHidden 15 = .ok (.aload_n 0, 1) := by decide +kernel
theorem dX5_isHidden_16 : decode cX5_isHidden 16 = .ok (.getfield 110, 3) := by decide +kernel
theorem dX5_isHidden_19 : decode cX5_isHidden 19 = .ok (.if_icmp .ge 96, 3) := by decide +kernel
theorem dX5_isHidden_22 : decode cX5_isHidden 22 = .ok (.aload_n 0, 1) := by decide +kernel
theorem dX5_isHidden_23 : decode cX5_isHidden 23 = .ok (.getfield 28, 3) := by decide +kernel
theorem dX5_isHidden_26 : decode cX5_isHidden 26 = .ok (.iload 5, 2) := by decide +kernel
theorem dX5_isHidden_28 : decode cX5_isHidden 28 = .ok (.iaload, 1) := by decide +kernel
theorem dX5_isHidden_29 : decode cX5_isHidden 29 = .ok (.bipush 16, 2) := by decide +kernel
theorem dX5_isHidden_31 : decode cX5_isHidden 31 = .ok (.if_icmp .ge 19, 3) := by decide +kernel
theorem dX5_isHidden_34 : decode cX5_isHidden 34 = .ok (.aload_n 0, 1) := by decide +kernel
theorem dX5_isHidden_35 : decode cX5_isHidden 35 = .ok (.aload_n 0, 1) := by decide +kernel
theorem dX5_isHidden_36 : decode cX5_isHidden 36 = .ok (.getfield 28, 3) := by decide +kernel
theorem dX5_isHidden_39 : decode cX5_isHidden 39 = .ok (.iload 5, 2) := by decide +kernel
theorem dX5_isHidden_41 : decode cX5_isHidden 41 = .ok (.iaload, 1) := by decide +kernel
theorem dX5_isHidden_42 : decode cX5_isHidden 42 = .ok (.iload 5, 2) := by decide +kernel
theorem dX5_isHidden_44 : decode cX5_isHidden 44 = .ok (.invokevirtual 119, 3) := by decide +kernel
theorem dX5_isHidden_47 : decode cX5_isHidden 47 = .ok (.goto 62, 3) := by decide +kernel
theorem dX5_isHidden_50 : decode cX5_isHidden 50 = .ok (.aload_n 0, 1) := by decide +kernel
theorem dX5_isHidden_51 : decode cX5_isHidden 51 = .ok (.aload_n 0, 1) := by decide +kernel
theorem dX5_isHidden_52 : decode cX5_isHidden 52 = .ok (.getfield 28, 3) := by decide +kernel
theorem dX5_isHidden_55 : decode cX5_isHidden 55 = .ok (.iload 5, 2) := by decide +kernel
theorem dX5_isHidden_57 : decode cX5_isHidden 57 = .ok (.iaload, 1) := by decide +kernel
theorem dX5_isHidden_58 : decode cX5_isHidden 58 = .ok (.iload_n 1, 1) := by decide +kernel
theorem dX5_isHidden_59 : decode cX5_isHidden 59 = .ok (.invokevirtual 148, 3) := by decide +kernel
theorem dX5_isHidden_62 : decode cX5_isHidden 62 = .ok (.ifCond .eq 47, 3) := by decide +kernel
theorem dX5_isHidden_65 : decode cX5_isHidden 65 = .ok (.iconst 0, 1) := by decide +kernel
theorem dX5_isHidden_66 : decode cX5_isHidden 66 = .ok (.istore 6, 2) := by decide +kernel
theorem dX5_isHidden_68 : decode cX5_isHidden 68 = .ok (.iload 6, 2) := by decide +kernel
theorem dX5_isHidden_70 : decode cX5_isHidden 70 = .ok (.aload_n 0, 1) := by decide +kernel
theorem dX5_isHidden_71 : decode cX5_isHidden 71 = .ok (.getfield 38, 3) := by decide +kernel
theorem dX5_isHidden_74 : decode cX5_isHidden 74 = .ok (.iload_n 3, 1) := by decide +kernel
theorem dX5_isHidden_75 : decode cX5_isHidden 75 = .ok (.iaload, 1) := by decide +kernel
theorem dX5_isHidden_76 : decode cX5_isHidden 76 = .ok (.if_icmp .ge 20, 3) := by decide +kernel
theorem dX5_isHidden_79 : decode cX5_isHidden 79 = .ok (.aload_n 0, 1) := by decide +kernel
theorem dX5_isHidden_80 : decode cX5_isHidden 80 = .ok (.iload 4, 2) := by decide +kernel
theorem dX5_isHidden_82 : decode cX5_isHidden 82 = .ok (.iload 5, 2) := by decide +kernel
theorem dX5_isHidden_84 : decode cX5_isHidden 84 = .ok (.invokevirtual 119, 3) := by decide +kernel
theorem dX5_isHidden_87 : decode cX5_isHidden 87 = .ok (.iinc 4 1, 3) := by decide +kernel
theorem dX5_isHidden_90 : decode cX5_isHidden 90 = .ok (.iinc 6 1, 3) := by decide +kernel
theorem dX5_isHidden_93 : decode cX5_isHidden 93 = .ok (.goto (-25), 3) := by decide +kernel
theorem dX5_isHidden_96 : decode cX5_isHidden 96 = .ok (.iinc 3 1, 3) := by decide +kernel
theorem dX5_isHidden_99 : decode cX5_isHidden 99 = .ok (.aload_n 0, 1) := by decide +kernel
theorem dX5_isHidden_100 : decode cX5_isHidden 100 = .ok (.iload_n 2, 1) := by decide +kernel
theorem dX5_isHidden_101 : decode cX5_isHidden 101 = .ok (.invokevirtual 103, 3) := by decide +kernel
theorem dX5_isHidden_104 : decode cX5_isHidden 104 = .ok (.ifCond .lt 5, 3) := by decide +kernel
theorem dX5_isHidden_107 : decode cX5_isHidden 107 = .ok (.iconst 0, 1) := by decide +kernel
theorem dX5_isHidden_108 : decode cX5_isHidden 108 = .ok (.ireturn, 1) := by decide +kernel
theorem dX5_isHidden_109 : decode cX5_isHidden 109 = .ok (.iinc 5 1, 3) := by decide +kernel
theorem dX5_isHidden_112 : decode cX5_isHidden 112 = .ok (.goto (-99), 3) := by decide +kernel
theorem dX5_isHidden_115 : decode cX5_isHidden 115 = .ok (.iconst 1, 1) := by decide +kernel
theorem dX5_isHidden_116 : decode cX5_isHidden 116 = .ok (.ireturn, 1) := by decide +kernel
theorem dX5_nextPlan_0 : decode cX5_nextPlan 0 = .ok (.iload_n 1, 1) := by decide +kernel
theorem dX5_nextPlan_1 : decode cX5_nextPlan 1 = .ok (.iconst 1, 1) := by decide +kernel
theorem dX5_nextPlan_2 : decode cX5_nextPlan 2 = .ok (.isub, 1) := by decide +kernel
theorem dX5_nextPlan_3 : decode cX5_nextPlan 3 = .ok (.istore_n 2, 1) := by decide +kernel
theorem dX5_nextPlan_4 : decode cX5_nextPlan 4 = .ok (.iload_n 2, 1) := by decide +kernel
theorem dX5_nextPlan_5 : decode cX5_nextPlan 5 = .ok (.ifCond .lt 18, 3) := by decide +kernel
theorem dX5_nextPlan_8 : decode cX5_nextPlan 8 = .ok (.aload_n 0, 1) := by decide +kernel
theorem dX5_nextPlan_9 : decode cX5_nextPlan 9 = .ok (.getfield 38, 3) := by decide +kernel
theorem dX5_nextPlan_12 : decode cX5_nextPlan 12 = .ok (.iload_n 2, 1) := by decide +kernel
theorem dX5_nextPlan_13 : decode cX5_nextPlan 13 = .ok (.iaload, 1) := by decide +kernel
theorem dX5_nextPlan_14 : decode cX5_nextPlan 14 = .ok (.ifCond .ne 9, 3) := by decide +kernel
theorem dX5_nextPlan_17 : decode cX5_nextPlan 17 = .ok (.iinc 2 (-1), 3) := by decide +kernel
theorem dX5_nextPlan_20 : decode cX5_nextPlan 20 = .ok (.goto (-16), 3) := by decide +kernel
theorem dX5_nextPlan_23 : decode cX5_nextPlan 23 = .ok (.iload_n 2, 1) := by decide +kernel
theorem dX5_nextPlan_24 : decode cX5_nextPlan 24 = .ok (.ifCond .gt 5, 3) := by decide +kernel
theorem dX5_nextPlan_27 : decode cX5_nextPlan 27 = .ok (.iconst 0, 1) := by decide +kernel
theorem dX5_nextPlan_28 : decode cX5_nextPlan 28 = .ok (.ireturn, 1) := by decide +kernel
theorem dX5_nextPlan_29 : decode cX5_nextPlan 29 = .ok (.aload_n 0, 1) := by decide +kernel
theorem dX5_nextPlan_30 : decode cX5_nextPlan 30 = .ok (.getfield 38, 3) := by decide +kernel
theorem dX5_nextPlan_33 : decode cX5_nextPlan 33 = .ok (.iload_n 2, 1) := by decide +kernel
theorem dX5_nextPlan_34 : decode cX5_nextPlan 34 = .ok (.iaload, 1) := by decide +kernel
theorem dX5_nextPlan_35 : decode cX5_nextPlan 35 = .ok (.iconst 1, 1) := by decide +kernel
theorem dX5_nextPlan_36 : decode cX5_nextPlan 36 = .ok (.isub, 1) := by decide +kernel
theorem dX5_nextPlan_37 : decode cX5_nextPlan 37 = .ok (.istore_n 3, 1) := by decide +kernel
theorem dX5_nextPlan_38 : decode cX5_nextPlan 38 = .ok (.aload_n 0, 1) := by decide +kernel
theorem dX5_nextPlan_39 : decode cX5_nextPlan 39 = .ok (.getfield 38, 3) := by decide +kernel
theorem dX5_nextPlan_42 : decode cX5_nextPlan 42 = .ok (.iload_n 2, 1) := by decide +kernel
theorem dX5_nextPlan_43 : decode cX5_nextPlan 43 = .ok (.iconst 0, 1) := by decide +kernel
theorem dX5_nextPlan_44 : decode cX5_nextPlan 44 = .ok (.iastore, 1) := by decide +kernel
theorem dX5_nextPlan_45 : decode cX5_nextPlan 45 = .ok (.aload_n 0, 1) := by decide +kernel
theorem dX5_nextPlan_46 : decode cX5_nextPlan 46 = .ok (.getfield 38, 3) := by decide +kernel
theorem dX5_nextPlan_49 : decode cX5_nextPlan 49 = .ok (.iload_n 2, 1) := by decide +kernel
theorem dX5_nextPlan_50 : decode cX5_nextPlan 50 = .ok (.iconst 1, 1) := by decide +kernel
theorem dX5_nextPlan_51 : decode cX5_nextPlan 51 = .ok (.isub, 1) := by decide +kernel
theorem dX5_nextPlan_52 : decode cX5_nextPlan 52 = .ok (.dup2, 1) := by decide +kernel
theorem dX5_nextPlan_53 : decode cX5_nextPlan 53 = .ok (.iaload, 1) := by decide +kernel
theorem dX5_nextPlan_54 : decode cX5_nextPlan 54 = .ok (.iconst 1, 1) := by decide +kernel
theorem dX5_nextPlan_55 : decode cX5_nextPlan 55 = .ok (.iadd, 1) := by decide +kernel
theorem dX5_nextPlan_56 : decode cX5_nextPlan 56 = .ok (.iastore, 1) := by decide +kernel
theorem dX5_nextPlan_57 : decode cX5_nextPlan 57 = .ok (.aload_n 0, 1) := by decide +kernel
theorem dX5_nextPlan_58 : decode cX5_nextPlan 58 = .ok (.getfield 38, 3) := by decide +kernel
theorem dX5_nextPlan_61 : decode cX5_nextPlan 61 = .ok (.iload_n 1, 1) := by decide +kernel
theorem dX5_nextPlan_62 : decode cX5_nextPlan 62 = .ok (.iconst 1, 1) := by decide +kernel
theorem dX5_nextPlan_63 : decode cX5_nextPlan 63 = .ok (.isub, 1) := by decide +kernel
theorem dX5_nextPlan_64 : decode cX5_nextPlan 64 = .ok (.iload_n 3, 1) := by decide +kernel
theorem dX5_nextPlan_65 : decode cX5_nextPlan 65 = .ok (.iastore, 1) := by decide +kernel
theorem dX5_nextPlan_66 : decode cX5_nextPlan 66 = .ok (.iconst 1, 1) := by decide +kernel
theorem dX5_nextPlan_67 : decode cX5_nextPlan 67 = .ok (.ireturn, 1) := by decide +kernel
theorem dX5_hire_0 : decode cX5_hire 0 = .ok (.iconst 0, 1) := by decide +kernel
theorem dX5_hire_1 : decode cX5_hire 1 = .ok (.istore 4, 2) := by decide +kernel
theorem dX5_hire_3 : decode cX5_hire 3 = .ok (.iload 4, 2) := by decide +kernel
theorem dX5_hire_5 : decode cX5_hire 5 = .ok (.bipush 9, 2) := by decide +kernel
theorem dX5_hire_7 : decode cX5_hire 7 = .ok (.if_icmp .gt 77, 3) := by decide +kernel
theorem dX5_hire_10 : decode cX5_hire 10 = .ok (.iconst 0, 1) := by decide +kernel
theorem dX5_hire_11 : decode cX5_hire 11 = .ok (.istore 5, 2) := by decide +kernel
theorem dX5_hire_13 : decode cX5_hire 13 = .ok (.iload 5, 2) := by decide +kernel
theorem dX5_hire_15 : decode cX5_hire 15 = .ok (.bipush 6, 2) := by decide +kernel
theorem dX5_hire_17 : decode cX5_hire 17 = .ok (.if_icmp .ge 17, 3) := by decide +kernel
theorem dX5_hire_20 : decode cX5_hire 20 = .ok (.aload_n 0, 1) := by decide +kernel
theorem dX5_hire_21 : decode cX5_hire 21 = .ok (.getfield 38, 3) := by decide +kernel
theorem dX5_hire_24 : decode cX5_hire 24 = .ok (.iload 5, 2) := by decide +kernel
theorem dX5_hire_26 : decode cX5_hire 26 = .ok (.iconst 0, 1) := by decide +kernel
theorem dX5_hire_27 : decode cX5_hire 27 = .ok (.iastore, 1) := by decide +kernel
theorem dX5_hire_28 : decode cX5_hire 28 = .ok (.iinc 5 1, 3) := by decide +kernel
theorem dX5_hire_31 : decode cX5_hire 31 = .ok (.goto (-18), 3) := by decide +kernel
theorem dX5_hire_34 : decode cX5_hire 34 = .ok (.iload_n 3, 1) := by decide +kernel
theorem dX5_hire_35 : decode cX5_hire 35 = .ok (.ifCond .le 13, 3) := by decide +kernel
theorem dX5_hire_38 : decode cX5_hire 38 = .ok (.aload_n 0, 1) := by decide +kernel
theorem dX5_hire_39 : decode cX5_hire 39 = .ok (.getfield 38, 3) := by decide +kernel
theorem dX5_hire_42 : decode cX5_hire 42 = .ok (.iload_n 3, 1) := by decide +kernel
theorem dX5_hire_43 : decode cX5_hire 43 = .ok (.iconst 1, 1) := by decide +kernel
theorem dX5_hire_44 : decode cX5_hire 44 = .ok (.isub, 1) := by decide +kernel
theorem dX5_hire_45 : decode cX5_hire 45 = .ok (.iload 4, 2) := by decide +kernel
theorem dX5_hire_47 : decode cX5_hire 47 = .ok (.iastore, 1) := by decide +kernel
theorem dX5_hire_48 : decode cX5_hire 48 = .ok (.iconst 1, 1) := by decide +kernel
theorem dX5_hire_49 : decode cX5_hire 49 = .ok (.istore 5, 2) := by decide +kernel
theorem dX5_hire_51 : decode cX5_hire 51 = .ok (.iload 5, 2) := by decide +kernel
theorem dX5_hire_53 : decode cX5_hire 53 = .ok (.ifCond .eq 25, 3) := by decide +kernel
theorem dX5_hire_56 : decode cX5_hire 56 = .ok (.aload_n 0, 1) := by decide +kernel
theorem dX5_hire_57 : decode cX5_hire 57 = .ok (.iload_n 1, 1) := by decide +kernel
theorem dX5_hire_58 : decode cX5_hire 58 = .ok (.iload_n 2, 1) := by decide +kernel
theorem dX5_hire_59 : decode cX5_hire 59 = .ok (.invokevirtual 152, 3) := by decide +kernel
theorem dX5_hire_62 : decode cX5_hire 62 = .ok (.ifCond .eq 6, 3) := by decide +kernel
theorem dX5_hire_65 : decode cX5_hire 65 = .ok (.iload 4, 2) := by decide +kernel
theorem dX5_hire_67 : decode cX5_hire 67 = .ok (.ireturn, 1) := by decide +kernel
theorem dX5_hire_68 : decode cX5_hire 68 = .ok (.aload_n 0, 1) := by decide +kernel
theorem dX5_hire_69 : decode cX5_hire 69 = .ok (.iload_n 3, 1) := by decide +kernel
theorem dX5_hire_70 : decode cX5_hire 70 = .ok (.invokevirtual 155, 3) := by decide +kernel
theorem dX5_hire_73 : decode cX5_hire 73 = .ok (.istore 5, 2) := by decide +kernel
theorem dX5_hire_75 : decode cX5_hire 75 = .ok (.goto (-24), 3) := by decide +kernel
theorem dX5_hire_78 : decode cX5_hire 78 = .ok (.iinc 4 1, 3) := by decide +kernel
theorem dX5_hire_81 : decode cX5_hire 81 = .ok (.goto (-78), 3) := by decide +kernel
theorem dX5_hire_84 : decode cX5_hire 84 = .ok (.bipush (-6), 2) := by decide +kernel
theorem dX5_hire_86 : decode cX5_hire 86 = .ok (.ireturn, 1) := by decide +kernel
theorem dX5_hired_0 : decode cX5_hired 0 = .ok (.iload_n 2, 1) := by decide +kernel
theorem dX5_hired_1 : decode cX5_hired 1 = .ok (.invokestatic 133, 3) := by decide +kernel
theorem dX5_hired_4 : decode cX5_hired 4 = .ok (.ifCond .ne 5, 3) := by decide +kernel
theorem dX5_hired_7 : decode cX5_hired 7 = .ok (.iconst (-1), 1) := by decide +kernel
theorem dX5_hired_8 : decode cX5_hired 8 = .ok (.ireturn, 1) := by decide +kernel
theorem dX5_hired_9 : decode cX5_hired 9 = .ok (.iload_n 1, 1) := by decide +kernel
theorem dX5_hired_10 : decode cX5_hired 10 = .ok (.i2l, 1) := by decide +kernel
theorem dX5_hired_11 : decode cX5_hired 11 = .ok (.lconst 1, 1) := by decide +kernel
theorem dX5_hired_12 : decode cX5_hired 12 = .ok (.ldc2_w 158, 3) := by decide +kernel
theorem dX5_hired_15 : decode cX5_hired 15 = .ok (.invokestatic 53, 3) := by decide +kernel
theorem dX5_hired_18 : decode cX5_hired 18 = .ok (.ifCond .ne 6, 3) := by decide +kernel
theorem dX5_hired_21 : decode cX5_hired 21 = .ok (.bipush (-2), 2) := by decide +kernel
theorem dX5_hired_23 : decode cX5_hired 23 = .ok (.ireturn, 1) := by decide +kernel
theorem dX5_hired_24 : decode cX5_hired 24 = .ok (.aload_n 0, 1) := by decide +kernel
theorem dX5_hired_25 : decode cX5_hired 25 = .ok (.invokevirtual 136, 3) := by decide +kernel
theorem dX5_hired_28 : decode cX5_hired 28 = .ok (.bipush (-6), 2) := by decide +kernel
theorem dX5_hired_30 : decode cX5_hired 30 = .ok (.if_icmp .eq 8, 3) := by decide +kernel
theorem dX5_hired_33 : decode cX5_hired 33 = .ok (.aload_n 0, 1) := by decide +kernel
theorem dX5_hired_34 : decode cX5_hired 34 = .ok (.invokevirtual 136, 3) := by decide +kernel
theorem dX5_hired_37 : decode cX5_hired 37 = .ok (.ireturn, 1) := by decide +kernel
theorem dX5_hired_38 : decode cX5_hired 38 = .ok (.aload_n 0, 1) := by decide +kernel
theorem dX5_hired_39 : decode cX5_hired 39 = .ok (.invokevirtual 113, 3) := by decide +kernel
theorem dX5_hired_42 : decode cX5_hired 42 = .ok (.aload_n 0, 1) := by decide +kernel
theorem dX5_hired_43 : decode cX5_hired 43 = .ok (.iload_n 1, 1) := by decide +kernel
theorem dX5_hired_44 : decode cX5_hired 44 = .ok (.invokevirtual 160, 3) := by decide +kernel
theorem dX5_hired_47 : decode cX5_hired 47 = .ok (.istore 4, 2) := by decide +kernel
theorem dX5_hired_49 : decode cX5_hired 49 = .ok (.iload 4, 2) := by decide +kernel
theorem dX5_hired_51 : decode cX5_hired 51 = .ok (.bipush 6, 2) := by decide +kernel
theorem dX5_hired_53 : decode cX5_hired 53 = .ok (.if_icmp .le 6, 3) := by decide +kernel
theorem dX5_hired_56 : decode cX5_hired 56 = .ok (.bipush (-4), 2) := by decide +kernel
theorem dX5_hired_58 : decode cX5_hired 58 = .ok (.ireturn, 1) := by decide +kernel
theorem dX5_hired_59 : decode cX5_hired 59 = .ok (.aload_n 0, 1) := by decide +kernel
theorem dX5_hired_60 : decode cX5_hired 60 = .ok (.iload_n 1, 1) := by decide +kernel
theorem dX5_hired_61 : decode cX5_hired 61 = .ok (.iload_n 2, 1) := by decide +kernel
theorem dX5_hired_62 : decode cX5_hired 62 = .ok (.iload 4, 2) := by decide +kernel
theorem dX5_hired_64 : decode cX5_hired 64 = .ok (.invokevirtual 163, 3) := by decide +kernel
theorem dX5_hired_67 : decode cX5_hired 67 = .ok (.istore 5, 2) := by decide +kernel
theorem dX5_hired_69 : decode cX5_hired 69 = .ok (.iload 5, 2) := by decide +kernel
theorem dX5_hired_71 : decode cX5_hired 71 = .ok (.ifCond .lt 8, 3) := by decide +kernel
theorem dX5_hired_74 : decode cX5_hired 74 = .ok (.iload_n 3, 1) := by decide +kernel
theorem dX5_hired_75 : decode cX5_hired 75 = .ok (.iconst (-1), 1) := by decide +kernel
theorem dX5_hired_76 : decode cX5_hired 76 = .ok (.if_icmp .ne 8, 3) := by decide +kernel
theorem dX5_hired_79 : decode cX5_hired 79 = .ok (.iload 5, 2) := by decide +kernel
theorem dX5_hired_81 : decode cX5_hired 81 = .ok (.goto 28, 3) := by decide +kernel
theorem dX5_hired_84 : decode cX5_hired 84 = .ok (.iload_n 3, 1) := by decide +kernel
theorem dX5_hired_85 : decode cX5_hired 85 = .ok (.i2l, 1) := by decide +kernel
theorem dX5_hired_86 : decode cX5_hired 86 = .ok (.lconst 0, 1) := by decide +kernel
theorem dX5_hired_87 : decode cX5_hired 87 = .ok (.iload 4, 2) := by decide +kernel
theorem dX5_hired_89 : decode cX5_hired 89 = .ok (.iconst 1, 1) := by decide +kernel
theorem dX5_hired_90 : decode cX5_hired 90 = .ok (.isub, 1) := by decide +kernel
theorem dX5_hired_91 : decode cX5_hired 91 = .ok (.i2l, 1) := by decide +kernel
theorem dX5_hired_92 : decode cX5_hired 92 = .ok (.invokestatic 53, 3) := by decide +kernel
theorem dX5_hired_95 : decode cX5_hired 95 = .ok (.ifCond .eq 12, 3) := by decide +kernel
theorem dX5_hired_98 : decode cX5_hired 98 = .ok (.aload_n 0, 1) := by decide +kernel
theorem dX5_hired_99 : decode cX5_hired 99 = .ok (.getfield 38, 3) := by decide +kernel
theorem dX5_hired_102 : decode cX5_hired 102 = .ok (.iload_n 3, 1) := by decide +kernel
theorem dX5_hired_103 : decode cX5_hired 103 = .ok (.iaload, 1) := by decide +kernel
theorem dX5_hired_104 : decode cX5_hired 104 = .ok (.goto 5, 3) := by decide +kernel
theorem dX5_hired_107 : decode cX5_hired 107 = .ok (.bipush (-6), 2) := by decide +kernel
theorem dX5_hired_109 : decode cX5_hired 109 = .ok (.ireturn, 1) := by decide +kernel
theorem dX5_findCross_0 : decode cX5_findCross 0 = .ok (.aload_n 0, 1) := by decide +kernel
theorem dX5_findCross_1 : decode cX5_findCross 1 = .ok (.bipush (-6), 2) := by decide +kernel
theorem dX5_findCross_3 : decode cX5_findCross 3 = .ok (.putfield 167, 3) := by decide +kernel
theorem dX5_findCross_6 : decode cX5_findCross 6 = .ok (.aload_n 0, 1) := by decide +kernel
theorem dX5_findCross_7 : decode cX5_findCross 7 = .ok (.iconst 0, 1) := by decide +kernel
theorem dX5_findCross_8 : decode cX5_findCross 8 = .ok (.putfield 170, 3) := by decide +kernel
theorem dX5_findCross_11 : decode cX5_findCross 11 = .ok (.aload_n 0, 1) := by decide +kernel
theorem dX5_findCross_12 : decode cX5_findCross 12 = .ok (.iconst 0, 1) := by decide +kernel
theorem dX5_findCross_13 : decode cX5_findCross 13 = .ok (.putfield 173, 3) := by decide +kernel
theorem dX5_findCross_16 : decode cX5_findCross 16 = .ok (.iconst 0, 1) := by decide +kernel
theorem dX5_findCross_17 : decode cX5_findCross 17 = .ok (.istore_n 2, 1) := by decide +kernel
theorem dX5_findCross_18 : decode cX5_findCross 18 = .ok (.iload_n 2, 1) := by decide +kernel
theorem dX5_findCross_19 : decode cX5_findCross 19 = .ok (.aload_n 0, 1) := by decide +kernel
theorem dX5_findCross_20 : decode cX5_findCross 20 = .ok (.getfield 68, 3) := by decide +kernel
theorem dX5_findCross_23 : decode cX5_findCross 23 = .ok (.if_icmp .gt 71, 3) := by decide +kernel
theorem dX5_findCross_26 : decode cX5_findCross 26 = .ok (.aload_n 0, 1) := by decide +kernel
theorem dX5_findCross_27 : decode cX5_findCross 27 = .ok (.iload_n 2, 1) := by decide +kernel
theorem dX5_findCross_28 : decode cX5_findCross 28 = .ok (.iload_n 1, 1) := by decide +kernel
theorem dX5_findCross_29 : decode cX5_findCross 29 = .ok (.invokevirtual 176, 3) := by decide +kernel
theorem dX5_findCross_32 : decode cX5_findCross 32 = .ok (.aload_n 0, 1) := by decide +kernel
theorem dX5_findCross_33 : decode cX5_findCross 33 = .ok (.invokevirtual 139, 3) := by decide +kernel
theorem dX5_findCross_36 : decode cX5_findCross 36 = .ok (.aload_n 0, 1) := by decide +kernel
theorem dX5_findCross_37 : decode cX5_findCross 37 = .ok (.iload_n 1, 1) := by decide +kernel
theorem dX5_findCross_38 : decode cX5_findCross 38 = .ok (.invokevirtual 142, 3) := by decide +kernel
theorem dX5_findCross_41 : decode cX5_findCross 41 = .ok (.invokestatic 179, 3) := by decide +kernel
theorem dX5_findCross_44 : decode cX5_findCross 44 = .ok (.istore_n 3, 1) := by decide +kernel
theorem dX5_findCross_45 : decode cX5_findCross 45 = .ok (.aload_n 0, 1) := by decide +kernel
theorem dX5_findCross_46 : decode cX5_findCross 46 = .ok (.dup, 1) := by decide +kernel
theorem dX5_findCross_47 : decode cX5_findCross 47 = .ok (.getfield 173, 3) := by decide +kernel
theorem dX5_findCross_50 : decode cX5_findCross 50 = .ok (.iload_n 3, 1) := by decide +kernel
theorem dX5_findCross_51 : decode cX5_findCross 51 = .ok (.ifCond .ne 7, 3) := by decide +kernel
theorem dX5_findCross_54 : decode cX5_findCross 54 = .ok (.iconst 1, 1) := by decide +kernel
theorem dX5_findCross_55 : decode cX5_findCross 55 = .ok (.goto 4, 3) := by decide +kernel
theorem dX5_findCross_58 : decode cX5_findCross 58 = .ok (.iconst 0, 1) := by decide +kernel
theorem dX5_findCross_59 : decode cX5_findCross 59 = .ok (.iadd, 1) := by decide +kernel
theorem dX5_findCross_60 : decode cX5_findCross 60 = .ok (.putfield 173, 3) := by decide +kernel
theorem dX5_findCross_63 : decode cX5_findCross 63 = .ok (.aload_n 0, 1) := by decide +kernel
theorem dX5_findCross_64 : decode cX5_findCross 64 = .ok (.getfield 167, 3) := by decide +kernel
theorem dX5_findCross_67 : decode cX5_findCross 67 = .ok (.ifCond .lt 11, 3) := by decide +kernel
theorem dX5_findCross_70 : decode cX5_findCross 70 = .ok (.iload_n 3, 1) := by decide +kernel
theorem dX5_findCross_71 : decode cX5_findCross 71 = .ok (.aload_n 0, 1) := by decide +kernel
theorem dX5_findCross_72 : decode cX5_findCross 72 = .ok (.getfield 170, 3) := by decide +kernel
theorem dX5_findCross_75 : decode cX5_findCross 75 = .ok (.if_icmp .ge 13, 3) := by decide +kernel
theorem dX5_findCross_78 : decode cX5_findCross 78 = .ok (.aload_n 0, 1) := by decide +kernel
theorem dX5_findCross_79 : decode cX5_findCross 79 = .ok (.iload_n 2, 1) := by decide +kernel
theorem dX5_findCross_80 : decode cX5_findCross 80 = .ok (.putfield 167, 3) := by decide +kernel
theorem dX5_findCross_83 : decode cX5_findCross 83 = .ok (.aload_n 0, 1) := by decide +kernel
theorem dX5_findCross_84 : decode cX5_findCross 84 = .ok (.iload_n 3, 1) := by decide +kernel
theorem dX5_findCross_85 : decode cX5_findCross 85 = .ok (.putfield 170, 3) := by decide +kernel
theorem dX5_findCross_88 : decode cX5_findCross 88 = .ok (.iinc 2 1, 3) := by decide +kernel
theorem dX5_findCross_91 : decode cX5_findCross 91 = .ok (.goto (-73), 3) := by decide +kernel
theorem dX5_findCross_94 : decode cX5_findCross 94 = .ok (.return_, 1) := by decide +kernel
theorem dX5_cross_0 : decode cX5_cross 0 = .ok (.iload_n 1, 1) := by decide +kernel
theorem dX5_cross_1 : decode cX5_cross 1 = .ok (.invokestatic 133, 3) := by decide +kernel
theorem dX5_cross_4 : decode cX5_cross 4 = .ok (.ifCond .ne 5, 3) := by decide +kernel
theorem dX5_cross_7 : decode cX5_cross 7 = .ok (.iconst (-1), 1) := by decide +kernel
theorem dX5_cross_8 : decode cX5_cross 8 = .ok (.ireturn, 1) := by decide +kernel
theorem dX5_cross_9 : decode cX5_cross 9 = .ok (.iload_n 2, 1) := by decide +kernel
theorem dX5_cross_10 : decode cX5_cross 10 = .ok (.i2l, 1) := by decide +kernel
theorem dX5_cross_11 : decode cX5_cross 11 = .ok (.lconst 0, 1) := by decide +kernel
theorem dX5_cross_12 : decode cX5_cross 12 = .ok (.lconst 1, 1) := by decide +kernel
theorem dX5_cross_13 : decode cX5_cross 13 = .ok (.invokestatic 53, 3) := by decide +kernel
theorem dX5_cross_16 : decode cX5_cross 16 = .ok (.ifCond .ne 6, 3) := by decide +kernel
theorem dX5_cross_19 : decode cX5_cross 19 = .ok (.bipush (-2), 2) := by decide +kernel
theorem dX5_cross_21 : decode cX5_cross 21 = .ok (.ireturn, 1) := by decide +kernel
theorem dX5_cross_22 : decode cX5_cross 22 = .ok (.aload_n 0, 1) := by decide +kernel
theorem dX5_cross_23 : decode cX5_cross 23 = .ok (.invokevirtual 136, 3) := by decide +kernel
theorem dX5_cross_26 : decode cX5_cross 26 = .ok (.bipush (-6), 2) := by decide +kernel
theorem dX5_cross_28 : decode cX5_cross 28 = .ok (.if_icmp .eq 8, 3) := by decide +kernel
theorem dX5_cross_31 : decode cX5_cross 31 = .ok (.aload_n 0, 1) := by decide +kernel
theorem dX5_cross_32 : decode cX5_cross 32 = .ok (.invokevirtual 136, 3) := by decide +kernel
theorem dX5_cross_35 : decode cX5_cross 35 = .ok (.ireturn, 1) := by decide +kernel
theorem dX5_cross_36 : decode cX5_cross 36 = .ok (.aload_n 0, 1) := by decide +kernel
theorem dX5_cross_37 : decode cX5_cross 37 = .ok (.getfield 68, 3) := by decide +kernel
theorem dX5_cross_40 : decode cX5_cross 40 = .ok (.bipush 40, 2) := by decide +kernel
theorem dX5_cross_42 : decode cX5_cross 42 = .ok (.if_icmp .ne 6, 3) := by decide +kernel
theorem dX5_cross_45 : decode cX5_cross 45 = .ok (.bipush (-4), 2) := by decide +kernel
theorem dX5_cross_47 : decode cX5_cross 47 = .ok (.ireturn, 1) := by decide +kernel
theorem dX5_cross_48 : decode cX5_cross 48 = .ok (.aload_n 0, 1) := by decide +kernel
theorem dX5_cross_49 : decode cX5_cross 49 = .ok (.iload_n 1, 1) := by decide +kernel
theorem dX5_cross_50 : decode cX5_cross 50 = .ok (.invokevirtual 182, 3) := by decide +kernel
theorem dX5_cross_53 : decode cX5_cross 53 = .ok (.iload_n 2, 1) := by decide +kernel
theorem dX5_cross_54 : decode cX5_cross 54 = .ok (.ifCond .ne 10, 3) := by decide +kernel
theorem dX5_cross_57 : decode cX5_cross 57 = .ok (.aload_n 0, 1) := by decide +kernel
theorem dX5_cross_58 : decode cX5_cross 58 = .ok (.getfield 167, 3) := by decide +kernel
theorem dX5_cross_61 : decode cX5_cross 61 = .ok (.goto 7, 3) := by decide +kernel
theorem dX5_cross_64 : decode cX5_cross 64 = .ok (.aload_n 0, 1) := by decide +kernel
theorem dX5_cross_65 : decode cX5_cross 65 = .ok (.getfield 170, 3) := by decide +kernel
theorem dX5_cross_68 : decode cX5_cross 68 = .ok (.ireturn, 1) := by decide +kernel
theorem dX5_unseen_0 : decode cX5_unseen 0 = .ok (.iload_n 1, 1) := by decide +kernel
theorem dX5_unseen_1 : decode cX5_unseen 1 = .ok (.invokestatic 133, 3) := by decide +kernel
theorem dX5_unseen_4 : decode cX5_unseen 4 = .ok (.ifCond .ne 5, 3) := by decide +kernel
theorem dX5_unseen_7 : decode cX5_unseen 7 = .ok (.iconst (-1), 1) := by decide +kernel
theorem dX5_unseen_8 : decode cX5_unseen 8 = .ok (.ireturn, 1) := by decide +kernel
theorem dX5_unseen_9 : decode cX5_unseen 9 = .ok (.aload_n 0, 1) := by decide +kernel
theorem dX5_unseen_10 : decode cX5_unseen 10 = .ok (.invokevirtual 136, 3) := by decide +kernel
theorem dX5_unseen_13 : decode cX5_unseen 13 = .ok (.bipush (-6), 2) := by decide +kernel
theorem dX5_unseen_15 : decode cX5_unseen 15 = .ok (.if_icmp .eq 8, 3) := by decide +kernel
theorem dX5_unseen_18 : decode cX5_unseen 18 = .ok (.aload_n 0, 1) := by decide +kernel
theorem dX5_unseen_19 : decode cX5_unseen 19 = .ok (.invokevirtual 136, 3) := by decide +kernel
theorem dX5_unseen_22 : decode cX5_unseen 22 = .ok (.ireturn, 1) := by decide +kernel
theorem dX5_unseen_23 : decode cX5_unseen 23 = .ok (.aload_n 0, 1) := by decide +kernel
theorem dX5_unseen_24 : decode cX5_unseen 24 = .ok (.getfield 68, 3) := by decide +kernel
theorem dX5_unseen_27 : decode cX5_unseen 27 = .ok (.bipush 40, 2) := by decide +kernel
theorem dX5_unseen_29 : decode cX5_unseen 29 = .ok (.if_icmp .ne 6, 3) := by decide +kernel
theorem dX5_unseen_32 : decode cX5_unseen 32 = .ok (.bipush (-4), 2) := by decide +kernel
theorem dX5_unseen_34 : decode cX5_unseen 34 = .ok (.ireturn, 1) := by decide +kernel
theorem dX5_unseen_35 : decode cX5_unseen 35 = .ok (.aload_n 0, 1) := by decide +kernel
theorem dX5_unseen_36 : decode cX5_unseen 36 = .ok (.iload_n 1, 1) := by decide +kernel
theorem dX5_unseen_37 : decode cX5_unseen 37 = .ok (.invokevirtual 182, 3) := by decide +kernel
theorem dX5_unseen_40 : decode cX5_unseen 40 = .ok (.aload_n 0, 1) := by decide +kernel
theorem dX5_unseen_41 : decode cX5_unseen 41 = .ok (.getfield 173, 3) := by decide +kernel
theorem dX5_unseen_44 : decode cX5_unseen 44 = .ok (.ireturn, 1) := by decide +kernel
theorem dX5_look_0 : decode cX5_look 0 = .ok (.iload_n 1, 1) := by decide +kernel
theorem dX5_look_1 : decode cX5_look 1 = .ok (.i2l, 1) := by decide +kernel
theorem dX5_look_2 : decode cX5_look 2 = .ok (.lconst 0, 1) := by decide +kernel
theorem dX5_look_3 : decode cX5_look 3 = .ok (.lconst 1, 1) := by decide +kernel
theorem dX5_look_4 : decode cX5_look 4 = .ok (.invokestatic 53, 3) := by decide +kernel
theorem dX5_look_7 : decode cX5_look 7 = .ok (.ifCond .ne 6, 3) := by decide +kernel
theorem dX5_look_10 : decode cX5_look 10 = .ok (.bipush (-2), 2) := by decide +kernel
theorem dX5_look_12 : decode cX5_look 12 = .ok (.ireturn, 1) := by decide +kernel
theorem dX5_look_13 : decode cX5_look 13 = .ok (.aload_n 0, 1) := by decide +kernel
theorem dX5_look_14 : decode cX5_look 14 = .ok (.invokevirtual 136, 3) := by decide +kernel
theorem dX5_look_17 : decode cX5_look 17 = .ok (.bipush (-6), 2) := by decide +kernel
theorem dX5_look_19 : decode cX5_look 19 = .ok (.if_icmp .eq 8, 3) := by decide +kernel
theorem dX5_look_22 : decode cX5_look 22 = .ok (.aload_n 0, 1) := by decide +kernel
theorem dX5_look_23 : decode cX5_look 23 = .ok (.invokevirtual 136, 3) := by decide +kernel
theorem dX5_look_26 : decode cX5_look 26 = .ok (.ireturn, 1) := by decide +kernel
theorem dX5_look_27 : decode cX5_look 27 = .ok (.aload_n 0, 1) := by decide +kernel
theorem dX5_look_28 : decode cX5_look 28 = .ok (.getfield 68, 3) := by decide +kernel
theorem dX5_look_31 : decode cX5_look 31 = .ok (.bipush 40, 2) := by decide +kernel
theorem dX5_look_33 : decode cX5_look 33 = .ok (.if_icmp .ne 6, 3) := by decide +kernel
theorem dX5_look_36 : decode cX5_look 36 = .ok (.bipush (-4), 2) := by decide +kernel
theorem dX5_look_38 : decode cX5_look 38 = .ok (.ireturn, 1) := by decide +kernel
theorem dX5_look_39 : decode cX5_look 39 = .ok (.bipush (-6), 2) := by decide +kernel
theorem dX5_look_41 : decode cX5_look 41 = .ok (.istore_n 2, 1) := by decide +kernel
theorem dX5_look_42 : decode cX5_look 42 = .ok (.iconst 0, 1) := by decide +kernel
theorem dX5_look_43 : decode cX5_look 43 = .ok (.istore_n 3, 1) := by decide +kernel
theorem dX5_look_44 : decode cX5_look 44 = .ok (.iconst 0, 1) := by decide +kernel
theorem dX5_look_45 : decode cX5_look 45 = .ok (.istore 4, 2) := by decide +kernel
theorem dX5_look_47 : decode cX5_look 47 = .ok (.iload 4, 2) := by decide +kernel
theorem dX5_look_49 : decode cX5_look 49 = .ok (.aload_n 0, 1) := by decide +kernel
theorem dX5_look_50 : decode cX5_look 50 = .ok (.getfield 68, 3) := by decide +kernel
theorem dX5_look_53 : decode cX5_look 53 = .ok (.if_icmp .gt 43, 3) := by decide +kernel
theorem dX5_look_56 : decode cX5_look 56 = .ok (.aload_n 0, 1) := by decide +kernel
theorem dX5_look_57 : decode cX5_look 57 = .ok (.iload 4, 2) := by decide +kernel
theorem dX5_look_59 : decode cX5_look 59 = .ok (.bipush 16, 2) := by decide +kernel
theorem dX5_look_61 : decode cX5_look 61 = .ok (.invokevirtual 176, 3) := by decide +kernel
theorem dX5_look_64 : decode cX5_look 64 = .ok (.aload_n 0, 1) := by decide +kernel
theorem dX5_look_65 : decode cX5_look 65 = .ok (.invokevirtual 139, 3) := by decide +kernel
theorem dX5_look_68 : decode cX5_look 68 = .ok (.aload_n 0, 1) := by decide +kernel
theorem dX5_look_69 : decode cX5_look 69 = .ok (.invokevirtual 145, 3) := by decide +kernel
theorem dX5_look_72 : decode cX5_look 72 = .ok (.istore 5, 2) := by decide +kernel
theorem dX5_look_74 : decode cX5_look 74 = .ok (.iload_n 2, 1) := by decide +kernel
theorem dX5_look_75 : decode cX5_look 75 = .ok (.ifCond .lt 9, 3) := by decide +kernel
theorem dX5_look_78 : decode cX5_look 78 = .ok (.iload 5, 2) := by decide +kernel
theorem dX5_look_80 : decode cX5_look 80 = .ok (.iload_n 3, 1) := by decide +kernel
theorem dX5_look_81 : decode cX5_look 81 = .ok (.if_icmp .ge 9, 3) := by decide +kernel
theorem dX5_look_84 : decode cX5_look 84 = .ok (.iload 4, 2) := by decide +kernel
theorem dX5_look_86 : decode cX5_look 86 = .ok (.istore_n 2, 1) := by decide +kernel
theorem dX5_look_87 : decode cX5_look 87 = .ok (.iload 5, 2) := by decide +kernel
theorem dX5_look_89 : decode cX5_look 89 = .ok (.istore_n 3, 1) := by decide +kernel
theorem dX5_look_90 : decode cX5_look 90 = .ok (.iinc 4 1, 3) := by decide +kernel
theorem dX5_look_93 : decode cX5_look 93 = .ok (.goto (-46), 3) := by decide +kernel
theorem dX5_look_96 : decode cX5_look 96 = .ok (.iload_n 1, 1) := by decide +kernel
theorem dX5_look_97 : decode cX5_look 97 = .ok (.ifCond .ne 7, 3) := by decide +kernel
theorem dX5_look_100 : decode cX5_look 100 = .ok (.iload_n 2, 1) := by decide +kernel
theorem dX5_look_101 : decode cX5_look 101 = .ok (.goto 4, 3) := by decide +kernel
theorem dX5_look_104 : decode cX5_look 104 = .ok (.iload_n 3, 1) := by decide +kernel
theorem dX5_look_105 : decode cX5_look 105 = .ok (.ireturn, 1) := by decide +kernel
theorem dX5_seesAll_0 : decode cX5_seesAll 0 = .ok (.aload_n 0, 1) := by decide +kernel
theorem dX5_seesAll_1 : decode cX5_seesAll 1 = .ok (.invokevirtual 116, 3) := by decide +kernel
theorem dX5_seesAll_4 : decode cX5_seesAll 4 = .ok (.iconst 0, 1) := by decide +kernel
theorem dX5_seesAll_5 : decode cX5_seesAll 5 = .ok (.istore_n 2, 1) := by decide +kernel
theorem dX5_seesAll_6 : decode cX5_seesAll 6 = .ok (.iconst 0, 1) := by decide +kernel
theorem dX5_seesAll_7 : decode cX5_seesAll 7 = .ok (.istore_n 3, 1) := by decide +kernel
theorem dX5_seesAll_8 : decode cX5_seesAll 8 = .ok (.iload_n 3, 1) := by decide +kernel
theorem dX5_seesAll_9 : decode cX5_seesAll 9 = .ok (.aload_n 0, 1) := by decide +kernel
theorem dX5_seesAll_10 : decode cX5_seesAll 10 = .ok (.getfield 110, 3) := by decide +kernel
theorem dX5_seesAll_13 : decode cX5_seesAll 13 = .ok (.if_icmp .ge 105, 3) := by decide +kernel
theorem dX5_seesAll_16 : decode cX5_seesAll 16 = .ok (.aload_n 0, 1) := by decide +kernel
theorem dX5_seesAll_17 : decode cX5_seesAll 17 = .ok (.getfield 34, 3) := by decide +kernel
theorem dX5_seesAll_20 : decode cX5_seesAll 20 = .ok (.iload_n 3, 1) := by decide +kernel
theorem dX5_seesAll_21 : decode cX5_seesAll 21 = .ok (.iconst 0, 1) := by decide +kernel
theorem dX5_seesAll_22 : decode cX5_seesAll 22 = .ok (.bastore, 1) := by decide +kernel
theorem dX5_seesAll_23 : decode cX5_seesAll 23 = .ok (.aload_n 0, 1) := by decide +kernel
theorem dX5_seesAll_24 : decode cX5_seesAll 24 = .ok (.getfield 28, 3) := by decide +kernel
theorem dX5_seesAll_27 : decode cX5_seesAll 27 = .ok (.iload_n 3, 1) := by decide +kernel
theorem dX5_seesAll_28 : decode cX5_seesAll 28 = .ok (.iaload, 1) := by decide +kernel
theorem dX5_seesAll_29 : decode cX5_seesAll 29 = .ok (.bipush 16, 2) := by decide +kernel
theorem dX5_seesAll_31 : decode cX5_seesAll 31 = .ok (.if_icmp .lt 7, 3) := by decide +kernel
theorem dX5_seesAll_34 : decode cX5_seesAll 34 = .ok (.iconst 1, 1) := by decide +kernel
theorem dX5_seesAll_35 : decode cX5_seesAll 35 = .ok (.goto 4, 3) := by decide +kernel
theorem dX5_seesAll_38 : decode cX5_seesAll 38 = .ok (.iconst 0, 1) := by decide +kernel
theorem dX5_seesAll_39 : decode cX5_seesAll 39 = .ok (.istore 4, 2) := by decide +kernel
theorem dX5_seesAll_41 : decode cX5_seesAll 41 = .ok (.iload 4, 2) := by decide +kernel
theorem dX5_seesAll_43 : decode cX5_seesAll 43 = .ok (.ifCond .ne 33, 3) := by decide +kernel
theorem dX5_seesAll_46 : decode cX5_seesAll 46 = .ok (.aload_n 0, 1) := by decide +kernel
theorem dX5_seesAll_47 : decode cX5_seesAll 47 = .ok (.aload_n 0, 1) := by decide +kernel
theorem dX5_seesAll_48 : decode cX5_seesAll 48 = .ok (.getfield 28, 3) := by decide +kernel
theorem dX5_seesAll_51 : decode cX5_seesAll 51 = .ok (.iload_n 3, 1) := by decide +kernel
theorem dX5_seesAll_52 : decode cX5_seesAll 52 = .ok (.iaload, 1) := by decide +kernel
theorem dX5_seesAll_53 : decode cX5_seesAll 53 = .ok (.iload_n 3, 1) := by decide +kernel
theorem dX5_seesAll_54 : decode cX5_seesAll 54 = .ok (.invokevirtual 119, 3) := by decide +kernel
theorem dX5_seesAll_57 : decode cX5_seesAll 57 = .ok (.iload_n 1, 1) := by decide +kernel
theorem dX5_seesAll_58 : decode cX5_seesAll 58 = .ok (.iload_n 2, 1) := by decide +kernel
theorem dX5_seesAll_59 : decode cX5_seesAll 59 = .ok (.ishr, 1) := by decide +kernel
theorem dX5_seesAll_60 : decode cX5_seesAll 60 = .ok (.iconst 1, 1) := by decide +kernel
theorem dX5_seesAll_61 : decode cX5_seesAll 61 = .ok (.iand, 1) := by decide +kernel
theorem dX5_seesAll_62 : decode cX5_seesAll 62 = .ok (.iconst 1, 1) := by decide +kernel
theorem dX5_seesAll_63 : decode cX5_seesAll 63 = .ok (.if_icmp .ne 7, 3) := by decide +kernel
theorem dX5_seesAll_66 : decode cX5_seesAll 66 = .ok (.iconst 1, 1) := by decide +kernel
theorem dX5_seesAll_67 : decode cX5_seesAll 67 = .ok (.goto 4, 3) := by decide +kernel
theorem dX5_seesAll_70 : decode cX5_seesAll 70 = .ok (.iconst 0, 1) := by decide +kernel
theorem dX5_seesAll_71 : decode cX5_seesAll 71 = .ok (.istore 4, 2) := by decide +kernel
theorem dX5_seesAll_73 : decode cX5_seesAll 73 = .ok (.iinc 2 1, 3) := by decide +kernel
theorem dX5_seesAll_76 : decode cX5_seesAll 76 = .ok (.iconst 0, 1) := by decide +kernel
theorem dX5_seesAll_77 : decode cX5_seesAll 77 = .ok (.istore 5, 2) := by decide +kernel
theorem dX5_seesAll_79 : decode cX5_seesAll 79 = .ok (.iload 5, 2) := by decide +kernel
theorem dX5_seesAll_81 : decode cX5_seesAll 81 = .ok (.aload_n 0, 1) := by decide +kernel
theorem dX5_seesAll_82 : decode cX5_seesAll 82 = .ok (.getfield 94, 3) := by decide +kernel
theorem dX5_seesAll_85 : decode cX5_seesAll 85 = .ok (.if_icmp .ge 27, 3) := by decide +kernel
theorem dX5_seesAll_88 : decode cX5_seesAll 88 = .ok (.iload 4, 2) := by decide +kernel
theorem dX5_seesAll_90 : decode cX5_seesAll 90 = .ok (.ifCond .eq 22, 3) := by decide +kernel
theorem dX5_seesAll_93 : decode cX5_seesAll 93 = .ok (.aload_n 0, 1) := by decide +kernel
theorem dX5_seesAll_94 : decode cX5_seesAll 94 = .ok (.getfield 34, 3) := by decide +kernel
theorem dX5_seesAll_97 : decode cX5_seesAll 97 = .ok (.aload_n 0, 1) := by decide +kernel
theorem dX5_seesAll_98 : decode cX5_seesAll 98 = .ok (.getfield 25, 3) := by decide +kernel
theorem dX5_seesAll_101 : decode cX5_seesAll 101 = .ok (.iload 5, 2) := by decide +kernel
theorem dX5_seesAll_103 : decode cX5_seesAll 103 = .ok (.iaload, 1) := by decide +kernel
theorem dX5_seesAll_104 : decode cX5_seesAll 104 = .ok (.iconst 1, 1) := by decide +kernel
theorem dX5_seesAll_105 : decode cX5_seesAll 105 = .ok (.bastore, 1) := by decide +kernel
theorem dX5_seesAll_106 : decode cX5_seesAll 106 = .ok (.iinc 5 1, 3) := by decide +kernel
theorem dX5_seesAll_109 : decode cX5_seesAll 109 = .ok (.goto (-30), 3) := by decide +kernel
theorem dX5_seesAll_112 : decode cX5_seesAll 112 = .ok (.iinc 3 1, 3) := by decide +kernel
theorem dX5_seesAll_115 : decode cX5_seesAll 115 = .ok (.goto (-107), 3) := by decide +kernel
theorem dX5_seesAll_118 : decode cX5_seesAll 118 = .ok (.aload_n 0, 1) := by decide +kernel
theorem dX5_seesAll_119 : decode cX5_seesAll 119 = .ok (.invokevirtual 145, 3) := by decide +kernel
theorem dX5_seesAll_122 : decode cX5_seesAll 122 = .ok (.ifCond .ne 7, 3) := by decide +kernel
theorem dX5_seesAll_125 : decode cX5_seesAll 125 = .ok (.iconst 1, 1) := by decide +kernel
theorem dX5_seesAll_126 : decode cX5_seesAll 126 = .ok (.goto 4, 3) := by decide +kernel
theorem dX5_seesAll_129 : decode cX5_seesAll 129 = .ok (.iconst 0, 1) := by decide +kernel
theorem dX5_seesAll_130 : decode cX5_seesAll 130 = .ok (.ireturn, 1) := by decide +kernel
theorem dX5_looks_0 : decode cX5_looks 0 = .ok (.iload_n 1, 1) := by decide +kernel
theorem dX5_looks_1 : decode cX5_looks 1 = .ok (.i2l, 1) := by decide +kernel
theorem dX5_looks_2 : decode cX5_looks 2 = .ok (.lconst 0, 1) := by decide +kernel
theorem dX5_looks_3 : decode cX5_looks 3 = .ok (.lconst 1, 1) := by decide +kernel
theorem dX5_looks_4 : decode cX5_looks 4 = .ok (.invokestatic 53, 3) := by decide +kernel
theorem dX5_looks_7 : decode cX5_looks 7 = .ok (.ifCond .ne 6, 3) := by decide +kernel
theorem dX5_looks_10 : decode cX5_looks 10 = .ok (.bipush (-2), 2) := by decide +kernel
theorem dX5_looks_12 : decode cX5_looks 12 = .ok (.ireturn, 1) := by decide +kernel
theorem dX5_looks_13 : decode cX5_looks 13 = .ok (.aload_n 0, 1) := by decide +kernel
theorem dX5_looks_14 : decode cX5_looks 14 = .ok (.invokevirtual 136, 3) := by decide +kernel
theorem dX5_looks_17 : decode cX5_looks 17 = .ok (.bipush (-6), 2) := by decide +kernel
theorem dX5_looks_19 : decode cX5_looks 19 = .ok (.if_icmp .eq 8, 3) := by decide +kernel
theorem dX5_looks_22 : decode cX5_looks 22 = .ok (.aload_n 0, 1) := by decide +kernel
theorem dX5_looks_23 : decode cX5_looks 23 = .ok (.invokevirtual 136, 3) := by decide +kernel
theorem dX5_looks_26 : decode cX5_looks 26 = .ok (.ireturn, 1) := by decide +kernel
theorem dX5_looks_27 : decode cX5_looks 27 = .ok (.aload_n 0, 1) := by decide +kernel
theorem dX5_looks_28 : decode cX5_looks 28 = .ok (.invokevirtual 113, 3) := by decide +kernel
theorem dX5_looks_31 : decode cX5_looks 31 = .ok (.iconst 0, 1) := by decide +kernel
theorem dX5_looks_32 : decode cX5_looks 32 = .ok (.istore_n 2, 1) := by decide +kernel
theorem dX5_looks_33 : decode cX5_looks 33 = .ok (.iconst 0, 1) := by decide +kernel
theorem dX5_looks_34 : decode cX5_looks 34 = .ok (.istore_n 3, 1) := by decide +kernel
theorem dX5_looks_35 : decode cX5_looks 35 = .ok (.iload_n 3, 1) := by decide +kernel
theorem dX5_looks_36 : decode cX5_looks 36 = .ok (.aload_n 0, 1) := by decide +kernel
theorem dX5_looks_37 : decode cX5_looks 37 = .ok (.getfield 110, 3) := by decide +kernel
theorem dX5_looks_40 : decode cX5_looks 40 = .ok (.if_icmp .ge 28, 3) := by decide +kernel
theorem dX5_looks_43 : decode cX5_looks 43 = .ok (.iload_n 2, 1) := by decide +kernel
theorem dX5_looks_44 : decode cX5_looks 44 = .ok (.aload_n 0, 1) := by decide +kernel
theorem dX5_looks_45 : decode cX5_looks 45 = .ok (.getfield 28, 3) := by decide +kernel
theorem dX5_looks_48 : decode cX5_looks 48 = .ok (.iload_n 3, 1) := by decide +kernel
theorem dX5_looks_49 : decode cX5_looks 49 = .ok (.iaload, 1) := by decide +kernel
theorem dX5_looks_50 : decode cX5_looks 50 = .ok (.bipush 16, 2) := by decide +kernel
theorem dX5_looks_52 : decode cX5_looks 52 = .ok (.if_icmp .ge 7, 3) := by decide +kernel
theorem dX5_looks_55 : decode cX5_looks 55 = .ok (.iconst 1, 1) := by decide +kernel
theorem dX5_looks_56 : decode cX5_looks 56 = .ok (.goto 4, 3) := by decide +kernel
theorem dX5_looks_59 : decode cX5_looks 59 = .ok (.iconst 0, 1) := by decide +kernel
theorem dX5_looks_60 : decode cX5_looks 60 = .ok (.iadd, 1) := by decide +kernel
theorem dX5_looks_61 : decode cX5_looks 61 = .ok (.istore_n 2, 1) := by decide +kernel
theorem dX5_looks_62 : decode cX5_looks 62 = .ok (.iinc 3 1, 3) := by decide +kernel
theorem dX5_looks_65 : decode cX5_looks 65 = .ok (.goto (-30), 3) := by decide +kernel
theorem dX5_looks_68 : decode cX5_looks 68 = .ok (.iload_n 2, 1) := by decide +kernel
theorem dX5_looks_69 : decode cX5_looks 69 = .ok (.bipush 12, 2) := by decide +kernel
theorem dX5_looks_71 : decode cX5_looks 71 = .ok (.if_icmp .le 6, 3) := by decide +kernel
theorem dX5_looks_74 : decode cX5_looks 74 = .ok (.bipush (-4), 2) := by decide +kernel
theorem dX5_looks_76 : decode cX5_looks 76 = .ok (.ireturn, 1) := by decide +kernel
theorem dX5_looks_77 : decode cX5_looks 77 = .ok (.bipush (-6), 2) := by decide +kernel
theorem dX5_looks_79 : decode cX5_looks 79 = .ok (.istore_n 3, 1) := by decide +kernel
theorem dX5_looks_80 : decode cX5_looks 80 = .ok (.iconst 0, 1) := by decide +kernel
theorem dX5_looks_81 : decode cX5_looks 81 = .ok (.istore 4, 2) := by decide +kernel
theorem dX5_looks_83 : decode cX5_looks 83 = .ok (.iload 4, 2) := by decide +kernel
theorem dX5_looks_85 : decode cX5_looks 85 = .ok (.iconst 1, 1) := by decide +kernel
theorem dX5_looks_86 : decode cX5_looks 86 = .ok (.iload_n 2, 1) := by decide +kernel
theorem dX5_looks_87 : decode cX5_looks 87 = .ok (.ishl, 1) := by decide +kernel
theorem dX5_looks_88 : decode cX5_looks 88 = .ok (.if_icmp .ge 53, 3) := by decide +kernel
theorem dX5_looks_91 : decode cX5_looks 91 = .ok (.iload_n 3, 1) := by decide +kernel
theorem dX5_looks_92 : decode cX5_looks 92 = .ok (.ifCond .lt 15, 3) := by decide +kernel
theorem dX5_looks_95 : decode cX5_looks 95 = .ok (.iload 4, 2) := by decide +kernel
theorem dX5_looks_97 : decode cX5_looks 97 = .ok (.invokestatic 179, 3) := by decide +kernel
theorem dX5_looks_100 : decode cX5_looks 100 = .ok (.iload_n 3, 1) := by decide +kernel
theorem dX5_looks_101 : decode cX5_looks 101 = .ok (.invokestatic 179, 3) := by decide +kernel
theorem dX5_looks_104 : decode cX5_looks 104 = .ok (.if_icmp .ge 7, 3) := by decide +kernel
theorem dX5_looks_107 : decode cX5_looks 107 = .ok (.iconst 1, 1) := by decide +kernel
theorem dX5_looks_108 : decode cX5_looks 108 = .ok (.goto 4, 3) := by decide +kernel
theorem dX5_looks_111 : decode cX5_looks 111 = .ok (.iconst 0, 1) := by decide +kernel
theorem dX5_looks_112 : decode cX5_looks 112 = .ok (.istore 5, 2) := by decide +kernel
theorem dX5_looks_114 : decode cX5_looks 114 = .ok (.iload 5, 2) := by decide +kernel
theorem dX5_looks_116 : decode cX5_looks 116 = .ok (.ifCond .eq 17, 3) := by decide +kernel
theorem dX5_looks_119 : decode cX5_looks 119 = .ok (.aload_n 0, 1) := by decide +kernel
theorem dX5_looks_120 : decode cX5_looks 120 = .ok (.iload 4, 2) := by decide +kernel
theorem dX5_looks_122 : decode cX5_looks 122 = .ok (.invokevirtual 185, 3) := by decide +kernel
theorem dX5_looks_125 : decode cX5_looks 125 = .ok (.ifCond .eq 8, 3) := by decide +kernel
theorem dX5_looks_128 : decode cX5_looks 128 = .ok (.iload 4, 2) := by decide +kernel
theorem dX5_looks_130 : decode cX5_looks 130 = .ok (.goto 4, 3) := by decide +kernel
theorem dX5_looks_133 : decode cX5_looks 133 = .ok (.iload_n 3, 1) := by decide +kernel
theorem dX5_looks_134 : decode cX5_looks 134 = .ok (.istore_n 3, 1) := by decide +kernel
theorem dX5_looks_135 : decode cX5_looks 135 = .ok (.iinc 4 1, 3) := by decide +kernel
theorem dX5_looks_138 : decode cX5_looks 138 = .ok (.goto (-55), 3) := by decide +kernel
theorem dX5_looks_141 : decode cX5_looks 141 = .ok (.iload_n 3, 1) := by decide +kernel
theorem dX5_looks_142 : decode cX5_looks 142 = .ok (.ifCond .ge 8, 3) := by decide +kernel
theorem dX5_looks_145 : decode cX5_looks 145 = .ok (.bipush (-6), 2) := by decide +kernel
theorem dX5_looks_147 : decode cX5_looks 147 = .ok (.goto 15, 3) := by decide +kernel
theorem dX5_looks_150 : decode cX5_looks 150 = .ok (.iload_n 1, 1) := by decide +kernel
theorem dX5_looks_151 : decode cX5_looks 151 = .ok (.ifCond .ne 10, 3) := by decide +kernel
theorem dX5_looks_154 : decode cX5_looks 154 = .ok (.iload_n 3, 1) := by decide +kernel
theorem dX5_looks_155 : decode cX5_looks 155 = .ok (.invokestatic 179, 3) := by decide +kernel
theorem dX5_looks_158 : decode cX5_looks 158 = .ok (.goto 4, 3) := by decide +kernel
theorem dX5_looks_161 : decode cX5_looks 161 = .ok (.iload_n 3, 1) := by decide +kernel
theorem dX5_looks_162 : decode cX5_looks 162 = .ok (.ireturn, 1) := by decide +kernel
theorem dX5_best_0 : decode cX5_best 0 = .ok (.iload_n 1, 1) := by decide +kernel
theorem dX5_best_1 : decode cX5_best 1 = .ok (.i2l, 1) := by decide +kernel
theorem dX5_best_2 : decode cX5_best 2 = .ok (.lconst 0, 1) := by decide +kernel
theorem dX5_best_3 : decode cX5_best 3 = .ok (.lconst 1, 1) := by decide +kernel
theorem dX5_best_4 : decode cX5_best 4 = .ok (.invokestatic 53, 3) := by decide +kernel
theorem dX5_best_7 : decode cX5_best 7 = .ok (.ifCond .ne 6, 3) := by decide +kernel
theorem dX5_best_10 : decode cX5_best 10 = .ok (.bipush (-2), 2) := by decide +kernel
theorem dX5_best_12 : decode cX5_best 12 = .ok (.ireturn, 1) := by decide +kernel
theorem dX5_best_13 : decode cX5_best 13 = .ok (.aload_n 0, 1) := by decide +kernel
theorem dX5_best_14 : decode cX5_best 14 = .ok (.invokevirtual 136, 3) := by decide +kernel
theorem dX5_best_17 : decode cX5_best 17 = .ok (.bipush (-6), 2) := by decide +kernel
theorem dX5_best_19 : decode cX5_best 19 = .ok (.if_icmp .eq 8, 3) := by decide +kernel
theorem dX5_best_22 : decode cX5_best 22 = .ok (.aload_n 0, 1) := by decide +kernel
theorem dX5_best_23 : decode cX5_best 23 = .ok (.invokevirtual 136, 3) := by decide +kernel
theorem dX5_best_26 : decode cX5_best 26 = .ok (.ireturn, 1) := by decide +kernel
theorem dX5_best_27 : decode cX5_best 27 = .ok (.aload_n 0, 1) := by decide +kernel
theorem dX5_best_28 : decode cX5_best 28 = .ok (.invokevirtual 113, 3) := by decide +kernel
theorem dX5_best_31 : decode cX5_best 31 = .ok (.aload_n 0, 1) := by decide +kernel
theorem dX5_best_32 : decode cX5_best 32 = .ok (.getfield 47, 3) := by decide +kernel
theorem dX5_best_35 : decode cX5_best 35 = .ok (.istore_n 2, 1) := by decide +kernel
theorem dX5_best_36 : decode cX5_best 36 = .ok (.bipush (-6), 2) := by decide +kernel
theorem dX5_best_38 : decode cX5_best 38 = .ok (.istore_n 3, 1) := by decide +kernel
theorem dX5_best_39 : decode cX5_best 39 = .ok (.iconst 0, 1) := by decide +kernel
theorem dX5_best_40 : decode cX5_best 40 = .ok (.istore 4, 2) := by decide +kernel
theorem dX5_best_42 : decode cX5_best 42 = .ok (.iconst 1, 1) := by decide +kernel
theorem dX5_best_43 : decode cX5_best 43 = .ok (.istore 5, 2) := by decide +kernel
theorem dX5_best_45 : decode cX5_best 45 = .ok (.iload 5, 2) := by decide +kernel
theorem dX5_best_47 : decode cX5_best 47 = .ok (.bipush 9, 2) := by decide +kernel
theorem dX5_best_49 : decode cX5_best 49 = .ok (.if_icmp .gt 43, 3) := by decide +kernel
theorem dX5_best_52 : decode cX5_best 52 = .ok (.aload_n 0, 1) := by decide +kernel
theorem dX5_best_53 : decode cX5_best 53 = .ok (.iload 5, 2) := by decide +kernel
theorem dX5_best_55 : decode cX5_best 55 = .ok (.putfield 47, 3) := by decide +kernel
theorem dX5_best_58 : decode cX5_best 58 = .ok (.aload_n 0, 1) := by decide +kernel
theorem dX5_best_59 : decode cX5_best 59 = .ok (.invokevirtual 139, 3) := by decide +kernel
theorem dX5_best_62 : decode cX5_best 62 = .ok (.aload_n 0, 1) := by decide +kernel
theorem dX5_best_63 : decode cX5_best 63 = .ok (.invokevirtual 145, 3) := by decide +kernel
theorem dX5_best_66 : decode cX5_best 66 = .ok (.istore 6, 2) := by decide +kernel
theorem dX5_best_68 : decode cX5_best 68 = .ok (.iload_n 3, 1) := by decide +kernel
theorem dX5_best_69 : decode cX5_best 69 = .ok (.ifCond .lt 10, 3) := by decide +kernel
theorem dX5_best_72 : decode cX5_best 72 = .ok (.iload 6, 2) := by decide +kernel
theorem dX5_best_74 : decode cX5_best 74 = .ok (.iload 4, 2) := by decide +kernel
theorem dX5_best_76 : decode cX5_best 76 = .ok (.if_icmp .ge 10, 3) := by decide +kernel
theorem dX5_best_79 : decode cX5_best 79 = .ok (.iload 5, 2) := by decide +kernel
theorem dX5_best_81 : decode cX5_best 81 = .ok (.istore_n 3, 1) := by decide +kernel
theorem dX5_best_82 : decode cX5_best 82 = .ok (.iload 6, 2) := by decide +kernel
theorem dX5_best_84 : decode cX5_best 84 = .ok (.istore 4, 2) := by decide +kernel
theorem dX5_best_86 : decode cX5_best 86 = .ok (.iinc 5 1, 3) := by decide +kernel
theorem dX5_best_89 : decode cX5_best 89 = .ok (.goto (-44), 3) := by decide +kernel
theorem dX5_best_92 : decode cX5_best 92 = .ok (.aload_n 0, 1) := by decide +kernel
theorem dX5_best_93 : decode cX5_best 93 = .ok (.iload_n 2, 1) := by decide +kernel
theorem dX5_best_94 : decode cX5_best 94 = .ok (.putfield 47, 3) := by decide +kernel
theorem dX5_best_97 : decode cX5_best 97 = .ok (.iload_n 1, 1) := by decide +kernel
theorem dX5_best_98 : decode cX5_best 98 = .ok (.ifCond .ne 7, 3) := by decide +kernel
theorem dX5_best_101 : decode cX5_best 101 = .ok (.iload_n 3, 1) := by decide +kernel
theorem dX5_best_102 : decode cX5_best 102 = .ok (.goto 5, 3) := by decide +kernel
theorem dX5_best_105 : decode cX5_best 105 = .ok (.iload 4, 2) := by decide +kernel
theorem dX5_best_107 : decode cX5_best 107 = .ok (.ireturn, 1) := by decide +kernel
theorem dX5_stood_0 : decode cX5_stood 0 = .ok (.iload_n 1, 1) := by decide +kernel
theorem dX5_stood_1 : decode cX5_stood 1 = .ok (.i2l, 1) := by decide +kernel
theorem dX5_stood_2 : decode cX5_stood 2 = .ok (.lconst 1, 1) := by decide +kernel
theorem dX5_stood_3 : decode cX5_stood 3 = .ok (.ldc2_w 57, 3) := by decide +kernel
theorem dX5_stood_6 : decode cX5_stood 6 = .ok (.invokestatic 53, 3) := by decide +kernel
theorem dX5_stood_9 : decode cX5_stood 9 = .ok (.ifCond .ne 6, 3) := by decide +kernel
theorem dX5_stood_12 : decode cX5_stood 12 = .ok (.bipush (-2), 2) := by decide +kernel
theorem dX5_stood_14 : decode cX5_stood 14 = .ok (.ireturn, 1) := by decide +kernel
theorem dX5_stood_15 : decode cX5_stood 15 = .ok (.aload_n 0, 1) := by decide +kernel
theorem dX5_stood_16 : decode cX5_stood 16 = .ok (.invokevirtual 136, 3) := by decide +kernel
theorem dX5_stood_19 : decode cX5_stood 19 = .ok (.bipush (-6), 2) := by decide +kernel
theorem dX5_stood_21 : decode cX5_stood 21 = .ok (.if_icmp .eq 8, 3) := by decide +kernel
theorem dX5_stood_24 : decode cX5_stood 24 = .ok (.aload_n 0, 1) := by decide +kernel
theorem dX5_stood_25 : decode cX5_stood 25 = .ok (.invokevirtual 136, 3) := by decide +kernel
theorem dX5_stood_28 : decode cX5_stood 28 = .ok (.ireturn, 1) := by decide +kernel
theorem dX5_stood_29 : decode cX5_stood 29 = .ok (.aload_n 0, 1) := by decide +kernel
theorem dX5_stood_30 : decode cX5_stood 30 = .ok (.invokevirtual 113, 3) := by decide +kernel
theorem dX5_stood_33 : decode cX5_stood 33 = .ok (.aload_n 0, 1) := by decide +kernel
theorem dX5_stood_34 : decode cX5_stood 34 = .ok (.getfield 47, 3) := by decide +kernel
theorem dX5_stood_37 : decode cX5_stood 37 = .ok (.istore_n 2, 1) := by decide +kernel
theorem dX5_stood_38 : decode cX5_stood 38 = .ok (.aload_n 0, 1) := by decide +kernel
theorem dX5_stood_39 : decode cX5_stood 39 = .ok (.iload_n 1, 1) := by decide +kernel
theorem dX5_stood_40 : decode cX5_stood 40 = .ok (.putfield 47, 3) := by decide +kernel
theorem dX5_stood_43 : decode cX5_stood 43 = .ok (.aload_n 0, 1) := by decide +kernel
theorem dX5_stood_44 : decode cX5_stood 44 = .ok (.aload_n 0, 1) := by decide +kernel
theorem dX5_stood_45 : decode cX5_stood 45 = .ok (.getfield 110, 3) := by decide +kernel
theorem dX5_stood_48 : decode cX5_stood 48 = .ok (.invokevirtual 127, 3) := by decide +kernel
theorem dX5_stood_51 : decode cX5_stood 51 = .ok (.aload_n 0, 1) := by decide +kernel
theorem dX5_stood_52 : decode cX5_stood 52 = .ok (.iload_n 2, 1) := by decide +kernel
theorem dX5_stood_53 : decode cX5_stood 53 = .ok (.putfield 47, 3) := by decide +kernel
theorem dX5_stood_56 : decode cX5_stood 56 = .ok (.aload_n 0, 1) := by decide +kernel
theorem dX5_stood_57 : decode cX5_stood 57 = .ok (.invokevirtual 130, 3) := by decide +kernel
theorem dX5_stood_60 : decode cX5_stood 60 = .ok (.ireturn, 1) := by decide +kernel
theorem dX5_sight_0 : decode cX5_sight 0 = .ok (.iload_n 2, 1) := by decide +kernel
theorem dX5_sight_1 : decode cX5_sight 1 = .ok (.invokestatic 133, 3) := by decide +kernel
theorem dX5_sight_4 : decode cX5_sight 4 = .ok (.ifCond .ne 5, 3) := by decide +kernel
theorem dX5_sight_7 : decode cX5_sight 7 = .ok (.iconst (-1), 1) := by decide +kernel
theorem dX5_sight_8 : decode cX5_sight 8 = .ok (.ireturn, 1) := by decide +kernel
theorem dX5_sight_9 : decode cX5_sight 9 = .ok (.iload_n 1, 1) := by decide +kernel
theorem dX5_sight_10 : decode cX5_sight 10 = .ok (.i2l, 1) := by decide +kernel
theorem dX5_sight_11 : decode cX5_sight 11 = .ok (.lconst 0, 1) := by decide +kernel
theorem dX5_sight_12 : decode cX5_sight 12 = .ok (.ldc2_w 188, 3) := by decide +kernel
theorem dX5_sight_15 : decode cX5_sight 15 = .ok (.invokestatic 53, 3) := by decide +kernel
theorem dX5_sight_18 : decode cX5_sight 18 = .ok (.ifCond .ne 6, 3) := by decide +kernel
theorem dX5_sight_21 : decode cX5_sight 21 = .ok (.bipush (-2), 2) := by decide +kernel
theorem dX5_sight_23 : decode cX5_sight 23 = .ok (.ireturn, 1) := by decide +kernel
theorem dX5_sight_24 : decode cX5_sight 24 = .ok (.aload_n 0, 1) := by decide +kernel
theorem dX5_sight_25 : decode cX5_sight 25 = .ok (.getfield 190, 3) := by decide +kernel
theorem dX5_sight_28 : decode cX5_sight 28 = .ok (.bipush 6, 2) := by decide +kernel
theorem dX5_sight_30 : decode cX5_sight 30 = .ok (.if_icmp .ne 6, 3) := by decide +kernel
theorem dX5_sight_33 : decode cX5_sight 33 = .ok (.bipush (-4), 2) := by decide +kernel
theorem dX5_sight_35 : decode cX5_sight 35 = .ok (.ireturn, 1) := by decide +kernel
theorem dX5_sight_36 : decode cX5_sight 36 = .ok (.aload_n 0, 1) := by decide +kernel
theorem dX5_sight_37 : decode cX5_sight 37 = .ok (.getfield 7, 3) := by decide +kernel
theorem dX5_sight_40 : decode cX5_sight 40 = .ok (.aload_n 0, 1) := by decide +kernel
theorem dX5_sight_41 : decode cX5_sight 41 = .ok (.getfield 190, 3) := by decide +kernel
theorem dX5_sight_44 : decode cX5_sight 44 = .ok (.iload_n 1, 1) := by decide +kernel
theorem dX5_sight_45 : decode cX5_sight 45 = .ok (.iastore, 1) := by decide +kernel
theorem dX5_sight_46 : decode cX5_sight 46 = .ok (.aload_n 0, 1) := by decide +kernel
theorem dX5_sight_47 : decode cX5_sight 47 = .ok (.getfield 13, 3) := by decide +kernel
theorem dX5_sight_50 : decode cX5_sight 50 = .ok (.aload_n 0, 1) := by decide +kernel
theorem dX5_sight_51 : decode cX5_sight 51 = .ok (.getfield 190, 3) := by decide +kernel
theorem dX5_sight_54 : decode cX5_sight 54 = .ok (.iload_n 2, 1) := by decide +kernel
theorem dX5_sight_55 : decode cX5_sight 55 = .ok (.iastore, 1) := by decide +kernel
theorem dX5_sight_56 : decode cX5_sight 56 = .ok (.aload_n 0, 1) := by decide +kernel
theorem dX5_sight_57 : decode cX5_sight 57 = .ok (.getfield 16, 3) := by decide +kernel
theorem dX5_sight_60 : decode cX5_sight 60 = .ok (.aload_n 0, 1) := by decide +kernel
theorem dX5_sight_61 : decode cX5_sight 61 = .ok (.getfield 190, 3) := by decide +kernel
theorem dX5_sight_64 : decode cX5_sight 64 = .ok (.iload_n 3, 1) := by decide +kernel
theorem dX5_sight_65 : decode cX5_sight 65 = .ok (.ifCond .eq 7, 3) := by decide +kernel
theorem dX5_sight_68 : decode cX5_sight 68 = .ok (.iconst 1, 1) := by decide +kernel
theorem dX5_sight_69 : decode cX5_sight 69 = .ok (.goto 4, 3) := by decide +kernel
theorem dX5_sight_72 : decode cX5_sight 72 = .ok (.iconst 0, 1) := by decide +kernel
theorem dX5_sight_73 : decode cX5_sight 73 = .ok (.iastore, 1) := by decide +kernel
theorem dX5_sight_74 : decode cX5_sight 74 = .ok (.aload_n 0, 1) := by decide +kernel
theorem dX5_sight_75 : decode cX5_sight 75 = .ok (.dup, 1) := by decide +kernel
theorem dX5_sight_76 : decode cX5_sight 76 = .ok (.getfield 190, 3) := by decide +kernel
theorem dX5_sight_79 : decode cX5_sight 79 = .ok (.iconst 1, 1) := by decide +kernel
theorem dX5_sight_80 : decode cX5_sight 80 = .ok (.iadd, 1) := by decide +kernel
theorem dX5_sight_81 : decode cX5_sight 81 = .ok (.putfield 190, 3) := by decide +kernel
theorem dX5_sight_84 : decode cX5_sight 84 = .ok (.aload_n 0, 1) := by decide +kernel
theorem dX5_sight_85 : decode cX5_sight 85 = .ok (.getfield 190, 3) := by decide +kernel
theorem dX5_sight_88 : decode cX5_sight 88 = .ok (.ireturn, 1) := by decide +kernel
theorem dX5_forget_0 : decode cX5_forget 0 = .ok (.aload_n 0, 1) := by decide +kernel
theorem dX5_forget_1 : decode cX5_forget 1 = .ok (.getfield 190, 3) := by decide +kernel
theorem dX5_forget_4 : decode cX5_forget 4 = .ok (.istore_n 1, 1) := by decide +kernel
theorem dX5_forget_5 : decode cX5_forget 5 = .ok (.aload_n 0, 1) := by decide +kernel
theorem dX5_forget_6 : decode cX5_forget 6 = .ok (.iconst 0, 1) := by decide +kernel
theorem dX5_forget_7 : decode cX5_forget 7 = .ok (.putfield 190, 3) := by decide +kernel
theorem dX5_forget_10 : decode cX5_forget 10 = .ok (.iload_n 1, 1) := by decide +kernel
theorem dX5_forget_11 : decode cX5_forget 11 = .ok (.ireturn, 1) := by decide +kernel
theorem dX5_fitsAt_0 : decode cX5_fitsAt 0 = .ok (.aload_n 0, 1) := by decide +kernel
theorem dX5_fitsAt_1 : decode cX5_fitsAt 1 = .ok (.invokevirtual 130, 3) := by decide +kernel
theorem dX5_fitsAt_4 : decode cX5_fitsAt 4 = .ok (.istore_n 2, 1) := by decide +kernel
theorem dX5_fitsAt_5 : decode cX5_fitsAt 5 = .ok (.iconst 1, 1) := by decide +kernel
theorem dX5_fitsAt_6 : decode cX5_fitsAt 6 = .ok (.istore_n 3, 1) := by decide +kernel
theorem dX5_fitsAt_7 : decode cX5_fitsAt 7 = .ok (.iconst 0, 1) := by decide +kernel
theorem dX5_fitsAt_8 : decode cX5_fitsAt 8 = .ok (.istore 4, 2) := by decide +kernel
theorem dX5_fitsAt_10 : decode cX5_fitsAt 10 = .ok (.iload 4, 2) := by decide +kernel
theorem dX5_fitsAt_12 : decode cX5_fitsAt 12 = .ok (.aload_n 0, 1) := by decide +kernel
theorem dX5_fitsAt_13 : decode cX5_fitsAt 13 = .ok (.getfield 190, 3) := by decide +kernel
theorem dX5_fitsAt_16 : decode cX5_fitsAt 16 = .ok (.if_icmp .ge 51, 3) := by decide +kernel
theorem dX5_fitsAt_19 : decode cX5_fitsAt 19 = .ok (.iload_n 3, 1) := by decide +kernel
theorem dX5_fitsAt_20 : decode cX5_fitsAt 20 = .ok (.ifCond .eq 39, 3) := by decide +kernel
theorem dX5_fitsAt_23 : decode cX5_fitsAt 23 = .ok (.aload_n 0, 1) := by decide +kernel
theorem dX5_fitsAt_24 : decode cX5_fitsAt 24 = .ok (.getfield 7, 3) := by decide +kernel
theorem dX5_fitsAt_27 : decode cX5_fitsAt 27 = .ok (.iload 4, 2) := by decide +kernel
theorem dX5_fitsAt_29 : decode cX5_fitsAt 29 = .ok (.iaload, 1) := by decide +kernel
theorem dX5_fitsAt_30 : decode cX5_fitsAt 30 = .ok (.iload_n 1, 1) := by decide +kernel
theorem dX5_fitsAt_31 : decode cX5_fitsAt 31 = .ok (.if_icmp .ne 24, 3) := by decide +kernel
theorem dX5_fitsAt_34 : decode cX5_fitsAt 34 = .ok (.iload_n 2, 1) := by decide +kernel
theorem dX5_fitsAt_35 : decode cX5_fitsAt 35 = .ok (.aload_n 0, 1) := by decide +kernel
theorem dX5_fitsAt_36 : decode cX5_fitsAt 36 = .ok (.getfield 13, 3) := by decide +kernel
theorem dX5_fitsAt_39 : decode cX5_fitsAt 39 = .ok (.iload 4, 2) := by decide +kernel
theorem dX5_fitsAt_41 : decode cX5_fitsAt 41 = .ok (.iaload, 1) := by decide +kernel
theorem dX5_fitsAt_42 : decode cX5_fitsAt 42 = .ok (.ishr, 1) := by decide +kernel
theorem dX5_fitsAt_43 : decode cX5_fitsAt 43 = .ok (.iconst 1, 1) := by decide +kernel
theorem dX5_fitsAt_44 : decode cX5_fitsAt 44 = .ok (.iand, 1) := by decide +kernel
theorem dX5_fitsAt_45 : decode cX5_fitsAt 45 = .ok (.aload_n 0, 1) := by decide +kernel
theorem dX5_fitsAt_46 : decode cX5_fitsAt 46 = .ok (.getfield 16, 3) := by decide +kernel
theorem dX5_fitsAt_49 : decode cX5_fitsAt 49 = .ok (.iload 4, 2) := by decide +kernel
theorem dX5_fitsAt_51 : decode cX5_fitsAt 51 = .ok (.iaload, 1) := by decide +kernel
theorem dX5_fitsAt_52 : decode cX5_fitsAt 52 = .ok (.if_icmp .ne 7, 3) := by decide +kernel
theorem dX5_fitsAt_55 : decode cX5_fitsAt 55 = .ok (.iconst 1, 1) := by decide +kernel
theorem dX5_fitsAt_56 : decode cX5_fitsAt 56 = .ok (.goto 4, 3) := by decide +kernel
theorem dX5_fitsAt_59 : decode cX5_fitsAt 59 = .ok (.iconst 0, 1) := by decide +kernel
theorem dX5_fitsAt_60 : decode cX5_fitsAt 60 = .ok (.istore_n 3, 1) := by decide +kernel
theorem dX5_fitsAt_61 : decode cX5_fitsAt 61 = .ok (.iinc 4 1, 3) := by decide +kernel
theorem dX5_fitsAt_64 : decode cX5_fitsAt 64 = .ok (.goto (-54), 3) := by decide +kernel
theorem dX5_fitsAt_67 : decode cX5_fitsAt 67 = .ok (.iload_n 3, 1) := by decide +kernel
theorem dX5_fitsAt_68 : decode cX5_fitsAt 68 = .ok (.ireturn, 1) := by decide +kernel
theorem dX5_holds_0 : decode cX5_holds 0 = .ok (.aload_n 0, 1) := by decide +kernel
theorem dX5_holds_1 : decode cX5_holds 1 = .ok (.invokevirtual 113, 3) := by decide +kernel
theorem dX5_holds_4 : decode cX5_holds 4 = .ok (.iload_n 1, 1) := by decide +kernel
theorem dX5_holds_5 : decode cX5_holds 5 = .ok (.istore_n 2, 1) := by decide +kernel
theorem dX5_holds_6 : decode cX5_holds 6 = .ok (.aload_n 0, 1) := by decide +kernel
theorem dX5_holds_7 : decode cX5_holds 7 = .ok (.getfield 110, 3) := by decide +kernel
theorem dX5_holds_10 : decode cX5_holds 10 = .ok (.iconst 1, 1) := by decide +kernel
theorem dX5_holds_11 : decode cX5_holds 11 = .ok (.isub, 1) := by decide +kernel
theorem dX5_holds_12 : decode cX5_holds 12 = .ok (.istore_n 3, 1) := by decide +kernel
theorem dX5_holds_13 : decode cX5_holds 13 = .ok (.iload_n 3, 1) := by decide +kernel
theorem dX5_holds_14 : decode cX5_holds 14 = .ok (.ifCond .lt 35, 3) := by decide +kernel
theorem dX5_holds_17 : decode cX5_holds 17 = .ok (.aload_n 0, 1) := by decide +kernel
theorem dX5_holds_18 : decode cX5_holds 18 = .ok (.getfield 19, 3) := by decide +kernel
theorem dX5_holds_21 : decode cX5_holds 21 = .ok (.iload_n 3, 1) := by decide +kernel
theorem dX5_holds_22 : decode cX5_holds 22 = .ok (.iaload, 1) := by decide +kernel
theorem dX5_holds_23 : decode cX5_holds 23 = .ok (.bipush 63, 2) := by decide +kernel
theorem dX5_holds_25 : decode cX5_holds 25 = .ok (.if_icmp .ne 18, 3) := by decide +kernel
theorem dX5_holds_28 : decode cX5_holds 28 = .ok (.aload_n 0, 1) := by decide +kernel
theorem dX5_holds_29 : decode cX5_holds 29 = .ok (.getfield 28, 3) := by decide +kernel
theorem dX5_holds_32 : decode cX5_holds 32 = .ok (.iload_n 3, 1) := by decide +kernel
theorem dX5_holds_33 : decode cX5_holds 33 = .ok (.iload_n 2, 1) := by decide +kernel
theorem dX5_holds_34 : decode cX5_holds 34 = .ok (.bipush 8, 2) := by decide +kernel
theorem dX5_holds_36 : decode cX5_holds 36 = .ok (.irem, 1) := by decide +kernel
theorem dX5_holds_37 : decode cX5_holds 37 = .ok (.iastore, 1) := by decide +kernel
theorem dX5_holds_38 : decode cX5_holds 38 = .ok (.iload_n 2, 1) := by decide +kernel
theorem dX5_holds_39 : decode cX5_holds 39 = .ok (.bipush 8, 2) := by decide +kernel
theorem dX5_holds_41 : decode cX5_holds 41 = .ok (.idiv, 1) := by decide +kernel
theorem dX5_holds_42 : decode cX5_holds 42 = .ok (.istore_n 2, 1) := by decide +kernel
theorem dX5_holds_43 : decode cX5_holds 43 = .ok (.iinc 3 (-1), 3) := by decide +kernel
theorem dX5_holds_46 : decode cX5_holds 46 = .ok (.goto (-33), 3) := by decide +kernel
theorem dX5_holds_49 : decode cX5_holds 49 = .ok (.aload_n 0, 1) := by decide +kernel
theorem dX5_holds_50 : decode cX5_holds 50 = .ok (.invokevirtual 116, 3) := by decide +kernel
theorem dX5_holds_53 : decode cX5_holds 53 = .ok (.aload_n 0, 1) := by decide +kernel
theorem dX5_holds_54 : decode cX5_holds 54 = .ok (.iconst 0, 1) := by decide +kernel
theorem dX5_holds_55 : decode cX5_holds 55 = .ok (.invokevirtual 193, 3) := by decide +kernel
theorem dX5_holds_58 : decode cX5_holds 58 = .ok (.istore_n 3, 1) := by decide +kernel
theorem dX5_holds_59 : decode cX5_holds 59 = .ok (.iconst 0, 1) := by decide +kernel
theorem dX5_holds_60 : decode cX5_holds 60 = .ok (.istore 4, 2) := by decide +kernel
theorem dX5_holds_62 : decode cX5_holds 62 = .ok (.iload 4, 2) := by decide +kernel
theorem dX5_holds_64 : decode cX5_holds 64 = .ok (.aload_n 0, 1) := by decide +kernel
theorem dX5_holds_65 : decode cX5_holds 65 = .ok (.getfield 110, 3) := by decide +kernel
theorem dX5_holds_68 : decode cX5_holds 68 = .ok (.if_icmp .ge 47, 3) := by decide +kernel
theorem dX5_holds_71 : decode cX5_holds 71 = .ok (.iload_n 3, 1) := by decide +kernel
theorem dX5_holds_72 : decode cX5_holds 72 = .ok (.ifCond .eq 43, 3) := by decide +kernel
theorem dX5_holds_75 : decode cX5_holds 75 = .ok (.aload_n 0, 1) := by decide +kernel
theorem dX5_holds_76 : decode cX5_holds 76 = .ok (.getfield 28, 3) := by decide +kernel
theorem dX5_holds_79 : decode cX5_holds 79 = .ok (.iload 4, 2) := by decide +kernel
theorem dX5_holds_81 : decode cX5_holds 81 = .ok (.iaload, 1) := by decide +kernel
theorem dX5_holds_82 : decode cX5_holds 82 = .ok (.bipush 16, 2) := by decide +kernel
theorem dX5_holds_84 : decode cX5_holds 84 = .ok (.if_icmp .ge 16, 3) := by decide +kernel
theorem dX5_holds_87 : decode cX5_holds 87 = .ok (.aload_n 0, 1) := by decide +kernel
theorem dX5_holds_88 : decode cX5_holds 88 = .ok (.aload_n 0, 1) := by decide +kernel
theorem dX5_holds_89 : decode cX5_holds 89 = .ok (.getfield 28, 3) := by decide +kernel
theorem dX5_holds_92 : decode cX5_holds 92 = .ok (.iload 4, 2) := by decide +kernel
theorem dX5_holds_94 : decode cX5_holds 94 = .ok (.iaload, 1) := by decide +kernel
theorem dX5_holds_95 : decode cX5_holds 95 = .ok (.iload 4, 2) := by decide +kernel
theorem dX5_holds_97 : decode cX5_holds 97 = .ok (.invokevirtual 119, 3) := by decide +kernel
theorem dX5_holds_100 : decode cX5_holds 100 = .ok (.aload_n 0, 1) := by decide +kernel
theorem dX5_holds_101 : decode cX5_holds 101 = .ok (.iload 4, 2) := by decide +kernel
theorem dX5_holds_103 : decode cX5_holds 103 = .ok (.iconst 1, 1) := by decide +kernel
theorem dX5_holds_104 : decode cX5_holds 104 = .ok (.iadd, 1) := by decide +kernel
theorem dX5_holds_105 : decode cX5_holds 105 = .ok (.invokevirtual 193, 3) := by decide +kernel
theorem dX5_holds_108 : decode cX5_holds 108 = .ok (.istore_n 3, 1) := by decide +kernel
theorem dX5_holds_109 : decode cX5_holds 109 = .ok (.iinc 4 1, 3) := by decide +kernel
theorem dX5_holds_112 : decode cX5_holds 112 = .ok (.goto (-50), 3) := by decide +kernel
theorem dX5_holds_115 : decode cX5_holds 115 = .ok (.iload_n 3, 1) := by decide +kernel
theorem dX5_holds_116 : decode cX5_holds 116 = .ok (.ireturn, 1) := by decide +kernel
theorem dX5_ways_0 : decode cX5_ways 0 = .ok (.iconst 1, 1) := by decide +kernel
theorem dX5_ways_1 : decode cX5_ways 1 = .ok (.iconst 3, 1) := by decide +kernel
theorem dX5_ways_2 : decode cX5_ways 2 = .ok (.aload_n 0, 1) := by decide +kernel
theorem dX5_ways_3 : decode cX5_ways 3 = .ok (.aload_n 0, 1) := by decide +kernel
theorem dX5_ways_4 : decode cX5_ways 4 = .ok (.getfield 68, 3) := by decide +kernel
theorem dX5_ways_7 : decode cX5_ways 7 = .ok (.invokevirtual 90, 3) := by decide +kernel
theorem dX5_ways_10 : decode cX5_ways 10 = .ok (.imul, 1) := by decide +kernel
theorem dX5_ways_11 : decode cX5_ways 11 = .ok (.ishl, 1) := by decide +kernel
theorem dX5_ways_12 : decode cX5_ways 12 = .ok (.ireturn, 1) := by decide +kernel
theorem dX5_filledAt_0 : decode cX5_filledAt 0 = .ok (.iconst 0, 1) := by decide +kernel
theorem dX5_filledAt_1 : decode cX5_filledAt 1 = .ok (.istore_n 2, 1) := by decide +kernel
theorem dX5_filledAt_2 : decode cX5_filledAt 2 = .ok (.iconst 0, 1) := by decide +kernel
theorem dX5_filledAt_3 : decode cX5_filledAt 3 = .ok (.istore_n 3, 1) := by decide +kernel
theorem dX5_filledAt_4 : decode cX5_filledAt 4 = .ok (.iload_n 3, 1) := by decide +kernel
theorem dX5_filledAt_5 : decode cX5_filledAt 5 = .ok (.aload_n 0, 1) := by decide +kernel
theorem dX5_filledAt_6 : decode cX5_filledAt 6 = .ok (.getfield 68, 3) := by decide +kernel
theorem dX5_filledAt_9 : decode cX5_filledAt 9 = .ok (.if_icmp .ge 35, 3) := by decide +kernel
theorem dX5_filledAt_12 : decode cX5_filledAt 12 = .ok (.aload_n 0, 1) := by decide +kernel
theorem dX5_filledAt_13 : decode cX5_filledAt 13 = .ok (.getfield 19, 3) := by decide +kernel
theorem dX5_filledAt_16 : decode cX5_filledAt 16 = .ok (.iload_n 3, 1) := by decide +kernel
theorem dX5_filledAt_17 : decode cX5_filledAt 17 = .ok (.iaload, 1) := by decide +kernel
theorem dX5_filledAt_18 : decode cX5_filledAt 18 = .ok (.bipush 63, 2) := by decide +kernel
theorem dX5_filledAt_20 : decode cX5_filledAt 20 = .ok (.if_icmp .ne 18, 3) := by decide +kernel
theorem dX5_filledAt_23 : decode cX5_filledAt 23 = .ok (.iload_n 2, 1) := by decide +kernel
theorem dX5_filledAt_24 : decode cX5_filledAt 24 = .ok (.iload_n 1, 1) := by decide +kernel
theorem dX5_filledAt_25 : decode cX5_filledAt 25 = .ok (.if_icmp .ne 10, 3) := by decide +kernel
theorem dX5_filledAt_28 : decode cX5_filledAt 28 = .ok (.aload_n 0, 1) := by decide +kernel
theorem dX5_filledAt_29 : decode cX5_filledAt 29 = .ok (.getfield 28, 3) := by decide +kernel
theorem dX5_filledAt_32 : decode cX5_filledAt 32 = .ok (.iload_n 3, 1) := by decide +kernel
theorem dX5_filledAt_33 : decode cX5_filledAt 33 = .ok (.iaload, 1) := by decide +kernel
theorem dX5_filledAt_34 : decode cX5_filledAt 34 = .ok (.ireturn, 1) := by decide +kernel
theorem dX5_filledAt_35 : decode cX5_filledAt 35 = .ok (.iinc 2 1, 3) := by decide +kernel
theorem dX5_filledAt_38 : decode cX5_filledAt 38 = .ok (.iinc 3 1, 3) := by decide +kernel
theorem dX5_filledAt_41 : decode cX5_filledAt 41 = .ok (.goto (-37), 3) := by decide +kernel
theorem dX5_filledAt_44 : decode cX5_filledAt 44 = .ok (.bipush (-6), 2) := by decide +kernel
theorem dX5_filledAt_46 : decode cX5_filledAt 46 = .ok (.ireturn, 1) := by decide +kernel
theorem dX5_fits_0 : decode cX5_fits 0 = .ok (.aload_n 0, 1) := by decide +kernel
theorem dX5_fits_1 : decode cX5_fits 1 = .ok (.invokevirtual 86, 3) := by decide +kernel
theorem dX5_fits_4 : decode cX5_fits 4 = .ok (.ifCond .lt 6, 3) := by decide +kernel
theorem dX5_fits_7 : decode cX5_fits 7 = .ok (.bipush (-5), 2) := by decide +kernel
theorem dX5_fits_9 : decode cX5_fits 9 = .ok (.ireturn, 1) := by decide +kernel
theorem dX5_fits_10 : decode cX5_fits 10 = .ok (.iconst 0, 1) := by decide +kernel
theorem dX5_fits_11 : decode cX5_fits 11 = .ok (.istore_n 2, 1) := by decide +kernel
theorem dX5_fits_12 : decode cX5_fits 12 = .ok (.aload_n 0, 1) := by decide +kernel
theorem dX5_fits_13 : decode cX5_fits 13 = .ok (.invokevirtual 196, 3) := by decide +kernel
theorem dX5_fits_16 : decode cX5_fits 16 = .ok (.istore_n 3, 1) := by decide +kernel
theorem dX5_fits_17 : decode cX5_fits 17 = .ok (.iconst 0, 1) := by decide +kernel
theorem dX5_fits_18 : decode cX5_fits 18 = .ok (.istore 4, 2) := by decide +kernel
theorem dX5_fits_20 : decode cX5_fits 20 = .ok (.iload 4, 2) := by decide +kernel
theorem dX5_fits_22 : decode cX5_fits 22 = .ok (.iload_n 3, 1) := by decide +kernel
theorem dX5_fits_23 : decode cX5_fits 23 = .ok (.if_icmp .ge 32, 3) := by decide +kernel
theorem dX5_fits_26 : decode cX5_fits 26 = .ok (.aload_n 0, 1) := by decide +kernel
theorem dX5_fits_27 : decode cX5_fits 27 = .ok (.iload 4, 2) := by decide +kernel
theorem dX5_fits_29 : decode cX5_fits 29 = .ok (.invokevirtual 199, 3) := by decide +kernel
theorem dX5_fits_32 : decode cX5_fits 32 = .ok (.ifCond .eq 17, 3) := by decide +kernel
theorem dX5_fits_35 : decode cX5_fits 35 = .ok (.iload_n 1, 1) := by decide +kernel
theorem dX5_fits_36 : decode cX5_fits 36 = .ok (.iconst (-1), 1) := by decide +kernel
theorem dX5_fits_37 : decode cX5_fits 37 = .ok (.if_icmp .eq 9, 3) := by decide +kernel
theorem dX5_fits_40 : decode cX5_fits 40 = .ok (.aload_n 0, 1) := by decide +kernel
theorem dX5_fits_41 : decode cX5_fits 41 = .ok (.iload_n 1, 1) := by decide +kernel
theorem dX5_fits_42 : decode cX5_fits 42 = .ok (.invokevirtual 202, 3) := by decide +kernel
theorem dX5_fits_45 : decode cX5_fits 45 = .ok (.ireturn, 1) := by decide +kernel
theorem dX5_fits_46 : decode cX5_fits 46 = .ok (.iinc 2 1, 3) := by decide +kernel
theorem dX5_fits_49 : decode cX5_fits 49 = .ok (.iinc 4 1, 3) := by decide +kernel
theorem dX5_fits_52 : decode cX5_fits 52 = .ok (.goto (-32), 3) := by decide +kernel
theorem dX5_fits_55 : decode cX5_fits 55 = .ok (.iload_n 1, 1) := by decide +kernel
theorem dX5_fits_56 : decode cX5_fits 56 = .ok (.iconst (-1), 1) := by decide +kernel
theorem dX5_fits_57 : decode cX5_fits 57 = .ok (.if_icmp .ne 7, 3) := by decide +kernel
theorem dX5_fits_60 : decode cX5_fits 60 = .ok (.iload_n 2, 1) := by decide +kernel
theorem dX5_fits_61 : decode cX5_fits 61 = .ok (.goto 5, 3) := by decide +kernel
theorem dX5_fits_64 : decode cX5_fits 64 = .ok (.bipush (-6), 2) := by decide +kernel
theorem dX5_fits_66 : decode cX5_fits 66 = .ok (.ireturn, 1) := by decide +kernel
theorem dX5_could_0 : decode cX5_could 0 = .ok (.aload_n 0, 1) := by decide +kernel
theorem dX5_could_1 : decode cX5_could 1 = .ok (.invokevirtual 86, 3) := by decide +kernel
theorem dX5_could_4 : decode cX5_could 4 = .ok (.ifCond .lt 6, 3) := by decide +kernel
theorem dX5_could_7 : decode cX5_could 7 = .ok (.bipush (-5), 2) := by decide +kernel
theorem dX5_could_9 : decode cX5_could 9 = .ok (.ireturn, 1) := by decide +kernel
theorem dX5_could_10 : decode cX5_could 10 = .ok (.iload_n 1, 1) := by decide +kernel
theorem dX5_could_11 : decode cX5_could 11 = .ok (.i2l, 1) := by decide +kernel
theorem dX5_could_12 : decode cX5_could 12 = .ok (.lconst 0, 1) := by decide +kernel
theorem dX5_could_13 : decode cX5_could 13 = .ok (.aload_n 0, 1) := by decide +kernel
theorem dX5_could_14 : decode cX5_could 14 = .ok (.aload_n 0, 1) := by decide +kernel
theorem dX5_could_15 : decode cX5_could 15 = .ok (.getfield 68, 3) := by decide +kernel
theorem dX5_could_18 : decode cX5_could 18 = .ok (.invokevirtual 90, 3) := by decide +kernel
theorem dX5_could_21 : decode cX5_could 21 = .ok (.iconst 1, 1) := by decide +kernel
theorem dX5_could_22 : decode cX5_could 22 = .ok (.isub, 1) := by decide +kernel
theorem dX5_could_23 : decode cX5_could 23 = .ok (.i2l, 1) := by decide +kernel
theorem dX5_could_24 : decode cX5_could 24 = .ok (.invokestatic 53, 3) := by decide +kernel
theorem dX5_could_27 : decode cX5_could 27 = .ok (.ifCond .ne 6, 3) := by decide +kernel
theorem dX5_could_30 : decode cX5_could 30 = .ok (.bipush (-6), 2) := by decide +kernel
theorem dX5_could_32 : decode cX5_could 32 = .ok (.ireturn, 1) := by decide +kernel
theorem dX5_could_33 : decode cX5_could 33 = .ok (.iconst 0, 1) := by decide +kernel
theorem dX5_could_34 : decode cX5_could 34 = .ok (.istore_n 2, 1) := by decide +kernel
theorem dX5_could_35 : decode cX5_could 35 = .ok (.aload_n 0, 1) := by decide +kernel
theorem dX5_could_36 : decode cX5_could 36 = .ok (.invokevirtual 196, 3) := by decide +kernel
theorem dX5_could_39 : decode cX5_could 39 = .ok (.istore_n 3, 1) := by decide +kernel
theorem dX5_could_40 : decode cX5_could 40 = .ok (.iconst 0, 1) := by decide +kernel
theorem dX5_could_41 : decode cX5_could 41 = .ok (.istore 4, 2) := by decide +kernel
theorem dX5_could_43 : decode cX5_could 43 = .ok (.iload 4, 2) := by decide +kernel
theorem dX5_could_45 : decode cX5_could 45 = .ok (.iload_n 3, 1) := by decide +kernel
theorem dX5_could_46 : decode cX5_could 46 = .ok (.if_icmp .ge 32, 3) := by decide +kernel
theorem dX5_could_49 : decode cX5_could 49 = .ok (.iload_n 2, 1) := by decide +kernel
theorem dX5_could_50 : decode cX5_could 50 = .ok (.aload_n 0, 1) := by decide +kernel
theorem dX5_could_51 : decode cX5_could 51 = .ok (.iload 4, 2) := by decide +kernel
theorem dX5_could_53 : decode cX5_could 53 = .ok (.invokevirtual 199, 3) := by decide +kernel
theorem dX5_could_56 : decode cX5_could 56 = .ok (.ifCond .eq 13, 3) := by decide +kernel
theorem dX5_could_59 : decode cX5_could 59 = .ok (.iconst 1, 1) := by decide +kernel
theorem dX5_could_60 : decode cX5_could 60 = .ok (.aload_n 0, 1) := by decide +kernel
theorem dX5_could_61 : decode cX5_could 61 = .ok (.iload_n 1, 1) := by decide +kernel
theorem dX5_could_62 : decode cX5_could 62 = .ok (.invokevirtual 202, 3) := by decide +kernel
theorem dX5_could_65 : decode cX5_could 65 = .ok (.ishl, 1) := by decide +kernel
theorem dX5_could_66 : decode cX5_could 66 = .ok (.goto 4, 3) := by decide +kernel
theorem dX5_could_69 : decode cX5_could 69 = .ok (.iconst 0, 1) := by decide +kernel
theorem dX5_could_70 : decode cX5_could 70 = .ok (.ior, 1) := by decide +kernel
theorem dX5_could_71 : decode cX5_could 71 = .ok (.istore_n 2, 1) := by decide +kernel
theorem dX5_could_72 : decode cX5_could 72 = .ok (.iinc 4 1, 3) := by decide +kernel
theorem dX5_could_75 : decode cX5_could 75 = .ok (.goto (-32), 3) := by decide +kernel
theorem dX5_could_78 : decode cX5_could 78 = .ok (.iload_n 2, 1) := by decide +kernel
theorem dX5_could_79 : decode cX5_could 79 = .ok (.ireturn, 1) := by decide +kernel
theorem dX5_alibi_0 : decode cX5_alibi 0 = .ok (.iload_n 1, 1) := by decide +kernel
theorem dX5_alibi_1 : decode cX5_alibi 1 = .ok (.invokestatic 133, 3) := by decide +kernel
theorem dX5_alibi_4 : decode cX5_alibi 4 = .ok (.ifCond .ne 5, 3) := by decide +kernel
theorem dX5_alibi_7 : decode cX5_alibi 7 = .ok (.iconst (-1), 1) := by decide +kernel
theorem dX5_alibi_8 : decode cX5_alibi 8 = .ok (.ireturn, 1) := by decide +kernel
theorem dX5_alibi_9 : decode cX5_alibi 9 = .ok (.aload_n 0, 1) := by decide +kernel
theorem dX5_alibi_10 : decode cX5_alibi 10 = .ok (.invokevirtual 86, 3) := by decide +kernel
theorem dX5_alibi_13 : decode cX5_alibi 13 = .ok (.ifCond .lt 6, 3) := by decide +kernel
theorem dX5_alibi_16 : decode cX5_alibi 16 = .ok (.bipush (-5), 2) := by decide +kernel
theorem dX5_alibi_18 : decode cX5_alibi 18 = .ok (.ireturn, 1) := by decide +kernel
theorem dX5_alibi_19 : decode cX5_alibi 19 = .ok (.iconst 0, 1) := by decide +kernel
theorem dX5_alibi_20 : decode cX5_alibi 20 = .ok (.istore_n 2, 1) := by decide +kernel
theorem dX5_alibi_21 : decode cX5_alibi 21 = .ok (.aload_n 0, 1) := by decide +kernel
theorem dX5_alibi_22 : decode cX5_alibi 22 = .ok (.invokevirtual 196, 3) := by decide +kernel
theorem dX5_alibi_25 : decode cX5_alibi 25 = .ok (.istore_n 3, 1) := by decide +kernel
theorem dX5_alibi_26 : decode cX5_alibi 26 = .ok (.iconst 0, 1) := by decide +kernel
theorem dX5_alibi_27 : decode cX5_alibi 27 = .ok (.istore 4, 2) := by decide +kernel
theorem dX5_alibi_29 : decode cX5_alibi 29 = .ok (.iload 4, 2) := by decide +kernel
theorem dX5_alibi_31 : decode cX5_alibi 31 = .ok (.iload_n 3, 1) := by decide +kernel
theorem dX5_alibi_32 : decode cX5_alibi 32 = .ok (.if_icmp .ge 75, 3) := by decide +kernel
theorem dX5_alibi_35 : decode cX5_alibi 35 = .ok (.aload_n 0, 1) := by decide +kernel
theorem dX5_alibi_36 : decode cX5_alibi 36 = .ok (.iload 4, 2) := by decide +kernel
theorem dX5_alibi_38 : decode cX5_alibi 38 = .ok (.invokevirtual 199, 3) := by decide +kernel
theorem dX5_alibi_41 : decode cX5_alibi 41 = .ok (.ifCond .eq 60, 3) := by decide +kernel
theorem dX5_alibi_44 : decode cX5_alibi 44 = .ok (.iconst 0, 1) := by decide +kernel
theorem dX5_alibi_45 : decode cX5_alibi 45 = .ok (.istore 5, 2) := by decide +kernel
theorem dX5_alibi_47 : decode cX5_alibi 47 = .ok (.iconst 0, 1) := by decide +kernel
theorem dX5_alibi_48 : decode cX5_alibi 48 = .ok (.istore 6, 2) := by decide +kernel
theorem dX5_alibi_50 : decode cX5_alibi 50 = .ok (.iload 6, 2) := by decide +kernel
theorem dX5_alibi_52 : decode cX5_alibi 52 = .ok (.aload_n 0, 1) := by decide +kernel
theorem dX5_alibi_53 : decode cX5_alibi 53 = .ok (.getfield 110, 3) := by decide +kernel
theorem dX5_alibi_56 : decode cX5_alibi 56 = .ok (.if_icmp .ge 32, 3) := by decide +kernel
theorem dX5_alibi_59 : decode cX5_alibi 59 = .ok (.iload 5, 2) := by decide +kernel
theorem dX5_alibi_61 : decode cX5_alibi 61 = .ok (.ifCond .ne 14, 3) := by decide +kernel
theorem dX5_alibi_64 : decode cX5_alibi 64 = .ok (.aload_n 0, 1) := by decide +kernel
theorem dX5_alibi_65 : decode cX5_alibi 65 = .ok (.getfield 28, 3) := by decide +kernel
theorem dX5_alibi_68 : decode cX5_alibi 68 = .ok (.iload 6, 2) := by decide +kernel
theorem dX5_alibi_70 : decode cX5_alibi 70 = .ok (.iaload, 1) := by decide +kernel
theorem dX5_alibi_71 : decode cX5_alibi 71 = .ok (.iload_n 1, 1) := by decide +kernel
theorem dX5_alibi_72 : decode cX5_alibi 72 = .ok (.if_icmp .ne 7, 3) := by decide +kernel
theorem dX5_alibi_75 : decode cX5_alibi 75 = .ok (.iconst 1, 1) := by decide +kernel
theorem dX5_alibi_76 : decode cX5_alibi 76 = .ok (.goto 4, 3) := by decide +kernel
theorem dX5_alibi_79 : decode cX5_alibi 79 = .ok (.iconst 0, 1) := by decide +kernel
theorem dX5_alibi_80 : decode cX5_alibi 80 = .ok (.istore 5, 2) := by decide +kernel
theorem dX5_alibi_82 : decode cX5_alibi 82 = .ok (.iinc 6 1, 3) := by decide +kernel
theorem dX5_alibi_85 : decode cX5_alibi 85 = .ok (.goto (-35), 3) := by decide +kernel
theorem dX5_alibi_88 : decode cX5_alibi 88 = .ok (.iload_n 2, 1) := by decide +kernel
theorem dX5_alibi_89 : decode cX5_alibi 89 = .ok (.iload 5, 2) := by decide +kernel
theorem dX5_alibi_91 : decode cX5_alibi 91 = .ok (.ifCond .eq 7, 3) := by decide +kernel
theorem dX5_alibi_94 : decode cX5_alibi 94 = .ok (.iconst 1, 1) := by decide +kernel
theorem dX5_alibi_95 : decode cX5_alibi 95 = .ok (.goto 4, 3) := by decide +kernel
theorem dX5_alibi_98 : decode cX5_alibi 98 = .ok (.iconst 0, 1) := by decide +kernel
theorem dX5_alibi_99 : decode cX5_alibi 99 = .ok (.iadd, 1) := by decide +kernel
theorem dX5_alibi_100 : decode cX5_alibi 100 = .ok (.istore_n 2, 1) := by decide +kernel
theorem dX5_alibi_101 : decode cX5_alibi 101 = .ok (.iinc 4 1, 3) := by decide +kernel
theorem dX5_alibi_104 : decode cX5_alibi 104 = .ok (.goto (-75), 3) := by decide +kernel
theorem dX5_alibi_107 : decode cX5_alibi 107 = .ok (.iload_n 2, 1) := by decide +kernel
theorem dX5_alibi_108 : decode cX5_alibi 108 = .ok (.ireturn, 1) := by decide +kernel
theorem dX5_gone_0 : decode cX5_gone 0 = .ok (.iload_n 1, 1) := by decide +kernel
theorem dX5_gone_1 : decode cX5_gone 1 = .ok (.invokestatic 133, 3) := by decide +kernel
theorem dX5_gone_4 : decode cX5_gone 4 = .ok (.ifCond .ne 5, 3) := by decide +kernel
theorem dX5_gone_7 : decode cX5_gone 7 = .ok (.iconst (-1), 1) := by decide +kernel
theorem dX5_gone_8 : decode cX5_gone 8 = .ok (.ireturn, 1) := by decide +kernel
theorem dX5_gone_9 : decode cX5_gone 9 = .ok (.aload_n 0, 1) := by decide +kernel
theorem dX5_gone_10 : decode cX5_gone 10 = .ok (.invokevirtual 136, 3) := by decide +kernel
theorem dX5_gone_13 : decode cX5_gone 13 = .ok (.bipush (-6), 2) := by decide +kernel
theorem dX5_gone_15 : decode cX5_gone 15 = .ok (.if_icmp .eq 8, 3) := by decide +kernel
theorem dX5_gone_18 : decode cX5_gone 18 = .ok (.aload_n 0, 1) := by decide +kernel
theorem dX5_gone_19 : decode cX5_gone 19 = .ok (.invokevirtual 136, 3) := by decide +kernel
theorem dX5_gone_22 : decode cX5_gone 22 = .ok (.ireturn, 1) := by decide +kernel
theorem dX5_gone_23 : decode cX5_gone 23 = .ok (.aload_n 0, 1) := by decide +kernel
theorem dX5_gone_24 : decode cX5_gone 24 = .ok (.invokevirtual 113, 3) := by decide +kernel
theorem dX5_gone_27 : decode cX5_gone 27 = .ok (.aload_n 0, 1) := by decide +kernel
theorem dX5_gone_28 : decode cX5_gone 28 = .ok (.aload_n 0, 1) := by decide +kernel
theorem dX5_gone_29 : decode cX5_gone 29 = .ok (.getfield 110, 3) := by decide +kernel
theorem dX5_gone_32 : decode cX5_gone 32 = .ok (.invokevirtual 127, 3) := by decide +kernel
theorem dX5_gone_35 : decode cX5_gone 35 = .ok (.iconst 0, 1) := by decide +kernel
theorem dX5_gone_36 : decode cX5_gone 36 = .ok (.istore_n 2, 1) := by decide +kernel
theorem dX5_gone_37 : decode cX5_gone 37 = .ok (.aload_n 0, 1) := by decide +kernel
theorem dX5_gone_38 : decode cX5_gone 38 = .ok (.iload_n 1, 1) := by decide +kernel
theorem dX5_gone_39 : decode cX5_gone 39 = .ok (.invokevirtual 103, 3) := by decide +kernel
theorem dX5_gone_42 : decode cX5_gone 42 = .ok (.ifCond .lt 19, 3) := by decide +kernel
theorem dX5_gone_45 : decode cX5_gone 45 = .ok (.aload_n 0, 1) := by decide +kernel
theorem dX5_gone_46 : decode cX5_gone 46 = .ok (.bipush 100, 2) := by decide +kernel
theorem dX5_gone_48 : decode cX5_gone 48 = .ok (.iload_n 2, 1) := by decide +kernel
theorem dX5_gone_49 : decode cX5_gone 49 = .ok (.iadd, 1) := by decide +kernel
theorem dX5_gone_50 : decode cX5_gone 50 = .ok (.bipush 40, 2) := by decide +kernel
theorem dX5_gone_52 : decode cX5_gone 52 = .ok (.invokevirtual 119, 3) := by decide +kernel
theorem dX5_gone_55 : decode cX5_gone 55 = .ok (.iinc 2 1, 3) := by decide +kernel
theorem dX5_gone_58 : decode cX5_gone 58 = .ok (.goto (-21), 3) := by decide +kernel
theorem dX5_gone_61 : decode cX5_gone 61 = .ok (.iload_n 2, 1) := by decide +kernel
theorem dX5_gone_62 : decode cX5_gone 62 = .ok (.ireturn, 1) := by decide +kernel
theorem dX5_stillStands_0 : decode cX5_stillStands 0 = .ok (.iconst 0, 1) := by decide +kernel
theorem dX5_stillStands_1 : decode cX5_stillStands 1 = .ok (.istore_n 2, 1) := by decide +kernel
theorem dX5_stillStands_2 : decode cX5_stillStands 2 = .ok (.iconst 0, 1) := by decide +kernel
theorem dX5_stillStands_3 : decode cX5_stillStands 3 = .ok (.istore_n 3, 1) := by decide +kernel
theorem dX5_stillStands_4 : decode cX5_stillStands 4 = .ok (.iload_n 3, 1) := by decide +kernel
theorem dX5_stillStands_5 : decode cX5_stillStands 5 = .ok (.aload_n 0, 1) := by decide +kernel
theorem dX5_stillStands_6 : decode cX5_stillStands 6 = .ok (.getfield 94, 3) := by decide +kernel
theorem dX5_stillStands_9 : decode cX5_stillStands 9 = .ok (.if_icmp .ge 29, 3) := by decide +kernel
theorem dX5_stillStands_12 : decode cX5_stillStands 12 = .ok (.iload_n 2, 1) := by decide +kernel
theorem dX5_stillStands_13 : decode cX5_stillStands 13 = .ok (.ifCond .ne 13, 3) := by decide +kernel
theorem dX5_stillStands_16 : decode cX5_stillStands 16 = .ok (.aload_n 0, 1) := by decide +kernel
theorem dX5_stillStands_17 : decode cX5_stillStands 17 = .ok (.getfield 25, 3) := by decide +kernel
theorem dX5_stillStands_20 : decode cX5_stillStands 20 = .ok (.iload_n 3, 1) := by decide +kernel
theorem dX5_stillStands_21 : decode cX5_stillStands 21 = .ok (.iaload, 1) := by decide +kernel
theorem dX5_stillStands_22 : decode cX5_stillStands 22 = .ok (.iload_n 1, 1) := by decide +kernel
theorem dX5_stillStands_23 : decode cX5_stillStands 23 = .ok (.if_icmp .ne 7, 3) := by decide +kernel
theorem dX5_stillStands_26 : decode cX5_stillStands 26 = .ok (.iconst 1, 1) := by decide +kernel
theorem dX5_stillStands_27 : decode cX5_stillStands 27 = .ok (.goto 4, 3) := by decide +kernel
theorem dX5_stillStands_30 : decode cX5_stillStands 30 = .ok (.iconst 0, 1) := by decide +kernel
theorem dX5_stillStands_31 : decode cX5_stillStands 31 = .ok (.istore_n 2, 1) := by decide +kernel
theorem dX5_stillStands_32 : decode cX5_stillStands 32 = .ok (.iinc 3 1, 3) := by decide +kernel
theorem dX5_stillStands_35 : decode cX5_stillStands 35 = .ok (.goto (-31), 3) := by decide +kernel
theorem dX5_stillStands_38 : decode cX5_stillStands 38 = .ok (.iload_n 2, 1) := by decide +kernel
theorem dX5_stillStands_39 : decode cX5_stillStands 39 = .ok (.ireturn, 1) := by decide +kernel
theorem dX5_out_0 : decode cX5_out 0 = .ok (.aload_n 0, 1) := by decide +kernel
theorem dX5_out_1 : decode cX5_out 1 = .ok (.invokevirtual 136, 3) := by decide +kernel
theorem dX5_out_4 : decode cX5_out 4 = .ok (.bipush (-6), 2) := by decide +kernel
theorem dX5_out_6 : decode cX5_out 6 = .ok (.if_icmp .eq 8, 3) := by decide +kernel
theorem dX5_out_9 : decode cX5_out 9 = .ok (.aload_n 0, 1) := by decide +kernel
theorem dX5_out_10 : decode cX5_out 10 = .ok (.invokevirtual 136, 3) := by decide +kernel
theorem dX5_out_13 : decode cX5_out 13 = .ok (.ireturn, 1) := by decide +kernel
theorem dX5_out_14 : decode cX5_out 14 = .ok (.aload_n 0, 1) := by decide +kernel
theorem dX5_out_15 : decode cX5_out 15 = .ok (.invokevirtual 113, 3) := by decide +kernel
theorem dX5_out_18 : decode cX5_out 18 = .ok (.iload_n 1, 1) := by decide +kernel
theorem dX5_out_19 : decode cX5_out 19 = .ok (.i2l, 1) := by decide +kernel
theorem dX5_out_20 : decode cX5_out 20 = .ok (.lconst 0, 1) := by decide +kernel
theorem dX5_out_21 : decode cX5_out 21 = .ok (.aload_n 0, 1) := by decide +kernel
theorem dX5_out_22 : decode cX5_out 22 = .ok (.getfield 110, 3) := by decide +kernel
theorem dX5_out_25 : decode cX5_out 25 = .ok (.iconst 1, 1) := by decide +kernel
theorem dX5_out_26 : decode cX5_out 26 = .ok (.isub, 1) := by decide +kernel
theorem dX5_out_27 : decode cX5_out 27 = .ok (.i2l, 1) := by decide +kernel
theorem dX5_out_28 : decode cX5_out 28 = .ok (.invokestatic 53, 3) := by decide +kernel
theorem dX5_out_31 : decode cX5_out 31 = .ok (.ifCond .eq 14, 3) := by decide +kernel
theorem dX5_out_34 : decode cX5_out 34 = .ok (.aload_n 0, 1) := by decide +kernel
theorem dX5_out_35 : decode cX5_out 35 = .ok (.getfield 28, 3) := by decide +kernel
theorem dX5_out_38 : decode cX5_out 38 = .ok (.iload_n 1, 1) := by decide +kernel
theorem dX5_out_39 : decode cX5_out 39 = .ok (.iaload, 1) := by decide +kernel
theorem dX5_out_40 : decode cX5_out 40 = .ok (.bipush 16, 2) := by decide +kernel
theorem dX5_out_42 : decode cX5_out 42 = .ok (.if_icmp .lt 6, 3) := by decide +kernel
theorem dX5_out_45 : decode cX5_out 45 = .ok (.bipush (-2), 2) := by decide +kernel
theorem dX5_out_47 : decode cX5_out 47 = .ok (.ireturn, 1) := by decide +kernel
theorem dX5_out_48 : decode cX5_out 48 = .ok (.aload_n 0, 1) := by decide +kernel
theorem dX5_out_49 : decode cX5_out 49 = .ok (.iload_n 1, 1) := by decide +kernel
theorem dX5_out_50 : decode cX5_out 50 = .ok (.invokevirtual 127, 3) := by decide +kernel
theorem dX5_out_53 : decode cX5_out 53 = .ok (.iload_n 1, 1) := by decide +kernel
theorem dX5_out_54 : decode cX5_out 54 = .ok (.istore_n 2, 1) := by decide +kernel
theorem dX5_out_55 : decode cX5_out 55 = .ok (.iload_n 2, 1) := by decide +kernel
theorem dX5_out_56 : decode cX5_out 56 = .ok (.aload_n 0, 1) := by decide +kernel
theorem dX5_out_57 : decode cX5_out 57 = .ok (.getfield 110, 3) := by decide +kernel
theorem dX5_out_60 : decode cX5_out 60 = .ok (.if_icmp .ge 41, 3) := by decide +kernel
theorem dX5_out_63 : decode cX5_out 63 = .ok (.aload_n 0, 1) := by decide +kernel
theorem dX5_out_64 : decode cX5_out 64 = .ok (.getfield 28, 3) := by decide +kernel
theorem dX5_out_67 : decode cX5_out 67 = .ok (.iload_n 2, 1) := by decide +kernel
theorem dX5_out_68 : decode cX5_out 68 = .ok (.iaload, 1) := by decide +kernel
theorem dX5_out_69 : decode cX5_out 69 = .ok (.bipush 16, 2) := by decide +kernel
theorem dX5_out_71 : decode cX5_out 71 = .ok (.if_icmp .ge 14, 3) := by decide +kernel
theorem dX5_out_74 : decode cX5_out 74 = .ok (.aload_n 0, 1) := by decide +kernel
theorem dX5_out_75 : decode cX5_out 75 = .ok (.aload_n 0, 1) := by decide +kernel
theorem dX5_out_76 : decode cX5_out 76 = .ok (.getfield 28, 3) := by decide +kernel
theorem dX5_out_79 : decode cX5_out 79 = .ok (.iload_n 2, 1) := by decide +kernel
theorem dX5_out_80 : decode cX5_out 80 = .ok (.iaload, 1) := by decide +kernel
theorem dX5_out_81 : decode cX5_out 81 = .ok (.iload_n 2, 1) := by decide +kernel
theorem dX5_out_82 : decode cX5_out 82 = .ok (.invokevirtual 119, 3) := by decide +kernel
theorem dX5_out_85 : decode cX5_out 85 = .ok (.aload_n 0, 1) := by decide +kernel
theorem dX5_out_86 : decode cX5_out 86 = .ok (.iload_n 1, 1) := by decide +kernel
theorem dX5_out_87 : decode cX5_out 87 = .ok (.invokevirtual 205, 3) := by decide +kernel
theorem dX5_out_90 : decode cX5_out 90 = .ok (.ifCond .ne 5, 3) := by decide +kernel
theorem dX5_out_93 : decode cX5_out 93 = .ok (.iload_n 2, 1) := by decide +kernel
theorem dX5_out_94 : decode cX5_out 94 = .ok (.ireturn, 1) := by decide +kernel
theorem dX5_out_95 : decode cX5_out 95 = .ok (.iinc 2 1, 3) := by decide +kernel
theorem dX5_out_98 : decode cX5_out 98 = .ok (.goto (-43), 3) := by decide +kernel
theorem dX5_out_101 : decode cX5_out 101 = .ok (.bipush (-6), 2) := by decide +kernel
theorem dX5_out_103 : decode cX5_out 103 = .ok (.ireturn, 1) := by decide +kernel
theorem dX5_drawn_0 : decode cX5_drawn 0 = .ok (.iload_n 3, 1) := by decide +kernel
theorem dX5_drawn_1 : decode cX5_drawn 1 = .ok (.iconst (-1), 1) := by decide +kernel
theorem dX5_drawn_2 : decode cX5_drawn 2 = .ok (.if_icmp .eq 12, 3) := by decide +kernel
theorem dX5_drawn_5 : decode cX5_drawn 5 = .ok (.iload_n 3, 1) := by decide +kernel
theorem dX5_drawn_6 : decode cX5_drawn 6 = .ok (.invokestatic 133, 3) := by decide +kernel
theorem dX5_drawn_9 : decode cX5_drawn 9 = .ok (.ifCond .ne 5, 3) := by decide +kernel
theorem dX5_drawn_12 : decode cX5_drawn 12 = .ok (.iconst (-1), 1) := by decide +kernel
theorem dX5_drawn_13 : decode cX5_drawn 13 = .ok (.ireturn, 1) := by decide +kernel
theorem dX5_drawn_14 : decode cX5_drawn 14 = .ok (.iload_n 1, 1) := by decide +kernel
theorem dX5_drawn_15 : decode cX5_drawn 15 = .ok (.i2l, 1) := by decide +kernel
theorem dX5_drawn_16 : decode cX5_drawn 16 = .ok (.lconst 0, 1) := by decide +kernel
theorem dX5_drawn_17 : decode cX5_drawn 17 = .ok (.ldc2_w 208, 3) := by decide +kernel
theorem dX5_drawn_20 : decode cX5_drawn 20 = .ok (.invokestatic 53, 3) := by decide +kernel
theorem dX5_drawn_23 : decode cX5_drawn 23 = .ok (.ifCond .eq 15, 3) := by decide +kernel
theorem dX5_drawn_26 : decode cX5_drawn 26 = .ok (.iload_n 2, 1) := by decide +kernel
theorem dX5_drawn_27 : decode cX5_drawn 27 = .ok (.i2l, 1) := by decide +kernel
theorem dX5_drawn_28 : decode cX5_drawn 28 = .ok (.lconst 0, 1) := by decide +kernel
theorem dX5_drawn_29 : decode cX5_drawn 29 = .ok (.ldc2_w 210, 3) := by decide +kernel
theorem dX5_drawn_32 : decode cX5_drawn 32 = .ok (.invokestatic 53, 3) := by decide +kernel
theorem dX5_drawn_35 : decode cX5_drawn 35 = .ok (.ifCond .ne 6, 3) := by decide +kernel
theorem dX5_drawn_38 : decode cX5_drawn 38 = .ok (.bipush (-2), 2) := by decide +kernel
theorem dX5_drawn_40 : decode cX5_drawn 40 = .ok (.ireturn, 1) := by decide +kernel
theorem dX5_drawn_41 : decode cX5_drawn 41 = .ok (.aload_n 0, 1) := by decide +kernel
theorem dX5_drawn_42 : decode cX5_drawn 42 = .ok (.invokevirtual 136, 3) := by decide +kernel
theorem dX5_drawn_45 : decode cX5_drawn 45 = .ok (.bipush (-6), 2) := by decide +kernel
theorem dX5_drawn_47 : decode cX5_drawn 47 = .ok (.if_icmp .eq 8, 3) := by decide +kernel
theorem dX5_drawn_50 : decode cX5_drawn 50 = .ok (.aload_n 0, 1) := by decide +kernel
theorem dX5_drawn_51 : decode cX5_drawn 51 = .ok (.invokevirtual 136, 3) := by decide +kernel
theorem dX5_drawn_54 : decode cX5_drawn 54 = .ok (.ireturn, 1) := by decide +kernel
theorem dX5_drawn_55 : decode cX5_drawn 55 = .ok (.aload_n 0, 1) := by decide +kernel
theorem dX5_drawn_56 : decode cX5_drawn 56 = .ok (.invokevirtual 113, 3) := by decide +kernel
theorem dX5_drawn_59 : decode cX5_drawn 59 = .ok (.aload_n 0, 1) := by decide +kernel
theorem dX5_drawn_60 : decode cX5_drawn 60 = .ok (.aload_n 0, 1) := by decide +kernel
theorem dX5_drawn_61 : decode cX5_drawn 61 = .ok (.getfield 110, 3) := by decide +kernel
theorem dX5_drawn_64 : decode cX5_drawn 64 = .ok (.invokevirtual 127, 3) := by decide +kernel
theorem dX5_drawn_67 : decode cX5_drawn 67 = .ok (.iload_n 1, 1) := by decide +kernel
theorem dX5_drawn_68 : decode cX5_drawn 68 = .ok (.istore 4, 2) := by decide +kernel
theorem dX5_drawn_70 : decode cX5_drawn 70 = .ok (.iconst 0, 1) := by decide +kernel
theorem dX5_drawn_71 : decode cX5_drawn 71 = .ok (.istore 5, 2) := by decide +kernel
theorem dX5_drawn_73 : decode cX5_drawn 73 = .ok (.iconst 0, 1) := by decide +kernel
theorem dX5_drawn_74 : decode cX5_drawn 74 = .ok (.istore 6, 2) := by decide +kernel
theorem dX5_drawn_76 : decode cX5_drawn 76 = .ok (.iload 6, 2) := by decide +kernel
theorem dX5_drawn_78 : decode cX5_drawn 78 = .ok (.iload_n 2, 1) := by decide +kernel
theorem dX5_drawn_79 : decode cX5_drawn 79 = .ok (.if_icmp .ge 60, 3) := by decide +kernel
theorem dX5_drawn_82 : decode cX5_drawn 82 = .ok (.ldc2_w 212, 3) := by decide +kernel
theorem dX5_drawn_85 : decode cX5_drawn 85 = .ok (.iload 4, 2) := by decide +kernel
theorem dX5_drawn_87 : decode cX5_drawn 87 = .ok (.i2l, 1) := by decide +kernel
theorem dX5_drawn_88 : decode cX5_drawn 88 = .ok (.lmul, 1) := by decide +kernel
theorem dX5_drawn_89 : decode cX5_drawn 89 = .ok (.ldc2_w 214, 3) := by decide +kernel
theorem dX5_drawn_92 : decode cX5_drawn 92 = .ok (.ladd, 1) := by decide +kernel
theorem dX5_drawn_93 : decode cX5_drawn 93 = .ok (.ldc2_w 216, 3) := by decide +kernel
theorem dX5_drawn_96 : decode cX5_drawn 96 = .ok (.lrem, 1) := by decide +kernel
theorem dX5_drawn_97 : decode cX5_drawn 97 = .ok (.l2i, 1) := by decide +kernel
theorem dX5_drawn_98 : decode cX5_drawn 98 = .ok (.istore 4, 2) := by decide +kernel
theorem dX5_drawn_100 : decode cX5_drawn 100 = .ok (.aload_n 0, 1) := by decide +kernel
theorem dX5_drawn_101 : decode cX5_drawn 101 = .ok (.iload 4, 2) := by decide +kernel
theorem dX5_drawn_103 : decode cX5_drawn 103 = .ok (.bipush 8, 2) := by decide +kernel
theorem dX5_drawn_105 : decode cX5_drawn 105 = .ok (.irem, 1) := by decide +kernel
theorem dX5_drawn_106 : decode cX5_drawn 106 = .ok (.bipush 40, 2) := by decide +kernel
theorem dX5_drawn_108 : decode cX5_drawn 108 = .ok (.invokevirtual 119, 3) := by decide +kernel
theorem dX5_drawn_111 : decode cX5_drawn 111 = .ok (.iload 5, 2) := by decide +kernel
theorem dX5_drawn_113 : decode cX5_drawn 113 = .ok (.iload_n 3, 1) := by decide +kernel
theorem dX5_drawn_114 : decode cX5_drawn 114 = .ok (.ifCond .lt 15, 3) := by decide +kernel
theorem dX5_drawn_117 : decode cX5_drawn 117 = .ok (.aload_n 0, 1) := by decide +kernel
theorem dX5_drawn_118 : decode cX5_drawn 118 = .ok (.iload_n 3, 1) := by decide +kernel
theorem dX5_drawn_119 : decode cX5_drawn 119 = .ok (.invokevirtual 103, 3) := by decide +kernel
theorem dX5_drawn_122 : decode cX5_drawn 122 = .ok (.ifCond .lt 7, 3) := by decide +kernel
theorem dX5_drawn_125 : decode cX5_drawn 125 = .ok (.iconst 1, 1) := by decide +kernel
theorem dX5_drawn_126 : decode cX5_drawn 126 = .ok (.goto 4, 3) := by decide +kernel
theorem dX5_drawn_129 : decode cX5_drawn 129 = .ok (.iconst 0, 1) := by decide +kernel
theorem dX5_drawn_130 : decode cX5_drawn 130 = .ok (.iadd, 1) := by decide +kernel
theorem dX5_drawn_131 : decode cX5_drawn 131 = .ok (.istore 5, 2) := by decide +kernel
theorem dX5_drawn_133 : decode cX5_drawn 133 = .ok (.iinc 6 1, 3) := by decide +kernel
theorem dX5_drawn_136 : decode cX5_drawn 136 = .ok (.goto (-60), 3) := by decide +kernel
theorem dX5_drawn_139 : decode cX5_drawn 139 = .ok (.iload_n 3, 1) := by decide +kernel
theorem dX5_drawn_140 : decode cX5_drawn 140 = .ok (.iconst (-1), 1) := by decide +kernel
theorem dX5_drawn_141 : decode cX5_drawn 141 = .ok (.if_icmp .ne 13, 3) := by decide +kernel
theorem dX5_drawn_144 : decode cX5_drawn 144 = .ok (.aload_n 0, 1) := by decide +kernel
theorem dX5_drawn_145 : decode cX5_drawn 145 = .ok (.invokevirtual 130, 3) := by decide +kernel
theorem dX5_drawn_148 : decode cX5_drawn 148 = .ok (.invokestatic 179, 3) := by decide +kernel
theorem dX5_drawn_151 : decode cX5_drawn 151 = .ok (.goto 5, 3) := by decide +kernel
theorem dX5_drawn_154 : decode cX5_drawn 154 = .ok (.iload 5, 2) := by decide +kernel
theorem dX5_drawn_156 : decode cX5_drawn 156 = .ok (.ireturn, 1) := by decide +kernel
theorem dX5_pass_0 : decode cX5_pass 0 = .ok (.aload_n 0, 1) := by decide +kernel
theorem dX5_pass_1 : decode cX5_pass 1 = .ok (.getfield 218, 3) := by decide +kernel
theorem dX5_pass_4 : decode cX5_pass 4 = .ok (.ifCond .eq 7, 3) := by decide +kernel
theorem dX5_pass_7 : decode cX5_pass 7 = .ok (.iload_n 1, 1) := by decide +kernel
theorem dX5_pass_8 : decode cX5_pass 8 = .ok (.goto 12, 3) := by decide +kernel
theorem dX5_pass_11 : decode cX5_pass 11 = .ok (.aload_n 0, 1) := by decide +kernel
theorem dX5_pass_12 : decode cX5_pass 12 = .ok (.getfield 41, 3) := by decide +kernel
theorem dX5_pass_15 : decode cX5_pass 15 = .ok (.aload_n 0, 1) := by decide +kernel
theorem dX5_pass_16 : decode cX5_pass 16 = .ok (.getfield 222, 3) := by decide +kernel
theorem dX5_pass_19 : decode cX5_pass 19 = .ok (.iaload, 1) := by decide +kernel
theorem dX5_pass_20 : decode cX5_pass 20 = .ok (.istore_n 2, 1) := by decide +kernel
theorem dX5_pass_21 : decode cX5_pass 21 = .ok (.aload_n 0, 1) := by decide +kernel
theorem dX5_pass_22 : decode cX5_pass 22 = .ok (.getfield 41, 3) := by decide +kernel
theorem dX5_pass_25 : decode cX5_pass 25 = .ok (.aload_n 0, 1) := by decide +kernel
theorem dX5_pass_26 : decode cX5_pass 26 = .ok (.getfield 222, 3) := by decide +kernel
theorem dX5_pass_29 : decode cX5_pass 29 = .ok (.iload_n 2, 1) := by decide +kernel
theorem dX5_pass_30 : decode cX5_pass 30 = .ok (.iastore, 1) := by decide +kernel
theorem dX5_pass_31 : decode cX5_pass 31 = .ok (.aload_n 0, 1) := by decide +kernel
theorem dX5_pass_32 : decode cX5_pass 32 = .ok (.dup, 1) := by decide +kernel
theorem dX5_pass_33 : decode cX5_pass 33 = .ok (.getfield 222, 3) := by decide +kernel
theorem dX5_pass_36 : decode cX5_pass 36 = .ok (.iconst 1, 1) := by decide +kernel
theorem dX5_pass_37 : decode cX5_pass 37 = .ok (.iadd, 1) := by decide +kernel
theorem dX5_pass_38 : decode cX5_pass 38 = .ok (.putfield 222, 3) := by decide +kernel
theorem dX5_pass_41 : decode cX5_pass 41 = .ok (.iload_n 2, 1) := by decide +kernel
theorem dX5_pass_42 : decode cX5_pass 42 = .ok (.ireturn, 1) := by decide +kernel
theorem dX5_passAll_0 : decode cX5_passAll 0 = .ok (.aload_n 0, 1) := by decide +kernel
theorem dX5_passAll_1 : decode cX5_passAll 1 = .ok (.aload_n 0, 1) := by decide +kernel
theorem dX5_passAll_2 : decode cX5_passAll 2 = .ok (.aload_n 0, 1) := by decide +kernel
theorem dX5_passAll_3 : decode cX5_passAll 3 = .ok (.getfield 47, 3) := by decide +kernel
theorem dX5_passAll_6 : decode cX5_passAll 6 = .ok (.invokevirtual 225, 3) := by decide +kernel
theorem dX5_passAll_9 : decode cX5_passAll 9 = .ok (.putfield 47, 3) := by decide +kernel
theorem dX5_passAll_12 : decode cX5_passAll 12 = .ok (.aload_n 0, 1) := by decide +kernel
theorem dX5_passAll_13 : decode cX5_passAll 13 = .ok (.aload_n 0, 1) := by decide +kernel
theorem dX5_passAll_14 : decode cX5_passAll 14 = .ok (.aload_n 0, 1) := by decide +kernel
theorem dX5_passAll_15 : decode cX5_passAll 15 = .ok (.getfield 61, 3) := by decide +kernel
theorem dX5_passAll_18 : decode cX5_passAll 18 = .ok (.invokevirtual 225, 3) := by decide +kernel
theorem dX5_passAll_21 : decode cX5_passAll 21 = .ok (.putfield 61, 3) := by decide +kernel
theorem dX5_passAll_24 : decode cX5_passAll 24 = .ok (.aload_n 0, 1) := by decide +kernel
theorem dX5_passAll_25 : decode cX5_passAll 25 = .ok (.aload_n 0, 1) := by decide +kernel
theorem dX5_passAll_26 : decode cX5_passAll 26 = .ok (.aload_n 0, 1) := by decide +kernel
theorem dX5_passAll_27 : decode cX5_passAll 27 = .ok (.getfield 190, 3) := by decide +kernel
theorem dX5_passAll_30 : decode cX5_passAll 30 = .ok (.invokevirtual 225, 3) := by decide +kernel
theorem dX5_passAll_33 : decode cX5_passAll 33 = .ok (.putfield 190, 3) := by decide +kernel
theorem dX5_passAll_36 : decode cX5_passAll 36 = .ok (.iconst 0, 1) := by decide +kernel
theorem dX5_passAll_37 : decode cX5_passAll 37 = .ok (.istore_n 1, 1) := by decide +kernel
theorem dX5_passAll_38 : decode cX5_passAll 38 = .ok (.iload_n 1, 1) := by decide +kernel
theorem dX5_passAll_39 : decode cX5_passAll 39 = .ok (.bipush 6, 2) := by decide +kernel
theorem dX5_passAll_41 : decode cX5_passAll 41 = .ok (.if_icmp .ge 57, 3) := by decide +kernel
theorem dX5_passAll_44 : decode cX5_passAll 44 = .ok (.aload_n 0, 1) := by decide +kernel
theorem dX5_passAll_45 : decode cX5_passAll 45 = .ok (.getfield 7, 3) := by decide +kernel
theorem dX5_passAll_48 : decode cX5_passAll 48 = .ok (.iload_n 1, 1) := by decide +kernel
theorem dX5_passAll_49 : decode cX5_passAll 49 = .ok (.aload_n 0, 1) := by decide +kernel
theorem dX5_passAll_50 : decode cX5_passAll 50 = .ok (.aload_n 0, 1) := by decide +kernel
theorem dX5_passAll_51 : decode cX5_passAll 51 = .ok (.getfield 7, 3) := by decide +kernel
theorem dX5_passAll_54 : decode cX5_passAll 54 = .ok (.iload_n 1, 1) := by decide +kernel
theorem dX5_passAll_55 : decode cX5_passAll 55 = .ok (.iaload, 1) := by decide +kernel
theorem dX5_passAll_56 : decode cX5_passAll 56 = .ok (.invokevirtual 225, 3) := by decide +kernel
theorem dX5_passAll_59 : decode cX5_passAll 59 = .ok (.iastore, 1) := by decide +kernel
theorem dX5_passAll_60 : decode cX5_passAll 60 = .ok (.aload_n 0, 1) := by decide +kernel
theorem dX5_passAll_61 : decode cX5_passAll 61 = .ok (.getfield 13, 3) := by decide +kernel
theorem dX5_passAll_64 : decode cX5_passAll 64 = .ok (.iload_n 1, 1) := by decide +kernel
theorem dX5_passAll_65 : decode cX5_passAll 65 = .ok (.aload_n 0, 1) := by decide +kernel
theorem dX5_passAll_66 : decode cX5_passAll 66 = .ok (.aload_n 0, 1) := by decide +kernel
theorem dX5_passAll_67 : decode cX5_passAll 67 = .ok (.getfield 13, 3) := by decide +kernel
theorem dX5_passAll_70 : decode cX5_passAll 70 = .ok (.iload_n 1, 1) := by decide +kernel
theorem dX5_passAll_71 : decode cX5_passAll 71 = .ok (.iaload, 1) := by decide +kernel
theorem dX5_passAll_72 : decode cX5_passAll 72 = .ok (.invokevirtual 225, 3) := by decide +kernel
theorem dX5_passAll_75 : decode cX5_passAll 75 = .ok (.iastore, 1) := by decide +kernel
theorem dX5_passAll_76 : decode cX5_passAll 76 = .ok (.aload_n 0, 1) := by decide +kernel
theorem dX5_passAll_77 : decode cX5_passAll 77 = .ok (.getfield 16, 3) := by decide +kernel
theorem dX5_passAll_80 : decode cX5_passAll 80 = .ok (.iload_n 1, 1) := by decide +kernel
theorem dX5_passAll_81 : decode cX5_passAll 81 = .ok (.aload_n 0, 1) := by decide +kernel
theorem dX5_passAll_82 : decode cX5_passAll 82 = .ok (.aload_n 0, 1) := by decide +kernel
theorem dX5_passAll_83 : decode cX5_passAll 83 = .ok (.getfield 16, 3) := by decide +kernel
theorem dX5_passAll_86 : decode cX5_passAll 86 = .ok (.iload_n 1, 1) := by decide +kernel
theorem dX5_passAll_87 : decode cX5_passAll 87 = .ok (.iaload, 1) := by decide +kernel
theorem dX5_passAll_88 : decode cX5_passAll 88 = .ok (.invokevirtual 225, 3) := by decide +kernel
theorem dX5_passAll_91 : decode cX5_passAll 91 = .ok (.iastore, 1) := by decide +kernel
theorem dX5_passAll_92 : decode cX5_passAll 92 = .ok (.iinc 1 1, 3) := by decide +kernel
theorem dX5_passAll_95 : decode cX5_passAll 95 = .ok (.goto (-57), 3) := by decide +kernel
theorem dX5_passAll_98 : decode cX5_passAll 98 = .ok (.return_, 1) := by decide +kernel
theorem dX5_image_0 : decode cX5_image 0 = .ok (.iload_n 1, 1) := by decide +kernel
theorem dX5_image_1 : decode cX5_image 1 = .ok (.i2l, 1) := by decide +kernel
theorem dX5_image_2 : decode cX5_image 2 = .ok (.lconst 0, 1) := by decide +kernel
theorem dX5_image_3 : decode cX5_image 3 = .ok (.lconst 1, 1) := by decide +kernel
theorem dX5_image_4 : decode cX5_image 4 = .ok (.invokestatic 53, 3) := by decide +kernel
theorem dX5_image_7 : decode cX5_image 7 = .ok (.ifCond .ne 6, 3) := by decide +kernel
theorem dX5_image_10 : decode cX5_image 10 = .ok (.bipush (-2), 2) := by decide +kernel
theorem dX5_image_12 : decode cX5_image 12 = .ok (.ireturn, 1) := by decide +kernel
theorem dX5_image_13 : decode cX5_image 13 = .ok (.aload_n 0, 1) := by decide +kernel
theorem dX5_image_14 : decode cX5_image 14 = .ok (.bipush 30, 2) := by decide +kernel
theorem dX5_image_16 : decode cX5_image 16 = .ok (.iload_n 1, 1) := by decide +kernel
theorem dX5_image_17 : decode cX5_image 17 = .ok (.imul, 1) := by decide +kernel
theorem dX5_image_18 : decode cX5_image 18 = .ok (.putfield 222, 3) := by decide +kernel
theorem dX5_image_21 : decode cX5_image 21 = .ok (.aload_n 0, 1) := by decide +kernel
theorem dX5_image_22 : decode cX5_image 22 = .ok (.iconst 1, 1) := by decide +kernel
theorem dX5_image_23 : decode cX5_image 23 = .ok (.putfield 218, 3) := by decide +kernel
theorem dX5_image_26 : decode cX5_image 26 = .ok (.aload_n 0, 1) := by decide +kernel
theorem dX5_image_27 : decode cX5_image 27 = .ok (.invokevirtual 228, 3) := by decide +kernel
theorem dX5_image_30 : decode cX5_image 30 = .ok (.aload_n 0, 1) := by decide +kernel
theorem dX5_image_31 : decode cX5_image 31 = .ok (.getfield 44, 3) := by decide +kernel
theorem dX5_image_34 : decode cX5_image 34 = .ok (.iload_n 1, 1) := by decide +kernel
theorem dX5_image_35 : decode cX5_image 35 = .ok (.iconst 1, 1) := by decide +kernel
theorem dX5_image_36 : decode cX5_image 36 = .ok (.bastore, 1) := by decide +kernel
theorem dX5_image_37 : decode cX5_image 37 = .ok (.iconst 1, 1) := by decide +kernel
theorem dX5_image_38 : decode cX5_image 38 = .ok (.ireturn, 1) := by decide +kernel
theorem dX5_restore_0 : decode cX5_restore 0 = .ok (.iload_n 1, 1) := by decide +kernel
theorem dX5_restore_1 : decode cX5_restore 1 = .ok (.i2l, 1) := by decide +kernel
theorem dX5_restore_2 : decode cX5_restore 2 = .ok (.lconst 0, 1) := by decide +kernel
theorem dX5_restore_3 : decode cX5_restore 3 = .ok (.lconst 1, 1) := by decide +kernel
theorem dX5_restore_4 : decode cX5_restore 4 = .ok (.invokestatic 53, 3) := by decide +kernel
theorem dX5_restore_7 : decode cX5_restore 7 = .ok (.ifCond .ne 6, 3) := by decide +kernel
theorem dX5_restore_10 : decode cX5_restore 10 = .ok (.bipush (-2), 2) := by decide +kernel
theorem dX5_restore_12 : decode cX5_restore 12 = .ok (.ireturn, 1) := by decide +kernel
theorem dX5_restore_13 : decode cX5_restore 13 = .ok (.aload_n 0, 1) := by decide +kernel
theorem dX5_restore_14 : decode cX5_restore 14 = .ok (.getfield 44, 3) := by decide +kernel
theorem dX5_restore_17 : decode cX5_restore 17 = .ok (.iload_n 1, 1) := by decide +kernel
theorem dX5_restore_18 : decode cX5_restore 18 = .ok (.baload, 1) := by decide +kernel
theorem dX5_restore_19 : decode cX5_restore 19 = .ok (.ifCond .ne 6, 3) := by decide +kernel
theorem dX5_restore_22 : decode cX5_restore 22 = .ok (.bipush (-3), 2) := by decide +kernel
theorem dX5_restore_24 : decode cX5_restore 24 = .ok (.ireturn, 1) := by decide +kernel
theorem dX5_restore_25 : decode cX5_restore 25 = .ok (.aload_n 0, 1) := by decide +kernel
theorem dX5_restore_26 : decode cX5_restore 26 = .ok (.bipush 30, 2) := by decide +kernel
theorem dX5_restore_28 : decode cX5_restore 28 = .ok (.iload_n 1, 1) := by decide +kernel
theorem dX5_restore_29 : decode cX5_restore 29 = .ok (.imul, 1) := by decide +kernel
theorem dX5_restore_30 : decode cX5_restore 30 = .ok (.putfield 222, 3) := by decide +kernel
theorem dX5_restore_33 : decode cX5_restore 33 = .ok (.aload_n 0, 1) := by decide +kernel
theorem dX5_restore_34 : decode cX5_restore 34 = .ok (.iconst 0, 1) := by decide +kernel
theorem dX5_restore_35 : decode cX5_restore 35 = .ok (.putfield 218, 3) := by decide +kernel
theorem dX5_restore_38 : decode cX5_restore 38 = .ok (.aload_n 0, 1) := by decide +kernel
theorem dX5_restore_39 : decode cX5_restore 39 = .ok (.invokevirtual 228, 3) := by decide +kernel
theorem dX5_restore_42 : decode cX5_restore 42 = .ok (.iconst 1, 1) := by decide +kernel
theorem dX5_restore_43 : decode cX5_restore 43 = .ok (.ireturn, 1) := by decide +kernel
theorem dX5_told_0 : decode cX5_told 0 = .ok (.iload_n 1, 1) := by decide +kernel
theorem dX5_told_1 : decode cX5_told 1 = .ok (.ifCond .ne 10, 3) := by decide +kernel
theorem dX5_told_4 : decode cX5_told 4 = .ok (.aload_n 0, 1) := by decide +kernel
theorem dX5_told_5 : decode cX5_told 5 = .ok (.getfield 68, 3) := by decide +kernel
theorem dX5_told_8 : decode cX5_told 8 = .ok (.goto 41, 3) := by decide +kernel
theorem dX5_told_11 : decode cX5_told 11 = .ok (.iload_n 1, 1) := by decide +kernel
theorem dX5_told_12 : decode cX5_told 12 = .ok (.iconst 1, 1) := by decide +kernel
theorem dX5_told_13 : decode cX5_told 13 = .ok (.if_icmp .ne 10, 3) := by decide +kernel
theorem dX5_told_16 : decode cX5_told 16 = .ok (.aload_n 0, 1) := by decide +kernel
theorem dX5_told_17 : decode cX5_told 17 = .ok (.getfield 47, 3) := by decide +kernel
theorem dX5_told_20 : decode cX5_told 20 = .ok (.goto 29, 3) := by decide +kernel
theorem dX5_told_23 : decode cX5_told 23 = .ok (.iload_n 1, 1) := by decide +kernel
theorem dX5_told_24 : decode cX5_told 24 = .ok (.iconst 2, 1) := by decide +kernel
theorem dX5_told_25 : decode cX5_told 25 = .ok (.if_icmp .ne 10, 3) := by decide +kernel
theorem dX5_told_28 : decode cX5_told 28 = .ok (.aload_n 0, 1) := by decide +kernel
theorem dX5_told_29 : decode cX5_told 29 = .ok (.getfield 61, 3) := by decide +kernel
theorem dX5_told_32 : decode cX5_told 32 = .ok (.goto 17, 3) := by decide +kernel
theorem dX5_told_35 : decode cX5_told 35 = .ok (.iload_n 1, 1) := by decide +kernel
theorem dX5_told_36 : decode cX5_told 36 = .ok (.iconst 3, 1) := by decide +kernel
theorem dX5_told_37 : decode cX5_told 37 = .ok (.if_icmp .ne 10, 3) := by decide +kernel
theorem dX5_told_40 : decode cX5_told 40 = .ok (.aload_n 0, 1) := by decide +kernel
theorem dX5_told_41 : decode cX5_told 41 = .ok (.getfield 190, 3) := by decide +kernel
theorem dX5_told_44 : decode cX5_told 44 = .ok (.goto 5, 3) := by decide +kernel
theorem dX5_told_47 : decode cX5_told 47 = .ok (.bipush (-2), 2) := by decide +kernel
theorem dX5_told_49 : decode cX5_told 49 = .ok (.ireturn, 1) := by decide +kernel
