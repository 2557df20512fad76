theorem dX4_init_0 : decode cX4_init 0 = .ok (.aload_n 0, 1) := by decide +kernel
theorem dX4_init_1 : decode cX4_init 1 = .ok (.invokespecial 3, 3) := by decide +kernel
theorem dX4_init_4 : decode cX4_init 4 = .ok (.aload_n 0, 1) := by decide +kernel
theorem dX4_init_5 : decode cX4_init 5 = .ok (.new 9, 3) := by decide +kernel
theorem dX4_init_8 : decode cX4_init 8 = .ok (.dup, 1) := by decide +kernel
theorem dX4_init_9 : decode cX4_init 9 = .ok (.invokespecial 11, 3) := by decide +kernel
theorem dX4_init_12 : decode cX4_init 12 = .ok (.putfield 12, 3) := by decide +kernel
theorem dX4_init_15 : decode cX4_init 15 = .ok (.aload_n 0, 1) := by decide +kernel
theorem dX4_init_16 : decode cX4_init 16 = .ok (.new 16, 3) := by decide +kernel
theorem dX4_init_19 : decode cX4_init 19 = .ok (.dup, 1) := by decide +kernel
theorem dX4_init_20 : decode cX4_init 20 = .ok (.invokespecial 18, 3) := by decide +kernel
theorem dX4_init_23 : decode cX4_init 23 = .ok (.putfield 19, 3) := by decide +kernel
theorem dX4_init_26 : decode cX4_init 26 = .ok (.aload_n 0, 1) := by decide +kernel
theorem dX4_init_27 : decode cX4_init 27 = .ok (.iconst 2, 1) := by decide +kernel
theorem dX4_init_28 : decode cX4_init 28 = .ok (.anewarray 16, 3) := by decide +kernel
theorem dX4_init_31 : decode cX4_init 31 = .ok (.putfield 23, 3) := by decide +kernel
theorem dX4_init_34 : decode cX4_init 34 = .ok (.aload_n 0, 1) := by decide +kernel
theorem dX4_init_35 : decode cX4_init 35 = .ok (.iconst 2, 1) := by decide +kernel
theorem dX4_init_36 : decode cX4_init 36 = .ok (.newarray .boolean, 2) := by decide +kernel
theorem dX4_init_38 : decode cX4_init 38 = .ok (.putfield 27, 3) := by decide +kernel
theorem dX4_init_41 : decode cX4_init 41 = .ok (.aload_n 0, 1) := by decide +kernel
theorem dX4_init_42 : decode cX4_init 42 = .ok (.new 31, 3) := by decide +kernel
theorem dX4_init_45 : decode cX4_init 45 = .ok (.dup, 1) := by decide +kernel
theorem dX4_init_46 : decode cX4_init 46 = .ok (.invokespecial 33, 3) := by decide +kernel
theorem dX4_init_49 : decode cX4_init 49 = .ok (.putfield 34, 3) := by decide +kernel
theorem dX4_init_52 : decode cX4_init 52 = .ok (.aload_n 0, 1) := by decide +kernel
theorem dX4_init_53 : decode cX4_init 53 = .ok (.new 38, 3) := by decide +kernel
theorem dX4_init_56 : decode cX4_init 56 = .ok (.dup, 1) := by decide +kernel
theorem dX4_init_57 : decode cX4_init 57 = .ok (.invokespecial 40, 3) := by decide +kernel
theorem dX4_init_60 : decode cX4_init 60 = .ok (.putfield 41, 3) := by decide +kernel
theorem dX4_init_63 : decode cX4_init 63 = .ok (.aload_n 0, 1) := by decide +kernel
theorem dX4_init_64 : decode cX4_init 64 = .ok (.bipush 6, 2) := by decide +kernel
theorem dX4_init_66 : decode cX4_init 66 = .ok (.newarray .int, 2) := by decide +kernel
theorem dX4_init_68 : decode cX4_init 68 = .ok (.putfield 45, 3) := by decide +kernel
theorem dX4_init_71 : decode cX4_init 71 = .ok (.aload_n 0, 1) := by decide +kernel
theorem dX4_init_72 : decode cX4_init 72 = .ok (.bipush 12, 2) := by decide +kernel
theorem dX4_init_74 : decode cX4_init 74 = .ok (.newarray .long, 2) := by decide +kernel
theorem dX4_init_76 : decode cX4_init 76 = .ok (.putfield 49, 3) := by decide +kernel
theorem dX4_init_79 : decode cX4_init 79 = .ok (.iconst 0, 1) := by decide +kernel
theorem dX4_init_80 : decode cX4_init 80 = .ok (.istore_n 1, 1) := by decide +kernel
theorem dX4_init_81 : decode cX4_init 81 = .ok (.iload_n 1, 1) := by decide +kernel
theorem dX4_init_82 : decode cX4_init 82 = .ok (.iconst 2, 1) := by decide +kernel
theorem dX4_init_83 : decode cX4_init 83 = .ok (.if_icmp .ge 22, 3) := by decide +kernel
theorem dX4_init_86 : decode cX4_init 86 = .ok (.aload_n 0, 1) := by decide +kernel
theorem dX4_init_87 : decode cX4_init 87 = .ok (.getfield 23, 3) := by decide +kernel
theorem dX4_init_90 : decode cX4_init 90 = .ok (.iload_n 1, 1) := by decide +kernel
theorem dX4_init_91 : decode cX4_init 91 = .ok (.new 16, 3) := by decide +kernel
theorem dX4_init_94 : decode cX4_init 94 = .ok (.dup, 1) := by decide +kernel
theorem dX4_init_95 : decode cX4_init 95 = .ok (.invokespecial 18, 3) := by decide +kernel
theorem dX4_init_98 : decode cX4_init 98 = .ok (.aastore, 1) := by decide +kernel
theorem dX4_init_99 : decode cX4_init 99 = .ok (.iinc 1 1, 3) := by decide +kernel
theorem dX4_init_102 : decode cX4_init 102 = .ok (.goto (-21), 3) := by decide +kernel
theorem dX4_init_105 : decode cX4_init 105 = .ok (.return_, 1) := by decide +kernel
theorem dX4_set_0 : decode cX4_set 0 = .ok (.iload_n 1, 1) := by decide +kernel
theorem dX4_set_1 : decode cX4_set 1 = .ok (.ifCond .ne 36, 3) := by decide +kernel
theorem dX4_set_4 : decode cX4_set 4 = .ok (.iload_n 2, 1) := by decide +kernel
theorem dX4_set_5 : decode cX4_set 5 = .ok (.invokestatic 53, 3) := by decide +kernel
theorem dX4_set_8 : decode cX4_set 8 = .ok (.ifCond .eq 29, 3) := by decide +kernel
theorem dX4_set_11 : decode cX4_set 11 = .ok (.aload_n 0, 1) := by decide +kernel
theorem dX4_set_12 : decode cX4_set 12 = .ok (.getfield 19, 3) := by decide +kernel
theorem dX4_set_15 : decode cX4_set 15 = .ok (.getfield 57, 3) := by decide +kernel
theorem dX4_set_18 : decode cX4_set 18 = .ok (.istore_n 3, 1) := by decide +kernel
theorem dX4_set_19 : decode cX4_set 19 = .ok (.aload_n 0, 1) := by decide +kernel
theorem dX4_set_20 : decode cX4_set 20 = .ok (.getfield 19, 3) := by decide +kernel
theorem dX4_set_23 : decode cX4_set 23 = .ok (.iload_n 2, 1) := by decide +kernel
theorem dX4_set_24 : decode cX4_set 24 = .ok (.putfield 57, 3) := by decide +kernel
theorem dX4_set_27 : decode cX4_set 27 = .ok (.aload_n 0, 1) := by decide +kernel
theorem dX4_set_28 : decode cX4_set 28 = .ok (.getfield 41, 3) := by decide +kernel
theorem dX4_set_31 : decode cX4_set 31 = .ok (.iconst 0, 1) := by decide +kernel
theorem dX4_set_32 : decode cX4_set 32 = .ok (.putfield 61, 3) := by decide +kernel
theorem dX4_set_35 : decode cX4_set 35 = .ok (.iload_n 3, 1) := by decide +kernel
theorem dX4_set_36 : decode cX4_set 36 = .ok (.ireturn, 1) := by decide +kernel
theorem dX4_set_37 : decode cX4_set 37 = .ok (.iload_n 1, 1) := by decide +kernel
theorem dX4_set_38 : decode cX4_set 38 = .ok (.iconst 1, 1) := by decide +kernel
theorem dX4_set_39 : decode cX4_set 39 = .ok (.if_icmp .ne 38, 3) := by decide +kernel
theorem dX4_set_42 : decode cX4_set 42 = .ok (.iload_n 2, 1) := by decide +kernel
theorem dX4_set_43 : decode cX4_set 43 = .ok (.ifCond .lt 34, 3) := by decide +kernel
theorem dX4_set_46 : decode cX4_set 46 = .ok (.iload_n 2, 1) := by decide +kernel
theorem dX4_set_47 : decode cX4_set 47 = .ok (.iconst 2, 1) := by decide +kernel
theorem dX4_set_48 : decode cX4_set 48 = .ok (.if_icmp .gt 29, 3) := by decide +kernel
theorem dX4_set_51 : decode cX4_set 51 = .ok (.aload_n 0, 1) := by decide +kernel
theorem dX4_set_52 : decode cX4_set 52 = .ok (.getfield 19, 3) := by decide +kernel
theorem dX4_set_55 : decode cX4_set 55 = .ok (.getfield 65, 3) := by decide +kernel
theorem dX4_set_58 : decode cX4_set 58 = .ok (.istore_n 3, 1) := by decide +kernel
theorem dX4_set_59 : decode cX4_set 59 = .ok (.aload_n 0, 1) := by decide +kernel
theorem dX4_set_60 : decode cX4_set 60 = .ok (.getfield 19, 3) := by decide +kernel
theorem dX4_set_63 : decode cX4_set 63 = .ok (.iload_n 2, 1) := by decide +kernel
theorem dX4_set_64 : decode cX4_set 64 = .ok (.putfield 65, 3) := by decide +kernel
theorem dX4_set_67 : decode cX4_set 67 = .ok (.aload_n 0, 1) := by decide +kernel
theorem dX4_set_68 : decode cX4_set 68 = .ok (.getfield 41, 3) := by decide +kernel
theorem dX4_set_71 : decode cX4_set 71 = .ok (.iconst 0, 1) := by decide +kernel
theorem dX4_set_72 : decode cX4_set 72 = .ok (.putfield 61, 3) := by decide +kernel
theorem dX4_set_75 : decode cX4_set 75 = .ok (.iload_n 3, 1) := by decide +kernel
theorem dX4_set_76 : decode cX4_set 76 = .ok (.ireturn, 1) := by decide +kernel
theorem dX4_set_77 : decode cX4_set 77 = .ok (.bipush (-2), 2) := by decide +kernel
theorem dX4_set_79 : decode cX4_set 79 = .ok (.ireturn, 1) := by decide +kernel
theorem dX4_say_0 : decode cX4_say 0 = .ok (.iload_n 1, 1) := by decide +kernel
theorem dX4_say_1 : decode cX4_say 1 = .ok (.bipush 33, 2) := by decide +kernel
theorem dX4_say_3 : decode cX4_say 3 = .ok (.if_icmp .lt 9, 3) := by decide +kernel
theorem dX4_say_6 : decode cX4_say 6 = .ok (.iload_n 1, 1) := by decide +kernel
theorem dX4_say_7 : decode cX4_say 7 = .ok (.bipush 126, 2) := by decide +kernel
theorem dX4_say_9 : decode cX4_say 9 = .ok (.if_icmp .le 6, 3) := by decide +kernel
theorem dX4_say_12 : decode cX4_say 12 = .ok (.bipush (-2), 2) := by decide +kernel
theorem dX4_say_14 : decode cX4_say 14 = .ok (.ireturn, 1) := by decide +kernel
theorem dX4_say_15 : decode cX4_say 15 = .ok (.aload_n 0, 1) := by decide +kernel
theorem dX4_say_16 : decode cX4_say 16 = .ok (.getfield 12, 3) := by decide +kernel
theorem dX4_say_19 : decode cX4_say 19 = .ok (.getfield 68, 3) := by decide +kernel
theorem dX4_say_22 : decode cX4_say 22 = .ok (.bipush 40, 2) := by decide +kernel
theorem dX4_say_24 : decode cX4_say 24 = .ok (.if_icmp .lt 6, 3) := by decide +kernel
theorem dX4_say_27 : decode cX4_say 27 = .ok (.bipush (-4), 2) := by decide +kernel
theorem dX4_say_29 : decode cX4_say 29 = .ok (.ireturn, 1) := by decide +kernel
theorem dX4_say_30 : decode cX4_say 30 = .ok (.aload_n 0, 1) := by decide +kernel
theorem dX4_say_31 : decode cX4_say 31 = .ok (.getfield 41, 3) := by decide +kernel
theorem dX4_say_34 : decode cX4_say 34 = .ok (.iconst 0, 1) := by decide +kernel
theorem dX4_say_35 : decode cX4_say 35 = .ok (.putfield 61, 3) := by decide +kernel
theorem dX4_say_38 : decode cX4_say 38 = .ok (.aload_n 0, 1) := by decide +kernel
theorem dX4_say_39 : decode cX4_say 39 = .ok (.getfield 12, 3) := by decide +kernel
theorem dX4_say_42 : decode cX4_say 42 = .ok (.iload_n 1, 1) := by decide +kernel
theorem dX4_say_43 : decode cX4_say 43 = .ok (.invokevirtual 71, 3) := by decide +kernel
theorem dX4_say_46 : decode cX4_say 46 = .ok (.aload_n 0, 1) := by decide +kernel
theorem dX4_say_47 : decode cX4_say 47 = .ok (.getfield 12, 3) := by decide +kernel
theorem dX4_say_50 : decode cX4_say 50 = .ok (.getfield 68, 3) := by decide +kernel
theorem dX4_say_53 : decode cX4_say 53 = .ok (.ireturn, 1) := by decide +kernel
theorem dX4_wipe_0 : decode cX4_wipe 0 = .ok (.aload_n 0, 1) := by decide +kernel
theorem dX4_wipe_1 : decode cX4_wipe 1 = .ok (.getfield 12, 3) := by decide +kernel
theorem dX4_wipe_4 : decode cX4_wipe 4 = .ok (.getfield 68, 3) := by decide +kernel
theorem dX4_wipe_7 : decode cX4_wipe 7 = .ok (.istore_n 1, 1) := by decide +kernel
theorem dX4_wipe_8 : decode cX4_wipe 8 = .ok (.aload_n 0, 1) := by decide +kernel
theorem dX4_wipe_9 : decode cX4_wipe 9 = .ok (.getfield 12, 3) := by decide +kernel
theorem dX4_wipe_12 : decode cX4_wipe 12 = .ok (.iconst 0, 1) := by decide +kernel
theorem dX4_wipe_13 : decode cX4_wipe 13 = .ok (.putfield 68, 3) := by decide +kernel
theorem dX4_wipe_16 : decode cX4_wipe 16 = .ok (.aload_n 0, 1) := by decide +kernel
theorem dX4_wipe_17 : decode cX4_wipe 17 = .ok (.getfield 41, 3) := by decide +kernel
theorem dX4_wipe_20 : decode cX4_wipe 20 = .ok (.iconst 0, 1) := by decide +kernel
theorem dX4_wipe_21 : decode cX4_wipe 21 = .ok (.putfield 61, 3) := by decide +kernel
theorem dX4_wipe_24 : decode cX4_wipe 24 = .ok (.iload_n 1, 1) := by decide +kernel
theorem dX4_wipe_25 : decode cX4_wipe 25 = .ok (.ireturn, 1) := by decide +kernel
theorem dX4_fault_0 : decode cX4_fault 0 = .ok (.aload_n 0, 1) := by decide +kernel
theorem dX4_fault_1 : decode cX4_fault 1 = .ok (.getfield 12, 3) := by decide +kernel
theorem dX4_fault_4 : decode cX4_fault 4 = .ok (.invokevirtual 75, 3) := by decide +kernel
theorem dX4_fault_7 : decode cX4_fault 7 = .ok (.ireturn, 1) := by decide +kernel
theorem dX4_stands_0 : decode cX4_stands 0 = .ok (.iload_n 2, 1) := by decide +kernel
theorem dX4_stands_1 : decode cX4_stands 1 = .ok (.ifCond .lt 25, 3) := by decide +kernel
theorem dX4_stands_4 : decode cX4_stands 4 = .ok (.iload_n 2, 1) := by decide +kernel
theorem dX4_stands_5 : decode cX4_stands 5 = .ok (.bipush 9, 2) := by decide +kernel
theorem dX4_stands_7 : decode cX4_stands 7 = .ok (.if_icmp .ge 19, 3) := by decide +kernel
theorem dX4_stands_10 : decode cX4_stands 10 = .ok (.iload_n 1, 1) := by decide +kernel
theorem dX4_stands_11 : decode cX4_stands 11 = .ok (.iconst (-1), 1) := by decide +kernel
theorem dX4_stands_12 : decode cX4_stands 12 = .ok (.if_icmp .lt 14, 3) := by decide +kernel
theorem dX4_stands_15 : decode cX4_stands 15 = .ok (.iload_n 1, 1) := by decide +kernel
theorem dX4_stands_16 : decode cX4_stands 16 = .ok (.aload_n 0, 1) := by decide +kernel
theorem dX4_stands_17 : decode cX4_stands 17 = .ok (.getfield 12, 3) := by decide +kernel
theorem dX4_stands_20 : decode cX4_stands 20 = .ok (.getfield 68, 3) := by decide +kernel
theorem dX4_stands_23 : decode cX4_stands 23 = .ok (.if_icmp .le 6, 3) := by decide +kernel
theorem dX4_stands_26 : decode cX4_stands 26 = .ok (.bipush (-2), 2) := by decide +kernel
theorem dX4_stands_28 : decode cX4_stands 28 = .ok (.ireturn, 1) := by decide +kernel
theorem dX4_stands_29 : decode cX4_stands 29 = .ok (.iload_n 1, 1) := by decide +kernel
theorem dX4_stands_30 : decode cX4_stands 30 = .ok (.iconst (-1), 1) := by decide +kernel
theorem dX4_stands_31 : decode cX4_stands 31 = .ok (.if_icmp .ne 13, 3) := by decide +kernel
theorem dX4_stands_34 : decode cX4_stands 34 = .ok (.aload_n 0, 1) := by decide +kernel
theorem dX4_stands_35 : decode cX4_stands 35 = .ok (.getfield 12, 3) := by decide +kernel
theorem dX4_stands_38 : decode cX4_stands 38 = .ok (.getfield 68, 3) := by decide +kernel
theorem dX4_stands_41 : decode cX4_stands 41 = .ok (.goto 4, 3) := by decide +kernel
theorem dX4_stands_44 : decode cX4_stands 44 = .ok (.iload_n 1, 1) := by decide +kernel
theorem dX4_stands_45 : decode cX4_stands 45 = .ok (.istore_n 3, 1) := by decide +kernel
theorem dX4_stands_46 : decode cX4_stands 46 = .ok (.aload_n 0, 1) := by decide +kernel
theorem dX4_stands_47 : decode cX4_stands 47 = .ok (.iload_n 3, 1) := by decide +kernel
theorem dX4_stands_48 : decode cX4_stands 48 = .ok (.invokevirtual 79, 3) := by decide +kernel
theorem dX4_stands_51 : decode cX4_stands 51 = .ok (.istore 4, 2) := by decide +kernel
theorem dX4_stands_53 : decode cX4_stands 53 = .ok (.iload 4, 2) := by decide +kernel
theorem dX4_stands_55 : decode cX4_stands 55 = .ok (.ifCond .eq 6, 3) := by decide +kernel
theorem dX4_stands_58 : decode cX4_stands 58 = .ok (.iload 4, 2) := by decide +kernel
theorem dX4_stands_60 : decode cX4_stands 60 = .ok (.ireturn, 1) := by decide +kernel
theorem dX4_stands_61 : decode cX4_stands 61 = .ok (.aload_n 0, 1) := by decide +kernel
theorem dX4_stands_62 : decode cX4_stands 62 = .ok (.iload_n 3, 1) := by decide +kernel
theorem dX4_stands_63 : decode cX4_stands 63 = .ok (.aload_n 0, 1) := by decide +kernel
theorem dX4_stands_64 : decode cX4_stands 64 = .ok (.getfield 19, 3) := by decide +kernel
theorem dX4_stands_67 : decode cX4_stands 67 = .ok (.getfield 57, 3) := by decide +kernel
theorem dX4_stands_70 : decode cX4_stands 70 = .ok (.invokevirtual 83, 3) := by decide +kernel
theorem dX4_stands_73 : decode cX4_stands 73 = .ok (.aload_n 0, 1) := by decide +kernel
theorem dX4_stands_74 : decode cX4_stands 74 = .ok (.getfield 34, 3) := by decide +kernel
theorem dX4_stands_77 : decode cX4_stands 77 = .ok (.iload_n 2, 1) := by decide +kernel
theorem dX4_stands_78 : decode cX4_stands 78 = .ok (.invokevirtual 87, 3) := by decide +kernel
theorem dX4_stands_81 : decode cX4_stands 81 = .ok (.istore 5, 2) := by decide +kernel
theorem dX4_stands_83 : decode cX4_stands 83 = .ok (.iload 5, 2) := by decide +kernel
theorem dX4_stands_85 : decode cX4_stands 85 = .ok (.iconst (-1), 1) := by decide +kernel
theorem dX4_stands_86 : decode cX4_stands 86 = .ok (.if_icmp .ne 8, 3) := by decide +kernel
theorem dX4_stands_89 : decode cX4_stands 89 = .ok (.bipush (-6), 2) := by decide +kernel
theorem dX4_stands_91 : decode cX4_stands 91 = .ok (.goto 5, 3) := by decide +kernel
theorem dX4_stands_94 : decode cX4_stands 94 = .ok (.iload 5, 2) := by decide +kernel
theorem dX4_stands_96 : decode cX4_stands 96 = .ok (.ireturn, 1) := by decide +kernel
theorem dX4_read_0 : decode cX4_read 0 = .ok (.aload_n 0, 1) := by decide +kernel
theorem dX4_read_1 : decode cX4_read 1 = .ok (.iload_n 1, 1) := by decide +kernel
theorem dX4_read_2 : decode cX4_read 2 = .ok (.invokevirtual 90, 3) := by decide +kernel
theorem dX4_read_5 : decode cX4_read 5 = .ok (.istore_n 2, 1) := by decide +kernel
theorem dX4_read_6 : decode cX4_read 6 = .ok (.iload_n 2, 1) := by decide +kernel
theorem dX4_read_7 : decode cX4_read 7 = .ok (.ifCond .eq 5, 3) := by decide +kernel
theorem dX4_read_10 : decode cX4_read 10 = .ok (.iload_n 2, 1) := by decide +kernel
theorem dX4_read_11 : decode cX4_read 11 = .ok (.ireturn, 1) := by decide +kernel
theorem dX4_read_12 : decode cX4_read 12 = .ok (.iconst 0, 1) := by decide +kernel
theorem dX4_read_13 : decode cX4_read 13 = .ok (.istore_n 3, 1) := by decide +kernel
theorem dX4_read_14 : decode cX4_read 14 = .ok (.aload_n 0, 1) := by decide +kernel
theorem dX4_read_15 : decode cX4_read 15 = .ok (.getfield 34, 3) := by decide +kernel
theorem dX4_read_18 : decode cX4_read 18 = .ok (.aload_n 0, 1) := by decide +kernel
theorem dX4_read_19 : decode cX4_read 19 = .ok (.getfield 19, 3) := by decide +kernel
theorem dX4_read_22 : decode cX4_read 22 = .ok (.getfield 57, 3) := by decide +kernel
theorem dX4_read_25 : decode cX4_read 25 = .ok (.aload_n 0, 1) := by decide +kernel
theorem dX4_read_26 : decode cX4_read 26 = .ok (.getfield 19, 3) := by decide +kernel
theorem dX4_read_29 : decode cX4_read 29 = .ok (.getfield 65, 3) := by decide +kernel
theorem dX4_read_32 : decode cX4_read 32 = .ok (.invokevirtual 93, 3) := by decide +kernel
theorem dX4_read_35 : decode cX4_read 35 = .ok (.iconst 0, 1) := by decide +kernel
theorem dX4_read_36 : decode cX4_read 36 = .ok (.istore 4, 2) := by decide +kernel
theorem dX4_read_38 : decode cX4_read 38 = .ok (.iload 4, 2) := by decide +kernel
theorem dX4_read_40 : decode cX4_read 40 = .ok (.aload_n 0, 1) := by decide +kernel
theorem dX4_read_41 : decode cX4_read 41 = .ok (.getfield 12, 3) := by decide +kernel
theorem dX4_read_44 : decode cX4_read 44 = .ok (.getfield 68, 3) := by decide +kernel
theorem dX4_read_47 : decode cX4_read 47 = .ok (.if_icmp .ge 38, 3) := by decide +kernel
theorem dX4_read_50 : decode cX4_read 50 = .ok (.aload_n 0, 1) := by decide +kernel
theorem dX4_read_51 : decode cX4_read 51 = .ok (.iload 4, 2) := by decide +kernel
theorem dX4_read_53 : decode cX4_read 53 = .ok (.invokevirtual 96, 3) := by decide +kernel
theorem dX4_read_56 : decode cX4_read 56 = .ok (.aload_n 0, 1) := by decide +kernel
theorem dX4_read_57 : decode cX4_read 57 = .ok (.getfield 12, 3) := by decide +kernel
theorem dX4_read_60 : decode cX4_read 60 = .ok (.iload 4, 2) := by decide +kernel
theorem dX4_read_62 : decode cX4_read 62 = .ok (.invokevirtual 99, 3) := by decide +kernel
theorem dX4_read_65 : decode cX4_read 65 = .ok (.iload_n 1, 1) := by decide +kernel
theorem dX4_read_66 : decode cX4_read 66 = .ok (.if_icmp .ne 13, 3) := by decide +kernel
theorem dX4_read_69 : decode cX4_read 69 = .ok (.iload_n 3, 1) := by decide +kernel
theorem dX4_read_70 : decode cX4_read 70 = .ok (.aload_n 0, 1) := by decide +kernel
theorem dX4_read_71 : decode cX4_read 71 = .ok (.getfield 34, 3) := by decide +kernel
theorem dX4_read_74 : decode cX4_read 74 = .ok (.invokevirtual 102, 3) := by decide +kernel
theorem dX4_read_77 : decode cX4_read 77 = .ok (.ior, 1) := by decide +kernel
theorem dX4_read_78 : decode cX4_read 78 = .ok (.istore_n 3, 1) := by decide +kernel
theorem dX4_read_79 : decode cX4_read 79 = .ok (.iinc 4 1, 3) := by decide +kernel
theorem dX4_read_82 : decode cX4_read 82 = .ok (.goto (-44), 3) := by decide +kernel
theorem dX4_read_85 : decode cX4_read 85 = .ok (.iload_n 3, 1) := by decide +kernel
theorem dX4_read_86 : decode cX4_read 86 = .ok (.ireturn, 1) := by decide +kernel
theorem dX4_seen_0 : decode cX4_seen 0 = .ok (.aload_n 0, 1) := by decide +kernel
theorem dX4_seen_1 : decode cX4_seen 1 = .ok (.iload_n 1, 1) := by decide +kernel
theorem dX4_seen_2 : decode cX4_seen 2 = .ok (.invokevirtual 90, 3) := by decide +kernel
theorem dX4_seen_5 : decode cX4_seen 5 = .ok (.istore_n 2, 1) := by decide +kernel
theorem dX4_seen_6 : decode cX4_seen 6 = .ok (.iload_n 2, 1) := by decide +kernel
theorem dX4_seen_7 : decode cX4_seen 7 = .ok (.ifCond .eq 7, 3) := by decide +kernel
theorem dX4_seen_10 : decode cX4_seen 10 = .ok (.iload_n 2, 1) := by decide +kernel
theorem dX4_seen_11 : decode cX4_seen 11 = .ok (.goto 9, 3) := by decide +kernel
theorem dX4_seen_14 : decode cX4_seen 14 = .ok (.aload_n 0, 1) := by decide +kernel
theorem dX4_seen_15 : decode cX4_seen 15 = .ok (.iload_n 1, 1) := by decide +kernel
theorem dX4_seen_16 : decode cX4_seen 16 = .ok (.iconst (-1), 1) := by decide +kernel
theorem dX4_seen_17 : decode cX4_seen 17 = .ok (.invokevirtual 105, 3) := by decide +kernel
theorem dX4_seen_20 : decode cX4_seen 20 = .ok (.ireturn, 1) := by decide +kernel
theorem dX4_missed_0 : decode cX4_missed 0 = .ok (.aload_n 0, 1) := by decide +kernel
theorem dX4_missed_1 : decode cX4_missed 1 = .ok (.aload_n 0, 1) := by decide +kernel
theorem dX4_missed_2 : decode cX4_missed 2 = .ok (.getfield 12, 3) := by decide +kernel
theorem dX4_missed_5 : decode cX4_missed 5 = .ok (.getfield 68, 3) := by decide +kernel
theorem dX4_missed_8 : decode cX4_missed 8 = .ok (.invokevirtual 79, 3) := by decide +kernel
theorem dX4_missed_11 : decode cX4_missed 11 = .ok (.istore_n 2, 1) := by decide +kernel
theorem dX4_missed_12 : decode cX4_missed 12 = .ok (.iload_n 2, 1) := by decide +kernel
theorem dX4_missed_13 : decode cX4_missed 13 = .ok (.ifCond .eq 5, 3) := by decide +kernel
theorem dX4_missed_16 : decode cX4_missed 16 = .ok (.iload_n 2, 1) := by decide +kernel
theorem dX4_missed_17 : decode cX4_missed 17 = .ok (.ireturn, 1) := by decide +kernel
theorem dX4_missed_18 : decode cX4_missed 18 = .ok (.aload_n 0, 1) := by decide +kernel
theorem dX4_missed_19 : decode cX4_missed 19 = .ok (.aload_n 0, 1) := by decide +kernel
theorem dX4_missed_20 : decode cX4_missed 20 = .ok (.getfield 19, 3) := by decide +kernel
theorem dX4_missed_23 : decode cX4_missed 23 = .ok (.getfield 57, 3) := by decide +kernel
theorem dX4_missed_26 : decode cX4_missed 26 = .ok (.invokevirtual 109, 3) := by decide +kernel
theorem dX4_missed_29 : decode cX4_missed 29 = .ok (.lstore_n 3, 1) := by decide +kernel
theorem dX4_missed_30 : decode cX4_missed 30 = .ok (.iload_n 1, 1) := by decide +kernel
theorem dX4_missed_31 : decode cX4_missed 31 = .ok (.iconst (-1), 1) := by decide +kernel
theorem dX4_missed_32 : decode cX4_missed 32 = .ok (.if_icmp .ne 10, 3) := by decide +kernel
theorem dX4_missed_35 : decode cX4_missed 35 = .ok (.lload_n 3, 1) := by decide +kernel
theorem dX4_missed_36 : decode cX4_missed 36 = .ok (.invokestatic 113, 3) := by decide +kernel
theorem dX4_missed_39 : decode cX4_missed 39 = .ok (.goto 9, 3) := by decide +kernel
theorem dX4_missed_42 : decode cX4_missed 42 = .ok (.aload_n 0, 1) := by decide +kernel
theorem dX4_missed_43 : decode cX4_missed 43 = .ok (.lload_n 3, 1) := by decide +kernel
theorem dX4_missed_44 : decode cX4_missed 44 = .ok (.iload_n 1, 1) := by decide +kernel
theorem dX4_missed_45 : decode cX4_missed 45 = .ok (.invokevirtual 119, 3) := by decide +kernel
theorem dX4_missed_48 : decode cX4_missed 48 = .ok (.ireturn, 1) := by decide +kernel
theorem dX4_hired_0 : decode cX4_hired 0 = .ok (.iload_n 2, 1) := by decide +kernel
theorem dX4_hired_1 : decode cX4_hired 1 = .ok (.invokestatic 123, 3) := by decide +kernel
theorem dX4_hired_4 : decode cX4_hired 4 = .ok (.ifCond .ne 5, 3) := by decide +kernel
theorem dX4_hired_7 : decode cX4_hired 7 = .ok (.iconst (-1), 1) := by decide +kernel
theorem dX4_hired_8 : decode cX4_hired 8 = .ok (.ireturn, 1) := by decide +kernel
theorem dX4_hired_9 : decode cX4_hired 9 = .ok (.iload_n 1, 1) := by decide +kernel
theorem dX4_hired_10 : decode cX4_hired 10 = .ok (.iconst 1, 1) := by decide +kernel
theorem dX4_hired_11 : decode cX4_hired 11 = .ok (.if_icmp .lt 10, 3) := by decide +kernel
theorem dX4_hired_14 : decode cX4_hired 14 = .ok (.iload_n 1, 1) := by decide +kernel
theorem dX4_hired_15 : decode cX4_hired 15 = .ok (.sipush 256, 3) := by decide +kernel
theorem dX4_hired_18 : decode cX4_hired 18 = .ok (.if_icmp .lt 6, 3) := by decide +kernel
theorem dX4_hired_21 : decode cX4_hired 21 = .ok (.bipush (-2), 2) := by decide +kernel
theorem dX4_hired_23 : decode cX4_hired 23 = .ok (.ireturn, 1) := by decide +kernel
theorem dX4_hired_24 : decode cX4_hired 24 = .ok (.aload_n 0, 1) := by decide +kernel
theorem dX4_hired_25 : decode cX4_hired 25 = .ok (.aload_n 0, 1) := by decide +kernel
theorem dX4_hired_26 : decode cX4_hired 26 = .ok (.getfield 12, 3) := by decide +kernel
theorem dX4_hired_29 : decode cX4_hired 29 = .ok (.getfield 68, 3) := by decide +kernel
theorem dX4_hired_32 : decode cX4_hired 32 = .ok (.invokevirtual 79, 3) := by decide +kernel
theorem dX4_hired_35 : decode cX4_hired 35 = .ok (.istore 4, 2) := by decide +kernel
theorem dX4_hired_37 : decode cX4_hired 37 = .ok (.iload 4, 2) := by decide +kernel
theorem dX4_hired_39 : decode cX4_hired 39 = .ok (.ifCond .eq 6, 3) := by decide +kernel
theorem dX4_hired_42 : decode cX4_hired 42 = .ok (.iload 4, 2) := by decide +kernel
theorem dX4_hired_44 : decode cX4_hired 44 = .ok (.ireturn, 1) := by decide +kernel
theorem dX4_hired_45 : decode cX4_hired 45 = .ok (.aload_n 0, 1) := by decide +kernel
theorem dX4_hired_46 : decode cX4_hired 46 = .ok (.getfield 12, 3) := by decide +kernel
theorem dX4_hired_49 : decode cX4_hired 49 = .ok (.iload_n 1, 1) := by decide +kernel
theorem dX4_hired_50 : decode cX4_hired 50 = .ok (.invokevirtual 126, 3) := by decide +kernel
theorem dX4_hired_53 : decode cX4_hired 53 = .ok (.istore 5, 2) := by decide +kernel
theorem dX4_hired_55 : decode cX4_hired 55 = .ok (.iload 5, 2) := by decide +kernel
theorem dX4_hired_57 : decode cX4_hired 57 = .ok (.bipush 6, 2) := by decide +kernel
theorem dX4_hired_59 : decode cX4_hired 59 = .ok (.if_icmp .le 6, 3) := by decide +kernel
theorem dX4_hired_62 : decode cX4_hired 62 = .ok (.bipush (-4), 2) := by decide +kernel
theorem dX4_hired_64 : decode cX4_hired 64 = .ok (.ireturn, 1) := by decide +kernel
theorem dX4_hired_65 : decode cX4_hired 65 = .ok (.aload_n 0, 1) := by decide +kernel
theorem dX4_hired_66 : decode cX4_hired 66 = .ok (.iload_n 1, 1) := by decide +kernel
theorem dX4_hired_67 : decode cX4_hired 67 = .ok (.iload_n 2, 1) := by decide +kernel
theorem dX4_hired_68 : decode cX4_hired 68 = .ok (.invokevirtual 129, 3) := by decide +kernel
theorem dX4_hired_71 : decode cX4_hired 71 = .ok (.istore 6, 2) := by decide +kernel
theorem dX4_hired_73 : decode cX4_hired 73 = .ok (.iload 6, 2) := by decide +kernel
theorem dX4_hired_75 : decode cX4_hired 75 = .ok (.bipush 9, 2) := by decide +kernel
theorem dX4_hired_77 : decode cX4_hired 77 = .ok (.if_icmp .le 6, 3) := by decide +kernel
theorem dX4_hired_80 : decode cX4_hired 80 = .ok (.bipush (-6), 2) := by decide +kernel
theorem dX4_hired_82 : decode cX4_hired 82 = .ok (.ireturn, 1) := by decide +kernel
theorem dX4_hired_83 : decode cX4_hired 83 = .ok (.iload_n 3, 1) := by decide +kernel
theorem dX4_hired_84 : decode cX4_hired 84 = .ok (.iconst (-1), 1) := by decide +kernel
theorem dX4_hired_85 : decode cX4_hired 85 = .ok (.if_icmp .ne 6, 3) := by decide +kernel
theorem dX4_hired_88 : decode cX4_hired 88 = .ok (.iload 6, 2) := by decide +kernel
theorem dX4_hired_90 : decode cX4_hired 90 = .ok (.ireturn, 1) := by decide +kernel
theorem dX4_hired_91 : decode cX4_hired 91 = .ok (.iload_n 3, 1) := by decide +kernel
theorem dX4_hired_92 : decode cX4_hired 92 = .ok (.ifCond .lt 27, 3) := by decide +kernel
theorem dX4_hired_95 : decode cX4_hired 95 = .ok (.iload_n 3, 1) := by decide +kernel
theorem dX4_hired_96 : decode cX4_hired 96 = .ok (.iload 5, 2) := by decide +kernel
theorem dX4_hired_98 : decode cX4_hired 98 = .ok (.if_icmp .ge 21, 3) := by decide +kernel
theorem dX4_hired_101 : decode cX4_hired 101 = .ok (.iload_n 3, 1) := by decide +kernel
theorem dX4_hired_102 : decode cX4_hired 102 = .ok (.aload_n 0, 1) := by decide +kernel
theorem dX4_hired_103 : decode cX4_hired 103 = .ok (.getfield 45, 3) := by decide +kernel
theorem dX4_hired_106 : decode cX4_hired 106 = .ok (.arraylength, 1) := by decide +kernel
theorem dX4_hired_107 : decode cX4_hired 107 = .ok (.if_icmp .ge 12, 3) := by decide +kernel
theorem dX4_hired_110 : decode cX4_hired 110 = .ok (.aload_n 0, 1) := by decide +kernel
theorem dX4_hired_111 : decode cX4_hired 111 = .ok (.getfield 45, 3) := by decide +kernel
theorem dX4_hired_114 : decode cX4_hired 114 = .ok (.iload_n 3, 1) := by decide +kernel
theorem dX4_hired_115 : decode cX4_hired 115 = .ok (.iaload, 1) := by decide +kernel
theorem dX4_hired_116 : decode cX4_hired 116 = .ok (.goto 5, 3) := by decide +kernel
theorem dX4_hired_119 : decode cX4_hired 119 = .ok (.bipush (-6), 2) := by decide +kernel
theorem dX4_hired_121 : decode cX4_hired 121 = .ok (.ireturn, 1) := by decide +kernel
theorem dX4_cross_0 : decode cX4_cross 0 = .ok (.aload_n 0, 1) := by decide +kernel
theorem dX4_cross_1 : decode cX4_cross 1 = .ok (.iload_n 1, 1) := by decide +kernel
theorem dX4_cross_2 : decode cX4_cross 2 = .ok (.iload_n 2, 1) := by decide +kernel
theorem dX4_cross_3 : decode cX4_cross 3 = .ok (.invokevirtual 132, 3) := by decide +kernel
theorem dX4_cross_6 : decode cX4_cross 6 = .ok (.istore_n 3, 1) := by decide +kernel
theorem dX4_cross_7 : decode cX4_cross 7 = .ok (.iload_n 3, 1) := by decide +kernel
theorem dX4_cross_8 : decode cX4_cross 8 = .ok (.ifCond .eq 5, 3) := by decide +kernel
theorem dX4_cross_11 : decode cX4_cross 11 = .ok (.iload_n 3, 1) := by decide +kernel
theorem dX4_cross_12 : decode cX4_cross 12 = .ok (.ireturn, 1) := by decide +kernel
theorem dX4_cross_13 : decode cX4_cross 13 = .ok (.iconst 0, 1) := by decide +kernel
theorem dX4_cross_14 : decode cX4_cross 14 = .ok (.istore 4, 2) := by decide +kernel
theorem dX4_cross_16 : decode cX4_cross 16 = .ok (.bipush 9, 2) := by decide +kernel
theorem dX4_cross_18 : decode cX4_cross 18 = .ok (.istore 5, 2) := by decide +kernel
theorem dX4_cross_20 : decode cX4_cross 20 = .ok (.iconst 0, 1) := by decide +kernel
theorem dX4_cross_21 : decode cX4_cross 21 = .ok (.istore 6, 2) := by decide +kernel
theorem dX4_cross_23 : decode cX4_cross 23 = .ok (.iload 6, 2) := by decide +kernel
theorem dX4_cross_25 : decode cX4_cross 25 = .ok (.aload_n 0, 1) := by decide +kernel
theorem dX4_cross_26 : decode cX4_cross 26 = .ok (.getfield 12, 3) := by decide +kernel
theorem dX4_cross_29 : decode cX4_cross 29 = .ok (.getfield 68, 3) := by decide +kernel
theorem dX4_cross_32 : decode cX4_cross 32 = .ok (.if_icmp .gt 36, 3) := by decide +kernel
theorem dX4_cross_35 : decode cX4_cross 35 = .ok (.aload_n 0, 1) := by decide +kernel
theorem dX4_cross_36 : decode cX4_cross 36 = .ok (.iload_n 1, 1) := by decide +kernel
theorem dX4_cross_37 : decode cX4_cross 37 = .ok (.iload 6, 2) := by decide +kernel
theorem dX4_cross_39 : decode cX4_cross 39 = .ok (.invokevirtual 105, 3) := by decide +kernel
theorem dX4_cross_42 : decode cX4_cross 42 = .ok (.invokestatic 135, 3) := by decide +kernel
theorem dX4_cross_45 : decode cX4_cross 45 = .ok (.istore 7, 2) := by decide +kernel
theorem dX4_cross_47 : decode cX4_cross 47 = .ok (.iload 7, 2) := by decide +kernel
theorem dX4_cross_49 : decode cX4_cross 49 = .ok (.iload 5, 2) := by decide +kernel
theorem dX4_cross_51 : decode cX4_cross 51 = .ok (.if_icmp .ge 11, 3) := by decide +kernel
theorem dX4_cross_54 : decode cX4_cross 54 = .ok (.iload 7, 2) := by decide +kernel
theorem dX4_cross_56 : decode cX4_cross 56 = .ok (.istore 5, 2) := by decide +kernel
theorem dX4_cross_58 : decode cX4_cross 58 = .ok (.iload 6, 2) := by decide +kernel
theorem dX4_cross_60 : decode cX4_cross 60 = .ok (.istore 4, 2) := by decide +kernel
theorem dX4_cross_62 : decode cX4_cross 62 = .ok (.iinc 6 1, 3) := by decide +kernel
theorem dX4_cross_65 : decode cX4_cross 65 = .ok (.goto (-42), 3) := by decide +kernel
theorem dX4_cross_68 : decode cX4_cross 68 = .ok (.iload_n 2, 1) := by decide +kernel
theorem dX4_cross_69 : decode cX4_cross 69 = .ok (.ifCond .ne 8, 3) := by decide +kernel
theorem dX4_cross_72 : decode cX4_cross 72 = .ok (.iload 4, 2) := by decide +kernel
theorem dX4_cross_74 : decode cX4_cross 74 = .ok (.goto 5, 3) := by decide +kernel
theorem dX4_cross_77 : decode cX4_cross 77 = .ok (.iload 5, 2) := by decide +kernel
theorem dX4_cross_79 : decode cX4_cross 79 = .ok (.ireturn, 1) := by decide +kernel
theorem dX4_unseen_0 : decode cX4_unseen 0 = .ok (.aload_n 0, 1) := by decide +kernel
theorem dX4_unseen_1 : decode cX4_unseen 1 = .ok (.iload_n 1, 1) := by decide +kernel
theorem dX4_unseen_2 : decode cX4_unseen 2 = .ok (.iconst 0, 1) := by decide +kernel
theorem dX4_unseen_3 : decode cX4_unseen 3 = .ok (.invokevirtual 132, 3) := by decide +kernel
theorem dX4_unseen_6 : decode cX4_unseen 6 = .ok (.istore_n 2, 1) := by decide +kernel
theorem dX4_unseen_7 : decode cX4_unseen 7 = .ok (.iload_n 2, 1) := by decide +kernel
theorem dX4_unseen_8 : decode cX4_unseen 8 = .ok (.ifCond .eq 5, 3) := by decide +kernel
theorem dX4_unseen_11 : decode cX4_unseen 11 = .ok (.iload_n 2, 1) := by decide +kernel
theorem dX4_unseen_12 : decode cX4_unseen 12 = .ok (.ireturn, 1) := by decide +kernel
theorem dX4_unseen_13 : decode cX4_unseen 13 = .ok (.iconst 0, 1) := by decide +kernel
theorem dX4_unseen_14 : decode cX4_unseen 14 = .ok (.istore_n 3, 1) := by decide +kernel
theorem dX4_unseen_15 : decode cX4_unseen 15 = .ok (.iconst 0, 1) := by decide +kernel
theorem dX4_unseen_16 : decode cX4_unseen 16 = .ok (.istore 4, 2) := by decide +kernel
theorem dX4_unseen_18 : decode cX4_unseen 18 = .ok (.iload 4, 2) := by decide +kernel
theorem dX4_unseen_20 : decode cX4_unseen 20 = .ok (.aload_n 0, 1) := by decide +kernel
theorem dX4_unseen_21 : decode cX4_unseen 21 = .ok (.getfield 12, 3) := by decide +kernel
theorem dX4_unseen_24 : decode cX4_unseen 24 = .ok (.getfield 68, 3) := by decide +kernel
theorem dX4_unseen_27 : decode cX4_unseen 27 = .ok (.if_icmp .gt 22, 3) := by decide +kernel
theorem dX4_unseen_30 : decode cX4_unseen 30 = .ok (.aload_n 0, 1) := by decide +kernel
theorem dX4_unseen_31 : decode cX4_unseen 31 = .ok (.iload_n 1, 1) := by decide +kernel
theorem dX4_unseen_32 : decode cX4_unseen 32 = .ok (.iload 4, 2) := by decide +kernel
theorem dX4_unseen_34 : decode cX4_unseen 34 = .ok (.invokevirtual 105, 3) := by decide +kernel
theorem dX4_unseen_37 : decode cX4_unseen 37 = .ok (.ifCond .ne 6, 3) := by decide +kernel
theorem dX4_unseen_40 : decode cX4_unseen 40 = .ok (.iinc 3 1, 3) := by decide +kernel
theorem dX4_unseen_43 : decode cX4_unseen 43 = .ok (.iinc 4 1, 3) := by decide +kernel
theorem dX4_unseen_46 : decode cX4_unseen 46 = .ok (.goto (-28), 3) := by decide +kernel
theorem dX4_unseen_49 : decode cX4_unseen 49 = .ok (.iload_n 3, 1) := by decide +kernel
theorem dX4_unseen_50 : decode cX4_unseen 50 = .ok (.ireturn, 1) := by decide +kernel
theorem dX4_look_0 : decode cX4_look 0 = .ok (.aload_n 0, 1) := by decide +kernel
theorem dX4_look_1 : decode cX4_look 1 = .ok (.iload_n 1, 1) := by decide +kernel
theorem dX4_look_2 : decode cX4_look 2 = .ok (.invokevirtual 139, 3) := by decide +kernel
theorem dX4_look_5 : decode cX4_look 5 = .ok (.istore_n 2, 1) := by decide +kernel
theorem dX4_look_6 : decode cX4_look 6 = .ok (.iload_n 2, 1) := by decide +kernel
theorem dX4_look_7 : decode cX4_look 7 = .ok (.ifCond .eq 5, 3) := by decide +kernel
theorem dX4_look_10 : decode cX4_look 10 = .ok (.iload_n 2, 1) := by decide +kernel
theorem dX4_look_11 : decode cX4_look 11 = .ok (.ireturn, 1) := by decide +kernel
theorem dX4_look_12 : decode cX4_look 12 = .ok (.aload_n 0, 1) := by decide +kernel
theorem dX4_look_13 : decode cX4_look 13 = .ok (.getfield 12, 3) := by decide +kernel
theorem dX4_look_16 : decode cX4_look 16 = .ok (.getfield 68, 3) := by decide +kernel
theorem dX4_look_19 : decode cX4_look 19 = .ok (.bipush 40, 2) := by decide +kernel
theorem dX4_look_21 : decode cX4_look 21 = .ok (.if_icmp .lt 6, 3) := by decide +kernel
theorem dX4_look_24 : decode cX4_look 24 = .ok (.bipush (-4), 2) := by decide +kernel
theorem dX4_look_26 : decode cX4_look 26 = .ok (.ireturn, 1) := by decide +kernel
theorem dX4_look_27 : decode cX4_look 27 = .ok (.aload_n 0, 1) := by decide +kernel
theorem dX4_look_28 : decode cX4_look 28 = .ok (.aload_n 0, 1) := by decide +kernel
theorem dX4_look_29 : decode cX4_look 29 = .ok (.getfield 19, 3) := by decide +kernel
theorem dX4_look_32 : decode cX4_look 32 = .ok (.getfield 57, 3) := by decide +kernel
theorem dX4_look_35 : decode cX4_look 35 = .ok (.invokevirtual 109, 3) := by decide +kernel
theorem dX4_look_38 : decode cX4_look 38 = .ok (.lstore_n 3, 1) := by decide +kernel
theorem dX4_look_39 : decode cX4_look 39 = .ok (.iconst 0, 1) := by decide +kernel
theorem dX4_look_40 : decode cX4_look 40 = .ok (.istore 5, 2) := by decide +kernel
theorem dX4_look_42 : decode cX4_look 42 = .ok (.lload_n 3, 1) := by decide +kernel
theorem dX4_look_43 : decode cX4_look 43 = .ok (.invokestatic 113, 3) := by decide +kernel
theorem dX4_look_46 : decode cX4_look 46 = .ok (.istore 6, 2) := by decide +kernel
theorem dX4_look_48 : decode cX4_look 48 = .ok (.aload_n 0, 1) := by decide +kernel
theorem dX4_look_49 : decode cX4_look 49 = .ok (.getfield 34, 3) := by decide +kernel
theorem dX4_look_52 : decode cX4_look 52 = .ok (.aload_n 0, 1) := by decide +kernel
theorem dX4_look_53 : decode cX4_look 53 = .ok (.getfield 19, 3) := by decide +kernel
theorem dX4_look_56 : decode cX4_look 56 = .ok (.getfield 57, 3) := by decide +kernel
theorem dX4_look_59 : decode cX4_look 59 = .ok (.aload_n 0, 1) := by decide +kernel
theorem dX4_look_60 : decode cX4_look 60 = .ok (.getfield 19, 3) := by decide +kernel
theorem dX4_look_63 : decode cX4_look 63 = .ok (.getfield 65, 3) := by decide +kernel
theorem dX4_look_66 : decode cX4_look 66 = .ok (.invokevirtual 93, 3) := by decide +kernel
theorem dX4_look_69 : decode cX4_look 69 = .ok (.iconst 0, 1) := by decide +kernel
theorem dX4_look_70 : decode cX4_look 70 = .ok (.istore 7, 2) := by decide +kernel
theorem dX4_look_72 : decode cX4_look 72 = .ok (.iload 7, 2) := by decide +kernel
theorem dX4_look_74 : decode cX4_look 74 = .ok (.aload_n 0, 1) := by decide +kernel
theorem dX4_look_75 : decode cX4_look 75 = .ok (.getfield 12, 3) := by decide +kernel
theorem dX4_look_78 : decode cX4_look 78 = .ok (.getfield 68, 3) := by decide +kernel
theorem dX4_look_81 : decode cX4_look 81 = .ok (.if_icmp .ge 50, 3) := by decide +kernel
theorem dX4_look_84 : decode cX4_look 84 = .ok (.aload_n 0, 1) := by decide +kernel
theorem dX4_look_85 : decode cX4_look 85 = .ok (.iload 7, 2) := by decide +kernel
theorem dX4_look_87 : decode cX4_look 87 = .ok (.invokevirtual 96, 3) := by decide +kernel
theorem dX4_look_90 : decode cX4_look 90 = .ok (.lload_n 3, 1) := by decide +kernel
theorem dX4_look_91 : decode cX4_look 91 = .ok (.aload_n 0, 1) := by decide +kernel
theorem dX4_look_92 : decode cX4_look 92 = .ok (.getfield 34, 3) := by decide +kernel
theorem dX4_look_95 : decode cX4_look 95 = .ok (.invokevirtual 142, 3) := by decide +kernel
theorem dX4_look_98 : decode cX4_look 98 = .ok (.ldc2_w 146, 3) := by decide +kernel
theorem dX4_look_101 : decode cX4_look 101 = .ok (.lxor, 1) := by decide +kernel
theorem dX4_look_102 : decode cX4_look 102 = .ok (.land, 1) := by decide +kernel
theorem dX4_look_103 : decode cX4_look 103 = .ok (.invokestatic 113, 3) := by decide +kernel
theorem dX4_look_106 : decode cX4_look 106 = .ok (.istore 8, 2) := by decide +kernel
theorem dX4_look_108 : decode cX4_look 108 = .ok (.iload 8, 2) := by decide +kernel
theorem dX4_look_110 : decode cX4_look 110 = .ok (.iload 6, 2) := by decide +kernel
theorem dX4_look_112 : decode cX4_look 112 = .ok (.if_icmp .ge 13, 3) := by decide +kernel
theorem dX4_look_115 : decode cX4_look 115 = .ok (.iload 8, 2) := by decide +kernel
theorem dX4_look_117 : decode cX4_look 117 = .ok (.istore 6, 2) := by decide +kernel
theorem dX4_look_119 : decode cX4_look 119 = .ok (.iload 7, 2) := by decide +kernel
theorem dX4_look_121 : decode cX4_look 121 = .ok (.iconst 1, 1) := by decide +kernel
theorem dX4_look_122 : decode cX4_look 122 = .ok (.iadd, 1) := by decide +kernel
theorem dX4_look_123 : decode cX4_look 123 = .ok (.istore 5, 2) := by decide +kernel
theorem dX4_look_125 : decode cX4_look 125 = .ok (.iinc 7 1, 3) := by decide +kernel
theorem dX4_look_128 : decode cX4_look 128 = .ok (.goto (-56), 3) := by decide +kernel
theorem dX4_look_131 : decode cX4_look 131 = .ok (.iload_n 1, 1) := by decide +kernel
theorem dX4_look_132 : decode cX4_look 132 = .ok (.ifCond .ne 8, 3) := by decide +kernel
theorem dX4_look_135 : decode cX4_look 135 = .ok (.iload 5, 2) := by decide +kernel
theorem dX4_look_137 : decode cX4_look 137 = .ok (.goto 5, 3) := by decide +kernel
theorem dX4_look_140 : decode cX4_look 140 = .ok (.iload 6, 2) := by decide +kernel
theorem dX4_look_142 : decode cX4_look 142 = .ok (.ireturn, 1) := by decide +kernel
theorem dX4_looks_0 : decode cX4_looks 0 = .ok (.aload_n 0, 1) := by decide +kernel
theorem dX4_looks_1 : decode cX4_looks 1 = .ok (.iload_n 1, 1) := by decide +kernel
theorem dX4_looks_2 : decode cX4_looks 2 = .ok (.invokevirtual 139, 3) := by decide +kernel
theorem dX4_looks_5 : decode cX4_looks 5 = .ok (.istore_n 2, 1) := by decide +kernel
theorem dX4_looks_6 : decode cX4_looks 6 = .ok (.iload_n 2, 1) := by decide +kernel
theorem dX4_looks_7 : decode cX4_looks 7 = .ok (.ifCond .eq 5, 3) := by decide +kernel
theorem dX4_looks_10 : decode cX4_looks 10 = .ok (.iload_n 2, 1) := by decide +kernel
theorem dX4_looks_11 : decode cX4_looks 11 = .ok (.ireturn, 1) := by decide +kernel
theorem dX4_looks_12 : decode cX4_looks 12 = .ok (.aload_n 0, 1) := by decide +kernel
theorem dX4_looks_13 : decode cX4_looks 13 = .ok (.getfield 12, 3) := by decide +kernel
theorem dX4_looks_16 : decode cX4_looks 16 = .ok (.invokevirtual 148, 3) := by decide +kernel
theorem dX4_looks_19 : decode cX4_looks 19 = .ok (.istore_n 3, 1) := by decide +kernel
theorem dX4_looks_20 : decode cX4_looks 20 = .ok (.iload_n 3, 1) := by decide +kernel
theorem dX4_looks_21 : decode cX4_looks 21 = .ok (.bipush 12, 2) := by decide +kernel
theorem dX4_looks_23 : decode cX4_looks 23 = .ok (.if_icmp .le 6, 3) := by decide +kernel
theorem dX4_looks_26 : decode cX4_looks 26 = .ok (.bipush (-4), 2) := by decide +kernel
theorem dX4_looks_28 : decode cX4_looks 28 = .ok (.ireturn, 1) := by decide +kernel
theorem dX4_looks_29 : decode cX4_looks 29 = .ok (.aload_n 0, 1) := by decide +kernel
theorem dX4_looks_30 : decode cX4_looks 30 = .ok (.invokevirtual 151, 3) := by decide +kernel
theorem dX4_looks_33 : decode cX4_looks 33 = .ok (.aload_n 0, 1) := by decide +kernel
theorem dX4_looks_34 : decode cX4_looks 34 = .ok (.aload_n 0, 1) := by decide +kernel
theorem dX4_looks_35 : decode cX4_looks 35 = .ok (.aload_n 0, 1) := by decide +kernel
theorem dX4_looks_36 : decode cX4_looks 36 = .ok (.getfield 19, 3) := by decide +kernel
theorem dX4_looks_39 : decode cX4_looks 39 = .ok (.getfield 57, 3) := by decide +kernel
theorem dX4_looks_42 : decode cX4_looks 42 = .ok (.invokevirtual 109, 3) := by decide +kernel
theorem dX4_looks_45 : decode cX4_looks 45 = .ok (.iload_n 3, 1) := by decide +kernel
theorem dX4_looks_46 : decode cX4_looks 46 = .ok (.invokevirtual 154, 3) := by decide +kernel
theorem dX4_looks_49 : decode cX4_looks 49 = .ok (.istore 4, 2) := by decide +kernel
theorem dX4_looks_51 : decode cX4_looks 51 = .ok (.iload 4, 2) := by decide +kernel
theorem dX4_looks_53 : decode cX4_looks 53 = .ok (.bipush (-6), 2) := by decide +kernel
theorem dX4_looks_55 : decode cX4_looks 55 = .ok (.if_icmp .ne 6, 3) := by decide +kernel
theorem dX4_looks_58 : decode cX4_looks 58 = .ok (.bipush (-6), 2) := by decide +kernel
theorem dX4_looks_60 : decode cX4_looks 60 = .ok (.ireturn, 1) := by decide +kernel
theorem dX4_looks_61 : decode cX4_looks 61 = .ok (.iload_n 1, 1) := by decide +kernel
theorem dX4_looks_62 : decode cX4_looks 62 = .ok (.ifCond .ne 11, 3) := by decide +kernel
theorem dX4_looks_65 : decode cX4_looks 65 = .ok (.iload 4, 2) := by decide +kernel
theorem dX4_looks_67 : decode cX4_looks 67 = .ok (.invokestatic 135, 3) := by decide +kernel
theorem dX4_looks_70 : decode cX4_looks 70 = .ok (.goto 5, 3) := by decide +kernel
theorem dX4_looks_73 : decode cX4_looks 73 = .ok (.iload 4, 2) := by decide +kernel
theorem dX4_looks_75 : decode cX4_looks 75 = .ok (.ireturn, 1) := by decide +kernel
theorem dX4_best_0 : decode cX4_best 0 = .ok (.aload_n 0, 1) := by decide +kernel
theorem dX4_best_1 : decode cX4_best 1 = .ok (.iload_n 1, 1) := by decide +kernel
theorem dX4_best_2 : decode cX4_best 2 = .ok (.invokevirtual 139, 3) := by decide +kernel
theorem dX4_best_5 : decode cX4_best 5 = .ok (.istore_n 2, 1) := by decide +kernel
theorem dX4_best_6 : decode cX4_best 6 = .ok (.iload_n 2, 1) := by decide +kernel
theorem dX4_best_7 : decode cX4_best 7 = .ok (.ifCond .eq 5, 3) := by decide +kernel
theorem dX4_best_10 : decode cX4_best 10 = .ok (.iload_n 2, 1) := by decide +kernel
theorem dX4_best_11 : decode cX4_best 11 = .ok (.ireturn, 1) := by decide +kernel
theorem dX4_best_12 : decode cX4_best 12 = .ok (.iconst 0, 1) := by decide +kernel
theorem dX4_best_13 : decode cX4_best 13 = .ok (.istore_n 3, 1) := by decide +kernel
theorem dX4_best_14 : decode cX4_best 14 = .ok (.bipush 41, 2) := by decide +kernel
theorem dX4_best_16 : decode cX4_best 16 = .ok (.istore 4, 2) := by decide +kernel
theorem dX4_best_18 : decode cX4_best 18 = .ok (.iconst 1, 1) := by decide +kernel
theorem dX4_best_19 : decode cX4_best 19 = .ok (.istore 5, 2) := by decide +kernel
theorem dX4_best_21 : decode cX4_best 21 = .ok (.iload 5, 2) := by decide +kernel
theorem dX4_best_23 : decode cX4_best 23 = .ok (.bipush 9, 2) := by decide +kernel
theorem dX4_best_25 : decode cX4_best 25 = .ok (.if_icmp .gt 34, 3) := by decide +kernel
theorem dX4_best_28 : decode cX4_best 28 = .ok (.aload_n 0, 1) := by decide +kernel
theorem dX4_best_29 : decode cX4_best 29 = .ok (.iload 5, 2) := by decide +kernel
theorem dX4_best_31 : decode cX4_best 31 = .ok (.invokevirtual 109, 3) := by decide +kernel
theorem dX4_best_34 : decode cX4_best 34 = .ok (.invokestatic 113, 3) := by decide +kernel
theorem dX4_best_37 : decode cX4_best 37 = .ok (.istore 6, 2) := by decide +kernel
theorem dX4_best_39 : decode cX4_best 39 = .ok (.iload 6, 2) := by decide +kernel
theorem dX4_best_41 : decode cX4_best 41 = .ok (.iload 4, 2) := by decide +kernel
theorem dX4_best_43 : decode cX4_best 43 = .ok (.if_icmp .ge 10, 3) := by decide +kernel
theorem dX4_best_46 : decode cX4_best 46 = .ok (.iload 6, 2) := by decide +kernel
theorem dX4_best_48 : decode cX4_best 48 = .ok (.istore 4, 2) := by decide +kernel
theorem dX4_best_50 : decode cX4_best 50 = .ok (.iload 5, 2) := by decide +kernel
theorem dX4_best_52 : decode cX4_best 52 = .ok (.istore_n 3, 1) := by decide +kernel
theorem dX4_best_53 : decode cX4_best 53 = .ok (.iinc 5 1, 3) := by decide +kernel
theorem dX4_best_56 : decode cX4_best 56 = .ok (.goto (-35), 3) := by decide +kernel
theorem dX4_best_59 : decode cX4_best 59 = .ok (.iload_n 1, 1) := by decide +kernel
theorem dX4_best_60 : decode cX4_best 60 = .ok (.ifCond .ne 7, 3) := by decide +kernel
theorem dX4_best_63 : decode cX4_best 63 = .ok (.iload_n 3, 1) := by decide +kernel
theorem dX4_best_64 : decode cX4_best 64 = .ok (.goto 5, 3) := by decide +kernel
theorem dX4_best_67 : decode cX4_best 67 = .ok (.iload 4, 2) := by decide +kernel
theorem dX4_best_69 : decode cX4_best 69 = .ok (.ireturn, 1) := by decide +kernel
theorem dX4_stood_0 : decode cX4_stood 0 = .ok (.iload_n 1, 1) := by decide +kernel
theorem dX4_stood_1 : decode cX4_stood 1 = .ok (.invokestatic 53, 3) := by decide +kernel
theorem dX4_stood_4 : decode cX4_stood 4 = .ok (.ifCond .ne 6, 3) := by decide +kernel
theorem dX4_stood_7 : decode cX4_stood 7 = .ok (.bipush (-2), 2) := by decide +kernel
theorem dX4_stood_9 : decode cX4_stood 9 = .ok (.ireturn, 1) := by decide +kernel
theorem dX4_stood_10 : decode cX4_stood 10 = .ok (.aload_n 0, 1) := by decide +kernel
theorem dX4_stood_11 : decode cX4_stood 11 = .ok (.aload_n 0, 1) := by decide +kernel
theorem dX4_stood_12 : decode cX4_stood 12 = .ok (.getfield 12, 3) := by decide +kernel
theorem dX4_stood_15 : decode cX4_stood 15 = .ok (.getfield 68, 3) := by decide +kernel
theorem dX4_stood_18 : decode cX4_stood 18 = .ok (.invokevirtual 79, 3) := by decide +kernel
theorem dX4_stood_21 : decode cX4_stood 21 = .ok (.istore_n 2, 1) := by decide +kernel
theorem dX4_stood_22 : decode cX4_stood 22 = .ok (.iload_n 2, 1) := by decide +kernel
theorem dX4_stood_23 : decode cX4_stood 23 = .ok (.ifCond .eq 5, 3) := by decide +kernel
theorem dX4_stood_26 : decode cX4_stood 26 = .ok (.iload_n 2, 1) := by decide +kernel
theorem dX4_stood_27 : decode cX4_stood 27 = .ok (.ireturn, 1) := by decide +kernel
theorem dX4_stood_28 : decode cX4_stood 28 = .ok (.aload_n 0, 1) := by decide +kernel
theorem dX4_stood_29 : decode cX4_stood 29 = .ok (.aload_n 0, 1) := by decide +kernel
theorem dX4_stood_30 : decode cX4_stood 30 = .ok (.getfield 12, 3) := by decide +kernel
theorem dX4_stood_33 : decode cX4_stood 33 = .ok (.getfield 68, 3) := by decide +kernel
theorem dX4_stood_36 : decode cX4_stood 36 = .ok (.iload_n 1, 1) := by decide +kernel
theorem dX4_stood_37 : decode cX4_stood 37 = .ok (.invokevirtual 83, 3) := by decide +kernel
theorem dX4_stood_40 : decode cX4_stood 40 = .ok (.aload_n 0, 1) := by decide +kernel
theorem dX4_stood_41 : decode cX4_stood 41 = .ok (.getfield 34, 3) := by decide +kernel
theorem dX4_stood_44 : decode cX4_stood 44 = .ok (.invokevirtual 102, 3) := by decide +kernel
theorem dX4_stood_47 : decode cX4_stood 47 = .ok (.ireturn, 1) := by decide +kernel
theorem dX4_sight_0 : decode cX4_sight 0 = .ok (.iload_n 2, 1) := by decide +kernel
theorem dX4_sight_1 : decode cX4_sight 1 = .ok (.invokestatic 123, 3) := by decide +kernel
theorem dX4_sight_4 : decode cX4_sight 4 = .ok (.ifCond .ne 5, 3) := by decide +kernel
theorem dX4_sight_7 : decode cX4_sight 7 = .ok (.iconst (-1), 1) := by decide +kernel
theorem dX4_sight_8 : decode cX4_sight 8 = .ok (.ireturn, 1) := by decide +kernel
theorem dX4_sight_9 : decode cX4_sight 9 = .ok (.iload_n 1, 1) := by decide +kernel
theorem dX4_sight_10 : decode cX4_sight 10 = .ok (.ifCond .lt 9, 3) := by decide +kernel
theorem dX4_sight_13 : decode cX4_sight 13 = .ok (.iload_n 1, 1) := by decide +kernel
theorem dX4_sight_14 : decode cX4_sight 14 = .ok (.bipush 40, 2) := by decide +kernel
theorem dX4_sight_16 : decode cX4_sight 16 = .ok (.if_icmp .le 6, 3) := by decide +kernel
theorem dX4_sight_19 : decode cX4_sight 19 = .ok (.bipush (-2), 2) := by decide +kernel
theorem dX4_sight_21 : decode cX4_sight 21 = .ok (.ireturn, 1) := by decide +kernel
theorem dX4_sight_22 : decode cX4_sight 22 = .ok (.aload_n 0, 1) := by decide +kernel
theorem dX4_sight_23 : decode cX4_sight 23 = .ok (.getfield 19, 3) := by decide +kernel
theorem dX4_sight_26 : decode cX4_sight 26 = .ok (.getfield 157, 3) := by decide +kernel
theorem dX4_sight_29 : decode cX4_sight 29 = .ok (.bipush 6, 2) := by decide +kernel
theorem dX4_sight_31 : decode cX4_sight 31 = .ok (.if_icmp .lt 6, 3) := by decide +kernel
theorem dX4_sight_34 : decode cX4_sight 34 = .ok (.bipush (-4), 2) := by decide +kernel
theorem dX4_sight_36 : decode cX4_sight 36 = .ok (.ireturn, 1) := by decide +kernel
theorem dX4_sight_37 : decode cX4_sight 37 = .ok (.aload_n 0, 1) := by decide +kernel
theorem dX4_sight_38 : decode cX4_sight 38 = .ok (.getfield 41, 3) := by decide +kernel
theorem dX4_sight_41 : decode cX4_sight 41 = .ok (.iconst 0, 1) := by decide +kernel
theorem dX4_sight_42 : decode cX4_sight 42 = .ok (.putfield 61, 3) := by decide +kernel
theorem dX4_sight_45 : decode cX4_sight 45 = .ok (.aload_n 0, 1) := by decide +kernel
theorem dX4_sight_46 : decode cX4_sight 46 = .ok (.getfield 19, 3) := by decide +kernel
theorem dX4_sight_49 : decode cX4_sight 49 = .ok (.iload_n 1, 1) := by decide +kernel
theorem dX4_sight_50 : decode cX4_sight 50 = .ok (.iload_n 2, 1) := by decide +kernel
theorem dX4_sight_51 : decode cX4_sight 51 = .ok (.iload_n 3, 1) := by decide +kernel
theorem dX4_sight_52 : decode cX4_sight 52 = .ok (.invokevirtual 160, 3) := by decide +kernel
theorem dX4_sight_55 : decode cX4_sight 55 = .ok (.aload_n 0, 1) := by decide +kernel
theorem dX4_sight_56 : decode cX4_sight 56 = .ok (.getfield 19, 3) := by decide +kernel
theorem dX4_sight_59 : decode cX4_sight 59 = .ok (.getfield 157, 3) := by decide +kernel
theorem dX4_sight_62 : decode cX4_sight 62 = .ok (.ireturn, 1) := by decide +kernel
theorem dX4_forget_0 : decode cX4_forget 0 = .ok (.aload_n 0, 1) := by decide +kernel
theorem dX4_forget_1 : decode cX4_forget 1 = .ok (.getfield 19, 3) := by decide +kernel
theorem dX4_forget_4 : decode cX4_forget 4 = .ok (.getfield 157, 3) := by decide +kernel
theorem dX4_forget_7 : decode cX4_forget 7 = .ok (.istore_n 1, 1) := by decide +kernel
theorem dX4_forget_8 : decode cX4_forget 8 = .ok (.aload_n 0, 1) := by decide +kernel
theorem dX4_forget_9 : decode cX4_forget 9 = .ok (.getfield 19, 3) := by decide +kernel
theorem dX4_forget_12 : decode cX4_forget 12 = .ok (.iconst 0, 1) := by decide +kernel
theorem dX4_forget_13 : decode cX4_forget 13 = .ok (.putfield 157, 3) := by decide +kernel
theorem dX4_forget_16 : decode cX4_forget 16 = .ok (.aload_n 0, 1) := by decide +kernel
theorem dX4_forget_17 : decode cX4_forget 17 = .ok (.getfield 41, 3) := by decide +kernel
theorem dX4_forget_20 : decode cX4_forget 20 = .ok (.iconst 0, 1) := by decide +kernel
theorem dX4_forget_21 : decode cX4_forget 21 = .ok (.putfield 61, 3) := by decide +kernel
theorem dX4_forget_24 : decode cX4_forget 24 = .ok (.iload_n 1, 1) := by decide +kernel
theorem dX4_forget_25 : decode cX4_forget 25 = .ok (.ireturn, 1) := by decide +kernel
theorem dX4_fits_0 : decode cX4_fits 0 = .ok (.aload_n 0, 1) := by decide +kernel
theorem dX4_fits_1 : decode cX4_fits 1 = .ok (.getfield 12, 3) := by decide +kernel
theorem dX4_fits_4 : decode cX4_fits 4 = .ok (.invokevirtual 75, 3) := by decide +kernel
theorem dX4_fits_7 : decode cX4_fits 7 = .ok (.bipush (-6), 2) := by decide +kernel
theorem dX4_fits_9 : decode cX4_fits 9 = .ok (.if_icmp .eq 6, 3) := by decide +kernel
theorem dX4_fits_12 : decode cX4_fits 12 = .ok (.bipush (-5), 2) := by decide +kernel
theorem dX4_fits_14 : decode cX4_fits 14 = .ok (.ireturn, 1) := by decide +kernel
theorem dX4_fits_15 : decode cX4_fits 15 = .ok (.aload_n 0, 1) := by decide +kernel
theorem dX4_fits_16 : decode cX4_fits 16 = .ok (.getfield 41, 3) := by decide +kernel
theorem dX4_fits_19 : decode cX4_fits 19 = .ok (.aload_n 0, 1) := by decide +kernel
theorem dX4_fits_20 : decode cX4_fits 20 = .ok (.getfield 12, 3) := by decide +kernel
theorem dX4_fits_23 : decode cX4_fits 23 = .ok (.aload_n 0, 1) := by decide +kernel
theorem dX4_fits_24 : decode cX4_fits 24 = .ok (.getfield 19, 3) := by decide +kernel
theorem dX4_fits_27 : decode cX4_fits 27 = .ok (.invokevirtual 164, 3) := by decide +kernel
theorem dX4_fits_30 : decode cX4_fits 30 = .ok (.iload_n 1, 1) := by decide +kernel
theorem dX4_fits_31 : decode cX4_fits 31 = .ok (.iconst (-1), 1) := by decide +kernel
theorem dX4_fits_32 : decode cX4_fits 32 = .ok (.if_icmp .ne 13, 3) := by decide +kernel
theorem dX4_fits_35 : decode cX4_fits 35 = .ok (.aload_n 0, 1) := by decide +kernel
theorem dX4_fits_36 : decode cX4_fits 36 = .ok (.getfield 41, 3) := by decide +kernel
theorem dX4_fits_39 : decode cX4_fits 39 = .ok (.getfield 168, 3) := by decide +kernel
theorem dX4_fits_42 : decode cX4_fits 42 = .ok (.goto 11, 3) := by decide +kernel
theorem dX4_fits_45 : decode cX4_fits 45 = .ok (.aload_n 0, 1) := by decide +kernel
theorem dX4_fits_46 : decode cX4_fits 46 = .ok (.getfield 41, 3) := by decide +kernel
theorem dX4_fits_49 : decode cX4_fits 49 = .ok (.iload_n 1, 1) := by decide +kernel
theorem dX4_fits_50 : decode cX4_fits 50 = .ok (.invokevirtual 171, 3) := by decide +kernel
theorem dX4_fits_53 : decode cX4_fits 53 = .ok (.ireturn, 1) := by decide +kernel
theorem dX4_could_0 : decode cX4_could 0 = .ok (.aload_n 0, 1) := by decide +kernel
theorem dX4_could_1 : decode cX4_could 1 = .ok (.getfield 12, 3) := by decide +kernel
theorem dX4_could_4 : decode cX4_could 4 = .ok (.invokevirtual 75, 3) := by decide +kernel
theorem dX4_could_7 : decode cX4_could 7 = .ok (.bipush (-6), 2) := by decide +kernel
theorem dX4_could_9 : decode cX4_could 9 = .ok (.if_icmp .eq 6, 3) := by decide +kernel
theorem dX4_could_12 : decode cX4_could 12 = .ok (.bipush (-5), 2) := by decide +kernel
theorem dX4_could_14 : decode cX4_could 14 = .ok (.ireturn, 1) := by decide +kernel
theorem dX4_could_15 : decode cX4_could 15 = .ok (.aload_n 0, 1) := by decide +kernel
theorem dX4_could_16 : decode cX4_could 16 = .ok (.getfield 41, 3) := by decide +kernel
theorem dX4_could_19 : decode cX4_could 19 = .ok (.aload_n 0, 1) := by decide +kernel
theorem dX4_could_20 : decode cX4_could 20 = .ok (.getfield 12, 3) := by decide +kernel
theorem dX4_could_23 : decode cX4_could 23 = .ok (.aload_n 0, 1) := by decide +kernel
theorem dX4_could_24 : decode cX4_could 24 = .ok (.getfield 19, 3) := by decide +kernel
theorem dX4_could_27 : decode cX4_could 27 = .ok (.invokevirtual 164, 3) := by decide +kernel
theorem dX4_could_30 : decode cX4_could 30 = .ok (.aload_n 0, 1) := by decide +kernel
theorem dX4_could_31 : decode cX4_could 31 = .ok (.getfield 41, 3) := by decide +kernel
theorem dX4_could_34 : decode cX4_could 34 = .ok (.iload_n 1, 1) := by decide +kernel
theorem dX4_could_35 : decode cX4_could 35 = .ok (.invokevirtual 174, 3) := by decide +kernel
theorem dX4_could_38 : decode cX4_could 38 = .ok (.ireturn, 1) := by decide +kernel
theorem dX4_alibi_0 : decode cX4_alibi 0 = .ok (.iload_n 1, 1) := by decide +kernel
theorem dX4_alibi_1 : decode cX4_alibi 1 = .ok (.invokestatic 123, 3) := by decide +kernel
theorem dX4_alibi_4 : decode cX4_alibi 4 = .ok (.ifCond .ne 5, 3) := by decide +kernel
theorem dX4_alibi_7 : decode cX4_alibi 7 = .ok (.iconst (-1), 1) := by decide +kernel
theorem dX4_alibi_8 : decode cX4_alibi 8 = .ok (.ireturn, 1) := by decide +kernel
theorem dX4_alibi_9 : decode cX4_alibi 9 = .ok (.aload_n 0, 1) := by decide +kernel
theorem dX4_alibi_10 : decode cX4_alibi 10 = .ok (.getfield 12, 3) := by decide +kernel
theorem dX4_alibi_13 : decode cX4_alibi 13 = .ok (.invokevirtual 75, 3) := by decide +kernel
theorem dX4_alibi_16 : decode cX4_alibi 16 = .ok (.bipush (-6), 2) := by decide +kernel
theorem dX4_alibi_18 : decode cX4_alibi 18 = .ok (.if_icmp .eq 6, 3) := by decide +kernel
theorem dX4_alibi_21 : decode cX4_alibi 21 = .ok (.bipush (-5), 2) := by decide +kernel
theorem dX4_alibi_23 : decode cX4_alibi 23 = .ok (.ireturn, 1) := by decide +kernel
theorem dX4_alibi_24 : decode cX4_alibi 24 = .ok (.aload_n 0, 1) := by decide +kernel
theorem dX4_alibi_25 : decode cX4_alibi 25 = .ok (.getfield 41, 3) := by decide +kernel
theorem dX4_alibi_28 : decode cX4_alibi 28 = .ok (.aload_n 0, 1) := by decide +kernel
theorem dX4_alibi_29 : decode cX4_alibi 29 = .ok (.getfield 12, 3) := by decide +kernel
theorem dX4_alibi_32 : decode cX4_alibi 32 = .ok (.aload_n 0, 1) := by decide +kernel
theorem dX4_alibi_33 : decode cX4_alibi 33 = .ok (.getfield 19, 3) := by decide +kernel
theorem dX4_alibi_36 : decode cX4_alibi 36 = .ok (.invokevirtual 164, 3) := by decide +kernel
theorem dX4_alibi_39 : decode cX4_alibi 39 = .ok (.aload_n 0, 1) := by decide +kernel
theorem dX4_alibi_40 : decode cX4_alibi 40 = .ok (.getfield 41, 3) := by decide +kernel
theorem dX4_alibi_43 : decode cX4_alibi 43 = .ok (.iload_n 1, 1) := by decide +kernel
theorem dX4_alibi_44 : decode cX4_alibi 44 = .ok (.invokevirtual 177, 3) := by decide +kernel
theorem dX4_alibi_47 : decode cX4_alibi 47 = .ok (.ireturn, 1) := by decide +kernel
theorem dX4_gone_0 : decode cX4_gone 0 = .ok (.aload_n 0, 1) := by decide +kernel
theorem dX4_gone_1 : decode cX4_gone 1 = .ok (.iload_n 1, 1) := by decide +kernel
theorem dX4_gone_2 : decode cX4_gone 2 = .ok (.invokevirtual 90, 3) := by decide +kernel
theorem dX4_gone_5 : decode cX4_gone 5 = .ok (.istore_n 2, 1) := by decide +kernel
theorem dX4_gone_6 : decode cX4_gone 6 = .ok (.iload_n 2, 1) := by decide +kernel
theorem dX4_gone_7 : decode cX4_gone 7 = .ok (.ifCond .eq 5, 3) := by decide +kernel
theorem dX4_gone_10 : decode cX4_gone 10 = .ok (.iload_n 2, 1) := by decide +kernel
theorem dX4_gone_11 : decode cX4_gone 11 = .ok (.ireturn, 1) := by decide +kernel
theorem dX4_gone_12 : decode cX4_gone 12 = .ok (.aload_n 0, 1) := by decide +kernel
theorem dX4_gone_13 : decode cX4_gone 13 = .ok (.aload_n 0, 1) := by decide +kernel
theorem dX4_gone_14 : decode cX4_gone 14 = .ok (.getfield 12, 3) := by decide +kernel
theorem dX4_gone_17 : decode cX4_gone 17 = .ok (.getfield 68, 3) := by decide +kernel
theorem dX4_gone_20 : decode cX4_gone 20 = .ok (.aload_n 0, 1) := by decide +kernel
theorem dX4_gone_21 : decode cX4_gone 21 = .ok (.getfield 19, 3) := by decide +kernel
theorem dX4_gone_24 : decode cX4_gone 24 = .ok (.getfield 57, 3) := by decide +kernel
theorem dX4_gone_27 : decode cX4_gone 27 = .ok (.invokevirtual 83, 3) := by decide +kernel
theorem dX4_gone_30 : decode cX4_gone 30 = .ok (.aload_n 0, 1) := by decide +kernel
theorem dX4_gone_31 : decode cX4_gone 31 = .ok (.getfield 34, 3) := by decide +kernel
theorem dX4_gone_34 : decode cX4_gone 34 = .ok (.iload_n 1, 1) := by decide +kernel
theorem dX4_gone_35 : decode cX4_gone 35 = .ok (.invokevirtual 180, 3) := by decide +kernel
theorem dX4_gone_38 : decode cX4_gone 38 = .ok (.ireturn, 1) := by decide +kernel
theorem dX4_out_0 : decode cX4_out 0 = .ok (.aload_n 0, 1) := by decide +kernel
theorem dX4_out_1 : decode cX4_out 1 = .ok (.aload_n 0, 1) := by decide +kernel
theorem dX4_out_2 : decode cX4_out 2 = .ok (.getfield 12, 3) := by decide +kernel
theorem dX4_out_5 : decode cX4_out 5 = .ok (.getfield 68, 3) := by decide +kernel
theorem dX4_out_8 : decode cX4_out 8 = .ok (.invokevirtual 79, 3) := by decide +kernel
theorem dX4_out_11 : decode cX4_out 11 = .ok (.istore_n 2, 1) := by decide +kernel
theorem dX4_out_12 : decode cX4_out 12 = .ok (.iload_n 2, 1) := by decide +kernel
theorem dX4_out_13 : decode cX4_out 13 = .ok (.ifCond .eq 5, 3) := by decide +kernel
theorem dX4_out_16 : decode cX4_out 16 = .ok (.iload_n 2, 1) := by decide +kernel
theorem dX4_out_17 : decode cX4_out 17 = .ok (.ireturn, 1) := by decide +kernel
theorem dX4_out_18 : decode cX4_out 18 = .ok (.aload_n 0, 1) := by decide +kernel
theorem dX4_out_19 : decode cX4_out 19 = .ok (.getfield 12, 3) := by decide +kernel
theorem dX4_out_22 : decode cX4_out 22 = .ok (.iload_n 1, 1) := by decide +kernel
theorem dX4_out_23 : decode cX4_out 23 = .ok (.invokevirtual 183, 3) := by decide +kernel
theorem dX4_out_26 : decode cX4_out 26 = .ok (.iconst (-1), 1) := by decide +kernel
theorem dX4_out_27 : decode cX4_out 27 = .ok (.if_icmp .ne 6, 3) := by decide +kernel
theorem dX4_out_30 : decode cX4_out 30 = .ok (.bipush (-2), 2) := by decide +kernel
theorem dX4_out_32 : decode cX4_out 32 = .ok (.ireturn, 1) := by decide +kernel
theorem dX4_out_33 : decode cX4_out 33 = .ok (.aload_n 0, 1) := by decide +kernel
theorem dX4_out_34 : decode cX4_out 34 = .ok (.iload_n 1, 1) := by decide +kernel
theorem dX4_out_35 : decode cX4_out 35 = .ok (.aload_n 0, 1) := by decide +kernel
theorem dX4_out_36 : decode cX4_out 36 = .ok (.getfield 19, 3) := by decide +kernel
theorem dX4_out_39 : decode cX4_out 39 = .ok (.getfield 57, 3) := by decide +kernel
theorem dX4_out_42 : decode cX4_out 42 = .ok (.invokevirtual 83, 3) := by decide +kernel
theorem dX4_out_45 : decode cX4_out 45 = .ok (.iload_n 1, 1) := by decide +kernel
theorem dX4_out_46 : decode cX4_out 46 = .ok (.istore_n 3, 1) := by decide +kernel
theorem dX4_out_47 : decode cX4_out 47 = .ok (.iload_n 3, 1) := by decide +kernel
theorem dX4_out_48 : decode cX4_out 48 = .ok (.aload_n 0, 1) := by decide +kernel
theorem dX4_out_49 : decode cX4_out 49 = .ok (.getfield 12, 3) := by decide +kernel
theorem dX4_out_52 : decode cX4_out 52 = .ok (.getfield 68, 3) := by decide +kernel
theorem dX4_out_55 : decode cX4_out 55 = .ok (.if_icmp .ge 32, 3) := by decide +kernel
theorem dX4_out_58 : decode cX4_out 58 = .ok (.aload_n 0, 1) := by decide +kernel
theorem dX4_out_59 : decode cX4_out 59 = .ok (.iload_n 3, 1) := by decide +kernel
theorem dX4_out_60 : decode cX4_out 60 = .ok (.invokevirtual 96, 3) := by decide +kernel
theorem dX4_out_63 : decode cX4_out 63 = .ok (.aload_n 0, 1) := by decide +kernel
theorem dX4_out_64 : decode cX4_out 64 = .ok (.getfield 34, 3) := by decide +kernel
theorem dX4_out_67 : decode cX4_out 67 = .ok (.invokevirtual 142, 3) := by decide +kernel
theorem dX4_out_70 : decode cX4_out 70 = .ok (.iload_n 1, 1) := by decide +kernel
theorem dX4_out_71 : decode cX4_out 71 = .ok (.lushr, 1) := by decide +kernel
theorem dX4_out_72 : decode cX4_out 72 = .ok (.lconst 1, 1) := by decide +kernel
theorem dX4_out_73 : decode cX4_out 73 = .ok (.land, 1) := by decide +kernel
theorem dX4_out_74 : decode cX4_out 74 = .ok (.lconst 0, 1) := by decide +kernel
theorem dX4_out_75 : decode cX4_out 75 = .ok (.lcmp, 1) := by decide +kernel
theorem dX4_out_76 : decode cX4_out 76 = .ok (.ifCond .ne 5, 3) := by decide +kernel
theorem dX4_out_79 : decode cX4_out 79 = .ok (.iload_n 3, 1) := by decide +kernel
theorem dX4_out_80 : decode cX4_out 80 = .ok (.ireturn, 1) := by decide +kernel
theorem dX4_out_81 : decode cX4_out 81 = .ok (.iinc 3 1, 3) := by decide +kernel
theorem dX4_out_84 : decode cX4_out 84 = .ok (.goto (-37), 3) := by decide +kernel
theorem dX4_out_87 : decode cX4_out 87 = .ok (.bipush (-6), 2) := by decide +kernel
theorem dX4_out_89 : decode cX4_out 89 = .ok (.ireturn, 1) := by decide +kernel
theorem dX4_drawn_0 : decode cX4_drawn 0 = .ok (.iload_n 3, 1) := by decide +kernel
theorem dX4_drawn_1 : decode cX4_drawn 1 = .ok (.iconst (-1), 1) := by decide +kernel
theorem dX4_drawn_2 : decode cX4_drawn 2 = .ok (.if_icmp .eq 12, 3) := by decide +kernel
theorem dX4_drawn_5 : decode cX4_drawn 5 = .ok (.iload_n 3, 1) := by decide +kernel
theorem dX4_drawn_6 : decode cX4_drawn 6 = .ok (.invokestatic 123, 3) := by decide +kernel
theorem dX4_drawn_9 : decode cX4_drawn 9 = .ok (.ifCond .ne 5, 3) := by decide +kernel
theorem dX4_drawn_12 : decode cX4_drawn 12 = .ok (.iconst (-1), 1) := by decide +kernel
theorem dX4_drawn_13 : decode cX4_drawn 13 = .ok (.ireturn, 1) := by decide +kernel
theorem dX4_drawn_14 : decode cX4_drawn 14 = .ok (.iload_n 1, 1) := by decide +kernel
theorem dX4_drawn_15 : decode cX4_drawn 15 = .ok (.ifCond .lt 20, 3) := by decide +kernel
theorem dX4_drawn_18 : decode cX4_drawn 18 = .ok (.iload_n 1, 1) := by decide +kernel
theorem dX4_drawn_19 : decode cX4_drawn 19 = .ok (.sipush 9999, 3) := by decide +kernel
theorem dX4_drawn_22 : decode cX4_drawn 22 = .ok (.if_icmp .gt 13, 3) := by decide +kernel
theorem dX4_drawn_25 : decode cX4_drawn 25 = .ok (.iload_n 2, 1) := by decide +kernel
theorem dX4_drawn_26 : decode cX4_drawn 26 = .ok (.ifCond .lt 9, 3) := by decide +kernel
theorem dX4_drawn_29 : decode cX4_drawn 29 = .ok (.iload_n 2, 1) := by decide +kernel
theorem dX4_drawn_30 : decode cX4_drawn 30 = .ok (.bipush 99, 2) := by decide +kernel
theorem dX4_drawn_32 : decode cX4_drawn 32 = .ok (.if_icmp .le 6, 3) := by decide +kernel
theorem dX4_drawn_35 : decode cX4_drawn 35 = .ok (.bipush (-2), 2) := by decide +kernel
theorem dX4_drawn_37 : decode cX4_drawn 37 = .ok (.ireturn, 1) := by decide +kernel
theorem dX4_drawn_38 : decode cX4_drawn 38 = .ok (.aload_n 0, 1) := by decide +kernel
theorem dX4_drawn_39 : decode cX4_drawn 39 = .ok (.aload_n 0, 1) := by decide +kernel
theorem dX4_drawn_40 : decode cX4_drawn 40 = .ok (.getfield 12, 3) := by decide +kernel
theorem dX4_drawn_43 : decode cX4_drawn 43 = .ok (.getfield 68, 3) := by decide +kernel
theorem dX4_drawn_46 : decode cX4_drawn 46 = .ok (.invokevirtual 79, 3) := by decide +kernel
theorem dX4_drawn_49 : decode cX4_drawn 49 = .ok (.istore 4, 2) := by decide +kernel
theorem dX4_drawn_51 : decode cX4_drawn 51 = .ok (.iload 4, 2) := by decide +kernel
theorem dX4_drawn_53 : decode cX4_drawn 53 = .ok (.ifCond .eq 6, 3) := by decide +kernel
theorem dX4_drawn_56 : decode cX4_drawn 56 = .ok (.iload 4, 2) := by decide +kernel
theorem dX4_drawn_58 : decode cX4_drawn 58 = .ok (.ireturn, 1) := by decide +kernel
theorem dX4_drawn_59 : decode cX4_drawn 59 = .ok (.aload_n 0, 1) := by decide +kernel
theorem dX4_drawn_60 : decode cX4_drawn 60 = .ok (.aload_n 0, 1) := by decide +kernel
theorem dX4_drawn_61 : decode cX4_drawn 61 = .ok (.getfield 12, 3) := by decide +kernel
theorem dX4_drawn_64 : decode cX4_drawn 64 = .ok (.getfield 68, 3) := by decide +kernel
theorem dX4_drawn_67 : decode cX4_drawn 67 = .ok (.aload_n 0, 1) := by decide +kernel
theorem dX4_drawn_68 : decode cX4_drawn 68 = .ok (.getfield 19, 3) := by decide +kernel
theorem dX4_drawn_71 : decode cX4_drawn 71 = .ok (.getfield 57, 3) := by decide +kernel
theorem dX4_drawn_74 : decode cX4_drawn 74 = .ok (.invokevirtual 83, 3) := by decide +kernel
theorem dX4_drawn_77 : decode cX4_drawn 77 = .ok (.aload_n 0, 1) := by decide +kernel
theorem dX4_drawn_78 : decode cX4_drawn 78 = .ok (.iload_n 1, 1) := by decide +kernel
theorem dX4_drawn_79 : decode cX4_drawn 79 = .ok (.iload_n 2, 1) := by decide +kernel
theorem dX4_drawn_80 : decode cX4_drawn 80 = .ok (.iload_n 3, 1) := by decide +kernel
theorem dX4_drawn_81 : decode cX4_drawn 81 = .ok (.invokevirtual 186, 3) := by decide +kernel
theorem dX4_drawn_84 : decode cX4_drawn 84 = .ok (.istore 5, 2) := by decide +kernel
theorem dX4_drawn_86 : decode cX4_drawn 86 = .ok (.iload_n 3, 1) := by decide +kernel
theorem dX4_drawn_87 : decode cX4_drawn 87 = .ok (.iconst (-1), 1) := by decide +kernel
theorem dX4_drawn_88 : decode cX4_drawn 88 = .ok (.if_icmp .ne 16, 3) := by decide +kernel
theorem dX4_drawn_91 : decode cX4_drawn 91 = .ok (.aload_n 0, 1) := by decide +kernel
theorem dX4_drawn_92 : decode cX4_drawn 92 = .ok (.getfield 34, 3) := by decide +kernel
theorem dX4_drawn_95 : decode cX4_drawn 95 = .ok (.invokevirtual 102, 3) := by decide +kernel
theorem dX4_drawn_98 : decode cX4_drawn 98 = .ok (.invokestatic 135, 3) := by decide +kernel
theorem dX4_drawn_101 : decode cX4_drawn 101 = .ok (.goto 5, 3) := by decide +kernel
theorem dX4_drawn_104 : decode cX4_drawn 104 = .ok (.iload 5, 2) := by decide +kernel
theorem dX4_drawn_106 : decode cX4_drawn 106 = .ok (.ireturn, 1) := by decide +kernel
theorem dX4_image_0 : decode cX4_image 0 = .ok (.iload_n 1, 1) := by decide +kernel
theorem dX4_image_1 : decode cX4_image 1 = .ok (.ifCond .lt 8, 3) := by decide +kernel
theorem dX4_image_4 : decode cX4_image 4 = .ok (.iload_n 1, 1) := by decide +kernel
theorem dX4_image_5 : decode cX4_image 5 = .ok (.iconst 2, 1) := by decide +kernel
theorem dX4_image_6 : decode cX4_image 6 = .ok (.if_icmp .lt 6, 3) := by decide +kernel
theorem dX4_image_9 : decode cX4_image 9 = .ok (.bipush (-2), 2) := by decide +kernel
theorem dX4_image_11 : decode cX4_image 11 = .ok (.ireturn, 1) := by decide +kernel
theorem dX4_image_12 : decode cX4_image 12 = .ok (.aload_n 0, 1) := by decide +kernel
theorem dX4_image_13 : decode cX4_image 13 = .ok (.getfield 23, 3) := by decide +kernel
theorem dX4_image_16 : decode cX4_image 16 = .ok (.iload_n 1, 1) := by decide +kernel
theorem dX4_image_17 : decode cX4_image 17 = .ok (.aaload, 1) := by decide +kernel
theorem dX4_image_18 : decode cX4_image 18 = .ok (.aload_n 0, 1) := by decide +kernel
theorem dX4_image_19 : decode cX4_image 19 = .ok (.getfield 19, 3) := by decide +kernel
theorem dX4_image_22 : decode cX4_image 22 = .ok (.invokevirtual 190, 3) := by decide +kernel
theorem dX4_image_25 : decode cX4_image 25 = .ok (.aload_n 0, 1) := by decide +kernel
theorem dX4_image_26 : decode cX4_image 26 = .ok (.getfield 27, 3) := by decide +kernel
theorem dX4_image_29 : decode cX4_image 29 = .ok (.iload_n 1, 1) := by decide +kernel
theorem dX4_image_30 : decode cX4_image 30 = .ok (.iconst 1, 1) := by decide +kernel
theorem dX4_image_31 : decode cX4_image 31 = .ok (.bastore, 1) := by decide +kernel
theorem dX4_image_32 : decode cX4_image 32 = .ok (.iconst 1, 1) := by decide +kernel
theorem dX4_image_33 : decode cX4_image 33 = .ok (.ireturn, 1) := by decide +kernel
theorem dX4_restore_0 : decode cX4_restore 0 = .ok (.iload_n 1, 1) := by decide +kernel
theorem dX4_restore_1 : decode cX4_restore 1 = .ok (.ifCond .lt 8, 3) := by decide +kernel
theorem dX4_restore_4 : decode cX4_restore 4 = .ok (.iload_n 1, 1) := by decide +kernel
theorem dX4_restore_5 : decode cX4_restore 5 = .ok (.iconst 2, 1) := by decide +kernel
theorem dX4_restore_6 : decode cX4_restore 6 = .ok (.if_icmp .lt 6, 3) := by decide +kernel
theorem dX4_restore_9 : decode cX4_restore 9 = .ok (.bipush (-2), 2) := by decide +kernel
theorem dX4_restore_11 : decode cX4_restore 11 = .ok (.ireturn, 1) := by decide +kernel
theorem dX4_restore_12 : decode cX4_restore 12 = .ok (.aload_n 0, 1) := by decide +kernel
theorem dX4_restore_13 : decode cX4_restore 13 = .ok (.getfield 27, 3) := by decide +kernel
theorem dX4_restore_16 : decode cX4_restore 16 = .ok (.iload_n 1, 1) := by decide +kernel
theorem dX4_restore_17 : decode cX4_restore 17 = .ok (.baload, 1) := by decide +kernel
theorem dX4_restore_18 : decode cX4_restore 18 = .ok (.ifCond .ne 6, 3) := by decide +kernel
theorem dX4_restore_21 : decode cX4_restore 21 = .ok (.bipush (-3), 2) := by decide +kernel
theorem dX4_restore_23 : decode cX4_restore 23 = .ok (.ireturn, 1) := by decide +kernel
theorem dX4_restore_24 : decode cX4_restore 24 = .ok (.aload_n 0, 1) := by decide +kernel
theorem dX4_restore_25 : decode cX4_restore 25 = .ok (.getfield 19, 3) := by decide +kernel
theorem dX4_restore_28 : decode cX4_restore 28 = .ok (.aload_n 0, 1) := by decide +kernel
theorem dX4_restore_29 : decode cX4_restore 29 = .ok (.getfield 23, 3) := by decide +kernel
theorem dX4_restore_32 : decode cX4_restore 32 = .ok (.iload_n 1, 1) := by decide +kernel
theorem dX4_restore_33 : decode cX4_restore 33 = .ok (.aaload, 1) := by decide +kernel
theorem dX4_restore_34 : decode cX4_restore 34 = .ok (.invokevirtual 190, 3) := by decide +kernel
theorem dX4_restore_37 : decode cX4_restore 37 = .ok (.aload_n 0, 1) := by decide +kernel
theorem dX4_restore_38 : decode cX4_restore 38 = .ok (.getfield 41, 3) := by decide +kernel
theorem dX4_restore_41 : decode cX4_restore 41 = .ok (.iconst 0, 1) := by decide +kernel
theorem dX4_restore_42 : decode cX4_restore 42 = .ok (.putfield 61, 3) := by decide +kernel
theorem dX4_restore_45 : decode cX4_restore 45 = .ok (.iconst 1, 1) := by decide +kernel
theorem dX4_restore_46 : decode cX4_restore 46 = .ok (.ireturn, 1) := by decide +kernel
theorem dX4_told_0 : decode cX4_told 0 = .ok (.iload_n 1, 1) := by decide +kernel
theorem dX4_told_1 : decode cX4_told 1 = .ok (.tableswitch 63 0 3 #[31, 39, 47, 55], 31) := by decide +kernel
theorem dX4_told_32 : decode cX4_told 32 = .ok (.aload_n 0, 1) := by decide +kernel
theorem dX4_told_33 : decode cX4_told 33 = .ok (.getfield 12, 3) := by decide +kernel
theorem dX4_told_36 : decode cX4_told 36 = .ok (.getfield 68, 3) := by decide +kernel
theorem dX4_told_39 : decode cX4_told 39 = .ok (.ireturn, 1) := by decide +kernel
theorem dX4_told_40 : decode cX4_told 40 = .ok (.aload_n 0, 1) := by decide +kernel
theorem dX4_told_41 : decode cX4_told 41 = .ok (.getfield 19, 3) := by decide +kernel
theorem dX4_told_44 : decode cX4_told 44 = .ok (.getfield 57, 3) := by decide +kernel
theorem dX4_told_47 : decode cX4_told 47 = .ok (.ireturn, 1) := by decide +kernel
theorem dX4_told_48 : decode cX4_told 48 = .ok (.aload_n 0, 1) := by decide +kernel
theorem dX4_told_49 : decode cX4_told 49 = .ok (.getfield 19, 3) := by decide +kernel
theorem dX4_told_52 : decode cX4_told 52 = .ok (.getfield 65, 3) := by decide +kernel
theorem dX4_told_55 : decode cX4_told 55 = .ok (.ireturn, 1) := by decide +kernel
theorem dX4_told_56 : decode cX4_told 56 = .ok (.aload_n 0, 1) := by decide +kernel
theorem dX4_told_57 : decode cX4_told 57 = .ok (.getfield 19, 3) := by decide +kernel
theorem dX4_told_60 : decode cX4_told 60 = .ok (.getfield 157, 3) := by decide +kernel
theorem dX4_told_63 : decode cX4_told 63 = .ok (.ireturn, 1) := by decide +kernel
theorem dX4_told_64 : decode cX4_told 64 = .ok (.bipush (-2), 2) := by decide +kernel
theorem dX4_told_66 : decode cX4_told 66 = .ok (.ireturn, 1) := by decide +kernel
theorem dX4_isPerson_0 : decode cX4_isPerson 0 = .ok (.iload_n 0, 1) := by decide +kernel
theorem dX4_isPerson_1 : decode cX4_isPerson 1 = .ok (.ifCond .lt 13, 3) := by decide +kernel
theorem dX4_isPerson_4 : decode cX4_isPerson 4 = .ok (.iload_n 0, 1) := by decide +kernel
theorem dX4_isPerson_5 : decode cX4_isPerson 5 = .ok (.bipush 8, 2) := by decide +kernel
theorem dX4_isPerson_7 : decode cX4_isPerson 7 = .ok (.if_icmp .ge 7, 3) := by decide +kernel
theorem dX4_isPerson_10 : decode cX4_isPerson 10 = .ok (.iconst 1, 1) := by decide +kernel
theorem dX4_isPerson_11 : decode cX4_isPerson 11 = .ok (.goto 4, 3) := by decide +kernel
theorem dX4_isPerson_14 : decode cX4_isPerson 14 = .ok (.iconst 0, 1) := by decide +kernel
theorem dX4_isPerson_15 : decode cX4_isPerson 15 = .ok (.ireturn, 1) := by decide +kernel
theorem dX4_isLength_0 : decode cX4_isLength 0 = .ok (.iload_n 0, 1) := by decide +kernel
theorem dX4_isLength_1 : decode cX4_isLength 1 = .ok (.iconst 1, 1) := by decide +kernel
theorem dX4_isLength_2 : decode cX4_isLength 2 = .ok (.if_icmp .lt 13, 3) := by decide +kernel
theorem dX4_isLength_5 : decode cX4_isLength 5 = .ok (.iload_n 0, 1) := by decide +kernel
theorem dX4_isLength_6 : decode cX4_isLength 6 = .ok (.bipush 9, 2) := by decide +kernel
theorem dX4_isLength_8 : decode cX4_isLength 8 = .ok (.if_icmp .gt 7, 3) := by decide +kernel
theorem dX4_isLength_11 : decode cX4_isLength 11 = .ok (.iconst 1, 1) := by decide +kernel
theorem dX4_isLength_12 : decode cX4_isLength 12 = .ok (.goto 4, 3) := by decide +kernel
theorem dX4_isLength_15 : decode cX4_isLength 15 = .ok (.iconst 0, 1) := by decide +kernel
theorem dX4_isLength_16 : decode cX4_isLength 16 = .ok (.ireturn, 1) := by decide +kernel
theorem dX4_refusalWithin_0 : decode cX4_refusalWithin 0 = .ok (.aload_n 0, 1) := by decide +kernel
theorem dX4_refusalWithin_1 : decode cX4_refusalWithin 1 = .ok (.getfield 12, 3) := by decide +kernel
theorem dX4_refusalWithin_4 : decode cX4_refusalWithin 4 = .ok (.invokevirtual 75, 3) := by decide +kernel
theorem dX4_refusalWithin_7 : decode cX4_refusalWithin 7 = .ok (.bipush (-6), 2) := by decide +kernel
theorem dX4_refusalWithin_9 : decode cX4_refusalWithin 9 = .ok (.if_icmp .eq 6, 3) := by decide +kernel
theorem dX4_refusalWithin_12 : decode cX4_refusalWithin 12 = .ok (.bipush (-5), 2) := by decide +kernel
theorem dX4_refusalWithin_14 : decode cX4_refusalWithin 14 = .ok (.ireturn, 1) := by decide +kernel
theorem dX4_refusalWithin_15 : decode cX4_refusalWithin 15 = .ok (.aload_n 0, 1) := by decide +kernel
theorem dX4_refusalWithin_16 : decode cX4_refusalWithin 16 = .ok (.getfield 12, 3) := by decide +kernel
theorem dX4_refusalWithin_19 : decode cX4_refusalWithin 19 = .ok (.iload_n 1, 1) := by decide +kernel
theorem dX4_refusalWithin_20 : decode cX4_refusalWithin 20 = .ok (.invokevirtual 194, 3) := by decide +kernel
theorem dX4_refusalWithin_23 : decode cX4_refusalWithin 23 = .ok (.ifCond .eq 8, 3) := by decide +kernel
theorem dX4_refusalWithin_26 : decode cX4_refusalWithin 26 = .ok (.bipush (-3), 2) := by decide +kernel
theorem dX4_refusalWithin_28 : decode cX4_refusalWithin 28 = .ok (.goto 4, 3) := by decide +kernel
theorem dX4_refusalWithin_31 : decode cX4_refusalWithin 31 = .ok (.iconst 0, 1) := by decide +kernel
theorem dX4_refusalWithin_32 : decode cX4_refusalWithin 32 = .ok (.ireturn, 1) := by decide +kernel
theorem dX4_refusalFor_0 : decode cX4_refusalFor 0 = .ok (.iload_n 1, 1) := by decide +kernel
theorem dX4_refusalFor_1 : decode cX4_refusalFor 1 = .ok (.invokestatic 123, 3) := by decide +kernel
theorem dX4_refusalFor_4 : decode cX4_refusalFor 4 = .ok (.ifCond .eq 17, 3) := by decide +kernel
theorem dX4_refusalFor_7 : decode cX4_refusalFor 7 = .ok (.aload_n 0, 1) := by decide +kernel
theorem dX4_refusalFor_8 : decode cX4_refusalFor 8 = .ok (.aload_n 0, 1) := by decide +kernel
theorem dX4_refusalFor_9 : decode cX4_refusalFor 9 = .ok (.getfield 12, 3) := by decide +kernel
theorem dX4_refusalFor_12 : decode cX4_refusalFor 12 = .ok (.getfield 68, 3) := by decide +kernel
theorem dX4_refusalFor_15 : decode cX4_refusalFor 15 = .ok (.invokevirtual 79, 3) := by decide +kernel
theorem dX4_refusalFor_18 : decode cX4_refusalFor 18 = .ok (.goto 4, 3) := by decide +kernel
theorem dX4_refusalFor_21 : decode cX4_refusalFor 21 = .ok (.iconst (-1), 1) := by decide +kernel
theorem dX4_refusalFor_22 : decode cX4_refusalFor 22 = .ok (.ireturn, 1) := by decide +kernel
theorem dX4_refusalOfChoice_0 : decode cX4_refusalOfChoice 0 = .ok (.iload_n 1, 1) := by decide +kernel
theorem dX4_refusalOfChoice_1 : decode cX4_refusalOfChoice 1 = .ok (.ifCond .eq 8, 3) := by decide +kernel
theorem dX4_refusalOfChoice_4 : decode cX4_refusalOfChoice 4 = .ok (.iload_n 1, 1) := by decide +kernel
theorem dX4_refusalOfChoice_5 : decode cX4_refusalOfChoice 5 = .ok (.iconst 1, 1) := by decide +kernel
theorem dX4_refusalOfChoice_6 : decode cX4_refusalOfChoice 6 = .ok (.if_icmp .ne 17, 3) := by decide +kernel
theorem dX4_refusalOfChoice_9 : decode cX4_refusalOfChoice 9 = .ok (.aload_n 0, 1) := by decide +kernel
theorem dX4_refusalOfChoice_10 : decode cX4_refusalOfChoice 10 = .ok (.aload_n 0, 1) := by decide +kernel
theorem dX4_refusalOfChoice_11 : decode cX4_refusalOfChoice 11 = .ok (.getfield 12, 3) := by decide +kernel
theorem dX4_refusalOfChoice_14 : decode cX4_refusalOfChoice 14 = .ok (.getfield 68, 3) := by decide +kernel
theorem dX4_refusalOfChoice_17 : decode cX4_refusalOfChoice 17 = .ok (.invokevirtual 79, 3) := by decide +kernel
theorem dX4_refusalOfChoice_20 : decode cX4_refusalOfChoice 20 = .ok (.goto 5, 3) := by decide +kernel
theorem dX4_refusalOfChoice_23 : decode cX4_refusalOfChoice 23 = .ok (.bipush (-2), 2) := by decide +kernel
theorem dX4_refusalOfChoice_25 : decode cX4_refusalOfChoice 25 = .ok (.ireturn, 1) := by decide +kernel
theorem dX4_refusalOfCrossing_0 : decode cX4_refusalOfCrossing 0 = .ok (.iload_n 1, 1) := by decide +kernel
theorem dX4_refusalOfCrossing_1 : decode cX4_refusalOfCrossing 1 = .ok (.invokestatic 123, 3) := by decide +kernel
theorem dX4_refusalOfCrossing_4 : decode cX4_refusalOfCrossing 4 = .ok (.ifCond .ne 5, 3) := by decide +kernel
theorem dX4_refusalOfCrossing_7 : decode cX4_refusalOfCrossing 7 = .ok (.iconst (-1), 1) := by decide +kernel
theorem dX4_refusalOfCrossing_8 : decode cX4_refusalOfCrossing 8 = .ok (.ireturn, 1) := by decide +kernel
theorem dX4_refusalOfCrossing_9 : decode cX4_refusalOfCrossing 9 = .ok (.aload_n 0, 1) := by decide +kernel
theorem dX4_refusalOfCrossing_10 : decode cX4_refusalOfCrossing 10 = .ok (.iload_n 2, 1) := by decide +kernel
theorem dX4_refusalOfCrossing_11 : decode cX4_refusalOfCrossing 11 = .ok (.invokevirtual 139, 3) := by decide +kernel
theorem dX4_refusalOfCrossing_14 : decode cX4_refusalOfCrossing 14 = .ok (.istore_n 3, 1) := by decide +kernel
theorem dX4_refusalOfCrossing_15 : decode cX4_refusalOfCrossing 15 = .ok (.iload_n 3, 1) := by decide +kernel
theorem dX4_refusalOfCrossing_16 : decode cX4_refusalOfCrossing 16 = .ok (.ifCond .eq 5, 3) := by decide +kernel
theorem dX4_refusalOfCrossing_19 : decode cX4_refusalOfCrossing 19 = .ok (.iload_n 3, 1) := by decide +kernel
theorem dX4_refusalOfCrossing_20 : decode cX4_refusalOfCrossing 20 = .ok (.ireturn, 1) := by decide +kernel
theorem dX4_refusalOfCrossing_21 : decode cX4_refusalOfCrossing 21 = .ok (.aload_n 0, 1) := by decide +kernel
theorem dX4_refusalOfCrossing_22 : decode cX4_refusalOfCrossing 22 = .ok (.getfield 12, 3) := by decide +kernel
theorem dX4_refusalOfCrossing_25 : decode cX4_refusalOfCrossing 25 = .ok (.getfield 68, 3) := by decide +kernel
theorem dX4_refusalOfCrossing_28 : decode cX4_refusalOfCrossing 28 = .ok (.bipush 40, 2) := by decide +kernel
theorem dX4_refusalOfCrossing_30 : decode cX4_refusalOfCrossing 30 = .ok (.if_icmp .lt 8, 3) := by decide +kernel
theorem dX4_refusalOfCrossing_33 : decode cX4_refusalOfCrossing 33 = .ok (.bipush (-4), 2) := by decide +kernel
theorem dX4_refusalOfCrossing_35 : decode cX4_refusalOfCrossing 35 = .ok (.goto 4, 3) := by decide +kernel
theorem dX4_refusalOfCrossing_38 : decode cX4_refusalOfCrossing 38 = .ok (.iconst 0, 1) := by decide +kernel
theorem dX4_refusalOfCrossing_39 : decode cX4_refusalOfCrossing 39 = .ok (.ireturn, 1) := by decide +kernel
theorem dX4_step_0 : decode cX4_step 0 = .ok (.aload_n 0, 1) := by decide +kernel
theorem dX4_step_1 : decode cX4_step 1 = .ok (.getfield 12, 3) := by decide +kernel
theorem dX4_step_4 : decode cX4_step 4 = .ok (.iload_n 1, 1) := by decide +kernel
theorem dX4_step_5 : decode cX4_step 5 = .ok (.invokevirtual 183, 3) := by decide +kernel
theorem dX4_step_8 : decode cX4_step 8 = .ok (.istore_n 2, 1) := by decide +kernel
theorem dX4_step_9 : decode cX4_step 9 = .ok (.iload_n 2, 1) := by decide +kernel
theorem dX4_step_10 : decode cX4_step 10 = .ok (.iconst (-1), 1) := by decide +kernel
theorem dX4_step_11 : decode cX4_step 11 = .ok (.if_icmp .eq 12, 3) := by decide +kernel
theorem dX4_step_14 : decode cX4_step 14 = .ok (.aload_n 0, 1) := by decide +kernel
theorem dX4_step_15 : decode cX4_step 15 = .ok (.getfield 34, 3) := by decide +kernel
theorem dX4_step_18 : decode cX4_step 18 = .ok (.iload_n 2, 1) := by decide +kernel
theorem dX4_step_19 : decode cX4_step 19 = .ok (.iload_n 1, 1) := by decide +kernel
theorem dX4_step_20 : decode cX4_step 20 = .ok (.invokevirtual 197, 3) := by decide +kernel
theorem dX4_step_23 : decode cX4_step 23 = .ok (.return_, 1) := by decide +kernel
theorem dX4_runDay_0 : decode cX4_runDay 0 = .ok (.aload_n 0, 1) := by decide +kernel
theorem dX4_runDay_1 : decode cX4_runDay 1 = .ok (.getfield 34, 3) := by decide +kernel
theorem dX4_runDay_4 : decode cX4_runDay 4 = .ok (.iload_n 2, 1) := by decide +kernel
theorem dX4_runDay_5 : decode cX4_runDay 5 = .ok (.aload_n 0, 1) := by decide +kernel
theorem dX4_runDay_6 : decode cX4_runDay 6 = .ok (.getfield 19, 3) := by decide +kernel
theorem dX4_runDay_9 : decode cX4_runDay 9 = .ok (.getfield 65, 3) := by decide +kernel
theorem dX4_runDay_12 : decode cX4_runDay 12 = .ok (.invokevirtual 93, 3) := by decide +kernel
theorem dX4_runDay_15 : decode cX4_runDay 15 = .ok (.iconst 0, 1) := by decide +kernel
theorem dX4_runDay_16 : decode cX4_runDay 16 = .ok (.istore_n 3, 1) := by decide +kernel
theorem dX4_runDay_17 : decode cX4_runDay 17 = .ok (.iload_n 3, 1) := by decide +kernel
theorem dX4_runDay_18 : decode cX4_runDay 18 = .ok (.iload_n 1, 1) := by decide +kernel
theorem dX4_runDay_19 : decode cX4_runDay 19 = .ok (.if_icmp .ge 14, 3) := by decide +kernel
theorem dX4_runDay_22 : decode cX4_runDay 22 = .ok (.aload_n 0, 1) := by decide +kernel
theorem dX4_runDay_23 : decode cX4_runDay 23 = .ok (.iload_n 3, 1) := by decide +kernel
theorem dX4_runDay_24 : decode cX4_runDay 24 = .ok (.invokevirtual 96, 3) := by decide +kernel
theorem dX4_runDay_27 : decode cX4_runDay 27 = .ok (.iinc 3 1, 3) := by decide +kernel
theorem dX4_runDay_30 : decode cX4_runDay 30 = .ok (.goto (-13), 3) := by decide +kernel
theorem dX4_runDay_33 : decode cX4_runDay 33 = .ok (.return_, 1) := by decide +kernel
theorem dX4_readers_0 : decode cX4_readers 0 = .ok (.iconst 0, 1) := by decide +kernel
theorem dX4_readers_1 : decode cX4_readers 1 = .ok (.istore_n 3, 1) := by decide +kernel
theorem dX4_readers_2 : decode cX4_readers 2 = .ok (.aload_n 0, 1) := by decide +kernel
theorem dX4_readers_3 : decode cX4_readers 3 = .ok (.getfield 34, 3) := by decide +kernel
theorem dX4_readers_6 : decode cX4_readers 6 = .ok (.aload_n 0, 1) := by decide +kernel
theorem dX4_readers_7 : decode cX4_readers 7 = .ok (.getfield 19, 3) := by decide +kernel
theorem dX4_readers_10 : decode cX4_readers 10 = .ok (.getfield 57, 3) := by decide +kernel
theorem dX4_readers_13 : decode cX4_readers 13 = .ok (.aload_n 0, 1) := by decide +kernel
theorem dX4_readers_14 : decode cX4_readers 14 = .ok (.getfield 19, 3) := by decide +kernel
theorem dX4_readers_17 : decode cX4_readers 17 = .ok (.getfield 65, 3) := by decide +kernel
theorem dX4_readers_20 : decode cX4_readers 20 = .ok (.invokevirtual 93, 3) := by decide +kernel
theorem dX4_readers_23 : decode cX4_readers 23 = .ok (.iconst 0, 1) := by decide +kernel
theorem dX4_readers_24 : decode cX4_readers 24 = .ok (.istore 4, 2) := by decide +kernel
theorem dX4_readers_26 : decode cX4_readers 26 = .ok (.iload 4, 2) := by decide +kernel
theorem dX4_readers_28 : decode cX4_readers 28 = .ok (.aload_n 0, 1) := by decide +kernel
theorem dX4_readers_29 : decode cX4_readers 29 = .ok (.getfield 12, 3) := by decide +kernel
theorem dX4_readers_32 : decode cX4_readers 32 = .ok (.getfield 68, 3) := by decide +kernel
theorem dX4_readers_35 : decode cX4_readers 35 = .ok (.if_icmp .ge 65, 3) := by decide +kernel
theorem dX4_readers_38 : decode cX4_readers 38 = .ok (.iload 4, 2) := by decide +kernel
theorem dX4_readers_40 : decode cX4_readers 40 = .ok (.iload_n 2, 1) := by decide +kernel
theorem dX4_readers_41 : decode cX4_readers 41 = .ok (.if_icmp .ne 12, 3) := by decide +kernel
theorem dX4_readers_44 : decode cX4_readers 44 = .ok (.aload_n 0, 1) := by decide +kernel
theorem dX4_readers_45 : decode cX4_readers 45 = .ok (.getfield 34, 3) := by decide +kernel
theorem dX4_readers_48 : decode cX4_readers 48 = .ok (.iload_n 1, 1) := by decide +kernel
theorem dX4_readers_49 : decode cX4_readers 49 = .ok (.iconst (-1), 1) := by decide +kernel
theorem dX4_readers_50 : decode cX4_readers 50 = .ok (.invokevirtual 197, 3) := by decide +kernel
theorem dX4_readers_53 : decode cX4_readers 53 = .ok (.aload_n 0, 1) := by decide +kernel
theorem dX4_readers_54 : decode cX4_readers 54 = .ok (.iload 4, 2) := by decide +kernel
theorem dX4_readers_56 : decode cX4_readers 56 = .ok (.invokevirtual 96, 3) := by decide +kernel
theorem dX4_readers_59 : decode cX4_readers 59 = .ok (.aload_n 0, 1) := by decide +kernel
theorem dX4_readers_60 : decode cX4_readers 60 = .ok (.getfield 12, 3) := by decide +kernel
theorem dX4_readers_63 : decode cX4_readers 63 = .ok (.iload 4, 2) := by decide +kernel
theorem dX4_readers_65 : decode cX4_readers 65 = .ok (.invokevirtual 99, 3) := by decide +kernel
theorem dX4_readers_68 : decode cX4_readers 68 = .ok (.istore 5, 2) := by decide +kernel
theorem dX4_readers_70 : decode cX4_readers 70 = .ok (.iload 5, 2) := by decide +kernel
theorem dX4_readers_72 : decode cX4_readers 72 = .ok (.iconst (-1), 1) := by decide +kernel
theorem dX4_readers_73 : decode cX4_readers 73 = .ok (.if_icmp .eq 21, 3) := by decide +kernel
theorem dX4_readers_76 : decode cX4_readers 76 = .ok (.aload_n 0, 1) := by decide +kernel
theorem dX4_readers_77 : decode cX4_readers 77 = .ok (.getfield 34, 3) := by decide +kernel
theorem dX4_readers_80 : decode cX4_readers 80 = .ok (.iload_n 1, 1) := by decide +kernel
theorem dX4_readers_81 : decode cX4_readers 81 = .ok (.invokevirtual 200, 3) := by decide +kernel
theorem dX4_readers_84 : decode cX4_readers 84 = .ok (.ifCond .eq 10, 3) := by decide +kernel
theorem dX4_readers_87 : decode cX4_readers 87 = .ok (.iload_n 3, 1) := by decide +kernel
theorem dX4_readers_88 : decode cX4_readers 88 = .ok (.iconst 1, 1) := by decide +kernel
theorem dX4_readers_89 : decode cX4_readers 89 = .ok (.iload 5, 2) := by decide +kernel
theorem dX4_readers_91 : decode cX4_readers 91 = .ok (.ishl, 1) := by decide +kernel
theorem dX4_readers_92 : decode cX4_readers 92 = .ok (.ior, 1) := by decide +kernel
theorem dX4_readers_93 : decode cX4_readers 93 = .ok (.istore_n 3, 1) := by decide +kernel
theorem dX4_readers_94 : decode cX4_readers 94 = .ok (.iinc 4 1, 3) := by decide +kernel
theorem dX4_readers_97 : decode cX4_readers 97 = .ok (.goto (-71), 3) := by decide +kernel
theorem dX4_readers_100 : decode cX4_readers 100 = .ok (.iload_n 3, 1) := by decide +kernel
theorem dX4_readers_101 : decode cX4_readers 101 = .ok (.ireturn, 1) := by decide +kernel
theorem dX4_unread_0 : decode cX4_unread 0 = .ok (.lconst 0, 1) := by decide +kernel
theorem dX4_unread_1 : decode cX4_unread 1 = .ok (.lstore_n 2, 1) := by decide +kernel
theorem dX4_unread_2 : decode cX4_unread 2 = .ok (.aload_n 0, 1) := by decide +kernel
theorem dX4_unread_3 : decode cX4_unread 3 = .ok (.getfield 34, 3) := by decide +kernel
theorem dX4_unread_6 : decode cX4_unread 6 = .ok (.iload_n 1, 1) := by decide +kernel
theorem dX4_unread_7 : decode cX4_unread 7 = .ok (.aload_n 0, 1) := by decide +kernel
theorem dX4_unread_8 : decode cX4_unread 8 = .ok (.getfield 19, 3) := by decide +kernel
theorem dX4_unread_11 : decode cX4_unread 11 = .ok (.getfield 65, 3) := by decide +kernel
theorem dX4_unread_14 : decode cX4_unread 14 = .ok (.invokevirtual 93, 3) := by decide +kernel
theorem dX4_unread_17 : decode cX4_unread 17 = .ok (.iconst 0, 1) := by decide +kernel
theorem dX4_unread_18 : decode cX4_unread 18 = .ok (.istore 4, 2) := by decide +kernel
theorem dX4_unread_20 : decode cX4_unread 20 = .ok (.iload 4, 2) := by decide +kernel
theorem dX4_unread_22 : decode cX4_unread 22 = .ok (.aload_n 0, 1) := by decide +kernel
theorem dX4_unread_23 : decode cX4_unread 23 = .ok (.getfield 12, 3) := by decide +kernel
theorem dX4_unread_26 : decode cX4_unread 26 = .ok (.getfield 68, 3) := by decide +kernel
theorem dX4_unread_29 : decode cX4_unread 29 = .ok (.if_icmp .ge 52, 3) := by decide +kernel
theorem dX4_unread_32 : decode cX4_unread 32 = .ok (.aload_n 0, 1) := by decide +kernel
theorem dX4_unread_33 : decode cX4_unread 33 = .ok (.getfield 12, 3) := by decide +kernel
theorem dX4_unread_36 : decode cX4_unread 36 = .ok (.iload 4, 2) := by decide +kernel
theorem dX4_unread_38 : decode cX4_unread 38 = .ok (.invokevirtual 99, 3) := by decide +kernel
theorem dX4_unread_41 : decode cX4_unread 41 = .ok (.iconst (-1), 1) := by decide +kernel
theorem dX4_unread_42 : decode cX4_unread 42 = .ok (.if_icmp .eq 20, 3) := by decide +kernel
theorem dX4_unread_45 : decode cX4_unread 45 = .ok (.lload_n 2, 1) := by decide +kernel
theorem dX4_unread_46 : decode cX4_unread 46 = .ok (.aload_n 0, 1) := by decide +kernel
theorem dX4_unread_47 : decode cX4_unread 47 = .ok (.getfield 34, 3) := by decide +kernel
theorem dX4_unread_50 : decode cX4_unread 50 = .ok (.invokevirtual 142, 3) := by decide +kernel
theorem dX4_unread_53 : decode cX4_unread 53 = .ok (.ldc2_w 146, 3) := by decide +kernel
theorem dX4_unread_56 : decode cX4_unread 56 = .ok (.lxor, 1) := by decide +kernel
theorem dX4_unread_57 : decode cX4_unread 57 = .ok (.land, 1) := by decide +kernel
theorem dX4_unread_58 : decode cX4_unread 58 = .ok (.lstore_n 2, 1) := by decide +kernel
theorem dX4_unread_59 : decode cX4_unread 59 = .ok (.goto 16, 3) := by decide +kernel
theorem dX4_unread_62 : decode cX4_unread 62 = .ok (.aload_n 0, 1) := by decide +kernel
theorem dX4_unread_63 : decode cX4_unread 63 = .ok (.iload 4, 2) := by decide +kernel
theorem dX4_unread_65 : decode cX4_unread 65 = .ok (.invokevirtual 96, 3) := by decide +kernel
theorem dX4_unread_68 : decode cX4_unread 68 = .ok (.lload_n 2, 1) := by decide +kernel
theorem dX4_unread_69 : decode cX4_unread 69 = .ok (.lconst 1, 1) := by decide +kernel
theorem dX4_unread_70 : decode cX4_unread 70 = .ok (.iload 4, 2) := by decide +kernel
theorem dX4_unread_72 : decode cX4_unread 72 = .ok (.lshl, 1) := by decide +kernel
theorem dX4_unread_73 : decode cX4_unread 73 = .ok (.lor, 1) := by decide +kernel
theorem dX4_unread_74 : decode cX4_unread 74 = .ok (.lstore_n 2, 1) := by decide +kernel
theorem dX4_unread_75 : decode cX4_unread 75 = .ok (.iinc 4 1, 3) := by decide +kernel
theorem dX4_unread_78 : decode cX4_unread 78 = .ok (.goto (-58), 3) := by decide +kernel
theorem dX4_unread_81 : decode cX4_unread 81 = .ok (.lload_n 2, 1) := by decide +kernel
theorem dX4_unread_82 : decode cX4_unread 82 = .ok (.lreturn, 1) := by decide +kernel
theorem dX4_nthEvent_0 : decode cX4_nthEvent 0 = .ok (.iconst 0, 1) := by decide +kernel
theorem dX4_nthEvent_1 : decode cX4_nthEvent 1 = .ok (.istore 4, 2) := by decide +kernel
theorem dX4_nthEvent_3 : decode cX4_nthEvent 3 = .ok (.iconst 0, 1) := by decide +kernel
theorem dX4_nthEvent_4 : decode cX4_nthEvent 4 = .ok (.istore 5, 2) := by decide +kernel
theorem dX4_nthEvent_6 : decode cX4_nthEvent 6 = .ok (.iload 5, 2) := by decide +kernel
theorem dX4_nthEvent_8 : decode cX4_nthEvent 8 = .ok (.aload_n 0, 1) := by decide +kernel
theorem dX4_nthEvent_9 : decode cX4_nthEvent 9 = .ok (.getfield 12, 3) := by decide +kernel
theorem dX4_nthEvent_12 : decode cX4_nthEvent 12 = .ok (.getfield 68, 3) := by decide +kernel
theorem dX4_nthEvent_15 : decode cX4_nthEvent 15 = .ok (.if_icmp .ge 32, 3) := by decide +kernel
theorem dX4_nthEvent_18 : decode cX4_nthEvent 18 = .ok (.lload_n 1, 1) := by decide +kernel
theorem dX4_nthEvent_19 : decode cX4_nthEvent 19 = .ok (.iload 5, 2) := by decide +kernel
theorem dX4_nthEvent_21 : decode cX4_nthEvent 21 = .ok (.lushr, 1) := by decide +kernel
theorem dX4_nthEvent_22 : decode cX4_nthEvent 22 = .ok (.lconst 1, 1) := by decide +kernel
theorem dX4_nthEvent_23 : decode cX4_nthEvent 23 = .ok (.land, 1) := by decide +kernel
theorem dX4_nthEvent_24 : decode cX4_nthEvent 24 = .ok (.lconst 1, 1) := by decide +kernel
theorem dX4_nthEvent_25 : decode cX4_nthEvent 25 = .ok (.lcmp, 1) := by decide +kernel
theorem dX4_nthEvent_26 : decode cX4_nthEvent 26 = .ok (.ifCond .ne 15, 3) := by decide +kernel
theorem dX4_nthEvent_29 : decode cX4_nthEvent 29 = .ok (.iload 4, 2) := by decide +kernel
theorem dX4_nthEvent_31 : decode cX4_nthEvent 31 = .ok (.iload_n 3, 1) := by decide +kernel
theorem dX4_nthEvent_32 : decode cX4_nthEvent 32 = .ok (.if_icmp .ne 6, 3) := by decide +kernel
theorem dX4_nthEvent_35 : decode cX4_nthEvent 35 = .ok (.iload 5, 2) := by decide +kernel
theorem dX4_nthEvent_37 : decode cX4_nthEvent 37 = .ok (.ireturn, 1) := by decide +kernel
theorem dX4_nthEvent_38 : decode cX4_nthEvent 38 = .ok (.iinc 4 1, 3) := by decide +kernel
theorem dX4_nthEvent_41 : decode cX4_nthEvent 41 = .ok (.iinc 5 1, 3) := by decide +kernel
theorem dX4_nthEvent_44 : decode cX4_nthEvent 44 = .ok (.goto (-38), 3) := by decide +kernel
theorem dX4_nthEvent_47 : decode cX4_nthEvent 47 = .ok (.bipush (-6), 2) := by decide +kernel
theorem dX4_nthEvent_49 : decode cX4_nthEvent 49 = .ok (.ireturn, 1) := by decide +kernel
theorem dX4_planBoys_0 : decode cX4_planBoys 0 = .ok (.iconst 0, 1) := by decide +kernel
theorem dX4_planBoys_1 : decode cX4_planBoys 1 = .ok (.istore_n 3, 1) := by decide +kernel
theorem dX4_planBoys_2 : decode cX4_planBoys 2 = .ok (.iconst 0, 1) := by decide +kernel
theorem dX4_planBoys_3 : decode cX4_planBoys 3 = .ok (.istore 4, 2) := by decide +kernel
theorem dX4_planBoys_5 : decode cX4_planBoys 5 = .ok (.aload_n 0, 1) := by decide +kernel
theorem dX4_planBoys_6 : decode cX4_planBoys 6 = .ok (.getfield 34, 3) := by decide +kernel
theorem dX4_planBoys_9 : decode cX4_planBoys 9 = .ok (.aload_n 0, 1) := by decide +kernel
theorem dX4_planBoys_10 : decode cX4_planBoys 10 = .ok (.getfield 19, 3) := by decide +kernel
theorem dX4_planBoys_13 : decode cX4_planBoys 13 = .ok (.getfield 57, 3) := by decide +kernel
theorem dX4_planBoys_16 : decode cX4_planBoys 16 = .ok (.aload_n 0, 1) := by decide +kernel
theorem dX4_planBoys_17 : decode cX4_planBoys 17 = .ok (.getfield 19, 3) := by decide +kernel
theorem dX4_planBoys_20 : decode cX4_planBoys 20 = .ok (.getfield 65, 3) := by decide +kernel
theorem dX4_planBoys_23 : decode cX4_planBoys 23 = .ok (.invokevirtual 93, 3) := by decide +kernel
theorem dX4_planBoys_26 : decode cX4_planBoys 26 = .ok (.iconst 0, 1) := by decide +kernel
theorem dX4_planBoys_27 : decode cX4_planBoys 27 = .ok (.istore 5, 2) := by decide +kernel
theorem dX4_planBoys_29 : decode cX4_planBoys 29 = .ok (.iload 5, 2) := by decide +kernel
theorem dX4_planBoys_31 : decode cX4_planBoys 31 = .ok (.aload_n 0, 1) := by decide +kernel
theorem dX4_planBoys_32 : decode cX4_planBoys 32 = .ok (.getfield 12, 3) := by decide +kernel
theorem dX4_planBoys_35 : decode cX4_planBoys 35 = .ok (.getfield 68, 3) := by decide +kernel
theorem dX4_planBoys_38 : decode cX4_planBoys 38 = .ok (.if_icmp .ge 66, 3) := by decide +kernel
theorem dX4_planBoys_41 : decode cX4_planBoys 41 = .ok (.aload_n 0, 1) := by decide +kernel
theorem dX4_planBoys_42 : decode cX4_planBoys 42 = .ok (.iload 5, 2) := by decide +kernel
theorem dX4_planBoys_44 : decode cX4_planBoys 44 = .ok (.invokevirtual 96, 3) := by decide +kernel
theorem dX4_planBoys_47 : decode cX4_planBoys 47 = .ok (.aload_n 0, 1) := by decide +kernel
theorem dX4_planBoys_48 : decode cX4_planBoys 48 = .ok (.getfield 12, 3) := by decide +kernel
theorem dX4_planBoys_51 : decode cX4_planBoys 51 = .ok (.iload 5, 2) := by decide +kernel
theorem dX4_planBoys_53 : decode cX4_planBoys 53 = .ok (.iload_n 1, 1) := by decide +kernel
theorem dX4_planBoys_54 : decode cX4_planBoys 54 = .ok (.invokevirtual 203, 3) := by decide +kernel
theorem dX4_planBoys_57 : decode cX4_planBoys 57 = .ok (.ifCond .eq 41, 3) := by decide +kernel
theorem dX4_planBoys_60 : decode cX4_planBoys 60 = .ok (.iload 4, 2) := by decide +kernel
theorem dX4_planBoys_62 : decode cX4_planBoys 62 = .ok (.aload_n 0, 1) := by decide +kernel
theorem dX4_planBoys_63 : decode cX4_planBoys 63 = .ok (.getfield 45, 3) := by decide +kernel
theorem dX4_planBoys_66 : decode cX4_planBoys 66 = .ok (.arraylength, 1) := by decide +kernel
theorem dX4_planBoys_67 : decode cX4_planBoys 67 = .ok (.if_icmp .ge 31, 3) := by decide +kernel
theorem dX4_planBoys_70 : decode cX4_planBoys 70 = .ok (.aload_n 0, 1) := by decide +kernel
theorem dX4_planBoys_71 : decode cX4_planBoys 71 = .ok (.getfield 45, 3) := by decide +kernel
theorem dX4_planBoys_74 : decode cX4_planBoys 74 = .ok (.iload 4, 2) := by decide +kernel
theorem dX4_planBoys_76 : decode cX4_planBoys 76 = .ok (.aload_n 0, 1) := by decide +kernel
theorem dX4_planBoys_77 : decode cX4_planBoys 77 = .ok (.getfield 34, 3) := by decide +kernel
theorem dX4_planBoys_80 : decode cX4_planBoys 80 = .ok (.iload_n 2, 1) := by decide +kernel
theorem dX4_planBoys_81 : decode cX4_planBoys 81 = .ok (.invokevirtual 180, 3) := by decide +kernel
theorem dX4_planBoys_84 : decode cX4_planBoys 84 = .ok (.iastore, 1) := by decide +kernel
theorem dX4_planBoys_85 : decode cX4_planBoys 85 = .ok (.iload_n 3, 1) := by decide +kernel
theorem dX4_planBoys_86 : decode cX4_planBoys 86 = .ok (.aload_n 0, 1) := by decide +kernel
theorem dX4_planBoys_87 : decode cX4_planBoys 87 = .ok (.getfield 45, 3) := by decide +kernel
theorem dX4_planBoys_90 : decode cX4_planBoys 90 = .ok (.iload 4, 2) := by decide +kernel
theorem dX4_planBoys_92 : decode cX4_planBoys 92 = .ok (.iaload, 1) := by decide +kernel
theorem dX4_planBoys_93 : decode cX4_planBoys 93 = .ok (.iadd, 1) := by decide +kernel
theorem dX4_planBoys_94 : decode cX4_planBoys 94 = .ok (.istore_n 3, 1) := by decide +kernel
theorem dX4_planBoys_95 : decode cX4_planBoys 95 = .ok (.iinc 4 1, 3) := by decide +kernel
theorem dX4_planBoys_98 : decode cX4_planBoys 98 = .ok (.iinc 5 1, 3) := by decide +kernel
theorem dX4_planBoys_101 : decode cX4_planBoys 101 = .ok (.goto (-72), 3) := by decide +kernel
theorem dX4_planBoys_104 : decode cX4_planBoys 104 = .ok (.iload_n 3, 1) := by decide +kernel
theorem dX4_planBoys_105 : decode cX4_planBoys 105 = .ok (.ireturn, 1) := by decide +kernel
theorem dX4_fewestLooks_0 : decode cX4_fewestLooks 0 = .ok (.iconst 1, 1) := by decide +kernel
theorem dX4_fewestLooks_1 : decode cX4_fewestLooks 1 = .ok (.iload_n 3, 1) := by decide +kernel
theorem dX4_fewestLooks_2 : decode cX4_fewestLooks 2 = .ok (.ishl, 1) := by decide +kernel
theorem dX4_fewestLooks_3 : decode cX4_fewestLooks 3 = .ok (.iconst 1, 1) := by decide +kernel
theorem dX4_fewestLooks_4 : decode cX4_fewestLooks 4 = .ok (.isub, 1) := by decide +kernel
theorem dX4_fewestLooks_5 : decode cX4_fewestLooks 5 = .ok (.istore 4, 2) := by decide +kernel
theorem dX4_fewestLooks_7 : decode cX4_fewestLooks 7 = .ok (.lload_n 1, 1) := by decide +kernel
theorem dX4_fewestLooks_8 : decode cX4_fewestLooks 8 = .ok (.aload_n 0, 1) := by decide +kernel
theorem dX4_fewestLooks_9 : decode cX4_fewestLooks 9 = .ok (.iload 4, 2) := by decide +kernel
theorem dX4_fewestLooks_11 : decode cX4_fewestLooks 11 = .ok (.iload_n 3, 1) := by decide +kernel
theorem dX4_fewestLooks_12 : decode cX4_fewestLooks 12 = .ok (.invokevirtual 207, 3) := by decide +kernel
theorem dX4_fewestLooks_15 : decode cX4_fewestLooks 15 = .ok (.ldc2_w 146, 3) := by decide +kernel
theorem dX4_fewestLooks_18 : decode cX4_fewestLooks 18 = .ok (.lxor, 1) := by decide +kernel
theorem dX4_fewestLooks_19 : decode cX4_fewestLooks 19 = .ok (.land, 1) := by decide +kernel
theorem dX4_fewestLooks_20 : decode cX4_fewestLooks 20 = .ok (.lconst 0, 1) := by decide +kernel
theorem dX4_fewestLooks_21 : decode cX4_fewestLooks 21 = .ok (.lcmp, 1) := by decide +kernel
theorem dX4_fewestLooks_22 : decode cX4_fewestLooks 22 = .ok (.ifCond .eq 6, 3) := by decide +kernel
theorem dX4_fewestLooks_25 : decode cX4_fewestLooks 25 = .ok (.bipush (-6), 2) := by decide +kernel
theorem dX4_fewestLooks_27 : decode cX4_fewestLooks 27 = .ok (.ireturn, 1) := by decide +kernel
theorem dX4_fewestLooks_28 : decode cX4_fewestLooks 28 = .ok (.iload 4, 2) := by decide +kernel
theorem dX4_fewestLooks_30 : decode cX4_fewestLooks 30 = .ok (.istore 5, 2) := by decide +kernel
theorem dX4_fewestLooks_32 : decode cX4_fewestLooks 32 = .ok (.iconst 0, 1) := by decide +kernel
theorem dX4_fewestLooks_33 : decode cX4_fewestLooks 33 = .ok (.istore 6, 2) := by decide +kernel
theorem dX4_fewestLooks_35 : decode cX4_fewestLooks 35 = .ok (.iload 6, 2) := by decide +kernel
theorem dX4_fewestLooks_37 : decode cX4_fewestLooks 37 = .ok (.iload 4, 2) := by decide +kernel
theorem dX4_fewestLooks_39 : decode cX4_fewestLooks 39 = .ok (.if_icmp .ge 56, 3) := by decide +kernel
theorem dX4_fewestLooks_42 : decode cX4_fewestLooks 42 = .ok (.iload 6, 2) := by decide +kernel
theorem dX4_fewestLooks_44 : decode cX4_fewestLooks 44 = .ok (.invokestatic 135, 3) := by decide +kernel
theorem dX4_fewestLooks_47 : decode cX4_fewestLooks 47 = .ok (.iload 5, 2) := by decide +kernel
theorem dX4_fewestLooks_49 : decode cX4_fewestLooks 49 = .ok (.invokestatic 135, 3) := by decide +kernel
theorem dX4_fewestLooks_52 : decode cX4_fewestLooks 52 = .ok (.if_icmp .ge 7, 3) := by decide +kernel
theorem dX4_fewestLooks_55 : decode cX4_fewestLooks 55 = .ok (.iconst 1, 1) := by decide +kernel
theorem dX4_fewestLooks_56 : decode cX4_fewestLooks 56 = .ok (.goto 4, 3) := by decide +kernel
theorem dX4_fewestLooks_59 : decode cX4_fewestLooks 59 = .ok (.iconst 0, 1) := by decide +kernel
theorem dX4_fewestLooks_60 : decode cX4_fewestLooks 60 = .ok (.istore 7, 2) := by decide +kernel
theorem dX4_fewestLooks_62 : decode cX4_fewestLooks 62 = .ok (.iload 7, 2) := by decide +kernel
theorem dX4_fewestLooks_64 : decode cX4_fewestLooks 64 = .ok (.ifCond .eq 25, 3) := by decide +kernel
theorem dX4_fewestLooks_67 : decode cX4_fewestLooks 67 = .ok (.lload_n 1, 1) := by decide +kernel
theorem dX4_fewestLooks_68 : decode cX4_fewestLooks 68 = .ok (.aload_n 0, 1) := by decide +kernel
theorem dX4_fewestLooks_69 : decode cX4_fewestLooks 69 = .ok (.iload 6, 2) := by decide +kernel
theorem dX4_fewestLooks_71 : decode cX4_fewestLooks 71 = .ok (.iload_n 3, 1) := by decide +kernel
theorem dX4_fewestLooks_72 : decode cX4_fewestLooks 72 = .ok (.invokevirtual 207, 3) := by decide +kernel
theorem dX4_fewestLooks_75 : decode cX4_fewestLooks 75 = .ok (.ldc2_w 146, 3) := by decide +kernel
theorem dX4_fewestLooks_78 : decode cX4_fewestLooks 78 = .ok (.lxor, 1) := by decide +kernel
theorem dX4_fewestLooks_79 : decode cX4_fewestLooks 79 = .ok (.land, 1) := by decide +kernel
theorem dX4_fewestLooks_80 : decode cX4_fewestLooks 80 = .ok (.lconst 0, 1) := by decide +kernel
theorem dX4_fewestLooks_81 : decode cX4_fewestLooks 81 = .ok (.lcmp, 1) := by decide +kernel
theorem dX4_fewestLooks_82 : decode cX4_fewestLooks 82 = .ok (.ifCond .ne 7, 3) := by decide +kernel
theorem dX4_fewestLooks_85 : decode cX4_fewestLooks 85 = .ok (.iload 6, 2) := by decide +kernel
theorem dX4_fewestLooks_87 : decode cX4_fewestLooks 87 = .ok (.istore 5, 2) := by decide +kernel
theorem dX4_fewestLooks_89 : decode cX4_fewestLooks 89 = .ok (.iinc 6 1, 3) := by decide +kernel
theorem dX4_fewestLooks_92 : decode cX4_fewestLooks 92 = .ok (.goto (-57), 3) := by decide +kernel
theorem dX4_fewestLooks_95 : decode cX4_fewestLooks 95 = .ok (.iload 5, 2) := by decide +kernel
theorem dX4_fewestLooks_97 : decode cX4_fewestLooks 97 = .ok (.ireturn, 1) := by decide +kernel
theorem dX4_markStanding_0 : decode cX4_markStanding 0 = .ok (.iconst 0, 1) := by decide +kernel
theorem dX4_markStanding_1 : decode cX4_markStanding 1 = .ok (.istore_n 1, 1) := by decide +kernel
theorem dX4_markStanding_2 : decode cX4_markStanding 2 = .ok (.aload_n 0, 1) := by decide +kernel
theorem dX4_markStanding_3 : decode cX4_markStanding 3 = .ok (.getfield 34, 3) := by decide +kernel
theorem dX4_markStanding_6 : decode cX4_markStanding 6 = .ok (.aload_n 0, 1) := by decide +kernel
theorem dX4_markStanding_7 : decode cX4_markStanding 7 = .ok (.getfield 19, 3) := by decide +kernel
theorem dX4_markStanding_10 : decode cX4_markStanding 10 = .ok (.getfield 57, 3) := by decide +kernel
theorem dX4_markStanding_13 : decode cX4_markStanding 13 = .ok (.aload_n 0, 1) := by decide +kernel
theorem dX4_markStanding_14 : decode cX4_markStanding 14 = .ok (.getfield 19, 3) := by decide +kernel
theorem dX4_markStanding_17 : decode cX4_markStanding 17 = .ok (.getfield 65, 3) := by decide +kernel
theorem dX4_markStanding_20 : decode cX4_markStanding 20 = .ok (.invokevirtual 93, 3) := by decide +kernel
theorem dX4_markStanding_23 : decode cX4_markStanding 23 = .ok (.iconst 0, 1) := by decide +kernel
theorem dX4_markStanding_24 : decode cX4_markStanding 24 = .ok (.istore_n 2, 1) := by decide +kernel
theorem dX4_markStanding_25 : decode cX4_markStanding 25 = .ok (.iload_n 2, 1) := by decide +kernel
theorem dX4_markStanding_26 : decode cX4_markStanding 26 = .ok (.aload_n 0, 1) := by decide +kernel
theorem dX4_markStanding_27 : decode cX4_markStanding 27 = .ok (.getfield 12, 3) := by decide +kernel
theorem dX4_markStanding_30 : decode cX4_markStanding 30 = .ok (.getfield 68, 3) := by decide +kernel
theorem dX4_markStanding_33 : decode cX4_markStanding 33 = .ok (.if_icmp .ge 51, 3) := by decide +kernel
theorem dX4_markStanding_36 : decode cX4_markStanding 36 = .ok (.aload_n 0, 1) := by decide +kernel
theorem dX4_markStanding_37 : decode cX4_markStanding 37 = .ok (.iload_n 2, 1) := by decide +kernel
theorem dX4_markStanding_38 : decode cX4_markStanding 38 = .ok (.invokevirtual 96, 3) := by decide +kernel
theorem dX4_markStanding_41 : decode cX4_markStanding 41 = .ok (.aload_n 0, 1) := by decide +kernel
theorem dX4_markStanding_42 : decode cX4_markStanding 42 = .ok (.getfield 12, 3) := by decide +kernel
theorem dX4_markStanding_45 : decode cX4_markStanding 45 = .ok (.iload_n 2, 1) := by decide +kernel
theorem dX4_markStanding_46 : decode cX4_markStanding 46 = .ok (.invokevirtual 183, 3) := by decide +kernel
theorem dX4_markStanding_49 : decode cX4_markStanding 49 = .ok (.iconst (-1), 1) := by decide +kernel
theorem dX4_markStanding_50 : decode cX4_markStanding 50 = .ok (.if_icmp .eq 28, 3) := by decide +kernel
theorem dX4_markStanding_53 : decode cX4_markStanding 53 = .ok (.iload_n 1, 1) := by decide +kernel
theorem dX4_markStanding_54 : decode cX4_markStanding 54 = .ok (.aload_n 0, 1) := by decide +kernel
theorem dX4_markStanding_55 : decode cX4_markStanding 55 = .ok (.getfield 49, 3) := by decide +kernel
theorem dX4_markStanding_58 : decode cX4_markStanding 58 = .ok (.arraylength, 1) := by decide +kernel
theorem dX4_markStanding_59 : decode cX4_markStanding 59 = .ok (.if_icmp .ge 19, 3) := by decide +kernel
theorem dX4_markStanding_62 : decode cX4_markStanding 62 = .ok (.aload_n 0, 1) := by decide +kernel
theorem dX4_markStanding_63 : decode cX4_markStanding 63 = .ok (.getfield 49, 3) := by decide +kernel
theorem dX4_markStanding_66 : decode cX4_markStanding 66 = .ok (.iload_n 1, 1) := by decide +kernel
theorem dX4_markStanding_67 : decode cX4_markStanding 67 = .ok (.aload_n 0, 1) := by decide +kernel
theorem dX4_markStanding_68 : decode cX4_markStanding 68 = .ok (.getfield 34, 3) := by decide +kernel
theorem dX4_markStanding_71 : decode cX4_markStanding 71 = .ok (.invokevirtual 142, 3) := by decide +kernel
theorem dX4_markStanding_74 : decode cX4_markStanding 74 = .ok (.lastore, 1) := by decide +kernel
theorem dX4_markStanding_75 : decode cX4_markStanding 75 = .ok (.iinc 1 1, 3) := by decide +kernel
theorem dX4_markStanding_78 : decode cX4_markStanding 78 = .ok (.iinc 2 1, 3) := by decide +kernel
theorem dX4_markStanding_81 : decode cX4_markStanding 81 = .ok (.goto (-56), 3) := by decide +kernel
theorem dX4_markStanding_84 : decode cX4_markStanding 84 = .ok (.return_, 1) := by decide +kernel
theorem dX4_readBehind_0 : decode cX4_readBehind 0 = .ok (.lconst 0, 1) := by decide +kernel
theorem dX4_readBehind_1 : decode cX4_readBehind 1 = .ok (.lstore_n 3, 1) := by decide +kernel
theorem dX4_readBehind_2 : decode cX4_readBehind 2 = .ok (.iconst 0, 1) := by decide +kernel
theorem dX4_readBehind_3 : decode cX4_readBehind 3 = .ok (.istore 5, 2) := by decide +kernel
theorem dX4_readBehind_5 : decode cX4_readBehind 5 = .ok (.iload 5, 2) := by decide +kernel
theorem dX4_readBehind_7 : decode cX4_readBehind 7 = .ok (.iload_n 2, 1) := by decide +kernel
theorem dX4_readBehind_8 : decode cX4_readBehind 8 = .ok (.if_icmp .ge 39, 3) := by decide +kernel
theorem dX4_readBehind_11 : decode cX4_readBehind 11 = .ok (.iload 5, 2) := by decide +kernel
theorem dX4_readBehind_13 : decode cX4_readBehind 13 = .ok (.aload_n 0, 1) := by decide +kernel
theorem dX4_readBehind_14 : decode cX4_readBehind 14 = .ok (.getfield 49, 3) := by decide +kernel
theorem dX4_readBehind_17 : decode cX4_readBehind 17 = .ok (.arraylength, 1) := by decide +kernel
theorem dX4_readBehind_18 : decode cX4_readBehind 18 = .ok (.if_icmp .ge 29, 3) := by decide +kernel
theorem dX4_readBehind_21 : decode cX4_readBehind 21 = .ok (.iload_n 1, 1) := by decide +kernel
theorem dX4_readBehind_22 : decode cX4_readBehind 22 = .ok (.iload 5, 2) := by decide +kernel
theorem dX4_readBehind_24 : decode cX4_readBehind 24 = .ok (.iushr, 1) := by decide +kernel
theorem dX4_readBehind_25 : decode cX4_readBehind 25 = .ok (.iconst 1, 1) := by decide +kernel
theorem dX4_readBehind_26 : decode cX4_readBehind 26 = .ok (.iand, 1) := by decide +kernel
theorem dX4_readBehind_27 : decode cX4_readBehind 27 = .ok (.iconst 1, 1) := by decide +kernel
theorem dX4_readBehind_28 : decode cX4_readBehind 28 = .ok (.if_icmp .ne 13, 3) := by decide +kernel
theorem dX4_readBehind_31 : decode cX4_readBehind 31 = .ok (.lload_n 3, 1) := by decide +kernel
theorem dX4_readBehind_32 : decode cX4_readBehind 32 = .ok (.aload_n 0, 1) := by decide +kernel
theorem dX4_readBehind_33 : decode cX4_readBehind 33 = .ok (.getfield 49, 3) := by decide +kernel
theorem dX4_readBehind_36 : decode cX4_readBehind 36 = .ok (.iload 5, 2) := by decide +kernel
theorem dX4_readBehind_38 : decode cX4_readBehind 38 = .ok (.laload, 1) := by decide +kernel
theorem dX4_readBehind_39 : decode cX4_readBehind 39 = .ok (.lor, 1) := by decide +kernel
theorem dX4_readBehind_40 : decode cX4_readBehind 40 = .ok (.lstore_n 3, 1) := by decide +kernel
theorem dX4_readBehind_41 : decode cX4_readBehind 41 = .ok (.iinc 5 1, 3) := by decide +kernel
theorem dX4_readBehind_44 : decode cX4_readBehind 44 = .ok (.goto (-39), 3) := by decide +kernel
theorem dX4_readBehind_47 : decode cX4_readBehind 47 = .ok (.lload_n 3, 1) := by decide +kernel
theorem dX4_readBehind_48 : decode cX4_readBehind 48 = .ok (.lreturn, 1) := by decide +kernel
theorem dX4_drawCrossings_0 : decode cX4_drawCrossings 0 = .ok (.iconst 0, 1) := by decide +kernel
theorem dX4_drawCrossings_1 : decode cX4_drawCrossings 1 = .ok (.istore 4, 2) := by decide +kernel
theorem dX4_drawCrossings_3 : decode cX4_drawCrossings 3 = .ok (.iload_n 1, 1) := by decide +kernel
theorem dX4_drawCrossings_4 : decode cX4_drawCrossings 4 = .ok (.istore 5, 2) := by decide +kernel
theorem dX4_drawCrossings_6 : decode cX4_drawCrossings 6 = .ok (.iconst 0, 1) := by decide +kernel
theorem dX4_drawCrossings_7 : decode cX4_drawCrossings 7 = .ok (.istore 6, 2) := by decide +kernel
theorem dX4_drawCrossings_9 : decode cX4_drawCrossings 9 = .ok (.iload 6, 2) := by decide +kernel
theorem dX4_drawCrossings_11 : decode cX4_drawCrossings 11 = .ok (.iload_n 2, 1) := by decide +kernel
theorem dX4_drawCrossings_12 : decode cX4_drawCrossings 12 = .ok (.if_icmp .ge 49, 3) := by decide +kernel
theorem dX4_drawCrossings_15 : decode cX4_drawCrossings 15 = .ok (.bipush 75, 2) := by decide +kernel
theorem dX4_drawCrossings_17 : decode cX4_drawCrossings 17 = .ok (.iload 5, 2) := by decide +kernel
theorem dX4_drawCrossings_19 : decode cX4_drawCrossings 19 = .ok (.imul, 1) := by decide +kernel
theorem dX4_drawCrossings_20 : decode cX4_drawCrossings 20 = .ok (.bipush 74, 2) := by decide +kernel
theorem dX4_drawCrossings_22 : decode cX4_drawCrossings 22 = .ok (.iadd, 1) := by decide +kernel
theorem dX4_drawCrossings_23 : decode cX4_drawCrossings 23 = .ok (.ldc 211, 2) := by decide +kernel
theorem dX4_drawCrossings_25 : decode cX4_drawCrossings 25 = .ok (.irem, 1) := by decide +kernel
theorem dX4_drawCrossings_26 : decode cX4_drawCrossings 26 = .ok (.istore 5, 2) := by decide +kernel
theorem dX4_drawCrossings_28 : decode cX4_drawCrossings 28 = .ok (.aload_n 0, 1) := by decide +kernel
theorem dX4_drawCrossings_29 : decode cX4_drawCrossings 29 = .ok (.getfield 34, 3) := by decide +kernel
theorem dX4_drawCrossings_32 : decode cX4_drawCrossings 32 = .ok (.iload 5, 2) := by decide +kernel
theorem dX4_drawCrossings_34 : decode cX4_drawCrossings 34 = .ok (.bipush 8, 2) := by decide +kernel
theorem dX4_drawCrossings_36 : decode cX4_drawCrossings 36 = .ok (.irem, 1) := by decide +kernel
theorem dX4_drawCrossings_37 : decode cX4_drawCrossings 37 = .ok (.iconst (-1), 1) := by decide +kernel
theorem dX4_drawCrossings_38 : decode cX4_drawCrossings 38 = .ok (.invokevirtual 197, 3) := by decide +kernel
theorem dX4_drawCrossings_41 : decode cX4_drawCrossings 41 = .ok (.aload_n 0, 1) := by decide +kernel
theorem dX4_drawCrossings_42 : decode cX4_drawCrossings 42 = .ok (.getfield 34, 3) := by decide +kernel
theorem dX4_drawCrossings_45 : decode cX4_drawCrossings 45 = .ok (.iload_n 3, 1) := by decide +kernel
theorem dX4_drawCrossings_46 : decode cX4_drawCrossings 46 = .ok (.invokevirtual 200, 3) := by decide +kernel
theorem dX4_drawCrossings_49 : decode cX4_drawCrossings 49 = .ok (.ifCond .eq 6, 3) := by decide +kernel
theorem dX4_drawCrossings_52 : decode cX4_drawCrossings 52 = .ok (.iinc 4 1, 3) := by decide +kernel
theorem dX4_drawCrossings_55 : decode cX4_drawCrossings 55 = .ok (.iinc 6 1, 3) := by decide +kernel
theorem dX4_drawCrossings_58 : decode cX4_drawCrossings 58 = .ok (.goto (-49), 3) := by decide +kernel
theorem dX4_drawCrossings_61 : decode cX4_drawCrossings 61 = .ok (.iload 4, 2) := by decide +kernel
theorem dX4_drawCrossings_63 : decode cX4_drawCrossings 63 = .ok (.ireturn, 1) := by decide +kernel
