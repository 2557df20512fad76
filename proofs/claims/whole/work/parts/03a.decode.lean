theorem dX0_init_0 : decode cX0_init 0 = .ok (.aload_n 0, 1) := by decide +kernel
theorem dX0_init_1 : decode cX0_init 1 = .ok (.invokespecial 5, 3) := by decide +kernel
theorem dX0_init_4 : decode cX0_init 4 = .ok (.aload_n 0, 1) := by decide +kernel
theorem dX0_init_5 : decode cX0_init 5 = .ok (.bipush 9, 2) := by decide +kernel
theorem dX0_init_7 : decode cX0_init 7 = .ok (.putfield 11, 3) := by decide +kernel
theorem dX0_init_10 : decode cX0_init 10 = .ok (.aload_n 0, 1) := by decide +kernel
theorem dX0_init_11 : decode cX0_init 11 = .ok (.iconst 0, 1) := by decide +kernel
theorem dX0_init_12 : decode cX0_init 12 = .ok (.putfield 15, 3) := by decide +kernel
theorem dX0_init_15 : decode cX0_init 15 = .ok (.aload_n 0, 1) := by decide +kernel
theorem dX0_init_16 : decode cX0_init 16 = .ok (.lconst 0, 1) := by decide +kernel
theorem dX0_init_17 : decode cX0_init 17 = .ok (.putfield 18, 3) := by decide +kernel
theorem dX0_init_20 : decode cX0_init 20 = .ok (.aload_n 0, 1) := by decide +kernel
theorem dX0_init_21 : decode cX0_init 21 = .ok (.lconst 0, 1) := by decide +kernel
theorem dX0_init_22 : decode cX0_init 22 = .ok (.putfield 22, 3) := by decide +kernel
theorem dX0_init_25 : decode cX0_init 25 = .ok (.aload_n 0, 1) := by decide +kernel
theorem dX0_init_26 : decode cX0_init 26 = .ok (.lconst 0, 1) := by decide +kernel
theorem dX0_init_27 : decode cX0_init 27 = .ok (.putfield 25, 3) := by decide +kernel
theorem dX0_init_30 : decode cX0_init 30 = .ok (.aload_n 0, 1) := by decide +kernel
theorem dX0_init_31 : decode cX0_init 31 = .ok (.lconst 0, 1) := by decide +kernel
theorem dX0_init_32 : decode cX0_init 32 = .ok (.putfield 28, 3) := by decide +kernel
theorem dX0_init_35 : decode cX0_init 35 = .ok (.return_, 1) := by decide +kernel
theorem dX0_begin_0 : decode cX0_begin 0 = .ok (.aload_n 0, 1) := by decide +kernel
theorem dX0_begin_1 : decode cX0_begin 1 = .ok (.iload_n 1, 1) := by decide +kernel
theorem dX0_begin_2 : decode cX0_begin 2 = .ok (.putfield 11, 3) := by decide +kernel
theorem dX0_begin_5 : decode cX0_begin 5 = .ok (.aload_n 0, 1) := by decide +kernel
theorem dX0_begin_6 : decode cX0_begin 6 = .ok (.iload_n 2, 1) := by decide +kernel
theorem dX0_begin_7 : decode cX0_begin 7 = .ok (.putfield 15, 3) := by decide +kernel
theorem dX0_begin_10 : decode cX0_begin 10 = .ok (.aload_n 0, 1) := by decide +kernel
theorem dX0_begin_11 : decode cX0_begin 11 = .ok (.lconst 1, 1) := by decide +kernel
theorem dX0_begin_12 : decode cX0_begin 12 = .ok (.iconst 4, 1) := by decide +kernel
theorem dX0_begin_13 : decode cX0_begin 13 = .ok (.iload_n 1, 1) := by decide +kernel
theorem dX0_begin_14 : decode cX0_begin 14 = .ok (.imul, 1) := by decide +kernel
theorem dX0_begin_15 : decode cX0_begin 15 = .ok (.lshl, 1) := by decide +kernel
theorem dX0_begin_16 : decode cX0_begin 16 = .ok (.lconst 1, 1) := by decide +kernel
theorem dX0_begin_17 : decode cX0_begin 17 = .ok (.lsub, 1) := by decide +kernel
theorem dX0_begin_18 : decode cX0_begin 18 = .ok (.putfield 18, 3) := by decide +kernel
theorem dX0_begin_21 : decode cX0_begin 21 = .ok (.aload_n 0, 1) := by decide +kernel
theorem dX0_begin_22 : decode cX0_begin 22 = .ok (.lconst 1, 1) := by decide +kernel
theorem dX0_begin_23 : decode cX0_begin 23 = .ok (.bipush 6, 2) := by decide +kernel
theorem dX0_begin_25 : decode cX0_begin 25 = .ok (.iload_n 1, 1) := by decide +kernel
theorem dX0_begin_26 : decode cX0_begin 26 = .ok (.imul, 1) := by decide +kernel
theorem dX0_begin_27 : decode cX0_begin 27 = .ok (.lshl, 1) := by decide +kernel
theorem dX0_begin_28 : decode cX0_begin 28 = .ok (.lconst 1, 1) := by decide +kernel
theorem dX0_begin_29 : decode cX0_begin 29 = .ok (.lsub, 1) := by decide +kernel
theorem dX0_begin_30 : decode cX0_begin 30 = .ok (.putfield 22, 3) := by decide +kernel
theorem dX0_begin_33 : decode cX0_begin 33 = .ok (.aload_n 0, 1) := by decide +kernel
theorem dX0_begin_34 : decode cX0_begin 34 = .ok (.lconst 0, 1) := by decide +kernel
theorem dX0_begin_35 : decode cX0_begin 35 = .ok (.putfield 25, 3) := by decide +kernel
theorem dX0_begin_38 : decode cX0_begin 38 = .ok (.aload_n 0, 1) := by decide +kernel
theorem dX0_begin_39 : decode cX0_begin 39 = .ok (.lconst 0, 1) := by decide +kernel
theorem dX0_begin_40 : decode cX0_begin 40 = .ok (.putfield 28, 3) := by decide +kernel
theorem dX0_begin_43 : decode cX0_begin 43 = .ok (.return_, 1) := by decide +kernel
theorem dX0_write_0 : decode cX0_write 0 = .ok (.aload_n 0, 1) := by decide +kernel
theorem dX0_write_1 : decode cX0_write 1 = .ok (.getfield 15, 3) := by decide +kernel
theorem dX0_write_4 : decode cX0_write 4 = .ok (.iconst 1, 1) := by decide +kernel
theorem dX0_write_5 : decode cX0_write 5 = .ok (.if_icmp .ne 18, 3) := by decide +kernel
theorem dX0_write_8 : decode cX0_write 8 = .ok (.iload_n 1, 1) := by decide +kernel
theorem dX0_write_9 : decode cX0_write 9 = .ok (.bipush 8, 2) := by decide +kernel
theorem dX0_write_11 : decode cX0_write 11 = .ok (.if_icmp .eq 12, 3) := by decide +kernel
theorem dX0_write_14 : decode cX0_write 14 = .ok (.aload_n 0, 1) := by decide +kernel
theorem dX0_write_15 : decode cX0_write 15 = .ok (.aload_n 0, 1) := by decide +kernel
theorem dX0_write_16 : decode cX0_write 16 = .ok (.iload_n 1, 1) := by decide +kernel
theorem dX0_write_17 : decode cX0_write 17 = .ok (.invokevirtual 31, 3) := by decide +kernel
theorem dX0_write_20 : decode cX0_write 20 = .ok (.invokevirtual 35, 3) := by decide +kernel
theorem dX0_write_23 : decode cX0_write 23 = .ok (.aload_n 0, 1) := by decide +kernel
theorem dX0_write_24 : decode cX0_write 24 = .ok (.aload_n 0, 1) := by decide +kernel
theorem dX0_write_25 : decode cX0_write 25 = .ok (.getfield 25, 3) := by decide +kernel
theorem dX0_write_28 : decode cX0_write 28 = .ok (.iconst 4, 1) := by decide +kernel
theorem dX0_write_29 : decode cX0_write 29 = .ok (.lshl, 1) := by decide +kernel
theorem dX0_write_30 : decode cX0_write 30 = .ok (.iload_n 1, 1) := by decide +kernel
theorem dX0_write_31 : decode cX0_write 31 = .ok (.iconst 1, 1) := by decide +kernel
theorem dX0_write_32 : decode cX0_write 32 = .ok (.iadd, 1) := by decide +kernel
theorem dX0_write_33 : decode cX0_write 33 = .ok (.i2l, 1) := by decide +kernel
theorem dX0_write_34 : decode cX0_write 34 = .ok (.lor, 1) := by decide +kernel
theorem dX0_write_35 : decode cX0_write 35 = .ok (.aload_n 0, 1) := by decide +kernel
theorem dX0_write_36 : decode cX0_write 36 = .ok (.getfield 18, 3) := by decide +kernel
theorem dX0_write_39 : decode cX0_write 39 = .ok (.land, 1) := by decide +kernel
theorem dX0_write_40 : decode cX0_write 40 = .ok (.putfield 25, 3) := by decide +kernel
theorem dX0_write_43 : decode cX0_write 43 = .ok (.aload_n 0, 1) := by decide +kernel
theorem dX0_write_44 : decode cX0_write 44 = .ok (.aload_n 0, 1) := by decide +kernel
theorem dX0_write_45 : decode cX0_write 45 = .ok (.getfield 28, 3) := by decide +kernel
theorem dX0_write_48 : decode cX0_write 48 = .ok (.bipush 6, 2) := by decide +kernel
theorem dX0_write_50 : decode cX0_write 50 = .ok (.lshl, 1) := by decide +kernel
theorem dX0_write_51 : decode cX0_write 51 = .ok (.iload_n 2, 1) := by decide +kernel
theorem dX0_write_52 : decode cX0_write 52 = .ok (.iconst 1, 1) := by decide +kernel
theorem dX0_write_53 : decode cX0_write 53 = .ok (.iadd, 1) := by decide +kernel
theorem dX0_write_54 : decode cX0_write 54 = .ok (.i2l, 1) := by decide +kernel
theorem dX0_write_55 : decode cX0_write 55 = .ok (.lor, 1) := by decide +kernel
theorem dX0_write_56 : decode cX0_write 56 = .ok (.aload_n 0, 1) := by decide +kernel
theorem dX0_write_57 : decode cX0_write 57 = .ok (.getfield 22, 3) := by decide +kernel
theorem dX0_write_60 : decode cX0_write 60 = .ok (.land, 1) := by decide +kernel
theorem dX0_write_61 : decode cX0_write 61 = .ok (.putfield 28, 3) := by decide +kernel
theorem dX0_write_64 : decode cX0_write 64 = .ok (.aload_n 0, 1) := by decide +kernel
theorem dX0_write_65 : decode cX0_write 65 = .ok (.getfield 15, 3) := by decide +kernel
theorem dX0_write_68 : decode cX0_write 68 = .ok (.iconst 2, 1) := by decide +kernel
theorem dX0_write_69 : decode cX0_write 69 = .ok (.if_icmp .ne 17, 3) := by decide +kernel
theorem dX0_write_72 : decode cX0_write 72 = .ok (.aload_n 0, 1) := by decide +kernel
theorem dX0_write_73 : decode cX0_write 73 = .ok (.aload_n 0, 1) := by decide +kernel
theorem dX0_write_74 : decode cX0_write 74 = .ok (.getfield 11, 3) := by decide +kernel
theorem dX0_write_77 : decode cX0_write 77 = .ok (.iconst 1, 1) := by decide +kernel
theorem dX0_write_78 : decode cX0_write 78 = .ok (.iadd, 1) := by decide +kernel
theorem dX0_write_79 : decode cX0_write 79 = .ok (.iconst 2, 1) := by decide +kernel
theorem dX0_write_80 : decode cX0_write 80 = .ok (.idiv, 1) := by decide +kernel
theorem dX0_write_81 : decode cX0_write 81 = .ok (.iconst 1, 1) := by decide +kernel
theorem dX0_write_82 : decode cX0_write 82 = .ok (.isub, 1) := by decide +kernel
theorem dX0_write_83 : decode cX0_write 83 = .ok (.invokevirtual 35, 3) := by decide +kernel
theorem dX0_write_86 : decode cX0_write 86 = .ok (.return_, 1) := by decide +kernel
theorem dX0_nameAt_0 : decode cX0_nameAt 0 = .ok (.aload_n 0, 1) := by decide +kernel
theorem dX0_nameAt_1 : decode cX0_nameAt 1 = .ok (.getfield 25, 3) := by decide +kernel
theorem dX0_nameAt_4 : decode cX0_nameAt 4 = .ok (.iconst 4, 1) := by decide +kernel
theorem dX0_nameAt_5 : decode cX0_nameAt 5 = .ok (.iload_n 1, 1) := by decide +kernel
theorem dX0_nameAt_6 : decode cX0_nameAt 6 = .ok (.imul, 1) := by decide +kernel
theorem dX0_nameAt_7 : decode cX0_nameAt 7 = .ok (.lushr, 1) := by decide +kernel
theorem dX0_nameAt_8 : decode cX0_nameAt 8 = .ok (.ldc2_w 39, 3) := by decide +kernel
theorem dX0_nameAt_11 : decode cX0_nameAt 11 = .ok (.land, 1) := by decide +kernel
theorem dX0_nameAt_12 : decode cX0_nameAt 12 = .ok (.l2i, 1) := by decide +kernel
theorem dX0_nameAt_13 : decode cX0_nameAt 13 = .ok (.iconst 1, 1) := by decide +kernel
theorem dX0_nameAt_14 : decode cX0_nameAt 14 = .ok (.isub, 1) := by decide +kernel
theorem dX0_nameAt_15 : decode cX0_nameAt 15 = .ok (.ireturn, 1) := by decide +kernel
theorem dX0_holds_0 : decode cX0_holds 0 = .ok (.aload_n 0, 1) := by decide +kernel
theorem dX0_holds_1 : decode cX0_holds 1 = .ok (.iload_n 1, 1) := by decide +kernel
theorem dX0_holds_2 : decode cX0_holds 2 = .ok (.invokevirtual 31, 3) := by decide +kernel
theorem dX0_holds_5 : decode cX0_holds 5 = .ok (.iconst (-1), 1) := by decide +kernel
theorem dX0_holds_6 : decode cX0_holds 6 = .ok (.if_icmp .eq 7, 3) := by decide +kernel
theorem dX0_holds_9 : decode cX0_holds 9 = .ok (.iconst 1, 1) := by decide +kernel
theorem dX0_holds_10 : decode cX0_holds 10 = .ok (.goto 4, 3) := by decide +kernel
theorem dX0_holds_13 : decode cX0_holds 13 = .ok (.iconst 0, 1) := by decide +kernel
theorem dX0_holds_14 : decode cX0_holds 14 = .ok (.ireturn, 1) := by decide +kernel
theorem dX0_people_0 : decode cX0_people 0 = .ok (.iconst 0, 1) := by decide +kernel
theorem dX0_people_1 : decode cX0_people 1 = .ok (.istore_n 1, 1) := by decide +kernel
theorem dX0_people_2 : decode cX0_people 2 = .ok (.iconst 0, 1) := by decide +kernel
theorem dX0_people_3 : decode cX0_people 3 = .ok (.istore_n 2, 1) := by decide +kernel
theorem dX0_people_4 : decode cX0_people 4 = .ok (.iload_n 2, 1) := by decide +kernel
theorem dX0_people_5 : decode cX0_people 5 = .ok (.aload_n 0, 1) := by decide +kernel
theorem dX0_people_6 : decode cX0_people 6 = .ok (.getfield 11, 3) := by decide +kernel
theorem dX0_people_9 : decode cX0_people 9 = .ok (.if_icmp .ge 28, 3) := by decide +kernel
theorem dX0_people_12 : decode cX0_people 12 = .ok (.aload_n 0, 1) := by decide +kernel
theorem dX0_people_13 : decode cX0_people 13 = .ok (.iload_n 2, 1) := by decide +kernel
theorem dX0_people_14 : decode cX0_people 14 = .ok (.invokevirtual 41, 3) := by decide +kernel
theorem dX0_people_17 : decode cX0_people 17 = .ok (.istore_n 3, 1) := by decide +kernel
theorem dX0_people_18 : decode cX0_people 18 = .ok (.iload_n 3, 1) := by decide +kernel
theorem dX0_people_19 : decode cX0_people 19 = .ok (.invokestatic 44, 3) := by decide +kernel
theorem dX0_people_22 : decode cX0_people 22 = .ok (.ifCond .eq 9, 3) := by decide +kernel
theorem dX0_people_25 : decode cX0_people 25 = .ok (.iload_n 1, 1) := by decide +kernel
theorem dX0_people_26 : decode cX0_people 26 = .ok (.iconst 1, 1) := by decide +kernel
theorem dX0_people_27 : decode cX0_people 27 = .ok (.iload_n 3, 1) := by decide +kernel
theorem dX0_people_28 : decode cX0_people 28 = .ok (.ishl, 1) := by decide +kernel
theorem dX0_people_29 : decode cX0_people 29 = .ok (.ior, 1) := by decide +kernel
theorem dX0_people_30 : decode cX0_people 30 = .ok (.istore_n 1, 1) := by decide +kernel
theorem dX0_people_31 : decode cX0_people 31 = .ok (.iinc 2 1, 3) := by decide +kernel
theorem dX0_people_34 : decode cX0_people 34 = .ok (.goto (-30), 3) := by decide +kernel
theorem dX0_people_37 : decode cX0_people 37 = .ok (.iload_n 1, 1) := by decide +kernel
theorem dX0_people_38 : decode cX0_people 38 = .ok (.ireturn, 1) := by decide +kernel
theorem dX0_writtenEvents_0 : decode cX0_writtenEvents 0 = .ok (.lconst 0, 1) := by decide +kernel
theorem dX0_writtenEvents_1 : decode cX0_writtenEvents 1 = .ok (.lstore_n 1, 1) := by decide +kernel
theorem dX0_writtenEvents_2 : decode cX0_writtenEvents 2 = .ok (.iconst 0, 1) := by decide +kernel
theorem dX0_writtenEvents_3 : decode cX0_writtenEvents 3 = .ok (.istore_n 3, 1) := by decide +kernel
theorem dX0_writtenEvents_4 : decode cX0_writtenEvents 4 = .ok (.iload_n 3, 1) := by decide +kernel
theorem dX0_writtenEvents_5 : decode cX0_writtenEvents 5 = .ok (.aload_n 0, 1) := by decide +kernel
theorem dX0_writtenEvents_6 : decode cX0_writtenEvents 6 = .ok (.getfield 11, 3) := by decide +kernel
theorem dX0_writtenEvents_9 : decode cX0_writtenEvents 9 = .ok (.if_icmp .ge 40, 3) := by decide +kernel
theorem dX0_writtenEvents_12 : decode cX0_writtenEvents 12 = .ok (.aload_n 0, 1) := by decide +kernel
theorem dX0_writtenEvents_13 : decode cX0_writtenEvents 13 = .ok (.getfield 28, 3) := by decide +kernel
theorem dX0_writtenEvents_16 : decode cX0_writtenEvents 16 = .ok (.bipush 6, 2) := by decide +kernel
theorem dX0_writtenEvents_18 : decode cX0_writtenEvents 18 = .ok (.iload_n 3, 1) := by decide +kernel
theorem dX0_writtenEvents_19 : decode cX0_writtenEvents 19 = .ok (.imul, 1) := by decide +kernel
theorem dX0_writtenEvents_20 : decode cX0_writtenEvents 20 = .ok (.lushr, 1) := by decide +kernel
theorem dX0_writtenEvents_21 : decode cX0_writtenEvents 21 = .ok (.ldc2_w 48, 3) := by decide +kernel
theorem dX0_writtenEvents_24 : decode cX0_writtenEvents 24 = .ok (.land, 1) := by decide +kernel
theorem dX0_writtenEvents_25 : decode cX0_writtenEvents 25 = .ok (.l2i, 1) := by decide +kernel
theorem dX0_writtenEvents_26 : decode cX0_writtenEvents 26 = .ok (.iconst 1, 1) := by decide +kernel
theorem dX0_writtenEvents_27 : decode cX0_writtenEvents 27 = .ok (.isub, 1) := by decide +kernel
theorem dX0_writtenEvents_28 : decode cX0_writtenEvents 28 = .ok (.istore 4, 2) := by decide +kernel
theorem dX0_writtenEvents_30 : decode cX0_writtenEvents 30 = .ok (.iload 4, 2) := by decide +kernel
theorem dX0_writtenEvents_32 : decode cX0_writtenEvents 32 = .ok (.iconst (-1), 1) := by decide +kernel
theorem dX0_writtenEvents_33 : decode cX0_writtenEvents 33 = .ok (.if_icmp .eq 10, 3) := by decide +kernel
theorem dX0_writtenEvents_36 : decode cX0_writtenEvents 36 = .ok (.lload_n 1, 1) := by decide +kernel
theorem dX0_writtenEvents_37 : decode cX0_writtenEvents 37 = .ok (.lconst 1, 1) := by decide +kernel
theorem dX0_writtenEvents_38 : decode cX0_writtenEvents 38 = .ok (.iload 4, 2) := by decide +kernel
theorem dX0_writtenEvents_40 : decode cX0_writtenEvents 40 = .ok (.lshl, 1) := by decide +kernel
theorem dX0_writtenEvents_41 : decode cX0_writtenEvents 41 = .ok (.lor, 1) := by decide +kernel
theorem dX0_writtenEvents_42 : decode cX0_writtenEvents 42 = .ok (.lstore_n 1, 1) := by decide +kernel
theorem dX0_writtenEvents_43 : decode cX0_writtenEvents 43 = .ok (.iinc 3 1, 3) := by decide +kernel
theorem dX0_writtenEvents_46 : decode cX0_writtenEvents 46 = .ok (.goto (-42), 3) := by decide +kernel
theorem dX0_writtenEvents_49 : decode cX0_writtenEvents 49 = .ok (.lload_n 1, 1) := by decide +kernel
theorem dX0_writtenEvents_50 : decode cX0_writtenEvents 50 = .ok (.lreturn, 1) := by decide +kernel
theorem dX0_pushOut_0 : decode cX0_pushOut 0 = .ok (.iconst 0, 1) := by decide +kernel
theorem dX0_pushOut_1 : decode cX0_pushOut 1 = .ok (.istore_n 2, 1) := by decide +kernel
theorem dX0_pushOut_2 : decode cX0_pushOut 2 = .ok (.iload_n 2, 1) := by decide +kernel
theorem dX0_pushOut_3 : decode cX0_pushOut 3 = .ok (.aload_n 0, 1) := by decide +kernel
theorem dX0_pushOut_4 : decode cX0_pushOut 4 = .ok (.getfield 11, 3) := by decide +kernel
theorem dX0_pushOut_7 : decode cX0_pushOut 7 = .ok (.if_icmp .ge 24, 3) := by decide +kernel
theorem dX0_pushOut_10 : decode cX0_pushOut 10 = .ok (.aload_n 0, 1) := by decide +kernel
theorem dX0_pushOut_11 : decode cX0_pushOut 11 = .ok (.iload_n 1, 1) := by decide +kernel
theorem dX0_pushOut_12 : decode cX0_pushOut 12 = .ok (.invokevirtual 50, 3) := by decide +kernel
theorem dX0_pushOut_15 : decode cX0_pushOut 15 = .ok (.ifCond .eq 16, 3) := by decide +kernel
theorem dX0_pushOut_18 : decode cX0_pushOut 18 = .ok (.aload_n 0, 1) := by decide +kernel
theorem dX0_pushOut_19 : decode cX0_pushOut 19 = .ok (.bipush 8, 2) := by decide +kernel
theorem dX0_pushOut_21 : decode cX0_pushOut 21 = .ok (.iconst (-1), 1) := by decide +kernel
theorem dX0_pushOut_22 : decode cX0_pushOut 22 = .ok (.invokevirtual 53, 3) := by decide +kernel
theorem dX0_pushOut_25 : decode cX0_pushOut 25 = .ok (.iinc 2 1, 3) := by decide +kernel
theorem dX0_pushOut_28 : decode cX0_pushOut 28 = .ok (.goto (-26), 3) := by decide +kernel
theorem dX0_pushOut_31 : decode cX0_pushOut 31 = .ok (.iload_n 2, 1) := by decide +kernel
theorem dX0_pushOut_32 : decode cX0_pushOut 32 = .ok (.ireturn, 1) := by decide +kernel
theorem dX0_placeOf_0 : decode cX0_placeOf 0 = .ok (.iload_n 1, 1) := by decide +kernel
theorem dX0_placeOf_1 : decode cX0_placeOf 1 = .ok (.iconst (-1), 1) := by decide +kernel
theorem dX0_placeOf_2 : decode cX0_placeOf 2 = .ok (.if_icmp .ne 5, 3) := by decide +kernel
theorem dX0_placeOf_5 : decode cX0_placeOf 5 = .ok (.iconst (-1), 1) := by decide +kernel
theorem dX0_placeOf_6 : decode cX0_placeOf 6 = .ok (.ireturn, 1) := by decide +kernel
theorem dX0_placeOf_7 : decode cX0_placeOf 7 = .ok (.aload_n 0, 1) := by decide +kernel
theorem dX0_placeOf_8 : decode cX0_placeOf 8 = .ok (.getfield 25, 3) := by decide +kernel
theorem dX0_placeOf_11 : decode cX0_placeOf 11 = .ok (.lstore_n 2, 1) := by decide +kernel
theorem dX0_placeOf_12 : decode cX0_placeOf 12 = .ok (.iconst 0, 1) := by decide +kernel
theorem dX0_placeOf_13 : decode cX0_placeOf 13 = .ok (.istore 4, 2) := by decide +kernel
theorem dX0_placeOf_15 : decode cX0_placeOf 15 = .ok (.iload 4, 2) := by decide +kernel
theorem dX0_placeOf_17 : decode cX0_placeOf 17 = .ok (.aload_n 0, 1) := by decide +kernel
theorem dX0_placeOf_18 : decode cX0_placeOf 18 = .ok (.getfield 11, 3) := by decide +kernel
theorem dX0_placeOf_21 : decode cX0_placeOf 21 = .ok (.if_icmp .ge 35, 3) := by decide +kernel
theorem dX0_placeOf_24 : decode cX0_placeOf 24 = .ok (.lload_n 2, 1) := by decide +kernel
theorem dX0_placeOf_25 : decode cX0_placeOf 25 = .ok (.lconst 0, 1) := by decide +kernel
theorem dX0_placeOf_26 : decode cX0_placeOf 26 = .ok (.lcmp, 1) := by decide +kernel
theorem dX0_placeOf_27 : decode cX0_placeOf 27 = .ok (.ifCond .eq 29, 3) := by decide +kernel
theorem dX0_placeOf_30 : decode cX0_placeOf 30 = .ok (.lload_n 2, 1) := by decide +kernel
theorem dX0_placeOf_31 : decode cX0_placeOf 31 = .ok (.ldc2_w 39, 3) := by decide +kernel
theorem dX0_placeOf_34 : decode cX0_placeOf 34 = .ok (.land, 1) := by decide +kernel
theorem dX0_placeOf_35 : decode cX0_placeOf 35 = .ok (.iload_n 1, 1) := by decide +kernel
theorem dX0_placeOf_36 : decode cX0_placeOf 36 = .ok (.iconst 1, 1) := by decide +kernel
theorem dX0_placeOf_37 : decode cX0_placeOf 37 = .ok (.iadd, 1) := by decide +kernel
theorem dX0_placeOf_38 : decode cX0_placeOf 38 = .ok (.i2l, 1) := by decide +kernel
theorem dX0_placeOf_39 : decode cX0_placeOf 39 = .ok (.lcmp, 1) := by decide +kernel
theorem dX0_placeOf_40 : decode cX0_placeOf 40 = .ok (.ifCond .ne 6, 3) := by decide +kernel
theorem dX0_placeOf_43 : decode cX0_placeOf 43 = .ok (.iload 4, 2) := by decide +kernel
theorem dX0_placeOf_45 : decode cX0_placeOf 45 = .ok (.ireturn, 1) := by decide +kernel
theorem dX0_placeOf_46 : decode cX0_placeOf 46 = .ok (.lload_n 2, 1) := by decide +kernel
theorem dX0_placeOf_47 : decode cX0_placeOf 47 = .ok (.iconst 4, 1) := by decide +kernel
theorem dX0_placeOf_48 : decode cX0_placeOf 48 = .ok (.lushr, 1) := by decide +kernel
theorem dX0_placeOf_49 : decode cX0_placeOf 49 = .ok (.lstore_n 2, 1) := by decide +kernel
theorem dX0_placeOf_50 : decode cX0_placeOf 50 = .ok (.iinc 4 1, 3) := by decide +kernel
theorem dX0_placeOf_53 : decode cX0_placeOf 53 = .ok (.goto (-38), 3) := by decide +kernel
theorem dX0_placeOf_56 : decode cX0_placeOf 56 = .ok (.iconst (-1), 1) := by decide +kernel
theorem dX0_placeOf_57 : decode cX0_placeOf 57 = .ok (.ireturn, 1) := by decide +kernel
theorem dX0_removeAt_0 : decode cX0_removeAt 0 = .ok (.iload_n 1, 1) := by decide +kernel
theorem dX0_removeAt_1 : decode cX0_removeAt 1 = .ok (.iconst (-1), 1) := by decide +kernel
theorem dX0_removeAt_2 : decode cX0_removeAt 2 = .ok (.if_icmp .eq 35, 3) := by decide +kernel
theorem dX0_removeAt_5 : decode cX0_removeAt 5 = .ok (.aload_n 0, 1) := by decide +kernel
theorem dX0_removeAt_6 : decode cX0_removeAt 6 = .ok (.aload_n 0, 1) := by decide +kernel
theorem dX0_removeAt_7 : decode cX0_removeAt 7 = .ok (.getfield 25, 3) := by decide +kernel
theorem dX0_removeAt_10 : decode cX0_removeAt 10 = .ok (.iconst 4, 1) := by decide +kernel
theorem dX0_removeAt_11 : decode cX0_removeAt 11 = .ok (.iload_n 1, 1) := by decide +kernel
theorem dX0_removeAt_12 : decode cX0_removeAt 12 = .ok (.imul, 1) := by decide +kernel
theorem dX0_removeAt_13 : decode cX0_removeAt 13 = .ok (.iconst 4, 1) := by decide +kernel
theorem dX0_removeAt_14 : decode cX0_removeAt 14 = .ok (.invokestatic 57, 3) := by decide +kernel
theorem dX0_removeAt_17 : decode cX0_removeAt 17 = .ok (.putfield 25, 3) := by decide +kernel
theorem dX0_removeAt_20 : decode cX0_removeAt 20 = .ok (.aload_n 0, 1) := by decide +kernel
theorem dX0_removeAt_21 : decode cX0_removeAt 21 = .ok (.aload_n 0, 1) := by decide +kernel
theorem dX0_removeAt_22 : decode cX0_removeAt 22 = .ok (.getfield 28, 3) := by decide +kernel
theorem dX0_removeAt_25 : decode cX0_removeAt 25 = .ok (.bipush 6, 2) := by decide +kernel
theorem dX0_removeAt_27 : decode cX0_removeAt 27 = .ok (.iload_n 1, 1) := by decide +kernel
theorem dX0_removeAt_28 : decode cX0_removeAt 28 = .ok (.imul, 1) := by decide +kernel
theorem dX0_removeAt_29 : decode cX0_removeAt 29 = .ok (.bipush 6, 2) := by decide +kernel
theorem dX0_removeAt_31 : decode cX0_removeAt 31 = .ok (.invokestatic 57, 3) := by decide +kernel
theorem dX0_removeAt_34 : decode cX0_removeAt 34 = .ok (.putfield 28, 3) := by decide +kernel
theorem dX0_removeAt_37 : decode cX0_removeAt 37 = .ok (.return_, 1) := by decide +kernel
theorem dX0_withoutDigit_0 : decode cX0_withoutDigit 0 = .ok (.lload_n 0, 1) := by decide +kernel
theorem dX0_withoutDigit_1 : decode cX0_withoutDigit 1 = .ok (.lconst 1, 1) := by decide +kernel
theorem dX0_withoutDigit_2 : decode cX0_withoutDigit 2 = .ok (.iload_n 2, 1) := by decide +kernel
theorem dX0_withoutDigit_3 : decode cX0_withoutDigit 3 = .ok (.lshl, 1) := by decide +kernel
theorem dX0_withoutDigit_4 : decode cX0_withoutDigit 4 = .ok (.lconst 1, 1) := by decide +kernel
theorem dX0_withoutDigit_5 : decode cX0_withoutDigit 5 = .ok (.lsub, 1) := by decide +kernel
theorem dX0_withoutDigit_6 : decode cX0_withoutDigit 6 = .ok (.land, 1) := by decide +kernel
theorem dX0_withoutDigit_7 : decode cX0_withoutDigit 7 = .ok (.lstore 4, 2) := by decide +kernel
theorem dX0_withoutDigit_9 : decode cX0_withoutDigit 9 = .ok (.lload_n 0, 1) := by decide +kernel
theorem dX0_withoutDigit_10 : decode cX0_withoutDigit 10 = .ok (.iload_n 2, 1) := by decide +kernel
theorem dX0_withoutDigit_11 : decode cX0_withoutDigit 11 = .ok (.iload_n 3, 1) := by decide +kernel
theorem dX0_withoutDigit_12 : decode cX0_withoutDigit 12 = .ok (.iadd, 1) := by decide +kernel
theorem dX0_withoutDigit_13 : decode cX0_withoutDigit 13 = .ok (.lushr, 1) := by decide +kernel
theorem dX0_withoutDigit_14 : decode cX0_withoutDigit 14 = .ok (.lstore 6, 2) := by decide +kernel
theorem dX0_withoutDigit_16 : decode cX0_withoutDigit 16 = .ok (.lload 6, 2) := by decide +kernel
theorem dX0_withoutDigit_18 : decode cX0_withoutDigit 18 = .ok (.iload_n 2, 1) := by decide +kernel
theorem dX0_withoutDigit_19 : decode cX0_withoutDigit 19 = .ok (.lshl, 1) := by decide +kernel
theorem dX0_withoutDigit_20 : decode cX0_withoutDigit 20 = .ok (.lload 4, 2) := by decide +kernel
theorem dX0_withoutDigit_22 : decode cX0_withoutDigit 22 = .ok (.lor, 1) := by decide +kernel
theorem dX0_withoutDigit_23 : decode cX0_withoutDigit 23 = .ok (.lreturn, 1) := by decide +kernel
theorem dX1_init_0 : decode cX1_init 0 = .ok (.aload_n 0, 1) := by decide +kernel
theorem dX1_init_1 : decode cX1_init 1 = .ok (.invokespecial 3, 3) := by decide +kernel
theorem dX1_init_4 : decode cX1_init 4 = .ok (.aload_n 0, 1) := by decide +kernel
theorem dX1_init_5 : decode cX1_init 5 = .ok (.bipush 40, 2) := by decide +kernel
theorem dX1_init_7 : decode cX1_init 7 = .ok (.newarray .int, 2) := by decide +kernel
theorem dX1_init_9 : decode cX1_init 9 = .ok (.putfield 9, 3) := by decide +kernel
theorem dX1_init_12 : decode cX1_init 12 = .ok (.aload_n 0, 1) := by decide +kernel
theorem dX1_init_13 : decode cX1_init 13 = .ok (.iconst 0, 1) := by decide +kernel
theorem dX1_init_14 : decode cX1_init 14 = .ok (.putfield 15, 3) := by decide +kernel
theorem dX1_init_17 : decode cX1_init 17 = .ok (.return_, 1) := by decide +kernel
theorem dX1_append_0 : decode cX1_append 0 = .ok (.aload_n 0, 1) := by decide +kernel
theorem dX1_append_1 : decode cX1_append 1 = .ok (.getfield 15, 3) := by decide +kernel
theorem dX1_append_4 : decode cX1_append 4 = .ok (.bipush 40, 2) := by decide +kernel
theorem dX1_append_6 : decode cX1_append 6 = .ok (.if_icmp .ge 23, 3) := by decide +kernel
theorem dX1_append_9 : decode cX1_append 9 = .ok (.aload_n 0, 1) := by decide +kernel
theorem dX1_append_10 : decode cX1_append 10 = .ok (.getfield 9, 3) := by decide +kernel
theorem dX1_append_13 : decode cX1_append 13 = .ok (.aload_n 0, 1) := by decide +kernel
theorem dX1_append_14 : decode cX1_append 14 = .ok (.getfield 15, 3) := by decide +kernel
theorem dX1_append_17 : decode cX1_append 17 = .ok (.iload_n 1, 1) := by decide +kernel
theorem dX1_append_18 : decode cX1_append 18 = .ok (.iastore, 1) := by decide +kernel
theorem dX1_append_19 : decode cX1_append 19 = .ok (.aload_n 0, 1) := by decide +kernel
theorem dX1_append_20 : decode cX1_append 20 = .ok (.dup, 1) := by decide +kernel
theorem dX1_append_21 : decode cX1_append 21 = .ok (.getfield 15, 3) := by decide +kernel
theorem dX1_append_24 : decode cX1_append 24 = .ok (.iconst 1, 1) := by decide +kernel
theorem dX1_append_25 : decode cX1_append 25 = .ok (.iadd, 1) := by decide +kernel
theorem dX1_append_26 : decode cX1_append 26 = .ok (.putfield 15, 3) := by decide +kernel
theorem dX1_append_29 : decode cX1_append 29 = .ok (.return_, 1) := by decide +kernel
theorem dX1_signAt_0 : decode cX1_signAt 0 = .ok (.iload_n 1, 1) := by decide +kernel
theorem dX1_signAt_1 : decode cX1_signAt 1 = .ok (.ifCond .lt 26, 3) := by decide +kernel
theorem dX1_signAt_4 : decode cX1_signAt 4 = .ok (.iload_n 1, 1) := by decide +kernel
theorem dX1_signAt_5 : decode cX1_signAt 5 = .ok (.aload_n 0, 1) := by decide +kernel
theorem dX1_signAt_6 : decode cX1_signAt 6 = .ok (.getfield 15, 3) := by decide +kernel
theorem dX1_signAt_9 : decode cX1_signAt 9 = .ok (.if_icmp .ge 18, 3) := by decide +kernel
theorem dX1_signAt_12 : decode cX1_signAt 12 = .ok (.iload_n 1, 1) := by decide +kernel
theorem dX1_signAt_13 : decode cX1_signAt 13 = .ok (.bipush 40, 2) := by decide +kernel
theorem dX1_signAt_15 : decode cX1_signAt 15 = .ok (.if_icmp .ge 12, 3) := by decide +kernel
theorem dX1_signAt_18 : decode cX1_signAt 18 = .ok (.aload_n 0, 1) := by decide +kernel
theorem dX1_signAt_19 : decode cX1_signAt 19 = .ok (.getfield 9, 3) := by decide +kernel
theorem dX1_signAt_22 : decode cX1_signAt 22 = .ok (.iload_n 1, 1) := by decide +kernel
theorem dX1_signAt_23 : decode cX1_signAt 23 = .ok (.iaload, 1) := by decide +kernel
theorem dX1_signAt_24 : decode cX1_signAt 24 = .ok (.goto 4, 3) := by decide +kernel
theorem dX1_signAt_27 : decode cX1_signAt 27 = .ok (.iconst 0, 1) := by decide +kernel
theorem dX1_signAt_28 : decode cX1_signAt 28 = .ok (.ireturn, 1) := by decide +kernel
theorem dX1_crosser_0 : decode cX1_crosser 0 = .ok (.aload_n 0, 1) := by decide +kernel
theorem dX1_crosser_1 : decode cX1_crosser 1 = .ok (.iload_n 1, 1) := by decide +kernel
theorem dX1_crosser_2 : decode cX1_crosser 2 = .ok (.invokevirtual 19, 3) := by decide +kernel
theorem dX1_crosser_5 : decode cX1_crosser 5 = .ok (.bipush 65, 2) := by decide +kernel
theorem dX1_crosser_7 : decode cX1_crosser 7 = .ok (.isub, 1) := by decide +kernel
theorem dX1_crosser_8 : decode cX1_crosser 8 = .ok (.istore_n 2, 1) := by decide +kernel
theorem dX1_crosser_9 : decode cX1_crosser 9 = .ok (.iload_n 2, 1) := by decide +kernel
theorem dX1_crosser_10 : decode cX1_crosser 10 = .ok (.invokestatic 23, 3) := by decide +kernel
theorem dX1_crosser_13 : decode cX1_crosser 13 = .ok (.ifCond .eq 7, 3) := by decide +kernel
theorem dX1_crosser_16 : decode cX1_crosser 16 = .ok (.iload_n 2, 1) := by decide +kernel
theorem dX1_crosser_17 : decode cX1_crosser 17 = .ok (.goto 4, 3) := by decide +kernel
theorem dX1_crosser_20 : decode cX1_crosser 20 = .ok (.iconst (-1), 1) := by decide +kernel
theorem dX1_crosser_21 : decode cX1_crosser 21 = .ok (.ireturn, 1) := by decide +kernel
theorem dX1_looker_0 : decode cX1_looker 0 = .ok (.aload_n 0, 1) := by decide +kernel
theorem dX1_looker_1 : decode cX1_looker 1 = .ok (.iload_n 1, 1) := by decide +kernel
theorem dX1_looker_2 : decode cX1_looker 2 = .ok (.invokevirtual 19, 3) := by decide +kernel
theorem dX1_looker_5 : decode cX1_looker 5 = .ok (.bipush 97, 2) := by decide +kernel
theorem dX1_looker_7 : decode cX1_looker 7 = .ok (.isub, 1) := by decide +kernel
theorem dX1_looker_8 : decode cX1_looker 8 = .ok (.istore_n 2, 1) := by decide +kernel
theorem dX1_looker_9 : decode cX1_looker 9 = .ok (.iload_n 2, 1) := by decide +kernel
theorem dX1_looker_10 : decode cX1_looker 10 = .ok (.invokestatic 23, 3) := by decide +kernel
theorem dX1_looker_13 : decode cX1_looker 13 = .ok (.ifCond .eq 7, 3) := by decide +kernel
theorem dX1_looker_16 : decode cX1_looker 16 = .ok (.iload_n 2, 1) := by decide +kernel
theorem dX1_looker_17 : decode cX1_looker 17 = .ok (.goto 4, 3) := by decide +kernel
theorem dX1_looker_20 : decode cX1_looker 20 = .ok (.iconst (-1), 1) := by decide +kernel
theorem dX1_looker_21 : decode cX1_looker 21 = .ok (.ireturn, 1) := by decide +kernel
theorem dX1_isAsked_0 : decode cX1_isAsked 0 = .ok (.aload_n 0, 1) := by decide +kernel
theorem dX1_isAsked_1 : decode cX1_isAsked 1 = .ok (.iload_n 1, 1) := by decide +kernel
theorem dX1_isAsked_2 : decode cX1_isAsked 2 = .ok (.invokevirtual 19, 3) := by decide +kernel
theorem dX1_isAsked_5 : decode cX1_isAsked 5 = .ok (.bipush 63, 2) := by decide +kernel
theorem dX1_isAsked_7 : decode cX1_isAsked 7 = .ok (.if_icmp .ne 7, 3) := by decide +kernel
theorem dX1_isAsked_10 : decode cX1_isAsked 10 = .ok (.iconst 1, 1) := by decide +kernel
theorem dX1_isAsked_11 : decode cX1_isAsked 11 = .ok (.goto 4, 3) := by decide +kernel
theorem dX1_isAsked_14 : decode cX1_isAsked 14 = .ok (.iconst 0, 1) := by decide +kernel
theorem dX1_isAsked_15 : decode cX1_isAsked 15 = .ok (.ireturn, 1) := by decide +kernel
theorem dX1_looksOneOf_0 : decode cX1_looksOneOf 0 = .ok (.aload_n 0, 1) := by decide +kernel
theorem dX1_looksOneOf_1 : decode cX1_looksOneOf 1 = .ok (.iload_n 1, 1) := by decide +kernel
theorem dX1_looksOneOf_2 : decode cX1_looksOneOf 2 = .ok (.invokevirtual 27, 3) := by decide +kernel
theorem dX1_looksOneOf_5 : decode cX1_looksOneOf 5 = .ok (.istore_n 3, 1) := by decide +kernel
theorem dX1_looksOneOf_6 : decode cX1_looksOneOf 6 = .ok (.iload_n 3, 1) := by decide +kernel
theorem dX1_looksOneOf_7 : decode cX1_looksOneOf 7 = .ok (.iconst (-1), 1) := by decide +kernel
theorem dX1_looksOneOf_8 : decode cX1_looksOneOf 8 = .ok (.if_icmp .eq 16, 3) := by decide +kernel
theorem dX1_looksOneOf_11 : decode cX1_looksOneOf 11 = .ok (.iload_n 2, 1) := by decide +kernel
theorem dX1_looksOneOf_12 : decode cX1_looksOneOf 12 = .ok (.iload_n 3, 1) := by decide +kernel
theorem dX1_looksOneOf_13 : decode cX1_looksOneOf 13 = .ok (.iushr, 1) := by decide +kernel
theorem dX1_looksOneOf_14 : decode cX1_looksOneOf 14 = .ok (.iconst 1, 1) := by decide +kernel
theorem dX1_looksOneOf_15 : decode cX1_looksOneOf 15 = .ok (.iand, 1) := by decide +kernel
theorem dX1_looksOneOf_16 : decode cX1_looksOneOf 16 = .ok (.iconst 1, 1) := by decide +kernel
theorem dX1_looksOneOf_17 : decode cX1_looksOneOf 17 = .ok (.if_icmp .ne 7, 3) := by decide +kernel
theorem dX1_looksOneOf_20 : decode cX1_looksOneOf 20 = .ok (.iconst 1, 1) := by decide +kernel
theorem dX1_looksOneOf_21 : decode cX1_looksOneOf 21 = .ok (.goto 4, 3) := by decide +kernel
theorem dX1_looksOneOf_24 : decode cX1_looksOneOf 24 = .ok (.iconst 0, 1) := by decide +kernel
theorem dX1_looksOneOf_25 : decode cX1_looksOneOf 25 = .ok (.ireturn, 1) := by decide +kernel
theorem dX1_firstFault_0 : decode cX1_firstFault 0 = .ok (.iconst 0, 1) := by decide +kernel
theorem dX1_firstFault_1 : decode cX1_firstFault 1 = .ok (.istore_n 1, 1) := by decide +kernel
theorem dX1_firstFault_2 : decode cX1_firstFault 2 = .ok (.iconst 0, 1) := by decide +kernel
theorem dX1_firstFault_3 : decode cX1_firstFault 3 = .ok (.istore_n 2, 1) := by decide +kernel
theorem dX1_firstFault_4 : decode cX1_firstFault 4 = .ok (.iload_n 2, 1) := by decide +kernel
theorem dX1_firstFault_5 : decode cX1_firstFault 5 = .ok (.aload_n 0, 1) := by decide +kernel
theorem dX1_firstFault_6 : decode cX1_firstFault 6 = .ok (.getfield 15, 3) := by decide +kernel
theorem dX1_firstFault_9 : decode cX1_firstFault 9 = .ok (.if_icmp .ge 47, 3) := by decide +kernel
theorem dX1_firstFault_12 : decode cX1_firstFault 12 = .ok (.aload_n 0, 1) := by decide +kernel
theorem dX1_firstFault_13 : decode cX1_firstFault 13 = .ok (.iload_n 2, 1) := by decide +kernel
theorem dX1_firstFault_14 : decode cX1_firstFault 14 = .ok (.invokevirtual 30, 3) := by decide +kernel
theorem dX1_firstFault_17 : decode cX1_firstFault 17 = .ok (.ifCond .eq 13, 3) := by decide +kernel
theorem dX1_firstFault_20 : decode cX1_firstFault 20 = .ok (.iinc 1 1, 3) := by decide +kernel
theorem dX1_firstFault_23 : decode cX1_firstFault 23 = .ok (.iload_n 1, 1) := by decide +kernel
theorem dX1_firstFault_24 : decode cX1_firstFault 24 = .ok (.iconst 4, 1) := by decide +kernel
theorem dX1_firstFault_25 : decode cX1_firstFault 25 = .ok (.if_icmp .le 25, 3) := by decide +kernel
theorem dX1_firstFault_28 : decode cX1_firstFault 28 = .ok (.iload_n 2, 1) := by decide +kernel
theorem dX1_firstFault_29 : decode cX1_firstFault 29 = .ok (.ireturn, 1) := by decide +kernel
theorem dX1_firstFault_30 : decode cX1_firstFault 30 = .ok (.aload_n 0, 1) := by decide +kernel
theorem dX1_firstFault_31 : decode cX1_firstFault 31 = .ok (.iload_n 2, 1) := by decide +kernel
theorem dX1_firstFault_32 : decode cX1_firstFault 32 = .ok (.invokevirtual 33, 3) := by decide +kernel
theorem dX1_firstFault_35 : decode cX1_firstFault 35 = .ok (.iconst (-1), 1) := by decide +kernel
theorem dX1_firstFault_36 : decode cX1_firstFault 36 = .ok (.if_icmp .ne 14, 3) := by decide +kernel
theorem dX1_firstFault_39 : decode cX1_firstFault 39 = .ok (.aload_n 0, 1) := by decide +kernel
theorem dX1_firstFault_40 : decode cX1_firstFault 40 = .ok (.iload_n 2, 1) := by decide +kernel
theorem dX1_firstFault_41 : decode cX1_firstFault 41 = .ok (.invokevirtual 27, 3) := by decide +kernel
theorem dX1_firstFault_44 : decode cX1_firstFault 44 = .ok (.iconst (-1), 1) := by decide +kernel
theorem dX1_firstFault_45 : decode cX1_firstFault 45 = .ok (.if_icmp .ne 5, 3) := by decide +kernel
theorem dX1_firstFault_48 : decode cX1_firstFault 48 = .ok (.iload_n 2, 1) := by decide +kernel
theorem dX1_firstFault_49 : decode cX1_firstFault 49 = .ok (.ireturn, 1) := by decide +kernel
theorem dX1_firstFault_50 : decode cX1_firstFault 50 = .ok (.iinc 2 1, 3) := by decide +kernel
theorem dX1_firstFault_53 : decode cX1_firstFault 53 = .ok (.goto (-49), 3) := by decide +kernel
theorem dX1_firstFault_56 : decode cX1_firstFault 56 = .ok (.bipush (-6), 2) := by decide +kernel
theorem dX1_firstFault_58 : decode cX1_firstFault 58 = .ok (.ireturn, 1) := by decide +kernel
theorem dX1_asksWithin_0 : decode cX1_asksWithin 0 = .ok (.iconst 0, 1) := by decide +kernel
theorem dX1_asksWithin_1 : decode cX1_asksWithin 1 = .ok (.istore_n 2, 1) := by decide +kernel
theorem dX1_asksWithin_2 : decode cX1_asksWithin 2 = .ok (.iload_n 2, 1) := by decide +kernel
theorem dX1_asksWithin_3 : decode cX1_asksWithin 3 = .ok (.iload_n 1, 1) := by decide +kernel
theorem dX1_asksWithin_4 : decode cX1_asksWithin 4 = .ok (.if_icmp .ge 19, 3) := by decide +kernel
theorem dX1_asksWithin_7 : decode cX1_asksWithin 7 = .ok (.aload_n 0, 1) := by decide +kernel
theorem dX1_asksWithin_8 : decode cX1_asksWithin 8 = .ok (.iload_n 2, 1) := by decide +kernel
theorem dX1_asksWithin_9 : decode cX1_asksWithin 9 = .ok (.invokevirtual 30, 3) := by decide +kernel
theorem dX1_asksWithin_12 : decode cX1_asksWithin 12 = .ok (.ifCond .eq 5, 3) := by decide +kernel
theorem dX1_asksWithin_15 : decode cX1_asksWithin 15 = .ok (.iconst 1, 1) := by decide +kernel
theorem dX1_asksWithin_16 : decode cX1_asksWithin 16 = .ok (.ireturn, 1) := by decide +kernel
theorem dX1_asksWithin_17 : decode cX1_asksWithin 17 = .ok (.iinc 2 1, 3) := by decide +kernel
theorem dX1_asksWithin_20 : decode cX1_asksWithin 20 = .ok (.goto (-18), 3) := by decide +kernel
theorem dX1_asksWithin_23 : decode cX1_asksWithin 23 = .ok (.iconst 0, 1) := by decide +kernel
theorem dX1_asksWithin_24 : decode cX1_asksWithin 24 = .ok (.ireturn, 1) := by decide +kernel
theorem dX1_looksOf_0 : decode cX1_looksOf 0 = .ok (.iconst 0, 1) := by decide +kernel
theorem dX1_looksOf_1 : decode cX1_looksOf 1 = .ok (.istore_n 2, 1) := by decide +kernel
theorem dX1_looksOf_2 : decode cX1_looksOf 2 = .ok (.iconst 0, 1) := by decide +kernel
theorem dX1_looksOf_3 : decode cX1_looksOf 3 = .ok (.istore_n 3, 1) := by decide +kernel
theorem dX1_looksOf_4 : decode cX1_looksOf 4 = .ok (.iload_n 3, 1) := by decide +kernel
theorem dX1_looksOf_5 : decode cX1_looksOf 5 = .ok (.aload_n 0, 1) := by decide +kernel
theorem dX1_looksOf_6 : decode cX1_looksOf 6 = .ok (.getfield 15, 3) := by decide +kernel
theorem dX1_looksOf_9 : decode cX1_looksOf 9 = .ok (.if_icmp .ge 21, 3) := by decide +kernel
theorem dX1_looksOf_12 : decode cX1_looksOf 12 = .ok (.aload_n 0, 1) := by decide +kernel
theorem dX1_looksOf_13 : decode cX1_looksOf 13 = .ok (.iload_n 3, 1) := by decide +kernel
theorem dX1_looksOf_14 : decode cX1_looksOf 14 = .ok (.iload_n 1, 1) := by decide +kernel
theorem dX1_looksOf_15 : decode cX1_looksOf 15 = .ok (.invokevirtual 36, 3) := by decide +kernel
theorem dX1_looksOf_18 : decode cX1_looksOf 18 = .ok (.ifCond .eq 6, 3) := by decide +kernel
theorem dX1_looksOf_21 : decode cX1_looksOf 21 = .ok (.iinc 2 1, 3) := by decide +kernel
theorem dX1_looksOf_24 : decode cX1_looksOf 24 = .ok (.iinc 3 1, 3) := by decide +kernel
theorem dX1_looksOf_27 : decode cX1_looksOf 27 = .ok (.goto (-23), 3) := by decide +kernel
theorem dX1_looksOf_30 : decode cX1_looksOf 30 = .ok (.iload_n 2, 1) := by decide +kernel
theorem dX1_looksOf_31 : decode cX1_looksOf 31 = .ok (.ireturn, 1) := by decide +kernel
theorem dX1_crossings_0 : decode cX1_crossings 0 = .ok (.iconst 0, 1) := by decide +kernel
theorem dX1_crossings_1 : decode cX1_crossings 1 = .ok (.istore_n 1, 1) := by decide +kernel
theorem dX1_crossings_2 : decode cX1_crossings 2 = .ok (.iconst 0, 1) := by decide +kernel
theorem dX1_crossings_3 : decode cX1_crossings 3 = .ok (.istore_n 2, 1) := by decide +kernel
theorem dX1_crossings_4 : decode cX1_crossings 4 = .ok (.iload_n 2, 1) := by decide +kernel
theorem dX1_crossings_5 : decode cX1_crossings 5 = .ok (.aload_n 0, 1) := by decide +kernel
theorem dX1_crossings_6 : decode cX1_crossings 6 = .ok (.getfield 15, 3) := by decide +kernel
theorem dX1_crossings_9 : decode cX1_crossings 9 = .ok (.if_icmp .ge 21, 3) := by decide +kernel
theorem dX1_crossings_12 : decode cX1_crossings 12 = .ok (.aload_n 0, 1) := by decide +kernel
theorem dX1_crossings_13 : decode cX1_crossings 13 = .ok (.iload_n 2, 1) := by decide +kernel
theorem dX1_crossings_14 : decode cX1_crossings 14 = .ok (.invokevirtual 33, 3) := by decide +kernel
theorem dX1_crossings_17 : decode cX1_crossings 17 = .ok (.iconst (-1), 1) := by decide +kernel
theorem dX1_crossings_18 : decode cX1_crossings 18 = .ok (.if_icmp .eq 6, 3) := by decide +kernel
theorem dX1_crossings_21 : decode cX1_crossings 21 = .ok (.iinc 1 1, 3) := by decide +kernel
theorem dX1_crossings_24 : decode cX1_crossings 24 = .ok (.iinc 2 1, 3) := by decide +kernel
theorem dX1_crossings_27 : decode cX1_crossings 27 = .ok (.goto (-23), 3) := by decide +kernel
theorem dX1_crossings_30 : decode cX1_crossings 30 = .ok (.iload_n 1, 1) := by decide +kernel
theorem dX1_crossings_31 : decode cX1_crossings 31 = .ok (.ireturn, 1) := by decide +kernel
theorem dX1_toldCrossers_0 : decode cX1_toldCrossers 0 = .ok (.iconst 0, 1) := by decide +kernel
theorem dX1_toldCrossers_1 : decode cX1_toldCrossers 1 = .ok (.istore_n 1, 1) := by decide +kernel
theorem dX1_toldCrossers_2 : decode cX1_toldCrossers 2 = .ok (.iconst 0, 1) := by decide +kernel
theorem dX1_toldCrossers_3 : decode cX1_toldCrossers 3 = .ok (.istore_n 2, 1) := by decide +kernel
theorem dX1_toldCrossers_4 : decode cX1_toldCrossers 4 = .ok (.iload_n 2, 1) := by decide +kernel
theorem dX1_toldCrossers_5 : decode cX1_toldCrossers 5 = .ok (.aload_n 0, 1) := by decide +kernel
theorem dX1_toldCrossers_6 : decode cX1_toldCrossers 6 = .ok (.getfield 15, 3) := by decide +kernel
theorem dX1_toldCrossers_9 : decode cX1_toldCrossers 9 = .ok (.if_icmp .ge 26, 3) := by decide +kernel
theorem dX1_toldCrossers_12 : decode cX1_toldCrossers 12 = .ok (.aload_n 0, 1) := by decide +kernel
theorem dX1_toldCrossers_13 : decode cX1_toldCrossers 13 = .ok (.iload_n 2, 1) := by decide +kernel
theorem dX1_toldCrossers_14 : decode cX1_toldCrossers 14 = .ok (.invokevirtual 33, 3) := by decide +kernel
theorem dX1_toldCrossers_17 : decode cX1_toldCrossers 17 = .ok (.istore_n 3, 1) := by decide +kernel
theorem dX1_toldCrossers_18 : decode cX1_toldCrossers 18 = .ok (.iload_n 3, 1) := by decide +kernel
theorem dX1_toldCrossers_19 : decode cX1_toldCrossers 19 = .ok (.iconst (-1), 1) := by decide +kernel
theorem dX1_toldCrossers_20 : decode cX1_toldCrossers 20 = .ok (.if_icmp .eq 9, 3) := by decide +kernel
theorem dX1_toldCrossers_23 : decode cX1_toldCrossers 23 = .ok (.iload_n 1, 1) := by decide +kernel
theorem dX1_toldCrossers_24 : decode cX1_toldCrossers 24 = .ok (.iconst 1, 1) := by decide +kernel
theorem dX1_toldCrossers_25 : decode cX1_toldCrossers 25 = .ok (.iload_n 3, 1) := by decide +kernel
theorem dX1_toldCrossers_26 : decode cX1_toldCrossers 26 = .ok (.ishl, 1) := by decide +kernel
theorem dX1_toldCrossers_27 : decode cX1_toldCrossers 27 = .ok (.ior, 1) := by decide +kernel
theorem dX1_toldCrossers_28 : decode cX1_toldCrossers 28 = .ok (.istore_n 1, 1) := by decide +kernel
theorem dX1_toldCrossers_29 : decode cX1_toldCrossers 29 = .ok (.iinc 2 1, 3) := by decide +kernel
theorem dX1_toldCrossers_32 : decode cX1_toldCrossers 32 = .ok (.goto (-28), 3) := by decide +kernel
theorem dX1_toldCrossers_35 : decode cX1_toldCrossers 35 = .ok (.iload_n 1, 1) := by decide +kernel
theorem dX1_toldCrossers_36 : decode cX1_toldCrossers 36 = .ok (.ireturn, 1) := by decide +kernel
theorem dX3_init_0 : decode cX3_init 0 = .ok (.aload_n 0, 1) := by decide +kernel
theorem dX3_init_1 : decode cX3_init 1 = .ok (.invokespecial 3, 3) := by decide +kernel
theorem dX3_init_4 : decode cX3_init 4 = .ok (.aload_n 0, 1) := by decide +kernel
theorem dX3_init_5 : decode cX3_init 5 = .ok (.bipush 9, 2) := by decide +kernel
theorem dX3_init_7 : decode cX3_init 7 = .ok (.putfield 9, 3) := by decide +kernel
theorem dX3_init_10 : decode cX3_init 10 = .ok (.aload_n 0, 1) := by decide +kernel
theorem dX3_init_11 : decode cX3_init 11 = .ok (.iconst 0, 1) := by decide +kernel
theorem dX3_init_12 : decode cX3_init 12 = .ok (.putfield 15, 3) := by decide +kernel
theorem dX3_init_15 : decode cX3_init 15 = .ok (.aload_n 0, 1) := by decide +kernel
theorem dX3_init_16 : decode cX3_init 16 = .ok (.iconst 0, 1) := by decide +kernel
theorem dX3_init_17 : decode cX3_init 17 = .ok (.putfield 18, 3) := by decide +kernel
theorem dX3_init_20 : decode cX3_init 20 = .ok (.aload_n 0, 1) := by decide +kernel
theorem dX3_init_21 : decode cX3_init 21 = .ok (.bipush 6, 2) := by decide +kernel
theorem dX3_init_23 : decode cX3_init 23 = .ok (.newarray .int, 2) := by decide +kernel
theorem dX3_init_25 : decode cX3_init 25 = .ok (.putfield 21, 3) := by decide +kernel
theorem dX3_init_28 : decode cX3_init 28 = .ok (.aload_n 0, 1) := by decide +kernel
theorem dX3_init_29 : decode cX3_init 29 = .ok (.bipush 6, 2) := by decide +kernel
theorem dX3_init_31 : decode cX3_init 31 = .ok (.newarray .int, 2) := by decide +kernel
theorem dX3_init_33 : decode cX3_init 33 = .ok (.putfield 25, 3) := by decide +kernel
theorem dX3_init_36 : decode cX3_init 36 = .ok (.aload_n 0, 1) := by decide +kernel
theorem dX3_init_37 : decode cX3_init 37 = .ok (.bipush 6, 2) := by decide +kernel
theorem dX3_init_39 : decode cX3_init 39 = .ok (.newarray .boolean, 2) := by decide +kernel
theorem dX3_init_41 : decode cX3_init 41 = .ok (.putfield 28, 3) := by decide +kernel
theorem dX3_init_44 : decode cX3_init 44 = .ok (.return_, 1) := by decide +kernel
theorem dX3_addSight_0 : decode cX3_addSight 0 = .ok (.aload_n 0, 1) := by decide +kernel
theorem dX3_addSight_1 : decode cX3_addSight 1 = .ok (.getfield 18, 3) := by decide +kernel
theorem dX3_addSight_4 : decode cX3_addSight 4 = .ok (.bipush 6, 2) := by decide +kernel
theorem dX3_addSight_6 : decode cX3_addSight 6 = .ok (.if_icmp .ge 43, 3) := by decide +kernel
theorem dX3_addSight_9 : decode cX3_addSight 9 = .ok (.aload_n 0, 1) := by decide +kernel
theorem dX3_addSight_10 : decode cX3_addSight 10 = .ok (.getfield 21, 3) := by decide +kernel
theorem dX3_addSight_13 : decode cX3_addSight 13 = .ok (.aload_n 0, 1) := by decide +kernel
theorem dX3_addSight_14 : decode cX3_addSight 14 = .ok (.getfield 18, 3) := by decide +kernel
theorem dX3_addSight_17 : decode cX3_addSight 17 = .ok (.iload_n 1, 1) := by decide +kernel
theorem dX3_addSight_18 : decode cX3_addSight 18 = .ok (.iastore, 1) := by decide +kernel
theorem dX3_addSight_19 : decode cX3_addSight 19 = .ok (.aload_n 0, 1) := by decide +kernel
theorem dX3_addSight_20 : decode cX3_addSight 20 = .ok (.getfield 25, 3) := by decide +kernel
theorem dX3_addSight_23 : decode cX3_addSight 23 = .ok (.aload_n 0, 1) := by decide +kernel
theorem dX3_addSight_24 : decode cX3_addSight 24 = .ok (.getfield 18, 3) := by decide +kernel
theorem dX3_addSight_27 : decode cX3_addSight 27 = .ok (.iload_n 2, 1) := by decide +kernel
theorem dX3_addSight_28 : decode cX3_addSight 28 = .ok (.iastore, 1) := by decide +kernel
theorem dX3_addSight_29 : decode cX3_addSight 29 = .ok (.aload_n 0, 1) := by decide +kernel
theorem dX3_addSight_30 : decode cX3_addSight 30 = .ok (.getfield 28, 3) := by decide +kernel
theorem dX3_addSight_33 : decode cX3_addSight 33 = .ok (.aload_n 0, 1) := by decide +kernel
theorem dX3_addSight_34 : decode cX3_addSight 34 = .ok (.getfield 18, 3) := by decide +kernel
theorem dX3_addSight_37 : decode cX3_addSight 37 = .ok (.iload_n 3, 1) := by decide +kernel
theorem dX3_addSight_38 : decode cX3_addSight 38 = .ok (.bastore, 1) := by decide +kernel
theorem dX3_addSight_39 : decode cX3_addSight 39 = .ok (.aload_n 0, 1) := by decide +kernel
theorem dX3_addSight_40 : decode cX3_addSight 40 = .ok (.dup, 1) := by decide +kernel
theorem dX3_addSight_41 : decode cX3_addSight 41 = .ok (.getfield 18, 3) := by decide +kernel
theorem dX3_addSight_44 : decode cX3_addSight 44 = .ok (.iconst 1, 1) := by decide +kernel
theorem dX3_addSight_45 : decode cX3_addSight 45 = .ok (.iadd, 1) := by decide +kernel
theorem dX3_addSight_46 : decode cX3_addSight 46 = .ok (.putfield 18, 3) := by decide +kernel
theorem dX3_addSight_49 : decode cX3_addSight 49 = .ok (.return_, 1) := by decide +kernel
theorem dX3_copy_0 : decode cX3_copy 0 = .ok (.aload_n 0, 1) := by decide +kernel
theorem dX3_copy_1 : decode cX3_copy 1 = .ok (.aload_n 1, 1) := by decide +kernel
theorem dX3_copy_2 : decode cX3_copy 2 = .ok (.getfield 9, 3) := by decide +kernel
theorem dX3_copy_5 : decode cX3_copy 5 = .ok (.putfield 9, 3) := by decide +kernel
theorem dX3_copy_8 : decode cX3_copy 8 = .ok (.aload_n 0, 1) := by decide +kernel
theorem dX3_copy_9 : decode cX3_copy 9 = .ok (.aload_n 1, 1) := by decide +kernel
theorem dX3_copy_10 : decode cX3_copy 10 = .ok (.getfield 15, 3) := by decide +kernel
theorem dX3_copy_13 : decode cX3_copy 13 = .ok (.putfield 15, 3) := by decide +kernel
theorem dX3_copy_16 : decode cX3_copy 16 = .ok (.aload_n 0, 1) := by decide +kernel
theorem dX3_copy_17 : decode cX3_copy 17 = .ok (.iconst 0, 1) := by decide +kernel
theorem dX3_copy_18 : decode cX3_copy 18 = .ok (.putfield 18, 3) := by decide +kernel
theorem dX3_copy_21 : decode cX3_copy 21 = .ok (.iconst 0, 1) := by decide +kernel
theorem dX3_copy_22 : decode cX3_copy 22 = .ok (.istore_n 2, 1) := by decide +kernel
theorem dX3_copy_23 : decode cX3_copy 23 = .ok (.iload_n 2, 1) := by decide +kernel
theorem dX3_copy_24 : decode cX3_copy 24 = .ok (.aload_n 1, 1) := by decide +kernel
theorem dX3_copy_25 : decode cX3_copy 25 = .ok (.getfield 18, 3) := by decide +kernel
theorem dX3_copy_28 : decode cX3_copy 28 = .ok (.if_icmp .ge 37, 3) := by decide +kernel
theorem dX3_copy_31 : decode cX3_copy 31 = .ok (.iload_n 2, 1) := by decide +kernel
theorem dX3_copy_32 : decode cX3_copy 32 = .ok (.bipush 6, 2) := by decide +kernel
theorem dX3_copy_34 : decode cX3_copy 34 = .ok (.if_icmp .ge 31, 3) := by decide +kernel
theorem dX3_copy_37 : decode cX3_copy 37 = .ok (.aload_n 0, 1) := by decide +kernel
theorem dX3_copy_38 : decode cX3_copy 38 = .ok (.aload_n 1, 1) := by decide +kernel
theorem dX3_copy_39 : decode cX3_copy 39 = .ok (.getfield 21, 3) := by decide +kernel
theorem dX3_copy_42 : decode cX3_copy 42 = .ok (.iload_n 2, 1) := by decide +kernel
theorem dX3_copy_43 : decode cX3_copy 43 = .ok (.iaload, 1) := by decide +kernel
theorem dX3_copy_44 : decode cX3_copy 44 = .ok (.aload_n 1, 1) := by decide +kernel
theorem dX3_copy_45 : decode cX3_copy 45 = .ok (.getfield 25, 3) := by decide +kernel
theorem dX3_copy_48 : decode cX3_copy 48 = .ok (.iload_n 2, 1) := by decide +kernel
theorem dX3_copy_49 : decode cX3_copy 49 = .ok (.iaload, 1) := by decide +kernel
theorem dX3_copy_50 : decode cX3_copy 50 = .ok (.aload_n 1, 1) := by decide +kernel
theorem dX3_copy_51 : decode cX3_copy 51 = .ok (.getfield 28, 3) := by decide +kernel
theorem dX3_copy_54 : decode cX3_copy 54 = .ok (.iload_n 2, 1) := by decide +kernel
theorem dX3_copy_55 : decode cX3_copy 55 = .ok (.baload, 1) := by decide +kernel
theorem dX3_copy_56 : decode cX3_copy 56 = .ok (.invokevirtual 32, 3) := by decide +kernel
theorem dX3_copy_59 : decode cX3_copy 59 = .ok (.iinc 2 1, 3) := by decide +kernel
theorem dX3_copy_62 : decode cX3_copy 62 = .ok (.goto (-39), 3) := by decide +kernel
theorem dX3_copy_65 : decode cX3_copy 65 = .ok (.return_, 1) := by decide +kernel
theorem dJ6_bitCount_0f7a4_0 : decode cJ6_bitCount_0f7a4 0 = .ok (.iload_n 0, 1) := by decide +kernel
theorem dJ6_bitCount_0f7a4_1 : decode cJ6_bitCount_0f7a4 1 = .ok (.iload_n 0, 1) := by decide +kernel
theorem dJ6_bitCount_0f7a4_2 : decode cJ6_bitCount_0f7a4 2 = .ok (.iconst 1, 1) := by decide +kernel
theorem dJ6_bitCount_0f7a4_3 : decode cJ6_bitCount_0f7a4 3 = .ok (.iushr, 1) := by decide +kernel
theorem dJ6_bitCount_0f7a4_4 : decode cJ6_bitCount_0f7a4 4 = .ok (.ldc_w 265, 3) := by decide +kernel
theorem dJ6_bitCount_0f7a4_7 : decode cJ6_bitCount_0f7a4 7 = .ok (.iand, 1) := by decide +kernel
theorem dJ6_bitCount_0f7a4_8 : decode cJ6_bitCount_0f7a4 8 = .ok (.isub, 1) := by decide +kernel
theorem dJ6_bitCount_0f7a4_9 : decode cJ6_bitCount_0f7a4 9 = .ok (.istore_n 0, 1) := by decide +kernel
theorem dJ6_bitCount_0f7a4_10 : decode cJ6_bitCount_0f7a4 10 = .ok (.iload_n 0, 1) := by decide +kernel
theorem dJ6_bitCount_0f7a4_11 : decode cJ6_bitCount_0f7a4 11 = .ok (.ldc_w 266, 3) := by decide +kernel
theorem dJ6_bitCount_0f7a4_14 : decode cJ6_bitCount_0f7a4 14 = .ok (.iand, 1) := by decide +kernel
theorem dJ6_bitCount_0f7a4_15 : decode cJ6_bitCount_0f7a4 15 = .ok (.iload_n 0, 1) := by decide +kernel
theorem dJ6_bitCount_0f7a4_16 : decode cJ6_bitCount_0f7a4 16 = .ok (.iconst 2, 1) := by decide +kernel
theorem dJ6_bitCount_0f7a4_17 : decode cJ6_bitCount_0f7a4 17 = .ok (.iushr, 1) := by decide +kernel
theorem dJ6_bitCount_0f7a4_18 : decode cJ6_bitCount_0f7a4 18 = .ok (.ldc_w 266, 3) := by decide +kernel
theorem dJ6_bitCount_0f7a4_21 : decode cJ6_bitCount_0f7a4 21 = .ok (.iand, 1) := by decide +kernel
theorem dJ6_bitCount_0f7a4_22 : decode cJ6_bitCount_0f7a4 22 = .ok (.iadd, 1) := by decide +kernel
theorem dJ6_bitCount_0f7a4_23 : decode cJ6_bitCount_0f7a4 23 = .ok (.istore_n 0, 1) := by decide +kernel
theorem dJ6_bitCount_0f7a4_24 : decode cJ6_bitCount_0f7a4 24 = .ok (.iload_n 0, 1) := by decide +kernel
theorem dJ6_bitCount_0f7a4_25 : decode cJ6_bitCount_0f7a4 25 = .ok (.iload_n 0, 1) := by decide +kernel
theorem dJ6_bitCount_0f7a4_26 : decode cJ6_bitCount_0f7a4 26 = .ok (.iconst 4, 1) := by decide +kernel
theorem dJ6_bitCount_0f7a4_27 : decode cJ6_bitCount_0f7a4 27 = .ok (.iushr, 1) := by decide +kernel
theorem dJ6_bitCount_0f7a4_28 : decode cJ6_bitCount_0f7a4 28 = .ok (.iadd, 1) := by decide +kernel
theorem dJ6_bitCount_0f7a4_29 : decode cJ6_bitCount_0f7a4 29 = .ok (.ldc_w 267, 3) := by decide +kernel
theorem dJ6_bitCount_0f7a4_32 : decode cJ6_bitCount_0f7a4 32 = .ok (.iand, 1) := by decide +kernel
theorem dJ6_bitCount_0f7a4_33 : decode cJ6_bitCount_0f7a4 33 = .ok (.istore_n 0, 1) := by decide +kernel
theorem dJ6_bitCount_0f7a4_34 : decode cJ6_bitCount_0f7a4 34 = .ok (.iload_n 0, 1) := by decide +kernel
theorem dJ6_bitCount_0f7a4_35 : decode cJ6_bitCount_0f7a4 35 = .ok (.iload_n 0, 1) := by decide +kernel
theorem dJ6_bitCount_0f7a4_36 : decode cJ6_bitCount_0f7a4 36 = .ok (.bipush 8, 2) := by decide +kernel
theorem dJ6_bitCount_0f7a4_38 : decode cJ6_bitCount_0f7a4 38 = .ok (.iushr, 1) := by decide +kernel
theorem dJ6_bitCount_0f7a4_39 : decode cJ6_bitCount_0f7a4 39 = .ok (.iadd, 1) := by decide +kernel
theorem dJ6_bitCount_0f7a4_40 : decode cJ6_bitCount_0f7a4 40 = .ok (.istore_n 0, 1) := by decide +kernel
theorem dJ6_bitCount_0f7a4_41 : decode cJ6_bitCount_0f7a4 41 = .ok (.iload_n 0, 1) := by decide +kernel
theorem dJ6_bitCount_0f7a4_42 : decode cJ6_bitCount_0f7a4 42 = .ok (.iload_n 0, 1) := by decide +kernel
theorem dJ6_bitCount_0f7a4_43 : decode cJ6_bitCount_0f7a4 43 = .ok (.bipush 16, 2) := by decide +kernel
theorem dJ6_bitCount_0f7a4_45 : decode cJ6_bitCount_0f7a4 45 = .ok (.iushr, 1) := by decide +kernel
theorem dJ6_bitCount_0f7a4_46 : decode cJ6_bitCount_0f7a4 46 = .ok (.iadd, 1) := by decide +kernel
theorem dJ6_bitCount_0f7a4_47 : decode cJ6_bitCount_0f7a4 47 = .ok (.istore_n 0, 1) := by decide +kernel
theorem dJ6_bitCount_0f7a4_48 : decode cJ6_bitCount_0f7a4 48 = .ok (.iload_n 0, 1) := by decide +kernel
theorem dJ6_bitCount_0f7a4_49 : decode cJ6_bitCount_0f7a4 49 = .ok (.bipush 63, 2) := by decide +kernel
theorem dJ6_bitCount_0f7a4_51 : decode cJ6_bitCount_0f7a4 51 = .ok (.iand, 1) := by decide +kernel
theorem dJ6_bitCount_0f7a4_52 : decode cJ6_bitCount_0f7a4 52 = .ok (.ireturn, 1) := by decide +kernel
theorem dJ13_bitCount_95d88_0 : decode cJ13_bitCount_95d88 0 = .ok (.lload_n 0, 1) := by decide +kernel
theorem dJ13_bitCount_95d88_1 : decode cJ13_bitCount_95d88 1 = .ok (.lload_n 0, 1) := by decide +kernel
theorem dJ13_bitCount_95d88_2 : decode cJ13_bitCount_95d88 2 = .ok (.iconst 1, 1) := by decide +kernel
theorem dJ13_bitCount_95d88_3 : decode cJ13_bitCount_95d88 3 = .ok (.lushr, 1) := by decide +kernel
theorem dJ13_bitCount_95d88_4 : decode cJ13_bitCount_95d88 4 = .ok (.ldc2_w 314, 3) := by decide +kernel
theorem dJ13_bitCount_95d88_7 : decode cJ13_bitCount_95d88 7 = .ok (.land, 1) := by decide +kernel
theorem dJ13_bitCount_95d88_8 : decode cJ13_bitCount_95d88 8 = .ok (.lsub, 1) := by decide +kernel
theorem dJ13_bitCount_95d88_9 : decode cJ13_bitCount_95d88 9 = .ok (.lstore_n 0, 1) := by decide +kernel
theorem dJ13_bitCount_95d88_10 : decode cJ13_bitCount_95d88 10 = .ok (.lload_n 0, 1) := by decide +kernel
theorem dJ13_bitCount_95d88_11 : decode cJ13_bitCount_95d88 11 = .ok (.ldc2_w 316, 3) := by decide +kernel
theorem dJ13_bitCount_95d88_14 : decode cJ13_bitCount_95d88 14 = .ok (.land, 1) := by decide +kernel
theorem dJ13_bitCount_95d88_15 : decode cJ13_bitCount_95d88 15 = .ok (.lload_n 0, 1) := by decide +kernel
theorem dJ13_bitCount_95d88_16 : decode cJ13_bitCount_95d88 16 = .ok (.iconst 2, 1) := by decide +kernel
theorem dJ13_bitCount_95d88_17 : decode cJ13_bitCount_95d88 17 = .ok (.lushr, 1) := by decide +kernel
theorem dJ13_bitCount_95d88_18 : decode cJ13_bitCount_95d88 18 = .ok (.ldc2_w 316, 3) := by decide +kernel
theorem dJ13_bitCount_95d88_21 : decode cJ13_bitCount_95d88 21 = .ok (.land, 1) := by decide +kernel
theorem dJ13_bitCount_95d88_22 : decode cJ13_bitCount_95d88 22 = .ok (.ladd, 1) := by decide +kernel
theorem dJ13_bitCount_95d88_23 : decode cJ13_bitCount_95d88 23 = .ok (.lstore_n 0, 1) := by decide +kernel
theorem dJ13_bitCount_95d88_24 : decode cJ13_bitCount_95d88 24 = .ok (.lload_n 0, 1) := by decide +kernel
theorem dJ13_bitCount_95d88_25 : decode cJ13_bitCount_95d88 25 = .ok (.lload_n 0, 1) := by decide +kernel
theorem dJ13_bitCount_95d88_26 : decode cJ13_bitCount_95d88 26 = .ok (.iconst 4, 1) := by decide +kernel
theorem dJ13_bitCount_95d88_27 : decode cJ13_bitCount_95d88 27 = .ok (.lushr, 1) := by decide +kernel
theorem dJ13_bitCount_95d88_28 : decode cJ13_bitCount_95d88 28 = .ok (.ladd, 1) := by decide +kernel
theorem dJ13_bitCount_95d88_29 : decode cJ13_bitCount_95d88 29 = .ok (.ldc2_w 318, 3) := by decide +kernel
theorem dJ13_bitCount_95d88_32 : decode cJ13_bitCount_95d88 32 = .ok (.land, 1) := by decide +kernel
theorem dJ13_bitCount_95d88_33 : decode cJ13_bitCount_95d88 33 = .ok (.lstore_n 0, 1) := by decide +kernel
theorem dJ13_bitCount_95d88_34 : decode cJ13_bitCount_95d88 34 = .ok (.lload_n 0, 1) := by decide +kernel
theorem dJ13_bitCount_95d88_35 : decode cJ13_bitCount_95d88 35 = .ok (.lload_n 0, 1) := by decide +kernel
theorem dJ13_bitCount_95d88_36 : decode cJ13_bitCount_95d88 36 = .ok (.bipush 8, 2) := by decide +kernel
theorem dJ13_bitCount_95d88_38 : decode cJ13_bitCount_95d88 38 = .ok (.lushr, 1) := by decide +kernel
theorem dJ13_bitCount_95d88_39 : decode cJ13_bitCount_95d88 39 = .ok (.ladd, 1) := by decide +kernel
theorem dJ13_bitCount_95d88_40 : decode cJ13_bitCount_95d88 40 = .ok (.lstore_n 0, 1) := by decide +kernel
theorem dJ13_bitCount_95d88_41 : decode cJ13_bitCount_95d88 41 = .ok (.lload_n 0, 1) := by decide +kernel
theorem dJ13_bitCount_95d88_42 : decode cJ13_bitCount_95d88 42 = .ok (.lload_n 0, 1) := by decide +kernel
theorem dJ13_bitCount_95d88_43 : decode cJ13_bitCount_95d88 43 = .ok (.bipush 16, 2) := by decide +kernel
theorem dJ13_bitCount_95d88_45 : decode cJ13_bitCount_95d88 45 = .ok (.lushr, 1) := by decide +kernel
theorem dJ13_bitCount_95d88_46 : decode cJ13_bitCount_95d88 46 = .ok (.ladd, 1) := by decide +kernel
theorem dJ13_bitCount_95d88_47 : decode cJ13_bitCount_95d88 47 = .ok (.lstore_n 0, 1) := by decide +kernel
theorem dJ13_bitCount_95d88_48 : decode cJ13_bitCount_95d88 48 = .ok (.lload_n 0, 1) := by decide +kernel
theorem dJ13_bitCount_95d88_49 : decode cJ13_bitCount_95d88 49 = .ok (.lload_n 0, 1) := by decide +kernel
theorem dJ13_bitCount_95d88_50 : decode cJ13_bitCount_95d88 50 = .ok (.bipush 32, 2) := by decide +kernel
theorem dJ13_bitCount_95d88_52 : decode cJ13_bitCount_95d88 52 = .ok (.lushr, 1) := by decide +kernel
theorem dJ13_bitCount_95d88_53 : decode cJ13_bitCount_95d88 53 = .ok (.ladd, 1) := by decide +kernel
theorem dJ13_bitCount_95d88_54 : decode cJ13_bitCount_95d88 54 = .ok (.lstore_n 0, 1) := by decide +kernel
theorem dJ13_bitCount_95d88_55 : decode cJ13_bitCount_95d88 55 = .ok (.lload_n 0, 1) := by decide +kernel
theorem dJ13_bitCount_95d88_56 : decode cJ13_bitCount_95d88 56 = .ok (.l2i, 1) := by decide +kernel
theorem dJ13_bitCount_95d88_57 : decode cJ13_bitCount_95d88 57 = .ok (.bipush 127, 2) := by decide +kernel
theorem dJ13_bitCount_95d88_59 : decode cJ13_bitCount_95d88 59 = .ok (.iand, 1) := by decide +kernel
theorem dJ13_bitCount_95d88_60 : decode cJ13_bitCount_95d88 60 = .ok (.ireturn, 1) := by decide +kernel
theorem dJ9_max_7cf53_0 : decode cJ9_max_7cf53 0 = .ok (.iload_n 0, 1) := by decide +kernel
theorem dJ9_max_7cf53_1 : decode cJ9_max_7cf53 1 = .ok (.iload_n 1, 1) := by decide +kernel
theorem dJ9_max_7cf53_2 : decode cJ9_max_7cf53 2 = .ok (.if_icmp .lt 7, 3) := by decide +kernel
theorem dJ9_max_7cf53_5 : decode cJ9_max_7cf53 5 = .ok (.iload_n 0, 1) := by decide +kernel
theorem dJ9_max_7cf53_6 : decode cJ9_max_7cf53 6 = .ok (.goto 4, 3) := by decide +kernel
theorem dJ9_max_7cf53_9 : decode cJ9_max_7cf53 9 = .ok (.iload_n 1, 1) := by decide +kernel
theorem dJ9_max_7cf53_10 : decode cJ9_max_7cf53 10 = .ok (.ireturn, 1) := by decide +kernel
