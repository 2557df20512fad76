theorem dX2_init_0 : decode cX2_init 0 = .ok (.aload_n 0, 1) := by decide +kernel
theorem dX2_init_1 : decode cX2_init 1 = .ok (.invokespecial 3, 3) := by decide +kernel
theorem dX2_init_4 : decode cX2_init 4 = .ok (.aload_n 0, 1) := by decide +kernel
theorem dX2_init_5 : decode cX2_init 5 = .ok (.new 9, 3) := by decide +kernel
theorem dX2_init_8 : decode cX2_init 8 = .ok (.dup, 1) := by decide +kernel
theorem dX2_init_9 : decode cX2_init 9 = .ok (.invokespecial 11, 3) := by decide +kernel
theorem dX2_init_12 : decode cX2_init 12 = .ok (.putfield 12, 3) := by decide +kernel
theorem dX2_init_15 : decode cX2_init 15 = .ok (.aload_n 0, 1) := by decide +kernel
theorem dX2_init_16 : decode cX2_init 16 = .ok (.iconst 0, 1) := by decide +kernel
theorem dX2_init_17 : decode cX2_init 17 = .ok (.putfield 18, 3) := by decide +kernel
theorem dX2_init_20 : decode cX2_init 20 = .ok (.aload_n 0, 1) := by decide +kernel
theorem dX2_init_21 : decode cX2_init 21 = .ok (.iconst 0, 1) := by decide +kernel
theorem dX2_init_22 : decode cX2_init 22 = .ok (.putfield 22, 3) := by decide +kernel
theorem dX2_init_25 : decode cX2_init 25 = .ok (.aload_n 0, 1) := by decide +kernel
theorem dX2_init_26 : decode cX2_init 26 = .ok (.iconst 4, 1) := by decide +kernel
theorem dX2_init_27 : decode cX2_init 27 = .ok (.newarray .int, 2) := by decide +kernel
theorem dX2_init_29 : decode cX2_init 29 = .ok (.putfield 26, 3) := by decide +kernel
theorem dX2_init_32 : decode cX2_init 32 = .ok (.aload_n 0, 1) := by decide +kernel
theorem dX2_init_33 : decode cX2_init 33 = .ok (.iconst 4, 1) := by decide +kernel
theorem dX2_init_34 : decode cX2_init 34 = .ok (.newarray .int, 2) := by decide +kernel
theorem dX2_init_36 : decode cX2_init 36 = .ok (.putfield 30, 3) := by decide +kernel
theorem dX2_init_39 : decode cX2_init 39 = .ok (.aload_n 0, 1) := by decide +kernel
theorem dX2_init_40 : decode cX2_init 40 = .ok (.bipush 8, 2) := by decide +kernel
theorem dX2_init_42 : decode cX2_init 42 = .ok (.newarray .int, 2) := by decide +kernel
theorem dX2_init_44 : decode cX2_init 44 = .ok (.putfield 33, 3) := by decide +kernel
theorem dX2_init_47 : decode cX2_init 47 = .ok (.aload_n 0, 1) := by decide +kernel
theorem dX2_init_48 : decode cX2_init 48 = .ok (.iconst 0, 1) := by decide +kernel
theorem dX2_init_49 : decode cX2_init 49 = .ok (.putfield 36, 3) := by decide +kernel
theorem dX2_init_52 : decode cX2_init 52 = .ok (.aload_n 0, 1) := by decide +kernel
theorem dX2_init_53 : decode cX2_init 53 = .ok (.iconst 4, 1) := by decide +kernel
theorem dX2_init_54 : decode cX2_init 54 = .ok (.newarray .int, 2) := by decide +kernel
theorem dX2_init_56 : decode cX2_init 56 = .ok (.putfield 39, 3) := by decide +kernel
theorem dX2_init_59 : decode cX2_init 59 = .ok (.aload_n 0, 1) := by decide +kernel
theorem dX2_init_60 : decode cX2_init 60 = .ok (.iconst 4, 1) := by decide +kernel
theorem dX2_init_61 : decode cX2_init 61 = .ok (.newarray .int, 2) := by decide +kernel
theorem dX2_init_63 : decode cX2_init 63 = .ok (.putfield 42, 3) := by decide +kernel
theorem dX2_init_66 : decode cX2_init 66 = .ok (.aload_n 0, 1) := by decide +kernel
theorem dX2_init_67 : decode cX2_init 67 = .ok (.bipush 41, 2) := by decide +kernel
theorem dX2_init_69 : decode cX2_init 69 = .ok (.newarray .int, 2) := by decide +kernel
theorem dX2_init_71 : decode cX2_init 71 = .ok (.putfield 45, 3) := by decide +kernel
theorem dX2_init_74 : decode cX2_init 74 = .ok (.aload_n 0, 1) := by decide +kernel
theorem dX2_init_75 : decode cX2_init 75 = .ok (.bipush 41, 2) := by decide +kernel
theorem dX2_init_77 : decode cX2_init 77 = .ok (.newarray .int, 2) := by decide +kernel
theorem dX2_init_79 : decode cX2_init 79 = .ok (.putfield 48, 3) := by decide +kernel
theorem dX2_init_82 : decode cX2_init 82 = .ok (.aload_n 0, 1) := by decide +kernel
theorem dX2_init_83 : decode cX2_init 83 = .ok (.iconst 0, 1) := by decide +kernel
theorem dX2_init_84 : decode cX2_init 84 = .ok (.putfield 51, 3) := by decide +kernel
theorem dX2_init_87 : decode cX2_init 87 = .ok (.aload_n 0, 1) := by decide +kernel
theorem dX2_init_88 : decode cX2_init 88 = .ok (.bipush 40, 2) := by decide +kernel
theorem dX2_init_90 : decode cX2_init 90 = .ok (.newarray .int, 2) := by decide +kernel
theorem dX2_init_92 : decode cX2_init 92 = .ok (.putfield 54, 3) := by decide +kernel
theorem dX2_init_95 : decode cX2_init 95 = .ok (.return_, 1) := by decide +kernel
theorem dX2_refresh_0 : decode cX2_refresh 0 = .ok (.aload_n 0, 1) := by decide +kernel
theorem dX2_refresh_1 : decode cX2_refresh 1 = .ok (.getfield 18, 3) := by decide +kernel
theorem dX2_refresh_4 : decode cX2_refresh 4 = .ok (.ifCond .eq 4, 3) := by decide +kernel
theorem dX2_refresh_7 : decode cX2_refresh 7 = .ok (.return_, 1) := by decide +kernel
theorem dX2_refresh_8 : decode cX2_refresh 8 = .ok (.aload_n 0, 1) := by decide +kernel
theorem dX2_refresh_9 : decode cX2_refresh 9 = .ok (.aload_n 1, 1) := by decide +kernel
theorem dX2_refresh_10 : decode cX2_refresh 10 = .ok (.invokevirtual 57, 3) := by decide +kernel
theorem dX2_refresh_13 : decode cX2_refresh 13 = .ok (.aload_n 0, 1) := by decide +kernel
theorem dX2_refresh_14 : decode cX2_refresh 14 = .ok (.aload_n 1, 1) := by decide +kernel
theorem dX2_refresh_15 : decode cX2_refresh 15 = .ok (.aload_n 2, 1) := by decide +kernel
theorem dX2_refresh_16 : decode cX2_refresh 16 = .ok (.invokevirtual 61, 3) := by decide +kernel
theorem dX2_refresh_19 : decode cX2_refresh 19 = .ok (.aload_n 0, 1) := by decide +kernel
theorem dX2_refresh_20 : decode cX2_refresh 20 = .ok (.aload_n 1, 1) := by decide +kernel
theorem dX2_refresh_21 : decode cX2_refresh 21 = .ok (.aload_n 2, 1) := by decide +kernel
theorem dX2_refresh_22 : decode cX2_refresh 22 = .ok (.invokevirtual 65, 3) := by decide +kernel
theorem dX2_refresh_25 : decode cX2_refresh 25 = .ok (.aload_n 0, 1) := by decide +kernel
theorem dX2_refresh_26 : decode cX2_refresh 26 = .ok (.invokevirtual 68, 3) := by decide +kernel
theorem dX2_refresh_29 : decode cX2_refresh 29 = .ok (.aload_n 0, 1) := by decide +kernel
theorem dX2_refresh_30 : decode cX2_refresh 30 = .ok (.getfield 12, 3) := by decide +kernel
theorem dX2_refresh_33 : decode cX2_refresh 33 = .ok (.aload_n 2, 1) := by decide +kernel
theorem dX2_refresh_34 : decode cX2_refresh 34 = .ok (.getfield 71, 3) := by decide +kernel
theorem dX2_refresh_37 : decode cX2_refresh 37 = .ok (.aload_n 2, 1) := by decide +kernel
theorem dX2_refresh_38 : decode cX2_refresh 38 = .ok (.getfield 76, 3) := by decide +kernel
theorem dX2_refresh_41 : decode cX2_refresh 41 = .ok (.invokevirtual 79, 3) := by decide +kernel
theorem dX2_refresh_44 : decode cX2_refresh 44 = .ok (.aload_n 0, 1) := by decide +kernel
theorem dX2_refresh_45 : decode cX2_refresh 45 = .ok (.iconst 0, 1) := by decide +kernel
theorem dX2_refresh_46 : decode cX2_refresh 46 = .ok (.invokevirtual 83, 3) := by decide +kernel
theorem dX2_refresh_49 : decode cX2_refresh 49 = .ok (.ifCond .eq 14, 3) := by decide +kernel
theorem dX2_refresh_52 : decode cX2_refresh 52 = .ok (.aload_n 0, 1) := by decide +kernel
theorem dX2_refresh_53 : decode cX2_refresh 53 = .ok (.aload_n 1, 1) := by decide +kernel
theorem dX2_refresh_54 : decode cX2_refresh 54 = .ok (.iconst 0, 1) := by decide +kernel
theorem dX2_refresh_55 : decode cX2_refresh 55 = .ok (.iconst 0, 1) := by decide +kernel
theorem dX2_refresh_56 : decode cX2_refresh 56 = .ok (.aload_n 1, 1) := by decide +kernel
theorem dX2_refresh_57 : decode cX2_refresh 57 = .ok (.invokevirtual 87, 3) := by decide +kernel
theorem dX2_refresh_60 : decode cX2_refresh 60 = .ok (.invokevirtual 93, 3) := by decide +kernel
theorem dX2_refresh_63 : decode cX2_refresh 63 = .ok (.aload_n 0, 1) := by decide +kernel
theorem dX2_refresh_64 : decode cX2_refresh 64 = .ok (.iconst 1, 1) := by decide +kernel
theorem dX2_refresh_65 : decode cX2_refresh 65 = .ok (.putfield 18, 3) := by decide +kernel
theorem dX2_refresh_68 : decode cX2_refresh 68 = .ok (.return_, 1) := by decide +kernel
theorem dX2_firstWriting_0 : decode cX2_firstWriting 0 = .ok (.aload_n 0, 1) := by decide +kernel
theorem dX2_firstWriting_1 : decode cX2_firstWriting 1 = .ok (.getfield 22, 3) := by decide +kernel
theorem dX2_firstWriting_4 : decode cX2_firstWriting 4 = .ok (.ifCond .le 20, 3) := by decide +kernel
theorem dX2_firstWriting_7 : decode cX2_firstWriting 7 = .ok (.aload_n 0, 1) := by decide +kernel
theorem dX2_firstWriting_8 : decode cX2_firstWriting 8 = .ok (.iload_n 1, 1) := by decide +kernel
theorem dX2_firstWriting_9 : decode cX2_firstWriting 9 = .ok (.invokevirtual 97, 3) := by decide +kernel
theorem dX2_firstWriting_12 : decode cX2_firstWriting 12 = .ok (.ifCond .eq 12, 3) := by decide +kernel
theorem dX2_firstWriting_15 : decode cX2_firstWriting 15 = .ok (.aload_n 0, 1) := by decide +kernel
theorem dX2_firstWriting_16 : decode cX2_firstWriting 16 = .ok (.getfield 26, 3) := by decide +kernel
theorem dX2_firstWriting_19 : decode cX2_firstWriting 19 = .ok (.iload_n 1, 1) := by decide +kernel
theorem dX2_firstWriting_20 : decode cX2_firstWriting 20 = .ok (.iaload, 1) := by decide +kernel
theorem dX2_firstWriting_21 : decode cX2_firstWriting 21 = .ok (.goto 5, 3) := by decide +kernel
theorem dX2_firstWriting_24 : decode cX2_firstWriting 24 = .ok (.bipush (-6), 2) := by decide +kernel
theorem dX2_firstWriting_26 : decode cX2_firstWriting 26 = .ok (.ireturn, 1) := by decide +kernel
theorem dX2_candidatesFor_0 : decode cX2_candidatesFor 0 = .ok (.aload_n 0, 1) := by decide +kernel
theorem dX2_candidatesFor_1 : decode cX2_candidatesFor 1 = .ok (.iload_n 1, 1) := by decide +kernel
theorem dX2_candidatesFor_2 : decode cX2_candidatesFor 2 = .ok (.invokevirtual 97, 3) := by decide +kernel
theorem dX2_candidatesFor_5 : decode cX2_candidatesFor 5 = .ok (.ifCond .eq 12, 3) := by decide +kernel
theorem dX2_candidatesFor_8 : decode cX2_candidatesFor 8 = .ok (.aload_n 0, 1) := by decide +kernel
theorem dX2_candidatesFor_9 : decode cX2_candidatesFor 9 = .ok (.getfield 30, 3) := by decide +kernel
theorem dX2_candidatesFor_12 : decode cX2_candidatesFor 12 = .ok (.iload_n 1, 1) := by decide +kernel
theorem dX2_candidatesFor_13 : decode cX2_candidatesFor 13 = .ok (.iaload, 1) := by decide +kernel
theorem dX2_candidatesFor_14 : decode cX2_candidatesFor 14 = .ok (.goto 5, 3) := by decide +kernel
theorem dX2_candidatesFor_17 : decode cX2_candidatesFor 17 = .ok (.bipush (-6), 2) := by decide +kernel
theorem dX2_candidatesFor_19 : decode cX2_candidatesFor 19 = .ok (.ireturn, 1) := by decide +kernel
theorem dX2_waysWith_0 : decode cX2_waysWith 0 = .ok (.iload_n 1, 1) := by decide +kernel
theorem dX2_waysWith_1 : decode cX2_waysWith 1 = .ok (.invokestatic 100, 3) := by decide +kernel
theorem dX2_waysWith_4 : decode cX2_waysWith 4 = .ok (.ifCond .eq 12, 3) := by decide +kernel
theorem dX2_waysWith_7 : decode cX2_waysWith 7 = .ok (.aload_n 0, 1) := by decide +kernel
theorem dX2_waysWith_8 : decode cX2_waysWith 8 = .ok (.getfield 33, 3) := by decide +kernel
theorem dX2_waysWith_11 : decode cX2_waysWith 11 = .ok (.iload_n 1, 1) := by decide +kernel
theorem dX2_waysWith_12 : decode cX2_waysWith 12 = .ok (.iaload, 1) := by decide +kernel
theorem dX2_waysWith_13 : decode cX2_waysWith 13 = .ok (.goto 4, 3) := by decide +kernel
theorem dX2_waysWith_16 : decode cX2_waysWith 16 = .ok (.iconst 0, 1) := by decide +kernel
theorem dX2_waysWith_17 : decode cX2_waysWith 17 = .ok (.ireturn, 1) := by decide +kernel
theorem dX2_isAskedIndex_0 : decode cX2_isAskedIndex 0 = .ok (.iload_n 1, 1) := by decide +kernel
theorem dX2_isAskedIndex_1 : decode cX2_isAskedIndex 1 = .ok (.ifCond .lt 20, 3) := by decide +kernel
theorem dX2_isAskedIndex_4 : decode cX2_isAskedIndex 4 = .ok (.iload_n 1, 1) := by decide +kernel
theorem dX2_isAskedIndex_5 : decode cX2_isAskedIndex 5 = .ok (.aload_n 0, 1) := by decide +kernel
theorem dX2_isAskedIndex_6 : decode cX2_isAskedIndex 6 = .ok (.getfield 36, 3) := by decide +kernel
theorem dX2_isAskedIndex_9 : decode cX2_isAskedIndex 9 = .ok (.if_icmp .ge 12, 3) := by decide +kernel
theorem dX2_isAskedIndex_12 : decode cX2_isAskedIndex 12 = .ok (.iload_n 1, 1) := by decide +kernel
theorem dX2_isAskedIndex_13 : decode cX2_isAskedIndex 13 = .ok (.iconst 4, 1) := by decide +kernel
theorem dX2_isAskedIndex_14 : decode cX2_isAskedIndex 14 = .ok (.if_icmp .ge 7, 3) := by decide +kernel
theorem dX2_isAskedIndex_17 : decode cX2_isAskedIndex 17 = .ok (.iconst 1, 1) := by decide +kernel
theorem dX2_isAskedIndex_18 : decode cX2_isAskedIndex 18 = .ok (.goto 4, 3) := by decide +kernel
theorem dX2_isAskedIndex_21 : decode cX2_isAskedIndex 21 = .ok (.iconst 0, 1) := by decide +kernel
theorem dX2_isAskedIndex_22 : decode cX2_isAskedIndex 22 = .ok (.ireturn, 1) := by decide +kernel
theorem dX2_findAsked_0 : decode cX2_findAsked 0 = .ok (.aload_n 0, 1) := by decide +kernel
theorem dX2_findAsked_1 : decode cX2_findAsked 1 = .ok (.iconst 0, 1) := by decide +kernel
theorem dX2_findAsked_2 : decode cX2_findAsked 2 = .ok (.putfield 36, 3) := by decide +kernel
theorem dX2_findAsked_5 : decode cX2_findAsked 5 = .ok (.iconst 0, 1) := by decide +kernel
theorem dX2_findAsked_6 : decode cX2_findAsked 6 = .ok (.istore_n 2, 1) := by decide +kernel
theorem dX2_findAsked_7 : decode cX2_findAsked 7 = .ok (.iload_n 2, 1) := by decide +kernel
theorem dX2_findAsked_8 : decode cX2_findAsked 8 = .ok (.aload_n 1, 1) := by decide +kernel
theorem dX2_findAsked_9 : decode cX2_findAsked 9 = .ok (.getfield 103, 3) := by decide +kernel
theorem dX2_findAsked_12 : decode cX2_findAsked 12 = .ok (.if_icmp .ge 45, 3) := by decide +kernel
theorem dX2_findAsked_15 : decode cX2_findAsked 15 = .ok (.aload_n 1, 1) := by decide +kernel
theorem dX2_findAsked_16 : decode cX2_findAsked 16 = .ok (.iload_n 2, 1) := by decide +kernel
theorem dX2_findAsked_17 : decode cX2_findAsked 17 = .ok (.invokevirtual 106, 3) := by decide +kernel
theorem dX2_findAsked_20 : decode cX2_findAsked 20 = .ok (.ifCond .eq 31, 3) := by decide +kernel
theorem dX2_findAsked_23 : decode cX2_findAsked 23 = .ok (.aload_n 0, 1) := by decide +kernel
theorem dX2_findAsked_24 : decode cX2_findAsked 24 = .ok (.getfield 36, 3) := by decide +kernel
theorem dX2_findAsked_27 : decode cX2_findAsked 27 = .ok (.iconst 4, 1) := by decide +kernel
theorem dX2_findAsked_28 : decode cX2_findAsked 28 = .ok (.if_icmp .ge 23, 3) := by decide +kernel
theorem dX2_findAsked_31 : decode cX2_findAsked 31 = .ok (.aload_n 0, 1) := by decide +kernel
theorem dX2_findAsked_32 : decode cX2_findAsked 32 = .ok (.getfield 39, 3) := by decide +kernel
theorem dX2_findAsked_35 : decode cX2_findAsked 35 = .ok (.aload_n 0, 1) := by decide +kernel
theorem dX2_findAsked_36 : decode cX2_findAsked 36 = .ok (.getfield 36, 3) := by decide +kernel
theorem dX2_findAsked_39 : decode cX2_findAsked 39 = .ok (.iload_n 2, 1) := by decide +kernel
theorem dX2_findAsked_40 : decode cX2_findAsked 40 = .ok (.iastore, 1) := by decide +kernel
theorem dX2_findAsked_41 : decode cX2_findAsked 41 = .ok (.aload_n 0, 1) := by decide +kernel
theorem dX2_findAsked_42 : decode cX2_findAsked 42 = .ok (.dup, 1) := by decide +kernel
theorem dX2_findAsked_43 : decode cX2_findAsked 43 = .ok (.getfield 36, 3) := by decide +kernel
theorem dX2_findAsked_46 : decode cX2_findAsked 46 = .ok (.iconst 1, 1) := by decide +kernel
theorem dX2_findAsked_47 : decode cX2_findAsked 47 = .ok (.iadd, 1) := by decide +kernel
theorem dX2_findAsked_48 : decode cX2_findAsked 48 = .ok (.putfield 36, 3) := by decide +kernel
theorem dX2_findAsked_51 : decode cX2_findAsked 51 = .ok (.iinc 2 1, 3) := by decide +kernel
theorem dX2_findAsked_54 : decode cX2_findAsked 54 = .ok (.goto (-47), 3) := by decide +kernel
theorem dX2_findAsked_57 : decode cX2_findAsked 57 = .ok (.return_, 1) := by decide +kernel
theorem dX2_spreadSights_0 : decode cX2_spreadSights 0 = .ok (.iconst 0, 1) := by decide +kernel
theorem dX2_spreadSights_1 : decode cX2_spreadSights 1 = .ok (.istore_n 3, 1) := by decide +kernel
theorem dX2_spreadSights_2 : decode cX2_spreadSights 2 = .ok (.iload_n 3, 1) := by decide +kernel
theorem dX2_spreadSights_3 : decode cX2_spreadSights 3 = .ok (.bipush 40, 2) := by decide +kernel
theorem dX2_spreadSights_5 : decode cX2_spreadSights 5 = .ok (.if_icmp .gt 23, 3) := by decide +kernel
theorem dX2_spreadSights_8 : decode cX2_spreadSights 8 = .ok (.aload_n 0, 1) := by decide +kernel
theorem dX2_spreadSights_9 : decode cX2_spreadSights 9 = .ok (.getfield 45, 3) := by decide +kernel
theorem dX2_spreadSights_12 : decode cX2_spreadSights 12 = .ok (.iload_n 3, 1) := by decide +kernel
theorem dX2_spreadSights_13 : decode cX2_spreadSights 13 = .ok (.iconst 0, 1) := by decide +kernel
theorem dX2_spreadSights_14 : decode cX2_spreadSights 14 = .ok (.iastore, 1) := by decide +kernel
theorem dX2_spreadSights_15 : decode cX2_spreadSights 15 = .ok (.aload_n 0, 1) := by decide +kernel
theorem dX2_spreadSights_16 : decode cX2_spreadSights 16 = .ok (.getfield 48, 3) := by decide +kernel
theorem dX2_spreadSights_19 : decode cX2_spreadSights 19 = .ok (.iload_n 3, 1) := by decide +kernel
theorem dX2_spreadSights_20 : decode cX2_spreadSights 20 = .ok (.iconst 0, 1) := by decide +kernel
theorem dX2_spreadSights_21 : decode cX2_spreadSights 21 = .ok (.iastore, 1) := by decide +kernel
theorem dX2_spreadSights_22 : decode cX2_spreadSights 22 = .ok (.iinc 3 1, 3) := by decide +kernel
theorem dX2_spreadSights_25 : decode cX2_spreadSights 25 = .ok (.goto (-23), 3) := by decide +kernel
theorem dX2_spreadSights_28 : decode cX2_spreadSights 28 = .ok (.aload_n 0, 1) := by decide +kernel
theorem dX2_spreadSights_29 : decode cX2_spreadSights 29 = .ok (.iconst 0, 1) := by decide +kernel
theorem dX2_spreadSights_30 : decode cX2_spreadSights 30 = .ok (.putfield 51, 3) := by decide +kernel
theorem dX2_spreadSights_33 : decode cX2_spreadSights 33 = .ok (.iconst 0, 1) := by decide +kernel
theorem dX2_spreadSights_34 : decode cX2_spreadSights 34 = .ok (.istore_n 3, 1) := by decide +kernel
theorem dX2_spreadSights_35 : decode cX2_spreadSights 35 = .ok (.iload_n 3, 1) := by decide +kernel
theorem dX2_spreadSights_36 : decode cX2_spreadSights 36 = .ok (.aload_n 2, 1) := by decide +kernel
theorem dX2_spreadSights_37 : decode cX2_spreadSights 37 = .ok (.getfield 109, 3) := by decide +kernel
theorem dX2_spreadSights_40 : decode cX2_spreadSights 40 = .ok (.if_icmp .ge 95, 3) := by decide +kernel
theorem dX2_spreadSights_43 : decode cX2_spreadSights 43 = .ok (.iload_n 3, 1) := by decide +kernel
theorem dX2_spreadSights_44 : decode cX2_spreadSights 44 = .ok (.bipush 6, 2) := by decide +kernel
theorem dX2_spreadSights_46 : decode cX2_spreadSights 46 = .ok (.if_icmp .ge 89, 3) := by decide +kernel
theorem dX2_spreadSights_49 : decode cX2_spreadSights 49 = .ok (.aload_n 2, 1) := by decide +kernel
theorem dX2_spreadSights_50 : decode cX2_spreadSights 50 = .ok (.getfield 112, 3) := by decide +kernel
theorem dX2_spreadSights_53 : decode cX2_spreadSights 53 = .ok (.iload_n 3, 1) := by decide +kernel
theorem dX2_spreadSights_54 : decode cX2_spreadSights 54 = .ok (.iaload, 1) := by decide +kernel
theorem dX2_spreadSights_55 : decode cX2_spreadSights 55 = .ok (.istore 4, 2) := by decide +kernel
theorem dX2_spreadSights_57 : decode cX2_spreadSights 57 = .ok (.iload 4, 2) := by decide +kernel
theorem dX2_spreadSights_59 : decode cX2_spreadSights 59 = .ok (.ifCond .lt 70, 3) := by decide +kernel
theorem dX2_spreadSights_62 : decode cX2_spreadSights 62 = .ok (.iload 4, 2) := by decide +kernel
theorem dX2_spreadSights_64 : decode cX2_spreadSights 64 = .ok (.aload_n 1, 1) := by decide +kernel
theorem dX2_spreadSights_65 : decode cX2_spreadSights 65 = .ok (.getfield 103, 3) := by decide +kernel
theorem dX2_spreadSights_68 : decode cX2_spreadSights 68 = .ok (.if_icmp .gt 61, 3) := by decide +kernel
theorem dX2_spreadSights_71 : decode cX2_spreadSights 71 = .ok (.iload 4, 2) := by decide +kernel
theorem dX2_spreadSights_73 : decode cX2_spreadSights 73 = .ok (.bipush 40, 2) := by decide +kernel
theorem dX2_spreadSights_75 : decode cX2_spreadSights 75 = .ok (.if_icmp .gt 54, 3) := by decide +kernel
theorem dX2_spreadSights_78 : decode cX2_spreadSights 78 = .ok (.aload_n 2, 1) := by decide +kernel
theorem dX2_spreadSights_79 : decode cX2_spreadSights 79 = .ok (.getfield 115, 3) := by decide +kernel
theorem dX2_spreadSights_82 : decode cX2_spreadSights 82 = .ok (.iload_n 3, 1) := by decide +kernel
theorem dX2_spreadSights_83 : decode cX2_spreadSights 83 = .ok (.baload, 1) := by decide +kernel
theorem dX2_spreadSights_84 : decode cX2_spreadSights 84 = .ok (.ifCond .eq 10, 3) := by decide +kernel
theorem dX2_spreadSights_87 : decode cX2_spreadSights 87 = .ok (.aload_n 0, 1) := by decide +kernel
theorem dX2_spreadSights_88 : decode cX2_spreadSights 88 = .ok (.getfield 45, 3) := by decide +kernel
theorem dX2_spreadSights_91 : decode cX2_spreadSights 91 = .ok (.goto 7, 3) := by decide +kernel
theorem dX2_spreadSights_94 : decode cX2_spreadSights 94 = .ok (.aload_n 0, 1) := by decide +kernel
theorem dX2_spreadSights_95 : decode cX2_spreadSights 95 = .ok (.getfield 48, 3) := by decide +kernel
theorem dX2_spreadSights_98 : decode cX2_spreadSights 98 = .ok (.astore 5, 2) := by decide +kernel
theorem dX2_spreadSights_100 : decode cX2_spreadSights 100 = .ok (.aload 5, 2) := by decide +kernel
theorem dX2_spreadSights_102 : decode cX2_spreadSights 102 = .ok (.iload 4, 2) := by decide +kernel
theorem dX2_spreadSights_104 : decode cX2_spreadSights 104 = .ok (.dup2, 1) := by decide +kernel
theorem dX2_spreadSights_105 : decode cX2_spreadSights 105 = .ok (.iaload, 1) := by decide +kernel
theorem dX2_spreadSights_106 : decode cX2_spreadSights 106 = .ok (.iconst 1, 1) := by decide +kernel
theorem dX2_spreadSights_107 : decode cX2_spreadSights 107 = .ok (.aload_n 2, 1) := by decide +kernel
theorem dX2_spreadSights_108 : decode cX2_spreadSights 108 = .ok (.getfield 119, 3) := by decide +kernel
theorem dX2_spreadSights_111 : decode cX2_spreadSights 111 = .ok (.iload_n 3, 1) := by decide +kernel
theorem dX2_spreadSights_112 : decode cX2_spreadSights 112 = .ok (.iaload, 1) := by decide +kernel
theorem dX2_spreadSights_113 : decode cX2_spreadSights 113 = .ok (.ishl, 1) := by decide +kernel
theorem dX2_spreadSights_114 : decode cX2_spreadSights 114 = .ok (.ior, 1) := by decide +kernel
theorem dX2_spreadSights_115 : decode cX2_spreadSights 115 = .ok (.iastore, 1) := by decide +kernel
theorem dX2_spreadSights_116 : decode cX2_spreadSights 116 = .ok (.aload_n 0, 1) := by decide +kernel
theorem dX2_spreadSights_117 : decode cX2_spreadSights 117 = .ok (.aload_n 0, 1) := by decide +kernel
theorem dX2_spreadSights_118 : decode cX2_spreadSights 118 = .ok (.getfield 51, 3) := by decide +kernel
theorem dX2_spreadSights_121 : decode cX2_spreadSights 121 = .ok (.iload 4, 2) := by decide +kernel
theorem dX2_spreadSights_123 : decode cX2_spreadSights 123 = .ok (.invokestatic 122, 3) := by decide +kernel
theorem dX2_spreadSights_126 : decode cX2_spreadSights 126 = .ok (.putfield 51, 3) := by decide +kernel
theorem dX2_spreadSights_129 : decode cX2_spreadSights 129 = .ok (.iinc 3 1, 3) := by decide +kernel
theorem dX2_spreadSights_132 : decode cX2_spreadSights 132 = .ok (.goto (-97), 3) := by decide +kernel
theorem dX2_spreadSights_135 : decode cX2_spreadSights 135 = .ok (.return_, 1) := by decide +kernel
theorem dX2_keepTold_0 : decode cX2_keepTold 0 = .ok (.iconst 0, 1) := by decide +kernel
theorem dX2_keepTold_1 : decode cX2_keepTold 1 = .ok (.istore_n 3, 1) := by decide +kernel
theorem dX2_keepTold_2 : decode cX2_keepTold 2 = .ok (.iconst 0, 1) := by decide +kernel
theorem dX2_keepTold_3 : decode cX2_keepTold 3 = .ok (.istore 4, 2) := by decide +kernel
theorem dX2_keepTold_5 : decode cX2_keepTold 5 = .ok (.bipush 39, 2) := by decide +kernel
theorem dX2_keepTold_7 : decode cX2_keepTold 7 = .ok (.istore 5, 2) := by decide +kernel
theorem dX2_keepTold_9 : decode cX2_keepTold 9 = .ok (.iload 5, 2) := by decide +kernel
theorem dX2_keepTold_11 : decode cX2_keepTold 11 = .ok (.ifCond .lt 131, 3) := by decide +kernel
theorem dX2_keepTold_14 : decode cX2_keepTold 14 = .ok (.aload_n 0, 1) := by decide +kernel
theorem dX2_keepTold_15 : decode cX2_keepTold 15 = .ok (.iload 5, 2) := by decide +kernel
theorem dX2_keepTold_17 : decode cX2_keepTold 17 = .ok (.iconst 1, 1) := by decide +kernel
theorem dX2_keepTold_18 : decode cX2_keepTold 18 = .ok (.iadd, 1) := by decide +kernel
theorem dX2_keepTold_19 : decode cX2_keepTold 19 = .ok (.invokevirtual 128, 3) := by decide +kernel
theorem dX2_keepTold_22 : decode cX2_keepTold 22 = .ok (.ifCond .eq 8, 3) := by decide +kernel
theorem dX2_keepTold_25 : decode cX2_keepTold 25 = .ok (.iconst 0, 1) := by decide +kernel
theorem dX2_keepTold_26 : decode cX2_keepTold 26 = .ok (.istore_n 3, 1) := by decide +kernel
theorem dX2_keepTold_27 : decode cX2_keepTold 27 = .ok (.iconst 0, 1) := by decide +kernel
theorem dX2_keepTold_28 : decode cX2_keepTold 28 = .ok (.istore 4, 2) := by decide +kernel
theorem dX2_keepTold_30 : decode cX2_keepTold 30 = .ok (.aload_n 0, 1) := by decide +kernel
theorem dX2_keepTold_31 : decode cX2_keepTold 31 = .ok (.getfield 54, 3) := by decide +kernel
theorem dX2_keepTold_34 : decode cX2_keepTold 34 = .ok (.iload 5, 2) := by decide +kernel
theorem dX2_keepTold_36 : decode cX2_keepTold 36 = .ok (.iconst (-1), 1) := by decide +kernel
theorem dX2_keepTold_37 : decode cX2_keepTold 37 = .ok (.iastore, 1) := by decide +kernel
theorem dX2_keepTold_38 : decode cX2_keepTold 38 = .ok (.aload_n 1, 1) := by decide +kernel
theorem dX2_keepTold_39 : decode cX2_keepTold 39 = .ok (.iload 5, 2) := by decide +kernel
theorem dX2_keepTold_41 : decode cX2_keepTold 41 = .ok (.invokevirtual 131, 3) := by decide +kernel
theorem dX2_keepTold_44 : decode cX2_keepTold 44 = .ok (.istore 6, 2) := by decide +kernel
theorem dX2_keepTold_46 : decode cX2_keepTold 46 = .ok (.iload 6, 2) := by decide +kernel
theorem dX2_keepTold_48 : decode cX2_keepTold 48 = .ok (.iconst (-1), 1) := by decide +kernel
theorem dX2_keepTold_49 : decode cX2_keepTold 49 = .ok (.if_icmp .eq 87, 3) := by decide +kernel
theorem dX2_keepTold_52 : decode cX2_keepTold 52 = .ok (.iload 4, 2) := by decide +kernel
theorem dX2_keepTold_54 : decode cX2_keepTold 54 = .ok (.iload 6, 2) := by decide +kernel
theorem dX2_keepTold_56 : decode cX2_keepTold 56 = .ok (.iushr, 1) := by decide +kernel
theorem dX2_keepTold_57 : decode cX2_keepTold 57 = .ok (.iconst 1, 1) := by decide +kernel
theorem dX2_keepTold_58 : decode cX2_keepTold 58 = .ok (.iand, 1) := by decide +kernel
theorem dX2_keepTold_59 : decode cX2_keepTold 59 = .ok (.iconst 1, 1) := by decide +kernel
theorem dX2_keepTold_60 : decode cX2_keepTold 60 = .ok (.if_icmp .ne 7, 3) := by decide +kernel
theorem dX2_keepTold_63 : decode cX2_keepTold 63 = .ok (.iconst 1, 1) := by decide +kernel
theorem dX2_keepTold_64 : decode cX2_keepTold 64 = .ok (.goto 4, 3) := by decide +kernel
theorem dX2_keepTold_67 : decode cX2_keepTold 67 = .ok (.iconst 0, 1) := by decide +kernel
theorem dX2_keepTold_68 : decode cX2_keepTold 68 = .ok (.istore 7, 2) := by decide +kernel
theorem dX2_keepTold_70 : decode cX2_keepTold 70 = .ok (.aload_n 2, 1) := by decide +kernel
theorem dX2_keepTold_71 : decode cX2_keepTold 71 = .ok (.getfield 76, 3) := by decide +kernel
theorem dX2_keepTold_74 : decode cX2_keepTold 74 = .ok (.iconst 1, 1) := by decide +kernel
theorem dX2_keepTold_75 : decode cX2_keepTold 75 = .ok (.if_icmp .ne 16, 3) := by decide +kernel
theorem dX2_keepTold_78 : decode cX2_keepTold 78 = .ok (.iload 7, 2) := by decide +kernel
theorem dX2_keepTold_80 : decode cX2_keepTold 80 = .ok (.ifCond .ne 7, 3) := by decide +kernel
theorem dX2_keepTold_83 : decode cX2_keepTold 83 = .ok (.iconst 1, 1) := by decide +kernel
theorem dX2_keepTold_84 : decode cX2_keepTold 84 = .ok (.goto 20, 3) := by decide +kernel
theorem dX2_keepTold_87 : decode cX2_keepTold 87 = .ok (.iconst 0, 1) := by decide +kernel
theorem dX2_keepTold_88 : decode cX2_keepTold 88 = .ok (.goto 16, 3) := by decide +kernel
theorem dX2_keepTold_91 : decode cX2_keepTold 91 = .ok (.iload_n 3, 1) := by decide +kernel
theorem dX2_keepTold_92 : decode cX2_keepTold 92 = .ok (.aload_n 2, 1) := by decide +kernel
theorem dX2_keepTold_93 : decode cX2_keepTold 93 = .ok (.getfield 71, 3) := by decide +kernel
theorem dX2_keepTold_96 : decode cX2_keepTold 96 = .ok (.if_icmp .ge 7, 3) := by decide +kernel
theorem dX2_keepTold_99 : decode cX2_keepTold 99 = .ok (.iconst 1, 1) := by decide +kernel
theorem dX2_keepTold_100 : decode cX2_keepTold 100 = .ok (.goto 4, 3) := by decide +kernel
theorem dX2_keepTold_103 : decode cX2_keepTold 103 = .ok (.iconst 0, 1) := by decide +kernel
theorem dX2_keepTold_104 : decode cX2_keepTold 104 = .ok (.istore 8, 2) := by decide +kernel
theorem dX2_keepTold_106 : decode cX2_keepTold 106 = .ok (.aload_n 0, 1) := by decide +kernel
theorem dX2_keepTold_107 : decode cX2_keepTold 107 = .ok (.getfield 54, 3) := by decide +kernel
theorem dX2_keepTold_110 : decode cX2_keepTold 110 = .ok (.iload 5, 2) := by decide +kernel
theorem dX2_keepTold_112 : decode cX2_keepTold 112 = .ok (.iload 8, 2) := by decide +kernel
theorem dX2_keepTold_114 : decode cX2_keepTold 114 = .ok (.ifCond .eq 8, 3) := by decide +kernel
theorem dX2_keepTold_117 : decode cX2_keepTold 117 = .ok (.iload 6, 2) := by decide +kernel
theorem dX2_keepTold_119 : decode cX2_keepTold 119 = .ok (.goto 4, 3) := by decide +kernel
theorem dX2_keepTold_122 : decode cX2_keepTold 122 = .ok (.iconst (-1), 1) := by decide +kernel
theorem dX2_keepTold_123 : decode cX2_keepTold 123 = .ok (.iastore, 1) := by decide +kernel
theorem dX2_keepTold_124 : decode cX2_keepTold 124 = .ok (.iinc 3 1, 3) := by decide +kernel
theorem dX2_keepTold_127 : decode cX2_keepTold 127 = .ok (.iload 4, 2) := by decide +kernel
theorem dX2_keepTold_129 : decode cX2_keepTold 129 = .ok (.iconst 1, 1) := by decide +kernel
theorem dX2_keepTold_130 : decode cX2_keepTold 130 = .ok (.iload 6, 2) := by decide +kernel
theorem dX2_keepTold_132 : decode cX2_keepTold 132 = .ok (.ishl, 1) := by decide +kernel
theorem dX2_keepTold_133 : decode cX2_keepTold 133 = .ok (.ior, 1) := by decide +kernel
theorem dX2_keepTold_134 : decode cX2_keepTold 134 = .ok (.istore 4, 2) := by decide +kernel
theorem dX2_keepTold_136 : decode cX2_keepTold 136 = .ok (.iinc 5 (-1), 3) := by decide +kernel
theorem dX2_keepTold_139 : decode cX2_keepTold 139 = .ok (.goto (-130), 3) := by decide +kernel
theorem dX2_keepTold_142 : decode cX2_keepTold 142 = .ok (.return_, 1) := by decide +kernel
theorem dX2_clearAnswers_0 : decode cX2_clearAnswers 0 = .ok (.aload_n 0, 1) := by decide +kernel
theorem dX2_clearAnswers_1 : decode cX2_clearAnswers 1 = .ok (.iconst 0, 1) := by decide +kernel
theorem dX2_clearAnswers_2 : decode cX2_clearAnswers 2 = .ok (.putfield 22, 3) := by decide +kernel
theorem dX2_clearAnswers_5 : decode cX2_clearAnswers 5 = .ok (.iconst 0, 1) := by decide +kernel
theorem dX2_clearAnswers_6 : decode cX2_clearAnswers 6 = .ok (.istore_n 1, 1) := by decide +kernel
theorem dX2_clearAnswers_7 : decode cX2_clearAnswers 7 = .ok (.iload_n 1, 1) := by decide +kernel
theorem dX2_clearAnswers_8 : decode cX2_clearAnswers 8 = .ok (.iconst 4, 1) := by decide +kernel
theorem dX2_clearAnswers_9 : decode cX2_clearAnswers 9 = .ok (.if_icmp .ge 23, 3) := by decide +kernel
theorem dX2_clearAnswers_12 : decode cX2_clearAnswers 12 = .ok (.aload_n 0, 1) := by decide +kernel
theorem dX2_clearAnswers_13 : decode cX2_clearAnswers 13 = .ok (.getfield 26, 3) := by decide +kernel
theorem dX2_clearAnswers_16 : decode cX2_clearAnswers 16 = .ok (.iload_n 1, 1) := by decide +kernel
theorem dX2_clearAnswers_17 : decode cX2_clearAnswers 17 = .ok (.iconst 0, 1) := by decide +kernel
theorem dX2_clearAnswers_18 : decode cX2_clearAnswers 18 = .ok (.iastore, 1) := by decide +kernel
theorem dX2_clearAnswers_19 : decode cX2_clearAnswers 19 = .ok (.aload_n 0, 1) := by decide +kernel
theorem dX2_clearAnswers_20 : decode cX2_clearAnswers 20 = .ok (.getfield 30, 3) := by decide +kernel
theorem dX2_clearAnswers_23 : decode cX2_clearAnswers 23 = .ok (.iload_n 1, 1) := by decide +kernel
theorem dX2_clearAnswers_24 : decode cX2_clearAnswers 24 = .ok (.iconst 0, 1) := by decide +kernel
theorem dX2_clearAnswers_25 : decode cX2_clearAnswers 25 = .ok (.iastore, 1) := by decide +kernel
theorem dX2_clearAnswers_26 : decode cX2_clearAnswers 26 = .ok (.iinc 1 1, 3) := by decide +kernel
theorem dX2_clearAnswers_29 : decode cX2_clearAnswers 29 = .ok (.goto (-22), 3) := by decide +kernel
theorem dX2_clearAnswers_32 : decode cX2_clearAnswers 32 = .ok (.iconst 0, 1) := by decide +kernel
theorem dX2_clearAnswers_33 : decode cX2_clearAnswers 33 = .ok (.istore_n 1, 1) := by decide +kernel
theorem dX2_clearAnswers_34 : decode cX2_clearAnswers 34 = .ok (.iload_n 1, 1) := by decide +kernel
theorem dX2_clearAnswers_35 : decode cX2_clearAnswers 35 = .ok (.bipush 8, 2) := by decide +kernel
theorem dX2_clearAnswers_37 : decode cX2_clearAnswers 37 = .ok (.if_icmp .ge 16, 3) := by decide +kernel
theorem dX2_clearAnswers_40 : decode cX2_clearAnswers 40 = .ok (.aload_n 0, 1) := by decide +kernel
theorem dX2_clearAnswers_41 : decode cX2_clearAnswers 41 = .ok (.getfield 33, 3) := by decide +kernel
theorem dX2_clearAnswers_44 : decode cX2_clearAnswers 44 = .ok (.iload_n 1, 1) := by decide +kernel
theorem dX2_clearAnswers_45 : decode cX2_clearAnswers 45 = .ok (.iconst 0, 1) := by decide +kernel
theorem dX2_clearAnswers_46 : decode cX2_clearAnswers 46 = .ok (.iastore, 1) := by decide +kernel
theorem dX2_clearAnswers_47 : decode cX2_clearAnswers 47 = .ok (.iinc 1 1, 3) := by decide +kernel
theorem dX2_clearAnswers_50 : decode cX2_clearAnswers 50 = .ok (.goto (-16), 3) := by decide +kernel
theorem dX2_clearAnswers_53 : decode cX2_clearAnswers 53 = .ok (.return_, 1) := by decide +kernel
theorem dX2_follow_0 : decode cX2_follow 0 = .ok (.aload_n 0, 1) := by decide +kernel
theorem dX2_follow_1 : decode cX2_follow 1 = .ok (.iload_n 2, 1) := by decide +kernel
theorem dX2_follow_2 : decode cX2_follow 2 = .ok (.invokevirtual 97, 3) := by decide +kernel
theorem dX2_follow_5 : decode cX2_follow 5 = .ok (.ifCond .eq 12, 3) := by decide +kernel
theorem dX2_follow_8 : decode cX2_follow 8 = .ok (.aload_n 0, 1) := by decide +kernel
theorem dX2_follow_9 : decode cX2_follow 9 = .ok (.getfield 39, 3) := by decide +kernel
theorem dX2_follow_12 : decode cX2_follow 12 = .ok (.iload_n 2, 1) := by decide +kernel
theorem dX2_follow_13 : decode cX2_follow 13 = .ok (.iaload, 1) := by decide +kernel
theorem dX2_follow_14 : decode cX2_follow 14 = .ok (.goto 7, 3) := by decide +kernel
theorem dX2_follow_17 : decode cX2_follow 17 = .ok (.aload_n 1, 1) := by decide +kernel
theorem dX2_follow_18 : decode cX2_follow 18 = .ok (.getfield 103, 3) := by decide +kernel
theorem dX2_follow_21 : decode cX2_follow 21 = .ok (.istore 5, 2) := by decide +kernel
theorem dX2_follow_23 : decode cX2_follow 23 = .ok (.aload_n 0, 1) := by decide +kernel
theorem dX2_follow_24 : decode cX2_follow 24 = .ok (.iload_n 3, 1) := by decide +kernel
theorem dX2_follow_25 : decode cX2_follow 25 = .ok (.iload 5, 2) := by decide +kernel
theorem dX2_follow_27 : decode cX2_follow 27 = .ok (.invokevirtual 135, 3) := by decide +kernel
theorem dX2_follow_30 : decode cX2_follow 30 = .ok (.ifCond .ne 4, 3) := by decide +kernel
theorem dX2_follow_33 : decode cX2_follow 33 = .ok (.return_, 1) := by decide +kernel
theorem dX2_follow_34 : decode cX2_follow 34 = .ok (.aload_n 0, 1) := by decide +kernel
theorem dX2_follow_35 : decode cX2_follow 35 = .ok (.iload_n 2, 1) := by decide +kernel
theorem dX2_follow_36 : decode cX2_follow 36 = .ok (.invokevirtual 97, 3) := by decide +kernel
theorem dX2_follow_39 : decode cX2_follow 39 = .ok (.ifCond .ne 10, 3) := by decide +kernel
theorem dX2_follow_42 : decode cX2_follow 42 = .ok (.aload_n 0, 1) := by decide +kernel
theorem dX2_follow_43 : decode cX2_follow 43 = .ok (.iload 4, 2) := by decide +kernel
theorem dX2_follow_45 : decode cX2_follow 45 = .ok (.invokevirtual 139, 3) := by decide +kernel
theorem dX2_follow_48 : decode cX2_follow 48 = .ok (.return_, 1) := by decide +kernel
theorem dX2_follow_49 : decode cX2_follow 49 = .ok (.aload_n 0, 1) := by decide +kernel
theorem dX2_follow_50 : decode cX2_follow 50 = .ok (.getfield 12, 3) := by decide +kernel
theorem dX2_follow_53 : decode cX2_follow 53 = .ok (.getfield 143, 3) := by decide +kernel
theorem dX2_follow_56 : decode cX2_follow 56 = .ok (.lstore 6, 2) := by decide +kernel
theorem dX2_follow_58 : decode cX2_follow 58 = .ok (.iconst 0, 1) := by decide +kernel
theorem dX2_follow_59 : decode cX2_follow 59 = .ok (.istore 8, 2) := by decide +kernel
theorem dX2_follow_61 : decode cX2_follow 61 = .ok (.iload 8, 2) := by decide +kernel
theorem dX2_follow_63 : decode cX2_follow 63 = .ok (.bipush 8, 2) := by decide +kernel
theorem dX2_follow_65 : decode cX2_follow 65 = .ok (.if_icmp .ge 66, 3) := by decide +kernel
theorem dX2_follow_68 : decode cX2_follow 68 = .ok (.aload_n 0, 1) := by decide +kernel
theorem dX2_follow_69 : decode cX2_follow 69 = .ok (.getfield 12, 3) := by decide +kernel
theorem dX2_follow_72 : decode cX2_follow 72 = .ok (.lload 6, 2) := by decide +kernel
theorem dX2_follow_74 : decode cX2_follow 74 = .ok (.putfield 143, 3) := by decide +kernel
theorem dX2_follow_77 : decode cX2_follow 77 = .ok (.aload_n 0, 1) := by decide +kernel
theorem dX2_follow_78 : decode cX2_follow 78 = .ok (.getfield 12, 3) := by decide +kernel
theorem dX2_follow_81 : decode cX2_follow 81 = .ok (.iload 8, 2) := by decide +kernel
theorem dX2_follow_83 : decode cX2_follow 83 = .ok (.iconst (-1), 1) := by decide +kernel
theorem dX2_follow_84 : decode cX2_follow 84 = .ok (.invokevirtual 147, 3) := by decide +kernel
theorem dX2_follow_87 : decode cX2_follow 87 = .ok (.aload_n 0, 1) := by decide +kernel
theorem dX2_follow_88 : decode cX2_follow 88 = .ok (.getfield 42, 3) := by decide +kernel
theorem dX2_follow_91 : decode cX2_follow 91 = .ok (.iload_n 2, 1) := by decide +kernel
theorem dX2_follow_92 : decode cX2_follow 92 = .ok (.iload 8, 2) := by decide +kernel
theorem dX2_follow_94 : decode cX2_follow 94 = .ok (.iastore, 1) := by decide +kernel
theorem dX2_follow_95 : decode cX2_follow 95 = .ok (.aload_n 0, 1) := by decide +kernel
theorem dX2_follow_96 : decode cX2_follow 96 = .ok (.iload 5, 2) := by decide +kernel
theorem dX2_follow_98 : decode cX2_follow 98 = .ok (.iconst 1, 1) := by decide +kernel
theorem dX2_follow_99 : decode cX2_follow 99 = .ok (.iadd, 1) := by decide +kernel
theorem dX2_follow_100 : decode cX2_follow 100 = .ok (.invokevirtual 83, 3) := by decide +kernel
theorem dX2_follow_103 : decode cX2_follow 103 = .ok (.ifCond .eq 22, 3) := by decide +kernel
theorem dX2_follow_106 : decode cX2_follow 106 = .ok (.aload_n 0, 1) := by decide +kernel
theorem dX2_follow_107 : decode cX2_follow 107 = .ok (.aload_n 1, 1) := by decide +kernel
theorem dX2_follow_108 : decode cX2_follow 108 = .ok (.iload_n 2, 1) := by decide +kernel
theorem dX2_follow_109 : decode cX2_follow 109 = .ok (.iconst 1, 1) := by decide +kernel
theorem dX2_follow_110 : decode cX2_follow 110 = .ok (.iadd, 1) := by decide +kernel
theorem dX2_follow_111 : decode cX2_follow 111 = .ok (.iload 5, 2) := by decide +kernel
theorem dX2_follow_113 : decode cX2_follow 113 = .ok (.iconst 1, 1) := by decide +kernel
theorem dX2_follow_114 : decode cX2_follow 114 = .ok (.iadd, 1) := by decide +kernel
theorem dX2_follow_115 : decode cX2_follow 115 = .ok (.iload 4, 2) := by decide +kernel
theorem dX2_follow_117 : decode cX2_follow 117 = .ok (.iconst 1, 1) := by decide +kernel
theorem dX2_follow_118 : decode cX2_follow 118 = .ok (.iload 8, 2) := by decide +kernel
theorem dX2_follow_120 : decode cX2_follow 120 = .ok (.ishl, 1) := by decide +kernel
theorem dX2_follow_121 : decode cX2_follow 121 = .ok (.ior, 1) := by decide +kernel
theorem dX2_follow_122 : decode cX2_follow 122 = .ok (.invokevirtual 93, 3) := by decide +kernel
theorem dX2_follow_125 : decode cX2_follow 125 = .ok (.iinc 8 1, 3) := by decide +kernel
theorem dX2_follow_128 : decode cX2_follow 128 = .ok (.goto (-67), 3) := by decide +kernel
theorem dX2_follow_131 : decode cX2_follow 131 = .ok (.return_, 1) := by decide +kernel
theorem dX2_walk_0 : decode cX2_walk 0 = .ok (.iload_n 1, 1) := by decide +kernel
theorem dX2_walk_1 : decode cX2_walk 1 = .ok (.istore_n 3, 1) := by decide +kernel
theorem dX2_walk_2 : decode cX2_walk 2 = .ok (.iload_n 3, 1) := by decide +kernel
theorem dX2_walk_3 : decode cX2_walk 3 = .ok (.iload_n 2, 1) := by decide +kernel
theorem dX2_walk_4 : decode cX2_walk 4 = .ok (.if_icmp .ge 59, 3) := by decide +kernel
theorem dX2_walk_7 : decode cX2_walk 7 = .ok (.iload_n 3, 1) := by decide +kernel
theorem dX2_walk_8 : decode cX2_walk 8 = .ok (.aload_n 0, 1) := by decide +kernel
theorem dX2_walk_9 : decode cX2_walk 9 = .ok (.getfield 51, 3) := by decide +kernel
theorem dX2_walk_12 : decode cX2_walk 12 = .ok (.if_icmp .ge 51, 3) := by decide +kernel
theorem dX2_walk_15 : decode cX2_walk 15 = .ok (.iload_n 3, 1) := by decide +kernel
theorem dX2_walk_16 : decode cX2_walk 16 = .ok (.bipush 40, 2) := by decide +kernel
theorem dX2_walk_18 : decode cX2_walk 18 = .ok (.if_icmp .ge 45, 3) := by decide +kernel
theorem dX2_walk_21 : decode cX2_walk 21 = .ok (.aload_n 0, 1) := by decide +kernel
theorem dX2_walk_22 : decode cX2_walk 22 = .ok (.getfield 54, 3) := by decide +kernel
theorem dX2_walk_25 : decode cX2_walk 25 = .ok (.iload_n 3, 1) := by decide +kernel
theorem dX2_walk_26 : decode cX2_walk 26 = .ok (.iaload, 1) := by decide +kernel
theorem dX2_walk_27 : decode cX2_walk 27 = .ok (.iconst (-1), 1) := by decide +kernel
theorem dX2_walk_28 : decode cX2_walk 28 = .ok (.if_icmp .eq 17, 3) := by decide +kernel
theorem dX2_walk_31 : decode cX2_walk 31 = .ok (.aload_n 0, 1) := by decide +kernel
theorem dX2_walk_32 : decode cX2_walk 32 = .ok (.getfield 12, 3) := by decide +kernel
theorem dX2_walk_35 : decode cX2_walk 35 = .ok (.aload_n 0, 1) := by decide +kernel
theorem dX2_walk_36 : decode cX2_walk 36 = .ok (.getfield 54, 3) := by decide +kernel
theorem dX2_walk_39 : decode cX2_walk 39 = .ok (.iload_n 3, 1) := by decide +kernel
theorem dX2_walk_40 : decode cX2_walk 40 = .ok (.iaload, 1) := by decide +kernel
theorem dX2_walk_41 : decode cX2_walk 41 = .ok (.iconst (-1), 1) := by decide +kernel
theorem dX2_walk_42 : decode cX2_walk 42 = .ok (.invokevirtual 147, 3) := by decide +kernel
theorem dX2_walk_45 : decode cX2_walk 45 = .ok (.aload_n 0, 1) := by decide +kernel
theorem dX2_walk_46 : decode cX2_walk 46 = .ok (.iload_n 3, 1) := by decide +kernel
theorem dX2_walk_47 : decode cX2_walk 47 = .ok (.iconst 1, 1) := by decide +kernel
theorem dX2_walk_48 : decode cX2_walk 48 = .ok (.iadd, 1) := by decide +kernel
theorem dX2_walk_49 : decode cX2_walk 49 = .ok (.invokevirtual 83, 3) := by decide +kernel
theorem dX2_walk_52 : decode cX2_walk 52 = .ok (.ifCond .ne 5, 3) := by decide +kernel
theorem dX2_walk_55 : decode cX2_walk 55 = .ok (.iconst 0, 1) := by decide +kernel
theorem dX2_walk_56 : decode cX2_walk 56 = .ok (.ireturn, 1) := by decide +kernel
theorem dX2_walk_57 : decode cX2_walk 57 = .ok (.iinc 3 1, 3) := by decide +kernel
theorem dX2_walk_60 : decode cX2_walk 60 = .ok (.goto (-58), 3) := by decide +kernel
theorem dX2_walk_63 : decode cX2_walk 63 = .ok (.iconst 1, 1) := by decide +kernel
theorem dX2_walk_64 : decode cX2_walk 64 = .ok (.ireturn, 1) := by decide +kernel
theorem dX2_isSighted_0 : decode cX2_isSighted 0 = .ok (.iload_n 1, 1) := by decide +kernel
theorem dX2_isSighted_1 : decode cX2_isSighted 1 = .ok (.ifCond .lt 29, 3) := by decide +kernel
theorem dX2_isSighted_4 : decode cX2_isSighted 4 = .ok (.iload_n 1, 1) := by decide +kernel
theorem dX2_isSighted_5 : decode cX2_isSighted 5 = .ok (.bipush 40, 2) := by decide +kernel
theorem dX2_isSighted_7 : decode cX2_isSighted 7 = .ok (.if_icmp .gt 23, 3) := by decide +kernel
theorem dX2_isSighted_10 : decode cX2_isSighted 10 = .ok (.aload_n 0, 1) := by decide +kernel
theorem dX2_isSighted_11 : decode cX2_isSighted 11 = .ok (.getfield 45, 3) := by decide +kernel
theorem dX2_isSighted_14 : decode cX2_isSighted 14 = .ok (.iload_n 1, 1) := by decide +kernel
theorem dX2_isSighted_15 : decode cX2_isSighted 15 = .ok (.iaload, 1) := by decide +kernel
theorem dX2_isSighted_16 : decode cX2_isSighted 16 = .ok (.aload_n 0, 1) := by decide +kernel
theorem dX2_isSighted_17 : decode cX2_isSighted 17 = .ok (.getfield 48, 3) := by decide +kernel
theorem dX2_isSighted_20 : decode cX2_isSighted 20 = .ok (.iload_n 1, 1) := by decide +kernel
theorem dX2_isSighted_21 : decode cX2_isSighted 21 = .ok (.iaload, 1) := by decide +kernel
theorem dX2_isSighted_22 : decode cX2_isSighted 22 = .ok (.ior, 1) := by decide +kernel
theorem dX2_isSighted_23 : decode cX2_isSighted 23 = .ok (.ifCond .eq 7, 3) := by decide +kernel
theorem dX2_isSighted_26 : decode cX2_isSighted 26 = .ok (.iconst 1, 1) := by decide +kernel
theorem dX2_isSighted_27 : decode cX2_isSighted 27 = .ok (.goto 4, 3) := by decide +kernel
theorem dX2_isSighted_30 : decode cX2_isSighted 30 = .ok (.iconst 0, 1) := by decide +kernel
theorem dX2_isSighted_31 : decode cX2_isSighted 31 = .ok (.ireturn, 1) := by decide +kernel
theorem dX2_holdsBehind_0 : decode cX2_holdsBehind 0 = .ok (.aload_n 0, 1) := by decide +kernel
theorem dX2_holdsBehind_1 : decode cX2_holdsBehind 1 = .ok (.iload_n 1, 1) := by decide +kernel
theorem dX2_holdsBehind_2 : decode cX2_holdsBehind 2 = .ok (.invokevirtual 128, 3) := by decide +kernel
theorem dX2_holdsBehind_5 : decode cX2_holdsBehind 5 = .ok (.ifCond .ne 5, 3) := by decide +kernel
theorem dX2_holdsBehind_8 : decode cX2_holdsBehind 8 = .ok (.iconst 1, 1) := by decide +kernel
theorem dX2_holdsBehind_9 : decode cX2_holdsBehind 9 = .ok (.ireturn, 1) := by decide +kernel
theorem dX2_holdsBehind_10 : decode cX2_holdsBehind 10 = .ok (.aload_n 0, 1) := by decide +kernel
theorem dX2_holdsBehind_11 : decode cX2_holdsBehind 11 = .ok (.getfield 12, 3) := by decide +kernel
theorem dX2_holdsBehind_14 : decode cX2_holdsBehind 14 = .ok (.invokevirtual 150, 3) := by decide +kernel
theorem dX2_holdsBehind_17 : decode cX2_holdsBehind 17 = .ok (.istore_n 2, 1) := by decide +kernel
theorem dX2_holdsBehind_18 : decode cX2_holdsBehind 18 = .ok (.aload_n 0, 1) := by decide +kernel
theorem dX2_holdsBehind_19 : decode cX2_holdsBehind 19 = .ok (.getfield 45, 3) := by decide +kernel
theorem dX2_holdsBehind_22 : decode cX2_holdsBehind 22 = .ok (.iload_n 1, 1) := by decide +kernel
theorem dX2_holdsBehind_23 : decode cX2_holdsBehind 23 = .ok (.iaload, 1) := by decide +kernel
theorem dX2_holdsBehind_24 : decode cX2_holdsBehind 24 = .ok (.iload_n 2, 1) := by decide +kernel
theorem dX2_holdsBehind_25 : decode cX2_holdsBehind 25 = .ok (.iconst (-1), 1) := by decide +kernel
theorem dX2_holdsBehind_26 : decode cX2_holdsBehind 26 = .ok (.ixor, 1) := by decide +kernel
theorem dX2_holdsBehind_27 : decode cX2_holdsBehind 27 = .ok (.iand, 1) := by decide +kernel
theorem dX2_holdsBehind_28 : decode cX2_holdsBehind 28 = .ok (.ifCond .ne 18, 3) := by decide +kernel
theorem dX2_holdsBehind_31 : decode cX2_holdsBehind 31 = .ok (.aload_n 0, 1) := by decide +kernel
theorem dX2_holdsBehind_32 : decode cX2_holdsBehind 32 = .ok (.getfield 48, 3) := by decide +kernel
theorem dX2_holdsBehind_35 : decode cX2_holdsBehind 35 = .ok (.iload_n 1, 1) := by decide +kernel
theorem dX2_holdsBehind_36 : decode cX2_holdsBehind 36 = .ok (.iaload, 1) := by decide +kernel
theorem dX2_holdsBehind_37 : decode cX2_holdsBehind 37 = .ok (.iload_n 2, 1) := by decide +kernel
theorem dX2_holdsBehind_38 : decode cX2_holdsBehind 38 = .ok (.iand, 1) := by decide +kernel
theorem dX2_holdsBehind_39 : decode cX2_holdsBehind 39 = .ok (.ifCond .ne 7, 3) := by decide +kernel
theorem dX2_holdsBehind_42 : decode cX2_holdsBehind 42 = .ok (.iconst 1, 1) := by decide +kernel
theorem dX2_holdsBehind_43 : decode cX2_holdsBehind 43 = .ok (.goto 4, 3) := by decide +kernel
theorem dX2_holdsBehind_46 : decode cX2_holdsBehind 46 = .ok (.iconst 0, 1) := by decide +kernel
theorem dX2_holdsBehind_47 : decode cX2_holdsBehind 47 = .ok (.ireturn, 1) := by decide +kernel
theorem dX2_countWay_0 : decode cX2_countWay 0 = .ok (.iconst 0, 1) := by decide +kernel
theorem dX2_countWay_1 : decode cX2_countWay 1 = .ok (.istore_n 2, 1) := by decide +kernel
theorem dX2_countWay_2 : decode cX2_countWay 2 = .ok (.iload_n 2, 1) := by decide +kernel
theorem dX2_countWay_3 : decode cX2_countWay 3 = .ok (.aload_n 0, 1) := by decide +kernel
theorem dX2_countWay_4 : decode cX2_countWay 4 = .ok (.getfield 36, 3) := by decide +kernel
theorem dX2_countWay_7 : decode cX2_countWay 7 = .ok (.if_icmp .ge 50, 3) := by decide +kernel
theorem dX2_countWay_10 : decode cX2_countWay 10 = .ok (.iload_n 2, 1) := by decide +kernel
theorem dX2_countWay_11 : decode cX2_countWay 11 = .ok (.iconst 4, 1) := by decide +kernel
theorem dX2_countWay_12 : decode cX2_countWay 12 = .ok (.if_icmp .ge 45, 3) := by decide +kernel
theorem dX2_countWay_15 : decode cX2_countWay 15 = .ok (.aload_n 0, 1) := by decide +kernel
theorem dX2_countWay_16 : decode cX2_countWay 16 = .ok (.getfield 22, 3) := by decide +kernel
theorem dX2_countWay_19 : decode cX2_countWay 19 = .ok (.ifCond .ne 15, 3) := by decide +kernel
theorem dX2_countWay_22 : decode cX2_countWay 22 = .ok (.aload_n 0, 1) := by decide +kernel
theorem dX2_countWay_23 : decode cX2_countWay 23 = .ok (.getfield 26, 3) := by decide +kernel
theorem dX2_countWay_26 : decode cX2_countWay 26 = .ok (.iload_n 2, 1) := by decide +kernel
theorem dX2_countWay_27 : decode cX2_countWay 27 = .ok (.aload_n 0, 1) := by decide +kernel
theorem dX2_countWay_28 : decode cX2_countWay 28 = .ok (.getfield 42, 3) := by decide +kernel
theorem dX2_countWay_31 : decode cX2_countWay 31 = .ok (.iload_n 2, 1) := by decide +kernel
theorem dX2_countWay_32 : decode cX2_countWay 32 = .ok (.iaload, 1) := by decide +kernel
theorem dX2_countWay_33 : decode cX2_countWay 33 = .ok (.iastore, 1) := by decide +kernel
theorem dX2_countWay_34 : decode cX2_countWay 34 = .ok (.aload_n 0, 1) := by decide +kernel
theorem dX2_countWay_35 : decode cX2_countWay 35 = .ok (.getfield 30, 3) := by decide +kernel
theorem dX2_countWay_38 : decode cX2_countWay 38 = .ok (.iload_n 2, 1) := by decide +kernel
theorem dX2_countWay_39 : decode cX2_countWay 39 = .ok (.dup2, 1) := by decide +kernel
theorem dX2_countWay_40 : decode cX2_countWay 40 = .ok (.iaload, 1) := by decide +kernel
theorem dX2_countWay_41 : decode cX2_countWay 41 = .ok (.iconst 1, 1) := by decide +kernel
theorem dX2_countWay_42 : decode cX2_countWay 42 = .ok (.aload_n 0, 1) := by decide +kernel
theorem dX2_countWay_43 : decode cX2_countWay 43 = .ok (.getfield 42, 3) := by decide +kernel
theorem dX2_countWay_46 : decode cX2_countWay 46 = .ok (.iload_n 2, 1) := by decide +kernel
theorem dX2_countWay_47 : decode cX2_countWay 47 = .ok (.iaload, 1) := by decide +kernel
theorem dX2_countWay_48 : decode cX2_countWay 48 = .ok (.ishl, 1) := by decide +kernel
theorem dX2_countWay_49 : decode cX2_countWay 49 = .ok (.ior, 1) := by decide +kernel
theorem dX2_countWay_50 : decode cX2_countWay 50 = .ok (.iastore, 1) := by decide +kernel
theorem dX2_countWay_51 : decode cX2_countWay 51 = .ok (.iinc 2 1, 3) := by decide +kernel
theorem dX2_countWay_54 : decode cX2_countWay 54 = .ok (.goto (-52), 3) := by decide +kernel
theorem dX2_countWay_57 : decode cX2_countWay 57 = .ok (.iconst 0, 1) := by decide +kernel
theorem dX2_countWay_58 : decode cX2_countWay 58 = .ok (.istore_n 2, 1) := by decide +kernel
theorem dX2_countWay_59 : decode cX2_countWay 59 = .ok (.iload_n 2, 1) := by decide +kernel
theorem dX2_countWay_60 : decode cX2_countWay 60 = .ok (.bipush 8, 2) := by decide +kernel
theorem dX2_countWay_62 : decode cX2_countWay 62 = .ok (.if_icmp .ge 23, 3) := by decide +kernel
theorem dX2_countWay_65 : decode cX2_countWay 65 = .ok (.aload_n 0, 1) := by decide +kernel
theorem dX2_countWay_66 : decode cX2_countWay 66 = .ok (.getfield 33, 3) := by decide +kernel
theorem dX2_countWay_69 : decode cX2_countWay 69 = .ok (.iload_n 2, 1) := by decide +kernel
theorem dX2_countWay_70 : decode cX2_countWay 70 = .ok (.dup2, 1) := by decide +kernel
theorem dX2_countWay_71 : decode cX2_countWay 71 = .ok (.iaload, 1) := by decide +kernel
theorem dX2_countWay_72 : decode cX2_countWay 72 = .ok (.iload_n 1, 1) := by decide +kernel
theorem dX2_countWay_73 : decode cX2_countWay 73 = .ok (.iload_n 2, 1) := by decide +kernel
theorem dX2_countWay_74 : decode cX2_countWay 74 = .ok (.iushr, 1) := by decide +kernel
theorem dX2_countWay_75 : decode cX2_countWay 75 = .ok (.iconst 1, 1) := by decide +kernel
theorem dX2_countWay_76 : decode cX2_countWay 76 = .ok (.iand, 1) := by decide +kernel
theorem dX2_countWay_77 : decode cX2_countWay 77 = .ok (.iadd, 1) := by decide +kernel
theorem dX2_countWay_78 : decode cX2_countWay 78 = .ok (.iastore, 1) := by decide +kernel
theorem dX2_countWay_79 : decode cX2_countWay 79 = .ok (.iinc 2 1, 3) := by decide +kernel
theorem dX2_countWay_82 : decode cX2_countWay 82 = .ok (.goto (-23), 3) := by decide +kernel
theorem dX2_countWay_85 : decode cX2_countWay 85 = .ok (.aload_n 0, 1) := by decide +kernel
theorem dX2_countWay_86 : decode cX2_countWay 86 = .ok (.dup, 1) := by decide +kernel
theorem dX2_countWay_87 : decode cX2_countWay 87 = .ok (.getfield 22, 3) := by decide +kernel
theorem dX2_countWay_90 : decode cX2_countWay 90 = .ok (.iconst 1, 1) := by decide +kernel
theorem dX2_countWay_91 : decode cX2_countWay 91 = .ok (.iadd, 1) := by decide +kernel
theorem dX2_countWay_92 : decode cX2_countWay 92 = .ok (.putfield 22, 3) := by decide +kernel
theorem dX2_countWay_95 : decode cX2_countWay 95 = .ok (.return_, 1) := by decide +kernel
