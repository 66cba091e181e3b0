theorem dX0_init_0 : decode cX0_init 0 = .ok (.aload_n 0, 1) := by decide +kernel
theorem dX0_init_1 : decode cX0_init 1 = .ok (.invokespecial 3, 3) := by decide +kernel
theorem dX0_init_4 : decode cX0_init 4 = .ok (.aload_n 0, 1) := by decide +kernel
theorem dX0_init_5 : decode cX0_init 5 = .ok (.aload_n 1, 1) := by decide +kernel
theorem dX0_init_6 : decode cX0_init 6 = .ok (.getfield 9, 3) := by decide +kernel
theorem dX0_init_9 : decode cX0_init 9 = .ok (.newarray .int, 2) := by decide +kernel
theorem dX0_init_11 : decode cX0_init 11 = .ok (.putfield 15, 3) := by decide +kernel
theorem dX0_init_14 : decode cX0_init 14 = .ok (.return_, 1) := by decide +kernel
theorem dX0_firstFault_0 : decode cX0_firstFault 0 = .ok (.aload_n 0, 1) := by decide +kernel
theorem dX0_firstFault_1 : decode cX0_firstFault 1 = .ok (.iconst 0, 1) := by decide +kernel
theorem dX0_firstFault_2 : decode cX0_firstFault 2 = .ok (.putfield 21, 3) := by decide +kernel
theorem dX0_firstFault_5 : decode cX0_firstFault 5 = .ok (.aload_n 0, 1) := by decide +kernel
theorem dX0_firstFault_6 : decode cX0_firstFault 6 = .ok (.iconst 0, 1) := by decide +kernel
theorem dX0_firstFault_7 : decode cX0_firstFault 7 = .ok (.putfield 24, 3) := by decide +kernel
theorem dX0_firstFault_10 : decode cX0_firstFault 10 = .ok (.iconst 0, 1) := by decide +kernel
theorem dX0_firstFault_11 : decode cX0_firstFault 11 = .ok (.istore_n 2, 1) := by decide +kernel
theorem dX0_firstFault_12 : decode cX0_firstFault 12 = .ok (.iload_n 2, 1) := by decide +kernel
theorem dX0_firstFault_13 : decode cX0_firstFault 13 = .ok (.aload_n 1, 1) := by decide +kernel
theorem dX0_firstFault_14 : decode cX0_firstFault 14 = .ok (.invokevirtual 27, 3) := by decide +kernel
theorem dX0_firstFault_17 : decode cX0_firstFault 17 = .ok (.if_icmp .ge 30, 3) := by decide +kernel
theorem dX0_firstFault_20 : decode cX0_firstFault 20 = .ok (.aload_n 0, 1) := by decide +kernel
theorem dX0_firstFault_21 : decode cX0_firstFault 21 = .ok (.aload_n 1, 1) := by decide +kernel
theorem dX0_firstFault_22 : decode cX0_firstFault 22 = .ok (.iload_n 2, 1) := by decide +kernel
theorem dX0_firstFault_23 : decode cX0_firstFault 23 = .ok (.invokevirtual 33, 3) := by decide +kernel
theorem dX0_firstFault_26 : decode cX0_firstFault 26 = .ok (.aload_n 1, 1) := by decide +kernel
theorem dX0_firstFault_27 : decode cX0_firstFault 27 = .ok (.iload_n 2, 1) := by decide +kernel
theorem dX0_firstFault_28 : decode cX0_firstFault 28 = .ok (.iconst 1, 1) := by decide +kernel
theorem dX0_firstFault_29 : decode cX0_firstFault 29 = .ok (.iadd, 1) := by decide +kernel
theorem dX0_firstFault_30 : decode cX0_firstFault 30 = .ok (.invokevirtual 33, 3) := by decide +kernel
theorem dX0_firstFault_33 : decode cX0_firstFault 33 = .ok (.invokevirtual 37, 3) := by decide +kernel
theorem dX0_firstFault_36 : decode cX0_firstFault 36 = .ok (.ifCond .ne 5, 3) := by decide +kernel
theorem dX0_firstFault_39 : decode cX0_firstFault 39 = .ok (.iload_n 2, 1) := by decide +kernel
theorem dX0_firstFault_40 : decode cX0_firstFault 40 = .ok (.ireturn, 1) := by decide +kernel
theorem dX0_firstFault_41 : decode cX0_firstFault 41 = .ok (.iinc 2 1, 3) := by decide +kernel
theorem dX0_firstFault_44 : decode cX0_firstFault 44 = .ok (.goto (-32), 3) := by decide +kernel
theorem dX0_firstFault_47 : decode cX0_firstFault 47 = .ok (.aload_n 0, 1) := by decide +kernel
theorem dX0_firstFault_48 : decode cX0_firstFault 48 = .ok (.getfield 21, 3) := by decide +kernel
theorem dX0_firstFault_51 : decode cX0_firstFault 51 = .ok (.aload_n 0, 1) := by decide +kernel
theorem dX0_firstFault_52 : decode cX0_firstFault 52 = .ok (.getfield 15, 3) := by decide +kernel
theorem dX0_firstFault_55 : decode cX0_firstFault 55 = .ok (.arraylength, 1) := by decide +kernel
theorem dX0_firstFault_56 : decode cX0_firstFault 56 = .ok (.if_icmp .ge 10, 3) := by decide +kernel
theorem dX0_firstFault_59 : decode cX0_firstFault 59 = .ok (.aload_n 1, 1) := by decide +kernel
theorem dX0_firstFault_60 : decode cX0_firstFault 60 = .ok (.invokevirtual 27, 3) := by decide +kernel
theorem dX0_firstFault_63 : decode cX0_firstFault 63 = .ok (.goto 4, 3) := by decide +kernel
theorem dX0_firstFault_66 : decode cX0_firstFault 66 = .ok (.iconst (-1), 1) := by decide +kernel
theorem dX0_firstFault_67 : decode cX0_firstFault 67 = .ok (.ireturn, 1) := by decide +kernel
theorem dX0_copyTo_0 : decode cX0_copyTo 0 = .ok (.iconst 0, 1) := by decide +kernel
theorem dX0_copyTo_1 : decode cX0_copyTo 1 = .ok (.istore_n 2, 1) := by decide +kernel
theorem dX0_copyTo_2 : decode cX0_copyTo 2 = .ok (.iload_n 2, 1) := by decide +kernel
theorem dX0_copyTo_3 : decode cX0_copyTo 3 = .ok (.aload_n 0, 1) := by decide +kernel
theorem dX0_copyTo_4 : decode cX0_copyTo 4 = .ok (.getfield 15, 3) := by decide +kernel
theorem dX0_copyTo_7 : decode cX0_copyTo 7 = .ok (.arraylength, 1) := by decide +kernel
theorem dX0_copyTo_8 : decode cX0_copyTo 8 = .ok (.if_icmp .ge 24, 3) := by decide +kernel
theorem dX0_copyTo_11 : decode cX0_copyTo 11 = .ok (.iload_n 2, 1) := by decide +kernel
theorem dX0_copyTo_12 : decode cX0_copyTo 12 = .ok (.aload_n 1, 1) := by decide +kernel
theorem dX0_copyTo_13 : decode cX0_copyTo 13 = .ok (.arraylength, 1) := by decide +kernel
theorem dX0_copyTo_14 : decode cX0_copyTo 14 = .ok (.if_icmp .ge 18, 3) := by decide +kernel
theorem dX0_copyTo_17 : decode cX0_copyTo 17 = .ok (.aload_n 1, 1) := by decide +kernel
theorem dX0_copyTo_18 : decode cX0_copyTo 18 = .ok (.iload_n 2, 1) := by decide +kernel
theorem dX0_copyTo_19 : decode cX0_copyTo 19 = .ok (.aload_n 0, 1) := by decide +kernel
theorem dX0_copyTo_20 : decode cX0_copyTo 20 = .ok (.getfield 15, 3) := by decide +kernel
theorem dX0_copyTo_23 : decode cX0_copyTo 23 = .ok (.iload_n 2, 1) := by decide +kernel
theorem dX0_copyTo_24 : decode cX0_copyTo 24 = .ok (.iaload, 1) := by decide +kernel
theorem dX0_copyTo_25 : decode cX0_copyTo 25 = .ok (.iastore, 1) := by decide +kernel
theorem dX0_copyTo_26 : decode cX0_copyTo 26 = .ok (.iinc 2 1, 3) := by decide +kernel
theorem dX0_copyTo_29 : decode cX0_copyTo 29 = .ok (.goto (-27), 3) := by decide +kernel
theorem dX0_copyTo_32 : decode cX0_copyTo 32 = .ok (.return_, 1) := by decide +kernel
theorem dX0_takes_0 : decode cX0_takes 0 = .ok (.iload_n 1, 1) := by decide +kernel
theorem dX0_takes_1 : decode cX0_takes 1 = .ok (.invokestatic 41, 3) := by decide +kernel
theorem dX0_takes_4 : decode cX0_takes 4 = .ok (.ifCond .eq 30, 3) := by decide +kernel
theorem dX0_takes_7 : decode cX0_takes 7 = .ok (.aload_n 0, 1) := by decide +kernel
theorem dX0_takes_8 : decode cX0_takes 8 = .ok (.getfield 24, 3) := by decide +kernel
theorem dX0_takes_11 : decode cX0_takes 11 = .ok (.ifCond .ne 14, 3) := by decide +kernel
theorem dX0_takes_14 : decode cX0_takes 14 = .ok (.aload_n 0, 1) := by decide +kernel
theorem dX0_takes_15 : decode cX0_takes 15 = .ok (.iload_n 1, 1) := by decide +kernel
theorem dX0_takes_16 : decode cX0_takes 16 = .ok (.bipush 48, 2) := by decide +kernel
theorem dX0_takes_18 : decode cX0_takes 18 = .ok (.isub, 1) := by decide +kernel
theorem dX0_takes_19 : decode cX0_takes 19 = .ok (.invokevirtual 45, 3) := by decide +kernel
theorem dX0_takes_22 : decode cX0_takes 22 = .ok (.goto 11, 3) := by decide +kernel
theorem dX0_takes_25 : decode cX0_takes 25 = .ok (.aload_n 0, 1) := by decide +kernel
theorem dX0_takes_26 : decode cX0_takes 26 = .ok (.iload_n 1, 1) := by decide +kernel
theorem dX0_takes_27 : decode cX0_takes 27 = .ok (.bipush 48, 2) := by decide +kernel
theorem dX0_takes_29 : decode cX0_takes 29 = .ok (.isub, 1) := by decide +kernel
theorem dX0_takes_30 : decode cX0_takes 30 = .ok (.invokevirtual 48, 3) := by decide +kernel
theorem dX0_takes_33 : decode cX0_takes 33 = .ok (.ireturn, 1) := by decide +kernel
theorem dX0_takes_34 : decode cX0_takes 34 = .ok (.aload_n 0, 1) := by decide +kernel
theorem dX0_takes_35 : decode cX0_takes 35 = .ok (.getfield 24, 3) := by decide +kernel
theorem dX0_takes_38 : decode cX0_takes 38 = .ok (.ifCond .le 7, 3) := by decide +kernel
theorem dX0_takes_41 : decode cX0_takes 41 = .ok (.iconst 1, 1) := by decide +kernel
theorem dX0_takes_42 : decode cX0_takes 42 = .ok (.goto 4, 3) := by decide +kernel
theorem dX0_takes_45 : decode cX0_takes 45 = .ok (.iconst 0, 1) := by decide +kernel
theorem dX0_takes_46 : decode cX0_takes 46 = .ok (.istore_n 3, 1) := by decide +kernel
theorem dX0_takes_47 : decode cX0_takes 47 = .ok (.aload_n 0, 1) := by decide +kernel
theorem dX0_takes_48 : decode cX0_takes 48 = .ok (.iconst 0, 1) := by decide +kernel
theorem dX0_takes_49 : decode cX0_takes 49 = .ok (.putfield 24, 3) := by decide +kernel
theorem dX0_takes_52 : decode cX0_takes 52 = .ok (.iload_n 1, 1) := by decide +kernel
theorem dX0_takes_53 : decode cX0_takes 53 = .ok (.bipush 32, 2) := by decide +kernel
theorem dX0_takes_55 : decode cX0_takes 55 = .ok (.if_icmp .ne 20, 3) := by decide +kernel
theorem dX0_takes_58 : decode cX0_takes 58 = .ok (.iload_n 3, 1) := by decide +kernel
theorem dX0_takes_59 : decode cX0_takes 59 = .ok (.ifCond .eq 14, 3) := by decide +kernel
theorem dX0_takes_62 : decode cX0_takes 62 = .ok (.iload_n 2, 1) := by decide +kernel
theorem dX0_takes_63 : decode cX0_takes 63 = .ok (.invokestatic 41, 3) := by decide +kernel
theorem dX0_takes_66 : decode cX0_takes 66 = .ok (.ifCond .eq 7, 3) := by decide +kernel
theorem dX0_takes_69 : decode cX0_takes 69 = .ok (.iconst 1, 1) := by decide +kernel
theorem dX0_takes_70 : decode cX0_takes 70 = .ok (.goto 4, 3) := by decide +kernel
theorem dX0_takes_73 : decode cX0_takes 73 = .ok (.iconst 0, 1) := by decide +kernel
theorem dX0_takes_74 : decode cX0_takes 74 = .ok (.ireturn, 1) := by decide +kernel
theorem dX0_takes_75 : decode cX0_takes 75 = .ok (.iload_n 1, 1) := by decide +kernel
theorem dX0_takes_76 : decode cX0_takes 76 = .ok (.bipush 96, 2) := by decide +kernel
theorem dX0_takes_78 : decode cX0_takes 78 = .ok (.if_icmp .le 24, 3) := by decide +kernel
theorem dX0_takes_81 : decode cX0_takes 81 = .ok (.iload_n 1, 1) := by decide +kernel
theorem dX0_takes_82 : decode cX0_takes 82 = .ok (.bipush 122, 2) := by decide +kernel
theorem dX0_takes_84 : decode cX0_takes 84 = .ok (.if_icmp .gt 18, 3) := by decide +kernel
theorem dX0_takes_87 : decode cX0_takes 87 = .ok (.aload_n 0, 1) := by decide +kernel
theorem dX0_takes_88 : decode cX0_takes 88 = .ok (.iload_n 1, 1) := by decide +kernel
theorem dX0_takes_89 : decode cX0_takes 89 = .ok (.bipush 96, 2) := by decide +kernel
theorem dX0_takes_91 : decode cX0_takes 91 = .ok (.isub, 1) := by decide +kernel
theorem dX0_takes_92 : decode cX0_takes 92 = .ok (.invokevirtual 51, 3) := by decide +kernel
theorem dX0_takes_95 : decode cX0_takes 95 = .ok (.ifCond .eq 7, 3) := by decide +kernel
theorem dX0_takes_98 : decode cX0_takes 98 = .ok (.iconst 1, 1) := by decide +kernel
theorem dX0_takes_99 : decode cX0_takes 99 = .ok (.goto 4, 3) := by decide +kernel
theorem dX0_takes_102 : decode cX0_takes 102 = .ok (.iconst 0, 1) := by decide +kernel
theorem dX0_takes_103 : decode cX0_takes 103 = .ok (.ireturn, 1) := by decide +kernel
theorem dX0_beginsNumber_0 : decode cX0_beginsNumber 0 = .ok (.iload_n 1, 1) := by decide +kernel
theorem dX0_beginsNumber_1 : decode cX0_beginsNumber 1 = .ok (.ifCond .eq 22, 3) := by decide +kernel
theorem dX0_beginsNumber_4 : decode cX0_beginsNumber 4 = .ok (.aload_n 0, 1) := by decide +kernel
theorem dX0_beginsNumber_5 : decode cX0_beginsNumber 5 = .ok (.getfield 21, 3) := by decide +kernel
theorem dX0_beginsNumber_8 : decode cX0_beginsNumber 8 = .ok (.ifCond .lt 15, 3) := by decide +kernel
theorem dX0_beginsNumber_11 : decode cX0_beginsNumber 11 = .ok (.aload_n 0, 1) := by decide +kernel
theorem dX0_beginsNumber_12 : decode cX0_beginsNumber 12 = .ok (.getfield 21, 3) := by decide +kernel
theorem dX0_beginsNumber_15 : decode cX0_beginsNumber 15 = .ok (.aload_n 0, 1) := by decide +kernel
theorem dX0_beginsNumber_16 : decode cX0_beginsNumber 16 = .ok (.getfield 15, 3) := by decide +kernel
theorem dX0_beginsNumber_19 : decode cX0_beginsNumber 19 = .ok (.arraylength, 1) := by decide +kernel
theorem dX0_beginsNumber_20 : decode cX0_beginsNumber 20 = .ok (.if_icmp .lt 5, 3) := by decide +kernel
theorem dX0_beginsNumber_23 : decode cX0_beginsNumber 23 = .ok (.iconst 0, 1) := by decide +kernel
theorem dX0_beginsNumber_24 : decode cX0_beginsNumber 24 = .ok (.ireturn, 1) := by decide +kernel
theorem dX0_beginsNumber_25 : decode cX0_beginsNumber 25 = .ok (.aload_n 0, 1) := by decide +kernel
theorem dX0_beginsNumber_26 : decode cX0_beginsNumber 26 = .ok (.getfield 15, 3) := by decide +kernel
theorem dX0_beginsNumber_29 : decode cX0_beginsNumber 29 = .ok (.aload_n 0, 1) := by decide +kernel
theorem dX0_beginsNumber_30 : decode cX0_beginsNumber 30 = .ok (.getfield 21, 3) := by decide +kernel
theorem dX0_beginsNumber_33 : decode cX0_beginsNumber 33 = .ok (.iload_n 1, 1) := by decide +kernel
theorem dX0_beginsNumber_34 : decode cX0_beginsNumber 34 = .ok (.iastore, 1) := by decide +kernel
theorem dX0_beginsNumber_35 : decode cX0_beginsNumber 35 = .ok (.aload_n 0, 1) := by decide +kernel
theorem dX0_beginsNumber_36 : decode cX0_beginsNumber 36 = .ok (.dup, 1) := by decide +kernel
theorem dX0_beginsNumber_37 : decode cX0_beginsNumber 37 = .ok (.getfield 21, 3) := by decide +kernel
theorem dX0_beginsNumber_40 : decode cX0_beginsNumber 40 = .ok (.iconst 1, 1) := by decide +kernel
theorem dX0_beginsNumber_41 : decode cX0_beginsNumber 41 = .ok (.iadd, 1) := by decide +kernel
theorem dX0_beginsNumber_42 : decode cX0_beginsNumber 42 = .ok (.putfield 21, 3) := by decide +kernel
theorem dX0_beginsNumber_45 : decode cX0_beginsNumber 45 = .ok (.aload_n 0, 1) := by decide +kernel
theorem dX0_beginsNumber_46 : decode cX0_beginsNumber 46 = .ok (.iconst 1, 1) := by decide +kernel
theorem dX0_beginsNumber_47 : decode cX0_beginsNumber 47 = .ok (.putfield 24, 3) := by decide +kernel
theorem dX0_beginsNumber_50 : decode cX0_beginsNumber 50 = .ok (.iconst 1, 1) := by decide +kernel
theorem dX0_beginsNumber_51 : decode cX0_beginsNumber 51 = .ok (.ireturn, 1) := by decide +kernel
theorem dX0_endsNumber_0 : decode cX0_endsNumber 0 = .ok (.aload_n 0, 1) := by decide +kernel
theorem dX0_endsNumber_1 : decode cX0_endsNumber 1 = .ok (.getfield 21, 3) := by decide +kernel
theorem dX0_endsNumber_4 : decode cX0_endsNumber 4 = .ok (.iconst 1, 1) := by decide +kernel
theorem dX0_endsNumber_5 : decode cX0_endsNumber 5 = .ok (.isub, 1) := by decide +kernel
theorem dX0_endsNumber_6 : decode cX0_endsNumber 6 = .ok (.istore_n 2, 1) := by decide +kernel
theorem dX0_endsNumber_7 : decode cX0_endsNumber 7 = .ok (.aload_n 0, 1) := by decide +kernel
theorem dX0_endsNumber_8 : decode cX0_endsNumber 8 = .ok (.getfield 24, 3) := by decide +kernel
theorem dX0_endsNumber_11 : decode cX0_endsNumber 11 = .ok (.iconst 1, 1) := by decide +kernel
theorem dX0_endsNumber_12 : decode cX0_endsNumber 12 = .ok (.if_icmp .ne 16, 3) := by decide +kernel
theorem dX0_endsNumber_15 : decode cX0_endsNumber 15 = .ok (.iload_n 2, 1) := by decide +kernel
theorem dX0_endsNumber_16 : decode cX0_endsNumber 16 = .ok (.ifCond .lt 12, 3) := by decide +kernel
theorem dX0_endsNumber_19 : decode cX0_endsNumber 19 = .ok (.iload_n 2, 1) := by decide +kernel
theorem dX0_endsNumber_20 : decode cX0_endsNumber 20 = .ok (.aload_n 0, 1) := by decide +kernel
theorem dX0_endsNumber_21 : decode cX0_endsNumber 21 = .ok (.getfield 15, 3) := by decide +kernel
theorem dX0_endsNumber_24 : decode cX0_endsNumber 24 = .ok (.arraylength, 1) := by decide +kernel
theorem dX0_endsNumber_25 : decode cX0_endsNumber 25 = .ok (.if_icmp .lt 5, 3) := by decide +kernel
theorem dX0_endsNumber_28 : decode cX0_endsNumber 28 = .ok (.iconst 0, 1) := by decide +kernel
theorem dX0_endsNumber_29 : decode cX0_endsNumber 29 = .ok (.ireturn, 1) := by decide +kernel
theorem dX0_endsNumber_30 : decode cX0_endsNumber 30 = .ok (.aload_n 0, 1) := by decide +kernel
theorem dX0_endsNumber_31 : decode cX0_endsNumber 31 = .ok (.getfield 15, 3) := by decide +kernel
theorem dX0_endsNumber_34 : decode cX0_endsNumber 34 = .ok (.iload_n 2, 1) := by decide +kernel
theorem dX0_endsNumber_35 : decode cX0_endsNumber 35 = .ok (.bipush 10, 2) := by decide +kernel
theorem dX0_endsNumber_37 : decode cX0_endsNumber 37 = .ok (.aload_n 0, 1) := by decide +kernel
theorem dX0_endsNumber_38 : decode cX0_endsNumber 38 = .ok (.getfield 15, 3) := by decide +kernel
theorem dX0_endsNumber_41 : decode cX0_endsNumber 41 = .ok (.iload_n 2, 1) := by decide +kernel
theorem dX0_endsNumber_42 : decode cX0_endsNumber 42 = .ok (.iaload, 1) := by decide +kernel
theorem dX0_endsNumber_43 : decode cX0_endsNumber 43 = .ok (.imul, 1) := by decide +kernel
theorem dX0_endsNumber_44 : decode cX0_endsNumber 44 = .ok (.iload_n 1, 1) := by decide +kernel
theorem dX0_endsNumber_45 : decode cX0_endsNumber 45 = .ok (.iadd, 1) := by decide +kernel
theorem dX0_endsNumber_46 : decode cX0_endsNumber 46 = .ok (.iastore, 1) := by decide +kernel
theorem dX0_endsNumber_47 : decode cX0_endsNumber 47 = .ok (.aload_n 0, 1) := by decide +kernel
theorem dX0_endsNumber_48 : decode cX0_endsNumber 48 = .ok (.iconst 2, 1) := by decide +kernel
theorem dX0_endsNumber_49 : decode cX0_endsNumber 49 = .ok (.putfield 24, 3) := by decide +kernel
theorem dX0_endsNumber_52 : decode cX0_endsNumber 52 = .ok (.iconst 1, 1) := by decide +kernel
theorem dX0_endsNumber_53 : decode cX0_endsNumber 53 = .ok (.ireturn, 1) := by decide +kernel
theorem dX0_leavesEmpty_0 : decode cX0_leavesEmpty 0 = .ok (.aload_n 0, 1) := by decide +kernel
theorem dX0_leavesEmpty_1 : decode cX0_leavesEmpty 1 = .ok (.getfield 21, 3) := by decide +kernel
theorem dX0_leavesEmpty_4 : decode cX0_leavesEmpty 4 = .ok (.ifCond .lt 17, 3) := by decide +kernel
theorem dX0_leavesEmpty_7 : decode cX0_leavesEmpty 7 = .ok (.iload_n 1, 1) := by decide +kernel
theorem dX0_leavesEmpty_8 : decode cX0_leavesEmpty 8 = .ok (.aload_n 0, 1) := by decide +kernel
theorem dX0_leavesEmpty_9 : decode cX0_leavesEmpty 9 = .ok (.getfield 15, 3) := by decide +kernel
theorem dX0_leavesEmpty_12 : decode cX0_leavesEmpty 12 = .ok (.arraylength, 1) := by decide +kernel
theorem dX0_leavesEmpty_13 : decode cX0_leavesEmpty 13 = .ok (.aload_n 0, 1) := by decide +kernel
theorem dX0_leavesEmpty_14 : decode cX0_leavesEmpty 14 = .ok (.getfield 21, 3) := by decide +kernel
theorem dX0_leavesEmpty_17 : decode cX0_leavesEmpty 17 = .ok (.isub, 1) := by decide +kernel
theorem dX0_leavesEmpty_18 : decode cX0_leavesEmpty 18 = .ok (.if_icmp .le 5, 3) := by decide +kernel
theorem dX0_leavesEmpty_21 : decode cX0_leavesEmpty 21 = .ok (.iconst 0, 1) := by decide +kernel
theorem dX0_leavesEmpty_22 : decode cX0_leavesEmpty 22 = .ok (.ireturn, 1) := by decide +kernel
theorem dX0_leavesEmpty_23 : decode cX0_leavesEmpty 23 = .ok (.iconst 0, 1) := by decide +kernel
theorem dX0_leavesEmpty_24 : decode cX0_leavesEmpty 24 = .ok (.istore_n 2, 1) := by decide +kernel
theorem dX0_leavesEmpty_25 : decode cX0_leavesEmpty 25 = .ok (.iload_n 2, 1) := by decide +kernel
theorem dX0_leavesEmpty_26 : decode cX0_leavesEmpty 26 = .ok (.iload_n 1, 1) := by decide +kernel
theorem dX0_leavesEmpty_27 : decode cX0_leavesEmpty 27 = .ok (.if_icmp .ge 29, 3) := by decide +kernel
theorem dX0_leavesEmpty_30 : decode cX0_leavesEmpty 30 = .ok (.aload_n 0, 1) := by decide +kernel
theorem dX0_leavesEmpty_31 : decode cX0_leavesEmpty 31 = .ok (.getfield 15, 3) := by decide +kernel
theorem dX0_leavesEmpty_34 : decode cX0_leavesEmpty 34 = .ok (.aload_n 0, 1) := by decide +kernel
theorem dX0_leavesEmpty_35 : decode cX0_leavesEmpty 35 = .ok (.getfield 21, 3) := by decide +kernel
theorem dX0_leavesEmpty_38 : decode cX0_leavesEmpty 38 = .ok (.iconst 0, 1) := by decide +kernel
theorem dX0_leavesEmpty_39 : decode cX0_leavesEmpty 39 = .ok (.iastore, 1) := by decide +kernel
theorem dX0_leavesEmpty_40 : decode cX0_leavesEmpty 40 = .ok (.aload_n 0, 1) := by decide +kernel
theorem dX0_leavesEmpty_41 : decode cX0_leavesEmpty 41 = .ok (.dup, 1) := by decide +kernel
theorem dX0_leavesEmpty_42 : decode cX0_leavesEmpty 42 = .ok (.getfield 21, 3) := by decide +kernel
theorem dX0_leavesEmpty_45 : decode cX0_leavesEmpty 45 = .ok (.iconst 1, 1) := by decide +kernel
theorem dX0_leavesEmpty_46 : decode cX0_leavesEmpty 46 = .ok (.iadd, 1) := by decide +kernel
theorem dX0_leavesEmpty_47 : decode cX0_leavesEmpty 47 = .ok (.putfield 21, 3) := by decide +kernel
theorem dX0_leavesEmpty_50 : decode cX0_leavesEmpty 50 = .ok (.iinc 2 1, 3) := by decide +kernel
theorem dX0_leavesEmpty_53 : decode cX0_leavesEmpty 53 = .ok (.goto (-28), 3) := by decide +kernel
theorem dX0_leavesEmpty_56 : decode cX0_leavesEmpty 56 = .ok (.iconst 1, 1) := by decide +kernel
theorem dX0_leavesEmpty_57 : decode cX0_leavesEmpty 57 = .ok (.ireturn, 1) := by decide +kernel
theorem dX1_init_0 : decode cX1_init 0 = .ok (.aload_n 0, 1) := by decide +kernel
theorem dX1_init_1 : decode cX1_init 1 = .ok (.invokespecial 3, 3) := by decide +kernel
theorem dX1_init_4 : decode cX1_init 4 = .ok (.aload_n 0, 1) := by decide +kernel
theorem dX1_init_5 : decode cX1_init 5 = .ok (.iload_n 1, 1) := by decide +kernel
theorem dX1_init_6 : decode cX1_init 6 = .ok (.iconst 0, 1) := by decide +kernel
theorem dX1_init_7 : decode cX1_init 7 = .ok (.iconst 4, 1) := by decide +kernel
theorem dX1_init_8 : decode cX1_init 8 = .ok (.invokestatic 9, 3) := by decide +kernel
theorem dX1_init_11 : decode cX1_init 11 = .ok (.putfield 13, 3) := by decide +kernel
theorem dX1_init_14 : decode cX1_init 14 = .ok (.aload_n 0, 1) := by decide +kernel
theorem dX1_init_15 : decode cX1_init 15 = .ok (.iload_n 2, 1) := by decide +kernel
theorem dX1_init_16 : decode cX1_init 16 = .ok (.iconst 1, 1) := by decide +kernel
theorem dX1_init_17 : decode cX1_init 17 = .ok (.bipush 16, 2) := by decide +kernel
theorem dX1_init_19 : decode cX1_init 19 = .ok (.invokestatic 9, 3) := by decide +kernel
theorem dX1_init_22 : decode cX1_init 22 = .ok (.putfield 19, 3) := by decide +kernel
theorem dX1_init_25 : decode cX1_init 25 = .ok (.aload_n 0, 1) := by decide +kernel
theorem dX1_init_26 : decode cX1_init 26 = .ok (.aload_n 0, 1) := by decide +kernel
theorem dX1_init_27 : decode cX1_init 27 = .ok (.getfield 13, 3) := by decide +kernel
theorem dX1_init_30 : decode cX1_init 30 = .ok (.iconst 4, 1) := by decide +kernel
theorem dX1_init_31 : decode cX1_init 31 = .ok (.if_icmp .ne 7, 3) := by decide +kernel
theorem dX1_init_34 : decode cX1_init 34 = .ok (.iconst 1, 1) := by decide +kernel
theorem dX1_init_35 : decode cX1_init 35 = .ok (.goto 10, 3) := by decide +kernel
theorem dX1_init_38 : decode cX1_init 38 = .ok (.iload_n 3, 1) := by decide +kernel
theorem dX1_init_39 : decode cX1_init 39 = .ok (.iconst 1, 1) := by decide +kernel
theorem dX1_init_40 : decode cX1_init 40 = .ok (.bipush 16, 2) := by decide +kernel
theorem dX1_init_42 : decode cX1_init 42 = .ok (.invokestatic 9, 3) := by decide +kernel
theorem dX1_init_45 : decode cX1_init 45 = .ok (.putfield 22, 3) := by decide +kernel
theorem dX1_init_48 : decode cX1_init 48 = .ok (.aload_n 0, 1) := by decide +kernel
theorem dX1_init_49 : decode cX1_init 49 = .ok (.aload_n 0, 1) := by decide +kernel
theorem dX1_init_50 : decode cX1_init 50 = .ok (.getfield 19, 3) := by decide +kernel
theorem dX1_init_53 : decode cX1_init 53 = .ok (.aload_n 0, 1) := by decide +kernel
theorem dX1_init_54 : decode cX1_init 54 = .ok (.getfield 22, 3) := by decide +kernel
theorem dX1_init_57 : decode cX1_init 57 = .ok (.imul, 1) := by decide +kernel
theorem dX1_init_58 : decode cX1_init 58 = .ok (.putfield 25, 3) := by decide +kernel
theorem dX1_init_61 : decode cX1_init 61 = .ok (.aload_n 0, 1) := by decide +kernel
theorem dX1_init_62 : decode cX1_init 62 = .ok (.aload_n 0, 1) := by decide +kernel
theorem dX1_init_63 : decode cX1_init 63 = .ok (.getfield 25, 3) := by decide +kernel
theorem dX1_init_66 : decode cX1_init 66 = .ok (.newarray .int, 2) := by decide +kernel
theorem dX1_init_68 : decode cX1_init 68 = .ok (.putfield 28, 3) := by decide +kernel
theorem dX1_init_71 : decode cX1_init 71 = .ok (.aload_n 0, 1) := by decide +kernel
theorem dX1_init_72 : decode cX1_init 72 = .ok (.aload_n 0, 1) := by decide +kernel
theorem dX1_init_73 : decode cX1_init 73 = .ok (.getfield 25, 3) := by decide +kernel
theorem dX1_init_76 : decode cX1_init 76 = .ok (.newarray .int, 2) := by decide +kernel
theorem dX1_init_78 : decode cX1_init 78 = .ok (.putfield 32, 3) := by decide +kernel
theorem dX1_init_81 : decode cX1_init 81 = .ok (.iconst 0, 1) := by decide +kernel
theorem dX1_init_82 : decode cX1_init 82 = .ok (.istore 4, 2) := by decide +kernel
theorem dX1_init_84 : decode cX1_init 84 = .ok (.iload 4, 2) := by decide +kernel
theorem dX1_init_86 : decode cX1_init 86 = .ok (.aload_n 0, 1) := by decide +kernel
theorem dX1_init_87 : decode cX1_init 87 = .ok (.getfield 22, 3) := by decide +kernel
theorem dX1_init_90 : decode cX1_init 90 = .ok (.if_icmp .ge 61, 3) := by decide +kernel
theorem dX1_init_93 : decode cX1_init 93 = .ok (.iconst 0, 1) := by decide +kernel
theorem dX1_init_94 : decode cX1_init 94 = .ok (.istore 5, 2) := by decide +kernel
theorem dX1_init_96 : decode cX1_init 96 = .ok (.iload 5, 2) := by decide +kernel
theorem dX1_init_98 : decode cX1_init 98 = .ok (.aload_n 0, 1) := by decide +kernel
theorem dX1_init_99 : decode cX1_init 99 = .ok (.getfield 19, 3) := by decide +kernel
theorem dX1_init_102 : decode cX1_init 102 = .ok (.if_icmp .ge 43, 3) := by decide +kernel
theorem dX1_init_105 : decode cX1_init 105 = .ok (.aload_n 0, 1) := by decide +kernel
theorem dX1_init_106 : decode cX1_init 106 = .ok (.getfield 28, 3) := by decide +kernel
theorem dX1_init_109 : decode cX1_init 109 = .ok (.aload_n 0, 1) := by decide +kernel
theorem dX1_init_110 : decode cX1_init 110 = .ok (.getfield 19, 3) := by decide +kernel
theorem dX1_init_113 : decode cX1_init 113 = .ok (.iload 4, 2) := by decide +kernel
theorem dX1_init_115 : decode cX1_init 115 = .ok (.imul, 1) := by decide +kernel
theorem dX1_init_116 : decode cX1_init 116 = .ok (.iload 5, 2) := by decide +kernel
theorem dX1_init_118 : decode cX1_init 118 = .ok (.iadd, 1) := by decide +kernel
theorem dX1_init_119 : decode cX1_init 119 = .ok (.iload 5, 2) := by decide +kernel
theorem dX1_init_121 : decode cX1_init 121 = .ok (.iastore, 1) := by decide +kernel
theorem dX1_init_122 : decode cX1_init 122 = .ok (.aload_n 0, 1) := by decide +kernel
theorem dX1_init_123 : decode cX1_init 123 = .ok (.getfield 32, 3) := by decide +kernel
theorem dX1_init_126 : decode cX1_init 126 = .ok (.aload_n 0, 1) := by decide +kernel
theorem dX1_init_127 : decode cX1_init 127 = .ok (.getfield 19, 3) := by decide +kernel
theorem dX1_init_130 : decode cX1_init 130 = .ok (.iload 4, 2) := by decide +kernel
theorem dX1_init_132 : decode cX1_init 132 = .ok (.imul, 1) := by decide +kernel
theorem dX1_init_133 : decode cX1_init 133 = .ok (.iload 5, 2) := by decide +kernel
theorem dX1_init_135 : decode cX1_init 135 = .ok (.iadd, 1) := by decide +kernel
theorem dX1_init_136 : decode cX1_init 136 = .ok (.iload 4, 2) := by decide +kernel
theorem dX1_init_138 : decode cX1_init 138 = .ok (.iastore, 1) := by decide +kernel
theorem dX1_init_139 : decode cX1_init 139 = .ok (.iinc 5 1, 3) := by decide +kernel
theorem dX1_init_142 : decode cX1_init 142 = .ok (.goto (-46), 3) := by decide +kernel
theorem dX1_init_145 : decode cX1_init 145 = .ok (.iinc 4 1, 3) := by decide +kernel
theorem dX1_init_148 : decode cX1_init 148 = .ok (.goto (-64), 3) := by decide +kernel
theorem dX1_init_151 : decode cX1_init 151 = .ok (.return_, 1) := by decide +kernel
theorem dX1_has_0 : decode cX1_has 0 = .ok (.iload_n 1, 1) := by decide +kernel
theorem dX1_has_1 : decode cX1_has 1 = .ok (.ifCond .lt 15, 3) := by decide +kernel
theorem dX1_has_4 : decode cX1_has 4 = .ok (.iload_n 1, 1) := by decide +kernel
theorem dX1_has_5 : decode cX1_has 5 = .ok (.aload_n 0, 1) := by decide +kernel
theorem dX1_has_6 : decode cX1_has 6 = .ok (.getfield 25, 3) := by decide +kernel
theorem dX1_has_9 : decode cX1_has 9 = .ok (.if_icmp .ge 7, 3) := by decide +kernel
theorem dX1_has_12 : decode cX1_has 12 = .ok (.iconst 1, 1) := by decide +kernel
theorem dX1_has_13 : decode cX1_has 13 = .ok (.goto 4, 3) := by decide +kernel
theorem dX1_has_16 : decode cX1_has 16 = .ok (.iconst 0, 1) := by decide +kernel
theorem dX1_has_17 : decode cX1_has 17 = .ok (.ireturn, 1) := by decide +kernel
theorem dX1_columnOf_0 : decode cX1_columnOf 0 = .ok (.aload_n 0, 1) := by decide +kernel
theorem dX1_columnOf_1 : decode cX1_columnOf 1 = .ok (.iload_n 1, 1) := by decide +kernel
theorem dX1_columnOf_2 : decode cX1_columnOf 2 = .ok (.invokevirtual 35, 3) := by decide +kernel
theorem dX1_columnOf_5 : decode cX1_columnOf 5 = .ok (.ifCond .eq 12, 3) := by decide +kernel
theorem dX1_columnOf_8 : decode cX1_columnOf 8 = .ok (.aload_n 0, 1) := by decide +kernel
theorem dX1_columnOf_9 : decode cX1_columnOf 9 = .ok (.getfield 28, 3) := by decide +kernel
theorem dX1_columnOf_12 : decode cX1_columnOf 12 = .ok (.iload_n 1, 1) := by decide +kernel
theorem dX1_columnOf_13 : decode cX1_columnOf 13 = .ok (.iaload, 1) := by decide +kernel
theorem dX1_columnOf_14 : decode cX1_columnOf 14 = .ok (.goto 4, 3) := by decide +kernel
theorem dX1_columnOf_17 : decode cX1_columnOf 17 = .ok (.iconst (-1), 1) := by decide +kernel
theorem dX1_columnOf_18 : decode cX1_columnOf 18 = .ok (.ireturn, 1) := by decide +kernel
theorem dX1_rowOf_0 : decode cX1_rowOf 0 = .ok (.aload_n 0, 1) := by decide +kernel
theorem dX1_rowOf_1 : decode cX1_rowOf 1 = .ok (.iload_n 1, 1) := by decide +kernel
theorem dX1_rowOf_2 : decode cX1_rowOf 2 = .ok (.invokevirtual 35, 3) := by decide +kernel
theorem dX1_rowOf_5 : decode cX1_rowOf 5 = .ok (.ifCond .eq 12, 3) := by decide +kernel
theorem dX1_rowOf_8 : decode cX1_rowOf 8 = .ok (.aload_n 0, 1) := by decide +kernel
theorem dX1_rowOf_9 : decode cX1_rowOf 9 = .ok (.getfield 32, 3) := by decide +kernel
theorem dX1_rowOf_12 : decode cX1_rowOf 12 = .ok (.iload_n 1, 1) := by decide +kernel
theorem dX1_rowOf_13 : decode cX1_rowOf 13 = .ok (.iaload, 1) := by decide +kernel
theorem dX1_rowOf_14 : decode cX1_rowOf 14 = .ok (.goto 4, 3) := by decide +kernel
theorem dX1_rowOf_17 : decode cX1_rowOf 17 = .ok (.iconst (-1), 1) := by decide +kernel
theorem dX1_rowOf_18 : decode cX1_rowOf 18 = .ok (.ireturn, 1) := by decide +kernel
theorem dX1_placeAt_0 : decode cX1_placeAt 0 = .ok (.iload_n 1, 1) := by decide +kernel
theorem dX1_placeAt_1 : decode cX1_placeAt 1 = .ok (.ifCond .lt 27, 3) := by decide +kernel
theorem dX1_placeAt_4 : decode cX1_placeAt 4 = .ok (.iload_n 1, 1) := by decide +kernel
theorem dX1_placeAt_5 : decode cX1_placeAt 5 = .ok (.aload_n 0, 1) := by decide +kernel
theorem dX1_placeAt_6 : decode cX1_placeAt 6 = .ok (.getfield 19, 3) := by decide +kernel
theorem dX1_placeAt_9 : decode cX1_placeAt 9 = .ok (.if_icmp .ge 19, 3) := by decide +kernel
theorem dX1_placeAt_12 : decode cX1_placeAt 12 = .ok (.iload_n 2, 1) := by decide +kernel
theorem dX1_placeAt_13 : decode cX1_placeAt 13 = .ok (.ifCond .lt 15, 3) := by decide +kernel
theorem dX1_placeAt_16 : decode cX1_placeAt 16 = .ok (.iload_n 2, 1) := by decide +kernel
theorem dX1_placeAt_17 : decode cX1_placeAt 17 = .ok (.aload_n 0, 1) := by decide +kernel
theorem dX1_placeAt_18 : decode cX1_placeAt 18 = .ok (.getfield 22, 3) := by decide +kernel
theorem dX1_placeAt_21 : decode cX1_placeAt 21 = .ok (.if_icmp .ge 7, 3) := by decide +kernel
theorem dX1_placeAt_24 : decode cX1_placeAt 24 = .ok (.iconst 1, 1) := by decide +kernel
theorem dX1_placeAt_25 : decode cX1_placeAt 25 = .ok (.goto 4, 3) := by decide +kernel
theorem dX1_placeAt_28 : decode cX1_placeAt 28 = .ok (.iconst 0, 1) := by decide +kernel
theorem dX1_placeAt_29 : decode cX1_placeAt 29 = .ok (.istore_n 3, 1) := by decide +kernel
theorem dX1_placeAt_30 : decode cX1_placeAt 30 = .ok (.iload_n 3, 1) := by decide +kernel
theorem dX1_placeAt_31 : decode cX1_placeAt 31 = .ok (.ifCond .eq 14, 3) := by decide +kernel
theorem dX1_placeAt_34 : decode cX1_placeAt 34 = .ok (.aload_n 0, 1) := by decide +kernel
theorem dX1_placeAt_35 : decode cX1_placeAt 35 = .ok (.getfield 19, 3) := by decide +kernel
theorem dX1_placeAt_38 : decode cX1_placeAt 38 = .ok (.iload_n 2, 1) := by decide +kernel
theorem dX1_placeAt_39 : decode cX1_placeAt 39 = .ok (.imul, 1) := by decide +kernel
theorem dX1_placeAt_40 : decode cX1_placeAt 40 = .ok (.iload_n 1, 1) := by decide +kernel
theorem dX1_placeAt_41 : decode cX1_placeAt 41 = .ok (.iadd, 1) := by decide +kernel
theorem dX1_placeAt_42 : decode cX1_placeAt 42 = .ok (.goto 4, 3) := by decide +kernel
theorem dX1_placeAt_45 : decode cX1_placeAt 45 = .ok (.iconst (-1), 1) := by decide +kernel
theorem dX1_placeAt_46 : decode cX1_placeAt 46 = .ok (.ireturn, 1) := by decide +kernel
theorem dX1_slots_0 : decode cX1_slots 0 = .ok (.aload_n 0, 1) := by decide +kernel
theorem dX1_slots_1 : decode cX1_slots 1 = .ok (.getfield 13, 3) := by decide +kernel
theorem dX1_slots_4 : decode cX1_slots 4 = .ok (.tableswitch 42 1 4 #[32, 35, 42, 37], 32) := by decide +kernel
theorem dX1_slots_36 : decode cX1_slots 36 = .ok (.bipush 6, 2) := by decide +kernel
theorem dX1_slots_38 : decode cX1_slots 38 = .ok (.ireturn, 1) := by decide +kernel
theorem dX1_slots_39 : decode cX1_slots 39 = .ok (.iconst 3, 1) := by decide +kernel
theorem dX1_slots_40 : decode cX1_slots 40 = .ok (.ireturn, 1) := by decide +kernel
theorem dX1_slots_41 : decode cX1_slots 41 = .ok (.aload_n 0, 1) := by decide +kernel
theorem dX1_slots_42 : decode cX1_slots 42 = .ok (.getfield 25, 3) := by decide +kernel
theorem dX1_slots_45 : decode cX1_slots 45 = .ok (.ireturn, 1) := by decide +kernel
theorem dX1_slots_46 : decode cX1_slots 46 = .ok (.iconst 4, 1) := by decide +kernel
theorem dX1_slots_47 : decode cX1_slots 47 = .ok (.ireturn, 1) := by decide +kernel
theorem dX1_directions_0 : decode cX1_directions 0 = .ok (.aload_n 0, 1) := by decide +kernel
theorem dX1_directions_1 : decode cX1_directions 1 = .ok (.getfield 13, 3) := by decide +kernel
theorem dX1_directions_4 : decode cX1_directions 4 = .ok (.tableswitch 39 1 4 #[32, 35, 39, 37], 32) := by decide +kernel
theorem dX1_directions_36 : decode cX1_directions 36 = .ok (.bipush 6, 2) := by decide +kernel
theorem dX1_directions_38 : decode cX1_directions 38 = .ok (.ireturn, 1) := by decide +kernel
theorem dX1_directions_39 : decode cX1_directions 39 = .ok (.iconst 2, 1) := by decide +kernel
theorem dX1_directions_40 : decode cX1_directions 40 = .ok (.ireturn, 1) := by decide +kernel
theorem dX1_directions_41 : decode cX1_directions 41 = .ok (.iconst 0, 1) := by decide +kernel
theorem dX1_directions_42 : decode cX1_directions 42 = .ok (.ireturn, 1) := by decide +kernel
theorem dX1_directions_43 : decode cX1_directions 43 = .ok (.iconst 4, 1) := by decide +kernel
theorem dX1_directions_44 : decode cX1_directions 44 = .ok (.ireturn, 1) := by decide +kernel
theorem dX1_firstBeside_0 : decode cX1_firstBeside 0 = .ok (.aload_n 0, 1) := by decide +kernel
theorem dX1_firstBeside_1 : decode cX1_firstBeside 1 = .ok (.iload_n 1, 1) := by decide +kernel
theorem dX1_firstBeside_2 : decode cX1_firstBeside 2 = .ok (.invokevirtual 39, 3) := by decide +kernel
theorem dX1_firstBeside_5 : decode cX1_firstBeside 5 = .ok (.istore_n 3, 1) := by decide +kernel
theorem dX1_firstBeside_6 : decode cX1_firstBeside 6 = .ok (.aload_n 0, 1) := by decide +kernel
theorem dX1_firstBeside_7 : decode cX1_firstBeside 7 = .ok (.iload_n 1, 1) := by decide +kernel
theorem dX1_firstBeside_8 : decode cX1_firstBeside 8 = .ok (.invokevirtual 43, 3) := by decide +kernel
theorem dX1_firstBeside_11 : decode cX1_firstBeside 11 = .ok (.istore 4, 2) := by decide +kernel
theorem dX1_firstBeside_13 : decode cX1_firstBeside 13 = .ok (.aload_n 0, 1) := by decide +kernel
theorem dX1_firstBeside_14 : decode cX1_firstBeside 14 = .ok (.getfield 13, 3) := by decide +kernel
theorem dX1_firstBeside_17 : decode cX1_firstBeside 17 = .ok (.tableswitch 67 0 3 #[31, 40, 49, 58], 31) := by decide +kernel
theorem dX1_firstBeside_48 : decode cX1_firstBeside 48 = .ok (.aload_n 0, 1) := by decide +kernel
theorem dX1_firstBeside_49 : decode cX1_firstBeside 49 = .ok (.iload_n 3, 1) := by decide +kernel
theorem dX1_firstBeside_50 : decode cX1_firstBeside 50 = .ok (.iload 4, 2) := by decide +kernel
theorem dX1_firstBeside_52 : decode cX1_firstBeside 52 = .ok (.iload_n 2, 1) := by decide +kernel
theorem dX1_firstBeside_53 : decode cX1_firstBeside 53 = .ok (.invokevirtual 46, 3) := by decide +kernel
theorem dX1_firstBeside_56 : decode cX1_firstBeside 56 = .ok (.ireturn, 1) := by decide +kernel
theorem dX1_firstBeside_57 : decode cX1_firstBeside 57 = .ok (.aload_n 0, 1) := by decide +kernel
theorem dX1_firstBeside_58 : decode cX1_firstBeside 58 = .ok (.iload_n 3, 1) := by decide +kernel
theorem dX1_firstBeside_59 : decode cX1_firstBeside 59 = .ok (.iload 4, 2) := by decide +kernel
theorem dX1_firstBeside_61 : decode cX1_firstBeside 61 = .ok (.iload_n 2, 1) := by decide +kernel
theorem dX1_firstBeside_62 : decode cX1_firstBeside 62 = .ok (.invokevirtual 49, 3) := by decide +kernel
theorem dX1_firstBeside_65 : decode cX1_firstBeside 65 = .ok (.ireturn, 1) := by decide +kernel
theorem dX1_firstBeside_66 : decode cX1_firstBeside 66 = .ok (.aload_n 0, 1) := by decide +kernel
theorem dX1_firstBeside_67 : decode cX1_firstBeside 67 = .ok (.iload_n 3, 1) := by decide +kernel
theorem dX1_firstBeside_68 : decode cX1_firstBeside 68 = .ok (.iload 4, 2) := by decide +kernel
theorem dX1_firstBeside_70 : decode cX1_firstBeside 70 = .ok (.iload_n 2, 1) := by decide +kernel
theorem dX1_firstBeside_71 : decode cX1_firstBeside 71 = .ok (.invokevirtual 52, 3) := by decide +kernel
theorem dX1_firstBeside_74 : decode cX1_firstBeside 74 = .ok (.ireturn, 1) := by decide +kernel
theorem dX1_firstBeside_75 : decode cX1_firstBeside 75 = .ok (.aload_n 0, 1) := by decide +kernel
theorem dX1_firstBeside_76 : decode cX1_firstBeside 76 = .ok (.iload_n 3, 1) := by decide +kernel
theorem dX1_firstBeside_77 : decode cX1_firstBeside 77 = .ok (.iload 4, 2) := by decide +kernel
theorem dX1_firstBeside_79 : decode cX1_firstBeside 79 = .ok (.iload_n 2, 1) := by decide +kernel
theorem dX1_firstBeside_80 : decode cX1_firstBeside 80 = .ok (.invokevirtual 55, 3) := by decide +kernel
theorem dX1_firstBeside_83 : decode cX1_firstBeside 83 = .ok (.ireturn, 1) := by decide +kernel
theorem dX1_firstBeside_84 : decode cX1_firstBeside 84 = .ok (.iconst (-1), 1) := by decide +kernel
theorem dX1_firstBeside_85 : decode cX1_firstBeside 85 = .ok (.ireturn, 1) := by decide +kernel
theorem dX1_besideInSquares_0 : decode cX1_besideInSquares 0 = .ok (.iload_n 3, 1) := by decide +kernel
theorem dX1_besideInSquares_1 : decode cX1_besideInSquares 1 = .ok (.tableswitch 67 0 3 #[31, 40, 49, 58], 31) := by decide +kernel
theorem dX1_besideInSquares_32 : decode cX1_besideInSquares 32 = .ok (.aload_n 0, 1) := by decide +kernel
theorem dX1_besideInSquares_33 : decode cX1_besideInSquares 33 = .ok (.iload_n 1, 1) := by decide +kernel
theorem dX1_besideInSquares_34 : decode cX1_besideInSquares 34 = .ok (.iload_n 2, 1) := by decide +kernel
theorem dX1_besideInSquares_35 : decode cX1_besideInSquares 35 = .ok (.iconst 1, 1) := by decide +kernel
theorem dX1_besideInSquares_36 : decode cX1_besideInSquares 36 = .ok (.isub, 1) := by decide +kernel
theorem dX1_besideInSquares_37 : decode cX1_besideInSquares 37 = .ok (.invokevirtual 58, 3) := by decide +kernel
theorem dX1_besideInSquares_40 : decode cX1_besideInSquares 40 = .ok (.ireturn, 1) := by decide +kernel
theorem dX1_besideInSquares_41 : decode cX1_besideInSquares 41 = .ok (.aload_n 0, 1) := by decide +kernel
theorem dX1_besideInSquares_42 : decode cX1_besideInSquares 42 = .ok (.iload_n 1, 1) := by decide +kernel
theorem dX1_besideInSquares_43 : decode cX1_besideInSquares 43 = .ok (.iconst 1, 1) := by decide +kernel
theorem dX1_besideInSquares_44 : decode cX1_besideInSquares 44 = .ok (.iadd, 1) := by decide +kernel
theorem dX1_besideInSquares_45 : decode cX1_besideInSquares 45 = .ok (.iload_n 2, 1) := by decide +kernel
theorem dX1_besideInSquares_46 : decode cX1_besideInSquares 46 = .ok (.invokevirtual 58, 3) := by decide +kernel
theorem dX1_besideInSquares_49 : decode cX1_besideInSquares 49 = .ok (.ireturn, 1) := by decide +kernel
theorem dX1_besideInSquares_50 : decode cX1_besideInSquares 50 = .ok (.aload_n 0, 1) := by decide +kernel
theorem dX1_besideInSquares_51 : decode cX1_besideInSquares 51 = .ok (.iload_n 1, 1) := by decide +kernel
theorem dX1_besideInSquares_52 : decode cX1_besideInSquares 52 = .ok (.iload_n 2, 1) := by decide +kernel
theorem dX1_besideInSquares_53 : decode cX1_besideInSquares 53 = .ok (.iconst 1, 1) := by decide +kernel
theorem dX1_besideInSquares_54 : decode cX1_besideInSquares 54 = .ok (.iadd, 1) := by decide +kernel
theorem dX1_besideInSquares_55 : decode cX1_besideInSquares 55 = .ok (.invokevirtual 58, 3) := by decide +kernel
theorem dX1_besideInSquares_58 : decode cX1_besideInSquares 58 = .ok (.ireturn, 1) := by decide +kernel
theorem dX1_besideInSquares_59 : decode cX1_besideInSquares 59 = .ok (.aload_n 0, 1) := by decide +kernel
theorem dX1_besideInSquares_60 : decode cX1_besideInSquares 60 = .ok (.iload_n 1, 1) := by decide +kernel
theorem dX1_besideInSquares_61 : decode cX1_besideInSquares 61 = .ok (.iconst 1, 1) := by decide +kernel
theorem dX1_besideInSquares_62 : decode cX1_besideInSquares 62 = .ok (.isub, 1) := by decide +kernel
theorem dX1_besideInSquares_63 : decode cX1_besideInSquares 63 = .ok (.iload_n 2, 1) := by decide +kernel
theorem dX1_besideInSquares_64 : decode cX1_besideInSquares 64 = .ok (.invokevirtual 58, 3) := by decide +kernel
theorem dX1_besideInSquares_67 : decode cX1_besideInSquares 67 = .ok (.ireturn, 1) := by decide +kernel
theorem dX1_besideInSquares_68 : decode cX1_besideInSquares 68 = .ok (.iconst (-1), 1) := by decide +kernel
theorem dX1_besideInSquares_69 : decode cX1_besideInSquares 69 = .ok (.ireturn, 1) := by decide +kernel
theorem dX1_besideInHexes_0 : decode cX1_besideInHexes 0 = .ok (.iload_n 2, 1) := by decide +kernel
theorem dX1_besideInHexes_1 : decode cX1_besideInHexes 1 = .ok (.iconst 1, 1) := by decide +kernel
theorem dX1_besideInHexes_2 : decode cX1_besideInHexes 2 = .ok (.iand, 1) := by decide +kernel
theorem dX1_besideInHexes_3 : decode cX1_besideInHexes 3 = .ok (.ifCond .ne 7, 3) := by decide +kernel
theorem dX1_besideInHexes_6 : decode cX1_besideInHexes 6 = .ok (.iload_n 1, 1) := by decide +kernel
theorem dX1_besideInHexes_7 : decode cX1_besideInHexes 7 = .ok (.goto 6, 3) := by decide +kernel
theorem dX1_besideInHexes_10 : decode cX1_besideInHexes 10 = .ok (.iload_n 1, 1) := by decide +kernel
theorem dX1_besideInHexes_11 : decode cX1_besideInHexes 11 = .ok (.iconst 1, 1) := by decide +kernel
theorem dX1_besideInHexes_12 : decode cX1_besideInHexes 12 = .ok (.iadd, 1) := by decide +kernel
theorem dX1_besideInHexes_13 : decode cX1_besideInHexes 13 = .ok (.istore 4, 2) := by decide +kernel
theorem dX1_besideInHexes_15 : decode cX1_besideInHexes 15 = .ok (.iload 4, 2) := by decide +kernel
theorem dX1_besideInHexes_17 : decode cX1_besideInHexes 17 = .ok (.iconst 1, 1) := by decide +kernel
theorem dX1_besideInHexes_18 : decode cX1_besideInHexes 18 = .ok (.isub, 1) := by decide +kernel
theorem dX1_besideInHexes_19 : decode cX1_besideInHexes 19 = .ok (.istore 5, 2) := by decide +kernel
theorem dX1_besideInHexes_21 : decode cX1_besideInHexes 21 = .ok (.iload_n 3, 1) := by decide +kernel
theorem dX1_besideInHexes_22 : decode cX1_besideInHexes 22 = .ok (.tableswitch 96 0 5 #[38, 48, 57, 67, 77, 86], 38) := by decide +kernel
theorem dX1_besideInHexes_60 : decode cX1_besideInHexes 60 = .ok (.aload_n 0, 1) := by decide +kernel
theorem dX1_besideInHexes_61 : decode cX1_besideInHexes 61 = .ok (.iload 4, 2) := by decide +kernel
theorem dX1_besideInHexes_63 : decode cX1_besideInHexes 63 = .ok (.iload_n 2, 1) := by decide +kernel
theorem dX1_besideInHexes_64 : decode cX1_besideInHexes 64 = .ok (.iconst 1, 1) := by decide +kernel
theorem dX1_besideInHexes_65 : decode cX1_besideInHexes 65 = .ok (.isub, 1) := by decide +kernel
theorem dX1_besideInHexes_66 : decode cX1_besideInHexes 66 = .ok (.invokevirtual 58, 3) := by decide +kernel
theorem dX1_besideInHexes_69 : decode cX1_besideInHexes 69 = .ok (.ireturn, 1) := by decide +kernel
theorem dX1_besideInHexes_70 : decode cX1_besideInHexes 70 = .ok (.aload_n 0, 1) := by decide +kernel
theorem dX1_besideInHexes_71 : decode cX1_besideInHexes 71 = .ok (.iload_n 1, 1) := by decide +kernel
theorem dX1_besideInHexes_72 : decode cX1_besideInHexes 72 = .ok (.iconst 1, 1) := by decide +kernel
theorem dX1_besideInHexes_73 : decode cX1_besideInHexes 73 = .ok (.iadd, 1) := by decide +kernel
theorem dX1_besideInHexes_74 : decode cX1_besideInHexes 74 = .ok (.iload_n 2, 1) := by decide +kernel
theorem dX1_besideInHexes_75 : decode cX1_besideInHexes 75 = .ok (.invokevirtual 58, 3) := by decide +kernel
theorem dX1_besideInHexes_78 : decode cX1_besideInHexes 78 = .ok (.ireturn, 1) := by decide +kernel
theorem dX1_besideInHexes_79 : decode cX1_besideInHexes 79 = .ok (.aload_n 0, 1) := by decide +kernel
theorem dX1_besideInHexes_80 : decode cX1_besideInHexes 80 = .ok (.iload 4, 2) := by decide +kernel
theorem dX1_besideInHexes_82 : decode cX1_besideInHexes 82 = .ok (.iload_n 2, 1) := by decide +kernel
theorem dX1_besideInHexes_83 : decode cX1_besideInHexes 83 = .ok (.iconst 1, 1) := by decide +kernel
theorem dX1_besideInHexes_84 : decode cX1_besideInHexes 84 = .ok (.iadd, 1) := by decide +kernel
theorem dX1_besideInHexes_85 : decode cX1_besideInHexes 85 = .ok (.invokevirtual 58, 3) := by decide +kernel
theorem dX1_besideInHexes_88 : decode cX1_besideInHexes 88 = .ok (.ireturn, 1) := by decide +kernel
theorem dX1_besideInHexes_89 : decode cX1_besideInHexes 89 = .ok (.aload_n 0, 1) := by decide +kernel
theorem dX1_besideInHexes_90 : decode cX1_besideInHexes 90 = .ok (.iload 5, 2) := by decide +kernel
theorem dX1_besideInHexes_92 : decode cX1_besideInHexes 92 = .ok (.iload_n 2, 1) := by decide +kernel
theorem dX1_besideInHexes_93 : decode cX1_besideInHexes 93 = .ok (.iconst 1, 1) := by decide +kernel
theorem dX1_besideInHexes_94 : decode cX1_besideInHexes 94 = .ok (.iadd, 1) := by decide +kernel
theorem dX1_besideInHexes_95 : decode cX1_besideInHexes 95 = .ok (.invokevirtual 58, 3) := by decide +kernel
theorem dX1_besideInHexes_98 : decode cX1_besideInHexes 98 = .ok (.ireturn, 1) := by decide +kernel
theorem dX1_besideInHexes_99 : decode cX1_besideInHexes 99 = .ok (.aload_n 0, 1) := by decide +kernel
theorem dX1_besideInHexes_100 : decode cX1_besideInHexes 100 = .ok (.iload_n 1, 1) := by decide +kernel
theorem dX1_besideInHexes_101 : decode cX1_besideInHexes 101 = .ok (.iconst 1, 1) := by decide +kernel
theorem dX1_besideInHexes_102 : decode cX1_besideInHexes 102 = .ok (.isub, 1) := by decide +kernel
theorem dX1_besideInHexes_103 : decode cX1_besideInHexes 103 = .ok (.iload_n 2, 1) := by decide +kernel
theorem dX1_besideInHexes_104 : decode cX1_besideInHexes 104 = .ok (.invokevirtual 58, 3) := by decide +kernel
theorem dX1_besideInHexes_107 : decode cX1_besideInHexes 107 = .ok (.ireturn, 1) := by decide +kernel
theorem dX1_besideInHexes_108 : decode cX1_besideInHexes 108 = .ok (.aload_n 0, 1) := by decide +kernel
theorem dX1_besideInHexes_109 : decode cX1_besideInHexes 109 = .ok (.iload 5, 2) := by decide +kernel
theorem dX1_besideInHexes_111 : decode cX1_besideInHexes 111 = .ok (.iload_n 2, 1) := by decide +kernel
theorem dX1_besideInHexes_112 : decode cX1_besideInHexes 112 = .ok (.iconst 1, 1) := by decide +kernel
theorem dX1_besideInHexes_113 : decode cX1_besideInHexes 113 = .ok (.isub, 1) := by decide +kernel
theorem dX1_besideInHexes_114 : decode cX1_besideInHexes 114 = .ok (.invokevirtual 58, 3) := by decide +kernel
theorem dX1_besideInHexes_117 : decode cX1_besideInHexes 117 = .ok (.ireturn, 1) := by decide +kernel
theorem dX1_besideInHexes_118 : decode cX1_besideInHexes 118 = .ok (.iconst (-1), 1) := by decide +kernel
theorem dX1_besideInHexes_119 : decode cX1_besideInHexes 119 = .ok (.ireturn, 1) := by decide +kernel
theorem dX1_besideInTriangles_0 : decode cX1_besideInTriangles 0 = .ok (.iload_n 1, 1) := by decide +kernel
theorem dX1_besideInTriangles_1 : decode cX1_besideInTriangles 1 = .ok (.iload_n 2, 1) := by decide +kernel
theorem dX1_besideInTriangles_2 : decode cX1_besideInTriangles 2 = .ok (.iadd, 1) := by decide +kernel
theorem dX1_besideInTriangles_3 : decode cX1_besideInTriangles 3 = .ok (.iconst 1, 1) := by decide +kernel
theorem dX1_besideInTriangles_4 : decode cX1_besideInTriangles 4 = .ok (.iand, 1) := by decide +kernel
theorem dX1_besideInTriangles_5 : decode cX1_besideInTriangles 5 = .ok (.ifCond .ne 7, 3) := by decide +kernel
theorem dX1_besideInTriangles_8 : decode cX1_besideInTriangles 8 = .ok (.iconst 1, 1) := by decide +kernel
theorem dX1_besideInTriangles_9 : decode cX1_besideInTriangles 9 = .ok (.goto 4, 3) := by decide +kernel
theorem dX1_besideInTriangles_12 : decode cX1_besideInTriangles 12 = .ok (.iconst 0, 1) := by decide +kernel
theorem dX1_besideInTriangles_13 : decode cX1_besideInTriangles 13 = .ok (.istore 4, 2) := by decide +kernel
theorem dX1_besideInTriangles_15 : decode cX1_besideInTriangles 15 = .ok (.iload_n 3, 1) := by decide +kernel
theorem dX1_besideInTriangles_16 : decode cX1_besideInTriangles 16 = .ok (.tableswitch 66 0 2 #[28, 37, 46], 28) := by decide +kernel
theorem dX1_besideInTriangles_44 : decode cX1_besideInTriangles 44 = .ok (.aload_n 0, 1) := by decide +kernel
theorem dX1_besideInTriangles_45 : decode cX1_besideInTriangles 45 = .ok (.iload_n 1, 1) := by decide +kernel
theorem dX1_besideInTriangles_46 : decode cX1_besideInTriangles 46 = .ok (.iconst 1, 1) := by decide +kernel
theorem dX1_besideInTriangles_47 : decode cX1_besideInTriangles 47 = .ok (.isub, 1) := by decide +kernel
theorem dX1_besideInTriangles_48 : decode cX1_besideInTriangles 48 = .ok (.iload_n 2, 1) := by decide +kernel
theorem dX1_besideInTriangles_49 : decode cX1_besideInTriangles 49 = .ok (.invokevirtual 58, 3) := by decide +kernel
theorem dX1_besideInTriangles_52 : decode cX1_besideInTriangles 52 = .ok (.ireturn, 1) := by decide +kernel
theorem dX1_besideInTriangles_53 : decode cX1_besideInTriangles 53 = .ok (.aload_n 0, 1) := by decide +kernel
theorem dX1_besideInTriangles_54 : decode cX1_besideInTriangles 54 = .ok (.iload_n 1, 1) := by decide +kernel
theorem dX1_besideInTriangles_55 : decode cX1_besideInTriangles 55 = .ok (.iconst 1, 1) := by decide +kernel
theorem dX1_besideInTriangles_56 : decode cX1_besideInTriangles 56 = .ok (.iadd, 1) := by decide +kernel
theorem dX1_besideInTriangles_57 : decode cX1_besideInTriangles 57 = .ok (.iload_n 2, 1) := by decide +kernel
theorem dX1_besideInTriangles_58 : decode cX1_besideInTriangles 58 = .ok (.invokevirtual 58, 3) := by decide +kernel
theorem dX1_besideInTriangles_61 : decode cX1_besideInTriangles 61 = .ok (.ireturn, 1) := by decide +kernel
theorem dX1_besideInTriangles_62 : decode cX1_besideInTriangles 62 = .ok (.aload_n 0, 1) := by decide +kernel
theorem dX1_besideInTriangles_63 : decode cX1_besideInTriangles 63 = .ok (.iload_n 1, 1) := by decide +kernel
theorem dX1_besideInTriangles_64 : decode cX1_besideInTriangles 64 = .ok (.iload 4, 2) := by decide +kernel
theorem dX1_besideInTriangles_66 : decode cX1_besideInTriangles 66 = .ok (.ifCond .eq 9, 3) := by decide +kernel
theorem dX1_besideInTriangles_69 : decode cX1_besideInTriangles 69 = .ok (.iload_n 2, 1) := by decide +kernel
theorem dX1_besideInTriangles_70 : decode cX1_besideInTriangles 70 = .ok (.iconst 1, 1) := by decide +kernel
theorem dX1_besideInTriangles_71 : decode cX1_besideInTriangles 71 = .ok (.iadd, 1) := by decide +kernel
theorem dX1_besideInTriangles_72 : decode cX1_besideInTriangles 72 = .ok (.goto 6, 3) := by decide +kernel
theorem dX1_besideInTriangles_75 : decode cX1_besideInTriangles 75 = .ok (.iload_n 2, 1) := by decide +kernel
theorem dX1_besideInTriangles_76 : decode cX1_besideInTriangles 76 = .ok (.iconst 1, 1) := by decide +kernel
theorem dX1_besideInTriangles_77 : decode cX1_besideInTriangles 77 = .ok (.isub, 1) := by decide +kernel
theorem dX1_besideInTriangles_78 : decode cX1_besideInTriangles 78 = .ok (.invokevirtual 58, 3) := by decide +kernel
theorem dX1_besideInTriangles_81 : decode cX1_besideInTriangles 81 = .ok (.ireturn, 1) := by decide +kernel
theorem dX1_besideInTriangles_82 : decode cX1_besideInTriangles 82 = .ok (.iconst (-1), 1) := by decide +kernel
theorem dX1_besideInTriangles_83 : decode cX1_besideInTriangles 83 = .ok (.ireturn, 1) := by decide +kernel
theorem dX1_besideInRings_0 : decode cX1_besideInRings 0 = .ok (.iload_n 3, 1) := by decide +kernel
theorem dX1_besideInRings_1 : decode cX1_besideInRings 1 = .ok (.tableswitch 118 0 3 #[31, 40, 75, 84], 31) := by decide +kernel
theorem dX1_besideInRings_32 : decode cX1_besideInRings 32 = .ok (.aload_n 0, 1) := by decide +kernel
theorem dX1_besideInRings_33 : decode cX1_besideInRings 33 = .ok (.iload_n 1, 1) := by decide +kernel
theorem dX1_besideInRings_34 : decode cX1_besideInRings 34 = .ok (.iload_n 2, 1) := by decide +kernel
theorem dX1_besideInRings_35 : decode cX1_besideInRings 35 = .ok (.iconst 1, 1) := by decide +kernel
theorem dX1_besideInRings_36 : decode cX1_besideInRings 36 = .ok (.isub, 1) := by decide +kernel
theorem dX1_besideInRings_37 : decode cX1_besideInRings 37 = .ok (.invokevirtual 58, 3) := by decide +kernel
theorem dX1_besideInRings_40 : decode cX1_besideInRings 40 = .ok (.ireturn, 1) := by decide +kernel
theorem dX1_besideInRings_41 : decode cX1_besideInRings 41 = .ok (.aload_n 0, 1) := by decide +kernel
theorem dX1_besideInRings_42 : decode cX1_besideInRings 42 = .ok (.getfield 19, 3) := by decide +kernel
theorem dX1_besideInRings_45 : decode cX1_besideInRings 45 = .ok (.iconst 2, 1) := by decide +kernel
theorem dX1_besideInRings_46 : decode cX1_besideInRings 46 = .ok (.if_icmp .ge 7, 3) := by decide +kernel
theorem dX1_besideInRings_49 : decode cX1_besideInRings 49 = .ok (.iconst (-1), 1) := by decide +kernel
theorem dX1_besideInRings_50 : decode cX1_besideInRings 50 = .ok (.goto 25, 3) := by decide +kernel
theorem dX1_besideInRings_53 : decode cX1_besideInRings 53 = .ok (.aload_n 0, 1) := by decide +kernel
theorem dX1_besideInRings_54 : decode cX1_besideInRings 54 = .ok (.iload_n 1, 1) := by decide +kernel
theorem dX1_besideInRings_55 : decode cX1_besideInRings 55 = .ok (.aload_n 0, 1) := by decide +kernel
theorem dX1_besideInRings_56 : decode cX1_besideInRings 56 = .ok (.getfield 19, 3) := by decide +kernel
theorem dX1_besideInRings_59 : decode cX1_besideInRings 59 = .ok (.iconst 1, 1) := by decide +kernel
theorem dX1_besideInRings_60 : decode cX1_besideInRings 60 = .ok (.isub, 1) := by decide +kernel
theorem dX1_besideInRings_61 : decode cX1_besideInRings 61 = .ok (.if_icmp .ne 7, 3) := by decide +kernel
theorem dX1_besideInRings_64 : decode cX1_besideInRings 64 = .ok (.iconst 0, 1) := by decide +kernel
theorem dX1_besideInRings_65 : decode cX1_besideInRings 65 = .ok (.goto 6, 3) := by decide +kernel
theorem dX1_besideInRings_68 : decode cX1_besideInRings 68 = .ok (.iload_n 1, 1) := by decide +kernel
theorem dX1_besideInRings_69 : decode cX1_besideInRings 69 = .ok (.iconst 1, 1) := by decide +kernel
theorem dX1_besideInRings_70 : decode cX1_besideInRings 70 = .ok (.iadd, 1) := by decide +kernel
theorem dX1_besideInRings_71 : decode cX1_besideInRings 71 = .ok (.iload_n 2, 1) := by decide +kernel
theorem dX1_besideInRings_72 : decode cX1_besideInRings 72 = .ok (.invokevirtual 58, 3) := by decide +kernel
theorem dX1_besideInRings_75 : decode cX1_besideInRings 75 = .ok (.ireturn, 1) := by decide +kernel
theorem dX1_besideInRings_76 : decode cX1_besideInRings 76 = .ok (.aload_n 0, 1) := by decide +kernel
theorem dX1_besideInRings_77 : decode cX1_besideInRings 77 = .ok (.iload_n 1, 1) := by decide +kernel
theorem dX1_besideInRings_78 : decode cX1_besideInRings 78 = .ok (.iload_n 2, 1) := by decide +kernel
theorem dX1_besideInRings_79 : decode cX1_besideInRings 79 = .ok (.iconst 1, 1) := by decide +kernel
theorem dX1_besideInRings_80 : decode cX1_besideInRings 80 = .ok (.iadd, 1) := by decide +kernel
theorem dX1_besideInRings_81 : decode cX1_besideInRings 81 = .ok (.invokevirtual 58, 3) := by decide +kernel
theorem dX1_besideInRings_84 : decode cX1_besideInRings 84 = .ok (.ireturn, 1) := by decide +kernel
theorem dX1_besideInRings_85 : decode cX1_besideInRings 85 = .ok (.aload_n 0, 1) := by decide +kernel
theorem dX1_besideInRings_86 : decode cX1_besideInRings 86 = .ok (.getfield 19, 3) := by decide +kernel
theorem dX1_besideInRings_89 : decode cX1_besideInRings 89 = .ok (.iconst 3, 1) := by decide +kernel
theorem dX1_besideInRings_90 : decode cX1_besideInRings 90 = .ok (.if_icmp .ge 7, 3) := by decide +kernel
theorem dX1_besideInRings_93 : decode cX1_besideInRings 93 = .ok (.iconst (-1), 1) := by decide +kernel
theorem dX1_besideInRings_94 : decode cX1_besideInRings 94 = .ok (.goto 24, 3) := by decide +kernel
theorem dX1_besideInRings_97 : decode cX1_besideInRings 97 = .ok (.aload_n 0, 1) := by decide +kernel
theorem dX1_besideInRings_98 : decode cX1_besideInRings 98 = .ok (.iload_n 1, 1) := by decide +kernel
theorem dX1_besideInRings_99 : decode cX1_besideInRings 99 = .ok (.ifCond .ne 12, 3) := by decide +kernel
theorem dX1_besideInRings_102 : decode cX1_besideInRings 102 = .ok (.aload_n 0, 1) := by decide +kernel
theorem dX1_besideInRings_103 : decode cX1_besideInRings 103 = .ok (.getfield 19, 3) := by decide +kernel
theorem dX1_besideInRings_106 : decode cX1_besideInRings 106 = .ok (.iconst 1, 1) := by decide +kernel
theorem dX1_besideInRings_107 : decode cX1_besideInRings 107 = .ok (.isub, 1) := by decide +kernel
theorem dX1_besideInRings_108 : decode cX1_besideInRings 108 = .ok (.goto 6, 3) := by decide +kernel
theorem dX1_besideInRings_111 : decode cX1_besideInRings 111 = .ok (.iload_n 1, 1) := by decide +kernel
theorem dX1_besideInRings_112 : decode cX1_besideInRings 112 = .ok (.iconst 1, 1) := by decide +kernel
theorem dX1_besideInRings_113 : decode cX1_besideInRings 113 = .ok (.isub, 1) := by decide +kernel
theorem dX1_besideInRings_114 : decode cX1_besideInRings 114 = .ok (.iload_n 2, 1) := by decide +kernel
theorem dX1_besideInRings_115 : decode cX1_besideInRings 115 = .ok (.invokevirtual 58, 3) := by decide +kernel
theorem dX1_besideInRings_118 : decode cX1_besideInRings 118 = .ok (.ireturn, 1) := by decide +kernel
theorem dX1_besideInRings_119 : decode cX1_besideInRings 119 = .ok (.iconst (-1), 1) := by decide +kernel
theorem dX1_besideInRings_120 : decode cX1_besideInRings 120 = .ok (.ireturn, 1) := by decide +kernel
theorem dX2_init_0 : decode cX2_init 0 = .ok (.aload_n 0, 1) := by decide +kernel
theorem dX2_init_1 : decode cX2_init 1 = .ok (.invokespecial 3, 3) := by decide +kernel
theorem dX2_init_4 : decode cX2_init 4 = .ok (.aload_n 0, 1) := by decide +kernel
theorem dX2_init_5 : decode cX2_init 5 = .ok (.aload_n 1, 1) := by decide +kernel
theorem dX2_init_6 : decode cX2_init 6 = .ok (.getfield 9, 3) := by decide +kernel
theorem dX2_init_9 : decode cX2_init 9 = .ok (.putfield 15, 3) := by decide +kernel
theorem dX2_init_12 : decode cX2_init 12 = .ok (.aload_n 0, 1) := by decide +kernel
theorem dX2_init_13 : decode cX2_init 13 = .ok (.aload_n 1, 1) := by decide +kernel
theorem dX2_init_14 : decode cX2_init 14 = .ok (.invokevirtual 18, 3) := by decide +kernel
theorem dX2_init_17 : decode cX2_init 17 = .ok (.putfield 22, 3) := by decide +kernel
theorem dX2_init_20 : decode cX2_init 20 = .ok (.aload_n 0, 1) := by decide +kernel
theorem dX2_init_21 : decode cX2_init 21 = .ok (.aload_n 0, 1) := by decide +kernel
theorem dX2_init_22 : decode cX2_init 22 = .ok (.getfield 15, 3) := by decide +kernel
theorem dX2_init_25 : decode cX2_init 25 = .ok (.aload_n 0, 1) := by decide +kernel
theorem dX2_init_26 : decode cX2_init 26 = .ok (.getfield 22, 3) := by decide +kernel
theorem dX2_init_29 : decode cX2_init 29 = .ok (.imul, 1) := by decide +kernel
theorem dX2_init_30 : decode cX2_init 30 = .ok (.newarray .int, 2) := by decide +kernel
theorem dX2_init_32 : decode cX2_init 32 = .ok (.putfield 24, 3) := by decide +kernel
theorem dX2_init_35 : decode cX2_init 35 = .ok (.aload_n 0, 1) := by decide +kernel
theorem dX2_init_36 : decode cX2_init 36 = .ok (.aload_n 0, 1) := by decide +kernel
theorem dX2_init_37 : decode cX2_init 37 = .ok (.getfield 15, 3) := by decide +kernel
theorem dX2_init_40 : decode cX2_init 40 = .ok (.aload_n 0, 1) := by decide +kernel
theorem dX2_init_41 : decode cX2_init 41 = .ok (.getfield 22, 3) := by decide +kernel
theorem dX2_init_44 : decode cX2_init 44 = .ok (.imul, 1) := by decide +kernel
theorem dX2_init_45 : decode cX2_init 45 = .ok (.newarray .boolean, 2) := by decide +kernel
theorem dX2_init_47 : decode cX2_init 47 = .ok (.putfield 28, 3) := by decide +kernel
theorem dX2_init_50 : decode cX2_init 50 = .ok (.iconst 0, 1) := by decide +kernel
theorem dX2_init_51 : decode cX2_init 51 = .ok (.istore_n 2, 1) := by decide +kernel
theorem dX2_init_52 : decode cX2_init 52 = .ok (.iload_n 2, 1) := by decide +kernel
theorem dX2_init_53 : decode cX2_init 53 = .ok (.aload_n 0, 1) := by decide +kernel
theorem dX2_init_54 : decode cX2_init 54 = .ok (.getfield 15, 3) := by decide +kernel
theorem dX2_init_57 : decode cX2_init 57 = .ok (.if_icmp .ge 44, 3) := by decide +kernel
theorem dX2_init_60 : decode cX2_init 60 = .ok (.iconst 0, 1) := by decide +kernel
theorem dX2_init_61 : decode cX2_init 61 = .ok (.istore_n 3, 1) := by decide +kernel
theorem dX2_init_62 : decode cX2_init 62 = .ok (.iload_n 3, 1) := by decide +kernel
theorem dX2_init_63 : decode cX2_init 63 = .ok (.aload_n 0, 1) := by decide +kernel
theorem dX2_init_64 : decode cX2_init 64 = .ok (.getfield 22, 3) := by decide +kernel
theorem dX2_init_67 : decode cX2_init 67 = .ok (.if_icmp .ge 28, 3) := by decide +kernel
theorem dX2_init_70 : decode cX2_init 70 = .ok (.aload_n 0, 1) := by decide +kernel
theorem dX2_init_71 : decode cX2_init 71 = .ok (.getfield 24, 3) := by decide +kernel
theorem dX2_init_74 : decode cX2_init 74 = .ok (.iload_n 2, 1) := by decide +kernel
theorem dX2_init_75 : decode cX2_init 75 = .ok (.aload_n 0, 1) := by decide +kernel
theorem dX2_init_76 : decode cX2_init 76 = .ok (.getfield 22, 3) := by decide +kernel
theorem dX2_init_79 : decode cX2_init 79 = .ok (.imul, 1) := by decide +kernel
theorem dX2_init_80 : decode cX2_init 80 = .ok (.iload_n 3, 1) := by decide +kernel
theorem dX2_init_81 : decode cX2_init 81 = .ok (.iadd, 1) := by decide +kernel
theorem dX2_init_82 : decode cX2_init 82 = .ok (.aload_n 1, 1) := by decide +kernel
theorem dX2_init_83 : decode cX2_init 83 = .ok (.iload_n 2, 1) := by decide +kernel
theorem dX2_init_84 : decode cX2_init 84 = .ok (.iload_n 3, 1) := by decide +kernel
theorem dX2_init_85 : decode cX2_init 85 = .ok (.invokevirtual 32, 3) := by decide +kernel
theorem dX2_init_88 : decode cX2_init 88 = .ok (.iastore, 1) := by decide +kernel
theorem dX2_init_89 : decode cX2_init 89 = .ok (.iinc 3 1, 3) := by decide +kernel
theorem dX2_init_92 : decode cX2_init 92 = .ok (.goto (-30), 3) := by decide +kernel
theorem dX2_init_95 : decode cX2_init 95 = .ok (.iinc 2 1, 3) := by decide +kernel
theorem dX2_init_98 : decode cX2_init 98 = .ok (.goto (-46), 3) := by decide +kernel
theorem dX2_init_101 : decode cX2_init 101 = .ok (.return_, 1) := by decide +kernel
theorem dX2_has_0 : decode cX2_has 0 = .ok (.iload_n 1, 1) := by decide +kernel
theorem dX2_has_1 : decode cX2_has 1 = .ok (.ifCond .lt 27, 3) := by decide +kernel
theorem dX2_has_4 : decode cX2_has 4 = .ok (.iload_n 1, 1) := by decide +kernel
theorem dX2_has_5 : decode cX2_has 5 = .ok (.aload_n 0, 1) := by decide +kernel
theorem dX2_has_6 : decode cX2_has 6 = .ok (.getfield 15, 3) := by decide +kernel
theorem dX2_has_9 : decode cX2_has 9 = .ok (.if_icmp .ge 19, 3) := by decide +kernel
theorem dX2_has_12 : decode cX2_has 12 = .ok (.iload_n 2, 1) := by decide +kernel
theorem dX2_has_13 : decode cX2_has 13 = .ok (.ifCond .lt 15, 3) := by decide +kernel
theorem dX2_has_16 : decode cX2_has 16 = .ok (.iload_n 2, 1) := by decide +kernel
theorem dX2_has_17 : decode cX2_has 17 = .ok (.aload_n 0, 1) := by decide +kernel
theorem dX2_has_18 : decode cX2_has 18 = .ok (.getfield 22, 3) := by decide +kernel
theorem dX2_has_21 : decode cX2_has 21 = .ok (.if_icmp .ge 7, 3) := by decide +kernel
theorem dX2_has_24 : decode cX2_has 24 = .ok (.iconst 1, 1) := by decide +kernel
theorem dX2_has_25 : decode cX2_has 25 = .ok (.goto 4, 3) := by decide +kernel
theorem dX2_has_28 : decode cX2_has 28 = .ok (.iconst 0, 1) := by decide +kernel
theorem dX2_has_29 : decode cX2_has 29 = .ok (.ireturn, 1) := by decide +kernel
theorem dX2_besideAt_0 : decode cX2_besideAt 0 = .ok (.aload_n 0, 1) := by decide +kernel
theorem dX2_besideAt_1 : decode cX2_besideAt 1 = .ok (.iload_n 1, 1) := by decide +kernel
theorem dX2_besideAt_2 : decode cX2_besideAt 2 = .ok (.iload_n 2, 1) := by decide +kernel
theorem dX2_besideAt_3 : decode cX2_besideAt 3 = .ok (.invokevirtual 36, 3) := by decide +kernel
theorem dX2_besideAt_6 : decode cX2_besideAt 6 = .ok (.ifCond .eq 19, 3) := by decide +kernel
theorem dX2_besideAt_9 : decode cX2_besideAt 9 = .ok (.aload_n 0, 1) := by decide +kernel
theorem dX2_besideAt_10 : decode cX2_besideAt 10 = .ok (.getfield 24, 3) := by decide +kernel
theorem dX2_besideAt_13 : decode cX2_besideAt 13 = .ok (.iload_n 1, 1) := by decide +kernel
theorem dX2_besideAt_14 : decode cX2_besideAt 14 = .ok (.aload_n 0, 1) := by decide +kernel
theorem dX2_besideAt_15 : decode cX2_besideAt 15 = .ok (.getfield 22, 3) := by decide +kernel
theorem dX2_besideAt_18 : decode cX2_besideAt 18 = .ok (.imul, 1) := by decide +kernel
theorem dX2_besideAt_19 : decode cX2_besideAt 19 = .ok (.iload_n 2, 1) := by decide +kernel
theorem dX2_besideAt_20 : decode cX2_besideAt 20 = .ok (.iadd, 1) := by decide +kernel
theorem dX2_besideAt_21 : decode cX2_besideAt 21 = .ok (.iaload, 1) := by decide +kernel
theorem dX2_besideAt_22 : decode cX2_besideAt 22 = .ok (.goto 4, 3) := by decide +kernel
theorem dX2_besideAt_25 : decode cX2_besideAt 25 = .ok (.iconst (-1), 1) := by decide +kernel
theorem dX2_besideAt_26 : decode cX2_besideAt 26 = .ok (.ireturn, 1) := by decide +kernel
theorem dX2_walledAt_0 : decode cX2_walledAt 0 = .ok (.aload_n 0, 1) := by decide +kernel
theorem dX2_walledAt_1 : decode cX2_walledAt 1 = .ok (.iload_n 1, 1) := by decide +kernel
theorem dX2_walledAt_2 : decode cX2_walledAt 2 = .ok (.iload_n 2, 1) := by decide +kernel
theorem dX2_walledAt_3 : decode cX2_walledAt 3 = .ok (.invokevirtual 36, 3) := by decide +kernel
theorem dX2_walledAt_6 : decode cX2_walledAt 6 = .ok (.ifCond .eq 23, 3) := by decide +kernel
theorem dX2_walledAt_9 : decode cX2_walledAt 9 = .ok (.aload_n 0, 1) := by decide +kernel
theorem dX2_walledAt_10 : decode cX2_walledAt 10 = .ok (.getfield 28, 3) := by decide +kernel
theorem dX2_walledAt_13 : decode cX2_walledAt 13 = .ok (.iload_n 1, 1) := by decide +kernel
theorem dX2_walledAt_14 : decode cX2_walledAt 14 = .ok (.aload_n 0, 1) := by decide +kernel
theorem dX2_walledAt_15 : decode cX2_walledAt 15 = .ok (.getfield 22, 3) := by decide +kernel
theorem dX2_walledAt_18 : decode cX2_walledAt 18 = .ok (.imul, 1) := by decide +kernel
theorem dX2_walledAt_19 : decode cX2_walledAt 19 = .ok (.iload_n 2, 1) := by decide +kernel
theorem dX2_walledAt_20 : decode cX2_walledAt 20 = .ok (.iadd, 1) := by decide +kernel
theorem dX2_walledAt_21 : decode cX2_walledAt 21 = .ok (.baload, 1) := by decide +kernel
theorem dX2_walledAt_22 : decode cX2_walledAt 22 = .ok (.ifCond .eq 7, 3) := by decide +kernel
theorem dX2_walledAt_25 : decode cX2_walledAt 25 = .ok (.iconst 1, 1) := by decide +kernel
theorem dX2_walledAt_26 : decode cX2_walledAt 26 = .ok (.goto 4, 3) := by decide +kernel
theorem dX2_walledAt_29 : decode cX2_walledAt 29 = .ok (.iconst 0, 1) := by decide +kernel
theorem dX2_walledAt_30 : decode cX2_walledAt 30 = .ok (.ireturn, 1) := by decide +kernel
theorem dX2_openAt_0 : decode cX2_openAt 0 = .ok (.aload_n 0, 1) := by decide +kernel
theorem dX2_openAt_1 : decode cX2_openAt 1 = .ok (.iload_n 1, 1) := by decide +kernel
theorem dX2_openAt_2 : decode cX2_openAt 2 = .ok (.iload_n 2, 1) := by decide +kernel
theorem dX2_openAt_3 : decode cX2_openAt 3 = .ok (.invokevirtual 40, 3) := by decide +kernel
theorem dX2_openAt_6 : decode cX2_openAt 6 = .ok (.ifCond .eq 7, 3) := by decide +kernel
theorem dX2_openAt_9 : decode cX2_openAt 9 = .ok (.iconst (-1), 1) := by decide +kernel
theorem dX2_openAt_10 : decode cX2_openAt 10 = .ok (.goto 9, 3) := by decide +kernel
theorem dX2_openAt_13 : decode cX2_openAt 13 = .ok (.aload_n 0, 1) := by decide +kernel
theorem dX2_openAt_14 : decode cX2_openAt 14 = .ok (.iload_n 1, 1) := by decide +kernel
theorem dX2_openAt_15 : decode cX2_openAt 15 = .ok (.iload_n 2, 1) := by decide +kernel
theorem dX2_openAt_16 : decode cX2_openAt 16 = .ok (.invokevirtual 43, 3) := by decide +kernel
theorem dX2_openAt_19 : decode cX2_openAt 19 = .ok (.ireturn, 1) := by decide +kernel
theorem dX2_slotOf_0 : decode cX2_slotOf 0 = .ok (.iload_n 2, 1) := by decide +kernel
theorem dX2_slotOf_1 : decode cX2_slotOf 1 = .ok (.iconst (-1), 1) := by decide +kernel
theorem dX2_slotOf_2 : decode cX2_slotOf 2 = .ok (.if_icmp .eq 31, 3) := by decide +kernel
theorem dX2_slotOf_5 : decode cX2_slotOf 5 = .ok (.iconst 0, 1) := by decide +kernel
theorem dX2_slotOf_6 : decode cX2_slotOf 6 = .ok (.istore_n 3, 1) := by decide +kernel
theorem dX2_slotOf_7 : decode cX2_slotOf 7 = .ok (.iload_n 3, 1) := by decide +kernel
theorem dX2_slotOf_8 : decode cX2_slotOf 8 = .ok (.aload_n 0, 1) := by decide +kernel
theorem dX2_slotOf_9 : decode cX2_slotOf 9 = .ok (.getfield 22, 3) := by decide +kernel
theorem dX2_slotOf_12 : decode cX2_slotOf 12 = .ok (.if_icmp .ge 21, 3) := by decide +kernel
theorem dX2_slotOf_15 : decode cX2_slotOf 15 = .ok (.aload_n 0, 1) := by decide +kernel
theorem dX2_slotOf_16 : decode cX2_slotOf 16 = .ok (.iload_n 1, 1) := by decide +kernel
theorem dX2_slotOf_17 : decode cX2_slotOf 17 = .ok (.iload_n 3, 1) := by decide +kernel
theorem dX2_slotOf_18 : decode cX2_slotOf 18 = .ok (.invokevirtual 43, 3) := by decide +kernel
theorem dX2_slotOf_21 : decode cX2_slotOf 21 = .ok (.iload_n 2, 1) := by decide +kernel
theorem dX2_slotOf_22 : decode cX2_slotOf 22 = .ok (.if_icmp .ne 5, 3) := by decide +kernel
theorem dX2_slotOf_25 : decode cX2_slotOf 25 = .ok (.iload_n 3, 1) := by decide +kernel
theorem dX2_slotOf_26 : decode cX2_slotOf 26 = .ok (.ireturn, 1) := by decide +kernel
theorem dX2_slotOf_27 : decode cX2_slotOf 27 = .ok (.iinc 3 1, 3) := by decide +kernel
theorem dX2_slotOf_30 : decode cX2_slotOf 30 = .ok (.goto (-23), 3) := by decide +kernel
theorem dX2_slotOf_33 : decode cX2_slotOf 33 = .ok (.iconst (-1), 1) := by decide +kernel
theorem dX2_slotOf_34 : decode cX2_slotOf 34 = .ok (.ireturn, 1) := by decide +kernel
theorem dX2_leastBeyond_0 : decode cX2_leastBeyond 0 = .ok (.iconst (-1), 1) := by decide +kernel
theorem dX2_leastBeyond_1 : decode cX2_leastBeyond 1 = .ok (.istore_n 3, 1) := by decide +kernel
theorem dX2_leastBeyond_2 : decode cX2_leastBeyond 2 = .ok (.iconst 0, 1) := by decide +kernel
theorem dX2_leastBeyond_3 : decode cX2_leastBeyond 3 = .ok (.istore 4, 2) := by decide +kernel
theorem dX2_leastBeyond_5 : decode cX2_leastBeyond 5 = .ok (.iload 4, 2) := by decide +kernel
theorem dX2_leastBeyond_7 : decode cX2_leastBeyond 7 = .ok (.aload_n 0, 1) := by decide +kernel
theorem dX2_leastBeyond_8 : decode cX2_leastBeyond 8 = .ok (.getfield 22, 3) := by decide +kernel
theorem dX2_leastBeyond_11 : decode cX2_leastBeyond 11 = .ok (.if_icmp .ge 38, 3) := by decide +kernel
theorem dX2_leastBeyond_14 : decode cX2_leastBeyond 14 = .ok (.aload_n 0, 1) := by decide +kernel
theorem dX2_leastBeyond_15 : decode cX2_leastBeyond 15 = .ok (.iload_n 1, 1) := by decide +kernel
theorem dX2_leastBeyond_16 : decode cX2_leastBeyond 16 = .ok (.iload 4, 2) := by decide +kernel
theorem dX2_leastBeyond_18 : decode cX2_leastBeyond 18 = .ok (.invokevirtual 43, 3) := by decide +kernel
theorem dX2_leastBeyond_21 : decode cX2_leastBeyond 21 = .ok (.istore 5, 2) := by decide +kernel
theorem dX2_leastBeyond_23 : decode cX2_leastBeyond 23 = .ok (.iload 5, 2) := by decide +kernel
theorem dX2_leastBeyond_25 : decode cX2_leastBeyond 25 = .ok (.iload_n 2, 1) := by decide +kernel
theorem dX2_leastBeyond_26 : decode cX2_leastBeyond 26 = .ok (.if_icmp .le 17, 3) := by decide +kernel
theorem dX2_leastBeyond_29 : decode cX2_leastBeyond 29 = .ok (.iload_n 3, 1) := by decide +kernel
theorem dX2_leastBeyond_30 : decode cX2_leastBeyond 30 = .ok (.iconst (-1), 1) := by decide +kernel
theorem dX2_leastBeyond_31 : decode cX2_leastBeyond 31 = .ok (.if_icmp .eq 9, 3) := by decide +kernel
theorem dX2_leastBeyond_34 : decode cX2_leastBeyond 34 = .ok (.iload 5, 2) := by decide +kernel
theorem dX2_leastBeyond_36 : decode cX2_leastBeyond 36 = .ok (.iload_n 3, 1) := by decide +kernel
theorem dX2_leastBeyond_37 : decode cX2_leastBeyond 37 = .ok (.if_icmp .ge 6, 3) := by decide +kernel
theorem dX2_leastBeyond_40 : decode cX2_leastBeyond 40 = .ok (.iload 5, 2) := by decide +kernel
theorem dX2_leastBeyond_42 : decode cX2_leastBeyond 42 = .ok (.istore_n 3, 1) := by decide +kernel
theorem dX2_leastBeyond_43 : decode cX2_leastBeyond 43 = .ok (.iinc 4 1, 3) := by decide +kernel
theorem dX2_leastBeyond_46 : decode cX2_leastBeyond 46 = .ok (.goto (-41), 3) := by decide +kernel
theorem dX2_leastBeyond_49 : decode cX2_leastBeyond 49 = .ok (.iload_n 3, 1) := by decide +kernel
theorem dX2_leastBeyond_50 : decode cX2_leastBeyond 50 = .ok (.ireturn, 1) := by decide +kernel
theorem dX2_tie_0 : decode cX2_tie 0 = .ok (.aload_n 0, 1) := by decide +kernel
theorem dX2_tie_1 : decode cX2_tie 1 = .ok (.iload_n 1, 1) := by decide +kernel
theorem dX2_tie_2 : decode cX2_tie 2 = .ok (.iload_n 2, 1) := by decide +kernel
theorem dX2_tie_3 : decode cX2_tie 3 = .ok (.invokevirtual 36, 3) := by decide +kernel
theorem dX2_tie_6 : decode cX2_tie 6 = .ok (.ifCond .eq 40, 3) := by decide +kernel
theorem dX2_tie_9 : decode cX2_tie 9 = .ok (.aload_n 0, 1) := by decide +kernel
theorem dX2_tie_10 : decode cX2_tie 10 = .ok (.iload_n 2, 1) := by decide +kernel
theorem dX2_tie_11 : decode cX2_tie 11 = .ok (.iload_n 1, 1) := by decide +kernel
theorem dX2_tie_12 : decode cX2_tie 12 = .ok (.invokevirtual 36, 3) := by decide +kernel
theorem dX2_tie_15 : decode cX2_tie 15 = .ok (.ifCond .eq 31, 3) := by decide +kernel
theorem dX2_tie_18 : decode cX2_tie 18 = .ok (.aload_n 0, 1) := by decide +kernel
theorem dX2_tie_19 : decode cX2_tie 19 = .ok (.getfield 24, 3) := by decide +kernel
theorem dX2_tie_22 : decode cX2_tie 22 = .ok (.iload_n 1, 1) := by decide +kernel
theorem dX2_tie_23 : decode cX2_tie 23 = .ok (.aload_n 0, 1) := by decide +kernel
theorem dX2_tie_24 : decode cX2_tie 24 = .ok (.getfield 22, 3) := by decide +kernel
theorem dX2_tie_27 : decode cX2_tie 27 = .ok (.imul, 1) := by decide +kernel
theorem dX2_tie_28 : decode cX2_tie 28 = .ok (.iload_n 2, 1) := by decide +kernel
theorem dX2_tie_29 : decode cX2_tie 29 = .ok (.iadd, 1) := by decide +kernel
theorem dX2_tie_30 : decode cX2_tie 30 = .ok (.iload_n 2, 1) := by decide +kernel
theorem dX2_tie_31 : decode cX2_tie 31 = .ok (.iastore, 1) := by decide +kernel
theorem dX2_tie_32 : decode cX2_tie 32 = .ok (.aload_n 0, 1) := by decide +kernel
theorem dX2_tie_33 : decode cX2_tie 33 = .ok (.getfield 24, 3) := by decide +kernel
theorem dX2_tie_36 : decode cX2_tie 36 = .ok (.iload_n 2, 1) := by decide +kernel
theorem dX2_tie_37 : decode cX2_tie 37 = .ok (.aload_n 0, 1) := by decide +kernel
theorem dX2_tie_38 : decode cX2_tie 38 = .ok (.getfield 22, 3) := by decide +kernel
theorem dX2_tie_41 : decode cX2_tie 41 = .ok (.imul, 1) := by decide +kernel
theorem dX2_tie_42 : decode cX2_tie 42 = .ok (.iload_n 1, 1) := by decide +kernel
theorem dX2_tie_43 : decode cX2_tie 43 = .ok (.iadd, 1) := by decide +kernel
theorem dX2_tie_44 : decode cX2_tie 44 = .ok (.iload_n 1, 1) := by decide +kernel
theorem dX2_tie_45 : decode cX2_tie 45 = .ok (.iastore, 1) := by decide +kernel
theorem dX2_tie_46 : decode cX2_tie 46 = .ok (.return_, 1) := by decide +kernel
theorem dX2_setWall_0 : decode cX2_setWall 0 = .ok (.aload_n 0, 1) := by decide +kernel
theorem dX2_setWall_1 : decode cX2_setWall 1 = .ok (.iload_n 1, 1) := by decide +kernel
theorem dX2_setWall_2 : decode cX2_setWall 2 = .ok (.iload_n 2, 1) := by decide +kernel
theorem dX2_setWall_3 : decode cX2_setWall 3 = .ok (.invokevirtual 36, 3) := by decide +kernel
theorem dX2_setWall_6 : decode cX2_setWall 6 = .ok (.ifCond .eq 17, 3) := by decide +kernel
theorem dX2_setWall_9 : decode cX2_setWall 9 = .ok (.aload_n 0, 1) := by decide +kernel
theorem dX2_setWall_10 : decode cX2_setWall 10 = .ok (.getfield 28, 3) := by decide +kernel
theorem dX2_setWall_13 : decode cX2_setWall 13 = .ok (.iload_n 1, 1) := by decide +kernel
theorem dX2_setWall_14 : decode cX2_setWall 14 = .ok (.aload_n 0, 1) := by decide +kernel
theorem dX2_setWall_15 : decode cX2_setWall 15 = .ok (.getfield 22, 3) := by decide +kernel
theorem dX2_setWall_18 : decode cX2_setWall 18 = .ok (.imul, 1) := by decide +kernel
theorem dX2_setWall_19 : decode cX2_setWall 19 = .ok (.iload_n 2, 1) := by decide +kernel
theorem dX2_setWall_20 : decode cX2_setWall 20 = .ok (.iadd, 1) := by decide +kernel
theorem dX2_setWall_21 : decode cX2_setWall 21 = .ok (.iload_n 3, 1) := by decide +kernel
theorem dX2_setWall_22 : decode cX2_setWall 22 = .ok (.bastore, 1) := by decide +kernel
theorem dX2_setWall_23 : decode cX2_setWall 23 = .ok (.return_, 1) := by decide +kernel
theorem dX3_init_0 : decode cX3_init 0 = .ok (.aload_n 0, 1) := by decide +kernel
theorem dX3_init_1 : decode cX3_init 1 = .ok (.invokespecial 3, 3) := by decide +kernel
theorem dX3_init_4 : decode cX3_init 4 = .ok (.aload_n 0, 1) := by decide +kernel
theorem dX3_init_5 : decode cX3_init 5 = .ok (.iload_n 1, 1) := by decide +kernel
theorem dX3_init_6 : decode cX3_init 6 = .ok (.ifCond .ge 7, 3) := by decide +kernel
theorem dX3_init_9 : decode cX3_init 9 = .ok (.iconst 0, 1) := by decide +kernel
theorem dX3_init_10 : decode cX3_init 10 = .ok (.goto 4, 3) := by decide +kernel
theorem dX3_init_13 : decode cX3_init 13 = .ok (.iload_n 1, 1) := by decide +kernel
theorem dX3_init_14 : decode cX3_init 14 = .ok (.newarray .int, 2) := by decide +kernel
theorem dX3_init_16 : decode cX3_init 16 = .ok (.putfield 9, 3) := by decide +kernel
theorem dX3_init_19 : decode cX3_init 19 = .ok (.return_, 1) := by decide +kernel
theorem dX3_length_0 : decode cX3_length 0 = .ok (.aload_n 0, 1) := by decide +kernel
theorem dX3_length_1 : decode cX3_length 1 = .ok (.getfield 15, 3) := by decide +kernel
theorem dX3_length_4 : decode cX3_length 4 = .ok (.ireturn, 1) := by decide +kernel
theorem dX3_at_0 : decode cX3_at 0 = .ok (.iload_n 1, 1) := by decide +kernel
theorem dX3_at_1 : decode cX3_at 1 = .ok (.ifCond .lt 29, 3) := by decide +kernel
theorem dX3_at_4 : decode cX3_at 4 = .ok (.iload_n 1, 1) := by decide +kernel
theorem dX3_at_5 : decode cX3_at 5 = .ok (.aload_n 0, 1) := by decide +kernel
theorem dX3_at_6 : decode cX3_at 6 = .ok (.getfield 15, 3) := by decide +kernel
theorem dX3_at_9 : decode cX3_at 9 = .ok (.if_icmp .ge 21, 3) := by decide +kernel
theorem dX3_at_12 : decode cX3_at 12 = .ok (.iload_n 1, 1) := by decide +kernel
theorem dX3_at_13 : decode cX3_at 13 = .ok (.aload_n 0, 1) := by decide +kernel
theorem dX3_at_14 : decode cX3_at 14 = .ok (.getfield 9, 3) := by decide +kernel
theorem dX3_at_17 : decode cX3_at 17 = .ok (.arraylength, 1) := by decide +kernel
theorem dX3_at_18 : decode cX3_at 18 = .ok (.if_icmp .ge 12, 3) := by decide +kernel
theorem dX3_at_21 : decode cX3_at 21 = .ok (.aload_n 0, 1) := by decide +kernel
theorem dX3_at_22 : decode cX3_at 22 = .ok (.getfield 9, 3) := by decide +kernel
theorem dX3_at_25 : decode cX3_at 25 = .ok (.iload_n 1, 1) := by decide +kernel
theorem dX3_at_26 : decode cX3_at 26 = .ok (.iaload, 1) := by decide +kernel
theorem dX3_at_27 : decode cX3_at 27 = .ok (.goto 4, 3) := by decide +kernel
theorem dX3_at_30 : decode cX3_at 30 = .ok (.iconst (-1), 1) := by decide +kernel
theorem dX3_at_31 : decode cX3_at 31 = .ok (.ireturn, 1) := by decide +kernel
theorem dX3_put_0 : decode cX3_put 0 = .ok (.aload_n 0, 1) := by decide +kernel
theorem dX3_put_1 : decode cX3_put 1 = .ok (.getfield 15, 3) := by decide +kernel
theorem dX3_put_4 : decode cX3_put 4 = .ok (.ifCond .lt 15, 3) := by decide +kernel
theorem dX3_put_7 : decode cX3_put 7 = .ok (.aload_n 0, 1) := by decide +kernel
theorem dX3_put_8 : decode cX3_put 8 = .ok (.getfield 15, 3) := by decide +kernel
theorem dX3_put_11 : decode cX3_put 11 = .ok (.aload_n 0, 1) := by decide +kernel
theorem dX3_put_12 : decode cX3_put 12 = .ok (.getfield 9, 3) := by decide +kernel
theorem dX3_put_15 : decode cX3_put 15 = .ok (.arraylength, 1) := by decide +kernel
theorem dX3_put_16 : decode cX3_put 16 = .ok (.if_icmp .lt 5, 3) := by decide +kernel
theorem dX3_put_19 : decode cX3_put 19 = .ok (.iconst 0, 1) := by decide +kernel
theorem dX3_put_20 : decode cX3_put 20 = .ok (.ireturn, 1) := by decide +kernel
theorem dX3_put_21 : decode cX3_put 21 = .ok (.aload_n 0, 1) := by decide +kernel
theorem dX3_put_22 : decode cX3_put 22 = .ok (.getfield 9, 3) := by decide +kernel
theorem dX3_put_25 : decode cX3_put 25 = .ok (.aload_n 0, 1) := by decide +kernel
theorem dX3_put_26 : decode cX3_put 26 = .ok (.getfield 15, 3) := by decide +kernel
theorem dX3_put_29 : decode cX3_put 29 = .ok (.iload_n 1, 1) := by decide +kernel
theorem dX3_put_30 : decode cX3_put 30 = .ok (.iastore, 1) := by decide +kernel
theorem dX3_put_31 : decode cX3_put 31 = .ok (.aload_n 0, 1) := by decide +kernel
theorem dX3_put_32 : decode cX3_put 32 = .ok (.dup, 1) := by decide +kernel
theorem dX3_put_33 : decode cX3_put 33 = .ok (.getfield 15, 3) := by decide +kernel
theorem dX3_put_36 : decode cX3_put 36 = .ok (.iconst 1, 1) := by decide +kernel
theorem dX3_put_37 : decode cX3_put 37 = .ok (.iadd, 1) := by decide +kernel
theorem dX3_put_38 : decode cX3_put 38 = .ok (.putfield 15, 3) := by decide +kernel
theorem dX3_put_41 : decode cX3_put 41 = .ok (.iconst 1, 1) := by decide +kernel
theorem dX3_put_42 : decode cX3_put 42 = .ok (.ireturn, 1) := by decide +kernel
theorem dX3_clear_0 : decode cX3_clear 0 = .ok (.aload_n 0, 1) := by decide +kernel
theorem dX3_clear_1 : decode cX3_clear 1 = .ok (.iconst 0, 1) := by decide +kernel
theorem dX3_clear_2 : decode cX3_clear 2 = .ok (.putfield 15, 3) := by decide +kernel
theorem dX3_clear_5 : decode cX3_clear 5 = .ok (.return_, 1) := by decide +kernel
theorem dX4_init_0 : decode cX4_init 0 = .ok (.aload_n 0, 1) := by decide +kernel
theorem dX4_init_1 : decode cX4_init 1 = .ok (.invokespecial 3, 3) := by decide +kernel
theorem dX4_init_4 : decode cX4_init 4 = .ok (.aload_n 0, 1) := by decide +kernel
theorem dX4_init_5 : decode cX4_init 5 = .ok (.new 9, 3) := by decide +kernel
theorem dX4_init_8 : decode cX4_init 8 = .ok (.dup, 1) := by decide +kernel
theorem dX4_init_9 : decode cX4_init 9 = .ok (.iconst 3, 1) := by decide +kernel
theorem dX4_init_10 : decode cX4_init 10 = .ok (.aload_n 1, 1) := by decide +kernel
theorem dX4_init_11 : decode cX4_init 11 = .ok (.getfield 11, 3) := by decide +kernel
theorem dX4_init_14 : decode cX4_init 14 = .ok (.imul, 1) := by decide +kernel
theorem dX4_init_15 : decode cX4_init 15 = .ok (.invokespecial 17, 3) := by decide +kernel
theorem dX4_init_18 : decode cX4_init 18 = .ok (.putfield 20, 3) := by decide +kernel
theorem dX4_init_21 : decode cX4_init 21 = .ok (.return_, 1) := by decide +kernel
theorem dX4_spell_0 : decode cX4_spell 0 = .ok (.aload_n 0, 1) := by decide +kernel
theorem dX4_spell_1 : decode cX4_spell 1 = .ok (.getfield 20, 3) := by decide +kernel
theorem dX4_spell_4 : decode cX4_spell 4 = .ok (.invokevirtual 26, 3) := by decide +kernel
theorem dX4_spell_7 : decode cX4_spell 7 = .ok (.iconst 0, 1) := by decide +kernel
theorem dX4_spell_8 : decode cX4_spell 8 = .ok (.istore_n 2, 1) := by decide +kernel
theorem dX4_spell_9 : decode cX4_spell 9 = .ok (.iconst 0, 1) := by decide +kernel
theorem dX4_spell_10 : decode cX4_spell 10 = .ok (.istore_n 3, 1) := by decide +kernel
theorem dX4_spell_11 : decode cX4_spell 11 = .ok (.iload_n 3, 1) := by decide +kernel
theorem dX4_spell_12 : decode cX4_spell 12 = .ok (.aload_n 1, 1) := by decide +kernel
theorem dX4_spell_13 : decode cX4_spell 13 = .ok (.arraylength, 1) := by decide +kernel
theorem dX4_spell_14 : decode cX4_spell 14 = .ok (.if_icmp .ge 53, 3) := by decide +kernel
theorem dX4_spell_17 : decode cX4_spell 17 = .ok (.aload_n 1, 1) := by decide +kernel
theorem dX4_spell_18 : decode cX4_spell 18 = .ok (.iload_n 3, 1) := by decide +kernel
theorem dX4_spell_19 : decode cX4_spell 19 = .ok (.iaload, 1) := by decide +kernel
theorem dX4_spell_20 : decode cX4_spell 20 = .ok (.ifCond .ne 9, 3) := by decide +kernel
theorem dX4_spell_23 : decode cX4_spell 23 = .ok (.iinc 2 1, 3) := by decide +kernel
theorem dX4_spell_26 : decode cX4_spell 26 = .ok (.goto 35, 3) := by decide +kernel
theorem dX4_spell_29 : decode cX4_spell 29 = .ok (.iload_n 3, 1) := by decide +kernel
theorem dX4_spell_30 : decode cX4_spell 30 = .ok (.ifCond .le 17, 3) := by decide +kernel
theorem dX4_spell_33 : decode cX4_spell 33 = .ok (.iload_n 2, 1) := by decide +kernel
theorem dX4_spell_34 : decode cX4_spell 34 = .ok (.ifCond .ne 13, 3) := by decide +kernel
theorem dX4_spell_37 : decode cX4_spell 37 = .ok (.aload_n 0, 1) := by decide +kernel
theorem dX4_spell_38 : decode cX4_spell 38 = .ok (.getfield 20, 3) := by decide +kernel
theorem dX4_spell_41 : decode cX4_spell 41 = .ok (.bipush 32, 2) := by decide +kernel
theorem dX4_spell_43 : decode cX4_spell 43 = .ok (.invokevirtual 29, 3) := by decide +kernel
theorem dX4_spell_46 : decode cX4_spell 46 = .ok (.pop, 1) := by decide +kernel
theorem dX4_spell_47 : decode cX4_spell 47 = .ok (.aload_n 0, 1) := by decide +kernel
theorem dX4_spell_48 : decode cX4_spell 48 = .ok (.iload_n 2, 1) := by decide +kernel
theorem dX4_spell_49 : decode cX4_spell 49 = .ok (.invokevirtual 33, 3) := by decide +kernel
theorem dX4_spell_52 : decode cX4_spell 52 = .ok (.aload_n 0, 1) := by decide +kernel
theorem dX4_spell_53 : decode cX4_spell 53 = .ok (.aload_n 1, 1) := by decide +kernel
theorem dX4_spell_54 : decode cX4_spell 54 = .ok (.iload_n 3, 1) := by decide +kernel
theorem dX4_spell_55 : decode cX4_spell 55 = .ok (.iaload, 1) := by decide +kernel
theorem dX4_spell_56 : decode cX4_spell 56 = .ok (.invokevirtual 36, 3) := by decide +kernel
theorem dX4_spell_59 : decode cX4_spell 59 = .ok (.iconst 0, 1) := by decide +kernel
theorem dX4_spell_60 : decode cX4_spell 60 = .ok (.istore_n 2, 1) := by decide +kernel
theorem dX4_spell_61 : decode cX4_spell 61 = .ok (.iinc 3 1, 3) := by decide +kernel
theorem dX4_spell_64 : decode cX4_spell 64 = .ok (.goto (-53), 3) := by decide +kernel
theorem dX4_spell_67 : decode cX4_spell 67 = .ok (.aload_n 0, 1) := by decide +kernel
theorem dX4_spell_68 : decode cX4_spell 68 = .ok (.iload_n 2, 1) := by decide +kernel
theorem dX4_spell_69 : decode cX4_spell 69 = .ok (.invokevirtual 33, 3) := by decide +kernel
theorem dX4_spell_72 : decode cX4_spell 72 = .ok (.return_, 1) := by decide +kernel
theorem dX4_spellEmpty_0 : decode cX4_spellEmpty 0 = .ok (.iload_n 1, 1) := by decide +kernel
theorem dX4_spellEmpty_1 : decode cX4_spellEmpty 1 = .ok (.istore_n 2, 1) := by decide +kernel
theorem dX4_spellEmpty_2 : decode cX4_spellEmpty 2 = .ok (.iload_n 2, 1) := by decide +kernel
theorem dX4_spellEmpty_3 : decode cX4_spellEmpty 3 = .ok (.bipush 26, 2) := by decide +kernel
theorem dX4_spellEmpty_5 : decode cX4_spellEmpty 5 = .ok (.if_icmp .lt 19, 3) := by decide +kernel
theorem dX4_spellEmpty_8 : decode cX4_spellEmpty 8 = .ok (.aload_n 0, 1) := by decide +kernel
theorem dX4_spellEmpty_9 : decode cX4_spellEmpty 9 = .ok (.getfield 20, 3) := by decide +kernel
theorem dX4_spellEmpty_12 : decode cX4_spellEmpty 12 = .ok (.bipush 122, 2) := by decide +kernel
theorem dX4_spellEmpty_14 : decode cX4_spellEmpty 14 = .ok (.invokevirtual 29, 3) := by decide +kernel
theorem dX4_spellEmpty_17 : decode cX4_spellEmpty 17 = .ok (.pop, 1) := by decide +kernel
theorem dX4_spellEmpty_18 : decode cX4_spellEmpty 18 = .ok (.iinc 2 (-26), 3) := by decide +kernel
theorem dX4_spellEmpty_21 : decode cX4_spellEmpty 21 = .ok (.goto (-19), 3) := by decide +kernel
theorem dX4_spellEmpty_24 : decode cX4_spellEmpty 24 = .ok (.iload_n 2, 1) := by decide +kernel
theorem dX4_spellEmpty_25 : decode cX4_spellEmpty 25 = .ok (.ifCond .le 15, 3) := by decide +kernel
theorem dX4_spellEmpty_28 : decode cX4_spellEmpty 28 = .ok (.aload_n 0, 1) := by decide +kernel
theorem dX4_spellEmpty_29 : decode cX4_spellEmpty 29 = .ok (.getfield 20, 3) := by decide +kernel
theorem dX4_spellEmpty_32 : decode cX4_spellEmpty 32 = .ok (.bipush 96, 2) := by decide +kernel
theorem dX4_spellEmpty_34 : decode cX4_spellEmpty 34 = .ok (.iload_n 2, 1) := by decide +kernel
theorem dX4_spellEmpty_35 : decode cX4_spellEmpty 35 = .ok (.iadd, 1) := by decide +kernel
theorem dX4_spellEmpty_36 : decode cX4_spellEmpty 36 = .ok (.invokevirtual 29, 3) := by decide +kernel
theorem dX4_spellEmpty_39 : decode cX4_spellEmpty 39 = .ok (.pop, 1) := by decide +kernel
theorem dX4_spellEmpty_40 : decode cX4_spellEmpty 40 = .ok (.return_, 1) := by decide +kernel
theorem dX4_spellNumber_0 : decode cX4_spellNumber 0 = .ok (.iload_n 1, 1) := by decide +kernel
theorem dX4_spellNumber_1 : decode cX4_spellNumber 1 = .ok (.bipush 10, 2) := by decide +kernel
theorem dX4_spellNumber_3 : decode cX4_spellNumber 3 = .ok (.if_icmp .lt 18, 3) := by decide +kernel
theorem dX4_spellNumber_6 : decode cX4_spellNumber 6 = .ok (.aload_n 0, 1) := by decide +kernel
theorem dX4_spellNumber_7 : decode cX4_spellNumber 7 = .ok (.getfield 20, 3) := by decide +kernel
theorem dX4_spellNumber_10 : decode cX4_spellNumber 10 = .ok (.bipush 48, 2) := by decide +kernel
theorem dX4_spellNumber_12 : decode cX4_spellNumber 12 = .ok (.iload_n 1, 1) := by decide +kernel
theorem dX4_spellNumber_13 : decode cX4_spellNumber 13 = .ok (.bipush 10, 2) := by decide +kernel
theorem dX4_spellNumber_15 : decode cX4_spellNumber 15 = .ok (.idiv, 1) := by decide +kernel
theorem dX4_spellNumber_16 : decode cX4_spellNumber 16 = .ok (.iadd, 1) := by decide +kernel
theorem dX4_spellNumber_17 : decode cX4_spellNumber 17 = .ok (.invokevirtual 29, 3) := by decide +kernel
theorem dX4_spellNumber_20 : decode cX4_spellNumber 20 = .ok (.pop, 1) := by decide +kernel
theorem dX4_spellNumber_21 : decode cX4_spellNumber 21 = .ok (.aload_n 0, 1) := by decide +kernel
theorem dX4_spellNumber_22 : decode cX4_spellNumber 22 = .ok (.getfield 20, 3) := by decide +kernel
theorem dX4_spellNumber_25 : decode cX4_spellNumber 25 = .ok (.bipush 48, 2) := by decide +kernel
theorem dX4_spellNumber_27 : decode cX4_spellNumber 27 = .ok (.iload_n 1, 1) := by decide +kernel
theorem dX4_spellNumber_28 : decode cX4_spellNumber 28 = .ok (.bipush 10, 2) := by decide +kernel
theorem dX4_spellNumber_30 : decode cX4_spellNumber 30 = .ok (.irem, 1) := by decide +kernel
theorem dX4_spellNumber_31 : decode cX4_spellNumber 31 = .ok (.iadd, 1) := by decide +kernel
theorem dX4_spellNumber_32 : decode cX4_spellNumber 32 = .ok (.invokevirtual 29, 3) := by decide +kernel
theorem dX4_spellNumber_35 : decode cX4_spellNumber 35 = .ok (.pop, 1) := by decide +kernel
theorem dX4_spellNumber_36 : decode cX4_spellNumber 36 = .ok (.return_, 1) := by decide +kernel
theorem dX5_init_0 : decode cX5_init 0 = .ok (.aload_n 0, 1) := by decide +kernel
theorem dX5_init_1 : decode cX5_init 1 = .ok (.invokespecial 3, 3) := by decide +kernel
theorem dX5_init_4 : decode cX5_init 4 = .ok (.aload_n 0, 1) := by decide +kernel
theorem dX5_init_5 : decode cX5_init 5 = .ok (.aload_n 1, 1) := by decide +kernel
theorem dX5_init_6 : decode cX5_init 6 = .ok (.putfield 9, 3) := by decide +kernel
theorem dX5_init_9 : decode cX5_init 9 = .ok (.aload_n 1, 1) := by decide +kernel
theorem dX5_init_10 : decode cX5_init 10 = .ok (.getfield 15, 3) := by decide +kernel
theorem dX5_init_13 : decode cX5_init 13 = .ok (.iconst 4, 1) := by decide +kernel
theorem dX5_init_14 : decode cX5_init 14 = .ok (.if_icmp .ne 11, 3) := by decide +kernel
theorem dX5_init_17 : decode cX5_init 17 = .ok (.aload_n 0, 1) := by decide +kernel
theorem dX5_init_18 : decode cX5_init 18 = .ok (.iconst 1, 1) := by decide +kernel
theorem dX5_init_19 : decode cX5_init 19 = .ok (.putfield 21, 3) := by decide +kernel
theorem dX5_init_22 : decode cX5_init 22 = .ok (.goto 45, 3) := by decide +kernel
theorem dX5_init_25 : decode cX5_init 25 = .ok (.aload_n 1, 1) := by decide +kernel
theorem dX5_init_26 : decode cX5_init 26 = .ok (.getfield 15, 3) := by decide +kernel
theorem dX5_init_29 : decode cX5_init 29 = .ok (.iconst 3, 1) := by decide +kernel
theorem dX5_init_30 : decode cX5_init 30 = .ok (.if_icmp .ne 16, 3) := by decide +kernel
theorem dX5_init_33 : decode cX5_init 33 = .ok (.aload_n 0, 1) := by decide +kernel
theorem dX5_init_34 : decode cX5_init 34 = .ok (.iconst 2, 1) := by decide +kernel
theorem dX5_init_35 : decode cX5_init 35 = .ok (.aload_n 1, 1) := by decide +kernel
theorem dX5_init_36 : decode cX5_init 36 = .ok (.getfield 24, 3) := by decide +kernel
theorem dX5_init_39 : decode cX5_init 39 = .ok (.imul, 1) := by decide +kernel
theorem dX5_init_40 : decode cX5_init 40 = .ok (.putfield 21, 3) := by decide +kernel
theorem dX5_init_43 : decode cX5_init 43 = .ok (.goto 24, 3) := by decide +kernel
theorem dX5_init_46 : decode cX5_init 46 = .ok (.aload_n 0, 1) := by decide +kernel
theorem dX5_init_47 : decode cX5_init 47 = .ok (.aload_n 1, 1) := by decide +kernel
theorem dX5_init_48 : decode cX5_init 48 = .ok (.getfield 24, 3) := by decide +kernel
theorem dX5_init_51 : decode cX5_init 51 = .ok (.aload_n 1, 1) := by decide +kernel
theorem dX5_init_52 : decode cX5_init 52 = .ok (.getfield 27, 3) := by decide +kernel
theorem dX5_init_55 : decode cX5_init 55 = .ok (.if_icmp .ne 8, 3) := by decide +kernel
theorem dX5_init_58 : decode cX5_init 58 = .ok (.bipush 8, 2) := by decide +kernel
theorem dX5_init_60 : decode cX5_init 60 = .ok (.goto 4, 3) := by decide +kernel
theorem dX5_init_63 : decode cX5_init 63 = .ok (.iconst 4, 1) := by decide +kernel
theorem dX5_init_64 : decode cX5_init 64 = .ok (.putfield 21, 3) := by decide +kernel
theorem dX5_init_67 : decode cX5_init 67 = .ok (.return_, 1) := by decide +kernel
theorem dX5_has_0 : decode cX5_has 0 = .ok (.iload_n 1, 1) := by decide +kernel
theorem dX5_has_1 : decode cX5_has 1 = .ok (.ifCond .lt 15, 3) := by decide +kernel
theorem dX5_has_4 : decode cX5_has 4 = .ok (.iload_n 1, 1) := by decide +kernel
theorem dX5_has_5 : decode cX5_has 5 = .ok (.aload_n 0, 1) := by decide +kernel
theorem dX5_has_6 : decode cX5_has 6 = .ok (.getfield 21, 3) := by decide +kernel
theorem dX5_has_9 : decode cX5_has 9 = .ok (.if_icmp .ge 7, 3) := by decide +kernel
theorem dX5_has_12 : decode cX5_has 12 = .ok (.iconst 1, 1) := by decide +kernel
theorem dX5_has_13 : decode cX5_has 13 = .ok (.goto 4, 3) := by decide +kernel
theorem dX5_has_16 : decode cX5_has 16 = .ok (.iconst 0, 1) := by decide +kernel
theorem dX5_has_17 : decode cX5_has 17 = .ok (.ireturn, 1) := by decide +kernel
theorem dX5_placeAfter_0 : decode cX5_placeAfter 0 = .ok (.aload_n 0, 1) := by decide +kernel
theorem dX5_placeAfter_1 : decode cX5_placeAfter 1 = .ok (.getfield 9, 3) := by decide +kernel
theorem dX5_placeAfter_4 : decode cX5_placeAfter 4 = .ok (.iload_n 2, 1) := by decide +kernel
theorem dX5_placeAfter_5 : decode cX5_placeAfter 5 = .ok (.invokevirtual 30, 3) := by decide +kernel
theorem dX5_placeAfter_8 : decode cX5_placeAfter 8 = .ok (.istore_n 3, 1) := by decide +kernel
theorem dX5_placeAfter_9 : decode cX5_placeAfter 9 = .ok (.aload_n 0, 1) := by decide +kernel
theorem dX5_placeAfter_10 : decode cX5_placeAfter 10 = .ok (.getfield 9, 3) := by decide +kernel
theorem dX5_placeAfter_13 : decode cX5_placeAfter 13 = .ok (.iload_n 2, 1) := by decide +kernel
theorem dX5_placeAfter_14 : decode cX5_placeAfter 14 = .ok (.invokevirtual 34, 3) := by decide +kernel
theorem dX5_placeAfter_17 : decode cX5_placeAfter 17 = .ok (.istore 4, 2) := by decide +kernel
theorem dX5_placeAfter_19 : decode cX5_placeAfter 19 = .ok (.aload_n 0, 1) := by decide +kernel
theorem dX5_placeAfter_20 : decode cX5_placeAfter 20 = .ok (.getfield 9, 3) := by decide +kernel
theorem dX5_placeAfter_23 : decode cX5_placeAfter 23 = .ok (.getfield 15, 3) := by decide +kernel
theorem dX5_placeAfter_26 : decode cX5_placeAfter 26 = .ok (.iconst 3, 1) := by decide +kernel
theorem dX5_placeAfter_27 : decode cX5_placeAfter 27 = .ok (.if_icmp .ne 19, 3) := by decide +kernel
theorem dX5_placeAfter_30 : decode cX5_placeAfter 30 = .ok (.aload_n 0, 1) := by decide +kernel
theorem dX5_placeAfter_31 : decode cX5_placeAfter 31 = .ok (.getfield 9, 3) := by decide +kernel
theorem dX5_placeAfter_34 : decode cX5_placeAfter 34 = .ok (.aload_n 0, 1) := by decide +kernel
theorem dX5_placeAfter_35 : decode cX5_placeAfter 35 = .ok (.iload_n 1, 1) := by decide +kernel
theorem dX5_placeAfter_36 : decode cX5_placeAfter 36 = .ok (.iload_n 3, 1) := by decide +kernel
theorem dX5_placeAfter_37 : decode cX5_placeAfter 37 = .ok (.invokevirtual 37, 3) := by decide +kernel
theorem dX5_placeAfter_40 : decode cX5_placeAfter 40 = .ok (.iload 4, 2) := by decide +kernel
theorem dX5_placeAfter_42 : decode cX5_placeAfter 42 = .ok (.invokevirtual 41, 3) := by decide +kernel
theorem dX5_placeAfter_45 : decode cX5_placeAfter 45 = .ok (.ireturn, 1) := by decide +kernel
theorem dX5_placeAfter_46 : decode cX5_placeAfter 46 = .ok (.iload_n 1, 1) := by decide +kernel
theorem dX5_placeAfter_47 : decode cX5_placeAfter 47 = .ok (.iconst 4, 1) := by decide +kernel
theorem dX5_placeAfter_48 : decode cX5_placeAfter 48 = .ok (.iand, 1) := by decide +kernel
theorem dX5_placeAfter_49 : decode cX5_placeAfter 49 = .ok (.ifCond .eq 7, 3) := by decide +kernel
theorem dX5_placeAfter_52 : decode cX5_placeAfter 52 = .ok (.iconst 1, 1) := by decide +kernel
theorem dX5_placeAfter_53 : decode cX5_placeAfter 53 = .ok (.goto 4, 3) := by decide +kernel
theorem dX5_placeAfter_56 : decode cX5_placeAfter 56 = .ok (.iconst 0, 1) := by decide +kernel
theorem dX5_placeAfter_57 : decode cX5_placeAfter 57 = .ok (.istore 5, 2) := by decide +kernel
theorem dX5_placeAfter_59 : decode cX5_placeAfter 59 = .ok (.iload 5, 2) := by decide +kernel
theorem dX5_placeAfter_61 : decode cX5_placeAfter 61 = .ok (.ifCond .eq 8, 3) := by decide +kernel
theorem dX5_placeAfter_64 : decode cX5_placeAfter 64 = .ok (.iload 4, 2) := by decide +kernel
theorem dX5_placeAfter_66 : decode cX5_placeAfter 66 = .ok (.goto 4, 3) := by decide +kernel
theorem dX5_placeAfter_69 : decode cX5_placeAfter 69 = .ok (.iload_n 3, 1) := by decide +kernel
theorem dX5_placeAfter_70 : decode cX5_placeAfter 70 = .ok (.istore 6, 2) := by decide +kernel
theorem dX5_placeAfter_72 : decode cX5_placeAfter 72 = .ok (.iload 5, 2) := by decide +kernel
theorem dX5_placeAfter_74 : decode cX5_placeAfter 74 = .ok (.ifCond .eq 7, 3) := by decide +kernel
theorem dX5_placeAfter_77 : decode cX5_placeAfter 77 = .ok (.iload_n 3, 1) := by decide +kernel
theorem dX5_placeAfter_78 : decode cX5_placeAfter 78 = .ok (.goto 5, 3) := by decide +kernel
theorem dX5_placeAfter_81 : decode cX5_placeAfter 81 = .ok (.iload 4, 2) := by decide +kernel
theorem dX5_placeAfter_83 : decode cX5_placeAfter 83 = .ok (.istore 7, 2) := by decide +kernel
theorem dX5_placeAfter_85 : decode cX5_placeAfter 85 = .ok (.iload_n 1, 1) := by decide +kernel
theorem dX5_placeAfter_86 : decode cX5_placeAfter 86 = .ok (.iconst 1, 1) := by decide +kernel
theorem dX5_placeAfter_87 : decode cX5_placeAfter 87 = .ok (.iand, 1) := by decide +kernel
theorem dX5_placeAfter_88 : decode cX5_placeAfter 88 = .ok (.ifCond .eq 18, 3) := by decide +kernel
theorem dX5_placeAfter_91 : decode cX5_placeAfter 91 = .ok (.aload_n 0, 1) := by decide +kernel
theorem dX5_placeAfter_92 : decode cX5_placeAfter 92 = .ok (.getfield 9, 3) := by decide +kernel
theorem dX5_placeAfter_95 : decode cX5_placeAfter 95 = .ok (.getfield 24, 3) := by decide +kernel
theorem dX5_placeAfter_98 : decode cX5_placeAfter 98 = .ok (.iconst 1, 1) := by decide +kernel
theorem dX5_placeAfter_99 : decode cX5_placeAfter 99 = .ok (.isub, 1) := by decide +kernel
theorem dX5_placeAfter_100 : decode cX5_placeAfter 100 = .ok (.iload 6, 2) := by decide +kernel
theorem dX5_placeAfter_102 : decode cX5_placeAfter 102 = .ok (.isub, 1) := by decide +kernel
theorem dX5_placeAfter_103 : decode cX5_placeAfter 103 = .ok (.goto 5, 3) := by decide +kernel
theorem dX5_placeAfter_106 : decode cX5_placeAfter 106 = .ok (.iload 6, 2) := by decide +kernel
theorem dX5_placeAfter_108 : decode cX5_placeAfter 108 = .ok (.istore 8, 2) := by decide +kernel
theorem dX5_placeAfter_110 : decode cX5_placeAfter 110 = .ok (.iload_n 1, 1) := by decide +kernel
theorem dX5_placeAfter_111 : decode cX5_placeAfter 111 = .ok (.iconst 2, 1) := by decide +kernel
theorem dX5_placeAfter_112 : decode cX5_placeAfter 112 = .ok (.iand, 1) := by decide +kernel
theorem dX5_placeAfter_113 : decode cX5_placeAfter 113 = .ok (.ifCond .eq 18, 3) := by decide +kernel
theorem dX5_placeAfter_116 : decode cX5_placeAfter 116 = .ok (.aload_n 0, 1) := by decide +kernel
theorem dX5_placeAfter_117 : decode cX5_placeAfter 117 = .ok (.getfield 9, 3) := by decide +kernel
theorem dX5_placeAfter_120 : decode cX5_placeAfter 120 = .ok (.getfield 27, 3) := by decide +kernel
theorem dX5_placeAfter_123 : decode cX5_placeAfter 123 = .ok (.iconst 1, 1) := by decide +kernel
theorem dX5_placeAfter_124 : decode cX5_placeAfter 124 = .ok (.isub, 1) := by decide +kernel
theorem dX5_placeAfter_125 : decode cX5_placeAfter 125 = .ok (.iload 7, 2) := by decide +kernel
theorem dX5_placeAfter_127 : decode cX5_placeAfter 127 = .ok (.isub, 1) := by decide +kernel
theorem dX5_placeAfter_128 : decode cX5_placeAfter 128 = .ok (.goto 5, 3) := by decide +kernel
theorem dX5_placeAfter_131 : decode cX5_placeAfter 131 = .ok (.iload 7, 2) := by decide +kernel
theorem dX5_placeAfter_133 : decode cX5_placeAfter 133 = .ok (.istore 9, 2) := by decide +kernel
theorem dX5_placeAfter_135 : decode cX5_placeAfter 135 = .ok (.aload_n 0, 1) := by decide +kernel
theorem dX5_placeAfter_136 : decode cX5_placeAfter 136 = .ok (.getfield 9, 3) := by decide +kernel
theorem dX5_placeAfter_139 : decode cX5_placeAfter 139 = .ok (.iload 8, 2) := by decide +kernel
theorem dX5_placeAfter_141 : decode cX5_placeAfter 141 = .ok (.iload 9, 2) := by decide +kernel
theorem dX5_placeAfter_143 : decode cX5_placeAfter 143 = .ok (.invokevirtual 41, 3) := by decide +kernel
theorem dX5_placeAfter_146 : decode cX5_placeAfter 146 = .ok (.ireturn, 1) := by decide +kernel
theorem dX5_columnAround_0 : decode cX5_columnAround 0 = .ok (.iload_n 1, 1) := by decide +kernel
theorem dX5_columnAround_1 : decode cX5_columnAround 1 = .ok (.iconst 1, 1) := by decide +kernel
theorem dX5_columnAround_2 : decode cX5_columnAround 2 = .ok (.ishr, 1) := by decide +kernel
theorem dX5_columnAround_3 : decode cX5_columnAround 3 = .ok (.istore_n 3, 1) := by decide +kernel
theorem dX5_columnAround_4 : decode cX5_columnAround 4 = .ok (.iload_n 1, 1) := by decide +kernel
theorem dX5_columnAround_5 : decode cX5_columnAround 5 = .ok (.iconst 1, 1) := by decide +kernel
theorem dX5_columnAround_6 : decode cX5_columnAround 6 = .ok (.iand, 1) := by decide +kernel
theorem dX5_columnAround_7 : decode cX5_columnAround 7 = .ok (.ifCond .ne 36, 3) := by decide +kernel
theorem dX5_columnAround_10 : decode cX5_columnAround 10 = .ok (.iload_n 2, 1) := by decide +kernel
theorem dX5_columnAround_11 : decode cX5_columnAround 11 = .ok (.iload_n 3, 1) := by decide +kernel
theorem dX5_columnAround_12 : decode cX5_columnAround 12 = .ok (.iadd, 1) := by decide +kernel
theorem dX5_columnAround_13 : decode cX5_columnAround 13 = .ok (.istore 4, 2) := by decide +kernel
theorem dX5_columnAround_15 : decode cX5_columnAround 15 = .ok (.iload 4, 2) := by decide +kernel
theorem dX5_columnAround_17 : decode cX5_columnAround 17 = .ok (.aload_n 0, 1) := by decide +kernel
theorem dX5_columnAround_18 : decode cX5_columnAround 18 = .ok (.getfield 9, 3) := by decide +kernel
theorem dX5_columnAround_21 : decode cX5_columnAround 21 = .ok (.getfield 24, 3) := by decide +kernel
theorem dX5_columnAround_24 : decode cX5_columnAround 24 = .ok (.if_icmp .lt 16, 3) := by decide +kernel
theorem dX5_columnAround_27 : decode cX5_columnAround 27 = .ok (.iload 4, 2) := by decide +kernel
theorem dX5_columnAround_29 : decode cX5_columnAround 29 = .ok (.aload_n 0, 1) := by decide +kernel
theorem dX5_columnAround_30 : decode cX5_columnAround 30 = .ok (.getfield 9, 3) := by decide +kernel
theorem dX5_columnAround_33 : decode cX5_columnAround 33 = .ok (.getfield 24, 3) := by decide +kernel
theorem dX5_columnAround_36 : decode cX5_columnAround 36 = .ok (.isub, 1) := by decide +kernel
theorem dX5_columnAround_37 : decode cX5_columnAround 37 = .ok (.goto 5, 3) := by decide +kernel
theorem dX5_columnAround_40 : decode cX5_columnAround 40 = .ok (.iload 4, 2) := by decide +kernel
theorem dX5_columnAround_42 : decode cX5_columnAround 42 = .ok (.ireturn, 1) := by decide +kernel
theorem dX5_columnAround_43 : decode cX5_columnAround 43 = .ok (.iload_n 3, 1) := by decide +kernel
theorem dX5_columnAround_44 : decode cX5_columnAround 44 = .ok (.iload_n 2, 1) := by decide +kernel
theorem dX5_columnAround_45 : decode cX5_columnAround 45 = .ok (.isub, 1) := by decide +kernel
theorem dX5_columnAround_46 : decode cX5_columnAround 46 = .ok (.istore 4, 2) := by decide +kernel
theorem dX5_columnAround_48 : decode cX5_columnAround 48 = .ok (.iload 4, 2) := by decide +kernel
theorem dX5_columnAround_50 : decode cX5_columnAround 50 = .ok (.ifCond .ge 16, 3) := by decide +kernel
theorem dX5_columnAround_53 : decode cX5_columnAround 53 = .ok (.iload 4, 2) := by decide +kernel
theorem dX5_columnAround_55 : decode cX5_columnAround 55 = .ok (.aload_n 0, 1) := by decide +kernel
theorem dX5_columnAround_56 : decode cX5_columnAround 56 = .ok (.getfield 9, 3) := by decide +kernel
theorem dX5_columnAround_59 : decode cX5_columnAround 59 = .ok (.getfield 24, 3) := by decide +kernel
theorem dX5_columnAround_62 : decode cX5_columnAround 62 = .ok (.iadd, 1) := by decide +kernel
theorem dX5_columnAround_63 : decode cX5_columnAround 63 = .ok (.goto 5, 3) := by decide +kernel
theorem dX5_columnAround_66 : decode cX5_columnAround 66 = .ok (.iload 4, 2) := by decide +kernel
theorem dX5_columnAround_68 : decode cX5_columnAround 68 = .ok (.ireturn, 1) := by decide +kernel
theorem dX6_init_0 : decode cX6_init 0 = .ok (.aload_n 0, 1) := by decide +kernel
theorem dX6_init_1 : decode cX6_init 1 = .ok (.invokespecial 1, 3) := by decide +kernel
theorem dX6_init_4 : decode cX6_init 4 = .ok (.aload_n 0, 1) := by decide +kernel
theorem dX6_init_5 : decode cX6_init 5 = .ok (.aload_n 2, 1) := by decide +kernel
theorem dX6_init_6 : decode cX6_init 6 = .ok (.putfield 7, 3) := by decide +kernel
theorem dX6_init_9 : decode cX6_init 9 = .ok (.aload_n 0, 1) := by decide +kernel
theorem dX6_init_10 : decode cX6_init 10 = .ok (.aload_n 1, 1) := by decide +kernel
theorem dX6_init_11 : decode cX6_init 11 = .ok (.getfield 13, 3) := by decide +kernel
theorem dX6_init_14 : decode cX6_init 14 = .ok (.newarray .int, 2) := by decide +kernel
theorem dX6_init_16 : decode cX6_init 16 = .ok (.putfield 19, 3) := by decide +kernel
theorem dX6_init_19 : decode cX6_init 19 = .ok (.aload_n 0, 1) := by decide +kernel
theorem dX6_init_20 : decode cX6_init 20 = .ok (.new 23, 3) := by decide +kernel
theorem dX6_init_23 : decode cX6_init 23 = .ok (.dup, 1) := by decide +kernel
theorem dX6_init_24 : decode cX6_init 24 = .ok (.aload_n 1, 1) := by decide +kernel
theorem dX6_init_25 : decode cX6_init 25 = .ok (.getfield 13, 3) := by decide +kernel
theorem dX6_init_28 : decode cX6_init 28 = .ok (.invokespecial 25, 3) := by decide +kernel
theorem dX6_init_31 : decode cX6_init 31 = .ok (.putfield 28, 3) := by decide +kernel
theorem dX6_init_34 : decode cX6_init 34 = .ok (.return_, 1) := by decide +kernel
theorem dX6_admitAll_0 : decode cX6_admitAll 0 = .ok (.iconst 0, 1) := by decide +kernel
theorem dX6_admitAll_1 : decode cX6_admitAll 1 = .ok (.istore_n 1, 1) := by decide +kernel
theorem dX6_admitAll_2 : decode cX6_admitAll 2 = .ok (.iload_n 1, 1) := by decide +kernel
theorem dX6_admitAll_3 : decode cX6_admitAll 3 = .ok (.aload_n 0, 1) := by decide +kernel
theorem dX6_admitAll_4 : decode cX6_admitAll 4 = .ok (.getfield 19, 3) := by decide +kernel
theorem dX6_admitAll_7 : decode cX6_admitAll 7 = .ok (.arraylength, 1) := by decide +kernel
theorem dX6_admitAll_8 : decode cX6_admitAll 8 = .ok (.if_icmp .ge 16, 3) := by decide +kernel
theorem dX6_admitAll_11 : decode cX6_admitAll 11 = .ok (.aload_n 0, 1) := by decide +kernel
theorem dX6_admitAll_12 : decode cX6_admitAll 12 = .ok (.getfield 19, 3) := by decide +kernel
theorem dX6_admitAll_15 : decode cX6_admitAll 15 = .ok (.iload_n 1, 1) := by decide +kernel
theorem dX6_admitAll_16 : decode cX6_admitAll 16 = .ok (.iconst (-1), 1) := by decide +kernel
theorem dX6_admitAll_17 : decode cX6_admitAll 17 = .ok (.iastore, 1) := by decide +kernel
theorem dX6_admitAll_18 : decode cX6_admitAll 18 = .ok (.iinc 1 1, 3) := by decide +kernel
theorem dX6_admitAll_21 : decode cX6_admitAll 21 = .ok (.goto (-19), 3) := by decide +kernel
theorem dX6_admitAll_24 : decode cX6_admitAll 24 = .ok (.return_, 1) := by decide +kernel
theorem dX6_admitArea_0 : decode cX6_admitArea 0 = .ok (.iconst 0, 1) := by decide +kernel
theorem dX6_admitArea_1 : decode cX6_admitArea 1 = .ok (.istore_n 3, 1) := by decide +kernel
theorem dX6_admitArea_2 : decode cX6_admitArea 2 = .ok (.iload_n 3, 1) := by decide +kernel
theorem dX6_admitArea_3 : decode cX6_admitArea 3 = .ok (.aload_n 0, 1) := by decide +kernel
theorem dX6_admitArea_4 : decode cX6_admitArea 4 = .ok (.getfield 19, 3) := by decide +kernel
theorem dX6_admitArea_7 : decode cX6_admitArea 7 = .ok (.arraylength, 1) := by decide +kernel
theorem dX6_admitArea_8 : decode cX6_admitArea 8 = .ok (.if_icmp .ge 34, 3) := by decide +kernel
theorem dX6_admitArea_11 : decode cX6_admitArea 11 = .ok (.iload_n 3, 1) := by decide +kernel
theorem dX6_admitArea_12 : decode cX6_admitArea 12 = .ok (.aload_n 1, 1) := by decide +kernel
theorem dX6_admitArea_13 : decode cX6_admitArea 13 = .ok (.arraylength, 1) := by decide +kernel
theorem dX6_admitArea_14 : decode cX6_admitArea 14 = .ok (.if_icmp .ge 28, 3) := by decide +kernel
theorem dX6_admitArea_17 : decode cX6_admitArea 17 = .ok (.aload_n 0, 1) := by decide +kernel
theorem dX6_admitArea_18 : decode cX6_admitArea 18 = .ok (.getfield 19, 3) := by decide +kernel
theorem dX6_admitArea_21 : decode cX6_admitArea 21 = .ok (.iload_n 3, 1) := by decide +kernel
theorem dX6_admitArea_22 : decode cX6_admitArea 22 = .ok (.aload_n 1, 1) := by decide +kernel
theorem dX6_admitArea_23 : decode cX6_admitArea 23 = .ok (.iload_n 3, 1) := by decide +kernel
theorem dX6_admitArea_24 : decode cX6_admitArea 24 = .ok (.iaload, 1) := by decide +kernel
theorem dX6_admitArea_25 : decode cX6_admitArea 25 = .ok (.iload_n 2, 1) := by decide +kernel
theorem dX6_admitArea_26 : decode cX6_admitArea 26 = .ok (.if_icmp .ne 7, 3) := by decide +kernel
theorem dX6_admitArea_29 : decode cX6_admitArea 29 = .ok (.iconst (-1), 1) := by decide +kernel
theorem dX6_admitArea_30 : decode cX6_admitArea 30 = .ok (.goto 5, 3) := by decide +kernel
theorem dX6_admitArea_33 : decode cX6_admitArea 33 = .ok (.bipush (-2), 2) := by decide +kernel
theorem dX6_admitArea_35 : decode cX6_admitArea 35 = .ok (.iastore, 1) := by decide +kernel
theorem dX6_admitArea_36 : decode cX6_admitArea 36 = .ok (.iinc 3 1, 3) := by decide +kernel
theorem dX6_admitArea_39 : decode cX6_admitArea 39 = .ok (.goto (-37), 3) := by decide +kernel
theorem dX6_admitArea_42 : decode cX6_admitArea 42 = .ok (.return_, 1) := by decide +kernel
theorem dX6_refuse_0 : decode cX6_refuse 0 = .ok (.iload_n 1, 1) := by decide +kernel
theorem dX6_refuse_1 : decode cX6_refuse 1 = .ok (.ifCond .lt 20, 3) := by decide +kernel
theorem dX6_refuse_4 : decode cX6_refuse 4 = .ok (.iload_n 1, 1) := by decide +kernel
theorem dX6_refuse_5 : decode cX6_refuse 5 = .ok (.aload_n 0, 1) := by decide +kernel
theorem dX6_refuse_6 : decode cX6_refuse 6 = .ok (.getfield 19, 3) := by decide +kernel
theorem dX6_refuse_9 : decode cX6_refuse 9 = .ok (.arraylength, 1) := by decide +kernel
theorem dX6_refuse_10 : decode cX6_refuse 10 = .ok (.if_icmp .ge 11, 3) := by decide +kernel
theorem dX6_refuse_13 : decode cX6_refuse 13 = .ok (.aload_n 0, 1) := by decide +kernel
theorem dX6_refuse_14 : decode cX6_refuse 14 = .ok (.getfield 19, 3) := by decide +kernel
theorem dX6_refuse_17 : decode cX6_refuse 17 = .ok (.iload_n 1, 1) := by decide +kernel
theorem dX6_refuse_18 : decode cX6_refuse 18 = .ok (.bipush (-2), 2) := by decide +kernel
theorem dX6_refuse_20 : decode cX6_refuse 20 = .ok (.iastore, 1) := by decide +kernel
theorem dX6_refuse_21 : decode cX6_refuse 21 = .ok (.return_, 1) := by decide +kernel
theorem dX6_stepsTo_0 : decode cX6_stepsTo 0 = .ok (.iload_n 1, 1) := by decide +kernel
theorem dX6_stepsTo_1 : decode cX6_stepsTo 1 = .ok (.ifCond .lt 21, 3) := by decide +kernel
theorem dX6_stepsTo_4 : decode cX6_stepsTo 4 = .ok (.iload_n 1, 1) := by decide +kernel
theorem dX6_stepsTo_5 : decode cX6_stepsTo 5 = .ok (.aload_n 0, 1) := by decide +kernel
theorem dX6_stepsTo_6 : decode cX6_stepsTo 6 = .ok (.getfield 19, 3) := by decide +kernel
theorem dX6_stepsTo_9 : decode cX6_stepsTo 9 = .ok (.arraylength, 1) := by decide +kernel
theorem dX6_stepsTo_10 : decode cX6_stepsTo 10 = .ok (.if_icmp .ge 12, 3) := by decide +kernel
theorem dX6_stepsTo_13 : decode cX6_stepsTo 13 = .ok (.aload_n 0, 1) := by decide +kernel
theorem dX6_stepsTo_14 : decode cX6_stepsTo 14 = .ok (.getfield 19, 3) := by decide +kernel
theorem dX6_stepsTo_17 : decode cX6_stepsTo 17 = .ok (.iload_n 1, 1) := by decide +kernel
theorem dX6_stepsTo_18 : decode cX6_stepsTo 18 = .ok (.iaload, 1) := by decide +kernel
theorem dX6_stepsTo_19 : decode cX6_stepsTo 19 = .ok (.goto 5, 3) := by decide +kernel
theorem dX6_stepsTo_22 : decode cX6_stepsTo 22 = .ok (.bipush (-2), 2) := by decide +kernel
theorem dX6_stepsTo_24 : decode cX6_stepsTo 24 = .ok (.ireturn, 1) := by decide +kernel
theorem dX6_countParts_0 : decode cX6_countParts 0 = .ok (.iconst 0, 1) := by decide +kernel
theorem dX6_countParts_1 : decode cX6_countParts 1 = .ok (.istore_n 1, 1) := by decide +kernel
theorem dX6_countParts_2 : decode cX6_countParts 2 = .ok (.iconst 0, 1) := by decide +kernel
theorem dX6_countParts_3 : decode cX6_countParts 3 = .ok (.istore_n 2, 1) := by decide +kernel
theorem dX6_countParts_4 : decode cX6_countParts 4 = .ok (.iload_n 2, 1) := by decide +kernel
theorem dX6_countParts_5 : decode cX6_countParts 5 = .ok (.aload_n 0, 1) := by decide +kernel
theorem dX6_countParts_6 : decode cX6_countParts 6 = .ok (.getfield 19, 3) := by decide +kernel
theorem dX6_countParts_9 : decode cX6_countParts 9 = .ok (.arraylength, 1) := by decide +kernel
theorem dX6_countParts_10 : decode cX6_countParts 10 = .ok (.if_icmp .ge 27, 3) := by decide +kernel
theorem dX6_countParts_13 : decode cX6_countParts 13 = .ok (.aload_n 0, 1) := by decide +kernel
theorem dX6_countParts_14 : decode cX6_countParts 14 = .ok (.getfield 19, 3) := by decide +kernel
theorem dX6_countParts_17 : decode cX6_countParts 17 = .ok (.iload_n 2, 1) := by decide +kernel
theorem dX6_countParts_18 : decode cX6_countParts 18 = .ok (.iaload, 1) := by decide +kernel
theorem dX6_countParts_19 : decode cX6_countParts 19 = .ok (.iconst (-1), 1) := by decide +kernel
theorem dX6_countParts_20 : decode cX6_countParts 20 = .ok (.if_icmp .ne 11, 3) := by decide +kernel
theorem dX6_countParts_23 : decode cX6_countParts 23 = .ok (.iinc 1 1, 3) := by decide +kernel
theorem dX6_countParts_26 : decode cX6_countParts 26 = .ok (.aload_n 0, 1) := by decide +kernel
theorem dX6_countParts_27 : decode cX6_countParts 27 = .ok (.iload_n 2, 1) := by decide +kernel
theorem dX6_countParts_28 : decode cX6_countParts 28 = .ok (.invokevirtual 32, 3) := by decide +kernel
theorem dX6_countParts_31 : decode cX6_countParts 31 = .ok (.iinc 2 1, 3) := by decide +kernel
theorem dX6_countParts_34 : decode cX6_countParts 34 = .ok (.goto (-30), 3) := by decide +kernel
theorem dX6_countParts_37 : decode cX6_countParts 37 = .ok (.iload_n 1, 1) := by decide +kernel
theorem dX6_countParts_38 : decode cX6_countParts 38 = .ok (.ireturn, 1) := by decide +kernel
theorem dX6_spreadFrom_0 : decode cX6_spreadFrom 0 = .ok (.aload_n 0, 1) := by decide +kernel
theorem dX6_spreadFrom_1 : decode cX6_spreadFrom 1 = .ok (.getfield 28, 3) := by decide +kernel
theorem dX6_spreadFrom_4 : decode cX6_spreadFrom 4 = .ok (.invokevirtual 35, 3) := by decide +kernel
theorem dX6_spreadFrom_7 : decode cX6_spreadFrom 7 = .ok (.aload_n 0, 1) := by decide +kernel
theorem dX6_spreadFrom_8 : decode cX6_spreadFrom 8 = .ok (.iload_n 1, 1) := by decide +kernel
theorem dX6_spreadFrom_9 : decode cX6_spreadFrom 9 = .ok (.iconst 0, 1) := by decide +kernel
theorem dX6_spreadFrom_10 : decode cX6_spreadFrom 10 = .ok (.invokevirtual 38, 3) := by decide +kernel
theorem dX6_spreadFrom_13 : decode cX6_spreadFrom 13 = .ok (.iconst 0, 1) := by decide +kernel
theorem dX6_spreadFrom_14 : decode cX6_spreadFrom 14 = .ok (.istore_n 2, 1) := by decide +kernel
theorem dX6_spreadFrom_15 : decode cX6_spreadFrom 15 = .ok (.iload_n 2, 1) := by decide +kernel
theorem dX6_spreadFrom_16 : decode cX6_spreadFrom 16 = .ok (.aload_n 0, 1) := by decide +kernel
theorem dX6_spreadFrom_17 : decode cX6_spreadFrom 17 = .ok (.getfield 19, 3) := by decide +kernel
theorem dX6_spreadFrom_20 : decode cX6_spreadFrom 20 = .ok (.arraylength, 1) := by decide +kernel
theorem dX6_spreadFrom_21 : decode cX6_spreadFrom 21 = .ok (.if_icmp .ge 71, 3) := by decide +kernel
theorem dX6_spreadFrom_24 : decode cX6_spreadFrom 24 = .ok (.iload_n 2, 1) := by decide +kernel
theorem dX6_spreadFrom_25 : decode cX6_spreadFrom 25 = .ok (.aload_n 0, 1) := by decide +kernel
theorem dX6_spreadFrom_26 : decode cX6_spreadFrom 26 = .ok (.getfield 28, 3) := by decide +kernel
theorem dX6_spreadFrom_29 : decode cX6_spreadFrom 29 = .ok (.invokevirtual 42, 3) := by decide +kernel
theorem dX6_spreadFrom_32 : decode cX6_spreadFrom 32 = .ok (.if_icmp .ge 60, 3) := by decide +kernel
theorem dX6_spreadFrom_35 : decode cX6_spreadFrom 35 = .ok (.aload_n 0, 1) := by decide +kernel
theorem dX6_spreadFrom_36 : decode cX6_spreadFrom 36 = .ok (.getfield 28, 3) := by decide +kernel
theorem dX6_spreadFrom_39 : decode cX6_spreadFrom 39 = .ok (.iload_n 2, 1) := by decide +kernel
theorem dX6_spreadFrom_40 : decode cX6_spreadFrom 40 = .ok (.invokevirtual 46, 3) := by decide +kernel
theorem dX6_spreadFrom_43 : decode cX6_spreadFrom 43 = .ok (.istore_n 3, 1) := by decide +kernel
theorem dX6_spreadFrom_44 : decode cX6_spreadFrom 44 = .ok (.iconst 0, 1) := by decide +kernel
theorem dX6_spreadFrom_45 : decode cX6_spreadFrom 45 = .ok (.istore 4, 2) := by decide +kernel
theorem dX6_spreadFrom_47 : decode cX6_spreadFrom 47 = .ok (.iload 4, 2) := by decide +kernel
theorem dX6_spreadFrom_49 : decode cX6_spreadFrom 49 = .ok (.aload_n 0, 1) := by decide +kernel
theorem dX6_spreadFrom_50 : decode cX6_spreadFrom 50 = .ok (.getfield 7, 3) := by decide +kernel
theorem dX6_spreadFrom_53 : decode cX6_spreadFrom 53 = .ok (.getfield 50, 3) := by decide +kernel
theorem dX6_spreadFrom_56 : decode cX6_spreadFrom 56 = .ok (.if_icmp .ge 30, 3) := by decide +kernel
theorem dX6_spreadFrom_59 : decode cX6_spreadFrom 59 = .ok (.aload_n 0, 1) := by decide +kernel
theorem dX6_spreadFrom_60 : decode cX6_spreadFrom 60 = .ok (.aload_n 0, 1) := by decide +kernel
theorem dX6_spreadFrom_61 : decode cX6_spreadFrom 61 = .ok (.getfield 7, 3) := by decide +kernel
theorem dX6_spreadFrom_64 : decode cX6_spreadFrom 64 = .ok (.iload_n 3, 1) := by decide +kernel
theorem dX6_spreadFrom_65 : decode cX6_spreadFrom 65 = .ok (.iload 4, 2) := by decide +kernel
theorem dX6_spreadFrom_67 : decode cX6_spreadFrom 67 = .ok (.invokevirtual 55, 3) := by decide +kernel
theorem dX6_spreadFrom_70 : decode cX6_spreadFrom 70 = .ok (.aload_n 0, 1) := by decide +kernel
theorem dX6_spreadFrom_71 : decode cX6_spreadFrom 71 = .ok (.iload_n 3, 1) := by decide +kernel
theorem dX6_spreadFrom_72 : decode cX6_spreadFrom 72 = .ok (.invokevirtual 59, 3) := by decide +kernel
theorem dX6_spreadFrom_75 : decode cX6_spreadFrom 75 = .ok (.iconst 1, 1) := by decide +kernel
theorem dX6_spreadFrom_76 : decode cX6_spreadFrom 76 = .ok (.iadd, 1) := by decide +kernel
theorem dX6_spreadFrom_77 : decode cX6_spreadFrom 77 = .ok (.invokevirtual 38, 3) := by decide +kernel
theorem dX6_spreadFrom_80 : decode cX6_spreadFrom 80 = .ok (.iinc 4 1, 3) := by decide +kernel
theorem dX6_spreadFrom_83 : decode cX6_spreadFrom 83 = .ok (.goto (-36), 3) := by decide +kernel
theorem dX6_spreadFrom_86 : decode cX6_spreadFrom 86 = .ok (.iinc 2 1, 3) := by decide +kernel
theorem dX6_spreadFrom_89 : decode cX6_spreadFrom 89 = .ok (.goto (-74), 3) := by decide +kernel
theorem dX6_spreadFrom_92 : decode cX6_spreadFrom 92 = .ok (.return_, 1) := by decide +kernel
theorem dX6_reach_0 : decode cX6_reach 0 = .ok (.iload_n 1, 1) := by decide +kernel
theorem dX6_reach_1 : decode cX6_reach 1 = .ok (.ifCond .lt 38, 3) := by decide +kernel
theorem dX6_reach_4 : decode cX6_reach 4 = .ok (.iload_n 1, 1) := by decide +kernel
theorem dX6_reach_5 : decode cX6_reach 5 = .ok (.aload_n 0, 1) := by decide +kernel
theorem dX6_reach_6 : decode cX6_reach 6 = .ok (.getfield 19, 3) := by decide +kernel
theorem dX6_reach_9 : decode cX6_reach 9 = .ok (.arraylength, 1) := by decide +kernel
theorem dX6_reach_10 : decode cX6_reach 10 = .ok (.if_icmp .ge 29, 3) := by decide +kernel
theorem dX6_reach_13 : decode cX6_reach 13 = .ok (.aload_n 0, 1) := by decide +kernel
theorem dX6_reach_14 : decode cX6_reach 14 = .ok (.getfield 19, 3) := by decide +kernel
theorem dX6_reach_17 : decode cX6_reach 17 = .ok (.iload_n 1, 1) := by decide +kernel
theorem dX6_reach_18 : decode cX6_reach 18 = .ok (.iaload, 1) := by decide +kernel
theorem dX6_reach_19 : decode cX6_reach 19 = .ok (.iconst (-1), 1) := by decide +kernel
theorem dX6_reach_20 : decode cX6_reach 20 = .ok (.if_icmp .ne 19, 3) := by decide +kernel
theorem dX6_reach_23 : decode cX6_reach 23 = .ok (.aload_n 0, 1) := by decide +kernel
theorem dX6_reach_24 : decode cX6_reach 24 = .ok (.getfield 19, 3) := by decide +kernel
theorem dX6_reach_27 : decode cX6_reach 27 = .ok (.iload_n 1, 1) := by decide +kernel
theorem dX6_reach_28 : decode cX6_reach 28 = .ok (.iload_n 2, 1) := by decide +kernel
theorem dX6_reach_29 : decode cX6_reach 29 = .ok (.iastore, 1) := by decide +kernel
theorem dX6_reach_30 : decode cX6_reach 30 = .ok (.aload_n 0, 1) := by decide +kernel
theorem dX6_reach_31 : decode cX6_reach 31 = .ok (.getfield 28, 3) := by decide +kernel
theorem dX6_reach_34 : decode cX6_reach 34 = .ok (.iload_n 1, 1) := by decide +kernel
theorem dX6_reach_35 : decode cX6_reach 35 = .ok (.invokevirtual 62, 3) := by decide +kernel
theorem dX6_reach_38 : decode cX6_reach 38 = .ok (.pop, 1) := by decide +kernel
theorem dX6_reach_39 : decode cX6_reach 39 = .ok (.return_, 1) := by decide +kernel
theorem dX7_init_0 : decode cX7_init 0 = .ok (.aload_n 0, 1) := by decide +kernel
theorem dX7_init_1 : decode cX7_init 1 = .ok (.invokespecial 1, 3) := by decide +kernel
theorem dX7_init_4 : decode cX7_init 4 = .ok (.aload_n 0, 1) := by decide +kernel
theorem dX7_init_5 : decode cX7_init 5 = .ok (.new 7, 3) := by decide +kernel
theorem dX7_init_8 : decode cX7_init 8 = .ok (.dup, 1) := by decide +kernel
theorem dX7_init_9 : decode cX7_init 9 = .ok (.iload_n 1, 1) := by decide +kernel
theorem dX7_init_10 : decode cX7_init 10 = .ok (.iload_n 2, 1) := by decide +kernel
theorem dX7_init_11 : decode cX7_init 11 = .ok (.iload_n 3, 1) := by decide +kernel
theorem dX7_init_12 : decode cX7_init 12 = .ok (.invokespecial 9, 3) := by decide +kernel
theorem dX7_init_15 : decode cX7_init 15 = .ok (.putfield 12, 3) := by decide +kernel
theorem dX7_init_18 : decode cX7_init 18 = .ok (.aload_n 0, 1) := by decide +kernel
theorem dX7_init_19 : decode cX7_init 19 = .ok (.new 18, 3) := by decide +kernel
theorem dX7_init_22 : decode cX7_init 22 = .ok (.dup, 1) := by decide +kernel
theorem dX7_init_23 : decode cX7_init 23 = .ok (.aload_n 0, 1) := by decide +kernel
theorem dX7_init_24 : decode cX7_init 24 = .ok (.getfield 12, 3) := by decide +kernel
theorem dX7_init_27 : decode cX7_init 27 = .ok (.invokespecial 20, 3) := by decide +kernel
theorem dX7_init_30 : decode cX7_init 30 = .ok (.putfield 23, 3) := by decide +kernel
theorem dX7_init_33 : decode cX7_init 33 = .ok (.aload_n 0, 1) := by decide +kernel
theorem dX7_init_34 : decode cX7_init 34 = .ok (.new 27, 3) := by decide +kernel
theorem dX7_init_37 : decode cX7_init 37 = .ok (.dup, 1) := by decide +kernel
theorem dX7_init_38 : decode cX7_init 38 = .ok (.aload_n 0, 1) := by decide +kernel
theorem dX7_init_39 : decode cX7_init 39 = .ok (.getfield 12, 3) := by decide +kernel
theorem dX7_init_42 : decode cX7_init 42 = .ok (.invokespecial 29, 3) := by decide +kernel
theorem dX7_init_45 : decode cX7_init 45 = .ok (.putfield 30, 3) := by decide +kernel
theorem dX7_init_48 : decode cX7_init 48 = .ok (.aload_n 0, 1) := by decide +kernel
theorem dX7_init_49 : decode cX7_init 49 = .ok (.new 34, 3) := by decide +kernel
theorem dX7_init_52 : decode cX7_init 52 = .ok (.dup, 1) := by decide +kernel
theorem dX7_init_53 : decode cX7_init 53 = .ok (.aload_n 0, 1) := by decide +kernel
theorem dX7_init_54 : decode cX7_init 54 = .ok (.getfield 12, 3) := by decide +kernel
theorem dX7_init_57 : decode cX7_init 57 = .ok (.aload_n 0, 1) := by decide +kernel
theorem dX7_init_58 : decode cX7_init 58 = .ok (.getfield 23, 3) := by decide +kernel
theorem dX7_init_61 : decode cX7_init 61 = .ok (.invokespecial 36, 3) := by decide +kernel
theorem dX7_init_64 : decode cX7_init 64 = .ok (.putfield 39, 3) := by decide +kernel
theorem dX7_init_67 : decode cX7_init 67 = .ok (.aload_n 0, 1) := by decide +kernel
theorem dX7_init_68 : decode cX7_init 68 = .ok (.new 43, 3) := by decide +kernel
theorem dX7_init_71 : decode cX7_init 71 = .ok (.dup, 1) := by decide +kernel
theorem dX7_init_72 : decode cX7_init 72 = .ok (.aload_n 0, 1) := by decide +kernel
theorem dX7_init_73 : decode cX7_init 73 = .ok (.getfield 12, 3) := by decide +kernel
theorem dX7_init_76 : decode cX7_init 76 = .ok (.invokespecial 45, 3) := by decide +kernel
theorem dX7_init_79 : decode cX7_init 79 = .ok (.putfield 46, 3) := by decide +kernel
theorem dX7_init_82 : decode cX7_init 82 = .ok (.aload_n 0, 1) := by decide +kernel
theorem dX7_init_83 : decode cX7_init 83 = .ok (.new 50, 3) := by decide +kernel
theorem dX7_init_86 : decode cX7_init 86 = .ok (.dup, 1) := by decide +kernel
theorem dX7_init_87 : decode cX7_init 87 = .ok (.aload_n 0, 1) := by decide +kernel
theorem dX7_init_88 : decode cX7_init 88 = .ok (.getfield 12, 3) := by decide +kernel
theorem dX7_init_91 : decode cX7_init 91 = .ok (.invokespecial 52, 3) := by decide +kernel
theorem dX7_init_94 : decode cX7_init 94 = .ok (.putfield 53, 3) := by decide +kernel
theorem dX7_init_97 : decode cX7_init 97 = .ok (.aload_n 0, 1) := by decide +kernel
theorem dX7_init_98 : decode cX7_init 98 = .ok (.new 57, 3) := by decide +kernel
theorem dX7_init_101 : decode cX7_init 101 = .ok (.dup, 1) := by decide +kernel
theorem dX7_init_102 : decode cX7_init 102 = .ok (.sipush 1200, 3) := by decide +kernel
theorem dX7_init_105 : decode cX7_init 105 = .ok (.invokespecial 59, 3) := by decide +kernel
theorem dX7_init_108 : decode cX7_init 108 = .ok (.putfield 62, 3) := by decide +kernel
theorem dX7_init_111 : decode cX7_init 111 = .ok (.aload_n 0, 1) := by decide +kernel
theorem dX7_init_112 : decode cX7_init 112 = .ok (.aload_n 0, 1) := by decide +kernel
theorem dX7_init_113 : decode cX7_init 113 = .ok (.getfield 12, 3) := by decide +kernel
theorem dX7_init_116 : decode cX7_init 116 = .ok (.getfield 66, 3) := by decide +kernel
theorem dX7_init_119 : decode cX7_init 119 = .ok (.newarray .int, 2) := by decide +kernel
theorem dX7_init_121 : decode cX7_init 121 = .ok (.putfield 70, 3) := by decide +kernel
theorem dX7_init_124 : decode cX7_init 124 = .ok (.aload_n 0, 1) := by decide +kernel
theorem dX7_init_125 : decode cX7_init 125 = .ok (.aload_n 0, 1) := by decide +kernel
theorem dX7_init_126 : decode cX7_init 126 = .ok (.getfield 12, 3) := by decide +kernel
theorem dX7_init_129 : decode cX7_init 129 = .ok (.getfield 66, 3) := by decide +kernel
theorem dX7_init_132 : decode cX7_init 132 = .ok (.newarray .int, 2) := by decide +kernel
theorem dX7_init_134 : decode cX7_init 134 = .ok (.putfield 74, 3) := by decide +kernel
theorem dX7_init_137 : decode cX7_init 137 = .ok (.return_, 1) := by decide +kernel
theorem dX7_join_0 : decode cX7_join 0 = .ok (.aload_n 0, 1) := by decide +kernel
theorem dX7_join_1 : decode cX7_join 1 = .ok (.iload_n 1, 1) := by decide +kernel
theorem dX7_join_2 : decode cX7_join 2 = .ok (.invokevirtual 77, 3) := by decide +kernel
theorem dX7_join_5 : decode cX7_join 5 = .ok (.aload_n 0, 1) := by decide +kernel
theorem dX7_join_6 : decode cX7_join 6 = .ok (.iload_n 2, 1) := by decide +kernel
theorem dX7_join_7 : decode cX7_join 7 = .ok (.invokevirtual 77, 3) := by decide +kernel
theorem dX7_join_10 : decode cX7_join 10 = .ok (.aload_n 0, 1) := by decide +kernel
theorem dX7_join_11 : decode cX7_join 11 = .ok (.getfield 12, 3) := by decide +kernel
theorem dX7_join_14 : decode cX7_join 14 = .ok (.getfield 80, 3) := by decide +kernel
theorem dX7_join_17 : decode cX7_join 17 = .ok (.iconst 4, 1) := by decide +kernel
theorem dX7_join_18 : decode cX7_join 18 = .ok (.if_icmp .ne 21, 3) := by decide +kernel
theorem dX7_join_21 : decode cX7_join 21 = .ok (.iload_n 1, 1) := by decide +kernel
theorem dX7_join_22 : decode cX7_join 22 = .ok (.iload_n 2, 1) := by decide +kernel
theorem dX7_join_23 : decode cX7_join 23 = .ok (.if_icmp .eq 16, 3) := by decide +kernel
theorem dX7_join_26 : decode cX7_join 26 = .ok (.aload_n 0, 1) := by decide +kernel
theorem dX7_join_27 : decode cX7_join 27 = .ok (.getfield 23, 3) := by decide +kernel
theorem dX7_join_30 : decode cX7_join 30 = .ok (.iload_n 1, 1) := by decide +kernel
theorem dX7_join_31 : decode cX7_join 31 = .ok (.iload_n 2, 1) := by decide +kernel
theorem dX7_join_32 : decode cX7_join 32 = .ok (.invokevirtual 83, 3) := by decide +kernel
theorem dX7_join_35 : decode cX7_join 35 = .ok (.iconst (-1), 1) := by decide +kernel
theorem dX7_join_36 : decode cX7_join 36 = .ok (.if_icmp .eq 5, 3) := by decide +kernel
theorem dX7_join_39 : decode cX7_join 39 = .ok (.iconst 0, 1) := by decide +kernel
theorem dX7_join_40 : decode cX7_join 40 = .ok (.ireturn, 1) := by decide +kernel
theorem dX7_join_41 : decode cX7_join 41 = .ok (.aload_n 0, 1) := by decide +kernel
theorem dX7_join_42 : decode cX7_join 42 = .ok (.getfield 23, 3) := by decide +kernel
theorem dX7_join_45 : decode cX7_join 45 = .ok (.iload_n 1, 1) := by decide +kernel
theorem dX7_join_46 : decode cX7_join 46 = .ok (.iload_n 2, 1) := by decide +kernel
theorem dX7_join_47 : decode cX7_join 47 = .ok (.invokevirtual 87, 3) := by decide +kernel
theorem dX7_join_50 : decode cX7_join 50 = .ok (.iconst 1, 1) := by decide +kernel
theorem dX7_join_51 : decode cX7_join 51 = .ok (.ireturn, 1) := by decide +kernel
theorem dX7_places_0 : decode cX7_places 0 = .ok (.aload_n 0, 1) := by decide +kernel
theorem dX7_places_1 : decode cX7_places 1 = .ok (.getfield 12, 3) := by decide +kernel
theorem dX7_places_4 : decode cX7_places 4 = .ok (.getfield 66, 3) := by decide +kernel
theorem dX7_places_7 : decode cX7_places 7 = .ok (.ireturn, 1) := by decide +kernel
theorem dX7_degree_0 : decode cX7_degree 0 = .ok (.aload_n 0, 1) := by decide +kernel
theorem dX7_degree_1 : decode cX7_degree 1 = .ok (.iload_n 1, 1) := by decide +kernel
theorem dX7_degree_2 : decode cX7_degree 2 = .ok (.invokevirtual 77, 3) := by decide +kernel
theorem dX7_degree_5 : decode cX7_degree 5 = .ok (.iconst 0, 1) := by decide +kernel
theorem dX7_degree_6 : decode cX7_degree 6 = .ok (.istore_n 3, 1) := by decide +kernel
theorem dX7_degree_7 : decode cX7_degree 7 = .ok (.iconst 0, 1) := by decide +kernel
theorem dX7_degree_8 : decode cX7_degree 8 = .ok (.istore 4, 2) := by decide +kernel
theorem dX7_degree_10 : decode cX7_degree 10 = .ok (.iload 4, 2) := by decide +kernel
theorem dX7_degree_12 : decode cX7_degree 12 = .ok (.aload_n 0, 1) := by decide +kernel
theorem dX7_degree_13 : decode cX7_degree 13 = .ok (.getfield 23, 3) := by decide +kernel
theorem dX7_degree_16 : decode cX7_degree 16 = .ok (.getfield 91, 3) := by decide +kernel
theorem dX7_degree_19 : decode cX7_degree 19 = .ok (.if_icmp .ge 47, 3) := by decide +kernel
theorem dX7_degree_22 : decode cX7_degree 22 = .ok (.iload_n 2, 1) := by decide +kernel
theorem dX7_degree_23 : decode cX7_degree 23 = .ok (.ifCond .eq 16, 3) := by decide +kernel
theorem dX7_degree_26 : decode cX7_degree 26 = .ok (.aload_n 0, 1) := by decide +kernel
theorem dX7_degree_27 : decode cX7_degree 27 = .ok (.getfield 23, 3) := by decide +kernel
theorem dX7_degree_30 : decode cX7_degree 30 = .ok (.iload_n 1, 1) := by decide +kernel
theorem dX7_degree_31 : decode cX7_degree 31 = .ok (.iload 4, 2) := by decide +kernel
theorem dX7_degree_33 : decode cX7_degree 33 = .ok (.invokevirtual 94, 3) := by decide +kernel
theorem dX7_degree_36 : decode cX7_degree 36 = .ok (.goto 13, 3) := by decide +kernel
theorem dX7_degree_39 : decode cX7_degree 39 = .ok (.aload_n 0, 1) := by decide +kernel
theorem dX7_degree_40 : decode cX7_degree 40 = .ok (.getfield 23, 3) := by decide +kernel
theorem dX7_degree_43 : decode cX7_degree 43 = .ok (.iload_n 1, 1) := by decide +kernel
theorem dX7_degree_44 : decode cX7_degree 44 = .ok (.iload 4, 2) := by decide +kernel
theorem dX7_degree_46 : decode cX7_degree 46 = .ok (.invokevirtual 97, 3) := by decide +kernel
theorem dX7_degree_49 : decode cX7_degree 49 = .ok (.istore 5, 2) := by decide +kernel
theorem dX7_degree_51 : decode cX7_degree 51 = .ok (.iload 5, 2) := by decide +kernel
theorem dX7_degree_53 : decode cX7_degree 53 = .ok (.iconst (-1), 1) := by decide +kernel
theorem dX7_degree_54 : decode cX7_degree 54 = .ok (.if_icmp .eq 6, 3) := by decide +kernel
theorem dX7_degree_57 : decode cX7_degree 57 = .ok (.iinc 3 1, 3) := by decide +kernel
theorem dX7_degree_60 : decode cX7_degree 60 = .ok (.iinc 4 1, 3) := by decide +kernel
theorem dX7_degree_63 : decode cX7_degree 63 = .ok (.goto (-53), 3) := by decide +kernel
theorem dX7_degree_66 : decode cX7_degree 66 = .ok (.iload_n 3, 1) := by decide +kernel
theorem dX7_degree_67 : decode cX7_degree 67 = .ok (.ireturn, 1) := by decide +kernel
theorem dX7_neighbour_0 : decode cX7_neighbour 0 = .ok (.aload_n 0, 1) := by decide +kernel
theorem dX7_neighbour_1 : decode cX7_neighbour 1 = .ok (.iload_n 1, 1) := by decide +kernel
theorem dX7_neighbour_2 : decode cX7_neighbour 2 = .ok (.invokevirtual 77, 3) := by decide +kernel
theorem dX7_neighbour_5 : decode cX7_neighbour 5 = .ok (.iconst 0, 1) := by decide +kernel
theorem dX7_neighbour_6 : decode cX7_neighbour 6 = .ok (.istore_n 3, 1) := by decide +kernel
theorem dX7_neighbour_7 : decode cX7_neighbour 7 = .ok (.iconst 0, 1) := by decide +kernel
theorem dX7_neighbour_8 : decode cX7_neighbour 8 = .ok (.istore 4, 2) := by decide +kernel
theorem dX7_neighbour_10 : decode cX7_neighbour 10 = .ok (.iload 4, 2) := by decide +kernel
theorem dX7_neighbour_12 : decode cX7_neighbour 12 = .ok (.aload_n 0, 1) := by decide +kernel
theorem dX7_neighbour_13 : decode cX7_neighbour 13 = .ok (.getfield 23, 3) := by decide +kernel
theorem dX7_neighbour_16 : decode cX7_neighbour 16 = .ok (.getfield 91, 3) := by decide +kernel
theorem dX7_neighbour_19 : decode cX7_neighbour 19 = .ok (.if_icmp .ge 38, 3) := by decide +kernel
theorem dX7_neighbour_22 : decode cX7_neighbour 22 = .ok (.aload_n 0, 1) := by decide +kernel
theorem dX7_neighbour_23 : decode cX7_neighbour 23 = .ok (.getfield 23, 3) := by decide +kernel
theorem dX7_neighbour_26 : decode cX7_neighbour 26 = .ok (.iload_n 1, 1) := by decide +kernel
theorem dX7_neighbour_27 : decode cX7_neighbour 27 = .ok (.iload 4, 2) := by decide +kernel
theorem dX7_neighbour_29 : decode cX7_neighbour 29 = .ok (.invokevirtual 97, 3) := by decide +kernel
theorem dX7_neighbour_32 : decode cX7_neighbour 32 = .ok (.istore 5, 2) := by decide +kernel
theorem dX7_neighbour_34 : decode cX7_neighbour 34 = .ok (.iload 5, 2) := by decide +kernel
theorem dX7_neighbour_36 : decode cX7_neighbour 36 = .ok (.iconst (-1), 1) := by decide +kernel
theorem dX7_neighbour_37 : decode cX7_neighbour 37 = .ok (.if_icmp .eq 14, 3) := by decide +kernel
theorem dX7_neighbour_40 : decode cX7_neighbour 40 = .ok (.iload_n 3, 1) := by decide +kernel
theorem dX7_neighbour_41 : decode cX7_neighbour 41 = .ok (.iload_n 2, 1) := by decide +kernel
theorem dX7_neighbour_42 : decode cX7_neighbour 42 = .ok (.if_icmp .ne 6, 3) := by decide +kernel
theorem dX7_neighbour_45 : decode cX7_neighbour 45 = .ok (.iload 5, 2) := by decide +kernel
theorem dX7_neighbour_47 : decode cX7_neighbour 47 = .ok (.ireturn, 1) := by decide +kernel
theorem dX7_neighbour_48 : decode cX7_neighbour 48 = .ok (.iinc 3 1, 3) := by decide +kernel
theorem dX7_neighbour_51 : decode cX7_neighbour 51 = .ok (.iinc 4 1, 3) := by decide +kernel
theorem dX7_neighbour_54 : decode cX7_neighbour 54 = .ok (.goto (-44), 3) := by decide +kernel
theorem dX7_neighbour_57 : decode cX7_neighbour 57 = .ok (.iconst (-1), 1) := by decide +kernel
theorem dX7_neighbour_58 : decode cX7_neighbour 58 = .ok (.ireturn, 1) := by decide +kernel
theorem dX7_wall_0 : decode cX7_wall 0 = .ok (.aload_n 0, 1) := by decide +kernel
theorem dX7_wall_1 : decode cX7_wall 1 = .ok (.iload_n 1, 1) := by decide +kernel
theorem dX7_wall_2 : decode cX7_wall 2 = .ok (.invokevirtual 77, 3) := by decide +kernel
theorem dX7_wall_5 : decode cX7_wall 5 = .ok (.aload_n 0, 1) := by decide +kernel
theorem dX7_wall_6 : decode cX7_wall 6 = .ok (.iload_n 2, 1) := by decide +kernel
theorem dX7_wall_7 : decode cX7_wall 7 = .ok (.invokevirtual 77, 3) := by decide +kernel
theorem dX7_wall_10 : decode cX7_wall 10 = .ok (.aload_n 0, 1) := by decide +kernel
theorem dX7_wall_11 : decode cX7_wall 11 = .ok (.getfield 23, 3) := by decide +kernel
theorem dX7_wall_14 : decode cX7_wall 14 = .ok (.iload_n 1, 1) := by decide +kernel
theorem dX7_wall_15 : decode cX7_wall 15 = .ok (.iload_n 2, 1) := by decide +kernel
theorem dX7_wall_16 : decode cX7_wall 16 = .ok (.invokevirtual 83, 3) := by decide +kernel
theorem dX7_wall_19 : decode cX7_wall 19 = .ok (.istore 4, 2) := by decide +kernel
theorem dX7_wall_21 : decode cX7_wall 21 = .ok (.iload 4, 2) := by decide +kernel
theorem dX7_wall_23 : decode cX7_wall 23 = .ok (.iconst (-1), 1) := by decide +kernel
theorem dX7_wall_24 : decode cX7_wall 24 = .ok (.if_icmp .eq 17, 3) := by decide +kernel
theorem dX7_wall_27 : decode cX7_wall 27 = .ok (.aload_n 0, 1) := by decide +kernel
theorem dX7_wall_28 : decode cX7_wall 28 = .ok (.getfield 23, 3) := by decide +kernel
theorem dX7_wall_31 : decode cX7_wall 31 = .ok (.iload_n 1, 1) := by decide +kernel
theorem dX7_wall_32 : decode cX7_wall 32 = .ok (.iload 4, 2) := by decide +kernel
theorem dX7_wall_34 : decode cX7_wall 34 = .ok (.invokevirtual 100, 3) := by decide +kernel
theorem dX7_wall_37 : decode cX7_wall 37 = .ok (.iload_n 3, 1) := by decide +kernel
theorem dX7_wall_38 : decode cX7_wall 38 = .ok (.if_icmp .ne 5, 3) := by decide +kernel
theorem dX7_wall_41 : decode cX7_wall 41 = .ok (.iconst 0, 1) := by decide +kernel
theorem dX7_wall_42 : decode cX7_wall 42 = .ok (.ireturn, 1) := by decide +kernel
theorem dX7_wall_43 : decode cX7_wall 43 = .ok (.aload_n 0, 1) := by decide +kernel
theorem dX7_wall_44 : decode cX7_wall 44 = .ok (.getfield 23, 3) := by decide +kernel
theorem dX7_wall_47 : decode cX7_wall 47 = .ok (.iload_n 1, 1) := by decide +kernel
theorem dX7_wall_48 : decode cX7_wall 48 = .ok (.iload 4, 2) := by decide +kernel
theorem dX7_wall_50 : decode cX7_wall 50 = .ok (.iload_n 3, 1) := by decide +kernel
theorem dX7_wall_51 : decode cX7_wall 51 = .ok (.invokevirtual 104, 3) := by decide +kernel
theorem dX7_wall_54 : decode cX7_wall 54 = .ok (.aload_n 0, 1) := by decide +kernel
theorem dX7_wall_55 : decode cX7_wall 55 = .ok (.getfield 23, 3) := by decide +kernel
theorem dX7_wall_58 : decode cX7_wall 58 = .ok (.iload_n 2, 1) := by decide +kernel
theorem dX7_wall_59 : decode cX7_wall 59 = .ok (.aload_n 0, 1) := by decide +kernel
theorem dX7_wall_60 : decode cX7_wall 60 = .ok (.getfield 23, 3) := by decide +kernel
theorem dX7_wall_63 : decode cX7_wall 63 = .ok (.iload_n 2, 1) := by decide +kernel
theorem dX7_wall_64 : decode cX7_wall 64 = .ok (.iload_n 1, 1) := by decide +kernel
theorem dX7_wall_65 : decode cX7_wall 65 = .ok (.invokevirtual 83, 3) := by decide +kernel
theorem dX7_wall_68 : decode cX7_wall 68 = .ok (.iload_n 3, 1) := by decide +kernel
theorem dX7_wall_69 : decode cX7_wall 69 = .ok (.invokevirtual 104, 3) := by decide +kernel
theorem dX7_wall_72 : decode cX7_wall 72 = .ok (.iconst 1, 1) := by decide +kernel
theorem dX7_wall_73 : decode cX7_wall 73 = .ok (.ireturn, 1) := by decide +kernel
theorem dX7_pairs_0 : decode cX7_pairs 0 = .ok (.iconst 0, 1) := by decide +kernel
theorem dX7_pairs_1 : decode cX7_pairs 1 = .ok (.istore_n 2, 1) := by decide +kernel
theorem dX7_pairs_2 : decode cX7_pairs 2 = .ok (.iconst 0, 1) := by decide +kernel
theorem dX7_pairs_3 : decode cX7_pairs 3 = .ok (.istore_n 3, 1) := by decide +kernel
theorem dX7_pairs_4 : decode cX7_pairs 4 = .ok (.iload_n 3, 1) := by decide +kernel
theorem dX7_pairs_5 : decode cX7_pairs 5 = .ok (.aload_n 0, 1) := by decide +kernel
theorem dX7_pairs_6 : decode cX7_pairs 6 = .ok (.getfield 12, 3) := by decide +kernel
theorem dX7_pairs_9 : decode cX7_pairs 9 = .ok (.getfield 66, 3) := by decide +kernel
theorem dX7_pairs_12 : decode cX7_pairs 12 = .ok (.if_icmp .ge 76, 3) := by decide +kernel
theorem dX7_pairs_15 : decode cX7_pairs 15 = .ok (.iconst 0, 1) := by decide +kernel
theorem dX7_pairs_16 : decode cX7_pairs 16 = .ok (.istore 4, 2) := by decide +kernel
theorem dX7_pairs_18 : decode cX7_pairs 18 = .ok (.iload 4, 2) := by decide +kernel
theorem dX7_pairs_20 : decode cX7_pairs 20 = .ok (.aload_n 0, 1) := by decide +kernel
theorem dX7_pairs_21 : decode cX7_pairs 21 = .ok (.getfield 23, 3) := by decide +kernel
theorem dX7_pairs_24 : decode cX7_pairs 24 = .ok (.getfield 91, 3) := by decide +kernel
theorem dX7_pairs_27 : decode cX7_pairs 27 = .ok (.if_icmp .ge 55, 3) := by decide +kernel
theorem dX7_pairs_30 : decode cX7_pairs 30 = .ok (.aload_n 0, 1) := by decide +kernel
theorem dX7_pairs_31 : decode cX7_pairs 31 = .ok (.getfield 23, 3) := by decide +kernel
theorem dX7_pairs_34 : decode cX7_pairs 34 = .ok (.iload_n 3, 1) := by decide +kernel
theorem dX7_pairs_35 : decode cX7_pairs 35 = .ok (.iload 4, 2) := by decide +kernel
theorem dX7_pairs_37 : decode cX7_pairs 37 = .ok (.invokevirtual 97, 3) := by decide +kernel
theorem dX7_pairs_40 : decode cX7_pairs 40 = .ok (.iload_n 3, 1) := by decide +kernel
theorem dX7_pairs_41 : decode cX7_pairs 41 = .ok (.if_icmp .le 7, 3) := by decide +kernel
theorem dX7_pairs_44 : decode cX7_pairs 44 = .ok (.iconst 1, 1) := by decide +kernel
theorem dX7_pairs_45 : decode cX7_pairs 45 = .ok (.goto 4, 3) := by decide +kernel
theorem dX7_pairs_48 : decode cX7_pairs 48 = .ok (.iconst 0, 1) := by decide +kernel
theorem dX7_pairs_49 : decode cX7_pairs 49 = .ok (.istore 5, 2) := by decide +kernel
theorem dX7_pairs_51 : decode cX7_pairs 51 = .ok (.iload 5, 2) := by decide +kernel
theorem dX7_pairs_53 : decode cX7_pairs 53 = .ok (.ifCond .eq 23, 3) := by decide +kernel
theorem dX7_pairs_56 : decode cX7_pairs 56 = .ok (.iload_n 1, 1) := by decide +kernel
theorem dX7_pairs_57 : decode cX7_pairs 57 = .ok (.ifCond .eq 16, 3) := by decide +kernel
theorem dX7_pairs_60 : decode cX7_pairs 60 = .ok (.aload_n 0, 1) := by decide +kernel
theorem dX7_pairs_61 : decode cX7_pairs 61 = .ok (.getfield 23, 3) := by decide +kernel
theorem dX7_pairs_64 : decode cX7_pairs 64 = .ok (.iload_n 3, 1) := by decide +kernel
theorem dX7_pairs_65 : decode cX7_pairs 65 = .ok (.iload 4, 2) := by decide +kernel
theorem dX7_pairs_67 : decode cX7_pairs 67 = .ok (.invokevirtual 100, 3) := by decide +kernel
theorem dX7_pairs_70 : decode cX7_pairs 70 = .ok (.ifCond .eq 6, 3) := by decide +kernel
theorem dX7_pairs_73 : decode cX7_pairs 73 = .ok (.iinc 2 1, 3) := by decide +kernel
theorem dX7_pairs_76 : decode cX7_pairs 76 = .ok (.iinc 4 1, 3) := by decide +kernel
theorem dX7_pairs_79 : decode cX7_pairs 79 = .ok (.goto (-61), 3) := by decide +kernel
theorem dX7_pairs_82 : decode cX7_pairs 82 = .ok (.iinc 3 1, 3) := by decide +kernel
theorem dX7_pairs_85 : decode cX7_pairs 85 = .ok (.goto (-81), 3) := by decide +kernel
theorem dX7_pairs_88 : decode cX7_pairs 88 = .ok (.iload_n 2, 1) := by decide +kernel
theorem dX7_pairs_89 : decode cX7_pairs 89 = .ok (.ireturn, 1) := by decide +kernel
theorem dX7_pair_0 : decode cX7_pair 0 = .ok (.iconst 0, 1) := by decide +kernel
theorem dX7_pair_1 : decode cX7_pair 1 = .ok (.istore_n 3, 1) := by decide +kernel
theorem dX7_pair_2 : decode cX7_pair 2 = .ok (.iconst 0, 1) := by decide +kernel
theorem dX7_pair_3 : decode cX7_pair 3 = .ok (.istore 4, 2) := by decide +kernel
theorem dX7_pair_5 : decode cX7_pair 5 = .ok (.iload 4, 2) := by decide +kernel
theorem dX7_pair_7 : decode cX7_pair 7 = .ok (.aload_n 0, 1) := by decide +kernel
theorem dX7_pair_8 : decode cX7_pair 8 = .ok (.getfield 12, 3) := by decide +kernel
theorem dX7_pair_11 : decode cX7_pair 11 = .ok (.getfield 66, 3) := by decide +kernel
theorem dX7_pair_14 : decode cX7_pair 14 = .ok (.if_icmp .ge 82, 3) := by decide +kernel
theorem dX7_pair_17 : decode cX7_pair 17 = .ok (.aload_n 0, 1) := by decide +kernel
theorem dX7_pair_18 : decode cX7_pair 18 = .ok (.getfield 23, 3) := by decide +kernel
theorem dX7_pair_21 : decode cX7_pair 21 = .ok (.iload 4, 2) := by decide +kernel
theorem dX7_pair_23 : decode cX7_pair 23 = .ok (.iload 4, 2) := by decide +kernel
theorem dX7_pair_25 : decode cX7_pair 25 = .ok (.invokevirtual 108, 3) := by decide +kernel
theorem dX7_pair_28 : decode cX7_pair 28 = .ok (.istore 5, 2) := by decide +kernel
theorem dX7_pair_30 : decode cX7_pair 30 = .ok (.iconst 0, 1) := by decide +kernel
theorem dX7_pair_31 : decode cX7_pair 31 = .ok (.istore 6, 2) := by decide +kernel
theorem dX7_pair_33 : decode cX7_pair 33 = .ok (.iload 6, 2) := by decide +kernel
