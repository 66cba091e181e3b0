theorem dX8_turned_143 : decode cX8_turned 143 = .ok (.aload_n 0, 1) := by decide +kernel
theorem dX8_turned_144 : decode cX8_turned 144 = .ok (.getfield 47, 3) := by decide +kernel
theorem dX8_turned_147 : decode cX8_turned 147 = .ok (.iconst 1, 1) := by decide +kernel
theorem dX8_turned_148 : decode cX8_turned 148 = .ok (.isub, 1) := by decide +kernel
theorem dX8_turned_149 : decode cX8_turned 149 = .ok (.iload 6, 2) := by decide +kernel
theorem dX8_turned_151 : decode cX8_turned 151 = .ok (.isub, 1) := by decide +kernel
theorem dX8_turned_152 : decode cX8_turned 152 = .ok (.goto 5, 3) := by decide +kernel
theorem dX8_turned_155 : decode cX8_turned 155 = .ok (.iload 6, 2) := by decide +kernel
theorem dX8_turned_157 : decode cX8_turned 157 = .ok (.invokevirtual 61, 3) := by decide +kernel
theorem dX8_turned_160 : decode cX8_turned 160 = .ok (.ireturn, 1) := by decide +kernel
theorem dX8_image_0 : decode cX8_image 0 = .ok (.aload_n 0, 1) := by decide +kernel
theorem dX8_image_1 : decode cX8_image 1 = .ok (.aload_n 0, 1) := by decide +kernel
theorem dX8_image_2 : decode cX8_image 2 = .ok (.iload_n 2, 1) := by decide +kernel
theorem dX8_image_3 : decode cX8_image 3 = .ok (.invokevirtual 70, 3) := by decide +kernel
theorem dX8_image_6 : decode cX8_image 6 = .ok (.ifCond .ne 7, 3) := by decide +kernel
theorem dX8_image_9 : decode cX8_image 9 = .ok (.iconst 1, 1) := by decide +kernel
theorem dX8_image_10 : decode cX8_image 10 = .ok (.goto 4, 3) := by decide +kernel
theorem dX8_image_13 : decode cX8_image 13 = .ok (.iconst 0, 1) := by decide +kernel
theorem dX8_image_14 : decode cX8_image 14 = .ok (.invokevirtual 74, 3) := by decide +kernel
theorem dX8_image_17 : decode cX8_image 17 = .ok (.ifCond .eq 5, 3) := by decide +kernel
theorem dX8_image_20 : decode cX8_image 20 = .ok (.iconst 0, 1) := by decide +kernel
theorem dX8_image_21 : decode cX8_image 21 = .ok (.ireturn, 1) := by decide +kernel
theorem dX8_image_22 : decode cX8_image 22 = .ok (.aload_n 0, 1) := by decide +kernel
theorem dX8_image_23 : decode cX8_image 23 = .ok (.iload_n 1, 1) := by decide +kernel
theorem dX8_image_24 : decode cX8_image 24 = .ok (.invokevirtual 95, 3) := by decide +kernel
theorem dX8_image_27 : decode cX8_image 27 = .ok (.ifCond .eq 12, 3) := by decide +kernel
theorem dX8_image_30 : decode cX8_image 30 = .ok (.aload_n 0, 1) := by decide +kernel
theorem dX8_image_31 : decode cX8_image 31 = .ok (.iload_n 1, 1) := by decide +kernel
theorem dX8_image_32 : decode cX8_image 32 = .ok (.iload_n 2, 1) := by decide +kernel
theorem dX8_image_33 : decode cX8_image 33 = .ok (.invokevirtual 98, 3) := by decide +kernel
theorem dX8_image_36 : decode cX8_image 36 = .ok (.goto 4, 3) := by decide +kernel
theorem dX8_image_39 : decode cX8_image 39 = .ok (.iconst (-1), 1) := by decide +kernel
theorem dX8_image_40 : decode cX8_image 40 = .ok (.ireturn, 1) := by decide +kernel
theorem dX8_isKept_0 : decode cX8_isKept 0 = .ok (.iconst 0, 1) := by decide +kernel
theorem dX8_isKept_1 : decode cX8_isKept 1 = .ok (.istore_n 2, 1) := by decide +kernel
theorem dX8_isKept_2 : decode cX8_isKept 2 = .ok (.iload_n 2, 1) := by decide +kernel
theorem dX8_isKept_3 : decode cX8_isKept 3 = .ok (.aload_n 0, 1) := by decide +kernel
theorem dX8_isKept_4 : decode cX8_isKept 4 = .ok (.invokevirtual 50, 3) := by decide +kernel
theorem dX8_isKept_7 : decode cX8_isKept 7 = .ok (.if_icmp .ge 120, 3) := by decide +kernel
theorem dX8_isKept_10 : decode cX8_isKept 10 = .ok (.aload_n 0, 1) := by decide +kernel
theorem dX8_isKept_11 : decode cX8_isKept 11 = .ok (.iload_n 1, 1) := by decide +kernel
theorem dX8_isKept_12 : decode cX8_isKept 12 = .ok (.iload_n 2, 1) := by decide +kernel
theorem dX8_isKept_13 : decode cX8_isKept 13 = .ok (.invokevirtual 98, 3) := by decide +kernel
theorem dX8_isKept_16 : decode cX8_isKept 16 = .ok (.istore_n 3, 1) := by decide +kernel
theorem dX8_isKept_17 : decode cX8_isKept 17 = .ok (.aload_n 0, 1) := by decide +kernel
theorem dX8_isKept_18 : decode cX8_isKept 18 = .ok (.getfield 21, 3) := by decide +kernel
theorem dX8_isKept_21 : decode cX8_isKept 21 = .ok (.iload_n 2, 1) := by decide +kernel
theorem dX8_isKept_22 : decode cX8_isKept 22 = .ok (.iaload, 1) := by decide +kernel
theorem dX8_isKept_23 : decode cX8_isKept 23 = .ok (.aload_n 0, 1) := by decide +kernel
theorem dX8_isKept_24 : decode cX8_isKept 24 = .ok (.getfield 21, 3) := by decide +kernel
theorem dX8_isKept_27 : decode cX8_isKept 27 = .ok (.iload_n 3, 1) := by decide +kernel
theorem dX8_isKept_28 : decode cX8_isKept 28 = .ok (.iaload, 1) := by decide +kernel
theorem dX8_isKept_29 : decode cX8_isKept 29 = .ok (.if_icmp .eq 5, 3) := by decide +kernel
theorem dX8_isKept_32 : decode cX8_isKept 32 = .ok (.iconst 0, 1) := by decide +kernel
theorem dX8_isKept_33 : decode cX8_isKept 33 = .ok (.ireturn, 1) := by decide +kernel
theorem dX8_isKept_34 : decode cX8_isKept 34 = .ok (.iconst 0, 1) := by decide +kernel
theorem dX8_isKept_35 : decode cX8_isKept 35 = .ok (.istore 4, 2) := by decide +kernel
theorem dX8_isKept_37 : decode cX8_isKept 37 = .ok (.iload 4, 2) := by decide +kernel
theorem dX8_isKept_39 : decode cX8_isKept 39 = .ok (.aload_n 0, 1) := by decide +kernel
theorem dX8_isKept_40 : decode cX8_isKept 40 = .ok (.invokevirtual 50, 3) := by decide +kernel
theorem dX8_isKept_43 : decode cX8_isKept 43 = .ok (.if_icmp .ge 78, 3) := by decide +kernel
theorem dX8_isKept_46 : decode cX8_isKept 46 = .ok (.aload_n 0, 1) := by decide +kernel
theorem dX8_isKept_47 : decode cX8_isKept 47 = .ok (.iload_n 1, 1) := by decide +kernel
theorem dX8_isKept_48 : decode cX8_isKept 48 = .ok (.iload 4, 2) := by decide +kernel
theorem dX8_isKept_50 : decode cX8_isKept 50 = .ok (.invokevirtual 98, 3) := by decide +kernel
theorem dX8_isKept_53 : decode cX8_isKept 53 = .ok (.istore 5, 2) := by decide +kernel
theorem dX8_isKept_55 : decode cX8_isKept 55 = .ok (.aload_n 0, 1) := by decide +kernel
theorem dX8_isKept_56 : decode cX8_isKept 56 = .ok (.getfield 8, 3) := by decide +kernel
theorem dX8_isKept_59 : decode cX8_isKept 59 = .ok (.sipush 256, 3) := by decide +kernel
theorem dX8_isKept_62 : decode cX8_isKept 62 = .ok (.iload_n 2, 1) := by decide +kernel
theorem dX8_isKept_63 : decode cX8_isKept 63 = .ok (.imul, 1) := by decide +kernel
theorem dX8_isKept_64 : decode cX8_isKept 64 = .ok (.iload 4, 2) := by decide +kernel
theorem dX8_isKept_66 : decode cX8_isKept 66 = .ok (.iadd, 1) := by decide +kernel
theorem dX8_isKept_67 : decode cX8_isKept 67 = .ok (.baload, 1) := by decide +kernel
theorem dX8_isKept_68 : decode cX8_isKept 68 = .ok (.aload_n 0, 1) := by decide +kernel
theorem dX8_isKept_69 : decode cX8_isKept 69 = .ok (.getfield 8, 3) := by decide +kernel
theorem dX8_isKept_72 : decode cX8_isKept 72 = .ok (.sipush 256, 3) := by decide +kernel
theorem dX8_isKept_75 : decode cX8_isKept 75 = .ok (.iload_n 3, 1) := by decide +kernel
theorem dX8_isKept_76 : decode cX8_isKept 76 = .ok (.imul, 1) := by decide +kernel
theorem dX8_isKept_77 : decode cX8_isKept 77 = .ok (.iload 5, 2) := by decide +kernel
theorem dX8_isKept_79 : decode cX8_isKept 79 = .ok (.iadd, 1) := by decide +kernel
theorem dX8_isKept_80 : decode cX8_isKept 80 = .ok (.baload, 1) := by decide +kernel
theorem dX8_isKept_81 : decode cX8_isKept 81 = .ok (.if_icmp .ne 32, 3) := by decide +kernel
theorem dX8_isKept_84 : decode cX8_isKept 84 = .ok (.aload_n 0, 1) := by decide +kernel
theorem dX8_isKept_85 : decode cX8_isKept 85 = .ok (.getfield 14, 3) := by decide +kernel
theorem dX8_isKept_88 : decode cX8_isKept 88 = .ok (.sipush 256, 3) := by decide +kernel
theorem dX8_isKept_91 : decode cX8_isKept 91 = .ok (.iload_n 2, 1) := by decide +kernel
theorem dX8_isKept_92 : decode cX8_isKept 92 = .ok (.imul, 1) := by decide +kernel
theorem dX8_isKept_93 : decode cX8_isKept 93 = .ok (.iload 4, 2) := by decide +kernel
theorem dX8_isKept_95 : decode cX8_isKept 95 = .ok (.iadd, 1) := by decide +kernel
theorem dX8_isKept_96 : decode cX8_isKept 96 = .ok (.baload, 1) := by decide +kernel
theorem dX8_isKept_97 : decode cX8_isKept 97 = .ok (.aload_n 0, 1) := by decide +kernel
theorem dX8_isKept_98 : decode cX8_isKept 98 = .ok (.getfield 14, 3) := by decide +kernel
theorem dX8_isKept_101 : decode cX8_isKept 101 = .ok (.sipush 256, 3) := by decide +kernel
theorem dX8_isKept_104 : decode cX8_isKept 104 = .ok (.iload_n 3, 1) := by decide +kernel
theorem dX8_isKept_105 : decode cX8_isKept 105 = .ok (.imul, 1) := by decide +kernel
theorem dX8_isKept_106 : decode cX8_isKept 106 = .ok (.iload 5, 2) := by decide +kernel
theorem dX8_isKept_108 : decode cX8_isKept 108 = .ok (.iadd, 1) := by decide +kernel
theorem dX8_isKept_109 : decode cX8_isKept 109 = .ok (.baload, 1) := by decide +kernel
theorem dX8_isKept_110 : decode cX8_isKept 110 = .ok (.if_icmp .eq 5, 3) := by decide +kernel
theorem dX8_isKept_113 : decode cX8_isKept 113 = .ok (.iconst 0, 1) := by decide +kernel
theorem dX8_isKept_114 : decode cX8_isKept 114 = .ok (.ireturn, 1) := by decide +kernel
theorem dX8_isKept_115 : decode cX8_isKept 115 = .ok (.iinc 4 1, 3) := by decide +kernel
theorem dX8_isKept_118 : decode cX8_isKept 118 = .ok (.goto (-81), 3) := by decide +kernel
theorem dX8_isKept_121 : decode cX8_isKept 121 = .ok (.iinc 2 1, 3) := by decide +kernel
theorem dX8_isKept_124 : decode cX8_isKept 124 = .ok (.goto (-122), 3) := by decide +kernel
theorem dX8_isKept_127 : decode cX8_isKept 127 = .ok (.iconst 1, 1) := by decide +kernel
theorem dX8_isKept_128 : decode cX8_isKept 128 = .ok (.ireturn, 1) := by decide +kernel
theorem dX8_keeps_0 : decode cX8_keeps 0 = .ok (.aload_n 0, 1) := by decide +kernel
theorem dX8_keeps_1 : decode cX8_keeps 1 = .ok (.iconst 0, 1) := by decide +kernel
theorem dX8_keeps_2 : decode cX8_keeps 2 = .ok (.putfield 58, 3) := by decide +kernel
theorem dX8_keeps_5 : decode cX8_keeps 5 = .ok (.aload_n 0, 1) := by decide +kernel
theorem dX8_keeps_6 : decode cX8_keeps 6 = .ok (.iload_n 1, 1) := by decide +kernel
theorem dX8_keeps_7 : decode cX8_keeps 7 = .ok (.invokevirtual 95, 3) := by decide +kernel
theorem dX8_keeps_10 : decode cX8_keeps 10 = .ok (.ifCond .eq 15, 3) := by decide +kernel
theorem dX8_keeps_13 : decode cX8_keeps 13 = .ok (.aload_n 0, 1) := by decide +kernel
theorem dX8_keeps_14 : decode cX8_keeps 14 = .ok (.iload_n 1, 1) := by decide +kernel
theorem dX8_keeps_15 : decode cX8_keeps 15 = .ok (.invokevirtual 101, 3) := by decide +kernel
theorem dX8_keeps_18 : decode cX8_keeps 18 = .ok (.ifCond .eq 7, 3) := by decide +kernel
theorem dX8_keeps_21 : decode cX8_keeps 21 = .ok (.iconst 1, 1) := by decide +kernel
theorem dX8_keeps_22 : decode cX8_keeps 22 = .ok (.goto 4, 3) := by decide +kernel
theorem dX8_keeps_25 : decode cX8_keeps 25 = .ok (.iconst 0, 1) := by decide +kernel
theorem dX8_keeps_26 : decode cX8_keeps 26 = .ok (.ireturn, 1) := by decide +kernel
theorem dX8_keeping_0 : decode cX8_keeping 0 = .ok (.aload_n 0, 1) := by decide +kernel
theorem dX8_keeping_1 : decode cX8_keeping 1 = .ok (.iconst 0, 1) := by decide +kernel
theorem dX8_keeping_2 : decode cX8_keeping 2 = .ok (.putfield 58, 3) := by decide +kernel
theorem dX8_keeping_5 : decode cX8_keeping 5 = .ok (.iconst 0, 1) := by decide +kernel
theorem dX8_keeping_6 : decode cX8_keeping 6 = .ok (.istore_n 1, 1) := by decide +kernel
theorem dX8_keeping_7 : decode cX8_keeping 7 = .ok (.iconst 0, 1) := by decide +kernel
theorem dX8_keeping_8 : decode cX8_keeping 8 = .ok (.istore_n 2, 1) := by decide +kernel
theorem dX8_keeping_9 : decode cX8_keeping 9 = .ok (.aload_n 0, 1) := by decide +kernel
theorem dX8_keeping_10 : decode cX8_keeping 10 = .ok (.iload_n 2, 1) := by decide +kernel
theorem dX8_keeping_11 : decode cX8_keeping 11 = .ok (.invokevirtual 95, 3) := by decide +kernel
theorem dX8_keeping_14 : decode cX8_keeping 14 = .ok (.ifCond .eq 25, 3) := by decide +kernel
theorem dX8_keeping_17 : decode cX8_keeping 17 = .ok (.iload_n 1, 1) := by decide +kernel
theorem dX8_keeping_18 : decode cX8_keeping 18 = .ok (.aload_n 0, 1) := by decide +kernel
theorem dX8_keeping_19 : decode cX8_keeping 19 = .ok (.iload_n 2, 1) := by decide +kernel
theorem dX8_keeping_20 : decode cX8_keeping 20 = .ok (.invokevirtual 101, 3) := by decide +kernel
theorem dX8_keeping_23 : decode cX8_keeping 23 = .ok (.ifCond .eq 7, 3) := by decide +kernel
theorem dX8_keeping_26 : decode cX8_keeping 26 = .ok (.iconst 1, 1) := by decide +kernel
theorem dX8_keeping_27 : decode cX8_keeping 27 = .ok (.goto 4, 3) := by decide +kernel
theorem dX8_keeping_30 : decode cX8_keeping 30 = .ok (.iconst 0, 1) := by decide +kernel
theorem dX8_keeping_31 : decode cX8_keeping 31 = .ok (.iadd, 1) := by decide +kernel
theorem dX8_keeping_32 : decode cX8_keeping 32 = .ok (.istore_n 1, 1) := by decide +kernel
theorem dX8_keeping_33 : decode cX8_keeping 33 = .ok (.iinc 2 1, 3) := by decide +kernel
theorem dX8_keeping_36 : decode cX8_keeping 36 = .ok (.goto (-27), 3) := by decide +kernel
theorem dX8_keeping_39 : decode cX8_keeping 39 = .ok (.iload_n 1, 1) := by decide +kernel
theorem dX8_keeping_40 : decode cX8_keeping 40 = .ok (.ireturn, 1) := by decide +kernel
theorem dX8_say_0 : decode cX8_say 0 = .ok (.aload_n 0, 1) := by decide +kernel
theorem dX8_say_1 : decode cX8_say 1 = .ok (.getfield 104, 3) := by decide +kernel
theorem dX8_say_4 : decode cX8_say 4 = .ok (.aload_n 0, 1) := by decide +kernel
theorem dX8_say_5 : decode cX8_say 5 = .ok (.getfield 107, 3) := by decide +kernel
theorem dX8_say_8 : decode cX8_say 8 = .ok (.if_icmp .ne 8, 3) := by decide +kernel
theorem dX8_say_11 : decode cX8_say 11 = .ok (.aload_n 0, 1) := by decide +kernel
theorem dX8_say_12 : decode cX8_say 12 = .ok (.iload_n 1, 1) := by decide +kernel
theorem dX8_say_13 : decode cX8_say 13 = .ok (.putfield 110, 3) := by decide +kernel
theorem dX8_say_16 : decode cX8_say 16 = .ok (.aload_n 0, 1) := by decide +kernel
theorem dX8_say_17 : decode cX8_say 17 = .ok (.dup, 1) := by decide +kernel
theorem dX8_say_18 : decode cX8_say 18 = .ok (.getfield 104, 3) := by decide +kernel
theorem dX8_say_21 : decode cX8_say 21 = .ok (.iconst 1, 1) := by decide +kernel
theorem dX8_say_22 : decode cX8_say 22 = .ok (.iadd, 1) := by decide +kernel
theorem dX8_say_23 : decode cX8_say 23 = .ok (.putfield 104, 3) := by decide +kernel
theorem dX8_say_26 : decode cX8_say 26 = .ok (.return_, 1) := by decide +kernel
theorem dX8_text_0 : decode cX8_text 0 = .ok (.aload_n 0, 1) := by decide +kernel
theorem dX8_text_1 : decode cX8_text 1 = .ok (.iconst 0, 1) := by decide +kernel
theorem dX8_text_2 : decode cX8_text 2 = .ok (.putfield 58, 3) := by decide +kernel
theorem dX8_text_5 : decode cX8_text 5 = .ok (.aload_n 0, 1) := by decide +kernel
theorem dX8_text_6 : decode cX8_text 6 = .ok (.iconst 0, 1) := by decide +kernel
theorem dX8_text_7 : decode cX8_text 7 = .ok (.putfield 104, 3) := by decide +kernel
theorem dX8_text_10 : decode cX8_text 10 = .ok (.aload_n 0, 1) := by decide +kernel
theorem dX8_text_11 : decode cX8_text 11 = .ok (.iload_n 1, 1) := by decide +kernel
theorem dX8_text_12 : decode cX8_text 12 = .ok (.putfield 107, 3) := by decide +kernel
theorem dX8_text_15 : decode cX8_text 15 = .ok (.aload_n 0, 1) := by decide +kernel
theorem dX8_text_16 : decode cX8_text 16 = .ok (.iconst (-1), 1) := by decide +kernel
theorem dX8_text_17 : decode cX8_text 17 = .ok (.putfield 110, 3) := by decide +kernel
theorem dX8_text_20 : decode cX8_text 20 = .ok (.iconst 0, 1) := by decide +kernel
theorem dX8_text_21 : decode cX8_text 21 = .ok (.istore_n 2, 1) := by decide +kernel
theorem dX8_text_22 : decode cX8_text 22 = .ok (.iload_n 2, 1) := by decide +kernel
theorem dX8_text_23 : decode cX8_text 23 = .ok (.aload_n 0, 1) := by decide +kernel
theorem dX8_text_24 : decode cX8_text 24 = .ok (.invokevirtual 50, 3) := by decide +kernel
theorem dX8_text_27 : decode cX8_text 27 = .ok (.if_icmp .ge 162, 3) := by decide +kernel
theorem dX8_text_30 : decode cX8_text 30 = .ok (.iconst 0, 1) := by decide +kernel
theorem dX8_text_31 : decode cX8_text 31 = .ok (.istore_n 3, 1) := by decide +kernel
theorem dX8_text_32 : decode cX8_text 32 = .ok (.iload_n 2, 1) := by decide +kernel
theorem dX8_text_33 : decode cX8_text 33 = .ok (.iload_n 3, 1) := by decide +kernel
theorem dX8_text_34 : decode cX8_text 34 = .ok (.iadd, 1) := by decide +kernel
theorem dX8_text_35 : decode cX8_text 35 = .ok (.aload_n 0, 1) := by decide +kernel
theorem dX8_text_36 : decode cX8_text 36 = .ok (.invokevirtual 50, 3) := by decide +kernel
theorem dX8_text_39 : decode cX8_text 39 = .ok (.if_icmp .ge 20, 3) := by decide +kernel
theorem dX8_text_42 : decode cX8_text 42 = .ok (.aload_n 0, 1) := by decide +kernel
theorem dX8_text_43 : decode cX8_text 43 = .ok (.getfield 21, 3) := by decide +kernel
theorem dX8_text_46 : decode cX8_text 46 = .ok (.iload_n 2, 1) := by decide +kernel
theorem dX8_text_47 : decode cX8_text 47 = .ok (.iload_n 3, 1) := by decide +kernel
theorem dX8_text_48 : decode cX8_text 48 = .ok (.iadd, 1) := by decide +kernel
theorem dX8_text_49 : decode cX8_text 49 = .ok (.iaload, 1) := by decide +kernel
theorem dX8_text_50 : decode cX8_text 50 = .ok (.ifCond .ne 9, 3) := by decide +kernel
theorem dX8_text_53 : decode cX8_text 53 = .ok (.iinc 3 1, 3) := by decide +kernel
theorem dX8_text_56 : decode cX8_text 56 = .ok (.goto (-24), 3) := by decide +kernel
theorem dX8_text_59 : decode cX8_text 59 = .ok (.iload_n 3, 1) := by decide +kernel
theorem dX8_text_60 : decode cX8_text 60 = .ok (.istore 4, 2) := by decide +kernel
theorem dX8_text_62 : decode cX8_text 62 = .ok (.iload 4, 2) := by decide +kernel
theorem dX8_text_64 : decode cX8_text 64 = .ok (.ifCond .le 47, 3) := by decide +kernel
theorem dX8_text_67 : decode cX8_text 67 = .ok (.aload_n 0, 1) := by decide +kernel
theorem dX8_text_68 : decode cX8_text 68 = .ok (.iload 4, 2) := by decide +kernel
theorem dX8_text_70 : decode cX8_text 70 = .ok (.bipush 26, 2) := by decide +kernel
theorem dX8_text_72 : decode cX8_text 72 = .ok (.if_icmp .lt 8, 3) := by decide +kernel
theorem dX8_text_75 : decode cX8_text 75 = .ok (.bipush 122, 2) := by decide +kernel
theorem dX8_text_77 : decode cX8_text 77 = .ok (.goto 10, 3) := by decide +kernel
theorem dX8_text_80 : decode cX8_text 80 = .ok (.bipush 97, 2) := by decide +kernel
theorem dX8_text_82 : decode cX8_text 82 = .ok (.iload 4, 2) := by decide +kernel
theorem dX8_text_84 : decode cX8_text 84 = .ok (.iadd, 1) := by decide +kernel
theorem dX8_text_85 : decode cX8_text 85 = .ok (.iconst 1, 1) := by decide +kernel
theorem dX8_text_86 : decode cX8_text 86 = .ok (.isub, 1) := by decide +kernel
theorem dX8_text_87 : decode cX8_text 87 = .ok (.invokevirtual 113, 3) := by decide +kernel
theorem dX8_text_90 : decode cX8_text 90 = .ok (.iload 4, 2) := by decide +kernel
theorem dX8_text_92 : decode cX8_text 92 = .ok (.bipush 26, 2) := by decide +kernel
theorem dX8_text_94 : decode cX8_text 94 = .ok (.if_icmp .le 11, 3) := by decide +kernel
theorem dX8_text_97 : decode cX8_text 97 = .ok (.iload 4, 2) := by decide +kernel
theorem dX8_text_99 : decode cX8_text 99 = .ok (.bipush 26, 2) := by decide +kernel
theorem dX8_text_101 : decode cX8_text 101 = .ok (.isub, 1) := by decide +kernel
theorem dX8_text_102 : decode cX8_text 102 = .ok (.goto 4, 3) := by decide +kernel
theorem dX8_text_105 : decode cX8_text 105 = .ok (.iconst 0, 1) := by decide +kernel
theorem dX8_text_106 : decode cX8_text 106 = .ok (.istore 4, 2) := by decide +kernel
theorem dX8_text_108 : decode cX8_text 108 = .ok (.goto (-46), 3) := by decide +kernel
theorem dX8_text_111 : decode cX8_text 111 = .ok (.iload_n 2, 1) := by decide +kernel
theorem dX8_text_112 : decode cX8_text 112 = .ok (.iload_n 3, 1) := by decide +kernel
theorem dX8_text_113 : decode cX8_text 113 = .ok (.iadd, 1) := by decide +kernel
theorem dX8_text_114 : decode cX8_text 114 = .ok (.istore_n 2, 1) := by decide +kernel
theorem dX8_text_115 : decode cX8_text 115 = .ok (.iload_n 2, 1) := by decide +kernel
theorem dX8_text_116 : decode cX8_text 116 = .ok (.aload_n 0, 1) := by decide +kernel
theorem dX8_text_117 : decode cX8_text 117 = .ok (.invokevirtual 50, 3) := by decide +kernel
theorem dX8_text_120 : decode cX8_text 120 = .ok (.if_icmp .ne 6, 3) := by decide +kernel
theorem dX8_text_123 : decode cX8_text 123 = .ok (.goto 66, 3) := by decide +kernel
theorem dX8_text_126 : decode cX8_text 126 = .ok (.iload_n 2, 1) := by decide +kernel
theorem dX8_text_127 : decode cX8_text 127 = .ok (.ifCond .le 13, 3) := by decide +kernel
theorem dX8_text_130 : decode cX8_text 130 = .ok (.iload_n 3, 1) := by decide +kernel
theorem dX8_text_131 : decode cX8_text 131 = .ok (.ifCond .ne 9, 3) := by decide +kernel
theorem dX8_text_134 : decode cX8_text 134 = .ok (.aload_n 0, 1) := by decide +kernel
theorem dX8_text_135 : decode cX8_text 135 = .ok (.bipush 32, 2) := by decide +kernel
theorem dX8_text_137 : decode cX8_text 137 = .ok (.invokevirtual 113, 3) := by decide +kernel
theorem dX8_text_140 : decode cX8_text 140 = .ok (.aload_n 0, 1) := by decide +kernel
theorem dX8_text_141 : decode cX8_text 141 = .ok (.getfield 21, 3) := by decide +kernel
theorem dX8_text_144 : decode cX8_text 144 = .ok (.iload_n 2, 1) := by decide +kernel
theorem dX8_text_145 : decode cX8_text 145 = .ok (.iaload, 1) := by decide +kernel
theorem dX8_text_146 : decode cX8_text 146 = .ok (.bipush 9, 2) := by decide +kernel
theorem dX8_text_148 : decode cX8_text 148 = .ok (.if_icmp .le 19, 3) := by decide +kernel
theorem dX8_text_151 : decode cX8_text 151 = .ok (.aload_n 0, 1) := by decide +kernel
theorem dX8_text_152 : decode cX8_text 152 = .ok (.bipush 48, 2) := by decide +kernel
theorem dX8_text_154 : decode cX8_text 154 = .ok (.aload_n 0, 1) := by decide +kernel
theorem dX8_text_155 : decode cX8_text 155 = .ok (.getfield 21, 3) := by decide +kernel
theorem dX8_text_158 : decode cX8_text 158 = .ok (.iload_n 2, 1) := by decide +kernel
theorem dX8_text_159 : decode cX8_text 159 = .ok (.iaload, 1) := by decide +kernel
theorem dX8_text_160 : decode cX8_text 160 = .ok (.bipush 10, 2) := by decide +kernel
theorem dX8_text_162 : decode cX8_text 162 = .ok (.idiv, 1) := by decide +kernel
theorem dX8_text_163 : decode cX8_text 163 = .ok (.iadd, 1) := by decide +kernel
theorem dX8_text_164 : decode cX8_text 164 = .ok (.invokevirtual 113, 3) := by decide +kernel
theorem dX8_text_167 : decode cX8_text 167 = .ok (.aload_n 0, 1) := by decide +kernel
theorem dX8_text_168 : decode cX8_text 168 = .ok (.bipush 48, 2) := by decide +kernel
theorem dX8_text_170 : decode cX8_text 170 = .ok (.aload_n 0, 1) := by decide +kernel
theorem dX8_text_171 : decode cX8_text 171 = .ok (.getfield 21, 3) := by decide +kernel
theorem dX8_text_174 : decode cX8_text 174 = .ok (.iload_n 2, 1) := by decide +kernel
theorem dX8_text_175 : decode cX8_text 175 = .ok (.iaload, 1) := by decide +kernel
theorem dX8_text_176 : decode cX8_text 176 = .ok (.bipush 10, 2) := by decide +kernel
theorem dX8_text_178 : decode cX8_text 178 = .ok (.irem, 1) := by decide +kernel
theorem dX8_text_179 : decode cX8_text 179 = .ok (.iadd, 1) := by decide +kernel
theorem dX8_text_180 : decode cX8_text 180 = .ok (.invokevirtual 113, 3) := by decide +kernel
theorem dX8_text_183 : decode cX8_text 183 = .ok (.iinc 2 1, 3) := by decide +kernel
theorem dX8_text_186 : decode cX8_text 186 = .ok (.goto (-164), 3) := by decide +kernel
theorem dX8_text_189 : decode cX8_text 189 = .ok (.aload_n 0, 1) := by decide +kernel
theorem dX8_text_190 : decode cX8_text 190 = .ok (.getfield 110, 3) := by decide +kernel
theorem dX8_text_193 : decode cX8_text 193 = .ok (.ireturn, 1) := by decide +kernel
theorem dX8_unit_0 : decode cX8_unit 0 = .ok (.aload_n 0, 1) := by decide +kernel
theorem dX8_unit_1 : decode cX8_unit 1 = .ok (.iconst 0, 1) := by decide +kernel
theorem dX8_unit_2 : decode cX8_unit 2 = .ok (.putfield 58, 3) := by decide +kernel
theorem dX8_unit_5 : decode cX8_unit 5 = .ok (.iload_n 1, 1) := by decide +kernel
theorem dX8_unit_6 : decode cX8_unit 6 = .ok (.ifCond .lt 20, 3) := by decide +kernel
theorem dX8_unit_9 : decode cX8_unit 9 = .ok (.iload_n 1, 1) := by decide +kernel
theorem dX8_unit_10 : decode cX8_unit 10 = .ok (.sipush 255, 3) := by decide +kernel
theorem dX8_unit_13 : decode cX8_unit 13 = .ok (.if_icmp .gt 13, 3) := by decide +kernel
theorem dX8_unit_16 : decode cX8_unit 16 = .ok (.aload_n 0, 1) := by decide +kernel
theorem dX8_unit_17 : decode cX8_unit 17 = .ok (.getfield 116, 3) := by decide +kernel
theorem dX8_unit_20 : decode cX8_unit 20 = .ok (.sipush 1200, 3) := by decide +kernel
theorem dX8_unit_23 : decode cX8_unit 23 = .ok (.if_icmp .ne 5, 3) := by decide +kernel
theorem dX8_unit_26 : decode cX8_unit 26 = .ok (.iconst 0, 1) := by decide +kernel
theorem dX8_unit_27 : decode cX8_unit 27 = .ok (.ireturn, 1) := by decide +kernel
theorem dX8_unit_28 : decode cX8_unit 28 = .ok (.aload_n 0, 1) := by decide +kernel
theorem dX8_unit_29 : decode cX8_unit 29 = .ok (.getfield 30, 3) := by decide +kernel
theorem dX8_unit_32 : decode cX8_unit 32 = .ok (.aload_n 0, 1) := by decide +kernel
theorem dX8_unit_33 : decode cX8_unit 33 = .ok (.getfield 116, 3) := by decide +kernel
theorem dX8_unit_36 : decode cX8_unit 36 = .ok (.iload_n 1, 1) := by decide +kernel
theorem dX8_unit_37 : decode cX8_unit 37 = .ok (.iastore, 1) := by decide +kernel
theorem dX8_unit_38 : decode cX8_unit 38 = .ok (.aload_n 0, 1) := by decide +kernel
theorem dX8_unit_39 : decode cX8_unit 39 = .ok (.dup, 1) := by decide +kernel
theorem dX8_unit_40 : decode cX8_unit 40 = .ok (.getfield 116, 3) := by decide +kernel
theorem dX8_unit_43 : decode cX8_unit 43 = .ok (.iconst 1, 1) := by decide +kernel
theorem dX8_unit_44 : decode cX8_unit 44 = .ok (.iadd, 1) := by decide +kernel
theorem dX8_unit_45 : decode cX8_unit 45 = .ok (.putfield 116, 3) := by decide +kernel
theorem dX8_unit_48 : decode cX8_unit 48 = .ok (.iconst 1, 1) := by decide +kernel
theorem dX8_unit_49 : decode cX8_unit 49 = .ok (.ireturn, 1) := by decide +kernel
theorem dX8_isDigit_0 : decode cX8_isDigit 0 = .ok (.iload_n 1, 1) := by decide +kernel
theorem dX8_isDigit_1 : decode cX8_isDigit 1 = .ok (.ifCond .lt 37, 3) := by decide +kernel
theorem dX8_isDigit_4 : decode cX8_isDigit 4 = .ok (.iload_n 1, 1) := by decide +kernel
theorem dX8_isDigit_5 : decode cX8_isDigit 5 = .ok (.aload_n 0, 1) := by decide +kernel
theorem dX8_isDigit_6 : decode cX8_isDigit 6 = .ok (.getfield 116, 3) := by decide +kernel
theorem dX8_isDigit_9 : decode cX8_isDigit 9 = .ok (.if_icmp .ge 29, 3) := by decide +kernel
theorem dX8_isDigit_12 : decode cX8_isDigit 12 = .ok (.aload_n 0, 1) := by decide +kernel
theorem dX8_isDigit_13 : decode cX8_isDigit 13 = .ok (.getfield 30, 3) := by decide +kernel
theorem dX8_isDigit_16 : decode cX8_isDigit 16 = .ok (.iload_n 1, 1) := by decide +kernel
theorem dX8_isDigit_17 : decode cX8_isDigit 17 = .ok (.iaload, 1) := by decide +kernel
theorem dX8_isDigit_18 : decode cX8_isDigit 18 = .ok (.bipush 48, 2) := by decide +kernel
theorem dX8_isDigit_20 : decode cX8_isDigit 20 = .ok (.if_icmp .lt 18, 3) := by decide +kernel
theorem dX8_isDigit_23 : decode cX8_isDigit 23 = .ok (.aload_n 0, 1) := by decide +kernel
theorem dX8_isDigit_24 : decode cX8_isDigit 24 = .ok (.getfield 30, 3) := by decide +kernel
theorem dX8_isDigit_27 : decode cX8_isDigit 27 = .ok (.iload_n 1, 1) := by decide +kernel
theorem dX8_isDigit_28 : decode cX8_isDigit 28 = .ok (.iaload, 1) := by decide +kernel
theorem dX8_isDigit_29 : decode cX8_isDigit 29 = .ok (.bipush 57, 2) := by decide +kernel
theorem dX8_isDigit_31 : decode cX8_isDigit 31 = .ok (.if_icmp .gt 7, 3) := by decide +kernel
theorem dX8_isDigit_34 : decode cX8_isDigit 34 = .ok (.iconst 1, 1) := by decide +kernel
theorem dX8_isDigit_35 : decode cX8_isDigit 35 = .ok (.goto 4, 3) := by decide +kernel
theorem dX8_isDigit_38 : decode cX8_isDigit 38 = .ok (.iconst 0, 1) := by decide +kernel
theorem dX8_isDigit_39 : decode cX8_isDigit 39 = .ok (.ireturn, 1) := by decide +kernel
theorem dX8_read_0 : decode cX8_read 0 = .ok (.aload_n 0, 1) := by decide +kernel
theorem dX8_read_1 : decode cX8_read 1 = .ok (.iconst 0, 1) := by decide +kernel
theorem dX8_read_2 : decode cX8_read 2 = .ok (.putfield 58, 3) := by decide +kernel
theorem dX8_read_5 : decode cX8_read 5 = .ok (.iconst 0, 1) := by decide +kernel
theorem dX8_read_6 : decode cX8_read 6 = .ok (.istore_n 1, 1) := by decide +kernel
theorem dX8_read_7 : decode cX8_read 7 = .ok (.iconst (-1), 1) := by decide +kernel
theorem dX8_read_8 : decode cX8_read 8 = .ok (.istore_n 2, 1) := by decide +kernel
theorem dX8_read_9 : decode cX8_read 9 = .ok (.iconst 0, 1) := by decide +kernel
theorem dX8_read_10 : decode cX8_read 10 = .ok (.istore_n 3, 1) := by decide +kernel
theorem dX8_read_11 : decode cX8_read 11 = .ok (.iload_n 3, 1) := by decide +kernel
theorem dX8_read_12 : decode cX8_read 12 = .ok (.aload_n 0, 1) := by decide +kernel
theorem dX8_read_13 : decode cX8_read 13 = .ok (.getfield 116, 3) := by decide +kernel
theorem dX8_read_16 : decode cX8_read 16 = .ok (.if_icmp .ge 265, 3) := by decide +kernel
theorem dX8_read_19 : decode cX8_read 19 = .ok (.iload_n 2, 1) := by decide +kernel
theorem dX8_read_20 : decode cX8_read 20 = .ok (.ifCond .ge 261, 3) := by decide +kernel
theorem dX8_read_23 : decode cX8_read 23 = .ok (.aload_n 0, 1) := by decide +kernel
theorem dX8_read_24 : decode cX8_read 24 = .ok (.getfield 30, 3) := by decide +kernel
theorem dX8_read_27 : decode cX8_read 27 = .ok (.iload_n 3, 1) := by decide +kernel
theorem dX8_read_28 : decode cX8_read 28 = .ok (.iaload, 1) := by decide +kernel
theorem dX8_read_29 : decode cX8_read 29 = .ok (.istore 4, 2) := by decide +kernel
theorem dX8_read_31 : decode cX8_read 31 = .ok (.aload_n 0, 1) := by decide +kernel
theorem dX8_read_32 : decode cX8_read 32 = .ok (.iload_n 3, 1) := by decide +kernel
theorem dX8_read_33 : decode cX8_read 33 = .ok (.invokevirtual 119, 3) := by decide +kernel
theorem dX8_read_36 : decode cX8_read 36 = .ok (.ifCond .eq 128, 3) := by decide +kernel
theorem dX8_read_39 : decode cX8_read 39 = .ok (.aload_n 0, 1) := by decide +kernel
theorem dX8_read_40 : decode cX8_read 40 = .ok (.iload_n 3, 1) := by decide +kernel
theorem dX8_read_41 : decode cX8_read 41 = .ok (.iconst 1, 1) := by decide +kernel
theorem dX8_read_42 : decode cX8_read 42 = .ok (.isub, 1) := by decide +kernel
theorem dX8_read_43 : decode cX8_read 43 = .ok (.invokevirtual 119, 3) := by decide +kernel
theorem dX8_read_46 : decode cX8_read 46 = .ok (.istore 5, 2) := by decide +kernel
theorem dX8_read_48 : decode cX8_read 48 = .ok (.iload 5, 2) := by decide +kernel
theorem dX8_read_50 : decode cX8_read 50 = .ok (.ifCond .eq 17, 3) := by decide +kernel
theorem dX8_read_53 : decode cX8_read 53 = .ok (.aload_n 0, 1) := by decide +kernel
theorem dX8_read_54 : decode cX8_read 54 = .ok (.iload_n 3, 1) := by decide +kernel
theorem dX8_read_55 : decode cX8_read 55 = .ok (.iconst 2, 1) := by decide +kernel
theorem dX8_read_56 : decode cX8_read 56 = .ok (.isub, 1) := by decide +kernel
theorem dX8_read_57 : decode cX8_read 57 = .ok (.invokevirtual 119, 3) := by decide +kernel
theorem dX8_read_60 : decode cX8_read 60 = .ok (.ifCond .eq 7, 3) := by decide +kernel
theorem dX8_read_63 : decode cX8_read 63 = .ok (.iconst 1, 1) := by decide +kernel
theorem dX8_read_64 : decode cX8_read 64 = .ok (.goto 4, 3) := by decide +kernel
theorem dX8_read_67 : decode cX8_read 67 = .ok (.iconst 0, 1) := by decide +kernel
theorem dX8_read_68 : decode cX8_read 68 = .ok (.istore 6, 2) := by decide +kernel
theorem dX8_read_70 : decode cX8_read 70 = .ok (.iload 6, 2) := by decide +kernel
theorem dX8_read_72 : decode cX8_read 72 = .ok (.ifCond .ne 23, 3) := by decide +kernel
theorem dX8_read_75 : decode cX8_read 75 = .ok (.iload 5, 2) := by decide +kernel
theorem dX8_read_77 : decode cX8_read 77 = .ok (.ifCond .ne 23, 3) := by decide +kernel
theorem dX8_read_80 : decode cX8_read 80 = .ok (.iload 4, 2) := by decide +kernel
theorem dX8_read_82 : decode cX8_read 82 = .ok (.bipush 48, 2) := by decide +kernel
theorem dX8_read_84 : decode cX8_read 84 = .ok (.if_icmp .eq 11, 3) := by decide +kernel
theorem dX8_read_87 : decode cX8_read 87 = .ok (.iload_n 1, 1) := by decide +kernel
theorem dX8_read_88 : decode cX8_read 88 = .ok (.aload_n 0, 1) := by decide +kernel
theorem dX8_read_89 : decode cX8_read 89 = .ok (.invokevirtual 50, 3) := by decide +kernel
theorem dX8_read_92 : decode cX8_read 92 = .ok (.if_icmp .ne 8, 3) := by decide +kernel
theorem dX8_read_95 : decode cX8_read 95 = .ok (.iload_n 3, 1) := by decide +kernel
theorem dX8_read_96 : decode cX8_read 96 = .ok (.istore_n 2, 1) := by decide +kernel
theorem dX8_read_97 : decode cX8_read 97 = .ok (.goto 47, 3) := by decide +kernel
theorem dX8_read_100 : decode cX8_read 100 = .ok (.iload 5, 2) := by decide +kernel
theorem dX8_read_102 : decode cX8_read 102 = .ok (.ifCond .eq 31, 3) := by decide +kernel
theorem dX8_read_105 : decode cX8_read 105 = .ok (.aload_n 0, 1) := by decide +kernel
theorem dX8_read_106 : decode cX8_read 106 = .ok (.getfield 33, 3) := by decide +kernel
theorem dX8_read_109 : decode cX8_read 109 = .ok (.iload_n 1, 1) := by decide +kernel
theorem dX8_read_110 : decode cX8_read 110 = .ok (.iconst 1, 1) := by decide +kernel
theorem dX8_read_111 : decode cX8_read 111 = .ok (.isub, 1) := by decide +kernel
theorem dX8_read_112 : decode cX8_read 112 = .ok (.bipush 10, 2) := by decide +kernel
theorem dX8_read_114 : decode cX8_read 114 = .ok (.aload_n 0, 1) := by decide +kernel
theorem dX8_read_115 : decode cX8_read 115 = .ok (.getfield 33, 3) := by decide +kernel
theorem dX8_read_118 : decode cX8_read 118 = .ok (.iload_n 1, 1) := by decide +kernel
theorem dX8_read_119 : decode cX8_read 119 = .ok (.iconst 1, 1) := by decide +kernel
theorem dX8_read_120 : decode cX8_read 120 = .ok (.isub, 1) := by decide +kernel
theorem dX8_read_121 : decode cX8_read 121 = .ok (.iaload, 1) := by decide +kernel
theorem dX8_read_122 : decode cX8_read 122 = .ok (.imul, 1) := by decide +kernel
theorem dX8_read_123 : decode cX8_read 123 = .ok (.iload 4, 2) := by decide +kernel
theorem dX8_read_125 : decode cX8_read 125 = .ok (.iadd, 1) := by decide +kernel
theorem dX8_read_126 : decode cX8_read 126 = .ok (.bipush 48, 2) := by decide +kernel
theorem dX8_read_128 : decode cX8_read 128 = .ok (.isub, 1) := by decide +kernel
theorem dX8_read_129 : decode cX8_read 129 = .ok (.iastore, 1) := by decide +kernel
theorem dX8_read_130 : decode cX8_read 130 = .ok (.goto 14, 3) := by decide +kernel
theorem dX8_read_133 : decode cX8_read 133 = .ok (.aload_n 0, 1) := by decide +kernel
theorem dX8_read_134 : decode cX8_read 134 = .ok (.getfield 33, 3) := by decide +kernel
theorem dX8_read_137 : decode cX8_read 137 = .ok (.iload_n 1, 1) := by decide +kernel
theorem dX8_read_138 : decode cX8_read 138 = .ok (.iload 4, 2) := by decide +kernel
theorem dX8_read_140 : decode cX8_read 140 = .ok (.bipush 48, 2) := by decide +kernel
theorem dX8_read_142 : decode cX8_read 142 = .ok (.isub, 1) := by decide +kernel
theorem dX8_read_143 : decode cX8_read 143 = .ok (.iastore, 1) := by decide +kernel
theorem dX8_read_144 : decode cX8_read 144 = .ok (.iload_n 1, 1) := by decide +kernel
theorem dX8_read_145 : decode cX8_read 145 = .ok (.iload_n 2, 1) := by decide +kernel
theorem dX8_read_146 : decode cX8_read 146 = .ok (.ifCond .ge 12, 3) := by decide +kernel
theorem dX8_read_149 : decode cX8_read 149 = .ok (.iload 5, 2) := by decide +kernel
theorem dX8_read_151 : decode cX8_read 151 = .ok (.ifCond .ne 7, 3) := by decide +kernel
theorem dX8_read_154 : decode cX8_read 154 = .ok (.iconst 1, 1) := by decide +kernel
theorem dX8_read_155 : decode cX8_read 155 = .ok (.goto 4, 3) := by decide +kernel
theorem dX8_read_158 : decode cX8_read 158 = .ok (.iconst 0, 1) := by decide +kernel
theorem dX8_read_159 : decode cX8_read 159 = .ok (.iadd, 1) := by decide +kernel
theorem dX8_read_160 : decode cX8_read 160 = .ok (.istore_n 1, 1) := by decide +kernel
theorem dX8_read_161 : decode cX8_read 161 = .ok (.goto 114, 3) := by decide +kernel
theorem dX8_read_164 : decode cX8_read 164 = .ok (.iload 4, 2) := by decide +kernel
theorem dX8_read_166 : decode cX8_read 166 = .ok (.bipush 97, 2) := by decide +kernel
theorem dX8_read_168 : decode cX8_read 168 = .ok (.if_icmp .lt 78, 3) := by decide +kernel
theorem dX8_read_171 : decode cX8_read 171 = .ok (.iload 4, 2) := by decide +kernel
theorem dX8_read_173 : decode cX8_read 173 = .ok (.bipush 122, 2) := by decide +kernel
theorem dX8_read_175 : decode cX8_read 175 = .ok (.if_icmp .gt 71, 3) := by decide +kernel
theorem dX8_read_178 : decode cX8_read 178 = .ok (.iload 4, 2) := by decide +kernel
theorem dX8_read_180 : decode cX8_read 180 = .ok (.bipush 97, 2) := by decide +kernel
theorem dX8_read_182 : decode cX8_read 182 = .ok (.isub, 1) := by decide +kernel
theorem dX8_read_183 : decode cX8_read 183 = .ok (.iconst 1, 1) := by decide +kernel
theorem dX8_read_184 : decode cX8_read 184 = .ok (.iadd, 1) := by decide +kernel
theorem dX8_read_185 : decode cX8_read 185 = .ok (.istore 5, 2) := by decide +kernel
theorem dX8_read_187 : decode cX8_read 187 = .ok (.iload_n 1, 1) := by decide +kernel
theorem dX8_read_188 : decode cX8_read 188 = .ok (.iload 5, 2) := by decide +kernel
theorem dX8_read_190 : decode cX8_read 190 = .ok (.iadd, 1) := by decide +kernel
theorem dX8_read_191 : decode cX8_read 191 = .ok (.aload_n 0, 1) := by decide +kernel
theorem dX8_read_192 : decode cX8_read 192 = .ok (.invokevirtual 50, 3) := by decide +kernel
theorem dX8_read_195 : decode cX8_read 195 = .ok (.if_icmp .le 5, 3) := by decide +kernel
theorem dX8_read_198 : decode cX8_read 198 = .ok (.iload_n 3, 1) := by decide +kernel
theorem dX8_read_199 : decode cX8_read 199 = .ok (.istore_n 2, 1) := by decide +kernel
theorem dX8_read_200 : decode cX8_read 200 = .ok (.iconst 0, 1) := by decide +kernel
theorem dX8_read_201 : decode cX8_read 201 = .ok (.istore 6, 2) := by decide +kernel
theorem dX8_read_203 : decode cX8_read 203 = .ok (.iload 6, 2) := by decide +kernel
theorem dX8_read_205 : decode cX8_read 205 = .ok (.iload 5, 2) := by decide +kernel
theorem dX8_read_207 : decode cX8_read 207 = .ok (.if_icmp .ge 23, 3) := by decide +kernel
theorem dX8_read_210 : decode cX8_read 210 = .ok (.iload_n 2, 1) := by decide +kernel
theorem dX8_read_211 : decode cX8_read 211 = .ok (.ifCond .ge 19, 3) := by decide +kernel
theorem dX8_read_214 : decode cX8_read 214 = .ok (.aload_n 0, 1) := by decide +kernel
theorem dX8_read_215 : decode cX8_read 215 = .ok (.getfield 33, 3) := by decide +kernel
theorem dX8_read_218 : decode cX8_read 218 = .ok (.iload_n 1, 1) := by decide +kernel
theorem dX8_read_219 : decode cX8_read 219 = .ok (.iload 6, 2) := by decide +kernel
theorem dX8_read_221 : decode cX8_read 221 = .ok (.iadd, 1) := by decide +kernel
theorem dX8_read_222 : decode cX8_read 222 = .ok (.iconst 0, 1) := by decide +kernel
theorem dX8_read_223 : decode cX8_read 223 = .ok (.iastore, 1) := by decide +kernel
theorem dX8_read_224 : decode cX8_read 224 = .ok (.iinc 6 1, 3) := by decide +kernel
theorem dX8_read_227 : decode cX8_read 227 = .ok (.goto (-24), 3) := by decide +kernel
theorem dX8_read_230 : decode cX8_read 230 = .ok (.iload_n 1, 1) := by decide +kernel
theorem dX8_read_231 : decode cX8_read 231 = .ok (.iload_n 2, 1) := by decide +kernel
theorem dX8_read_232 : decode cX8_read 232 = .ok (.ifCond .ge 8, 3) := by decide +kernel
theorem dX8_read_235 : decode cX8_read 235 = .ok (.iload 5, 2) := by decide +kernel
theorem dX8_read_237 : decode cX8_read 237 = .ok (.goto 4, 3) := by decide +kernel
theorem dX8_read_240 : decode cX8_read 240 = .ok (.iconst 0, 1) := by decide +kernel
theorem dX8_read_241 : decode cX8_read 241 = .ok (.iadd, 1) := by decide +kernel
theorem dX8_read_242 : decode cX8_read 242 = .ok (.istore_n 1, 1) := by decide +kernel
theorem dX8_read_243 : decode cX8_read 243 = .ok (.goto 32, 3) := by decide +kernel
theorem dX8_read_246 : decode cX8_read 246 = .ok (.iload 4, 2) := by decide +kernel
theorem dX8_read_248 : decode cX8_read 248 = .ok (.bipush 32, 2) := by decide +kernel
theorem dX8_read_250 : decode cX8_read 250 = .ok (.if_icmp .ne 23, 3) := by decide +kernel
theorem dX8_read_253 : decode cX8_read 253 = .ok (.aload_n 0, 1) := by decide +kernel
theorem dX8_read_254 : decode cX8_read 254 = .ok (.iload_n 3, 1) := by decide +kernel
theorem dX8_read_255 : decode cX8_read 255 = .ok (.iconst 1, 1) := by decide +kernel
theorem dX8_read_256 : decode cX8_read 256 = .ok (.isub, 1) := by decide +kernel
theorem dX8_read_257 : decode cX8_read 257 = .ok (.invokevirtual 119, 3) := by decide +kernel
theorem dX8_read_260 : decode cX8_read 260 = .ok (.ifCond .eq 13, 3) := by decide +kernel
theorem dX8_read_263 : decode cX8_read 263 = .ok (.aload_n 0, 1) := by decide +kernel
theorem dX8_read_264 : decode cX8_read 264 = .ok (.iload_n 3, 1) := by decide +kernel
theorem dX8_read_265 : decode cX8_read 265 = .ok (.iconst 1, 1) := by decide +kernel
theorem dX8_read_266 : decode cX8_read 266 = .ok (.iadd, 1) := by decide +kernel
theorem dX8_read_267 : decode cX8_read 267 = .ok (.invokevirtual 119, 3) := by decide +kernel
theorem dX8_read_270 : decode cX8_read 270 = .ok (.ifCond .ne 5, 3) := by decide +kernel
theorem dX8_read_273 : decode cX8_read 273 = .ok (.iload_n 3, 1) := by decide +kernel
theorem dX8_read_274 : decode cX8_read 274 = .ok (.istore_n 2, 1) := by decide +kernel
theorem dX8_read_275 : decode cX8_read 275 = .ok (.iinc 3 1, 3) := by decide +kernel
theorem dX8_read_278 : decode cX8_read 278 = .ok (.goto (-267), 3) := by decide +kernel
theorem dX8_read_281 : decode cX8_read 281 = .ok (.iload_n 2, 1) := by decide +kernel
theorem dX8_read_282 : decode cX8_read 282 = .ok (.ifCond .ge 16, 3) := by decide +kernel
theorem dX8_read_285 : decode cX8_read 285 = .ok (.iload_n 1, 1) := by decide +kernel
theorem dX8_read_286 : decode cX8_read 286 = .ok (.aload_n 0, 1) := by decide +kernel
theorem dX8_read_287 : decode cX8_read 287 = .ok (.invokevirtual 50, 3) := by decide +kernel
theorem dX8_read_290 : decode cX8_read 290 = .ok (.if_icmp .ge 8, 3) := by decide +kernel
theorem dX8_read_293 : decode cX8_read 293 = .ok (.aload_n 0, 1) := by decide +kernel
theorem dX8_read_294 : decode cX8_read 294 = .ok (.getfield 116, 3) := by decide +kernel
theorem dX8_read_297 : decode cX8_read 297 = .ok (.istore_n 2, 1) := by decide +kernel
theorem dX8_read_298 : decode cX8_read 298 = .ok (.aload_n 0, 1) := by decide +kernel
theorem dX8_read_299 : decode cX8_read 299 = .ok (.iconst 0, 1) := by decide +kernel
theorem dX8_read_300 : decode cX8_read 300 = .ok (.putfield 116, 3) := by decide +kernel
theorem dX8_read_303 : decode cX8_read 303 = .ok (.iload_n 2, 1) := by decide +kernel
theorem dX8_read_304 : decode cX8_read 304 = .ok (.ifCond .lt 7, 3) := by decide +kernel
theorem dX8_read_307 : decode cX8_read 307 = .ok (.iconst (-1), 1) := by decide +kernel
theorem dX8_read_308 : decode cX8_read 308 = .ok (.iload_n 2, 1) := by decide +kernel
theorem dX8_read_309 : decode cX8_read 309 = .ok (.isub, 1) := by decide +kernel
theorem dX8_read_310 : decode cX8_read 310 = .ok (.ireturn, 1) := by decide +kernel
theorem dX8_read_311 : decode cX8_read 311 = .ok (.iconst 0, 1) := by decide +kernel
theorem dX8_read_312 : decode cX8_read 312 = .ok (.istore_n 3, 1) := by decide +kernel
theorem dX8_read_313 : decode cX8_read 313 = .ok (.iload_n 3, 1) := by decide +kernel
theorem dX8_read_314 : decode cX8_read 314 = .ok (.aload_n 0, 1) := by decide +kernel
theorem dX8_read_315 : decode cX8_read 315 = .ok (.invokevirtual 50, 3) := by decide +kernel
theorem dX8_read_318 : decode cX8_read 318 = .ok (.if_icmp .ge 21, 3) := by decide +kernel
theorem dX8_read_321 : decode cX8_read 321 = .ok (.aload_n 0, 1) := by decide +kernel
theorem dX8_read_322 : decode cX8_read 322 = .ok (.getfield 21, 3) := by decide +kernel
theorem dX8_read_325 : decode cX8_read 325 = .ok (.iload_n 3, 1) := by decide +kernel
theorem dX8_read_326 : decode cX8_read 326 = .ok (.aload_n 0, 1) := by decide +kernel
theorem dX8_read_327 : decode cX8_read 327 = .ok (.getfield 33, 3) := by decide +kernel
theorem dX8_read_330 : decode cX8_read 330 = .ok (.iload_n 3, 1) := by decide +kernel
theorem dX8_read_331 : decode cX8_read 331 = .ok (.iaload, 1) := by decide +kernel
theorem dX8_read_332 : decode cX8_read 332 = .ok (.iastore, 1) := by decide +kernel
theorem dX8_read_333 : decode cX8_read 333 = .ok (.iinc 3 1, 3) := by decide +kernel
theorem dX8_read_336 : decode cX8_read 336 = .ok (.goto (-23), 3) := by decide +kernel
theorem dX8_read_339 : decode cX8_read 339 = .ok (.iload_n 1, 1) := by decide +kernel
theorem dX8_read_340 : decode cX8_read 340 = .ok (.ireturn, 1) := by decide +kernel
theorem dL_cell_0 : decode cL_cell 0 = .ok (.iload_n 1, 1) := by decide +kernel
theorem dL_cell_1 : decode cL_cell 1 = .ok (.aload_n 0, 1) := by decide +kernel
theorem dL_cell_2 : decode cL_cell 2 = .ok (.arraylength, 1) := by decide +kernel
theorem dL_cell_3 : decode cL_cell 3 = .ok (.if_icmp .ge 9, 3) := by decide +kernel
theorem dL_cell_6 : decode cL_cell 6 = .ok (.aload_n 0, 1) := by decide +kernel
theorem dL_cell_7 : decode cL_cell 7 = .ok (.iload_n 1, 1) := by decide +kernel
theorem dL_cell_8 : decode cL_cell 8 = .ok (.iaload, 1) := by decide +kernel
theorem dL_cell_9 : decode cL_cell 9 = .ok (.goto 4, 3) := by decide +kernel
theorem dL_cell_12 : decode cL_cell 12 = .ok (.iconst 0, 1) := by decide +kernel
theorem dL_cell_13 : decode cL_cell 13 = .ok (.ireturn, 1) := by decide +kernel
theorem dL_join_0 : decode cL_join 0 = .ok (.aload_n 3, 1) := by decide +kernel
theorem dL_join_1 : decode cL_join 1 = .ok (.iconst 0, 1) := by decide +kernel
theorem dL_join_2 : decode cL_join 2 = .ok (.aload_n 0, 1) := by decide +kernel
theorem dL_join_3 : decode cL_join 3 = .ok (.iload_n 1, 1) := by decide +kernel
theorem dL_join_4 : decode cL_join 4 = .ok (.iload_n 2, 1) := by decide +kernel
theorem dL_join_5 : decode cL_join 5 = .ok (.invokevirtual 7, 3) := by decide +kernel
theorem dL_join_8 : decode cL_join 8 = .ok (.ifCond .eq 7, 3) := by decide +kernel
theorem dL_join_11 : decode cL_join 11 = .ok (.lconst 1, 1) := by decide +kernel
theorem dL_join_12 : decode cL_join 12 = .ok (.goto 4, 3) := by decide +kernel
theorem dL_join_15 : decode cL_join 15 = .ok (.lconst 0, 1) := by decide +kernel
theorem dL_join_16 : decode cL_join 16 = .ok (.lastore, 1) := by decide +kernel
theorem dL_join_17 : decode cL_join 17 = .ok (.goto 7, 3) := by decide +kernel
theorem dL_join_20 : decode cL_join 20 = .ok (.astore 4, 2) := by decide +kernel
theorem dL_join_22 : decode cL_join 22 = .ok (.iconst 1, 1) := by decide +kernel
theorem dL_join_23 : decode cL_join 23 = .ok (.ireturn, 1) := by decide +kernel
theorem dL_join_24 : decode cL_join 24 = .ok (.iconst 0, 1) := by decide +kernel
theorem dL_join_25 : decode cL_join 25 = .ok (.ireturn, 1) := by decide +kernel
theorem dL_degree_0 : decode cL_degree 0 = .ok (.aload_n 3, 1) := by decide +kernel
theorem dL_degree_1 : decode cL_degree 1 = .ok (.iconst 0, 1) := by decide +kernel
theorem dL_degree_2 : decode cL_degree 2 = .ok (.aload_n 0, 1) := by decide +kernel
theorem dL_degree_3 : decode cL_degree 3 = .ok (.iload_n 1, 1) := by decide +kernel
theorem dL_degree_4 : decode cL_degree 4 = .ok (.iload_n 2, 1) := by decide +kernel
theorem dL_degree_5 : decode cL_degree 5 = .ok (.invokevirtual 15, 3) := by decide +kernel
theorem dL_degree_8 : decode cL_degree 8 = .ok (.i2l, 1) := by decide +kernel
theorem dL_degree_9 : decode cL_degree 9 = .ok (.lastore, 1) := by decide +kernel
theorem dL_degree_10 : decode cL_degree 10 = .ok (.goto 7, 3) := by decide +kernel
theorem dL_degree_13 : decode cL_degree 13 = .ok (.astore 4, 2) := by decide +kernel
theorem dL_degree_15 : decode cL_degree 15 = .ok (.iconst 1, 1) := by decide +kernel
theorem dL_degree_16 : decode cL_degree 16 = .ok (.ireturn, 1) := by decide +kernel
theorem dL_degree_17 : decode cL_degree 17 = .ok (.iconst 0, 1) := by decide +kernel
theorem dL_degree_18 : decode cL_degree 18 = .ok (.ireturn, 1) := by decide +kernel
theorem dL_neighbour_0 : decode cL_neighbour 0 = .ok (.aload_n 3, 1) := by decide +kernel
theorem dL_neighbour_1 : decode cL_neighbour 1 = .ok (.iconst 0, 1) := by decide +kernel
theorem dL_neighbour_2 : decode cL_neighbour 2 = .ok (.aload_n 0, 1) := by decide +kernel
theorem dL_neighbour_3 : decode cL_neighbour 3 = .ok (.iload_n 1, 1) := by decide +kernel
theorem dL_neighbour_4 : decode cL_neighbour 4 = .ok (.iload_n 2, 1) := by decide +kernel
theorem dL_neighbour_5 : decode cL_neighbour 5 = .ok (.invokevirtual 19, 3) := by decide +kernel
theorem dL_neighbour_8 : decode cL_neighbour 8 = .ok (.i2l, 1) := by decide +kernel
theorem dL_neighbour_9 : decode cL_neighbour 9 = .ok (.lastore, 1) := by decide +kernel
theorem dL_neighbour_10 : decode cL_neighbour 10 = .ok (.goto 7, 3) := by decide +kernel
theorem dL_neighbour_13 : decode cL_neighbour 13 = .ok (.astore 4, 2) := by decide +kernel
theorem dL_neighbour_15 : decode cL_neighbour 15 = .ok (.iconst 1, 1) := by decide +kernel
theorem dL_neighbour_16 : decode cL_neighbour 16 = .ok (.ireturn, 1) := by decide +kernel
theorem dL_neighbour_17 : decode cL_neighbour 17 = .ok (.iconst 0, 1) := by decide +kernel
theorem dL_neighbour_18 : decode cL_neighbour 18 = .ok (.ireturn, 1) := by decide +kernel
theorem dL_wall_0 : decode cL_wall 0 = .ok (.aload 4, 2) := by decide +kernel
theorem dL_wall_2 : decode cL_wall 2 = .ok (.iconst 0, 1) := by decide +kernel
theorem dL_wall_3 : decode cL_wall 3 = .ok (.aload_n 0, 1) := by decide +kernel
theorem dL_wall_4 : decode cL_wall 4 = .ok (.iload_n 1, 1) := by decide +kernel
theorem dL_wall_5 : decode cL_wall 5 = .ok (.iload_n 2, 1) := by decide +kernel
theorem dL_wall_6 : decode cL_wall 6 = .ok (.iload_n 3, 1) := by decide +kernel
theorem dL_wall_7 : decode cL_wall 7 = .ok (.invokevirtual 23, 3) := by decide +kernel
theorem dL_wall_10 : decode cL_wall 10 = .ok (.ifCond .eq 7, 3) := by decide +kernel
theorem dL_wall_13 : decode cL_wall 13 = .ok (.lconst 1, 1) := by decide +kernel
theorem dL_wall_14 : decode cL_wall 14 = .ok (.goto 4, 3) := by decide +kernel
theorem dL_wall_17 : decode cL_wall 17 = .ok (.lconst 0, 1) := by decide +kernel
theorem dL_wall_18 : decode cL_wall 18 = .ok (.lastore, 1) := by decide +kernel
theorem dL_wall_19 : decode cL_wall 19 = .ok (.goto 7, 3) := by decide +kernel
theorem dL_wall_22 : decode cL_wall 22 = .ok (.astore 5, 2) := by decide +kernel
theorem dL_wall_24 : decode cL_wall 24 = .ok (.iconst 1, 1) := by decide +kernel
theorem dL_wall_25 : decode cL_wall 25 = .ok (.ireturn, 1) := by decide +kernel
theorem dL_wall_26 : decode cL_wall 26 = .ok (.iconst 0, 1) := by decide +kernel
theorem dL_wall_27 : decode cL_wall 27 = .ok (.ireturn, 1) := by decide +kernel
theorem dL_seen_0 : decode cL_seen 0 = .ok (.aload 4, 2) := by decide +kernel
theorem dL_seen_2 : decode cL_seen 2 = .ok (.iconst 0, 1) := by decide +kernel
theorem dL_seen_3 : decode cL_seen 3 = .ok (.aload_n 0, 1) := by decide +kernel
theorem dL_seen_4 : decode cL_seen 4 = .ok (.iload_n 1, 1) := by decide +kernel
theorem dL_seen_5 : decode cL_seen 5 = .ok (.iload_n 2, 1) := by decide +kernel
theorem dL_seen_6 : decode cL_seen 6 = .ok (.iload_n 3, 1) := by decide +kernel
theorem dL_seen_7 : decode cL_seen 7 = .ok (.invokevirtual 27, 3) := by decide +kernel
theorem dL_seen_10 : decode cL_seen 10 = .ok (.i2l, 1) := by decide +kernel
theorem dL_seen_11 : decode cL_seen 11 = .ok (.lastore, 1) := by decide +kernel
theorem dL_seen_12 : decode cL_seen 12 = .ok (.goto 7, 3) := by decide +kernel
theorem dL_seen_15 : decode cL_seen 15 = .ok (.astore 5, 2) := by decide +kernel
theorem dL_seen_17 : decode cL_seen 17 = .ok (.iconst 1, 1) := by decide +kernel
theorem dL_seen_18 : decode cL_seen 18 = .ok (.ireturn, 1) := by decide +kernel
theorem dL_seen_19 : decode cL_seen 19 = .ok (.iconst 0, 1) := by decide +kernel
theorem dL_seen_20 : decode cL_seen 20 = .ok (.ireturn, 1) := by decide +kernel
theorem dL_far_0 : decode cL_far 0 = .ok (.aload_n 3, 1) := by decide +kernel
theorem dL_far_1 : decode cL_far 1 = .ok (.iconst 0, 1) := by decide +kernel
theorem dL_far_2 : decode cL_far 2 = .ok (.aload_n 0, 1) := by decide +kernel
theorem dL_far_3 : decode cL_far 3 = .ok (.iload_n 1, 1) := by decide +kernel
theorem dL_far_4 : decode cL_far 4 = .ok (.iload_n 2, 1) := by decide +kernel
theorem dL_far_5 : decode cL_far 5 = .ok (.invokevirtual 31, 3) := by decide +kernel
theorem dL_far_8 : decode cL_far 8 = .ok (.i2l, 1) := by decide +kernel
theorem dL_far_9 : decode cL_far 9 = .ok (.lastore, 1) := by decide +kernel
theorem dL_far_10 : decode cL_far 10 = .ok (.goto 7, 3) := by decide +kernel
theorem dL_far_13 : decode cL_far 13 = .ok (.astore 4, 2) := by decide +kernel
theorem dL_far_15 : decode cL_far 15 = .ok (.iconst 1, 1) := by decide +kernel
theorem dL_far_16 : decode cL_far 16 = .ok (.ireturn, 1) := by decide +kernel
theorem dL_far_17 : decode cL_far 17 = .ok (.iconst 0, 1) := by decide +kernel
theorem dL_far_18 : decode cL_far 18 = .ok (.ireturn, 1) := by decide +kernel
theorem dL_without_0 : decode cL_without 0 = .ok (.aload_n 2, 1) := by decide +kernel
theorem dL_without_1 : decode cL_without 1 = .ok (.iconst 0, 1) := by decide +kernel
theorem dL_without_2 : decode cL_without 2 = .ok (.aload_n 0, 1) := by decide +kernel
theorem dL_without_3 : decode cL_without 3 = .ok (.iload_n 1, 1) := by decide +kernel
theorem dL_without_4 : decode cL_without 4 = .ok (.invokevirtual 34, 3) := by decide +kernel
theorem dL_without_7 : decode cL_without 7 = .ok (.i2l, 1) := by decide +kernel
theorem dL_without_8 : decode cL_without 8 = .ok (.lastore, 1) := by decide +kernel
theorem dL_without_9 : decode cL_without 9 = .ok (.goto 6, 3) := by decide +kernel
theorem dL_without_12 : decode cL_without 12 = .ok (.astore_n 3, 1) := by decide +kernel
theorem dL_without_13 : decode cL_without 13 = .ok (.iconst 1, 1) := by decide +kernel
theorem dL_without_14 : decode cL_without 14 = .ok (.ireturn, 1) := by decide +kernel
theorem dL_without_15 : decode cL_without 15 = .ok (.iconst 0, 1) := by decide +kernel
theorem dL_without_16 : decode cL_without 16 = .ok (.ireturn, 1) := by decide +kernel
theorem dL_area_0 : decode cL_area 0 = .ok (.aload_n 3, 1) := by decide +kernel
theorem dL_area_1 : decode cL_area 1 = .ok (.iconst 0, 1) := by decide +kernel
theorem dL_area_2 : decode cL_area 2 = .ok (.aload_n 0, 1) := by decide +kernel
theorem dL_area_3 : decode cL_area 3 = .ok (.iload_n 1, 1) := by decide +kernel
theorem dL_area_4 : decode cL_area 4 = .ok (.iload_n 2, 1) := by decide +kernel
theorem dL_area_5 : decode cL_area 5 = .ok (.invokevirtual 38, 3) := by decide +kernel
theorem dL_area_8 : decode cL_area 8 = .ok (.ifCond .eq 7, 3) := by decide +kernel
theorem dL_area_11 : decode cL_area 11 = .ok (.lconst 1, 1) := by decide +kernel
theorem dL_area_12 : decode cL_area 12 = .ok (.goto 4, 3) := by decide +kernel
theorem dL_area_15 : decode cL_area 15 = .ok (.lconst 0, 1) := by decide +kernel
theorem dL_area_16 : decode cL_area 16 = .ok (.lastore, 1) := by decide +kernel
theorem dL_area_17 : decode cL_area 17 = .ok (.goto 7, 3) := by decide +kernel
theorem dL_area_20 : decode cL_area 20 = .ok (.astore 4, 2) := by decide +kernel
theorem dL_area_22 : decode cL_area 22 = .ok (.iconst 1, 1) := by decide +kernel
theorem dL_area_23 : decode cL_area 23 = .ok (.ireturn, 1) := by decide +kernel
theorem dL_area_24 : decode cL_area 24 = .ok (.iconst 0, 1) := by decide +kernel
theorem dL_area_25 : decode cL_area 25 = .ok (.ireturn, 1) := by decide +kernel
theorem dL_mark_0 : decode cL_mark 0 = .ok (.aload_n 3, 1) := by decide +kernel
theorem dL_mark_1 : decode cL_mark 1 = .ok (.iconst 0, 1) := by decide +kernel
theorem dL_mark_2 : decode cL_mark 2 = .ok (.aload_n 0, 1) := by decide +kernel
theorem dL_mark_3 : decode cL_mark 3 = .ok (.iload_n 1, 1) := by decide +kernel
theorem dL_mark_4 : decode cL_mark 4 = .ok (.iload_n 2, 1) := by decide +kernel
theorem dL_mark_5 : decode cL_mark 5 = .ok (.invokevirtual 41, 3) := by decide +kernel
theorem dL_mark_8 : decode cL_mark 8 = .ok (.ifCond .eq 7, 3) := by decide +kernel
theorem dL_mark_11 : decode cL_mark 11 = .ok (.lconst 1, 1) := by decide +kernel
theorem dL_mark_12 : decode cL_mark 12 = .ok (.goto 4, 3) := by decide +kernel
theorem dL_mark_15 : decode cL_mark 15 = .ok (.lconst 0, 1) := by decide +kernel
theorem dL_mark_16 : decode cL_mark 16 = .ok (.lastore, 1) := by decide +kernel
theorem dL_mark_17 : decode cL_mark 17 = .ok (.goto 7, 3) := by decide +kernel
theorem dL_mark_20 : decode cL_mark 20 = .ok (.astore 4, 2) := by decide +kernel
theorem dL_mark_22 : decode cL_mark 22 = .ok (.iconst 1, 1) := by decide +kernel
theorem dL_mark_23 : decode cL_mark 23 = .ok (.ireturn, 1) := by decide +kernel
theorem dL_mark_24 : decode cL_mark 24 = .ok (.iconst 0, 1) := by decide +kernel
theorem dL_mark_25 : decode cL_mark 25 = .ok (.ireturn, 1) := by decide +kernel
theorem dL_image_0 : decode cL_image 0 = .ok (.aload_n 3, 1) := by decide +kernel
theorem dL_image_1 : decode cL_image 1 = .ok (.iconst 0, 1) := by decide +kernel
theorem dL_image_2 : decode cL_image 2 = .ok (.aload_n 0, 1) := by decide +kernel
theorem dL_image_3 : decode cL_image 3 = .ok (.iload_n 1, 1) := by decide +kernel
theorem dL_image_4 : decode cL_image 4 = .ok (.iload_n 2, 1) := by decide +kernel
theorem dL_image_5 : decode cL_image 5 = .ok (.invokevirtual 44, 3) := by decide +kernel
theorem dL_image_8 : decode cL_image 8 = .ok (.i2l, 1) := by decide +kernel
theorem dL_image_9 : decode cL_image 9 = .ok (.lastore, 1) := by decide +kernel
theorem dL_image_10 : decode cL_image 10 = .ok (.goto 7, 3) := by decide +kernel
theorem dL_image_13 : decode cL_image 13 = .ok (.astore 4, 2) := by decide +kernel
theorem dL_image_15 : decode cL_image 15 = .ok (.iconst 1, 1) := by decide +kernel
theorem dL_image_16 : decode cL_image 16 = .ok (.ireturn, 1) := by decide +kernel
theorem dL_image_17 : decode cL_image 17 = .ok (.iconst 0, 1) := by decide +kernel
theorem dL_image_18 : decode cL_image 18 = .ok (.ireturn, 1) := by decide +kernel
theorem dL_law_0 : decode cL_law 0 = .ok (.new 8, 3) := by decide +kernel
theorem dL_law_3 : decode cL_law 3 = .ok (.dup, 1) := by decide +kernel
theorem dL_law_4 : decode cL_law 4 = .ok (.aload_n 0, 1) := by decide +kernel
theorem dL_law_5 : decode cL_law 5 = .ok (.iconst 0, 1) := by decide +kernel
theorem dL_law_6 : decode cL_law 6 = .ok (.invokestatic 47, 3) := by decide +kernel
theorem dL_law_9 : decode cL_law 9 = .ok (.aload_n 0, 1) := by decide +kernel
theorem dL_law_10 : decode cL_law 10 = .ok (.iconst 1, 1) := by decide +kernel
theorem dL_law_11 : decode cL_law 11 = .ok (.invokestatic 47, 3) := by decide +kernel
theorem dL_law_14 : decode cL_law 14 = .ok (.aload_n 0, 1) := by decide +kernel
theorem dL_law_15 : decode cL_law 15 = .ok (.iconst 2, 1) := by decide +kernel
theorem dL_law_16 : decode cL_law 16 = .ok (.invokestatic 47, 3) := by decide +kernel
theorem dL_law_19 : decode cL_law 19 = .ok (.invokespecial 53, 3) := by decide +kernel
theorem dL_law_22 : decode cL_law 22 = .ok (.astore_n 1, 1) := by decide +kernel
theorem dL_law_23 : decode cL_law 23 = .ok (.new 56, 3) := by decide +kernel
theorem dL_law_26 : decode cL_law 26 = .ok (.dup, 1) := by decide +kernel
theorem dL_law_27 : decode cL_law 27 = .ok (.aload_n 0, 1) := by decide +kernel
theorem dL_law_28 : decode cL_law 28 = .ok (.iconst 0, 1) := by decide +kernel
theorem dL_law_29 : decode cL_law 29 = .ok (.invokestatic 47, 3) := by decide +kernel
theorem dL_law_32 : decode cL_law 32 = .ok (.aload_n 0, 1) := by decide +kernel
theorem dL_law_33 : decode cL_law 33 = .ok (.iconst 1, 1) := by decide +kernel
theorem dL_law_34 : decode cL_law 34 = .ok (.invokestatic 47, 3) := by decide +kernel
theorem dL_law_37 : decode cL_law 37 = .ok (.aload_n 0, 1) := by decide +kernel
theorem dL_law_38 : decode cL_law 38 = .ok (.iconst 2, 1) := by decide +kernel
theorem dL_law_39 : decode cL_law 39 = .ok (.invokestatic 47, 3) := by decide +kernel
theorem dL_law_42 : decode cL_law 42 = .ok (.invokespecial 58, 3) := by decide +kernel
theorem dL_law_45 : decode cL_law 45 = .ok (.astore_n 2, 1) := by decide +kernel
theorem dL_law_46 : decode cL_law 46 = .ok (.iconst 1, 1) := by decide +kernel
theorem dL_law_47 : decode cL_law 47 = .ok (.newarray .long, 2) := by decide +kernel
theorem dL_law_49 : decode cL_law 49 = .ok (.astore_n 3, 1) := by decide +kernel
theorem dL_law_50 : decode cL_law 50 = .ok (.iconst 3, 1) := by decide +kernel
theorem dL_law_51 : decode cL_law 51 = .ok (.istore 4, 2) := by decide +kernel
theorem dL_law_53 : decode cL_law 53 = .ok (.iload 4, 2) := by decide +kernel
theorem dL_law_55 : decode cL_law 55 = .ok (.aload_n 0, 1) := by decide +kernel
theorem dL_law_56 : decode cL_law 56 = .ok (.arraylength, 1) := by decide +kernel
theorem dL_law_57 : decode cL_law 57 = .ok (.iconst 4, 1) := by decide +kernel
theorem dL_law_58 : decode cL_law 58 = .ok (.isub, 1) := by decide +kernel
theorem dL_law_59 : decode cL_law 59 = .ok (.if_icmp .gt 1121, 3) := by decide +kernel
theorem dL_law_62 : decode cL_law 62 = .ok (.aload_n 0, 1) := by decide +kernel
theorem dL_law_63 : decode cL_law 63 = .ok (.iload 4, 2) := by decide +kernel
theorem dL_law_65 : decode cL_law 65 = .ok (.iaload, 1) := by decide +kernel
theorem dL_law_66 : decode cL_law 66 = .ok (.bipush 31, 2) := by decide +kernel
theorem dL_law_68 : decode cL_law 68 = .ok (.iand, 1) := by decide +kernel
theorem dL_law_69 : decode cL_law 69 = .ok (.tableswitch 1105 0 19 #[95, 170, 183, 267, 335, 438, 479, 532, 612, 680, 705, 761, 836, 861, 936, 1004, 1029, 1042, 1067, 1092], 95) := by decide +kernel
theorem dL_law_164 : decode cL_law 164 = .ok (.aload_n 1, 1) := by decide +kernel
theorem dL_law_165 : decode cL_law 165 = .ok (.aload_n 0, 1) := by decide +kernel
theorem dL_law_166 : decode cL_law 166 = .ok (.iload 4, 2) := by decide +kernel
theorem dL_law_168 : decode cL_law 168 = .ok (.iconst 1, 1) := by decide +kernel
theorem dL_law_169 : decode cL_law 169 = .ok (.iadd, 1) := by decide +kernel
theorem dL_law_170 : decode cL_law 170 = .ok (.iaload, 1) := by decide +kernel
theorem dL_law_171 : decode cL_law 171 = .ok (.aload_n 0, 1) := by decide +kernel
theorem dL_law_172 : decode cL_law 172 = .ok (.iload 4, 2) := by decide +kernel
theorem dL_law_174 : decode cL_law 174 = .ok (.iconst 2, 1) := by decide +kernel
theorem dL_law_175 : decode cL_law 175 = .ok (.iadd, 1) := by decide +kernel
theorem dL_law_176 : decode cL_law 176 = .ok (.iaload, 1) := by decide +kernel
theorem dL_law_177 : decode cL_law 177 = .ok (.aload_n 3, 1) := by decide +kernel
theorem dL_law_178 : decode cL_law 178 = .ok (.invokestatic 59, 3) := by decide +kernel
theorem dL_law_181 : decode cL_law 181 = .ok (.istore 5, 2) := by decide +kernel
theorem dL_law_183 : decode cL_law 183 = .ok (.aload_n 2, 1) := by decide +kernel
theorem dL_law_184 : decode cL_law 184 = .ok (.aload_n 0, 1) := by decide +kernel
theorem dL_law_185 : decode cL_law 185 = .ok (.iload 4, 2) := by decide +kernel
theorem dL_law_187 : decode cL_law 187 = .ok (.iconst 1, 1) := by decide +kernel
theorem dL_law_188 : decode cL_law 188 = .ok (.iadd, 1) := by decide +kernel
theorem dL_law_189 : decode cL_law 189 = .ok (.iaload, 1) := by decide +kernel
theorem dL_law_190 : decode cL_law 190 = .ok (.aload_n 0, 1) := by decide +kernel
theorem dL_law_191 : decode cL_law 191 = .ok (.iload 4, 2) := by decide +kernel
theorem dL_law_193 : decode cL_law 193 = .ok (.iconst 2, 1) := by decide +kernel
theorem dL_law_194 : decode cL_law 194 = .ok (.iadd, 1) := by decide +kernel
theorem dL_law_195 : decode cL_law 195 = .ok (.iaload, 1) := by decide +kernel
theorem dL_law_196 : decode cL_law 196 = .ok (.invokevirtual 62, 3) := by decide +kernel
theorem dL_law_199 : decode cL_law 199 = .ok (.istore 6, 2) := by decide +kernel
theorem dL_law_201 : decode cL_law 201 = .ok (.aload_n 2, 1) := by decide +kernel
theorem dL_law_202 : decode cL_law 202 = .ok (.invokevirtual 63, 3) := by decide +kernel
theorem dL_law_205 : decode cL_law 205 = .ok (.iload 5, 2) := by decide +kernel
theorem dL_law_207 : decode cL_law 207 = .ok (.if_icmp .eq 5, 3) := by decide +kernel
theorem dL_law_210 : decode cL_law 210 = .ok (.iconst 0, 1) := by decide +kernel
theorem dL_law_211 : decode cL_law 211 = .ok (.ireturn, 1) := by decide +kernel
theorem dL_law_212 : decode cL_law 212 = .ok (.iload 5, 2) := by decide +kernel
theorem dL_law_214 : decode cL_law 214 = .ok (.ifCond .ne 22, 3) := by decide +kernel
theorem dL_law_217 : decode cL_law 217 = .ok (.aload_n 3, 1) := by decide +kernel
theorem dL_law_218 : decode cL_law 218 = .ok (.iconst 0, 1) := by decide +kernel
theorem dL_law_219 : decode cL_law 219 = .ok (.laload, 1) := by decide +kernel
theorem dL_law_220 : decode cL_law 220 = .ok (.iload 6, 2) := by decide +kernel
theorem dL_law_222 : decode cL_law 222 = .ok (.ifCond .eq 7, 3) := by decide +kernel
theorem dL_law_225 : decode cL_law 225 = .ok (.lconst 1, 1) := by decide +kernel
theorem dL_law_226 : decode cL_law 226 = .ok (.goto 4, 3) := by decide +kernel
theorem dL_law_229 : decode cL_law 229 = .ok (.lconst 0, 1) := by decide +kernel
theorem dL_law_230 : decode cL_law 230 = .ok (.lcmp, 1) := by decide +kernel
theorem dL_law_231 : decode cL_law 231 = .ok (.ifCond .eq 5, 3) := by decide +kernel
theorem dL_law_234 : decode cL_law 234 = .ok (.iconst 0, 1) := by decide +kernel
theorem dL_law_235 : decode cL_law 235 = .ok (.ireturn, 1) := by decide +kernel
theorem dL_law_236 : decode cL_law 236 = .ok (.goto 938, 3) := by decide +kernel
theorem dL_law_239 : decode cL_law 239 = .ok (.aload_n 1, 1) := by decide +kernel
theorem dL_law_240 : decode cL_law 240 = .ok (.invokevirtual 67, 3) := by decide +kernel
theorem dL_law_243 : decode cL_law 243 = .ok (.aload_n 2, 1) := by decide +kernel
theorem dL_law_244 : decode cL_law 244 = .ok (.invokevirtual 70, 3) := by decide +kernel
theorem dL_law_247 : decode cL_law 247 = .ok (.if_icmp .eq 927, 3) := by decide +kernel
theorem dL_law_250 : decode cL_law 250 = .ok (.iconst 0, 1) := by decide +kernel
theorem dL_law_251 : decode cL_law 251 = .ok (.ireturn, 1) := by decide +kernel
theorem dL_law_252 : decode cL_law 252 = .ok (.aload_n 1, 1) := by decide +kernel
theorem dL_law_253 : decode cL_law 253 = .ok (.aload_n 0, 1) := by decide +kernel
theorem dL_law_254 : decode cL_law 254 = .ok (.iload 4, 2) := by decide +kernel
theorem dL_law_256 : decode cL_law 256 = .ok (.iconst 1, 1) := by decide +kernel
theorem dL_law_257 : decode cL_law 257 = .ok (.iadd, 1) := by decide +kernel
theorem dL_law_258 : decode cL_law 258 = .ok (.iaload, 1) := by decide +kernel
theorem dL_law_259 : decode cL_law 259 = .ok (.aload_n 0, 1) := by decide +kernel
theorem dL_law_260 : decode cL_law 260 = .ok (.iload 4, 2) := by decide +kernel
theorem dL_law_262 : decode cL_law 262 = .ok (.iconst 2, 1) := by decide +kernel
theorem dL_law_263 : decode cL_law 263 = .ok (.iadd, 1) := by decide +kernel
theorem dL_law_264 : decode cL_law 264 = .ok (.iaload, 1) := by decide +kernel
theorem dL_law_265 : decode cL_law 265 = .ok (.ifCond .eq 7, 3) := by decide +kernel
theorem dL_law_268 : decode cL_law 268 = .ok (.iconst 1, 1) := by decide +kernel
theorem dL_law_269 : decode cL_law 269 = .ok (.goto 4, 3) := by decide +kernel
theorem dL_law_272 : decode cL_law 272 = .ok (.iconst 0, 1) := by decide +kernel
theorem dL_law_273 : decode cL_law 273 = .ok (.aload_n 3, 1) := by decide +kernel
theorem dL_law_274 : decode cL_law 274 = .ok (.invokestatic 71, 3) := by decide +kernel
theorem dL_law_277 : decode cL_law 277 = .ok (.istore 5, 2) := by decide +kernel
theorem dL_law_279 : decode cL_law 279 = .ok (.aload_n 2, 1) := by decide +kernel
theorem dL_law_280 : decode cL_law 280 = .ok (.aload_n 0, 1) := by decide +kernel
theorem dL_law_281 : decode cL_law 281 = .ok (.iload 4, 2) := by decide +kernel
theorem dL_law_283 : decode cL_law 283 = .ok (.iconst 1, 1) := by decide +kernel
theorem dL_law_284 : decode cL_law 284 = .ok (.iadd, 1) := by decide +kernel
theorem dL_law_285 : decode cL_law 285 = .ok (.iaload, 1) := by decide +kernel
theorem dL_law_286 : decode cL_law 286 = .ok (.aload_n 0, 1) := by decide +kernel
theorem dL_law_287 : decode cL_law 287 = .ok (.iload 4, 2) := by decide +kernel
theorem dL_law_289 : decode cL_law 289 = .ok (.iconst 2, 1) := by decide +kernel
theorem dL_law_290 : decode cL_law 290 = .ok (.iadd, 1) := by decide +kernel
theorem dL_law_291 : decode cL_law 291 = .ok (.iaload, 1) := by decide +kernel
theorem dL_law_292 : decode cL_law 292 = .ok (.ifCond .eq 7, 3) := by decide +kernel
theorem dL_law_295 : decode cL_law 295 = .ok (.iconst 1, 1) := by decide +kernel
theorem dL_law_296 : decode cL_law 296 = .ok (.goto 4, 3) := by decide +kernel
theorem dL_law_299 : decode cL_law 299 = .ok (.iconst 0, 1) := by decide +kernel
theorem dL_law_300 : decode cL_law 300 = .ok (.invokevirtual 74, 3) := by decide +kernel
theorem dL_law_303 : decode cL_law 303 = .ok (.istore 6, 2) := by decide +kernel
theorem dL_law_305 : decode cL_law 305 = .ok (.aload_n 2, 1) := by decide +kernel
theorem dL_law_306 : decode cL_law 306 = .ok (.invokevirtual 63, 3) := by decide +kernel
theorem dL_law_309 : decode cL_law 309 = .ok (.iload 5, 2) := by decide +kernel
theorem dL_law_311 : decode cL_law 311 = .ok (.if_icmp .eq 5, 3) := by decide +kernel
theorem dL_law_314 : decode cL_law 314 = .ok (.iconst 0, 1) := by decide +kernel
theorem dL_law_315 : decode cL_law 315 = .ok (.ireturn, 1) := by decide +kernel
theorem dL_law_316 : decode cL_law 316 = .ok (.iload 5, 2) := by decide +kernel
theorem dL_law_318 : decode cL_law 318 = .ok (.ifCond .ne 15, 3) := by decide +kernel
theorem dL_law_321 : decode cL_law 321 = .ok (.aload_n 3, 1) := by decide +kernel
theorem dL_law_322 : decode cL_law 322 = .ok (.iconst 0, 1) := by decide +kernel
theorem dL_law_323 : decode cL_law 323 = .ok (.laload, 1) := by decide +kernel
theorem dL_law_324 : decode cL_law 324 = .ok (.iload 6, 2) := by decide +kernel
theorem dL_law_326 : decode cL_law 326 = .ok (.i2l, 1) := by decide +kernel
theorem dL_law_327 : decode cL_law 327 = .ok (.lcmp, 1) := by decide +kernel
theorem dL_law_328 : decode cL_law 328 = .ok (.ifCond .eq 5, 3) := by decide +kernel
theorem dL_law_331 : decode cL_law 331 = .ok (.iconst 0, 1) := by decide +kernel
theorem dL_law_332 : decode cL_law 332 = .ok (.ireturn, 1) := by decide +kernel
theorem dL_law_333 : decode cL_law 333 = .ok (.goto 841, 3) := by decide +kernel
theorem dL_law_336 : decode cL_law 336 = .ok (.aload_n 1, 1) := by decide +kernel
theorem dL_law_337 : decode cL_law 337 = .ok (.aload_n 0, 1) := by decide +kernel
theorem dL_law_338 : decode cL_law 338 = .ok (.iload 4, 2) := by decide +kernel
theorem dL_law_340 : decode cL_law 340 = .ok (.iconst 1, 1) := by decide +kernel
theorem dL_law_341 : decode cL_law 341 = .ok (.iadd, 1) := by decide +kernel
theorem dL_law_342 : decode cL_law 342 = .ok (.iaload, 1) := by decide +kernel
theorem dL_law_343 : decode cL_law 343 = .ok (.aload_n 0, 1) := by decide +kernel
theorem dL_law_344 : decode cL_law 344 = .ok (.iload 4, 2) := by decide +kernel
theorem dL_law_346 : decode cL_law 346 = .ok (.iconst 2, 1) := by decide +kernel
theorem dL_law_347 : decode cL_law 347 = .ok (.iadd, 1) := by decide +kernel
theorem dL_law_348 : decode cL_law 348 = .ok (.iaload, 1) := by decide +kernel
theorem dL_law_349 : decode cL_law 349 = .ok (.aload_n 3, 1) := by decide +kernel
theorem dL_law_350 : decode cL_law 350 = .ok (.invokestatic 75, 3) := by decide +kernel
theorem dL_law_353 : decode cL_law 353 = .ok (.istore 5, 2) := by decide +kernel
theorem dL_law_355 : decode cL_law 355 = .ok (.aload_n 2, 1) := by decide +kernel
theorem dL_law_356 : decode cL_law 356 = .ok (.aload_n 0, 1) := by decide +kernel
theorem dL_law_357 : decode cL_law 357 = .ok (.iload 4, 2) := by decide +kernel
theorem dL_law_359 : decode cL_law 359 = .ok (.iconst 1, 1) := by decide +kernel
theorem dL_law_360 : decode cL_law 360 = .ok (.iadd, 1) := by decide +kernel
theorem dL_law_361 : decode cL_law 361 = .ok (.iaload, 1) := by decide +kernel
theorem dL_law_362 : decode cL_law 362 = .ok (.aload_n 0, 1) := by decide +kernel
theorem dL_law_363 : decode cL_law 363 = .ok (.iload 4, 2) := by decide +kernel
theorem dL_law_365 : decode cL_law 365 = .ok (.iconst 2, 1) := by decide +kernel
theorem dL_law_366 : decode cL_law 366 = .ok (.iadd, 1) := by decide +kernel
theorem dL_law_367 : decode cL_law 367 = .ok (.iaload, 1) := by decide +kernel
theorem dL_law_368 : decode cL_law 368 = .ok (.invokevirtual 77, 3) := by decide +kernel
theorem dL_law_371 : decode cL_law 371 = .ok (.istore 6, 2) := by decide +kernel
theorem dL_law_373 : decode cL_law 373 = .ok (.aload_n 2, 1) := by decide +kernel
theorem dL_law_374 : decode cL_law 374 = .ok (.invokevirtual 63, 3) := by decide +kernel
theorem dL_law_377 : decode cL_law 377 = .ok (.iload 5, 2) := by decide +kernel
theorem dL_law_379 : decode cL_law 379 = .ok (.if_icmp .eq 5, 3) := by decide +kernel
theorem dL_law_382 : decode cL_law 382 = .ok (.iconst 0, 1) := by decide +kernel
theorem dL_law_383 : decode cL_law 383 = .ok (.ireturn, 1) := by decide +kernel
theorem dL_law_384 : decode cL_law 384 = .ok (.iload 5, 2) := by decide +kernel
theorem dL_law_386 : decode cL_law 386 = .ok (.ifCond .ne 15, 3) := by decide +kernel
theorem dL_law_389 : decode cL_law 389 = .ok (.aload_n 3, 1) := by decide +kernel
theorem dL_law_390 : decode cL_law 390 = .ok (.iconst 0, 1) := by decide +kernel
theorem dL_law_391 : decode cL_law 391 = .ok (.laload, 1) := by decide +kernel
theorem dL_law_392 : decode cL_law 392 = .ok (.iload 6, 2) := by decide +kernel
theorem dL_law_394 : decode cL_law 394 = .ok (.i2l, 1) := by decide +kernel
theorem dL_law_395 : decode cL_law 395 = .ok (.lcmp, 1) := by decide +kernel
theorem dL_law_396 : decode cL_law 396 = .ok (.ifCond .eq 5, 3) := by decide +kernel
theorem dL_law_399 : decode cL_law 399 = .ok (.iconst 0, 1) := by decide +kernel
theorem dL_law_400 : decode cL_law 400 = .ok (.ireturn, 1) := by decide +kernel
theorem dL_law_401 : decode cL_law 401 = .ok (.goto 773, 3) := by decide +kernel
theorem dL_law_404 : decode cL_law 404 = .ok (.aload_n 1, 1) := by decide +kernel
theorem dL_law_405 : decode cL_law 405 = .ok (.aload_n 0, 1) := by decide +kernel
theorem dL_law_406 : decode cL_law 406 = .ok (.iload 4, 2) := by decide +kernel
theorem dL_law_408 : decode cL_law 408 = .ok (.iconst 1, 1) := by decide +kernel
theorem dL_law_409 : decode cL_law 409 = .ok (.iadd, 1) := by decide +kernel
theorem dL_law_410 : decode cL_law 410 = .ok (.iaload, 1) := by decide +kernel
theorem dL_law_411 : decode cL_law 411 = .ok (.aload_n 0, 1) := by decide +kernel
theorem dL_law_412 : decode cL_law 412 = .ok (.iload 4, 2) := by decide +kernel
theorem dL_law_414 : decode cL_law 414 = .ok (.iconst 2, 1) := by decide +kernel
theorem dL_law_415 : decode cL_law 415 = .ok (.iadd, 1) := by decide +kernel
theorem dL_law_416 : decode cL_law 416 = .ok (.iaload, 1) := by decide +kernel
theorem dL_law_417 : decode cL_law 417 = .ok (.aload_n 0, 1) := by decide +kernel
theorem dL_law_418 : decode cL_law 418 = .ok (.iload 4, 2) := by decide +kernel
theorem dL_law_420 : decode cL_law 420 = .ok (.iconst 3, 1) := by decide +kernel
theorem dL_law_421 : decode cL_law 421 = .ok (.iadd, 1) := by decide +kernel
theorem dL_law_422 : decode cL_law 422 = .ok (.iaload, 1) := by decide +kernel
theorem dL_law_423 : decode cL_law 423 = .ok (.ifCond .eq 7, 3) := by decide +kernel
theorem dL_law_426 : decode cL_law 426 = .ok (.iconst 1, 1) := by decide +kernel
theorem dL_law_427 : decode cL_law 427 = .ok (.goto 4, 3) := by decide +kernel
theorem dL_law_430 : decode cL_law 430 = .ok (.iconst 0, 1) := by decide +kernel
theorem dL_law_431 : decode cL_law 431 = .ok (.aload_n 3, 1) := by decide +kernel
theorem dL_law_432 : decode cL_law 432 = .ok (.invokestatic 78, 3) := by decide +kernel
theorem dL_law_435 : decode cL_law 435 = .ok (.istore 5, 2) := by decide +kernel
theorem dL_law_437 : decode cL_law 437 = .ok (.aload_n 2, 1) := by decide +kernel
theorem dL_law_438 : decode cL_law 438 = .ok (.aload_n 0, 1) := by decide +kernel
theorem dL_law_439 : decode cL_law 439 = .ok (.iload 4, 2) := by decide +kernel
theorem dL_law_441 : decode cL_law 441 = .ok (.iconst 1, 1) := by decide +kernel
theorem dL_law_442 : decode cL_law 442 = .ok (.iadd, 1) := by decide +kernel
theorem dL_law_443 : decode cL_law 443 = .ok (.iaload, 1) := by decide +kernel
theorem dL_law_444 : decode cL_law 444 = .ok (.aload_n 0, 1) := by decide +kernel
theorem dL_law_445 : decode cL_law 445 = .ok (.iload 4, 2) := by decide +kernel
theorem dL_law_447 : decode cL_law 447 = .ok (.iconst 2, 1) := by decide +kernel
theorem dL_law_448 : decode cL_law 448 = .ok (.iadd, 1) := by decide +kernel
theorem dL_law_449 : decode cL_law 449 = .ok (.iaload, 1) := by decide +kernel
theorem dL_law_450 : decode cL_law 450 = .ok (.aload_n 0, 1) := by decide +kernel
theorem dL_law_451 : decode cL_law 451 = .ok (.iload 4, 2) := by decide +kernel
theorem dL_law_453 : decode cL_law 453 = .ok (.iconst 3, 1) := by decide +kernel
theorem dL_law_454 : decode cL_law 454 = .ok (.iadd, 1) := by decide +kernel
theorem dL_law_455 : decode cL_law 455 = .ok (.iaload, 1) := by decide +kernel
theorem dL_law_456 : decode cL_law 456 = .ok (.ifCond .eq 7, 3) := by decide +kernel
theorem dL_law_459 : decode cL_law 459 = .ok (.iconst 1, 1) := by decide +kernel
theorem dL_law_460 : decode cL_law 460 = .ok (.goto 4, 3) := by decide +kernel
theorem dL_law_463 : decode cL_law 463 = .ok (.iconst 0, 1) := by decide +kernel
theorem dL_law_464 : decode cL_law 464 = .ok (.invokevirtual 81, 3) := by decide +kernel
theorem dL_law_467 : decode cL_law 467 = .ok (.istore 6, 2) := by decide +kernel
theorem dL_law_469 : decode cL_law 469 = .ok (.aload_n 2, 1) := by decide +kernel
theorem dL_law_470 : decode cL_law 470 = .ok (.invokevirtual 63, 3) := by decide +kernel
theorem dL_law_473 : decode cL_law 473 = .ok (.iload 5, 2) := by decide +kernel
theorem dL_law_475 : decode cL_law 475 = .ok (.if_icmp .eq 5, 3) := by decide +kernel
theorem dL_law_478 : decode cL_law 478 = .ok (.iconst 0, 1) := by decide +kernel
theorem dL_law_479 : decode cL_law 479 = .ok (.ireturn, 1) := by decide +kernel
theorem dL_law_480 : decode cL_law 480 = .ok (.iload 5, 2) := by decide +kernel
theorem dL_law_482 : decode cL_law 482 = .ok (.ifCond .ne 22, 3) := by decide +kernel
theorem dL_law_485 : decode cL_law 485 = .ok (.aload_n 3, 1) := by decide +kernel
theorem dL_law_486 : decode cL_law 486 = .ok (.iconst 0, 1) := by decide +kernel
theorem dL_law_487 : decode cL_law 487 = .ok (.laload, 1) := by decide +kernel
theorem dL_law_488 : decode cL_law 488 = .ok (.iload 6, 2) := by decide +kernel
theorem dL_law_490 : decode cL_law 490 = .ok (.ifCond .eq 7, 3) := by decide +kernel
theorem dL_law_493 : decode cL_law 493 = .ok (.lconst 1, 1) := by decide +kernel
theorem dL_law_494 : decode cL_law 494 = .ok (.goto 4, 3) := by decide +kernel
theorem dL_law_497 : decode cL_law 497 = .ok (.lconst 0, 1) := by decide +kernel
theorem dL_law_498 : decode cL_law 498 = .ok (.lcmp, 1) := by decide +kernel
theorem dL_law_499 : decode cL_law 499 = .ok (.ifCond .eq 5, 3) := by decide +kernel
theorem dL_law_502 : decode cL_law 502 = .ok (.iconst 0, 1) := by decide +kernel
theorem dL_law_503 : decode cL_law 503 = .ok (.ireturn, 1) := by decide +kernel
theorem dL_law_504 : decode cL_law 504 = .ok (.goto 670, 3) := by decide +kernel
theorem dL_law_507 : decode cL_law 507 = .ok (.aload_n 1, 1) := by decide +kernel
theorem dL_law_508 : decode cL_law 508 = .ok (.aload_n 0, 1) := by decide +kernel
theorem dL_law_509 : decode cL_law 509 = .ok (.iload 4, 2) := by decide +kernel
theorem dL_law_511 : decode cL_law 511 = .ok (.iconst 1, 1) := by decide +kernel
theorem dL_law_512 : decode cL_law 512 = .ok (.iadd, 1) := by decide +kernel
theorem dL_law_513 : decode cL_law 513 = .ok (.iaload, 1) := by decide +kernel
theorem dL_law_514 : decode cL_law 514 = .ok (.ifCond .eq 7, 3) := by decide +kernel
theorem dL_law_517 : decode cL_law 517 = .ok (.iconst 1, 1) := by decide +kernel
theorem dL_law_518 : decode cL_law 518 = .ok (.goto 4, 3) := by decide +kernel
theorem dL_law_521 : decode cL_law 521 = .ok (.iconst 0, 1) := by decide +kernel
theorem dL_law_522 : decode cL_law 522 = .ok (.invokevirtual 82, 3) := by decide +kernel
theorem dL_law_525 : decode cL_law 525 = .ok (.aload_n 2, 1) := by decide +kernel
theorem dL_law_526 : decode cL_law 526 = .ok (.aload_n 0, 1) := by decide +kernel
theorem dL_law_527 : decode cL_law 527 = .ok (.iload 4, 2) := by decide +kernel
theorem dL_law_529 : decode cL_law 529 = .ok (.iconst 1, 1) := by decide +kernel
theorem dL_law_530 : decode cL_law 530 = .ok (.iadd, 1) := by decide +kernel
theorem dL_law_531 : decode cL_law 531 = .ok (.iaload, 1) := by decide +kernel
theorem dL_law_532 : decode cL_law 532 = .ok (.ifCond .eq 7, 3) := by decide +kernel
theorem dL_law_535 : decode cL_law 535 = .ok (.iconst 1, 1) := by decide +kernel
theorem dL_law_536 : decode cL_law 536 = .ok (.goto 4, 3) := by decide +kernel
theorem dL_law_539 : decode cL_law 539 = .ok (.iconst 0, 1) := by decide +kernel
theorem dL_law_540 : decode cL_law 540 = .ok (.invokevirtual 86, 3) := by decide +kernel
theorem dL_law_543 : decode cL_law 543 = .ok (.if_icmp .eq 631, 3) := by decide +kernel
theorem dL_law_546 : decode cL_law 546 = .ok (.iconst 0, 1) := by decide +kernel
theorem dL_law_547 : decode cL_law 547 = .ok (.ireturn, 1) := by decide +kernel
theorem dL_law_548 : decode cL_law 548 = .ok (.aload_n 1, 1) := by decide +kernel
theorem dL_law_549 : decode cL_law 549 = .ok (.aload_n 0, 1) := by decide +kernel
theorem dL_law_550 : decode cL_law 550 = .ok (.iload 4, 2) := by decide +kernel
theorem dL_law_552 : decode cL_law 552 = .ok (.iconst 1, 1) := by decide +kernel
theorem dL_law_553 : decode cL_law 553 = .ok (.iadd, 1) := by decide +kernel
theorem dL_law_554 : decode cL_law 554 = .ok (.iaload, 1) := by decide +kernel
theorem dL_law_555 : decode cL_law 555 = .ok (.aload_n 0, 1) := by decide +kernel
theorem dL_law_556 : decode cL_law 556 = .ok (.iload 4, 2) := by decide +kernel
theorem dL_law_558 : decode cL_law 558 = .ok (.iconst 2, 1) := by decide +kernel
theorem dL_law_559 : decode cL_law 559 = .ok (.iadd, 1) := by decide +kernel
theorem dL_law_560 : decode cL_law 560 = .ok (.iaload, 1) := by decide +kernel
theorem dL_law_561 : decode cL_law 561 = .ok (.ifCond .eq 7, 3) := by decide +kernel
theorem dL_law_564 : decode cL_law 564 = .ok (.iconst 1, 1) := by decide +kernel
theorem dL_law_565 : decode cL_law 565 = .ok (.goto 4, 3) := by decide +kernel
theorem dL_law_568 : decode cL_law 568 = .ok (.iconst 0, 1) := by decide +kernel
theorem dL_law_569 : decode cL_law 569 = .ok (.invokevirtual 87, 3) := by decide +kernel
theorem dL_law_572 : decode cL_law 572 = .ok (.aload_n 2, 1) := by decide +kernel
theorem dL_law_573 : decode cL_law 573 = .ok (.aload_n 0, 1) := by decide +kernel
theorem dL_law_574 : decode cL_law 574 = .ok (.iload 4, 2) := by decide +kernel
theorem dL_law_576 : decode cL_law 576 = .ok (.iconst 1, 1) := by decide +kernel
theorem dL_law_577 : decode cL_law 577 = .ok (.iadd, 1) := by decide +kernel
theorem dL_law_578 : decode cL_law 578 = .ok (.iaload, 1) := by decide +kernel
theorem dL_law_579 : decode cL_law 579 = .ok (.aload_n 0, 1) := by decide +kernel
theorem dL_law_580 : decode cL_law 580 = .ok (.iload 4, 2) := by decide +kernel
theorem dL_law_582 : decode cL_law 582 = .ok (.iconst 2, 1) := by decide +kernel
theorem dL_law_583 : decode cL_law 583 = .ok (.iadd, 1) := by decide +kernel
theorem dL_law_584 : decode cL_law 584 = .ok (.iaload, 1) := by decide +kernel
theorem dL_law_585 : decode cL_law 585 = .ok (.ifCond .eq 7, 3) := by decide +kernel
theorem dL_law_588 : decode cL_law 588 = .ok (.iconst 1, 1) := by decide +kernel
theorem dL_law_589 : decode cL_law 589 = .ok (.goto 4, 3) := by decide +kernel
theorem dL_law_592 : decode cL_law 592 = .ok (.iconst 0, 1) := by decide +kernel
theorem dL_law_593 : decode cL_law 593 = .ok (.invokevirtual 90, 3) := by decide +kernel
theorem dL_law_596 : decode cL_law 596 = .ok (.if_icmp .eq 578, 3) := by decide +kernel
theorem dL_law_599 : decode cL_law 599 = .ok (.iconst 0, 1) := by decide +kernel
theorem dL_law_600 : decode cL_law 600 = .ok (.ireturn, 1) := by decide +kernel
theorem dL_law_601 : decode cL_law 601 = .ok (.aload_n 1, 1) := by decide +kernel
theorem dL_law_602 : decode cL_law 602 = .ok (.aload_n 0, 1) := by decide +kernel
theorem dL_law_603 : decode cL_law 603 = .ok (.iload 4, 2) := by decide +kernel
theorem dL_law_605 : decode cL_law 605 = .ok (.iconst 1, 1) := by decide +kernel
theorem dL_law_606 : decode cL_law 606 = .ok (.iadd, 1) := by decide +kernel
theorem dL_law_607 : decode cL_law 607 = .ok (.iaload, 1) := by decide +kernel
theorem dL_law_608 : decode cL_law 608 = .ok (.aload_n 0, 1) := by decide +kernel
theorem dL_law_609 : decode cL_law 609 = .ok (.iload 4, 2) := by decide +kernel
theorem dL_law_611 : decode cL_law 611 = .ok (.iconst 2, 1) := by decide +kernel
theorem dL_law_612 : decode cL_law 612 = .ok (.iadd, 1) := by decide +kernel
theorem dL_law_613 : decode cL_law 613 = .ok (.iaload, 1) := by decide +kernel
theorem dL_law_614 : decode cL_law 614 = .ok (.aload_n 0, 1) := by decide +kernel
theorem dL_law_615 : decode cL_law 615 = .ok (.iload 4, 2) := by decide +kernel
theorem dL_law_617 : decode cL_law 617 = .ok (.iconst 3, 1) := by decide +kernel
theorem dL_law_618 : decode cL_law 618 = .ok (.iadd, 1) := by decide +kernel
theorem dL_law_619 : decode cL_law 619 = .ok (.iaload, 1) := by decide +kernel
theorem dL_law_620 : decode cL_law 620 = .ok (.aload_n 3, 1) := by decide +kernel
theorem dL_law_621 : decode cL_law 621 = .ok (.invokestatic 91, 3) := by decide +kernel
theorem dL_law_624 : decode cL_law 624 = .ok (.istore 5, 2) := by decide +kernel
theorem dL_law_626 : decode cL_law 626 = .ok (.aload_n 2, 1) := by decide +kernel
theorem dL_law_627 : decode cL_law 627 = .ok (.aload_n 0, 1) := by decide +kernel
theorem dL_law_628 : decode cL_law 628 = .ok (.iload 4, 2) := by decide +kernel
theorem dL_law_630 : decode cL_law 630 = .ok (.iconst 1, 1) := by decide +kernel
theorem dL_law_631 : decode cL_law 631 = .ok (.iadd, 1) := by decide +kernel
theorem dL_law_632 : decode cL_law 632 = .ok (.iaload, 1) := by decide +kernel
theorem dL_law_633 : decode cL_law 633 = .ok (.aload_n 0, 1) := by decide +kernel
theorem dL_law_634 : decode cL_law 634 = .ok (.iload 4, 2) := by decide +kernel
theorem dL_law_636 : decode cL_law 636 = .ok (.iconst 2, 1) := by decide +kernel
theorem dL_law_637 : decode cL_law 637 = .ok (.iadd, 1) := by decide +kernel
theorem dL_law_638 : decode cL_law 638 = .ok (.iaload, 1) := by decide +kernel
theorem dL_law_639 : decode cL_law 639 = .ok (.aload_n 0, 1) := by decide +kernel
theorem dL_law_640 : decode cL_law 640 = .ok (.iload 4, 2) := by decide +kernel
theorem dL_law_642 : decode cL_law 642 = .ok (.iconst 3, 1) := by decide +kernel
theorem dL_law_643 : decode cL_law 643 = .ok (.iadd, 1) := by decide +kernel
theorem dL_law_644 : decode cL_law 644 = .ok (.iaload, 1) := by decide +kernel
theorem dL_law_645 : decode cL_law 645 = .ok (.invokevirtual 94, 3) := by decide +kernel
theorem dL_law_648 : decode cL_law 648 = .ok (.istore 6, 2) := by decide +kernel
theorem dL_law_650 : decode cL_law 650 = .ok (.aload_n 2, 1) := by decide +kernel
theorem dL_law_651 : decode cL_law 651 = .ok (.invokevirtual 63, 3) := by decide +kernel
theorem dL_law_654 : decode cL_law 654 = .ok (.iload 5, 2) := by decide +kernel
theorem dL_law_656 : decode cL_law 656 = .ok (.if_icmp .eq 5, 3) := by decide +kernel
theorem dL_law_659 : decode cL_law 659 = .ok (.iconst 0, 1) := by decide +kernel
theorem dL_law_660 : decode cL_law 660 = .ok (.ireturn, 1) := by decide +kernel
theorem dL_law_661 : decode cL_law 661 = .ok (.iload 5, 2) := by decide +kernel
theorem dL_law_663 : decode cL_law 663 = .ok (.ifCond .ne 15, 3) := by decide +kernel
theorem dL_law_666 : decode cL_law 666 = .ok (.aload_n 3, 1) := by decide +kernel
theorem dL_law_667 : decode cL_law 667 = .ok (.iconst 0, 1) := by decide +kernel
theorem dL_law_668 : decode cL_law 668 = .ok (.laload, 1) := by decide +kernel
theorem dL_law_669 : decode cL_law 669 = .ok (.iload 6, 2) := by decide +kernel
theorem dL_law_671 : decode cL_law 671 = .ok (.i2l, 1) := by decide +kernel
theorem dL_law_672 : decode cL_law 672 = .ok (.lcmp, 1) := by decide +kernel
theorem dL_law_673 : decode cL_law 673 = .ok (.ifCond .eq 5, 3) := by decide +kernel
theorem dL_law_676 : decode cL_law 676 = .ok (.iconst 0, 1) := by decide +kernel
theorem dL_law_677 : decode cL_law 677 = .ok (.ireturn, 1) := by decide +kernel
theorem dL_law_678 : decode cL_law 678 = .ok (.goto 496, 3) := by decide +kernel
theorem dL_law_681 : decode cL_law 681 = .ok (.aload_n 1, 1) := by decide +kernel
theorem dL_law_682 : decode cL_law 682 = .ok (.aload_n 0, 1) := by decide +kernel
theorem dL_law_683 : decode cL_law 683 = .ok (.iload 4, 2) := by decide +kernel
theorem dL_law_685 : decode cL_law 685 = .ok (.iconst 1, 1) := by decide +kernel
theorem dL_law_686 : decode cL_law 686 = .ok (.iadd, 1) := by decide +kernel
theorem dL_law_687 : decode cL_law 687 = .ok (.iaload, 1) := by decide +kernel
theorem dL_law_688 : decode cL_law 688 = .ok (.aload_n 0, 1) := by decide +kernel
theorem dL_law_689 : decode cL_law 689 = .ok (.iload 4, 2) := by decide +kernel
theorem dL_law_691 : decode cL_law 691 = .ok (.iconst 2, 1) := by decide +kernel
theorem dL_law_692 : decode cL_law 692 = .ok (.iadd, 1) := by decide +kernel
theorem dL_law_693 : decode cL_law 693 = .ok (.iaload, 1) := by decide +kernel
theorem dL_law_694 : decode cL_law 694 = .ok (.aload_n 3, 1) := by decide +kernel
theorem dL_law_695 : decode cL_law 695 = .ok (.invokestatic 95, 3) := by decide +kernel
theorem dL_law_698 : decode cL_law 698 = .ok (.istore 5, 2) := by decide +kernel
theorem dL_law_700 : decode cL_law 700 = .ok (.aload_n 2, 1) := by decide +kernel
theorem dL_law_701 : decode cL_law 701 = .ok (.aload_n 0, 1) := by decide +kernel
theorem dL_law_702 : decode cL_law 702 = .ok (.iload 4, 2) := by decide +kernel
theorem dL_law_704 : decode cL_law 704 = .ok (.iconst 1, 1) := by decide +kernel
theorem dL_law_705 : decode cL_law 705 = .ok (.iadd, 1) := by decide +kernel
theorem dL_law_706 : decode cL_law 706 = .ok (.iaload, 1) := by decide +kernel
theorem dL_law_707 : decode cL_law 707 = .ok (.aload_n 0, 1) := by decide +kernel
theorem dL_law_708 : decode cL_law 708 = .ok (.iload 4, 2) := by decide +kernel
theorem dL_law_710 : decode cL_law 710 = .ok (.iconst 2, 1) := by decide +kernel
theorem dL_law_711 : decode cL_law 711 = .ok (.iadd, 1) := by decide +kernel
theorem dL_law_712 : decode cL_law 712 = .ok (.iaload, 1) := by decide +kernel
theorem dL_law_713 : decode cL_law 713 = .ok (.invokevirtual 97, 3) := by decide +kernel
theorem dL_law_716 : decode cL_law 716 = .ok (.istore 6, 2) := by decide +kernel
theorem dL_law_718 : decode cL_law 718 = .ok (.aload_n 2, 1) := by decide +kernel
theorem dL_law_719 : decode cL_law 719 = .ok (.invokevirtual 63, 3) := by decide +kernel
theorem dL_law_722 : decode cL_law 722 = .ok (.iload 5, 2) := by decide +kernel
theorem dL_law_724 : decode cL_law 724 = .ok (.if_icmp .eq 5, 3) := by decide +kernel
theorem dL_law_727 : decode cL_law 727 = .ok (.iconst 0, 1) := by decide +kernel
theorem dL_law_728 : decode cL_law 728 = .ok (.ireturn, 1) := by decide +kernel
theorem dL_law_729 : decode cL_law 729 = .ok (.iload 5, 2) := by decide +kernel
theorem dL_law_731 : decode cL_law 731 = .ok (.ifCond .ne 15, 3) := by decide +kernel
theorem dL_law_734 : decode cL_law 734 = .ok (.aload_n 3, 1) := by decide +kernel
theorem dL_law_735 : decode cL_law 735 = .ok (.iconst 0, 1) := by decide +kernel
theorem dL_law_736 : decode cL_law 736 = .ok (.laload, 1) := by decide +kernel
theorem dL_law_737 : decode cL_law 737 = .ok (.iload 6, 2) := by decide +kernel
theorem dL_law_739 : decode cL_law 739 = .ok (.i2l, 1) := by decide +kernel
theorem dL_law_740 : decode cL_law 740 = .ok (.lcmp, 1) := by decide +kernel
theorem dL_law_741 : decode cL_law 741 = .ok (.ifCond .eq 5, 3) := by decide +kernel
theorem dL_law_744 : decode cL_law 744 = .ok (.iconst 0, 1) := by decide +kernel
theorem dL_law_745 : decode cL_law 745 = .ok (.ireturn, 1) := by decide +kernel
theorem dL_law_746 : decode cL_law 746 = .ok (.goto 428, 3) := by decide +kernel
theorem dL_law_749 : decode cL_law 749 = .ok (.aload_n 1, 1) := by decide +kernel
theorem dL_law_750 : decode cL_law 750 = .ok (.aload_n 0, 1) := by decide +kernel
theorem dL_law_751 : decode cL_law 751 = .ok (.iload 4, 2) := by decide +kernel
theorem dL_law_753 : decode cL_law 753 = .ok (.iconst 1, 1) := by decide +kernel
theorem dL_law_754 : decode cL_law 754 = .ok (.iadd, 1) := by decide +kernel
theorem dL_law_755 : decode cL_law 755 = .ok (.iaload, 1) := by decide +kernel
theorem dL_law_756 : decode cL_law 756 = .ok (.invokevirtual 98, 3) := by decide +kernel
theorem dL_law_759 : decode cL_law 759 = .ok (.aload_n 2, 1) := by decide +kernel
theorem dL_law_760 : decode cL_law 760 = .ok (.aload_n 0, 1) := by decide +kernel
theorem dL_law_761 : decode cL_law 761 = .ok (.iload 4, 2) := by decide +kernel
theorem dL_law_763 : decode cL_law 763 = .ok (.iconst 1, 1) := by decide +kernel
theorem dL_law_764 : decode cL_law 764 = .ok (.iadd, 1) := by decide +kernel
theorem dL_law_765 : decode cL_law 765 = .ok (.iaload, 1) := by decide +kernel
theorem dL_law_766 : decode cL_law 766 = .ok (.invokevirtual 101, 3) := by decide +kernel
theorem dL_law_769 : decode cL_law 769 = .ok (.if_icmp .eq 405, 3) := by decide +kernel
theorem dL_law_772 : decode cL_law 772 = .ok (.iconst 0, 1) := by decide +kernel
theorem dL_law_773 : decode cL_law 773 = .ok (.ireturn, 1) := by decide +kernel
theorem dL_law_774 : decode cL_law 774 = .ok (.aload_n 1, 1) := by decide +kernel
theorem dL_law_775 : decode cL_law 775 = .ok (.aload_n 0, 1) := by decide +kernel
theorem dL_law_776 : decode cL_law 776 = .ok (.iload 4, 2) := by decide +kernel
theorem dL_law_778 : decode cL_law 778 = .ok (.iconst 1, 1) := by decide +kernel
theorem dL_law_779 : decode cL_law 779 = .ok (.iadd, 1) := by decide +kernel
theorem dL_law_780 : decode cL_law 780 = .ok (.iaload, 1) := by decide +kernel
theorem dL_law_781 : decode cL_law 781 = .ok (.aload_n 3, 1) := by decide +kernel
theorem dL_law_782 : decode cL_law 782 = .ok (.invokestatic 102, 3) := by decide +kernel
theorem dL_law_785 : decode cL_law 785 = .ok (.istore 5, 2) := by decide +kernel
theorem dL_law_787 : decode cL_law 787 = .ok (.aload_n 2, 1) := by decide +kernel
theorem dL_law_788 : decode cL_law 788 = .ok (.aload_n 0, 1) := by decide +kernel
theorem dL_law_789 : decode cL_law 789 = .ok (.iload 4, 2) := by decide +kernel
theorem dL_law_791 : decode cL_law 791 = .ok (.iconst 1, 1) := by decide +kernel
theorem dL_law_792 : decode cL_law 792 = .ok (.iadd, 1) := by decide +kernel
theorem dL_law_793 : decode cL_law 793 = .ok (.iaload, 1) := by decide +kernel
theorem dL_law_794 : decode cL_law 794 = .ok (.invokevirtual 105, 3) := by decide +kernel
theorem dL_law_797 : decode cL_law 797 = .ok (.istore 6, 2) := by decide +kernel
theorem dL_law_799 : decode cL_law 799 = .ok (.aload_n 2, 1) := by decide +kernel
theorem dL_law_800 : decode cL_law 800 = .ok (.invokevirtual 63, 3) := by decide +kernel
theorem dL_law_803 : decode cL_law 803 = .ok (.iload 5, 2) := by decide +kernel
theorem dL_law_805 : decode cL_law 805 = .ok (.if_icmp .eq 5, 3) := by decide +kernel
theorem dL_law_808 : decode cL_law 808 = .ok (.iconst 0, 1) := by decide +kernel
theorem dL_law_809 : decode cL_law 809 = .ok (.ireturn, 1) := by decide +kernel
theorem dL_law_810 : decode cL_law 810 = .ok (.iload 5, 2) := by decide +kernel
theorem dL_law_812 : decode cL_law 812 = .ok (.ifCond .ne 15, 3) := by decide +kernel
theorem dL_law_815 : decode cL_law 815 = .ok (.aload_n 3, 1) := by decide +kernel
theorem dL_law_816 : decode cL_law 816 = .ok (.iconst 0, 1) := by decide +kernel
theorem dL_law_817 : decode cL_law 817 = .ok (.laload, 1) := by decide +kernel
theorem dL_law_818 : decode cL_law 818 = .ok (.iload 6, 2) := by decide +kernel
theorem dL_law_820 : decode cL_law 820 = .ok (.i2l, 1) := by decide +kernel
theorem dL_law_821 : decode cL_law 821 = .ok (.lcmp, 1) := by decide +kernel
theorem dL_law_822 : decode cL_law 822 = .ok (.ifCond .eq 5, 3) := by decide +kernel
theorem dL_law_825 : decode cL_law 825 = .ok (.iconst 0, 1) := by decide +kernel
theorem dL_law_826 : decode cL_law 826 = .ok (.ireturn, 1) := by decide +kernel
theorem dL_law_827 : decode cL_law 827 = .ok (.goto 347, 3) := by decide +kernel
theorem dL_law_830 : decode cL_law 830 = .ok (.aload_n 1, 1) := by decide +kernel
theorem dL_law_831 : decode cL_law 831 = .ok (.aload_n 0, 1) := by decide +kernel
theorem dL_law_832 : decode cL_law 832 = .ok (.iload 4, 2) := by decide +kernel
theorem dL_law_834 : decode cL_law 834 = .ok (.iconst 1, 1) := by decide +kernel
theorem dL_law_835 : decode cL_law 835 = .ok (.iadd, 1) := by decide +kernel
theorem dL_law_836 : decode cL_law 836 = .ok (.iaload, 1) := by decide +kernel
theorem dL_law_837 : decode cL_law 837 = .ok (.aload_n 0, 1) := by decide +kernel
theorem dL_law_838 : decode cL_law 838 = .ok (.iload 4, 2) := by decide +kernel
theorem dL_law_840 : decode cL_law 840 = .ok (.iconst 2, 1) := by decide +kernel
theorem dL_law_841 : decode cL_law 841 = .ok (.iadd, 1) := by decide +kernel
theorem dL_law_842 : decode cL_law 842 = .ok (.iaload, 1) := by decide +kernel
theorem dL_law_843 : decode cL_law 843 = .ok (.aload_n 3, 1) := by decide +kernel
theorem dL_law_844 : decode cL_law 844 = .ok (.invokestatic 106, 3) := by decide +kernel
theorem dL_law_847 : decode cL_law 847 = .ok (.istore 5, 2) := by decide +kernel
theorem dL_law_849 : decode cL_law 849 = .ok (.aload_n 2, 1) := by decide +kernel
theorem dL_law_850 : decode cL_law 850 = .ok (.aload_n 0, 1) := by decide +kernel
theorem dL_law_851 : decode cL_law 851 = .ok (.iload 4, 2) := by decide +kernel
theorem dL_law_853 : decode cL_law 853 = .ok (.iconst 1, 1) := by decide +kernel
theorem dL_law_854 : decode cL_law 854 = .ok (.iadd, 1) := by decide +kernel
theorem dL_law_855 : decode cL_law 855 = .ok (.iaload, 1) := by decide +kernel
theorem dL_law_856 : decode cL_law 856 = .ok (.aload_n 0, 1) := by decide +kernel
theorem dL_law_857 : decode cL_law 857 = .ok (.iload 4, 2) := by decide +kernel
theorem dL_law_859 : decode cL_law 859 = .ok (.iconst 2, 1) := by decide +kernel
theorem dL_law_860 : decode cL_law 860 = .ok (.iadd, 1) := by decide +kernel
theorem dL_law_861 : decode cL_law 861 = .ok (.iaload, 1) := by decide +kernel
theorem dL_law_862 : decode cL_law 862 = .ok (.invokevirtual 108, 3) := by decide +kernel
theorem dL_law_865 : decode cL_law 865 = .ok (.istore 6, 2) := by decide +kernel
theorem dL_law_867 : decode cL_law 867 = .ok (.aload_n 2, 1) := by decide +kernel
theorem dL_law_868 : decode cL_law 868 = .ok (.invokevirtual 63, 3) := by decide +kernel
theorem dL_law_871 : decode cL_law 871 = .ok (.iload 5, 2) := by decide +kernel
theorem dL_law_873 : decode cL_law 873 = .ok (.if_icmp .eq 5, 3) := by decide +kernel
theorem dL_law_876 : decode cL_law 876 = .ok (.iconst 0, 1) := by decide +kernel
theorem dL_law_877 : decode cL_law 877 = .ok (.ireturn, 1) := by decide +kernel
theorem dL_law_878 : decode cL_law 878 = .ok (.iload 5, 2) := by decide +kernel
theorem dL_law_880 : decode cL_law 880 = .ok (.ifCond .ne 22, 3) := by decide +kernel
theorem dL_law_883 : decode cL_law 883 = .ok (.aload_n 3, 1) := by decide +kernel
theorem dL_law_884 : decode cL_law 884 = .ok (.iconst 0, 1) := by decide +kernel
theorem dL_law_885 : decode cL_law 885 = .ok (.laload, 1) := by decide +kernel
theorem dL_law_886 : decode cL_law 886 = .ok (.iload 6, 2) := by decide +kernel
theorem dL_law_888 : decode cL_law 888 = .ok (.ifCond .eq 7, 3) := by decide +kernel
theorem dL_law_891 : decode cL_law 891 = .ok (.lconst 1, 1) := by decide +kernel
theorem dL_law_892 : decode cL_law 892 = .ok (.goto 4, 3) := by decide +kernel
theorem dL_law_895 : decode cL_law 895 = .ok (.lconst 0, 1) := by decide +kernel
theorem dL_law_896 : decode cL_law 896 = .ok (.lcmp, 1) := by decide +kernel
theorem dL_law_897 : decode cL_law 897 = .ok (.ifCond .eq 5, 3) := by decide +kernel
theorem dL_law_900 : decode cL_law 900 = .ok (.iconst 0, 1) := by decide +kernel
theorem dL_law_901 : decode cL_law 901 = .ok (.ireturn, 1) := by decide +kernel
theorem dL_law_902 : decode cL_law 902 = .ok (.goto 272, 3) := by decide +kernel
theorem dL_law_905 : decode cL_law 905 = .ok (.aload_n 1, 1) := by decide +kernel
theorem dL_law_906 : decode cL_law 906 = .ok (.aload_n 0, 1) := by decide +kernel
theorem dL_law_907 : decode cL_law 907 = .ok (.iload 4, 2) := by decide +kernel
theorem dL_law_909 : decode cL_law 909 = .ok (.iconst 1, 1) := by decide +kernel
theorem dL_law_910 : decode cL_law 910 = .ok (.iadd, 1) := by decide +kernel
theorem dL_law_911 : decode cL_law 911 = .ok (.iaload, 1) := by decide +kernel
theorem dL_law_912 : decode cL_law 912 = .ok (.invokevirtual 109, 3) := by decide +kernel
theorem dL_law_915 : decode cL_law 915 = .ok (.aload_n 2, 1) := by decide +kernel
theorem dL_law_916 : decode cL_law 916 = .ok (.aload_n 0, 1) := by decide +kernel
theorem dL_law_917 : decode cL_law 917 = .ok (.iload 4, 2) := by decide +kernel
theorem dL_law_919 : decode cL_law 919 = .ok (.iconst 1, 1) := by decide +kernel
theorem dL_law_920 : decode cL_law 920 = .ok (.iadd, 1) := by decide +kernel
theorem dL_law_921 : decode cL_law 921 = .ok (.iaload, 1) := by decide +kernel
theorem dL_law_922 : decode cL_law 922 = .ok (.invokevirtual 112, 3) := by decide +kernel
theorem dL_law_925 : decode cL_law 925 = .ok (.if_icmp .eq 249, 3) := by decide +kernel
theorem dL_law_928 : decode cL_law 928 = .ok (.iconst 0, 1) := by decide +kernel
theorem dL_law_929 : decode cL_law 929 = .ok (.ireturn, 1) := by decide +kernel
theorem dL_law_930 : decode cL_law 930 = .ok (.aload_n 1, 1) := by decide +kernel
theorem dL_law_931 : decode cL_law 931 = .ok (.aload_n 0, 1) := by decide +kernel
theorem dL_law_932 : decode cL_law 932 = .ok (.iload 4, 2) := by decide +kernel
theorem dL_law_934 : decode cL_law 934 = .ok (.iconst 1, 1) := by decide +kernel
theorem dL_law_935 : decode cL_law 935 = .ok (.iadd, 1) := by decide +kernel
theorem dL_law_936 : decode cL_law 936 = .ok (.iaload, 1) := by decide +kernel
theorem dL_law_937 : decode cL_law 937 = .ok (.aload_n 0, 1) := by decide +kernel
theorem dL_law_938 : decode cL_law 938 = .ok (.iload 4, 2) := by decide +kernel
theorem dL_law_940 : decode cL_law 940 = .ok (.iconst 2, 1) := by decide +kernel
theorem dL_law_941 : decode cL_law 941 = .ok (.iadd, 1) := by decide +kernel
theorem dL_law_942 : decode cL_law 942 = .ok (.iaload, 1) := by decide +kernel
theorem dL_law_943 : decode cL_law 943 = .ok (.aload_n 3, 1) := by decide +kernel
theorem dL_law_944 : decode cL_law 944 = .ok (.invokestatic 113, 3) := by decide +kernel
theorem dL_law_947 : decode cL_law 947 = .ok (.istore 5, 2) := by decide +kernel
theorem dL_law_949 : decode cL_law 949 = .ok (.aload_n 2, 1) := by decide +kernel
theorem dL_law_950 : decode cL_law 950 = .ok (.aload_n 0, 1) := by decide +kernel
theorem dL_law_951 : decode cL_law 951 = .ok (.iload 4, 2) := by decide +kernel
theorem dL_law_953 : decode cL_law 953 = .ok (.iconst 1, 1) := by decide +kernel
theorem dL_law_954 : decode cL_law 954 = .ok (.iadd, 1) := by decide +kernel
theorem dL_law_955 : decode cL_law 955 = .ok (.iaload, 1) := by decide +kernel
theorem dL_law_956 : decode cL_law 956 = .ok (.aload_n 0, 1) := by decide +kernel
theorem dL_law_957 : decode cL_law 957 = .ok (.iload 4, 2) := by decide +kernel
theorem dL_law_959 : decode cL_law 959 = .ok (.iconst 2, 1) := by decide +kernel
theorem dL_law_960 : decode cL_law 960 = .ok (.iadd, 1) := by decide +kernel
theorem dL_law_961 : decode cL_law 961 = .ok (.iaload, 1) := by decide +kernel
theorem dL_law_962 : decode cL_law 962 = .ok (.invokevirtual 115, 3) := by decide +kernel
theorem dL_law_965 : decode cL_law 965 = .ok (.istore 6, 2) := by decide +kernel
theorem dL_law_967 : decode cL_law 967 = .ok (.aload_n 2, 1) := by decide +kernel
theorem dL_law_968 : decode cL_law 968 = .ok (.invokevirtual 63, 3) := by decide +kernel
theorem dL_law_971 : decode cL_law 971 = .ok (.iload 5, 2) := by decide +kernel
theorem dL_law_973 : decode cL_law 973 = .ok (.if_icmp .eq 5, 3) := by decide +kernel
theorem dL_law_976 : decode cL_law 976 = .ok (.iconst 0, 1) := by decide +kernel
theorem dL_law_977 : decode cL_law 977 = .ok (.ireturn, 1) := by decide +kernel
theorem dL_law_978 : decode cL_law 978 = .ok (.iload 5, 2) := by decide +kernel
theorem dL_law_980 : decode cL_law 980 = .ok (.ifCond .ne 22, 3) := by decide +kernel
theorem dL_law_983 : decode cL_law 983 = .ok (.aload_n 3, 1) := by decide +kernel
theorem dL_law_984 : decode cL_law 984 = .ok (.iconst 0, 1) := by decide +kernel
theorem dL_law_985 : decode cL_law 985 = .ok (.laload, 1) := by decide +kernel
theorem dL_law_986 : decode cL_law 986 = .ok (.iload 6, 2) := by decide +kernel
theorem dL_law_988 : decode cL_law 988 = .ok (.ifCond .eq 7, 3) := by decide +kernel
theorem dL_law_991 : decode cL_law 991 = .ok (.lconst 1, 1) := by decide +kernel
theorem dL_law_992 : decode cL_law 992 = .ok (.goto 4, 3) := by decide +kernel
theorem dL_law_995 : decode cL_law 995 = .ok (.lconst 0, 1) := by decide +kernel
theorem dL_law_996 : decode cL_law 996 = .ok (.lcmp, 1) := by decide +kernel
theorem dL_law_997 : decode cL_law 997 = .ok (.ifCond .eq 5, 3) := by decide +kernel
theorem dL_law_1000 : decode cL_law 1000 = .ok (.iconst 0, 1) := by decide +kernel
theorem dL_law_1001 : decode cL_law 1001 = .ok (.ireturn, 1) := by decide +kernel
theorem dL_law_1002 : decode cL_law 1002 = .ok (.goto 172, 3) := by decide +kernel
theorem dL_law_1005 : decode cL_law 1005 = .ok (.aload_n 1, 1) := by decide +kernel
theorem dL_law_1006 : decode cL_law 1006 = .ok (.aload_n 0, 1) := by decide +kernel
theorem dL_law_1007 : decode cL_law 1007 = .ok (.iload 4, 2) := by decide +kernel
theorem dL_law_1009 : decode cL_law 1009 = .ok (.iconst 1, 1) := by decide +kernel
theorem dL_law_1010 : decode cL_law 1010 = .ok (.iadd, 1) := by decide +kernel
theorem dL_law_1011 : decode cL_law 1011 = .ok (.iaload, 1) := by decide +kernel
theorem dL_law_1012 : decode cL_law 1012 = .ok (.aload_n 0, 1) := by decide +kernel
theorem dL_law_1013 : decode cL_law 1013 = .ok (.iload 4, 2) := by decide +kernel
theorem dL_law_1015 : decode cL_law 1015 = .ok (.iconst 2, 1) := by decide +kernel
theorem dL_law_1016 : decode cL_law 1016 = .ok (.iadd, 1) := by decide +kernel
theorem dL_law_1017 : decode cL_law 1017 = .ok (.iaload, 1) := by decide +kernel
theorem dL_law_1018 : decode cL_law 1018 = .ok (.aload_n 3, 1) := by decide +kernel
theorem dL_law_1019 : decode cL_law 1019 = .ok (.invokestatic 116, 3) := by decide +kernel
theorem dL_law_1022 : decode cL_law 1022 = .ok (.istore 5, 2) := by decide +kernel
theorem dL_law_1024 : decode cL_law 1024 = .ok (.aload_n 2, 1) := by decide +kernel
theorem dL_law_1025 : decode cL_law 1025 = .ok (.aload_n 0, 1) := by decide +kernel
theorem dL_law_1026 : decode cL_law 1026 = .ok (.iload 4, 2) := by decide +kernel
theorem dL_law_1028 : decode cL_law 1028 = .ok (.iconst 1, 1) := by decide +kernel
theorem dL_law_1029 : decode cL_law 1029 = .ok (.iadd, 1) := by decide +kernel
theorem dL_law_1030 : decode cL_law 1030 = .ok (.iaload, 1) := by decide +kernel
theorem dL_law_1031 : decode cL_law 1031 = .ok (.aload_n 0, 1) := by decide +kernel
theorem dL_law_1032 : decode cL_law 1032 = .ok (.iload 4, 2) := by decide +kernel
theorem dL_law_1034 : decode cL_law 1034 = .ok (.iconst 2, 1) := by decide +kernel
theorem dL_law_1035 : decode cL_law 1035 = .ok (.iadd, 1) := by decide +kernel
theorem dL_law_1036 : decode cL_law 1036 = .ok (.iaload, 1) := by decide +kernel
theorem dL_law_1037 : decode cL_law 1037 = .ok (.invokevirtual 118, 3) := by decide +kernel
theorem dL_law_1040 : decode cL_law 1040 = .ok (.istore 6, 2) := by decide +kernel
theorem dL_law_1042 : decode cL_law 1042 = .ok (.aload_n 2, 1) := by decide +kernel
theorem dL_law_1043 : decode cL_law 1043 = .ok (.invokevirtual 63, 3) := by decide +kernel
theorem dL_law_1046 : decode cL_law 1046 = .ok (.iload 5, 2) := by decide +kernel
theorem dL_law_1048 : decode cL_law 1048 = .ok (.if_icmp .eq 5, 3) := by decide +kernel
theorem dL_law_1051 : decode cL_law 1051 = .ok (.iconst 0, 1) := by decide +kernel
theorem dL_law_1052 : decode cL_law 1052 = .ok (.ireturn, 1) := by decide +kernel
theorem dL_law_1053 : decode cL_law 1053 = .ok (.iload 5, 2) := by decide +kernel
theorem dL_law_1055 : decode cL_law 1055 = .ok (.ifCond .ne 15, 3) := by decide +kernel
theorem dL_law_1058 : decode cL_law 1058 = .ok (.aload_n 3, 1) := by decide +kernel
theorem dL_law_1059 : decode cL_law 1059 = .ok (.iconst 0, 1) := by decide +kernel
theorem dL_law_1060 : decode cL_law 1060 = .ok (.laload, 1) := by decide +kernel
theorem dL_law_1061 : decode cL_law 1061 = .ok (.iload 6, 2) := by decide +kernel
theorem dL_law_1063 : decode cL_law 1063 = .ok (.i2l, 1) := by decide +kernel
theorem dL_law_1064 : decode cL_law 1064 = .ok (.lcmp, 1) := by decide +kernel
theorem dL_law_1065 : decode cL_law 1065 = .ok (.ifCond .eq 5, 3) := by decide +kernel
theorem dL_law_1068 : decode cL_law 1068 = .ok (.iconst 0, 1) := by decide +kernel
theorem dL_law_1069 : decode cL_law 1069 = .ok (.ireturn, 1) := by decide +kernel
theorem dL_law_1070 : decode cL_law 1070 = .ok (.goto 104, 3) := by decide +kernel
theorem dL_law_1073 : decode cL_law 1073 = .ok (.aload_n 1, 1) := by decide +kernel
theorem dL_law_1074 : decode cL_law 1074 = .ok (.aload_n 0, 1) := by decide +kernel
theorem dL_law_1075 : decode cL_law 1075 = .ok (.iload 4, 2) := by decide +kernel
theorem dL_law_1077 : decode cL_law 1077 = .ok (.iconst 1, 1) := by decide +kernel
theorem dL_law_1078 : decode cL_law 1078 = .ok (.iadd, 1) := by decide +kernel
theorem dL_law_1079 : decode cL_law 1079 = .ok (.iaload, 1) := by decide +kernel
theorem dL_law_1080 : decode cL_law 1080 = .ok (.invokevirtual 119, 3) := by decide +kernel
theorem dL_law_1083 : decode cL_law 1083 = .ok (.aload_n 2, 1) := by decide +kernel
theorem dL_law_1084 : decode cL_law 1084 = .ok (.aload_n 0, 1) := by decide +kernel
theorem dL_law_1085 : decode cL_law 1085 = .ok (.iload 4, 2) := by decide +kernel
theorem dL_law_1087 : decode cL_law 1087 = .ok (.iconst 1, 1) := by decide +kernel
theorem dL_law_1088 : decode cL_law 1088 = .ok (.iadd, 1) := by decide +kernel
theorem dL_law_1089 : decode cL_law 1089 = .ok (.iaload, 1) := by decide +kernel
theorem dL_law_1090 : decode cL_law 1090 = .ok (.invokevirtual 123, 3) := by decide +kernel
theorem dL_law_1093 : decode cL_law 1093 = .ok (.if_icmp .eq 81, 3) := by decide +kernel
theorem dL_law_1096 : decode cL_law 1096 = .ok (.iconst 0, 1) := by decide +kernel
theorem dL_law_1097 : decode cL_law 1097 = .ok (.ireturn, 1) := by decide +kernel
theorem dL_law_1098 : decode cL_law 1098 = .ok (.aload_n 1, 1) := by decide +kernel
theorem dL_law_1099 : decode cL_law 1099 = .ok (.invokevirtual 124, 3) := by decide +kernel
theorem dL_law_1102 : decode cL_law 1102 = .ok (.aload_n 2, 1) := by decide +kernel
theorem dL_law_1103 : decode cL_law 1103 = .ok (.invokevirtual 127, 3) := by decide +kernel
theorem dL_law_1106 : decode cL_law 1106 = .ok (.if_icmp .eq 68, 3) := by decide +kernel
theorem dL_law_1109 : decode cL_law 1109 = .ok (.iconst 0, 1) := by decide +kernel
theorem dL_law_1110 : decode cL_law 1110 = .ok (.ireturn, 1) := by decide +kernel
theorem dL_law_1111 : decode cL_law 1111 = .ok (.aload_n 1, 1) := by decide +kernel
theorem dL_law_1112 : decode cL_law 1112 = .ok (.aload_n 0, 1) := by decide +kernel
theorem dL_law_1113 : decode cL_law 1113 = .ok (.iload 4, 2) := by decide +kernel
theorem dL_law_1115 : decode cL_law 1115 = .ok (.iconst 1, 1) := by decide +kernel
theorem dL_law_1116 : decode cL_law 1116 = .ok (.iadd, 1) := by decide +kernel
theorem dL_law_1117 : decode cL_law 1117 = .ok (.iaload, 1) := by decide +kernel
theorem dL_law_1118 : decode cL_law 1118 = .ok (.invokevirtual 128, 3) := by decide +kernel
theorem dL_law_1121 : decode cL_law 1121 = .ok (.aload_n 2, 1) := by decide +kernel
theorem dL_law_1122 : decode cL_law 1122 = .ok (.aload_n 0, 1) := by decide +kernel
theorem dL_law_1123 : decode cL_law 1123 = .ok (.iload 4, 2) := by decide +kernel
theorem dL_law_1125 : decode cL_law 1125 = .ok (.iconst 1, 1) := by decide +kernel
theorem dL_law_1126 : decode cL_law 1126 = .ok (.iadd, 1) := by decide +kernel
theorem dL_law_1127 : decode cL_law 1127 = .ok (.iaload, 1) := by decide +kernel
theorem dL_law_1128 : decode cL_law 1128 = .ok (.invokevirtual 131, 3) := by decide +kernel
theorem dL_law_1131 : decode cL_law 1131 = .ok (.if_icmp .eq 43, 3) := by decide +kernel
theorem dL_law_1134 : decode cL_law 1134 = .ok (.iconst 0, 1) := by decide +kernel
theorem dL_law_1135 : decode cL_law 1135 = .ok (.ireturn, 1) := by decide +kernel
theorem dL_law_1136 : decode cL_law 1136 = .ok (.aload_n 1, 1) := by decide +kernel
theorem dL_law_1137 : decode cL_law 1137 = .ok (.aload_n 0, 1) := by decide +kernel
theorem dL_law_1138 : decode cL_law 1138 = .ok (.iload 4, 2) := by decide +kernel
theorem dL_law_1140 : decode cL_law 1140 = .ok (.iconst 1, 1) := by decide +kernel
theorem dL_law_1141 : decode cL_law 1141 = .ok (.iadd, 1) := by decide +kernel
theorem dL_law_1142 : decode cL_law 1142 = .ok (.iaload, 1) := by decide +kernel
theorem dL_law_1143 : decode cL_law 1143 = .ok (.invokevirtual 132, 3) := by decide +kernel
theorem dL_law_1146 : decode cL_law 1146 = .ok (.aload_n 2, 1) := by decide +kernel
theorem dL_law_1147 : decode cL_law 1147 = .ok (.aload_n 0, 1) := by decide +kernel
theorem dL_law_1148 : decode cL_law 1148 = .ok (.iload 4, 2) := by decide +kernel
theorem dL_law_1150 : decode cL_law 1150 = .ok (.iconst 1, 1) := by decide +kernel
theorem dL_law_1151 : decode cL_law 1151 = .ok (.iadd, 1) := by decide +kernel
theorem dL_law_1152 : decode cL_law 1152 = .ok (.iaload, 1) := by decide +kernel
theorem dL_law_1153 : decode cL_law 1153 = .ok (.invokevirtual 135, 3) := by decide +kernel
theorem dL_law_1156 : decode cL_law 1156 = .ok (.if_icmp .eq 18, 3) := by decide +kernel
theorem dL_law_1159 : decode cL_law 1159 = .ok (.iconst 0, 1) := by decide +kernel
theorem dL_law_1160 : decode cL_law 1160 = .ok (.ireturn, 1) := by decide +kernel
theorem dL_law_1161 : decode cL_law 1161 = .ok (.aload_n 1, 1) := by decide +kernel
theorem dL_law_1162 : decode cL_law 1162 = .ok (.invokevirtual 136, 3) := by decide +kernel
theorem dL_law_1165 : decode cL_law 1165 = .ok (.aload_n 2, 1) := by decide +kernel
theorem dL_law_1166 : decode cL_law 1166 = .ok (.invokevirtual 139, 3) := by decide +kernel
theorem dL_law_1169 : decode cL_law 1169 = .ok (.if_icmp .eq 5, 3) := by decide +kernel
theorem dL_law_1172 : decode cL_law 1172 = .ok (.iconst 0, 1) := by decide +kernel
theorem dL_law_1173 : decode cL_law 1173 = .ok (.ireturn, 1) := by decide +kernel
theorem dL_law_1174 : decode cL_law 1174 = .ok (.iinc 4 4, 3) := by decide +kernel
theorem dL_law_1177 : decode cL_law 1177 = .ok (.goto (-1124), 3) := by decide +kernel
theorem dL_law_1180 : decode cL_law 1180 = .ok (.iconst 1, 1) := by decide +kernel
theorem dL_law_1181 : decode cL_law 1181 = .ok (.ireturn, 1) := by decide +kernel
