theorem dX7_pair_35 : decode cX7_pair 35 = .ok (.aload_n 0, 1) := by decide +kernel
theorem dX7_pair_36 : decode cX7_pair 36 = .ok (.getfield 23, 3) := by decide +kernel
theorem dX7_pair_39 : decode cX7_pair 39 = .ok (.getfield 91, 3) := by decide +kernel
theorem dX7_pair_42 : decode cX7_pair 42 = .ok (.if_icmp .ge 48, 3) := by decide +kernel
theorem dX7_pair_45 : decode cX7_pair 45 = .ok (.iload 5, 2) := by decide +kernel
theorem dX7_pair_47 : decode cX7_pair 47 = .ok (.iconst (-1), 1) := by decide +kernel
theorem dX7_pair_48 : decode cX7_pair 48 = .ok (.if_icmp .eq 42, 3) := by decide +kernel
theorem dX7_pair_51 : decode cX7_pair 51 = .ok (.iload_n 3, 1) := by decide +kernel
theorem dX7_pair_52 : decode cX7_pair 52 = .ok (.iload_n 1, 1) := by decide +kernel
theorem dX7_pair_53 : decode cX7_pair 53 = .ok (.if_icmp .ne 15, 3) := by decide +kernel
theorem dX7_pair_56 : decode cX7_pair 56 = .ok (.iload_n 2, 1) := by decide +kernel
theorem dX7_pair_57 : decode cX7_pair 57 = .ok (.ifCond .eq 8, 3) := by decide +kernel
theorem dX7_pair_60 : decode cX7_pair 60 = .ok (.iload 5, 2) := by decide +kernel
theorem dX7_pair_62 : decode cX7_pair 62 = .ok (.goto 5, 3) := by decide +kernel
theorem dX7_pair_65 : decode cX7_pair 65 = .ok (.iload 4, 2) := by decide +kernel
theorem dX7_pair_67 : decode cX7_pair 67 = .ok (.ireturn, 1) := by decide +kernel
theorem dX7_pair_68 : decode cX7_pair 68 = .ok (.iinc 3 1, 3) := by decide +kernel
theorem dX7_pair_71 : decode cX7_pair 71 = .ok (.aload_n 0, 1) := by decide +kernel
theorem dX7_pair_72 : decode cX7_pair 72 = .ok (.getfield 23, 3) := by decide +kernel
theorem dX7_pair_75 : decode cX7_pair 75 = .ok (.iload 4, 2) := by decide +kernel
theorem dX7_pair_77 : decode cX7_pair 77 = .ok (.iload 5, 2) := by decide +kernel
theorem dX7_pair_79 : decode cX7_pair 79 = .ok (.invokevirtual 108, 3) := by decide +kernel
theorem dX7_pair_82 : decode cX7_pair 82 = .ok (.istore 5, 2) := by decide +kernel
theorem dX7_pair_84 : decode cX7_pair 84 = .ok (.iinc 6 1, 3) := by decide +kernel
theorem dX7_pair_87 : decode cX7_pair 87 = .ok (.goto (-54), 3) := by decide +kernel
theorem dX7_pair_90 : decode cX7_pair 90 = .ok (.iinc 4 1, 3) := by decide +kernel
theorem dX7_pair_93 : decode cX7_pair 93 = .ok (.goto (-88), 3) := by decide +kernel
theorem dX7_pair_96 : decode cX7_pair 96 = .ok (.iconst (-1), 1) := by decide +kernel
theorem dX7_pair_97 : decode cX7_pair 97 = .ok (.ireturn, 1) := by decide +kernel
theorem dX7_seen_0 : decode cX7_seen 0 = .ok (.aload_n 0, 1) := by decide +kernel
theorem dX7_seen_1 : decode cX7_seen 1 = .ok (.iload_n 1, 1) := by decide +kernel
theorem dX7_seen_2 : decode cX7_seen 2 = .ok (.invokevirtual 77, 3) := by decide +kernel
theorem dX7_seen_5 : decode cX7_seen 5 = .ok (.iload_n 2, 1) := by decide +kernel
theorem dX7_seen_6 : decode cX7_seen 6 = .ok (.ifCond .lt 14, 3) := by decide +kernel
theorem dX7_seen_9 : decode cX7_seen 9 = .ok (.iload_n 2, 1) := by decide +kernel
theorem dX7_seen_10 : decode cX7_seen 10 = .ok (.aload_n 0, 1) := by decide +kernel
theorem dX7_seen_11 : decode cX7_seen 11 = .ok (.getfield 12, 3) := by decide +kernel
theorem dX7_seen_14 : decode cX7_seen 14 = .ok (.invokevirtual 111, 3) := by decide +kernel
theorem dX7_seen_17 : decode cX7_seen 17 = .ok (.if_icmp .lt 5, 3) := by decide +kernel
theorem dX7_seen_20 : decode cX7_seen 20 = .ok (.iconst (-1), 1) := by decide +kernel
theorem dX7_seen_21 : decode cX7_seen 21 = .ok (.ireturn, 1) := by decide +kernel
theorem dX7_seen_22 : decode cX7_seen 22 = .ok (.aload_n 0, 1) := by decide +kernel
theorem dX7_seen_23 : decode cX7_seen 23 = .ok (.getfield 23, 3) := by decide +kernel
theorem dX7_seen_26 : decode cX7_seen 26 = .ok (.iload_n 1, 1) := by decide +kernel
theorem dX7_seen_27 : decode cX7_seen 27 = .ok (.iload_n 2, 1) := by decide +kernel
theorem dX7_seen_28 : decode cX7_seen 28 = .ok (.invokevirtual 94, 3) := by decide +kernel
theorem dX7_seen_31 : decode cX7_seen 31 = .ok (.istore 4, 2) := by decide +kernel
theorem dX7_seen_33 : decode cX7_seen 33 = .ok (.iconst 0, 1) := by decide +kernel
theorem dX7_seen_34 : decode cX7_seen 34 = .ok (.istore 5, 2) := by decide +kernel
theorem dX7_seen_36 : decode cX7_seen 36 = .ok (.iload 5, 2) := by decide +kernel
theorem dX7_seen_38 : decode cX7_seen 38 = .ok (.aload_n 0, 1) := by decide +kernel
theorem dX7_seen_39 : decode cX7_seen 39 = .ok (.getfield 12, 3) := by decide +kernel
theorem dX7_seen_42 : decode cX7_seen 42 = .ok (.getfield 66, 3) := by decide +kernel
theorem dX7_seen_45 : decode cX7_seen 45 = .ok (.if_icmp .ge 42, 3) := by decide +kernel
theorem dX7_seen_48 : decode cX7_seen 48 = .ok (.iload 4, 2) := by decide +kernel
theorem dX7_seen_50 : decode cX7_seen 50 = .ok (.iconst (-1), 1) := by decide +kernel
theorem dX7_seen_51 : decode cX7_seen 51 = .ok (.if_icmp .eq 36, 3) := by decide +kernel
theorem dX7_seen_54 : decode cX7_seen 54 = .ok (.iload 4, 2) := by decide +kernel
theorem dX7_seen_56 : decode cX7_seen 56 = .ok (.iload_n 1, 1) := by decide +kernel
theorem dX7_seen_57 : decode cX7_seen 57 = .ok (.if_icmp .eq 30, 3) := by decide +kernel
theorem dX7_seen_60 : decode cX7_seen 60 = .ok (.iload 5, 2) := by decide +kernel
theorem dX7_seen_62 : decode cX7_seen 62 = .ok (.iload_n 3, 1) := by decide +kernel
theorem dX7_seen_63 : decode cX7_seen 63 = .ok (.if_icmp .ne 6, 3) := by decide +kernel
theorem dX7_seen_66 : decode cX7_seen 66 = .ok (.iload 4, 2) := by decide +kernel
theorem dX7_seen_68 : decode cX7_seen 68 = .ok (.ireturn, 1) := by decide +kernel
theorem dX7_seen_69 : decode cX7_seen 69 = .ok (.aload_n 0, 1) := by decide +kernel
theorem dX7_seen_70 : decode cX7_seen 70 = .ok (.getfield 23, 3) := by decide +kernel
theorem dX7_seen_73 : decode cX7_seen 73 = .ok (.iload 4, 2) := by decide +kernel
theorem dX7_seen_75 : decode cX7_seen 75 = .ok (.iload_n 2, 1) := by decide +kernel
theorem dX7_seen_76 : decode cX7_seen 76 = .ok (.invokevirtual 94, 3) := by decide +kernel
theorem dX7_seen_79 : decode cX7_seen 79 = .ok (.istore 4, 2) := by decide +kernel
theorem dX7_seen_81 : decode cX7_seen 81 = .ok (.iinc 5 1, 3) := by decide +kernel
theorem dX7_seen_84 : decode cX7_seen 84 = .ok (.goto (-48), 3) := by decide +kernel
theorem dX7_seen_87 : decode cX7_seen 87 = .ok (.iconst (-1), 1) := by decide +kernel
theorem dX7_seen_88 : decode cX7_seen 88 = .ok (.ireturn, 1) := by decide +kernel
theorem dX7_far_0 : decode cX7_far 0 = .ok (.aload_n 0, 1) := by decide +kernel
theorem dX7_far_1 : decode cX7_far 1 = .ok (.iload_n 1, 1) := by decide +kernel
theorem dX7_far_2 : decode cX7_far 2 = .ok (.invokevirtual 77, 3) := by decide +kernel
theorem dX7_far_5 : decode cX7_far 5 = .ok (.aload_n 0, 1) := by decide +kernel
theorem dX7_far_6 : decode cX7_far 6 = .ok (.iload_n 2, 1) := by decide +kernel
theorem dX7_far_7 : decode cX7_far 7 = .ok (.invokevirtual 77, 3) := by decide +kernel
theorem dX7_far_10 : decode cX7_far 10 = .ok (.aload_n 0, 1) := by decide +kernel
theorem dX7_far_11 : decode cX7_far 11 = .ok (.getfield 39, 3) := by decide +kernel
theorem dX7_far_14 : decode cX7_far 14 = .ok (.invokevirtual 115, 3) := by decide +kernel
theorem dX7_far_17 : decode cX7_far 17 = .ok (.aload_n 0, 1) := by decide +kernel
theorem dX7_far_18 : decode cX7_far 18 = .ok (.getfield 39, 3) := by decide +kernel
theorem dX7_far_21 : decode cX7_far 21 = .ok (.iload_n 1, 1) := by decide +kernel
theorem dX7_far_22 : decode cX7_far 22 = .ok (.invokevirtual 118, 3) := by decide +kernel
theorem dX7_far_25 : decode cX7_far 25 = .ok (.aload_n 0, 1) := by decide +kernel
theorem dX7_far_26 : decode cX7_far 26 = .ok (.getfield 39, 3) := by decide +kernel
theorem dX7_far_29 : decode cX7_far 29 = .ok (.iload_n 2, 1) := by decide +kernel
theorem dX7_far_30 : decode cX7_far 30 = .ok (.invokevirtual 121, 3) := by decide +kernel
theorem dX7_far_33 : decode cX7_far 33 = .ok (.ireturn, 1) := by decide +kernel
theorem dX7_parts_0 : decode cX7_parts 0 = .ok (.iload_n 1, 1) := by decide +kernel
theorem dX7_parts_1 : decode cX7_parts 1 = .ok (.ifCond .ge 13, 3) := by decide +kernel
theorem dX7_parts_4 : decode cX7_parts 4 = .ok (.aload_n 0, 1) := by decide +kernel
theorem dX7_parts_5 : decode cX7_parts 5 = .ok (.getfield 39, 3) := by decide +kernel
theorem dX7_parts_8 : decode cX7_parts 8 = .ok (.invokevirtual 115, 3) := by decide +kernel
theorem dX7_parts_11 : decode cX7_parts 11 = .ok (.goto 15, 3) := by decide +kernel
theorem dX7_parts_14 : decode cX7_parts 14 = .ok (.aload_n 0, 1) := by decide +kernel
theorem dX7_parts_15 : decode cX7_parts 15 = .ok (.getfield 39, 3) := by decide +kernel
theorem dX7_parts_18 : decode cX7_parts 18 = .ok (.aload_n 0, 1) := by decide +kernel
theorem dX7_parts_19 : decode cX7_parts 19 = .ok (.getfield 74, 3) := by decide +kernel
theorem dX7_parts_22 : decode cX7_parts 22 = .ok (.iload_n 1, 1) := by decide +kernel
theorem dX7_parts_23 : decode cX7_parts 23 = .ok (.invokevirtual 125, 3) := by decide +kernel
theorem dX7_parts_26 : decode cX7_parts 26 = .ok (.aload_n 0, 1) := by decide +kernel
theorem dX7_parts_27 : decode cX7_parts 27 = .ok (.getfield 39, 3) := by decide +kernel
theorem dX7_parts_30 : decode cX7_parts 30 = .ok (.invokevirtual 129, 3) := by decide +kernel
theorem dX7_parts_33 : decode cX7_parts 33 = .ok (.ireturn, 1) := by decide +kernel
theorem dX7_without_0 : decode cX7_without 0 = .ok (.aload_n 0, 1) := by decide +kernel
theorem dX7_without_1 : decode cX7_without 1 = .ok (.iload_n 1, 1) := by decide +kernel
theorem dX7_without_2 : decode cX7_without 2 = .ok (.invokevirtual 77, 3) := by decide +kernel
theorem dX7_without_5 : decode cX7_without 5 = .ok (.aload_n 0, 1) := by decide +kernel
theorem dX7_without_6 : decode cX7_without 6 = .ok (.getfield 39, 3) := by decide +kernel
theorem dX7_without_9 : decode cX7_without 9 = .ok (.invokevirtual 115, 3) := by decide +kernel
theorem dX7_without_12 : decode cX7_without 12 = .ok (.aload_n 0, 1) := by decide +kernel
theorem dX7_without_13 : decode cX7_without 13 = .ok (.getfield 39, 3) := by decide +kernel
theorem dX7_without_16 : decode cX7_without 16 = .ok (.iload_n 1, 1) := by decide +kernel
theorem dX7_without_17 : decode cX7_without 17 = .ok (.invokevirtual 132, 3) := by decide +kernel
theorem dX7_without_20 : decode cX7_without 20 = .ok (.aload_n 0, 1) := by decide +kernel
theorem dX7_without_21 : decode cX7_without 21 = .ok (.getfield 39, 3) := by decide +kernel
theorem dX7_without_24 : decode cX7_without 24 = .ok (.invokevirtual 129, 3) := by decide +kernel
theorem dX7_without_27 : decode cX7_without 27 = .ok (.ireturn, 1) := by decide +kernel
theorem dX7_area_0 : decode cX7_area 0 = .ok (.aload_n 0, 1) := by decide +kernel
theorem dX7_area_1 : decode cX7_area 1 = .ok (.iload_n 1, 1) := by decide +kernel
theorem dX7_area_2 : decode cX7_area 2 = .ok (.invokevirtual 77, 3) := by decide +kernel
theorem dX7_area_5 : decode cX7_area 5 = .ok (.iload_n 2, 1) := by decide +kernel
theorem dX7_area_6 : decode cX7_area 6 = .ok (.ifCond .lt 14, 3) := by decide +kernel
theorem dX7_area_9 : decode cX7_area 9 = .ok (.iload_n 2, 1) := by decide +kernel
theorem dX7_area_10 : decode cX7_area 10 = .ok (.aload_n 0, 1) := by decide +kernel
theorem dX7_area_11 : decode cX7_area 11 = .ok (.getfield 12, 3) := by decide +kernel
theorem dX7_area_14 : decode cX7_area 14 = .ok (.getfield 66, 3) := by decide +kernel
theorem dX7_area_17 : decode cX7_area 17 = .ok (.if_icmp .lt 5, 3) := by decide +kernel
theorem dX7_area_20 : decode cX7_area 20 = .ok (.iconst 0, 1) := by decide +kernel
theorem dX7_area_21 : decode cX7_area 21 = .ok (.ireturn, 1) := by decide +kernel
theorem dX7_area_22 : decode cX7_area 22 = .ok (.aload_n 0, 1) := by decide +kernel
theorem dX7_area_23 : decode cX7_area 23 = .ok (.getfield 74, 3) := by decide +kernel
theorem dX7_area_26 : decode cX7_area 26 = .ok (.iload_n 1, 1) := by decide +kernel
theorem dX7_area_27 : decode cX7_area 27 = .ok (.iload_n 2, 1) := by decide +kernel
theorem dX7_area_28 : decode cX7_area 28 = .ok (.iastore, 1) := by decide +kernel
theorem dX7_area_29 : decode cX7_area 29 = .ok (.iconst 1, 1) := by decide +kernel
theorem dX7_area_30 : decode cX7_area 30 = .ok (.ireturn, 1) := by decide +kernel
theorem dX7_size_0 : decode cX7_size 0 = .ok (.iconst 0, 1) := by decide +kernel
theorem dX7_size_1 : decode cX7_size 1 = .ok (.istore_n 2, 1) := by decide +kernel
theorem dX7_size_2 : decode cX7_size 2 = .ok (.iconst 0, 1) := by decide +kernel
theorem dX7_size_3 : decode cX7_size 3 = .ok (.istore_n 3, 1) := by decide +kernel
theorem dX7_size_4 : decode cX7_size 4 = .ok (.iload_n 3, 1) := by decide +kernel
theorem dX7_size_5 : decode cX7_size 5 = .ok (.aload_n 0, 1) := by decide +kernel
theorem dX7_size_6 : decode cX7_size 6 = .ok (.getfield 74, 3) := by decide +kernel
theorem dX7_size_9 : decode cX7_size 9 = .ok (.arraylength, 1) := by decide +kernel
theorem dX7_size_10 : decode cX7_size 10 = .ok (.if_icmp .ge 22, 3) := by decide +kernel
theorem dX7_size_13 : decode cX7_size 13 = .ok (.aload_n 0, 1) := by decide +kernel
theorem dX7_size_14 : decode cX7_size 14 = .ok (.getfield 74, 3) := by decide +kernel
theorem dX7_size_17 : decode cX7_size 17 = .ok (.iload_n 3, 1) := by decide +kernel
theorem dX7_size_18 : decode cX7_size 18 = .ok (.iaload, 1) := by decide +kernel
theorem dX7_size_19 : decode cX7_size 19 = .ok (.iload_n 1, 1) := by decide +kernel
theorem dX7_size_20 : decode cX7_size 20 = .ok (.if_icmp .ne 6, 3) := by decide +kernel
theorem dX7_size_23 : decode cX7_size 23 = .ok (.iinc 2 1, 3) := by decide +kernel
theorem dX7_size_26 : decode cX7_size 26 = .ok (.iinc 3 1, 3) := by decide +kernel
theorem dX7_size_29 : decode cX7_size 29 = .ok (.goto (-25), 3) := by decide +kernel
theorem dX7_size_32 : decode cX7_size 32 = .ok (.iload_n 2, 1) := by decide +kernel
theorem dX7_size_33 : decode cX7_size 33 = .ok (.ireturn, 1) := by decide +kernel
theorem dX7_mark_0 : decode cX7_mark 0 = .ok (.aload_n 0, 1) := by decide +kernel
theorem dX7_mark_1 : decode cX7_mark 1 = .ok (.iload_n 1, 1) := by decide +kernel
theorem dX7_mark_2 : decode cX7_mark 2 = .ok (.invokevirtual 77, 3) := by decide +kernel
theorem dX7_mark_5 : decode cX7_mark 5 = .ok (.iload_n 2, 1) := by decide +kernel
theorem dX7_mark_6 : decode cX7_mark 6 = .ok (.ifCond .lt 9, 3) := by decide +kernel
theorem dX7_mark_9 : decode cX7_mark 9 = .ok (.iload_n 2, 1) := by decide +kernel
theorem dX7_mark_10 : decode cX7_mark 10 = .ok (.bipush 99, 2) := by decide +kernel
theorem dX7_mark_12 : decode cX7_mark 12 = .ok (.if_icmp .le 5, 3) := by decide +kernel
theorem dX7_mark_15 : decode cX7_mark 15 = .ok (.iconst 0, 1) := by decide +kernel
theorem dX7_mark_16 : decode cX7_mark 16 = .ok (.ireturn, 1) := by decide +kernel
theorem dX7_mark_17 : decode cX7_mark 17 = .ok (.aload_n 0, 1) := by decide +kernel
theorem dX7_mark_18 : decode cX7_mark 18 = .ok (.getfield 70, 3) := by decide +kernel
theorem dX7_mark_21 : decode cX7_mark 21 = .ok (.iload_n 1, 1) := by decide +kernel
theorem dX7_mark_22 : decode cX7_mark 22 = .ok (.iload_n 2, 1) := by decide +kernel
theorem dX7_mark_23 : decode cX7_mark 23 = .ok (.iastore, 1) := by decide +kernel
theorem dX7_mark_24 : decode cX7_mark 24 = .ok (.iconst 1, 1) := by decide +kernel
theorem dX7_mark_25 : decode cX7_mark 25 = .ok (.ireturn, 1) := by decide +kernel
theorem dX7_image_0 : decode cX7_image 0 = .ok (.aload_n 0, 1) := by decide +kernel
theorem dX7_image_1 : decode cX7_image 1 = .ok (.iload_n 2, 1) := by decide +kernel
theorem dX7_image_2 : decode cX7_image 2 = .ok (.invokevirtual 77, 3) := by decide +kernel
theorem dX7_image_5 : decode cX7_image 5 = .ok (.aload_n 0, 1) := by decide +kernel
theorem dX7_image_6 : decode cX7_image 6 = .ok (.getfield 30, 3) := by decide +kernel
theorem dX7_image_9 : decode cX7_image 9 = .ok (.iload_n 1, 1) := by decide +kernel
theorem dX7_image_10 : decode cX7_image 10 = .ok (.invokevirtual 135, 3) := by decide +kernel
theorem dX7_image_13 : decode cX7_image 13 = .ok (.ifCond .eq 15, 3) := by decide +kernel
theorem dX7_image_16 : decode cX7_image 16 = .ok (.aload_n 0, 1) := by decide +kernel
theorem dX7_image_17 : decode cX7_image 17 = .ok (.getfield 30, 3) := by decide +kernel
theorem dX7_image_20 : decode cX7_image 20 = .ok (.iload_n 1, 1) := by decide +kernel
theorem dX7_image_21 : decode cX7_image 21 = .ok (.iload_n 2, 1) := by decide +kernel
theorem dX7_image_22 : decode cX7_image 22 = .ok (.invokevirtual 139, 3) := by decide +kernel
theorem dX7_image_25 : decode cX7_image 25 = .ok (.goto 4, 3) := by decide +kernel
theorem dX7_image_28 : decode cX7_image 28 = .ok (.iconst (-1), 1) := by decide +kernel
theorem dX7_image_29 : decode cX7_image 29 = .ok (.ireturn, 1) := by decide +kernel
theorem dX7_keeps_0 : decode cX7_keeps 0 = .ok (.aload_n 0, 1) := by decide +kernel
theorem dX7_keeps_1 : decode cX7_keeps 1 = .ok (.getfield 30, 3) := by decide +kernel
theorem dX7_keeps_4 : decode cX7_keeps 4 = .ok (.iload_n 1, 1) := by decide +kernel
theorem dX7_keeps_5 : decode cX7_keeps 5 = .ok (.invokevirtual 135, 3) := by decide +kernel
theorem dX7_keeps_8 : decode cX7_keeps 8 = .ok (.ifCond .eq 15, 3) := by decide +kernel
theorem dX7_keeps_11 : decode cX7_keeps 11 = .ok (.aload_n 0, 1) := by decide +kernel
theorem dX7_keeps_12 : decode cX7_keeps 12 = .ok (.iload_n 1, 1) := by decide +kernel
theorem dX7_keeps_13 : decode cX7_keeps 13 = .ok (.invokevirtual 142, 3) := by decide +kernel
theorem dX7_keeps_16 : decode cX7_keeps 16 = .ok (.ifCond .eq 7, 3) := by decide +kernel
theorem dX7_keeps_19 : decode cX7_keeps 19 = .ok (.iconst 1, 1) := by decide +kernel
theorem dX7_keeps_20 : decode cX7_keeps 20 = .ok (.goto 4, 3) := by decide +kernel
theorem dX7_keeps_23 : decode cX7_keeps 23 = .ok (.iconst 0, 1) := by decide +kernel
theorem dX7_keeps_24 : decode cX7_keeps 24 = .ok (.ireturn, 1) := by decide +kernel
theorem dX7_keeping_0 : decode cX7_keeping 0 = .ok (.iconst 0, 1) := by decide +kernel
theorem dX7_keeping_1 : decode cX7_keeping 1 = .ok (.istore_n 1, 1) := by decide +kernel
theorem dX7_keeping_2 : decode cX7_keeping 2 = .ok (.iconst 0, 1) := by decide +kernel
theorem dX7_keeping_3 : decode cX7_keeping 3 = .ok (.istore_n 2, 1) := by decide +kernel
theorem dX7_keeping_4 : decode cX7_keeping 4 = .ok (.iload_n 2, 1) := by decide +kernel
theorem dX7_keeping_5 : decode cX7_keeping 5 = .ok (.aload_n 0, 1) := by decide +kernel
theorem dX7_keeping_6 : decode cX7_keeping 6 = .ok (.getfield 30, 3) := by decide +kernel
theorem dX7_keeping_9 : decode cX7_keeping 9 = .ok (.getfield 145, 3) := by decide +kernel
theorem dX7_keeping_12 : decode cX7_keeping 12 = .ok (.if_icmp .ge 20, 3) := by decide +kernel
theorem dX7_keeping_15 : decode cX7_keeping 15 = .ok (.aload_n 0, 1) := by decide +kernel
theorem dX7_keeping_16 : decode cX7_keeping 16 = .ok (.iload_n 2, 1) := by decide +kernel
theorem dX7_keeping_17 : decode cX7_keeping 17 = .ok (.invokevirtual 142, 3) := by decide +kernel
theorem dX7_keeping_20 : decode cX7_keeping 20 = .ok (.ifCond .eq 6, 3) := by decide +kernel
theorem dX7_keeping_23 : decode cX7_keeping 23 = .ok (.iinc 1 1, 3) := by decide +kernel
theorem dX7_keeping_26 : decode cX7_keeping 26 = .ok (.iinc 2 1, 3) := by decide +kernel
theorem dX7_keeping_29 : decode cX7_keeping 29 = .ok (.goto (-25), 3) := by decide +kernel
theorem dX7_keeping_32 : decode cX7_keeping 32 = .ok (.iload_n 1, 1) := by decide +kernel
theorem dX7_keeping_33 : decode cX7_keeping 33 = .ok (.ireturn, 1) := by decide +kernel
theorem dX7_text_0 : decode cX7_text 0 = .ok (.aload_n 0, 1) := by decide +kernel
theorem dX7_text_1 : decode cX7_text 1 = .ok (.getfield 46, 3) := by decide +kernel
theorem dX7_text_4 : decode cX7_text 4 = .ok (.aload_n 0, 1) := by decide +kernel
theorem dX7_text_5 : decode cX7_text 5 = .ok (.getfield 70, 3) := by decide +kernel
theorem dX7_text_8 : decode cX7_text 8 = .ok (.invokevirtual 146, 3) := by decide +kernel
theorem dX7_text_11 : decode cX7_text 11 = .ok (.aload_n 0, 1) := by decide +kernel
theorem dX7_text_12 : decode cX7_text 12 = .ok (.getfield 46, 3) := by decide +kernel
theorem dX7_text_15 : decode cX7_text 15 = .ok (.getfield 150, 3) := by decide +kernel
theorem dX7_text_18 : decode cX7_text 18 = .ok (.iload_n 1, 1) := by decide +kernel
theorem dX7_text_19 : decode cX7_text 19 = .ok (.invokevirtual 153, 3) := by decide +kernel
theorem dX7_text_22 : decode cX7_text 22 = .ok (.ireturn, 1) := by decide +kernel
theorem dX7_unit_0 : decode cX7_unit 0 = .ok (.iload_n 1, 1) := by decide +kernel
theorem dX7_unit_1 : decode cX7_unit 1 = .ok (.ifCond .lt 25, 3) := by decide +kernel
theorem dX7_unit_4 : decode cX7_unit 4 = .ok (.iload_n 1, 1) := by decide +kernel
theorem dX7_unit_5 : decode cX7_unit 5 = .ok (.sipush 255, 3) := by decide +kernel
theorem dX7_unit_8 : decode cX7_unit 8 = .ok (.if_icmp .gt 18, 3) := by decide +kernel
theorem dX7_unit_11 : decode cX7_unit 11 = .ok (.aload_n 0, 1) := by decide +kernel
theorem dX7_unit_12 : decode cX7_unit 12 = .ok (.getfield 62, 3) := by decide +kernel
theorem dX7_unit_15 : decode cX7_unit 15 = .ok (.iload_n 1, 1) := by decide +kernel
theorem dX7_unit_16 : decode cX7_unit 16 = .ok (.invokevirtual 156, 3) := by decide +kernel
theorem dX7_unit_19 : decode cX7_unit 19 = .ok (.ifCond .eq 7, 3) := by decide +kernel
theorem dX7_unit_22 : decode cX7_unit 22 = .ok (.iconst 1, 1) := by decide +kernel
theorem dX7_unit_23 : decode cX7_unit 23 = .ok (.goto 4, 3) := by decide +kernel
theorem dX7_unit_26 : decode cX7_unit 26 = .ok (.iconst 0, 1) := by decide +kernel
theorem dX7_unit_27 : decode cX7_unit 27 = .ok (.ireturn, 1) := by decide +kernel
theorem dX7_read_0 : decode cX7_read 0 = .ok (.aload_n 0, 1) := by decide +kernel
theorem dX7_read_1 : decode cX7_read 1 = .ok (.getfield 53, 3) := by decide +kernel
theorem dX7_read_4 : decode cX7_read 4 = .ok (.aload_n 0, 1) := by decide +kernel
theorem dX7_read_5 : decode cX7_read 5 = .ok (.getfield 62, 3) := by decide +kernel
theorem dX7_read_8 : decode cX7_read 8 = .ok (.invokevirtual 159, 3) := by decide +kernel
theorem dX7_read_11 : decode cX7_read 11 = .ok (.istore_n 1, 1) := by decide +kernel
theorem dX7_read_12 : decode cX7_read 12 = .ok (.aload_n 0, 1) := by decide +kernel
theorem dX7_read_13 : decode cX7_read 13 = .ok (.getfield 62, 3) := by decide +kernel
theorem dX7_read_16 : decode cX7_read 16 = .ok (.invokevirtual 163, 3) := by decide +kernel
theorem dX7_read_19 : decode cX7_read 19 = .ok (.iload_n 1, 1) := by decide +kernel
theorem dX7_read_20 : decode cX7_read 20 = .ok (.iconst (-1), 1) := by decide +kernel
theorem dX7_read_21 : decode cX7_read 21 = .ok (.if_icmp .eq 7, 3) := by decide +kernel
theorem dX7_read_24 : decode cX7_read 24 = .ok (.iconst (-1), 1) := by decide +kernel
theorem dX7_read_25 : decode cX7_read 25 = .ok (.iload_n 1, 1) := by decide +kernel
theorem dX7_read_26 : decode cX7_read 26 = .ok (.isub, 1) := by decide +kernel
theorem dX7_read_27 : decode cX7_read 27 = .ok (.ireturn, 1) := by decide +kernel
theorem dX7_read_28 : decode cX7_read 28 = .ok (.aload_n 0, 1) := by decide +kernel
theorem dX7_read_29 : decode cX7_read 29 = .ok (.getfield 53, 3) := by decide +kernel
theorem dX7_read_32 : decode cX7_read 32 = .ok (.aload_n 0, 1) := by decide +kernel
theorem dX7_read_33 : decode cX7_read 33 = .ok (.getfield 70, 3) := by decide +kernel
theorem dX7_read_36 : decode cX7_read 36 = .ok (.invokevirtual 166, 3) := by decide +kernel
theorem dX7_read_39 : decode cX7_read 39 = .ok (.aload_n 0, 1) := by decide +kernel
theorem dX7_read_40 : decode cX7_read 40 = .ok (.getfield 12, 3) := by decide +kernel
theorem dX7_read_43 : decode cX7_read 43 = .ok (.getfield 66, 3) := by decide +kernel
theorem dX7_read_46 : decode cX7_read 46 = .ok (.ireturn, 1) := by decide +kernel
theorem dX7_demandPlace_0 : decode cX7_demandPlace 0 = .ok (.aload_n 0, 1) := by decide +kernel
theorem dX7_demandPlace_1 : decode cX7_demandPlace 1 = .ok (.getfield 12, 3) := by decide +kernel
theorem dX7_demandPlace_4 : decode cX7_demandPlace 4 = .ok (.iload_n 1, 1) := by decide +kernel
theorem dX7_demandPlace_5 : decode cX7_demandPlace 5 = .ok (.invokevirtual 169, 3) := by decide +kernel
theorem dX7_demandPlace_8 : decode cX7_demandPlace 8 = .ok (.ifCond .ne 13, 3) := by decide +kernel
theorem dX7_demandPlace_11 : decode cX7_demandPlace 11 = .ok (.new 170, 3) := by decide +kernel
theorem dX7_demandPlace_14 : decode cX7_demandPlace 14 = .ok (.dup, 1) := by decide +kernel
theorem dX7_demandPlace_15 : decode cX7_demandPlace 15 = .ok (.ldc 172, 2) := by decide +kernel
theorem dX7_demandPlace_17 : decode cX7_demandPlace 17 = .ok (.invokespecial 174, 3) := by decide +kernel
theorem dX7_demandPlace_20 : decode cX7_demandPlace 20 = .ok (.athrow, 1) := by decide +kernel
theorem dX7_demandPlace_21 : decode cX7_demandPlace 21 = .ok (.return_, 1) := by decide +kernel
theorem dX7_keepsAllPlaces_0 : decode cX7_keepsAllPlaces 0 = .ok (.iconst 0, 1) := by decide +kernel
theorem dX7_keepsAllPlaces_1 : decode cX7_keepsAllPlaces 1 = .ok (.istore_n 2, 1) := by decide +kernel
theorem dX7_keepsAllPlaces_2 : decode cX7_keepsAllPlaces 2 = .ok (.iload_n 2, 1) := by decide +kernel
theorem dX7_keepsAllPlaces_3 : decode cX7_keepsAllPlaces 3 = .ok (.aload_n 0, 1) := by decide +kernel
theorem dX7_keepsAllPlaces_4 : decode cX7_keepsAllPlaces 4 = .ok (.getfield 70, 3) := by decide +kernel
theorem dX7_keepsAllPlaces_7 : decode cX7_keepsAllPlaces 7 = .ok (.arraylength, 1) := by decide +kernel
theorem dX7_keepsAllPlaces_8 : decode cX7_keepsAllPlaces 8 = .ok (.if_icmp .ge 57, 3) := by decide +kernel
theorem dX7_keepsAllPlaces_11 : decode cX7_keepsAllPlaces 11 = .ok (.aload_n 0, 1) := by decide +kernel
theorem dX7_keepsAllPlaces_12 : decode cX7_keepsAllPlaces 12 = .ok (.getfield 30, 3) := by decide +kernel
theorem dX7_keepsAllPlaces_15 : decode cX7_keepsAllPlaces 15 = .ok (.iload_n 1, 1) := by decide +kernel
theorem dX7_keepsAllPlaces_16 : decode cX7_keepsAllPlaces 16 = .ok (.iload_n 2, 1) := by decide +kernel
theorem dX7_keepsAllPlaces_17 : decode cX7_keepsAllPlaces 17 = .ok (.invokevirtual 139, 3) := by decide +kernel
theorem dX7_keepsAllPlaces_20 : decode cX7_keepsAllPlaces 20 = .ok (.istore_n 3, 1) := by decide +kernel
theorem dX7_keepsAllPlaces_21 : decode cX7_keepsAllPlaces 21 = .ok (.aload_n 0, 1) := by decide +kernel
theorem dX7_keepsAllPlaces_22 : decode cX7_keepsAllPlaces 22 = .ok (.getfield 12, 3) := by decide +kernel
theorem dX7_keepsAllPlaces_25 : decode cX7_keepsAllPlaces 25 = .ok (.iload_n 3, 1) := by decide +kernel
theorem dX7_keepsAllPlaces_26 : decode cX7_keepsAllPlaces 26 = .ok (.invokevirtual 169, 3) := by decide +kernel
theorem dX7_keepsAllPlaces_29 : decode cX7_keepsAllPlaces 29 = .ok (.ifCond .eq 28, 3) := by decide +kernel
theorem dX7_keepsAllPlaces_32 : decode cX7_keepsAllPlaces 32 = .ok (.aload_n 0, 1) := by decide +kernel
theorem dX7_keepsAllPlaces_33 : decode cX7_keepsAllPlaces 33 = .ok (.getfield 70, 3) := by decide +kernel
theorem dX7_keepsAllPlaces_36 : decode cX7_keepsAllPlaces 36 = .ok (.iload_n 2, 1) := by decide +kernel
theorem dX7_keepsAllPlaces_37 : decode cX7_keepsAllPlaces 37 = .ok (.iaload, 1) := by decide +kernel
theorem dX7_keepsAllPlaces_38 : decode cX7_keepsAllPlaces 38 = .ok (.aload_n 0, 1) := by decide +kernel
theorem dX7_keepsAllPlaces_39 : decode cX7_keepsAllPlaces 39 = .ok (.getfield 70, 3) := by decide +kernel
theorem dX7_keepsAllPlaces_42 : decode cX7_keepsAllPlaces 42 = .ok (.iload_n 3, 1) := by decide +kernel
theorem dX7_keepsAllPlaces_43 : decode cX7_keepsAllPlaces 43 = .ok (.iaload, 1) := by decide +kernel
theorem dX7_keepsAllPlaces_44 : decode cX7_keepsAllPlaces 44 = .ok (.if_icmp .ne 13, 3) := by decide +kernel
theorem dX7_keepsAllPlaces_47 : decode cX7_keepsAllPlaces 47 = .ok (.aload_n 0, 1) := by decide +kernel
theorem dX7_keepsAllPlaces_48 : decode cX7_keepsAllPlaces 48 = .ok (.iload_n 1, 1) := by decide +kernel
theorem dX7_keepsAllPlaces_49 : decode cX7_keepsAllPlaces 49 = .ok (.iload_n 2, 1) := by decide +kernel
theorem dX7_keepsAllPlaces_50 : decode cX7_keepsAllPlaces 50 = .ok (.iload_n 3, 1) := by decide +kernel
theorem dX7_keepsAllPlaces_51 : decode cX7_keepsAllPlaces 51 = .ok (.invokevirtual 177, 3) := by decide +kernel
theorem dX7_keepsAllPlaces_54 : decode cX7_keepsAllPlaces 54 = .ok (.ifCond .ne 5, 3) := by decide +kernel
theorem dX7_keepsAllPlaces_57 : decode cX7_keepsAllPlaces 57 = .ok (.iconst 0, 1) := by decide +kernel
theorem dX7_keepsAllPlaces_58 : decode cX7_keepsAllPlaces 58 = .ok (.ireturn, 1) := by decide +kernel
theorem dX7_keepsAllPlaces_59 : decode cX7_keepsAllPlaces 59 = .ok (.iinc 2 1, 3) := by decide +kernel
theorem dX7_keepsAllPlaces_62 : decode cX7_keepsAllPlaces 62 = .ok (.goto (-60), 3) := by decide +kernel
theorem dX7_keepsAllPlaces_65 : decode cX7_keepsAllPlaces 65 = .ok (.iconst 1, 1) := by decide +kernel
theorem dX7_keepsAllPlaces_66 : decode cX7_keepsAllPlaces 66 = .ok (.ireturn, 1) := by decide +kernel
theorem dX7_keepsBeside_0 : decode cX7_keepsBeside 0 = .ok (.iconst 0, 1) := by decide +kernel
theorem dX7_keepsBeside_1 : decode cX7_keepsBeside 1 = .ok (.istore 4, 2) := by decide +kernel
theorem dX7_keepsBeside_3 : decode cX7_keepsBeside 3 = .ok (.iload 4, 2) := by decide +kernel
theorem dX7_keepsBeside_5 : decode cX7_keepsBeside 5 = .ok (.aload_n 0, 1) := by decide +kernel
theorem dX7_keepsBeside_6 : decode cX7_keepsBeside 6 = .ok (.getfield 23, 3) := by decide +kernel
theorem dX7_keepsBeside_9 : decode cX7_keepsBeside 9 = .ok (.getfield 91, 3) := by decide +kernel
theorem dX7_keepsBeside_12 : decode cX7_keepsBeside 12 = .ok (.if_icmp .ge 78, 3) := by decide +kernel
theorem dX7_keepsBeside_15 : decode cX7_keepsBeside 15 = .ok (.aload_n 0, 1) := by decide +kernel
theorem dX7_keepsBeside_16 : decode cX7_keepsBeside 16 = .ok (.getfield 23, 3) := by decide +kernel
theorem dX7_keepsBeside_19 : decode cX7_keepsBeside 19 = .ok (.iload_n 2, 1) := by decide +kernel
theorem dX7_keepsBeside_20 : decode cX7_keepsBeside 20 = .ok (.iload 4, 2) := by decide +kernel
theorem dX7_keepsBeside_22 : decode cX7_keepsBeside 22 = .ok (.invokevirtual 97, 3) := by decide +kernel
theorem dX7_keepsBeside_25 : decode cX7_keepsBeside 25 = .ok (.istore 5, 2) := by decide +kernel
theorem dX7_keepsBeside_27 : decode cX7_keepsBeside 27 = .ok (.iload 5, 2) := by decide +kernel
theorem dX7_keepsBeside_29 : decode cX7_keepsBeside 29 = .ok (.iconst (-1), 1) := by decide +kernel
theorem dX7_keepsBeside_30 : decode cX7_keepsBeside 30 = .ok (.if_icmp .eq 54, 3) := by decide +kernel
theorem dX7_keepsBeside_33 : decode cX7_keepsBeside 33 = .ok (.aload_n 0, 1) := by decide +kernel
theorem dX7_keepsBeside_34 : decode cX7_keepsBeside 34 = .ok (.getfield 23, 3) := by decide +kernel
theorem dX7_keepsBeside_37 : decode cX7_keepsBeside 37 = .ok (.iload_n 3, 1) := by decide +kernel
theorem dX7_keepsBeside_38 : decode cX7_keepsBeside 38 = .ok (.aload_n 0, 1) := by decide +kernel
theorem dX7_keepsBeside_39 : decode cX7_keepsBeside 39 = .ok (.getfield 30, 3) := by decide +kernel
theorem dX7_keepsBeside_42 : decode cX7_keepsBeside 42 = .ok (.iload_n 1, 1) := by decide +kernel
theorem dX7_keepsBeside_43 : decode cX7_keepsBeside 43 = .ok (.iload 5, 2) := by decide +kernel
theorem dX7_keepsBeside_45 : decode cX7_keepsBeside 45 = .ok (.invokevirtual 139, 3) := by decide +kernel
theorem dX7_keepsBeside_48 : decode cX7_keepsBeside 48 = .ok (.invokevirtual 83, 3) := by decide +kernel
theorem dX7_keepsBeside_51 : decode cX7_keepsBeside 51 = .ok (.istore 6, 2) := by decide +kernel
theorem dX7_keepsBeside_53 : decode cX7_keepsBeside 53 = .ok (.iload 6, 2) := by decide +kernel
theorem dX7_keepsBeside_55 : decode cX7_keepsBeside 55 = .ok (.iconst (-1), 1) := by decide +kernel
theorem dX7_keepsBeside_56 : decode cX7_keepsBeside 56 = .ok (.if_icmp .eq 26, 3) := by decide +kernel
theorem dX7_keepsBeside_59 : decode cX7_keepsBeside 59 = .ok (.aload_n 0, 1) := by decide +kernel
theorem dX7_keepsBeside_60 : decode cX7_keepsBeside 60 = .ok (.getfield 23, 3) := by decide +kernel
theorem dX7_keepsBeside_63 : decode cX7_keepsBeside 63 = .ok (.iload_n 2, 1) := by decide +kernel
theorem dX7_keepsBeside_64 : decode cX7_keepsBeside 64 = .ok (.iload 4, 2) := by decide +kernel
theorem dX7_keepsBeside_66 : decode cX7_keepsBeside 66 = .ok (.invokevirtual 100, 3) := by decide +kernel
theorem dX7_keepsBeside_69 : decode cX7_keepsBeside 69 = .ok (.aload_n 0, 1) := by decide +kernel
theorem dX7_keepsBeside_70 : decode cX7_keepsBeside 70 = .ok (.getfield 23, 3) := by decide +kernel
theorem dX7_keepsBeside_73 : decode cX7_keepsBeside 73 = .ok (.iload_n 3, 1) := by decide +kernel
theorem dX7_keepsBeside_74 : decode cX7_keepsBeside 74 = .ok (.iload 6, 2) := by decide +kernel
theorem dX7_keepsBeside_76 : decode cX7_keepsBeside 76 = .ok (.invokevirtual 100, 3) := by decide +kernel
theorem dX7_keepsBeside_79 : decode cX7_keepsBeside 79 = .ok (.if_icmp .eq 5, 3) := by decide +kernel
theorem dX7_keepsBeside_82 : decode cX7_keepsBeside 82 = .ok (.iconst 0, 1) := by decide +kernel
theorem dX7_keepsBeside_83 : decode cX7_keepsBeside 83 = .ok (.ireturn, 1) := by decide +kernel
theorem dX7_keepsBeside_84 : decode cX7_keepsBeside 84 = .ok (.iinc 4 1, 3) := by decide +kernel
theorem dX7_keepsBeside_87 : decode cX7_keepsBeside 87 = .ok (.goto (-84), 3) := by decide +kernel
theorem dX7_keepsBeside_90 : decode cX7_keepsBeside 90 = .ok (.iconst 1, 1) := by decide +kernel
theorem dX7_keepsBeside_91 : decode cX7_keepsBeside 91 = .ok (.ireturn, 1) := by decide +kernel
theorem dX7_within_0 : decode cX7_within 0 = .ok (.iload_n 0, 1) := by decide +kernel
theorem dX7_within_1 : decode cX7_within 1 = .ok (.iload_n 1, 1) := by decide +kernel
theorem dX7_within_2 : decode cX7_within 2 = .ok (.if_icmp .ge 7, 3) := by decide +kernel
theorem dX7_within_5 : decode cX7_within 5 = .ok (.iload_n 1, 1) := by decide +kernel
theorem dX7_within_6 : decode cX7_within 6 = .ok (.goto 13, 3) := by decide +kernel
theorem dX7_within_9 : decode cX7_within 9 = .ok (.iload_n 0, 1) := by decide +kernel
theorem dX7_within_10 : decode cX7_within 10 = .ok (.iload_n 2, 1) := by decide +kernel
theorem dX7_within_11 : decode cX7_within 11 = .ok (.if_icmp .le 7, 3) := by decide +kernel
theorem dX7_within_14 : decode cX7_within 14 = .ok (.iload_n 2, 1) := by decide +kernel
theorem dX7_within_15 : decode cX7_within 15 = .ok (.goto 4, 3) := by decide +kernel
theorem dX7_within_18 : decode cX7_within 18 = .ok (.iload_n 0, 1) := by decide +kernel
theorem dX7_within_19 : decode cX7_within 19 = .ok (.ireturn, 1) := by decide +kernel
theorem dX7_isDigit_0 : decode cX7_isDigit 0 = .ok (.iload_n 0, 1) := by decide +kernel
theorem dX7_isDigit_1 : decode cX7_isDigit 1 = .ok (.bipush 48, 2) := by decide +kernel
theorem dX7_isDigit_3 : decode cX7_isDigit 3 = .ok (.if_icmp .lt 13, 3) := by decide +kernel
theorem dX7_isDigit_6 : decode cX7_isDigit 6 = .ok (.iload_n 0, 1) := by decide +kernel
theorem dX7_isDigit_7 : decode cX7_isDigit 7 = .ok (.bipush 57, 2) := by decide +kernel
theorem dX7_isDigit_9 : decode cX7_isDigit 9 = .ok (.if_icmp .gt 7, 3) := by decide +kernel
theorem dX7_isDigit_12 : decode cX7_isDigit 12 = .ok (.iconst 1, 1) := by decide +kernel
theorem dX7_isDigit_13 : decode cX7_isDigit 13 = .ok (.goto 4, 3) := by decide +kernel
theorem dX7_isDigit_16 : decode cX7_isDigit 16 = .ok (.iconst 0, 1) := by decide +kernel
theorem dX7_isDigit_17 : decode cX7_isDigit 17 = .ok (.ireturn, 1) := by decide +kernel
theorem dX8_init_0 : decode cX8_init 0 = .ok (.aload_n 0, 1) := by decide +kernel
theorem dX8_init_1 : decode cX8_init 1 = .ok (.invokespecial 1, 3) := by decide +kernel
theorem dX8_init_4 : decode cX8_init 4 = .ok (.aload_n 0, 1) := by decide +kernel
theorem dX8_init_5 : decode cX8_init 5 = .ok (.ldc 7, 2) := by decide +kernel
theorem dX8_init_7 : decode cX8_init 7 = .ok (.newarray .boolean, 2) := by decide +kernel
theorem dX8_init_9 : decode cX8_init 9 = .ok (.putfield 8, 3) := by decide +kernel
theorem dX8_init_12 : decode cX8_init 12 = .ok (.aload_n 0, 1) := by decide +kernel
theorem dX8_init_13 : decode cX8_init 13 = .ok (.ldc 7, 2) := by decide +kernel
theorem dX8_init_15 : decode cX8_init 15 = .ok (.newarray .boolean, 2) := by decide +kernel
theorem dX8_init_17 : decode cX8_init 17 = .ok (.putfield 14, 3) := by decide +kernel
theorem dX8_init_20 : decode cX8_init 20 = .ok (.aload_n 0, 1) := by decide +kernel
theorem dX8_init_21 : decode cX8_init 21 = .ok (.sipush 256, 3) := by decide +kernel
theorem dX8_init_24 : decode cX8_init 24 = .ok (.newarray .int, 2) := by decide +kernel
theorem dX8_init_26 : decode cX8_init 26 = .ok (.putfield 17, 3) := by decide +kernel
theorem dX8_init_29 : decode cX8_init 29 = .ok (.aload_n 0, 1) := by decide +kernel
theorem dX8_init_30 : decode cX8_init 30 = .ok (.sipush 256, 3) := by decide +kernel
theorem dX8_init_33 : decode cX8_init 33 = .ok (.newarray .int, 2) := by decide +kernel
theorem dX8_init_35 : decode cX8_init 35 = .ok (.putfield 21, 3) := by decide +kernel
theorem dX8_init_38 : decode cX8_init 38 = .ok (.aload_n 0, 1) := by decide +kernel
theorem dX8_init_39 : decode cX8_init 39 = .ok (.sipush 256, 3) := by decide +kernel
theorem dX8_init_42 : decode cX8_init 42 = .ok (.newarray .int, 2) := by decide +kernel
theorem dX8_init_44 : decode cX8_init 44 = .ok (.putfield 24, 3) := by decide +kernel
theorem dX8_init_47 : decode cX8_init 47 = .ok (.aload_n 0, 1) := by decide +kernel
theorem dX8_init_48 : decode cX8_init 48 = .ok (.sipush 256, 3) := by decide +kernel
theorem dX8_init_51 : decode cX8_init 51 = .ok (.newarray .boolean, 2) := by decide +kernel
theorem dX8_init_53 : decode cX8_init 53 = .ok (.putfield 27, 3) := by decide +kernel
theorem dX8_init_56 : decode cX8_init 56 = .ok (.aload_n 0, 1) := by decide +kernel
theorem dX8_init_57 : decode cX8_init 57 = .ok (.sipush 1200, 3) := by decide +kernel
theorem dX8_init_60 : decode cX8_init 60 = .ok (.newarray .int, 2) := by decide +kernel
theorem dX8_init_62 : decode cX8_init 62 = .ok (.putfield 30, 3) := by decide +kernel
theorem dX8_init_65 : decode cX8_init 65 = .ok (.aload_n 0, 1) := by decide +kernel
theorem dX8_init_66 : decode cX8_init 66 = .ok (.sipush 256, 3) := by decide +kernel
theorem dX8_init_69 : decode cX8_init 69 = .ok (.newarray .int, 2) := by decide +kernel
theorem dX8_init_71 : decode cX8_init 71 = .ok (.putfield 33, 3) := by decide +kernel
theorem dX8_init_74 : decode cX8_init 74 = .ok (.aload_n 0, 1) := by decide +kernel
theorem dX8_init_75 : decode cX8_init 75 = .ok (.iload_n 1, 1) := by decide +kernel
theorem dX8_init_76 : decode cX8_init 76 = .ok (.iconst 0, 1) := by decide +kernel
theorem dX8_init_77 : decode cX8_init 77 = .ok (.iconst 4, 1) := by decide +kernel
theorem dX8_init_78 : decode cX8_init 78 = .ok (.invokestatic 36, 3) := by decide +kernel
theorem dX8_init_81 : decode cX8_init 81 = .ok (.putfield 40, 3) := by decide +kernel
theorem dX8_init_84 : decode cX8_init 84 = .ok (.aload_n 0, 1) := by decide +kernel
theorem dX8_init_85 : decode cX8_init 85 = .ok (.iload_n 2, 1) := by decide +kernel
theorem dX8_init_86 : decode cX8_init 86 = .ok (.iconst 1, 1) := by decide +kernel
theorem dX8_init_87 : decode cX8_init 87 = .ok (.bipush 16, 2) := by decide +kernel
theorem dX8_init_89 : decode cX8_init 89 = .ok (.invokestatic 36, 3) := by decide +kernel
theorem dX8_init_92 : decode cX8_init 92 = .ok (.putfield 44, 3) := by decide +kernel
theorem dX8_init_95 : decode cX8_init 95 = .ok (.aload_n 0, 1) := by decide +kernel
theorem dX8_init_96 : decode cX8_init 96 = .ok (.aload_n 0, 1) := by decide +kernel
theorem dX8_init_97 : decode cX8_init 97 = .ok (.getfield 40, 3) := by decide +kernel
theorem dX8_init_100 : decode cX8_init 100 = .ok (.iconst 4, 1) := by decide +kernel
theorem dX8_init_101 : decode cX8_init 101 = .ok (.if_icmp .ne 7, 3) := by decide +kernel
theorem dX8_init_104 : decode cX8_init 104 = .ok (.iconst 1, 1) := by decide +kernel
theorem dX8_init_105 : decode cX8_init 105 = .ok (.goto 10, 3) := by decide +kernel
theorem dX8_init_108 : decode cX8_init 108 = .ok (.iload_n 3, 1) := by decide +kernel
theorem dX8_init_109 : decode cX8_init 109 = .ok (.iconst 1, 1) := by decide +kernel
theorem dX8_init_110 : decode cX8_init 110 = .ok (.bipush 16, 2) := by decide +kernel
theorem dX8_init_112 : decode cX8_init 112 = .ok (.invokestatic 36, 3) := by decide +kernel
theorem dX8_init_115 : decode cX8_init 115 = .ok (.putfield 47, 3) := by decide +kernel
theorem dX8_init_118 : decode cX8_init 118 = .ok (.iconst 0, 1) := by decide +kernel
theorem dX8_init_119 : decode cX8_init 119 = .ok (.istore 4, 2) := by decide +kernel
theorem dX8_init_121 : decode cX8_init 121 = .ok (.iload 4, 2) := by decide +kernel
theorem dX8_init_123 : decode cX8_init 123 = .ok (.aload_n 0, 1) := by decide +kernel
theorem dX8_init_124 : decode cX8_init 124 = .ok (.invokevirtual 50, 3) := by decide +kernel
theorem dX8_init_127 : decode cX8_init 127 = .ok (.if_icmp .ge 73, 3) := by decide +kernel
theorem dX8_init_130 : decode cX8_init 130 = .ok (.iconst 0, 1) := by decide +kernel
theorem dX8_init_131 : decode cX8_init 131 = .ok (.istore 5, 2) := by decide +kernel
theorem dX8_init_133 : decode cX8_init 133 = .ok (.iload 5, 2) := by decide +kernel
theorem dX8_init_135 : decode cX8_init 135 = .ok (.bipush 6, 2) := by decide +kernel
theorem dX8_init_137 : decode cX8_init 137 = .ok (.if_icmp .ge 57, 3) := by decide +kernel
theorem dX8_init_140 : decode cX8_init 140 = .ok (.aload_n 0, 1) := by decide +kernel
theorem dX8_init_141 : decode cX8_init 141 = .ok (.iload 4, 2) := by decide +kernel
theorem dX8_init_143 : decode cX8_init 143 = .ok (.iload 5, 2) := by decide +kernel
theorem dX8_init_145 : decode cX8_init 145 = .ok (.invokevirtual 54, 3) := by decide +kernel
theorem dX8_init_148 : decode cX8_init 148 = .ok (.istore 6, 2) := by decide +kernel
theorem dX8_init_150 : decode cX8_init 150 = .ok (.iload 6, 2) := by decide +kernel
theorem dX8_init_152 : decode cX8_init 152 = .ok (.ifCond .ge 6, 3) := by decide +kernel
theorem dX8_init_155 : decode cX8_init 155 = .ok (.goto 33, 3) := by decide +kernel
theorem dX8_init_158 : decode cX8_init 158 = .ok (.aload_n 0, 1) := by decide +kernel
theorem dX8_init_159 : decode cX8_init 159 = .ok (.getfield 8, 3) := by decide +kernel
theorem dX8_init_162 : decode cX8_init 162 = .ok (.sipush 256, 3) := by decide +kernel
theorem dX8_init_165 : decode cX8_init 165 = .ok (.iload 4, 2) := by decide +kernel
theorem dX8_init_167 : decode cX8_init 167 = .ok (.imul, 1) := by decide +kernel
theorem dX8_init_168 : decode cX8_init 168 = .ok (.iload 6, 2) := by decide +kernel
theorem dX8_init_170 : decode cX8_init 170 = .ok (.iadd, 1) := by decide +kernel
theorem dX8_init_171 : decode cX8_init 171 = .ok (.iconst 1, 1) := by decide +kernel
theorem dX8_init_172 : decode cX8_init 172 = .ok (.bastore, 1) := by decide +kernel
theorem dX8_init_173 : decode cX8_init 173 = .ok (.aload_n 0, 1) := by decide +kernel
theorem dX8_init_174 : decode cX8_init 174 = .ok (.getfield 8, 3) := by decide +kernel
theorem dX8_init_177 : decode cX8_init 177 = .ok (.sipush 256, 3) := by decide +kernel
theorem dX8_init_180 : decode cX8_init 180 = .ok (.iload 6, 2) := by decide +kernel
theorem dX8_init_182 : decode cX8_init 182 = .ok (.imul, 1) := by decide +kernel
theorem dX8_init_183 : decode cX8_init 183 = .ok (.iload 4, 2) := by decide +kernel
theorem dX8_init_185 : decode cX8_init 185 = .ok (.iadd, 1) := by decide +kernel
theorem dX8_init_186 : decode cX8_init 186 = .ok (.iconst 1, 1) := by decide +kernel
theorem dX8_init_187 : decode cX8_init 187 = .ok (.bastore, 1) := by decide +kernel
theorem dX8_init_188 : decode cX8_init 188 = .ok (.iinc 5 1, 3) := by decide +kernel
theorem dX8_init_191 : decode cX8_init 191 = .ok (.goto (-58), 3) := by decide +kernel
theorem dX8_init_194 : decode cX8_init 194 = .ok (.iinc 4 1, 3) := by decide +kernel
theorem dX8_init_197 : decode cX8_init 197 = .ok (.goto (-76), 3) := by decide +kernel
theorem dX8_init_200 : decode cX8_init 200 = .ok (.return_, 1) := by decide +kernel
theorem dX8_thrown_0 : decode cX8_thrown 0 = .ok (.aload_n 0, 1) := by decide +kernel
theorem dX8_thrown_1 : decode cX8_thrown 1 = .ok (.getfield 58, 3) := by decide +kernel
theorem dX8_thrown_4 : decode cX8_thrown 4 = .ok (.ireturn, 1) := by decide +kernel
theorem dX8_fails_0 : decode cX8_fails 0 = .ok (.aload_n 0, 1) := by decide +kernel
theorem dX8_fails_1 : decode cX8_fails 1 = .ok (.iload_n 1, 1) := by decide +kernel
theorem dX8_fails_2 : decode cX8_fails 2 = .ok (.ifCond .eq 7, 3) := by decide +kernel
theorem dX8_fails_5 : decode cX8_fails 5 = .ok (.iconst 1, 1) := by decide +kernel
theorem dX8_fails_6 : decode cX8_fails 6 = .ok (.goto 4, 3) := by decide +kernel
theorem dX8_fails_9 : decode cX8_fails 9 = .ok (.iconst 0, 1) := by decide +kernel
theorem dX8_fails_10 : decode cX8_fails 10 = .ok (.putfield 58, 3) := by decide +kernel
theorem dX8_fails_13 : decode cX8_fails 13 = .ok (.iload_n 1, 1) := by decide +kernel
theorem dX8_fails_14 : decode cX8_fails 14 = .ok (.ireturn, 1) := by decide +kernel
theorem dX8_held_0 : decode cX8_held 0 = .ok (.iload_n 0, 1) := by decide +kernel
theorem dX8_held_1 : decode cX8_held 1 = .ok (.iload_n 1, 1) := by decide +kernel
theorem dX8_held_2 : decode cX8_held 2 = .ok (.if_icmp .ge 7, 3) := by decide +kernel
theorem dX8_held_5 : decode cX8_held 5 = .ok (.iload_n 1, 1) := by decide +kernel
theorem dX8_held_6 : decode cX8_held 6 = .ok (.goto 13, 3) := by decide +kernel
theorem dX8_held_9 : decode cX8_held 9 = .ok (.iload_n 0, 1) := by decide +kernel
theorem dX8_held_10 : decode cX8_held 10 = .ok (.iload_n 2, 1) := by decide +kernel
theorem dX8_held_11 : decode cX8_held 11 = .ok (.if_icmp .le 7, 3) := by decide +kernel
theorem dX8_held_14 : decode cX8_held 14 = .ok (.iload_n 2, 1) := by decide +kernel
theorem dX8_held_15 : decode cX8_held 15 = .ok (.goto 4, 3) := by decide +kernel
theorem dX8_held_18 : decode cX8_held 18 = .ok (.iload_n 0, 1) := by decide +kernel
theorem dX8_held_19 : decode cX8_held 19 = .ok (.ireturn, 1) := by decide +kernel
theorem dX8_all_0 : decode cX8_all 0 = .ok (.aload_n 0, 1) := by decide +kernel
theorem dX8_all_1 : decode cX8_all 1 = .ok (.getfield 44, 3) := by decide +kernel
theorem dX8_all_4 : decode cX8_all 4 = .ok (.aload_n 0, 1) := by decide +kernel
theorem dX8_all_5 : decode cX8_all 5 = .ok (.getfield 47, 3) := by decide +kernel
theorem dX8_all_8 : decode cX8_all 8 = .ok (.imul, 1) := by decide +kernel
theorem dX8_all_9 : decode cX8_all 9 = .ok (.ireturn, 1) := by decide +kernel
theorem dX8_isPlace_0 : decode cX8_isPlace 0 = .ok (.iload_n 1, 1) := by decide +kernel
theorem dX8_isPlace_1 : decode cX8_isPlace 1 = .ok (.ifCond .lt 15, 3) := by decide +kernel
theorem dX8_isPlace_4 : decode cX8_isPlace 4 = .ok (.iload_n 1, 1) := by decide +kernel
theorem dX8_isPlace_5 : decode cX8_isPlace 5 = .ok (.aload_n 0, 1) := by decide +kernel
theorem dX8_isPlace_6 : decode cX8_isPlace 6 = .ok (.invokevirtual 50, 3) := by decide +kernel
theorem dX8_isPlace_9 : decode cX8_isPlace 9 = .ok (.if_icmp .ge 7, 3) := by decide +kernel
theorem dX8_isPlace_12 : decode cX8_isPlace 12 = .ok (.iconst 1, 1) := by decide +kernel
theorem dX8_isPlace_13 : decode cX8_isPlace 13 = .ok (.goto 4, 3) := by decide +kernel
theorem dX8_isPlace_16 : decode cX8_isPlace 16 = .ok (.iconst 0, 1) := by decide +kernel
theorem dX8_isPlace_17 : decode cX8_isPlace 17 = .ok (.ireturn, 1) := by decide +kernel
theorem dX8_at_0 : decode cX8_at 0 = .ok (.iload_n 1, 1) := by decide +kernel
theorem dX8_at_1 : decode cX8_at 1 = .ok (.ifCond .lt 23, 3) := by decide +kernel
theorem dX8_at_4 : decode cX8_at 4 = .ok (.iload_n 1, 1) := by decide +kernel
theorem dX8_at_5 : decode cX8_at 5 = .ok (.aload_n 0, 1) := by decide +kernel
theorem dX8_at_6 : decode cX8_at 6 = .ok (.getfield 44, 3) := by decide +kernel
theorem dX8_at_9 : decode cX8_at 9 = .ok (.if_icmp .ge 15, 3) := by decide +kernel
theorem dX8_at_12 : decode cX8_at 12 = .ok (.iload_n 2, 1) := by decide +kernel
theorem dX8_at_13 : decode cX8_at 13 = .ok (.ifCond .lt 11, 3) := by decide +kernel
theorem dX8_at_16 : decode cX8_at 16 = .ok (.iload_n 2, 1) := by decide +kernel
theorem dX8_at_17 : decode cX8_at 17 = .ok (.aload_n 0, 1) := by decide +kernel
theorem dX8_at_18 : decode cX8_at 18 = .ok (.getfield 47, 3) := by decide +kernel
theorem dX8_at_21 : decode cX8_at 21 = .ok (.if_icmp .lt 7, 3) := by decide +kernel
theorem dX8_at_24 : decode cX8_at 24 = .ok (.iconst (-1), 1) := by decide +kernel
theorem dX8_at_25 : decode cX8_at 25 = .ok (.goto 11, 3) := by decide +kernel
theorem dX8_at_28 : decode cX8_at 28 = .ok (.aload_n 0, 1) := by decide +kernel
theorem dX8_at_29 : decode cX8_at 29 = .ok (.getfield 44, 3) := by decide +kernel
theorem dX8_at_32 : decode cX8_at 32 = .ok (.iload_n 2, 1) := by decide +kernel
theorem dX8_at_33 : decode cX8_at 33 = .ok (.imul, 1) := by decide +kernel
theorem dX8_at_34 : decode cX8_at 34 = .ok (.iload_n 1, 1) := by decide +kernel
theorem dX8_at_35 : decode cX8_at 35 = .ok (.iadd, 1) := by decide +kernel
theorem dX8_at_36 : decode cX8_at 36 = .ok (.ireturn, 1) := by decide +kernel
theorem dX8_step_0 : decode cX8_step 0 = .ok (.iload_n 1, 1) := by decide +kernel
theorem dX8_step_1 : decode cX8_step 1 = .ok (.aload_n 0, 1) := by decide +kernel
theorem dX8_step_2 : decode cX8_step 2 = .ok (.getfield 44, 3) := by decide +kernel
theorem dX8_step_5 : decode cX8_step 5 = .ok (.irem, 1) := by decide +kernel
theorem dX8_step_6 : decode cX8_step 6 = .ok (.istore_n 3, 1) := by decide +kernel
theorem dX8_step_7 : decode cX8_step 7 = .ok (.iload_n 1, 1) := by decide +kernel
theorem dX8_step_8 : decode cX8_step 8 = .ok (.aload_n 0, 1) := by decide +kernel
theorem dX8_step_9 : decode cX8_step 9 = .ok (.getfield 44, 3) := by decide +kernel
theorem dX8_step_12 : decode cX8_step 12 = .ok (.idiv, 1) := by decide +kernel
theorem dX8_step_13 : decode cX8_step 13 = .ok (.istore 4, 2) := by decide +kernel
theorem dX8_step_15 : decode cX8_step 15 = .ok (.aload_n 0, 1) := by decide +kernel
theorem dX8_step_16 : decode cX8_step 16 = .ok (.getfield 40, 3) := by decide +kernel
theorem dX8_step_19 : decode cX8_step 19 = .ok (.tableswitch 184 0 3 #[29, 98, 107, 175], 29) := by decide +kernel
theorem dX8_step_48 : decode cX8_step 48 = .ok (.iload_n 2, 1) := by decide +kernel
theorem dX8_step_49 : decode cX8_step 49 = .ok (.ifCond .ne 15, 3) := by decide +kernel
theorem dX8_step_52 : decode cX8_step 52 = .ok (.aload_n 0, 1) := by decide +kernel
theorem dX8_step_53 : decode cX8_step 53 = .ok (.iload_n 3, 1) := by decide +kernel
theorem dX8_step_54 : decode cX8_step 54 = .ok (.iload 4, 2) := by decide +kernel
theorem dX8_step_56 : decode cX8_step 56 = .ok (.iconst 1, 1) := by decide +kernel
theorem dX8_step_57 : decode cX8_step 57 = .ok (.isub, 1) := by decide +kernel
theorem dX8_step_58 : decode cX8_step 58 = .ok (.invokevirtual 61, 3) := by decide +kernel
theorem dX8_step_61 : decode cX8_step 61 = .ok (.goto 55, 3) := by decide +kernel
theorem dX8_step_64 : decode cX8_step 64 = .ok (.iload_n 2, 1) := by decide +kernel
theorem dX8_step_65 : decode cX8_step 65 = .ok (.iconst 1, 1) := by decide +kernel
theorem dX8_step_66 : decode cX8_step 66 = .ok (.if_icmp .ne 15, 3) := by decide +kernel
theorem dX8_step_69 : decode cX8_step 69 = .ok (.aload_n 0, 1) := by decide +kernel
theorem dX8_step_70 : decode cX8_step 70 = .ok (.iload_n 3, 1) := by decide +kernel
theorem dX8_step_71 : decode cX8_step 71 = .ok (.iconst 1, 1) := by decide +kernel
theorem dX8_step_72 : decode cX8_step 72 = .ok (.iadd, 1) := by decide +kernel
theorem dX8_step_73 : decode cX8_step 73 = .ok (.iload 4, 2) := by decide +kernel
theorem dX8_step_75 : decode cX8_step 75 = .ok (.invokevirtual 61, 3) := by decide +kernel
theorem dX8_step_78 : decode cX8_step 78 = .ok (.goto 38, 3) := by decide +kernel
theorem dX8_step_81 : decode cX8_step 81 = .ok (.iload_n 2, 1) := by decide +kernel
theorem dX8_step_82 : decode cX8_step 82 = .ok (.iconst 2, 1) := by decide +kernel
theorem dX8_step_83 : decode cX8_step 83 = .ok (.if_icmp .ne 15, 3) := by decide +kernel
theorem dX8_step_86 : decode cX8_step 86 = .ok (.aload_n 0, 1) := by decide +kernel
theorem dX8_step_87 : decode cX8_step 87 = .ok (.iload_n 3, 1) := by decide +kernel
theorem dX8_step_88 : decode cX8_step 88 = .ok (.iload 4, 2) := by decide +kernel
theorem dX8_step_90 : decode cX8_step 90 = .ok (.iconst 1, 1) := by decide +kernel
theorem dX8_step_91 : decode cX8_step 91 = .ok (.iadd, 1) := by decide +kernel
theorem dX8_step_92 : decode cX8_step 92 = .ok (.invokevirtual 61, 3) := by decide +kernel
theorem dX8_step_95 : decode cX8_step 95 = .ok (.goto 21, 3) := by decide +kernel
theorem dX8_step_98 : decode cX8_step 98 = .ok (.iload_n 2, 1) := by decide +kernel
theorem dX8_step_99 : decode cX8_step 99 = .ok (.iconst 3, 1) := by decide +kernel
theorem dX8_step_100 : decode cX8_step 100 = .ok (.if_icmp .ne 15, 3) := by decide +kernel
theorem dX8_step_103 : decode cX8_step 103 = .ok (.aload_n 0, 1) := by decide +kernel
theorem dX8_step_104 : decode cX8_step 104 = .ok (.iload_n 3, 1) := by decide +kernel
theorem dX8_step_105 : decode cX8_step 105 = .ok (.iconst 1, 1) := by decide +kernel
theorem dX8_step_106 : decode cX8_step 106 = .ok (.isub, 1) := by decide +kernel
theorem dX8_step_107 : decode cX8_step 107 = .ok (.iload 4, 2) := by decide +kernel
theorem dX8_step_109 : decode cX8_step 109 = .ok (.invokevirtual 61, 3) := by decide +kernel
theorem dX8_step_112 : decode cX8_step 112 = .ok (.goto 4, 3) := by decide +kernel
theorem dX8_step_115 : decode cX8_step 115 = .ok (.iconst (-1), 1) := by decide +kernel
theorem dX8_step_116 : decode cX8_step 116 = .ok (.ireturn, 1) := by decide +kernel
theorem dX8_step_117 : decode cX8_step 117 = .ok (.aload_n 0, 1) := by decide +kernel
theorem dX8_step_118 : decode cX8_step 118 = .ok (.iload_n 3, 1) := by decide +kernel
theorem dX8_step_119 : decode cX8_step 119 = .ok (.iload 4, 2) := by decide +kernel
theorem dX8_step_121 : decode cX8_step 121 = .ok (.iload_n 2, 1) := by decide +kernel
theorem dX8_step_122 : decode cX8_step 122 = .ok (.invokevirtual 64, 3) := by decide +kernel
theorem dX8_step_125 : decode cX8_step 125 = .ok (.ireturn, 1) := by decide +kernel
theorem dX8_step_126 : decode cX8_step 126 = .ok (.iload_n 2, 1) := by decide +kernel
theorem dX8_step_127 : decode cX8_step 127 = .ok (.ifCond .ne 15, 3) := by decide +kernel
theorem dX8_step_130 : decode cX8_step 130 = .ok (.aload_n 0, 1) := by decide +kernel
theorem dX8_step_131 : decode cX8_step 131 = .ok (.iload_n 3, 1) := by decide +kernel
theorem dX8_step_132 : decode cX8_step 132 = .ok (.iconst 1, 1) := by decide +kernel
theorem dX8_step_133 : decode cX8_step 133 = .ok (.isub, 1) := by decide +kernel
theorem dX8_step_134 : decode cX8_step 134 = .ok (.iload 4, 2) := by decide +kernel
theorem dX8_step_136 : decode cX8_step 136 = .ok (.invokevirtual 61, 3) := by decide +kernel
theorem dX8_step_139 : decode cX8_step 139 = .ok (.goto 54, 3) := by decide +kernel
theorem dX8_step_142 : decode cX8_step 142 = .ok (.iload_n 2, 1) := by decide +kernel
theorem dX8_step_143 : decode cX8_step 143 = .ok (.iconst 1, 1) := by decide +kernel
theorem dX8_step_144 : decode cX8_step 144 = .ok (.if_icmp .ne 15, 3) := by decide +kernel
theorem dX8_step_147 : decode cX8_step 147 = .ok (.aload_n 0, 1) := by decide +kernel
theorem dX8_step_148 : decode cX8_step 148 = .ok (.iload_n 3, 1) := by decide +kernel
theorem dX8_step_149 : decode cX8_step 149 = .ok (.iconst 1, 1) := by decide +kernel
theorem dX8_step_150 : decode cX8_step 150 = .ok (.iadd, 1) := by decide +kernel
theorem dX8_step_151 : decode cX8_step 151 = .ok (.iload 4, 2) := by decide +kernel
theorem dX8_step_153 : decode cX8_step 153 = .ok (.invokevirtual 61, 3) := by decide +kernel
theorem dX8_step_156 : decode cX8_step 156 = .ok (.goto 37, 3) := by decide +kernel
theorem dX8_step_159 : decode cX8_step 159 = .ok (.iload_n 2, 1) := by decide +kernel
theorem dX8_step_160 : decode cX8_step 160 = .ok (.iconst 2, 1) := by decide +kernel
theorem dX8_step_161 : decode cX8_step 161 = .ok (.if_icmp .ne 31, 3) := by decide +kernel
theorem dX8_step_164 : decode cX8_step 164 = .ok (.aload_n 0, 1) := by decide +kernel
theorem dX8_step_165 : decode cX8_step 165 = .ok (.iload_n 3, 1) := by decide +kernel
theorem dX8_step_166 : decode cX8_step 166 = .ok (.iload_n 3, 1) := by decide +kernel
theorem dX8_step_167 : decode cX8_step 167 = .ok (.iload 4, 2) := by decide +kernel
theorem dX8_step_169 : decode cX8_step 169 = .ok (.iadd, 1) := by decide +kernel
theorem dX8_step_170 : decode cX8_step 170 = .ok (.iconst 2, 1) := by decide +kernel
theorem dX8_step_171 : decode cX8_step 171 = .ok (.irem, 1) := by decide +kernel
theorem dX8_step_172 : decode cX8_step 172 = .ok (.ifCond .ne 10, 3) := by decide +kernel
theorem dX8_step_175 : decode cX8_step 175 = .ok (.iload 4, 2) := by decide +kernel
theorem dX8_step_177 : decode cX8_step 177 = .ok (.iconst 1, 1) := by decide +kernel
theorem dX8_step_178 : decode cX8_step 178 = .ok (.iadd, 1) := by decide +kernel
theorem dX8_step_179 : decode cX8_step 179 = .ok (.goto 7, 3) := by decide +kernel
theorem dX8_step_182 : decode cX8_step 182 = .ok (.iload 4, 2) := by decide +kernel
theorem dX8_step_184 : decode cX8_step 184 = .ok (.iconst 1, 1) := by decide +kernel
theorem dX8_step_185 : decode cX8_step 185 = .ok (.isub, 1) := by decide +kernel
theorem dX8_step_186 : decode cX8_step 186 = .ok (.invokevirtual 61, 3) := by decide +kernel
theorem dX8_step_189 : decode cX8_step 189 = .ok (.goto 4, 3) := by decide +kernel
theorem dX8_step_192 : decode cX8_step 192 = .ok (.iconst (-1), 1) := by decide +kernel
theorem dX8_step_193 : decode cX8_step 193 = .ok (.ireturn, 1) := by decide +kernel
theorem dX8_step_194 : decode cX8_step 194 = .ok (.aload_n 0, 1) := by decide +kernel
theorem dX8_step_195 : decode cX8_step 195 = .ok (.iload_n 3, 1) := by decide +kernel
theorem dX8_step_196 : decode cX8_step 196 = .ok (.iload 4, 2) := by decide +kernel
theorem dX8_step_198 : decode cX8_step 198 = .ok (.iload_n 2, 1) := by decide +kernel
theorem dX8_step_199 : decode cX8_step 199 = .ok (.invokevirtual 67, 3) := by decide +kernel
theorem dX8_step_202 : decode cX8_step 202 = .ok (.ireturn, 1) := by decide +kernel
theorem dX8_step_203 : decode cX8_step 203 = .ok (.iconst (-1), 1) := by decide +kernel
theorem dX8_step_204 : decode cX8_step 204 = .ok (.ireturn, 1) := by decide +kernel
theorem dX8_hex_0 : decode cX8_hex 0 = .ok (.iload_n 1, 1) := by decide +kernel
theorem dX8_hex_1 : decode cX8_hex 1 = .ok (.iload_n 2, 1) := by decide +kernel
theorem dX8_hex_2 : decode cX8_hex 2 = .ok (.iconst 2, 1) := by decide +kernel
theorem dX8_hex_3 : decode cX8_hex 3 = .ok (.irem, 1) := by decide +kernel
theorem dX8_hex_4 : decode cX8_hex 4 = .ok (.iadd, 1) := by decide +kernel
theorem dX8_hex_5 : decode cX8_hex 5 = .ok (.istore 4, 2) := by decide +kernel
theorem dX8_hex_7 : decode cX8_hex 7 = .ok (.iload_n 3, 1) := by decide +kernel
theorem dX8_hex_8 : decode cX8_hex 8 = .ok (.tableswitch 86 0 4 #[36, 46, 55, 65, 77], 36) := by decide +kernel
theorem dX8_hex_44 : decode cX8_hex 44 = .ok (.aload_n 0, 1) := by decide +kernel
theorem dX8_hex_45 : decode cX8_hex 45 = .ok (.iload 4, 2) := by decide +kernel
theorem dX8_hex_47 : decode cX8_hex 47 = .ok (.iload_n 2, 1) := by decide +kernel
theorem dX8_hex_48 : decode cX8_hex 48 = .ok (.iconst 1, 1) := by decide +kernel
theorem dX8_hex_49 : decode cX8_hex 49 = .ok (.isub, 1) := by decide +kernel
theorem dX8_hex_50 : decode cX8_hex 50 = .ok (.invokevirtual 61, 3) := by decide +kernel
theorem dX8_hex_53 : decode cX8_hex 53 = .ok (.ireturn, 1) := by decide +kernel
theorem dX8_hex_54 : decode cX8_hex 54 = .ok (.aload_n 0, 1) := by decide +kernel
theorem dX8_hex_55 : decode cX8_hex 55 = .ok (.iload_n 1, 1) := by decide +kernel
theorem dX8_hex_56 : decode cX8_hex 56 = .ok (.iconst 1, 1) := by decide +kernel
theorem dX8_hex_57 : decode cX8_hex 57 = .ok (.iadd, 1) := by decide +kernel
theorem dX8_hex_58 : decode cX8_hex 58 = .ok (.iload_n 2, 1) := by decide +kernel
theorem dX8_hex_59 : decode cX8_hex 59 = .ok (.invokevirtual 61, 3) := by decide +kernel
theorem dX8_hex_62 : decode cX8_hex 62 = .ok (.ireturn, 1) := by decide +kernel
theorem dX8_hex_63 : decode cX8_hex 63 = .ok (.aload_n 0, 1) := by decide +kernel
theorem dX8_hex_64 : decode cX8_hex 64 = .ok (.iload 4, 2) := by decide +kernel
theorem dX8_hex_66 : decode cX8_hex 66 = .ok (.iload_n 2, 1) := by decide +kernel
theorem dX8_hex_67 : decode cX8_hex 67 = .ok (.iconst 1, 1) := by decide +kernel
theorem dX8_hex_68 : decode cX8_hex 68 = .ok (.iadd, 1) := by decide +kernel
theorem dX8_hex_69 : decode cX8_hex 69 = .ok (.invokevirtual 61, 3) := by decide +kernel
theorem dX8_hex_72 : decode cX8_hex 72 = .ok (.ireturn, 1) := by decide +kernel
theorem dX8_hex_73 : decode cX8_hex 73 = .ok (.aload_n 0, 1) := by decide +kernel
theorem dX8_hex_74 : decode cX8_hex 74 = .ok (.iload 4, 2) := by decide +kernel
theorem dX8_hex_76 : decode cX8_hex 76 = .ok (.iconst 1, 1) := by decide +kernel
theorem dX8_hex_77 : decode cX8_hex 77 = .ok (.isub, 1) := by decide +kernel
theorem dX8_hex_78 : decode cX8_hex 78 = .ok (.iload_n 2, 1) := by decide +kernel
theorem dX8_hex_79 : decode cX8_hex 79 = .ok (.iconst 1, 1) := by decide +kernel
theorem dX8_hex_80 : decode cX8_hex 80 = .ok (.iadd, 1) := by decide +kernel
theorem dX8_hex_81 : decode cX8_hex 81 = .ok (.invokevirtual 61, 3) := by decide +kernel
theorem dX8_hex_84 : decode cX8_hex 84 = .ok (.ireturn, 1) := by decide +kernel
theorem dX8_hex_85 : decode cX8_hex 85 = .ok (.aload_n 0, 1) := by decide +kernel
theorem dX8_hex_86 : decode cX8_hex 86 = .ok (.iload_n 1, 1) := by decide +kernel
theorem dX8_hex_87 : decode cX8_hex 87 = .ok (.iconst 1, 1) := by decide +kernel
theorem dX8_hex_88 : decode cX8_hex 88 = .ok (.isub, 1) := by decide +kernel
theorem dX8_hex_89 : decode cX8_hex 89 = .ok (.iload_n 2, 1) := by decide +kernel
theorem dX8_hex_90 : decode cX8_hex 90 = .ok (.invokevirtual 61, 3) := by decide +kernel
theorem dX8_hex_93 : decode cX8_hex 93 = .ok (.ireturn, 1) := by decide +kernel
theorem dX8_hex_94 : decode cX8_hex 94 = .ok (.aload_n 0, 1) := by decide +kernel
theorem dX8_hex_95 : decode cX8_hex 95 = .ok (.iload 4, 2) := by decide +kernel
theorem dX8_hex_97 : decode cX8_hex 97 = .ok (.iconst 1, 1) := by decide +kernel
theorem dX8_hex_98 : decode cX8_hex 98 = .ok (.isub, 1) := by decide +kernel
theorem dX8_hex_99 : decode cX8_hex 99 = .ok (.iload_n 2, 1) := by decide +kernel
theorem dX8_hex_100 : decode cX8_hex 100 = .ok (.iconst 1, 1) := by decide +kernel
theorem dX8_hex_101 : decode cX8_hex 101 = .ok (.isub, 1) := by decide +kernel
theorem dX8_hex_102 : decode cX8_hex 102 = .ok (.invokevirtual 61, 3) := by decide +kernel
theorem dX8_hex_105 : decode cX8_hex 105 = .ok (.ireturn, 1) := by decide +kernel
theorem dX8_ring_0 : decode cX8_ring 0 = .ok (.iload_n 3, 1) := by decide +kernel
theorem dX8_ring_1 : decode cX8_ring 1 = .ok (.tableswitch 106 0 3 #[31, 40, 66, 75], 31) := by decide +kernel
theorem dX8_ring_32 : decode cX8_ring 32 = .ok (.aload_n 0, 1) := by decide +kernel
theorem dX8_ring_33 : decode cX8_ring 33 = .ok (.iload_n 1, 1) := by decide +kernel
theorem dX8_ring_34 : decode cX8_ring 34 = .ok (.iload_n 2, 1) := by decide +kernel
theorem dX8_ring_35 : decode cX8_ring 35 = .ok (.iconst 1, 1) := by decide +kernel
theorem dX8_ring_36 : decode cX8_ring 36 = .ok (.isub, 1) := by decide +kernel
theorem dX8_ring_37 : decode cX8_ring 37 = .ok (.invokevirtual 61, 3) := by decide +kernel
theorem dX8_ring_40 : decode cX8_ring 40 = .ok (.ireturn, 1) := by decide +kernel
theorem dX8_ring_41 : decode cX8_ring 41 = .ok (.aload_n 0, 1) := by decide +kernel
theorem dX8_ring_42 : decode cX8_ring 42 = .ok (.getfield 44, 3) := by decide +kernel
theorem dX8_ring_45 : decode cX8_ring 45 = .ok (.iconst 1, 1) := by decide +kernel
theorem dX8_ring_46 : decode cX8_ring 46 = .ok (.if_icmp .le 19, 3) := by decide +kernel
theorem dX8_ring_49 : decode cX8_ring 49 = .ok (.aload_n 0, 1) := by decide +kernel
theorem dX8_ring_50 : decode cX8_ring 50 = .ok (.iload_n 1, 1) := by decide +kernel
theorem dX8_ring_51 : decode cX8_ring 51 = .ok (.iconst 1, 1) := by decide +kernel
theorem dX8_ring_52 : decode cX8_ring 52 = .ok (.iadd, 1) := by decide +kernel
theorem dX8_ring_53 : decode cX8_ring 53 = .ok (.aload_n 0, 1) := by decide +kernel
theorem dX8_ring_54 : decode cX8_ring 54 = .ok (.getfield 44, 3) := by decide +kernel
theorem dX8_ring_57 : decode cX8_ring 57 = .ok (.irem, 1) := by decide +kernel
theorem dX8_ring_58 : decode cX8_ring 58 = .ok (.iload_n 2, 1) := by decide +kernel
theorem dX8_ring_59 : decode cX8_ring 59 = .ok (.invokevirtual 61, 3) := by decide +kernel
theorem dX8_ring_62 : decode cX8_ring 62 = .ok (.goto 4, 3) := by decide +kernel
theorem dX8_ring_65 : decode cX8_ring 65 = .ok (.iconst (-1), 1) := by decide +kernel
theorem dX8_ring_66 : decode cX8_ring 66 = .ok (.ireturn, 1) := by decide +kernel
theorem dX8_ring_67 : decode cX8_ring 67 = .ok (.aload_n 0, 1) := by decide +kernel
theorem dX8_ring_68 : decode cX8_ring 68 = .ok (.iload_n 1, 1) := by decide +kernel
theorem dX8_ring_69 : decode cX8_ring 69 = .ok (.iload_n 2, 1) := by decide +kernel
theorem dX8_ring_70 : decode cX8_ring 70 = .ok (.iconst 1, 1) := by decide +kernel
theorem dX8_ring_71 : decode cX8_ring 71 = .ok (.iadd, 1) := by decide +kernel
theorem dX8_ring_72 : decode cX8_ring 72 = .ok (.invokevirtual 61, 3) := by decide +kernel
theorem dX8_ring_75 : decode cX8_ring 75 = .ok (.ireturn, 1) := by decide +kernel
theorem dX8_ring_76 : decode cX8_ring 76 = .ok (.aload_n 0, 1) := by decide +kernel
theorem dX8_ring_77 : decode cX8_ring 77 = .ok (.getfield 44, 3) := by decide +kernel
theorem dX8_ring_80 : decode cX8_ring 80 = .ok (.iconst 2, 1) := by decide +kernel
theorem dX8_ring_81 : decode cX8_ring 81 = .ok (.if_icmp .le 24, 3) := by decide +kernel
theorem dX8_ring_84 : decode cX8_ring 84 = .ok (.aload_n 0, 1) := by decide +kernel
theorem dX8_ring_85 : decode cX8_ring 85 = .ok (.iload_n 1, 1) := by decide +kernel
theorem dX8_ring_86 : decode cX8_ring 86 = .ok (.aload_n 0, 1) := by decide +kernel
theorem dX8_ring_87 : decode cX8_ring 87 = .ok (.getfield 44, 3) := by decide +kernel
theorem dX8_ring_90 : decode cX8_ring 90 = .ok (.iadd, 1) := by decide +kernel
theorem dX8_ring_91 : decode cX8_ring 91 = .ok (.iconst 1, 1) := by decide +kernel
theorem dX8_ring_92 : decode cX8_ring 92 = .ok (.isub, 1) := by decide +kernel
theorem dX8_ring_93 : decode cX8_ring 93 = .ok (.aload_n 0, 1) := by decide +kernel
theorem dX8_ring_94 : decode cX8_ring 94 = .ok (.getfield 44, 3) := by decide +kernel
theorem dX8_ring_97 : decode cX8_ring 97 = .ok (.irem, 1) := by decide +kernel
theorem dX8_ring_98 : decode cX8_ring 98 = .ok (.iload_n 2, 1) := by decide +kernel
theorem dX8_ring_99 : decode cX8_ring 99 = .ok (.invokevirtual 61, 3) := by decide +kernel
theorem dX8_ring_102 : decode cX8_ring 102 = .ok (.goto 4, 3) := by decide +kernel
theorem dX8_ring_105 : decode cX8_ring 105 = .ok (.iconst (-1), 1) := by decide +kernel
theorem dX8_ring_106 : decode cX8_ring 106 = .ok (.ireturn, 1) := by decide +kernel
theorem dX8_ring_107 : decode cX8_ring 107 = .ok (.iconst (-1), 1) := by decide +kernel
theorem dX8_ring_108 : decode cX8_ring 108 = .ok (.ireturn, 1) := by decide +kernel
theorem dX8_join_0 : decode cX8_join 0 = .ok (.aload_n 0, 1) := by decide +kernel
theorem dX8_join_1 : decode cX8_join 1 = .ok (.aload_n 0, 1) := by decide +kernel
theorem dX8_join_2 : decode cX8_join 2 = .ok (.iload_n 1, 1) := by decide +kernel
theorem dX8_join_3 : decode cX8_join 3 = .ok (.invokevirtual 70, 3) := by decide +kernel
theorem dX8_join_6 : decode cX8_join 6 = .ok (.ifCond .eq 11, 3) := by decide +kernel
theorem dX8_join_9 : decode cX8_join 9 = .ok (.aload_n 0, 1) := by decide +kernel
theorem dX8_join_10 : decode cX8_join 10 = .ok (.iload_n 2, 1) := by decide +kernel
theorem dX8_join_11 : decode cX8_join 11 = .ok (.invokevirtual 70, 3) := by decide +kernel
theorem dX8_join_14 : decode cX8_join 14 = .ok (.ifCond .ne 7, 3) := by decide +kernel
theorem dX8_join_17 : decode cX8_join 17 = .ok (.iconst 1, 1) := by decide +kernel
theorem dX8_join_18 : decode cX8_join 18 = .ok (.goto 4, 3) := by decide +kernel
theorem dX8_join_21 : decode cX8_join 21 = .ok (.iconst 0, 1) := by decide +kernel
theorem dX8_join_22 : decode cX8_join 22 = .ok (.invokevirtual 74, 3) := by decide +kernel
theorem dX8_join_25 : decode cX8_join 25 = .ok (.ifCond .ne 31, 3) := by decide +kernel
theorem dX8_join_28 : decode cX8_join 28 = .ok (.aload_n 0, 1) := by decide +kernel
theorem dX8_join_29 : decode cX8_join 29 = .ok (.getfield 40, 3) := by decide +kernel
theorem dX8_join_32 : decode cX8_join 32 = .ok (.iconst 4, 1) := by decide +kernel
theorem dX8_join_33 : decode cX8_join 33 = .ok (.if_icmp .ne 23, 3) := by decide +kernel
theorem dX8_join_36 : decode cX8_join 36 = .ok (.iload_n 1, 1) := by decide +kernel
theorem dX8_join_37 : decode cX8_join 37 = .ok (.iload_n 2, 1) := by decide +kernel
theorem dX8_join_38 : decode cX8_join 38 = .ok (.if_icmp .eq 18, 3) := by decide +kernel
theorem dX8_join_41 : decode cX8_join 41 = .ok (.aload_n 0, 1) := by decide +kernel
theorem dX8_join_42 : decode cX8_join 42 = .ok (.getfield 8, 3) := by decide +kernel
theorem dX8_join_45 : decode cX8_join 45 = .ok (.sipush 256, 3) := by decide +kernel
theorem dX8_join_48 : decode cX8_join 48 = .ok (.iload_n 1, 1) := by decide +kernel
theorem dX8_join_49 : decode cX8_join 49 = .ok (.imul, 1) := by decide +kernel
theorem dX8_join_50 : decode cX8_join 50 = .ok (.iload_n 2, 1) := by decide +kernel
theorem dX8_join_51 : decode cX8_join 51 = .ok (.iadd, 1) := by decide +kernel
theorem dX8_join_52 : decode cX8_join 52 = .ok (.baload, 1) := by decide +kernel
theorem dX8_join_53 : decode cX8_join 53 = .ok (.ifCond .eq 5, 3) := by decide +kernel
theorem dX8_join_56 : decode cX8_join 56 = .ok (.iconst 0, 1) := by decide +kernel
theorem dX8_join_57 : decode cX8_join 57 = .ok (.ireturn, 1) := by decide +kernel
theorem dX8_join_58 : decode cX8_join 58 = .ok (.aload_n 0, 1) := by decide +kernel
theorem dX8_join_59 : decode cX8_join 59 = .ok (.getfield 8, 3) := by decide +kernel
theorem dX8_join_62 : decode cX8_join 62 = .ok (.sipush 256, 3) := by decide +kernel
theorem dX8_join_65 : decode cX8_join 65 = .ok (.iload_n 1, 1) := by decide +kernel
theorem dX8_join_66 : decode cX8_join 66 = .ok (.imul, 1) := by decide +kernel
theorem dX8_join_67 : decode cX8_join 67 = .ok (.iload_n 2, 1) := by decide +kernel
theorem dX8_join_68 : decode cX8_join 68 = .ok (.iadd, 1) := by decide +kernel
theorem dX8_join_69 : decode cX8_join 69 = .ok (.iconst 1, 1) := by decide +kernel
theorem dX8_join_70 : decode cX8_join 70 = .ok (.bastore, 1) := by decide +kernel
theorem dX8_join_71 : decode cX8_join 71 = .ok (.aload_n 0, 1) := by decide +kernel
theorem dX8_join_72 : decode cX8_join 72 = .ok (.getfield 8, 3) := by decide +kernel
theorem dX8_join_75 : decode cX8_join 75 = .ok (.sipush 256, 3) := by decide +kernel
theorem dX8_join_78 : decode cX8_join 78 = .ok (.iload_n 2, 1) := by decide +kernel
theorem dX8_join_79 : decode cX8_join 79 = .ok (.imul, 1) := by decide +kernel
theorem dX8_join_80 : decode cX8_join 80 = .ok (.iload_n 1, 1) := by decide +kernel
theorem dX8_join_81 : decode cX8_join 81 = .ok (.iadd, 1) := by decide +kernel
theorem dX8_join_82 : decode cX8_join 82 = .ok (.iconst 1, 1) := by decide +kernel
theorem dX8_join_83 : decode cX8_join 83 = .ok (.bastore, 1) := by decide +kernel
theorem dX8_join_84 : decode cX8_join 84 = .ok (.iconst 1, 1) := by decide +kernel
theorem dX8_join_85 : decode cX8_join 85 = .ok (.ireturn, 1) := by decide +kernel
theorem dX8_places_0 : decode cX8_places 0 = .ok (.aload_n 0, 1) := by decide +kernel
theorem dX8_places_1 : decode cX8_places 1 = .ok (.iconst 0, 1) := by decide +kernel
theorem dX8_places_2 : decode cX8_places 2 = .ok (.putfield 58, 3) := by decide +kernel
theorem dX8_places_5 : decode cX8_places 5 = .ok (.aload_n 0, 1) := by decide +kernel
theorem dX8_places_6 : decode cX8_places 6 = .ok (.invokevirtual 50, 3) := by decide +kernel
theorem dX8_places_9 : decode cX8_places 9 = .ok (.ireturn, 1) := by decide +kernel
theorem dX8_isNext_0 : decode cX8_isNext 0 = .ok (.aload_n 0, 1) := by decide +kernel
theorem dX8_isNext_1 : decode cX8_isNext 1 = .ok (.getfield 8, 3) := by decide +kernel
theorem dX8_isNext_4 : decode cX8_isNext 4 = .ok (.sipush 256, 3) := by decide +kernel
theorem dX8_isNext_7 : decode cX8_isNext 7 = .ok (.iload_n 1, 1) := by decide +kernel
theorem dX8_isNext_8 : decode cX8_isNext 8 = .ok (.imul, 1) := by decide +kernel
theorem dX8_isNext_9 : decode cX8_isNext 9 = .ok (.iload_n 2, 1) := by decide +kernel
theorem dX8_isNext_10 : decode cX8_isNext 10 = .ok (.iadd, 1) := by decide +kernel
theorem dX8_isNext_11 : decode cX8_isNext 11 = .ok (.baload, 1) := by decide +kernel
theorem dX8_isNext_12 : decode cX8_isNext 12 = .ok (.ifCond .eq 22, 3) := by decide +kernel
theorem dX8_isNext_15 : decode cX8_isNext 15 = .ok (.aload_n 0, 1) := by decide +kernel
theorem dX8_isNext_16 : decode cX8_isNext 16 = .ok (.getfield 14, 3) := by decide +kernel
theorem dX8_isNext_19 : decode cX8_isNext 19 = .ok (.sipush 256, 3) := by decide +kernel
theorem dX8_isNext_22 : decode cX8_isNext 22 = .ok (.iload_n 1, 1) := by decide +kernel
theorem dX8_isNext_23 : decode cX8_isNext 23 = .ok (.imul, 1) := by decide +kernel
theorem dX8_isNext_24 : decode cX8_isNext 24 = .ok (.iload_n 2, 1) := by decide +kernel
theorem dX8_isNext_25 : decode cX8_isNext 25 = .ok (.iadd, 1) := by decide +kernel
theorem dX8_isNext_26 : decode cX8_isNext 26 = .ok (.baload, 1) := by decide +kernel
theorem dX8_isNext_27 : decode cX8_isNext 27 = .ok (.ifCond .ne 7, 3) := by decide +kernel
theorem dX8_isNext_30 : decode cX8_isNext 30 = .ok (.iconst 1, 1) := by decide +kernel
theorem dX8_isNext_31 : decode cX8_isNext 31 = .ok (.goto 4, 3) := by decide +kernel
theorem dX8_isNext_34 : decode cX8_isNext 34 = .ok (.iconst 0, 1) := by decide +kernel
theorem dX8_isNext_35 : decode cX8_isNext 35 = .ok (.ireturn, 1) := by decide +kernel
theorem dX8_degree_0 : decode cX8_degree 0 = .ok (.aload_n 0, 1) := by decide +kernel
theorem dX8_degree_1 : decode cX8_degree 1 = .ok (.aload_n 0, 1) := by decide +kernel
theorem dX8_degree_2 : decode cX8_degree 2 = .ok (.iload_n 1, 1) := by decide +kernel
theorem dX8_degree_3 : decode cX8_degree 3 = .ok (.invokevirtual 70, 3) := by decide +kernel
theorem dX8_degree_6 : decode cX8_degree 6 = .ok (.ifCond .ne 7, 3) := by decide +kernel
theorem dX8_degree_9 : decode cX8_degree 9 = .ok (.iconst 1, 1) := by decide +kernel
theorem dX8_degree_10 : decode cX8_degree 10 = .ok (.goto 4, 3) := by decide +kernel
theorem dX8_degree_13 : decode cX8_degree 13 = .ok (.iconst 0, 1) := by decide +kernel
theorem dX8_degree_14 : decode cX8_degree 14 = .ok (.invokevirtual 74, 3) := by decide +kernel
theorem dX8_degree_17 : decode cX8_degree 17 = .ok (.ifCond .eq 5, 3) := by decide +kernel
theorem dX8_degree_20 : decode cX8_degree 20 = .ok (.iconst 0, 1) := by decide +kernel
theorem dX8_degree_21 : decode cX8_degree 21 = .ok (.ireturn, 1) := by decide +kernel
theorem dX8_degree_22 : decode cX8_degree 22 = .ok (.iconst 0, 1) := by decide +kernel
theorem dX8_degree_23 : decode cX8_degree 23 = .ok (.istore_n 3, 1) := by decide +kernel
theorem dX8_degree_24 : decode cX8_degree 24 = .ok (.iconst 0, 1) := by decide +kernel
theorem dX8_degree_25 : decode cX8_degree 25 = .ok (.istore 4, 2) := by decide +kernel
theorem dX8_degree_27 : decode cX8_degree 27 = .ok (.iload 4, 2) := by decide +kernel
theorem dX8_degree_29 : decode cX8_degree 29 = .ok (.aload_n 0, 1) := by decide +kernel
theorem dX8_degree_30 : decode cX8_degree 30 = .ok (.invokevirtual 50, 3) := by decide +kernel
theorem dX8_degree_33 : decode cX8_degree 33 = .ok (.if_icmp .ge 55, 3) := by decide +kernel
theorem dX8_degree_36 : decode cX8_degree 36 = .ok (.iload_n 3, 1) := by decide +kernel
theorem dX8_degree_37 : decode cX8_degree 37 = .ok (.iload_n 2, 1) := by decide +kernel
theorem dX8_degree_38 : decode cX8_degree 38 = .ok (.ifCond .eq 21, 3) := by decide +kernel
theorem dX8_degree_41 : decode cX8_degree 41 = .ok (.aload_n 0, 1) := by decide +kernel
theorem dX8_degree_42 : decode cX8_degree 42 = .ok (.iload_n 1, 1) := by decide +kernel
theorem dX8_degree_43 : decode cX8_degree 43 = .ok (.iload 4, 2) := by decide +kernel
theorem dX8_degree_45 : decode cX8_degree 45 = .ok (.invokevirtual 78, 3) := by decide +kernel
theorem dX8_degree_48 : decode cX8_degree 48 = .ok (.ifCond .eq 7, 3) := by decide +kernel
theorem dX8_degree_51 : decode cX8_degree 51 = .ok (.iconst 1, 1) := by decide +kernel
theorem dX8_degree_52 : decode cX8_degree 52 = .ok (.goto 28, 3) := by decide +kernel
theorem dX8_degree_55 : decode cX8_degree 55 = .ok (.iconst 0, 1) := by decide +kernel
theorem dX8_degree_56 : decode cX8_degree 56 = .ok (.goto 24, 3) := by decide +kernel
theorem dX8_degree_59 : decode cX8_degree 59 = .ok (.aload_n 0, 1) := by decide +kernel
theorem dX8_degree_60 : decode cX8_degree 60 = .ok (.getfield 8, 3) := by decide +kernel
theorem dX8_degree_63 : decode cX8_degree 63 = .ok (.sipush 256, 3) := by decide +kernel
theorem dX8_degree_66 : decode cX8_degree 66 = .ok (.iload_n 1, 1) := by decide +kernel
theorem dX8_degree_67 : decode cX8_degree 67 = .ok (.imul, 1) := by decide +kernel
theorem dX8_degree_68 : decode cX8_degree 68 = .ok (.iload 4, 2) := by decide +kernel
theorem dX8_degree_70 : decode cX8_degree 70 = .ok (.iadd, 1) := by decide +kernel
theorem dX8_degree_71 : decode cX8_degree 71 = .ok (.baload, 1) := by decide +kernel
theorem dX8_degree_72 : decode cX8_degree 72 = .ok (.ifCond .eq 7, 3) := by decide +kernel
theorem dX8_degree_75 : decode cX8_degree 75 = .ok (.iconst 1, 1) := by decide +kernel
theorem dX8_degree_76 : decode cX8_degree 76 = .ok (.goto 4, 3) := by decide +kernel
theorem dX8_degree_79 : decode cX8_degree 79 = .ok (.iconst 0, 1) := by decide +kernel
theorem dX8_degree_80 : decode cX8_degree 80 = .ok (.iadd, 1) := by decide +kernel
theorem dX8_degree_81 : decode cX8_degree 81 = .ok (.istore_n 3, 1) := by decide +kernel
theorem dX8_degree_82 : decode cX8_degree 82 = .ok (.iinc 4 1, 3) := by decide +kernel
theorem dX8_degree_85 : decode cX8_degree 85 = .ok (.goto (-58), 3) := by decide +kernel
theorem dX8_degree_88 : decode cX8_degree 88 = .ok (.iload_n 3, 1) := by decide +kernel
theorem dX8_degree_89 : decode cX8_degree 89 = .ok (.ireturn, 1) := by decide +kernel
theorem dX8_neighbour_0 : decode cX8_neighbour 0 = .ok (.aload_n 0, 1) := by decide +kernel
theorem dX8_neighbour_1 : decode cX8_neighbour 1 = .ok (.aload_n 0, 1) := by decide +kernel
theorem dX8_neighbour_2 : decode cX8_neighbour 2 = .ok (.iload_n 1, 1) := by decide +kernel
theorem dX8_neighbour_3 : decode cX8_neighbour 3 = .ok (.invokevirtual 70, 3) := by decide +kernel
theorem dX8_neighbour_6 : decode cX8_neighbour 6 = .ok (.ifCond .ne 7, 3) := by decide +kernel
theorem dX8_neighbour_9 : decode cX8_neighbour 9 = .ok (.iconst 1, 1) := by decide +kernel
theorem dX8_neighbour_10 : decode cX8_neighbour 10 = .ok (.goto 4, 3) := by decide +kernel
theorem dX8_neighbour_13 : decode cX8_neighbour 13 = .ok (.iconst 0, 1) := by decide +kernel
theorem dX8_neighbour_14 : decode cX8_neighbour 14 = .ok (.invokevirtual 74, 3) := by decide +kernel
theorem dX8_neighbour_17 : decode cX8_neighbour 17 = .ok (.ifCond .eq 5, 3) := by decide +kernel
theorem dX8_neighbour_20 : decode cX8_neighbour 20 = .ok (.iconst 0, 1) := by decide +kernel
theorem dX8_neighbour_21 : decode cX8_neighbour 21 = .ok (.ireturn, 1) := by decide +kernel
theorem dX8_neighbour_22 : decode cX8_neighbour 22 = .ok (.iconst 0, 1) := by decide +kernel
theorem dX8_neighbour_23 : decode cX8_neighbour 23 = .ok (.istore_n 3, 1) := by decide +kernel
theorem dX8_neighbour_24 : decode cX8_neighbour 24 = .ok (.iconst 0, 1) := by decide +kernel
theorem dX8_neighbour_25 : decode cX8_neighbour 25 = .ok (.istore 4, 2) := by decide +kernel
theorem dX8_neighbour_27 : decode cX8_neighbour 27 = .ok (.iload 4, 2) := by decide +kernel
theorem dX8_neighbour_29 : decode cX8_neighbour 29 = .ok (.sipush 256, 3) := by decide +kernel
theorem dX8_neighbour_32 : decode cX8_neighbour 32 = .ok (.if_icmp .ge 90, 3) := by decide +kernel
theorem dX8_neighbour_35 : decode cX8_neighbour 35 = .ok (.aload_n 0, 1) := by decide +kernel
theorem dX8_neighbour_36 : decode cX8_neighbour 36 = .ok (.getfield 40, 3) := by decide +kernel
theorem dX8_neighbour_39 : decode cX8_neighbour 39 = .ok (.iconst 4, 1) := by decide +kernel
theorem dX8_neighbour_40 : decode cX8_neighbour 40 = .ok (.if_icmp .ne 37, 3) := by decide +kernel
theorem dX8_neighbour_43 : decode cX8_neighbour 43 = .ok (.iload 4, 2) := by decide +kernel
theorem dX8_neighbour_45 : decode cX8_neighbour 45 = .ok (.aload_n 0, 1) := by decide +kernel
theorem dX8_neighbour_46 : decode cX8_neighbour 46 = .ok (.invokevirtual 50, 3) := by decide +kernel
theorem dX8_neighbour_49 : decode cX8_neighbour 49 = .ok (.if_icmp .ge 24, 3) := by decide +kernel
theorem dX8_neighbour_52 : decode cX8_neighbour 52 = .ok (.aload_n 0, 1) := by decide +kernel
theorem dX8_neighbour_53 : decode cX8_neighbour 53 = .ok (.getfield 8, 3) := by decide +kernel
theorem dX8_neighbour_56 : decode cX8_neighbour 56 = .ok (.sipush 256, 3) := by decide +kernel
theorem dX8_neighbour_59 : decode cX8_neighbour 59 = .ok (.iload_n 1, 1) := by decide +kernel
theorem dX8_neighbour_60 : decode cX8_neighbour 60 = .ok (.imul, 1) := by decide +kernel
theorem dX8_neighbour_61 : decode cX8_neighbour 61 = .ok (.iload 4, 2) := by decide +kernel
theorem dX8_neighbour_63 : decode cX8_neighbour 63 = .ok (.iadd, 1) := by decide +kernel
theorem dX8_neighbour_64 : decode cX8_neighbour 64 = .ok (.baload, 1) := by decide +kernel
theorem dX8_neighbour_65 : decode cX8_neighbour 65 = .ok (.ifCond .eq 8, 3) := by decide +kernel
theorem dX8_neighbour_68 : decode cX8_neighbour 68 = .ok (.iload 4, 2) := by decide +kernel
theorem dX8_neighbour_70 : decode cX8_neighbour 70 = .ok (.goto 25, 3) := by decide +kernel
theorem dX8_neighbour_73 : decode cX8_neighbour 73 = .ok (.iconst (-1), 1) := by decide +kernel
theorem dX8_neighbour_74 : decode cX8_neighbour 74 = .ok (.goto 21, 3) := by decide +kernel
theorem dX8_neighbour_77 : decode cX8_neighbour 77 = .ok (.iload 4, 2) := by decide +kernel
theorem dX8_neighbour_79 : decode cX8_neighbour 79 = .ok (.bipush 6, 2) := by decide +kernel
theorem dX8_neighbour_81 : decode cX8_neighbour 81 = .ok (.if_icmp .ge 13, 3) := by decide +kernel
theorem dX8_neighbour_84 : decode cX8_neighbour 84 = .ok (.aload_n 0, 1) := by decide +kernel
theorem dX8_neighbour_85 : decode cX8_neighbour 85 = .ok (.iload_n 1, 1) := by decide +kernel
theorem dX8_neighbour_86 : decode cX8_neighbour 86 = .ok (.iload 4, 2) := by decide +kernel
theorem dX8_neighbour_88 : decode cX8_neighbour 88 = .ok (.invokevirtual 54, 3) := by decide +kernel
theorem dX8_neighbour_91 : decode cX8_neighbour 91 = .ok (.goto 4, 3) := by decide +kernel
theorem dX8_neighbour_94 : decode cX8_neighbour 94 = .ok (.iconst (-1), 1) := by decide +kernel
theorem dX8_neighbour_95 : decode cX8_neighbour 95 = .ok (.istore 5, 2) := by decide +kernel
theorem dX8_neighbour_97 : decode cX8_neighbour 97 = .ok (.iload 5, 2) := by decide +kernel
theorem dX8_neighbour_99 : decode cX8_neighbour 99 = .ok (.ifCond .ge 6, 3) := by decide +kernel
theorem dX8_neighbour_102 : decode cX8_neighbour 102 = .ok (.goto 14, 3) := by decide +kernel
theorem dX8_neighbour_105 : decode cX8_neighbour 105 = .ok (.iload_n 3, 1) := by decide +kernel
theorem dX8_neighbour_106 : decode cX8_neighbour 106 = .ok (.iload_n 2, 1) := by decide +kernel
theorem dX8_neighbour_107 : decode cX8_neighbour 107 = .ok (.if_icmp .ne 6, 3) := by decide +kernel
theorem dX8_neighbour_110 : decode cX8_neighbour 110 = .ok (.iload 5, 2) := by decide +kernel
theorem dX8_neighbour_112 : decode cX8_neighbour 112 = .ok (.ireturn, 1) := by decide +kernel
theorem dX8_neighbour_113 : decode cX8_neighbour 113 = .ok (.iinc 3 1, 3) := by decide +kernel
theorem dX8_neighbour_116 : decode cX8_neighbour 116 = .ok (.iinc 4 1, 3) := by decide +kernel
theorem dX8_neighbour_119 : decode cX8_neighbour 119 = .ok (.goto (-92), 3) := by decide +kernel
theorem dX8_neighbour_122 : decode cX8_neighbour 122 = .ok (.iconst (-1), 1) := by decide +kernel
theorem dX8_neighbour_123 : decode cX8_neighbour 123 = .ok (.ireturn, 1) := by decide +kernel
theorem dX8_wall_0 : decode cX8_wall 0 = .ok (.aload_n 0, 1) := by decide +kernel
theorem dX8_wall_1 : decode cX8_wall 1 = .ok (.aload_n 0, 1) := by decide +kernel
theorem dX8_wall_2 : decode cX8_wall 2 = .ok (.iload_n 1, 1) := by decide +kernel
theorem dX8_wall_3 : decode cX8_wall 3 = .ok (.invokevirtual 70, 3) := by decide +kernel
theorem dX8_wall_6 : decode cX8_wall 6 = .ok (.ifCond .eq 11, 3) := by decide +kernel
theorem dX8_wall_9 : decode cX8_wall 9 = .ok (.aload_n 0, 1) := by decide +kernel
theorem dX8_wall_10 : decode cX8_wall 10 = .ok (.iload_n 2, 1) := by decide +kernel
theorem dX8_wall_11 : decode cX8_wall 11 = .ok (.invokevirtual 70, 3) := by decide +kernel
theorem dX8_wall_14 : decode cX8_wall 14 = .ok (.ifCond .ne 7, 3) := by decide +kernel
theorem dX8_wall_17 : decode cX8_wall 17 = .ok (.iconst 1, 1) := by decide +kernel
theorem dX8_wall_18 : decode cX8_wall 18 = .ok (.goto 4, 3) := by decide +kernel
theorem dX8_wall_21 : decode cX8_wall 21 = .ok (.iconst 0, 1) := by decide +kernel
theorem dX8_wall_22 : decode cX8_wall 22 = .ok (.invokevirtual 74, 3) := by decide +kernel
theorem dX8_wall_25 : decode cX8_wall 25 = .ok (.ifCond .ne 34, 3) := by decide +kernel
theorem dX8_wall_28 : decode cX8_wall 28 = .ok (.aload_n 0, 1) := by decide +kernel
theorem dX8_wall_29 : decode cX8_wall 29 = .ok (.getfield 8, 3) := by decide +kernel
theorem dX8_wall_32 : decode cX8_wall 32 = .ok (.sipush 256, 3) := by decide +kernel
theorem dX8_wall_35 : decode cX8_wall 35 = .ok (.iload_n 1, 1) := by decide +kernel
theorem dX8_wall_36 : decode cX8_wall 36 = .ok (.imul, 1) := by decide +kernel
theorem dX8_wall_37 : decode cX8_wall 37 = .ok (.iload_n 2, 1) := by decide +kernel
theorem dX8_wall_38 : decode cX8_wall 38 = .ok (.iadd, 1) := by decide +kernel
theorem dX8_wall_39 : decode cX8_wall 39 = .ok (.baload, 1) := by decide +kernel
theorem dX8_wall_40 : decode cX8_wall 40 = .ok (.ifCond .eq 19, 3) := by decide +kernel
theorem dX8_wall_43 : decode cX8_wall 43 = .ok (.aload_n 0, 1) := by decide +kernel
theorem dX8_wall_44 : decode cX8_wall 44 = .ok (.getfield 14, 3) := by decide +kernel
theorem dX8_wall_47 : decode cX8_wall 47 = .ok (.sipush 256, 3) := by decide +kernel
theorem dX8_wall_50 : decode cX8_wall 50 = .ok (.iload_n 1, 1) := by decide +kernel
theorem dX8_wall_51 : decode cX8_wall 51 = .ok (.imul, 1) := by decide +kernel
theorem dX8_wall_52 : decode cX8_wall 52 = .ok (.iload_n 2, 1) := by decide +kernel
theorem dX8_wall_53 : decode cX8_wall 53 = .ok (.iadd, 1) := by decide +kernel
theorem dX8_wall_54 : decode cX8_wall 54 = .ok (.baload, 1) := by decide +kernel
theorem dX8_wall_55 : decode cX8_wall 55 = .ok (.iload_n 3, 1) := by decide +kernel
theorem dX8_wall_56 : decode cX8_wall 56 = .ok (.if_icmp .ne 5, 3) := by decide +kernel
theorem dX8_wall_59 : decode cX8_wall 59 = .ok (.iconst 0, 1) := by decide +kernel
theorem dX8_wall_60 : decode cX8_wall 60 = .ok (.ireturn, 1) := by decide +kernel
theorem dX8_wall_61 : decode cX8_wall 61 = .ok (.aload_n 0, 1) := by decide +kernel
theorem dX8_wall_62 : decode cX8_wall 62 = .ok (.getfield 14, 3) := by decide +kernel
theorem dX8_wall_65 : decode cX8_wall 65 = .ok (.sipush 256, 3) := by decide +kernel
theorem dX8_wall_68 : decode cX8_wall 68 = .ok (.iload_n 1, 1) := by decide +kernel
theorem dX8_wall_69 : decode cX8_wall 69 = .ok (.imul, 1) := by decide +kernel
theorem dX8_wall_70 : decode cX8_wall 70 = .ok (.iload_n 2, 1) := by decide +kernel
theorem dX8_wall_71 : decode cX8_wall 71 = .ok (.iadd, 1) := by decide +kernel
theorem dX8_wall_72 : decode cX8_wall 72 = .ok (.iload_n 3, 1) := by decide +kernel
theorem dX8_wall_73 : decode cX8_wall 73 = .ok (.bastore, 1) := by decide +kernel
theorem dX8_wall_74 : decode cX8_wall 74 = .ok (.aload_n 0, 1) := by decide +kernel
theorem dX8_wall_75 : decode cX8_wall 75 = .ok (.getfield 14, 3) := by decide +kernel
theorem dX8_wall_78 : decode cX8_wall 78 = .ok (.sipush 256, 3) := by decide +kernel
theorem dX8_wall_81 : decode cX8_wall 81 = .ok (.iload_n 2, 1) := by decide +kernel
theorem dX8_wall_82 : decode cX8_wall 82 = .ok (.imul, 1) := by decide +kernel
theorem dX8_wall_83 : decode cX8_wall 83 = .ok (.iload_n 1, 1) := by decide +kernel
theorem dX8_wall_84 : decode cX8_wall 84 = .ok (.iadd, 1) := by decide +kernel
theorem dX8_wall_85 : decode cX8_wall 85 = .ok (.iload_n 3, 1) := by decide +kernel
theorem dX8_wall_86 : decode cX8_wall 86 = .ok (.bastore, 1) := by decide +kernel
theorem dX8_wall_87 : decode cX8_wall 87 = .ok (.iconst 1, 1) := by decide +kernel
theorem dX8_wall_88 : decode cX8_wall 88 = .ok (.ireturn, 1) := by decide +kernel
theorem dX8_pairs_0 : decode cX8_pairs 0 = .ok (.aload_n 0, 1) := by decide +kernel
theorem dX8_pairs_1 : decode cX8_pairs 1 = .ok (.iconst 0, 1) := by decide +kernel
theorem dX8_pairs_2 : decode cX8_pairs 2 = .ok (.putfield 58, 3) := by decide +kernel
theorem dX8_pairs_5 : decode cX8_pairs 5 = .ok (.iconst 0, 1) := by decide +kernel
theorem dX8_pairs_6 : decode cX8_pairs 6 = .ok (.istore_n 2, 1) := by decide +kernel
theorem dX8_pairs_7 : decode cX8_pairs 7 = .ok (.iconst 0, 1) := by decide +kernel
theorem dX8_pairs_8 : decode cX8_pairs 8 = .ok (.istore_n 3, 1) := by decide +kernel
theorem dX8_pairs_9 : decode cX8_pairs 9 = .ok (.iload_n 3, 1) := by decide +kernel
theorem dX8_pairs_10 : decode cX8_pairs 10 = .ok (.aload_n 0, 1) := by decide +kernel
theorem dX8_pairs_11 : decode cX8_pairs 11 = .ok (.invokevirtual 50, 3) := by decide +kernel
theorem dX8_pairs_14 : decode cX8_pairs 14 = .ok (.if_icmp .ge 73, 3) := by decide +kernel
theorem dX8_pairs_17 : decode cX8_pairs 17 = .ok (.iload_n 3, 1) := by decide +kernel
theorem dX8_pairs_18 : decode cX8_pairs 18 = .ok (.iconst 1, 1) := by decide +kernel
theorem dX8_pairs_19 : decode cX8_pairs 19 = .ok (.iadd, 1) := by decide +kernel
theorem dX8_pairs_20 : decode cX8_pairs 20 = .ok (.istore 4, 2) := by decide +kernel
theorem dX8_pairs_22 : decode cX8_pairs 22 = .ok (.iload 4, 2) := by decide +kernel
theorem dX8_pairs_24 : decode cX8_pairs 24 = .ok (.aload_n 0, 1) := by decide +kernel
theorem dX8_pairs_25 : decode cX8_pairs 25 = .ok (.invokevirtual 50, 3) := by decide +kernel
theorem dX8_pairs_28 : decode cX8_pairs 28 = .ok (.if_icmp .ge 53, 3) := by decide +kernel
theorem dX8_pairs_31 : decode cX8_pairs 31 = .ok (.iload_n 2, 1) := by decide +kernel
theorem dX8_pairs_32 : decode cX8_pairs 32 = .ok (.aload_n 0, 1) := by decide +kernel
theorem dX8_pairs_33 : decode cX8_pairs 33 = .ok (.getfield 8, 3) := by decide +kernel
theorem dX8_pairs_36 : decode cX8_pairs 36 = .ok (.sipush 256, 3) := by decide +kernel
theorem dX8_pairs_39 : decode cX8_pairs 39 = .ok (.iload_n 3, 1) := by decide +kernel
theorem dX8_pairs_40 : decode cX8_pairs 40 = .ok (.imul, 1) := by decide +kernel
theorem dX8_pairs_41 : decode cX8_pairs 41 = .ok (.iload 4, 2) := by decide +kernel
theorem dX8_pairs_43 : decode cX8_pairs 43 = .ok (.iadd, 1) := by decide +kernel
theorem dX8_pairs_44 : decode cX8_pairs 44 = .ok (.baload, 1) := by decide +kernel
theorem dX8_pairs_45 : decode cX8_pairs 45 = .ok (.ifCond .eq 27, 3) := by decide +kernel
theorem dX8_pairs_48 : decode cX8_pairs 48 = .ok (.iload_n 1, 1) := by decide +kernel
theorem dX8_pairs_49 : decode cX8_pairs 49 = .ok (.ifCond .eq 19, 3) := by decide +kernel
theorem dX8_pairs_52 : decode cX8_pairs 52 = .ok (.aload_n 0, 1) := by decide +kernel
theorem dX8_pairs_53 : decode cX8_pairs 53 = .ok (.getfield 14, 3) := by decide +kernel
theorem dX8_pairs_56 : decode cX8_pairs 56 = .ok (.sipush 256, 3) := by decide +kernel
theorem dX8_pairs_59 : decode cX8_pairs 59 = .ok (.iload_n 3, 1) := by decide +kernel
theorem dX8_pairs_60 : decode cX8_pairs 60 = .ok (.imul, 1) := by decide +kernel
theorem dX8_pairs_61 : decode cX8_pairs 61 = .ok (.iload 4, 2) := by decide +kernel
theorem dX8_pairs_63 : decode cX8_pairs 63 = .ok (.iadd, 1) := by decide +kernel
theorem dX8_pairs_64 : decode cX8_pairs 64 = .ok (.baload, 1) := by decide +kernel
theorem dX8_pairs_65 : decode cX8_pairs 65 = .ok (.ifCond .eq 7, 3) := by decide +kernel
theorem dX8_pairs_68 : decode cX8_pairs 68 = .ok (.iconst 1, 1) := by decide +kernel
theorem dX8_pairs_69 : decode cX8_pairs 69 = .ok (.goto 4, 3) := by decide +kernel
theorem dX8_pairs_72 : decode cX8_pairs 72 = .ok (.iconst 0, 1) := by decide +kernel
theorem dX8_pairs_73 : decode cX8_pairs 73 = .ok (.iadd, 1) := by decide +kernel
theorem dX8_pairs_74 : decode cX8_pairs 74 = .ok (.istore_n 2, 1) := by decide +kernel
theorem dX8_pairs_75 : decode cX8_pairs 75 = .ok (.iinc 4 1, 3) := by decide +kernel
theorem dX8_pairs_78 : decode cX8_pairs 78 = .ok (.goto (-56), 3) := by decide +kernel
theorem dX8_pairs_81 : decode cX8_pairs 81 = .ok (.iinc 3 1, 3) := by decide +kernel
theorem dX8_pairs_84 : decode cX8_pairs 84 = .ok (.goto (-75), 3) := by decide +kernel
theorem dX8_pairs_87 : decode cX8_pairs 87 = .ok (.iload_n 2, 1) := by decide +kernel
theorem dX8_pairs_88 : decode cX8_pairs 88 = .ok (.ireturn, 1) := by decide +kernel
theorem dX8_pair_0 : decode cX8_pair 0 = .ok (.aload_n 0, 1) := by decide +kernel
theorem dX8_pair_1 : decode cX8_pair 1 = .ok (.iconst 0, 1) := by decide +kernel
theorem dX8_pair_2 : decode cX8_pair 2 = .ok (.putfield 58, 3) := by decide +kernel
theorem dX8_pair_5 : decode cX8_pair 5 = .ok (.iconst 0, 1) := by decide +kernel
theorem dX8_pair_6 : decode cX8_pair 6 = .ok (.istore_n 3, 1) := by decide +kernel
theorem dX8_pair_7 : decode cX8_pair 7 = .ok (.iconst 0, 1) := by decide +kernel
theorem dX8_pair_8 : decode cX8_pair 8 = .ok (.istore 4, 2) := by decide +kernel
theorem dX8_pair_10 : decode cX8_pair 10 = .ok (.iload 4, 2) := by decide +kernel
theorem dX8_pair_12 : decode cX8_pair 12 = .ok (.aload_n 0, 1) := by decide +kernel
theorem dX8_pair_13 : decode cX8_pair 13 = .ok (.invokevirtual 50, 3) := by decide +kernel
theorem dX8_pair_16 : decode cX8_pair 16 = .ok (.if_icmp .ge 70, 3) := by decide +kernel
theorem dX8_pair_19 : decode cX8_pair 19 = .ok (.iload 4, 2) := by decide +kernel
theorem dX8_pair_21 : decode cX8_pair 21 = .ok (.iconst 1, 1) := by decide +kernel
theorem dX8_pair_22 : decode cX8_pair 22 = .ok (.iadd, 1) := by decide +kernel
theorem dX8_pair_23 : decode cX8_pair 23 = .ok (.istore 5, 2) := by decide +kernel
theorem dX8_pair_25 : decode cX8_pair 25 = .ok (.iload 5, 2) := by decide +kernel
theorem dX8_pair_27 : decode cX8_pair 27 = .ok (.aload_n 0, 1) := by decide +kernel
theorem dX8_pair_28 : decode cX8_pair 28 = .ok (.invokevirtual 50, 3) := by decide +kernel
theorem dX8_pair_31 : decode cX8_pair 31 = .ok (.if_icmp .ge 49, 3) := by decide +kernel
theorem dX8_pair_34 : decode cX8_pair 34 = .ok (.aload_n 0, 1) := by decide +kernel
theorem dX8_pair_35 : decode cX8_pair 35 = .ok (.getfield 8, 3) := by decide +kernel
theorem dX8_pair_38 : decode cX8_pair 38 = .ok (.sipush 256, 3) := by decide +kernel
theorem dX8_pair_41 : decode cX8_pair 41 = .ok (.iload 4, 2) := by decide +kernel
theorem dX8_pair_43 : decode cX8_pair 43 = .ok (.imul, 1) := by decide +kernel
theorem dX8_pair_44 : decode cX8_pair 44 = .ok (.iload 5, 2) := by decide +kernel
theorem dX8_pair_46 : decode cX8_pair 46 = .ok (.iadd, 1) := by decide +kernel
theorem dX8_pair_47 : decode cX8_pair 47 = .ok (.baload, 1) := by decide +kernel
theorem dX8_pair_48 : decode cX8_pair 48 = .ok (.ifCond .ne 6, 3) := by decide +kernel
theorem dX8_pair_51 : decode cX8_pair 51 = .ok (.goto 23, 3) := by decide +kernel
theorem dX8_pair_54 : decode cX8_pair 54 = .ok (.iload_n 3, 1) := by decide +kernel
theorem dX8_pair_55 : decode cX8_pair 55 = .ok (.iload_n 1, 1) := by decide +kernel
theorem dX8_pair_56 : decode cX8_pair 56 = .ok (.if_icmp .ne 15, 3) := by decide +kernel
theorem dX8_pair_59 : decode cX8_pair 59 = .ok (.iload_n 2, 1) := by decide +kernel
theorem dX8_pair_60 : decode cX8_pair 60 = .ok (.ifCond .eq 8, 3) := by decide +kernel
theorem dX8_pair_63 : decode cX8_pair 63 = .ok (.iload 5, 2) := by decide +kernel
theorem dX8_pair_65 : decode cX8_pair 65 = .ok (.goto 5, 3) := by decide +kernel
theorem dX8_pair_68 : decode cX8_pair 68 = .ok (.iload 4, 2) := by decide +kernel
theorem dX8_pair_70 : decode cX8_pair 70 = .ok (.ireturn, 1) := by decide +kernel
theorem dX8_pair_71 : decode cX8_pair 71 = .ok (.iinc 3 1, 3) := by decide +kernel
theorem dX8_pair_74 : decode cX8_pair 74 = .ok (.iinc 5 1, 3) := by decide +kernel
theorem dX8_pair_77 : decode cX8_pair 77 = .ok (.goto (-52), 3) := by decide +kernel
theorem dX8_pair_80 : decode cX8_pair 80 = .ok (.iinc 4 1, 3) := by decide +kernel
theorem dX8_pair_83 : decode cX8_pair 83 = .ok (.goto (-73), 3) := by decide +kernel
theorem dX8_pair_86 : decode cX8_pair 86 = .ok (.iconst (-1), 1) := by decide +kernel
theorem dX8_pair_87 : decode cX8_pair 87 = .ok (.ireturn, 1) := by decide +kernel
theorem dX8_directions_0 : decode cX8_directions 0 = .ok (.aload_n 0, 1) := by decide +kernel
theorem dX8_directions_1 : decode cX8_directions 1 = .ok (.getfield 40, 3) := by decide +kernel
theorem dX8_directions_4 : decode cX8_directions 4 = .ok (.iconst 1, 1) := by decide +kernel
theorem dX8_directions_5 : decode cX8_directions 5 = .ok (.if_icmp .ne 8, 3) := by decide +kernel
theorem dX8_directions_8 : decode cX8_directions 8 = .ok (.bipush 6, 2) := by decide +kernel
theorem dX8_directions_10 : decode cX8_directions 10 = .ok (.goto 28, 3) := by decide +kernel
theorem dX8_directions_13 : decode cX8_directions 13 = .ok (.aload_n 0, 1) := by decide +kernel
theorem dX8_directions_14 : decode cX8_directions 14 = .ok (.getfield 40, 3) := by decide +kernel
theorem dX8_directions_17 : decode cX8_directions 17 = .ok (.iconst 2, 1) := by decide +kernel
theorem dX8_directions_18 : decode cX8_directions 18 = .ok (.if_icmp .ne 7, 3) := by decide +kernel
theorem dX8_directions_21 : decode cX8_directions 21 = .ok (.iconst 2, 1) := by decide +kernel
theorem dX8_directions_22 : decode cX8_directions 22 = .ok (.goto 16, 3) := by decide +kernel
theorem dX8_directions_25 : decode cX8_directions 25 = .ok (.aload_n 0, 1) := by decide +kernel
theorem dX8_directions_26 : decode cX8_directions 26 = .ok (.getfield 40, 3) := by decide +kernel
theorem dX8_directions_29 : decode cX8_directions 29 = .ok (.iconst 4, 1) := by decide +kernel
theorem dX8_directions_30 : decode cX8_directions 30 = .ok (.if_icmp .ne 7, 3) := by decide +kernel
theorem dX8_directions_33 : decode cX8_directions 33 = .ok (.iconst 0, 1) := by decide +kernel
theorem dX8_directions_34 : decode cX8_directions 34 = .ok (.goto 4, 3) := by decide +kernel
theorem dX8_directions_37 : decode cX8_directions 37 = .ok (.iconst 4, 1) := by decide +kernel
theorem dX8_directions_38 : decode cX8_directions 38 = .ok (.ireturn, 1) := by decide +kernel
theorem dX8_seen_0 : decode cX8_seen 0 = .ok (.aload_n 0, 1) := by decide +kernel
theorem dX8_seen_1 : decode cX8_seen 1 = .ok (.aload_n 0, 1) := by decide +kernel
theorem dX8_seen_2 : decode cX8_seen 2 = .ok (.iload_n 1, 1) := by decide +kernel
theorem dX8_seen_3 : decode cX8_seen 3 = .ok (.invokevirtual 70, 3) := by decide +kernel
theorem dX8_seen_6 : decode cX8_seen 6 = .ok (.ifCond .ne 7, 3) := by decide +kernel
theorem dX8_seen_9 : decode cX8_seen 9 = .ok (.iconst 1, 1) := by decide +kernel
theorem dX8_seen_10 : decode cX8_seen 10 = .ok (.goto 4, 3) := by decide +kernel
theorem dX8_seen_13 : decode cX8_seen 13 = .ok (.iconst 0, 1) := by decide +kernel
theorem dX8_seen_14 : decode cX8_seen 14 = .ok (.invokevirtual 74, 3) := by decide +kernel
theorem dX8_seen_17 : decode cX8_seen 17 = .ok (.ifCond .ne 19, 3) := by decide +kernel
theorem dX8_seen_20 : decode cX8_seen 20 = .ok (.iload_n 2, 1) := by decide +kernel
theorem dX8_seen_21 : decode cX8_seen 21 = .ok (.ifCond .lt 15, 3) := by decide +kernel
theorem dX8_seen_24 : decode cX8_seen 24 = .ok (.iload_n 2, 1) := by decide +kernel
theorem dX8_seen_25 : decode cX8_seen 25 = .ok (.aload_n 0, 1) := by decide +kernel
theorem dX8_seen_26 : decode cX8_seen 26 = .ok (.invokevirtual 82, 3) := by decide +kernel
theorem dX8_seen_29 : decode cX8_seen 29 = .ok (.if_icmp .ge 7, 3) := by decide +kernel
theorem dX8_seen_32 : decode cX8_seen 32 = .ok (.iload_n 3, 1) := by decide +kernel
theorem dX8_seen_33 : decode cX8_seen 33 = .ok (.ifCond .ge 16, 3) := by decide +kernel
theorem dX8_seen_36 : decode cX8_seen 36 = .ok (.aload_n 0, 1) := by decide +kernel
theorem dX8_seen_37 : decode cX8_seen 37 = .ok (.getfield 58, 3) := by decide +kernel
theorem dX8_seen_40 : decode cX8_seen 40 = .ok (.ifCond .le 7, 3) := by decide +kernel
theorem dX8_seen_43 : decode cX8_seen 43 = .ok (.iconst 0, 1) := by decide +kernel
theorem dX8_seen_44 : decode cX8_seen 44 = .ok (.goto 4, 3) := by decide +kernel
theorem dX8_seen_47 : decode cX8_seen 47 = .ok (.iconst (-1), 1) := by decide +kernel
theorem dX8_seen_48 : decode cX8_seen 48 = .ok (.ireturn, 1) := by decide +kernel
theorem dX8_seen_49 : decode cX8_seen 49 = .ok (.iload_n 1, 1) := by decide +kernel
theorem dX8_seen_50 : decode cX8_seen 50 = .ok (.istore 4, 2) := by decide +kernel
theorem dX8_seen_52 : decode cX8_seen 52 = .ok (.iconst 0, 1) := by decide +kernel
theorem dX8_seen_53 : decode cX8_seen 53 = .ok (.istore 5, 2) := by decide +kernel
theorem dX8_seen_55 : decode cX8_seen 55 = .ok (.iload 5, 2) := by decide +kernel
theorem dX8_seen_57 : decode cX8_seen 57 = .ok (.iload_n 3, 1) := by decide +kernel
theorem dX8_seen_58 : decode cX8_seen 58 = .ok (.if_icmp .gt 52, 3) := by decide +kernel
theorem dX8_seen_61 : decode cX8_seen 61 = .ok (.aload_n 0, 1) := by decide +kernel
theorem dX8_seen_62 : decode cX8_seen 62 = .ok (.iload 4, 2) := by decide +kernel
theorem dX8_seen_64 : decode cX8_seen 64 = .ok (.iload_n 2, 1) := by decide +kernel
theorem dX8_seen_65 : decode cX8_seen 65 = .ok (.invokevirtual 54, 3) := by decide +kernel
theorem dX8_seen_68 : decode cX8_seen 68 = .ok (.istore 6, 2) := by decide +kernel
theorem dX8_seen_70 : decode cX8_seen 70 = .ok (.iload 6, 2) := by decide +kernel
theorem dX8_seen_72 : decode cX8_seen 72 = .ok (.ifCond .lt 26, 3) := by decide +kernel
theorem dX8_seen_75 : decode cX8_seen 75 = .ok (.iload 6, 2) := by decide +kernel
theorem dX8_seen_77 : decode cX8_seen 77 = .ok (.iload_n 1, 1) := by decide +kernel
theorem dX8_seen_78 : decode cX8_seen 78 = .ok (.if_icmp .eq 20, 3) := by decide +kernel
theorem dX8_seen_81 : decode cX8_seen 81 = .ok (.aload_n 0, 1) := by decide +kernel
theorem dX8_seen_82 : decode cX8_seen 82 = .ok (.getfield 14, 3) := by decide +kernel
theorem dX8_seen_85 : decode cX8_seen 85 = .ok (.sipush 256, 3) := by decide +kernel
theorem dX8_seen_88 : decode cX8_seen 88 = .ok (.iload 4, 2) := by decide +kernel
theorem dX8_seen_90 : decode cX8_seen 90 = .ok (.imul, 1) := by decide +kernel
theorem dX8_seen_91 : decode cX8_seen 91 = .ok (.iload 6, 2) := by decide +kernel
theorem dX8_seen_93 : decode cX8_seen 93 = .ok (.iadd, 1) := by decide +kernel
theorem dX8_seen_94 : decode cX8_seen 94 = .ok (.baload, 1) := by decide +kernel
theorem dX8_seen_95 : decode cX8_seen 95 = .ok (.ifCond .eq 5, 3) := by decide +kernel
theorem dX8_seen_98 : decode cX8_seen 98 = .ok (.iconst (-1), 1) := by decide +kernel
theorem dX8_seen_99 : decode cX8_seen 99 = .ok (.ireturn, 1) := by decide +kernel
theorem dX8_seen_100 : decode cX8_seen 100 = .ok (.iload 6, 2) := by decide +kernel
theorem dX8_seen_102 : decode cX8_seen 102 = .ok (.istore 4, 2) := by decide +kernel
theorem dX8_seen_104 : decode cX8_seen 104 = .ok (.iinc 5 1, 3) := by decide +kernel
theorem dX8_seen_107 : decode cX8_seen 107 = .ok (.goto (-52), 3) := by decide +kernel
theorem dX8_seen_110 : decode cX8_seen 110 = .ok (.iload 4, 2) := by decide +kernel
theorem dX8_seen_112 : decode cX8_seen 112 = .ok (.ireturn, 1) := by decide +kernel
theorem dX8_spread_0 : decode cX8_spread 0 = .ok (.iconst 0, 1) := by decide +kernel
theorem dX8_spread_1 : decode cX8_spread 1 = .ok (.istore_n 2, 1) := by decide +kernel
theorem dX8_spread_2 : decode cX8_spread 2 = .ok (.iload_n 2, 1) := by decide +kernel
theorem dX8_spread_3 : decode cX8_spread 3 = .ok (.sipush 256, 3) := by decide +kernel
theorem dX8_spread_6 : decode cX8_spread 6 = .ok (.if_icmp .ge 25, 3) := by decide +kernel
theorem dX8_spread_9 : decode cX8_spread 9 = .ok (.aload_n 0, 1) := by decide +kernel
theorem dX8_spread_10 : decode cX8_spread 10 = .ok (.getfield 24, 3) := by decide +kernel
theorem dX8_spread_13 : decode cX8_spread 13 = .ok (.iload_n 2, 1) := by decide +kernel
theorem dX8_spread_14 : decode cX8_spread 14 = .ok (.iload_n 2, 1) := by decide +kernel
theorem dX8_spread_15 : decode cX8_spread 15 = .ok (.iload_n 1, 1) := by decide +kernel
theorem dX8_spread_16 : decode cX8_spread 16 = .ok (.if_icmp .ne 7, 3) := by decide +kernel
theorem dX8_spread_19 : decode cX8_spread 19 = .ok (.iconst 0, 1) := by decide +kernel
theorem dX8_spread_20 : decode cX8_spread 20 = .ok (.goto 4, 3) := by decide +kernel
theorem dX8_spread_23 : decode cX8_spread 23 = .ok (.iconst (-1), 1) := by decide +kernel
theorem dX8_spread_24 : decode cX8_spread 24 = .ok (.iastore, 1) := by decide +kernel
theorem dX8_spread_25 : decode cX8_spread 25 = .ok (.iinc 2 1, 3) := by decide +kernel
theorem dX8_spread_28 : decode cX8_spread 28 = .ok (.goto (-26), 3) := by decide +kernel
theorem dX8_spread_31 : decode cX8_spread 31 = .ok (.iconst 1, 1) := by decide +kernel
theorem dX8_spread_32 : decode cX8_spread 32 = .ok (.istore_n 2, 1) := by decide +kernel
theorem dX8_spread_33 : decode cX8_spread 33 = .ok (.iconst 0, 1) := by decide +kernel
theorem dX8_spread_34 : decode cX8_spread 34 = .ok (.istore_n 3, 1) := by decide +kernel
theorem dX8_spread_35 : decode cX8_spread 35 = .ok (.iload_n 2, 1) := by decide +kernel
theorem dX8_spread_36 : decode cX8_spread 36 = .ok (.ifCond .eq 107, 3) := by decide +kernel
theorem dX8_spread_39 : decode cX8_spread 39 = .ok (.iconst 0, 1) := by decide +kernel
theorem dX8_spread_40 : decode cX8_spread 40 = .ok (.istore_n 2, 1) := by decide +kernel
theorem dX8_spread_41 : decode cX8_spread 41 = .ok (.iconst 0, 1) := by decide +kernel
theorem dX8_spread_42 : decode cX8_spread 42 = .ok (.istore 4, 2) := by decide +kernel
theorem dX8_spread_44 : decode cX8_spread 44 = .ok (.iload 4, 2) := by decide +kernel
theorem dX8_spread_46 : decode cX8_spread 46 = .ok (.aload_n 0, 1) := by decide +kernel
theorem dX8_spread_47 : decode cX8_spread 47 = .ok (.invokevirtual 50, 3) := by decide +kernel
theorem dX8_spread_50 : decode cX8_spread 50 = .ok (.if_icmp .ge 87, 3) := by decide +kernel
theorem dX8_spread_53 : decode cX8_spread 53 = .ok (.aload_n 0, 1) := by decide +kernel
theorem dX8_spread_54 : decode cX8_spread 54 = .ok (.getfield 24, 3) := by decide +kernel
theorem dX8_spread_57 : decode cX8_spread 57 = .ok (.iload 4, 2) := by decide +kernel
theorem dX8_spread_59 : decode cX8_spread 59 = .ok (.iaload, 1) := by decide +kernel
theorem dX8_spread_60 : decode cX8_spread 60 = .ok (.iload_n 3, 1) := by decide +kernel
theorem dX8_spread_61 : decode cX8_spread 61 = .ok (.if_icmp .eq 6, 3) := by decide +kernel
theorem dX8_spread_64 : decode cX8_spread 64 = .ok (.goto 67, 3) := by decide +kernel
theorem dX8_spread_67 : decode cX8_spread 67 = .ok (.iconst 0, 1) := by decide +kernel
theorem dX8_spread_68 : decode cX8_spread 68 = .ok (.istore 5, 2) := by decide +kernel
theorem dX8_spread_70 : decode cX8_spread 70 = .ok (.iload 5, 2) := by decide +kernel
theorem dX8_spread_72 : decode cX8_spread 72 = .ok (.aload_n 0, 1) := by decide +kernel
theorem dX8_spread_73 : decode cX8_spread 73 = .ok (.invokevirtual 50, 3) := by decide +kernel
theorem dX8_spread_76 : decode cX8_spread 76 = .ok (.if_icmp .ge 55, 3) := by decide +kernel
theorem dX8_spread_79 : decode cX8_spread 79 = .ok (.aload_n 0, 1) := by decide +kernel
theorem dX8_spread_80 : decode cX8_spread 80 = .ok (.iload 4, 2) := by decide +kernel
theorem dX8_spread_82 : decode cX8_spread 82 = .ok (.iload 5, 2) := by decide +kernel
theorem dX8_spread_84 : decode cX8_spread 84 = .ok (.invokevirtual 78, 3) := by decide +kernel
theorem dX8_spread_87 : decode cX8_spread 87 = .ok (.ifCond .eq 38, 3) := by decide +kernel
theorem dX8_spread_90 : decode cX8_spread 90 = .ok (.aload_n 0, 1) := by decide +kernel
theorem dX8_spread_91 : decode cX8_spread 91 = .ok (.getfield 27, 3) := by decide +kernel
theorem dX8_spread_94 : decode cX8_spread 94 = .ok (.iload 5, 2) := by decide +kernel
theorem dX8_spread_96 : decode cX8_spread 96 = .ok (.baload, 1) := by decide +kernel
theorem dX8_spread_97 : decode cX8_spread 97 = .ok (.ifCond .ne 28, 3) := by decide +kernel
theorem dX8_spread_100 : decode cX8_spread 100 = .ok (.aload_n 0, 1) := by decide +kernel
theorem dX8_spread_101 : decode cX8_spread 101 = .ok (.getfield 24, 3) := by decide +kernel
theorem dX8_spread_104 : decode cX8_spread 104 = .ok (.iload 5, 2) := by decide +kernel
theorem dX8_spread_106 : decode cX8_spread 106 = .ok (.iaload, 1) := by decide +kernel
theorem dX8_spread_107 : decode cX8_spread 107 = .ok (.ifCond .lt 6, 3) := by decide +kernel
theorem dX8_spread_110 : decode cX8_spread 110 = .ok (.goto 15, 3) := by decide +kernel
theorem dX8_spread_113 : decode cX8_spread 113 = .ok (.aload_n 0, 1) := by decide +kernel
theorem dX8_spread_114 : decode cX8_spread 114 = .ok (.getfield 24, 3) := by decide +kernel
theorem dX8_spread_117 : decode cX8_spread 117 = .ok (.iload 5, 2) := by decide +kernel
theorem dX8_spread_119 : decode cX8_spread 119 = .ok (.iload_n 3, 1) := by decide +kernel
theorem dX8_spread_120 : decode cX8_spread 120 = .ok (.iconst 1, 1) := by decide +kernel
theorem dX8_spread_121 : decode cX8_spread 121 = .ok (.iadd, 1) := by decide +kernel
theorem dX8_spread_122 : decode cX8_spread 122 = .ok (.iastore, 1) := by decide +kernel
theorem dX8_spread_123 : decode cX8_spread 123 = .ok (.iconst 1, 1) := by decide +kernel
theorem dX8_spread_124 : decode cX8_spread 124 = .ok (.istore_n 2, 1) := by decide +kernel
theorem dX8_spread_125 : decode cX8_spread 125 = .ok (.iinc 5 1, 3) := by decide +kernel
theorem dX8_spread_128 : decode cX8_spread 128 = .ok (.goto (-58), 3) := by decide +kernel
theorem dX8_spread_131 : decode cX8_spread 131 = .ok (.iinc 4 1, 3) := by decide +kernel
theorem dX8_spread_134 : decode cX8_spread 134 = .ok (.goto (-90), 3) := by decide +kernel
theorem dX8_spread_137 : decode cX8_spread 137 = .ok (.iinc 3 1, 3) := by decide +kernel
theorem dX8_spread_140 : decode cX8_spread 140 = .ok (.goto (-105), 3) := by decide +kernel
theorem dX8_spread_143 : decode cX8_spread 143 = .ok (.return_, 1) := by decide +kernel
theorem dX8_noneOut_0 : decode cX8_noneOut 0 = .ok (.iconst 0, 1) := by decide +kernel
theorem dX8_noneOut_1 : decode cX8_noneOut 1 = .ok (.istore_n 1, 1) := by decide +kernel
theorem dX8_noneOut_2 : decode cX8_noneOut 2 = .ok (.iload_n 1, 1) := by decide +kernel
theorem dX8_noneOut_3 : decode cX8_noneOut 3 = .ok (.sipush 256, 3) := by decide +kernel
theorem dX8_noneOut_6 : decode cX8_noneOut 6 = .ok (.if_icmp .ge 16, 3) := by decide +kernel
theorem dX8_noneOut_9 : decode cX8_noneOut 9 = .ok (.aload_n 0, 1) := by decide +kernel
theorem dX8_noneOut_10 : decode cX8_noneOut 10 = .ok (.getfield 27, 3) := by decide +kernel
theorem dX8_noneOut_13 : decode cX8_noneOut 13 = .ok (.iload_n 1, 1) := by decide +kernel
theorem dX8_noneOut_14 : decode cX8_noneOut 14 = .ok (.iconst 0, 1) := by decide +kernel
theorem dX8_noneOut_15 : decode cX8_noneOut 15 = .ok (.bastore, 1) := by decide +kernel
theorem dX8_noneOut_16 : decode cX8_noneOut 16 = .ok (.iinc 1 1, 3) := by decide +kernel
theorem dX8_noneOut_19 : decode cX8_noneOut 19 = .ok (.goto (-17), 3) := by decide +kernel
theorem dX8_noneOut_22 : decode cX8_noneOut 22 = .ok (.return_, 1) := by decide +kernel
theorem dX8_far_0 : decode cX8_far 0 = .ok (.aload_n 0, 1) := by decide +kernel
theorem dX8_far_1 : decode cX8_far 1 = .ok (.aload_n 0, 1) := by decide +kernel
theorem dX8_far_2 : decode cX8_far 2 = .ok (.iload_n 1, 1) := by decide +kernel
theorem dX8_far_3 : decode cX8_far 3 = .ok (.invokevirtual 70, 3) := by decide +kernel
theorem dX8_far_6 : decode cX8_far 6 = .ok (.ifCond .eq 11, 3) := by decide +kernel
theorem dX8_far_9 : decode cX8_far 9 = .ok (.aload_n 0, 1) := by decide +kernel
theorem dX8_far_10 : decode cX8_far 10 = .ok (.iload_n 2, 1) := by decide +kernel
theorem dX8_far_11 : decode cX8_far 11 = .ok (.invokevirtual 70, 3) := by decide +kernel
theorem dX8_far_14 : decode cX8_far 14 = .ok (.ifCond .ne 7, 3) := by decide +kernel
theorem dX8_far_17 : decode cX8_far 17 = .ok (.iconst 1, 1) := by decide +kernel
theorem dX8_far_18 : decode cX8_far 18 = .ok (.goto 4, 3) := by decide +kernel
theorem dX8_far_21 : decode cX8_far 21 = .ok (.iconst 0, 1) := by decide +kernel
theorem dX8_far_22 : decode cX8_far 22 = .ok (.invokevirtual 74, 3) := by decide +kernel
theorem dX8_far_25 : decode cX8_far 25 = .ok (.ifCond .eq 5, 3) := by decide +kernel
theorem dX8_far_28 : decode cX8_far 28 = .ok (.iconst 0, 1) := by decide +kernel
theorem dX8_far_29 : decode cX8_far 29 = .ok (.ireturn, 1) := by decide +kernel
theorem dX8_far_30 : decode cX8_far 30 = .ok (.aload_n 0, 1) := by decide +kernel
theorem dX8_far_31 : decode cX8_far 31 = .ok (.invokevirtual 85, 3) := by decide +kernel
theorem dX8_far_34 : decode cX8_far 34 = .ok (.aload_n 0, 1) := by decide +kernel
theorem dX8_far_35 : decode cX8_far 35 = .ok (.iload_n 1, 1) := by decide +kernel
theorem dX8_far_36 : decode cX8_far 36 = .ok (.invokevirtual 88, 3) := by decide +kernel
theorem dX8_far_39 : decode cX8_far 39 = .ok (.aload_n 0, 1) := by decide +kernel
theorem dX8_far_40 : decode cX8_far 40 = .ok (.getfield 24, 3) := by decide +kernel
theorem dX8_far_43 : decode cX8_far 43 = .ok (.iload_n 2, 1) := by decide +kernel
theorem dX8_far_44 : decode cX8_far 44 = .ok (.iaload, 1) := by decide +kernel
theorem dX8_far_45 : decode cX8_far 45 = .ok (.ireturn, 1) := by decide +kernel
theorem dX8_count_0 : decode cX8_count 0 = .ok (.iconst 0, 1) := by decide +kernel
theorem dX8_count_1 : decode cX8_count 1 = .ok (.istore_n 1, 1) := by decide +kernel
theorem dX8_count_2 : decode cX8_count 2 = .ok (.iconst 0, 1) := by decide +kernel
theorem dX8_count_3 : decode cX8_count 3 = .ok (.istore_n 2, 1) := by decide +kernel
theorem dX8_count_4 : decode cX8_count 4 = .ok (.iload_n 2, 1) := by decide +kernel
theorem dX8_count_5 : decode cX8_count 5 = .ok (.aload_n 0, 1) := by decide +kernel
theorem dX8_count_6 : decode cX8_count 6 = .ok (.invokevirtual 50, 3) := by decide +kernel
theorem dX8_count_9 : decode cX8_count 9 = .ok (.if_icmp .ge 74, 3) := by decide +kernel
theorem dX8_count_12 : decode cX8_count 12 = .ok (.aload_n 0, 1) := by decide +kernel
theorem dX8_count_13 : decode cX8_count 13 = .ok (.getfield 27, 3) := by decide +kernel
theorem dX8_count_16 : decode cX8_count 16 = .ok (.iload_n 2, 1) := by decide +kernel
theorem dX8_count_17 : decode cX8_count 17 = .ok (.baload, 1) := by decide +kernel
theorem dX8_count_18 : decode cX8_count 18 = .ok (.ifCond .eq 6, 3) := by decide +kernel
theorem dX8_count_21 : decode cX8_count 21 = .ok (.goto 56, 3) := by decide +kernel
theorem dX8_count_24 : decode cX8_count 24 = .ok (.iinc 1 1, 3) := by decide +kernel
theorem dX8_count_27 : decode cX8_count 27 = .ok (.aload_n 0, 1) := by decide +kernel
theorem dX8_count_28 : decode cX8_count 28 = .ok (.iload_n 2, 1) := by decide +kernel
theorem dX8_count_29 : decode cX8_count 29 = .ok (.invokevirtual 88, 3) := by decide +kernel
theorem dX8_count_32 : decode cX8_count 32 = .ok (.iconst 0, 1) := by decide +kernel
theorem dX8_count_33 : decode cX8_count 33 = .ok (.istore_n 3, 1) := by decide +kernel
theorem dX8_count_34 : decode cX8_count 34 = .ok (.iload_n 3, 1) := by decide +kernel
theorem dX8_count_35 : decode cX8_count 35 = .ok (.aload_n 0, 1) := by decide +kernel
theorem dX8_count_36 : decode cX8_count 36 = .ok (.invokevirtual 50, 3) := by decide +kernel
theorem dX8_count_39 : decode cX8_count 39 = .ok (.if_icmp .ge 38, 3) := by decide +kernel
theorem dX8_count_42 : decode cX8_count 42 = .ok (.aload_n 0, 1) := by decide +kernel
theorem dX8_count_43 : decode cX8_count 43 = .ok (.getfield 27, 3) := by decide +kernel
theorem dX8_count_46 : decode cX8_count 46 = .ok (.iload_n 3, 1) := by decide +kernel
theorem dX8_count_47 : decode cX8_count 47 = .ok (.aload_n 0, 1) := by decide +kernel
theorem dX8_count_48 : decode cX8_count 48 = .ok (.getfield 27, 3) := by decide +kernel
theorem dX8_count_51 : decode cX8_count 51 = .ok (.iload_n 3, 1) := by decide +kernel
theorem dX8_count_52 : decode cX8_count 52 = .ok (.baload, 1) := by decide +kernel
theorem dX8_count_53 : decode cX8_count 53 = .ok (.ifCond .ne 12, 3) := by decide +kernel
theorem dX8_count_56 : decode cX8_count 56 = .ok (.aload_n 0, 1) := by decide +kernel
theorem dX8_count_57 : decode cX8_count 57 = .ok (.getfield 24, 3) := by decide +kernel
theorem dX8_count_60 : decode cX8_count 60 = .ok (.iload_n 3, 1) := by decide +kernel
theorem dX8_count_61 : decode cX8_count 61 = .ok (.iaload, 1) := by decide +kernel
theorem dX8_count_62 : decode cX8_count 62 = .ok (.ifCond .lt 7, 3) := by decide +kernel
theorem dX8_count_65 : decode cX8_count 65 = .ok (.iconst 1, 1) := by decide +kernel
theorem dX8_count_66 : decode cX8_count 66 = .ok (.goto 4, 3) := by decide +kernel
theorem dX8_count_69 : decode cX8_count 69 = .ok (.iconst 0, 1) := by decide +kernel
theorem dX8_count_70 : decode cX8_count 70 = .ok (.bastore, 1) := by decide +kernel
theorem dX8_count_71 : decode cX8_count 71 = .ok (.iinc 3 1, 3) := by decide +kernel
theorem dX8_count_74 : decode cX8_count 74 = .ok (.goto (-40), 3) := by decide +kernel
theorem dX8_count_77 : decode cX8_count 77 = .ok (.iinc 2 1, 3) := by decide +kernel
theorem dX8_count_80 : decode cX8_count 80 = .ok (.goto (-76), 3) := by decide +kernel
theorem dX8_count_83 : decode cX8_count 83 = .ok (.iload_n 1, 1) := by decide +kernel
theorem dX8_count_84 : decode cX8_count 84 = .ok (.ireturn, 1) := by decide +kernel
theorem dX8_parts_0 : decode cX8_parts 0 = .ok (.aload_n 0, 1) := by decide +kernel
theorem dX8_parts_1 : decode cX8_parts 1 = .ok (.iconst 0, 1) := by decide +kernel
theorem dX8_parts_2 : decode cX8_parts 2 = .ok (.putfield 58, 3) := by decide +kernel
theorem dX8_parts_5 : decode cX8_parts 5 = .ok (.iconst 0, 1) := by decide +kernel
theorem dX8_parts_6 : decode cX8_parts 6 = .ok (.istore_n 2, 1) := by decide +kernel
theorem dX8_parts_7 : decode cX8_parts 7 = .ok (.iload_n 2, 1) := by decide +kernel
theorem dX8_parts_8 : decode cX8_parts 8 = .ok (.sipush 256, 3) := by decide +kernel
theorem dX8_parts_11 : decode cX8_parts 11 = .ok (.if_icmp .ge 34, 3) := by decide +kernel
theorem dX8_parts_14 : decode cX8_parts 14 = .ok (.aload_n 0, 1) := by decide +kernel
theorem dX8_parts_15 : decode cX8_parts 15 = .ok (.getfield 27, 3) := by decide +kernel
theorem dX8_parts_18 : decode cX8_parts 18 = .ok (.iload_n 2, 1) := by decide +kernel
theorem dX8_parts_19 : decode cX8_parts 19 = .ok (.iload_n 1, 1) := by decide +kernel
theorem dX8_parts_20 : decode cX8_parts 20 = .ok (.ifCond .lt 17, 3) := by decide +kernel
theorem dX8_parts_23 : decode cX8_parts 23 = .ok (.aload_n 0, 1) := by decide +kernel
theorem dX8_parts_24 : decode cX8_parts 24 = .ok (.getfield 17, 3) := by decide +kernel
theorem dX8_parts_27 : decode cX8_parts 27 = .ok (.iload_n 2, 1) := by decide +kernel
theorem dX8_parts_28 : decode cX8_parts 28 = .ok (.iaload, 1) := by decide +kernel
theorem dX8_parts_29 : decode cX8_parts 29 = .ok (.iload_n 1, 1) := by decide +kernel
theorem dX8_parts_30 : decode cX8_parts 30 = .ok (.if_icmp .eq 7, 3) := by decide +kernel
theorem dX8_parts_33 : decode cX8_parts 33 = .ok (.iconst 1, 1) := by decide +kernel
theorem dX8_parts_34 : decode cX8_parts 34 = .ok (.goto 4, 3) := by decide +kernel
theorem dX8_parts_37 : decode cX8_parts 37 = .ok (.iconst 0, 1) := by decide +kernel
theorem dX8_parts_38 : decode cX8_parts 38 = .ok (.bastore, 1) := by decide +kernel
theorem dX8_parts_39 : decode cX8_parts 39 = .ok (.iinc 2 1, 3) := by decide +kernel
theorem dX8_parts_42 : decode cX8_parts 42 = .ok (.goto (-35), 3) := by decide +kernel
theorem dX8_parts_45 : decode cX8_parts 45 = .ok (.aload_n 0, 1) := by decide +kernel
theorem dX8_parts_46 : decode cX8_parts 46 = .ok (.invokevirtual 92, 3) := by decide +kernel
theorem dX8_parts_49 : decode cX8_parts 49 = .ok (.ireturn, 1) := by decide +kernel
theorem dX8_without_0 : decode cX8_without 0 = .ok (.aload_n 0, 1) := by decide +kernel
theorem dX8_without_1 : decode cX8_without 1 = .ok (.aload_n 0, 1) := by decide +kernel
theorem dX8_without_2 : decode cX8_without 2 = .ok (.iload_n 1, 1) := by decide +kernel
theorem dX8_without_3 : decode cX8_without 3 = .ok (.invokevirtual 70, 3) := by decide +kernel
theorem dX8_without_6 : decode cX8_without 6 = .ok (.ifCond .ne 7, 3) := by decide +kernel
theorem dX8_without_9 : decode cX8_without 9 = .ok (.iconst 1, 1) := by decide +kernel
theorem dX8_without_10 : decode cX8_without 10 = .ok (.goto 4, 3) := by decide +kernel
theorem dX8_without_13 : decode cX8_without 13 = .ok (.iconst 0, 1) := by decide +kernel
theorem dX8_without_14 : decode cX8_without 14 = .ok (.invokevirtual 74, 3) := by decide +kernel
theorem dX8_without_17 : decode cX8_without 17 = .ok (.ifCond .eq 5, 3) := by decide +kernel
theorem dX8_without_20 : decode cX8_without 20 = .ok (.iconst 0, 1) := by decide +kernel
theorem dX8_without_21 : decode cX8_without 21 = .ok (.ireturn, 1) := by decide +kernel
theorem dX8_without_22 : decode cX8_without 22 = .ok (.aload_n 0, 1) := by decide +kernel
theorem dX8_without_23 : decode cX8_without 23 = .ok (.invokevirtual 85, 3) := by decide +kernel
theorem dX8_without_26 : decode cX8_without 26 = .ok (.aload_n 0, 1) := by decide +kernel
theorem dX8_without_27 : decode cX8_without 27 = .ok (.getfield 27, 3) := by decide +kernel
theorem dX8_without_30 : decode cX8_without 30 = .ok (.iload_n 1, 1) := by decide +kernel
theorem dX8_without_31 : decode cX8_without 31 = .ok (.iconst 1, 1) := by decide +kernel
theorem dX8_without_32 : decode cX8_without 32 = .ok (.bastore, 1) := by decide +kernel
theorem dX8_without_33 : decode cX8_without 33 = .ok (.aload_n 0, 1) := by decide +kernel
theorem dX8_without_34 : decode cX8_without 34 = .ok (.invokevirtual 92, 3) := by decide +kernel
theorem dX8_without_37 : decode cX8_without 37 = .ok (.ireturn, 1) := by decide +kernel
theorem dX8_area_0 : decode cX8_area 0 = .ok (.aload_n 0, 1) := by decide +kernel
theorem dX8_area_1 : decode cX8_area 1 = .ok (.aload_n 0, 1) := by decide +kernel
theorem dX8_area_2 : decode cX8_area 2 = .ok (.iload_n 1, 1) := by decide +kernel
theorem dX8_area_3 : decode cX8_area 3 = .ok (.invokevirtual 70, 3) := by decide +kernel
theorem dX8_area_6 : decode cX8_area 6 = .ok (.ifCond .ne 7, 3) := by decide +kernel
theorem dX8_area_9 : decode cX8_area 9 = .ok (.iconst 1, 1) := by decide +kernel
theorem dX8_area_10 : decode cX8_area 10 = .ok (.goto 4, 3) := by decide +kernel
theorem dX8_area_13 : decode cX8_area 13 = .ok (.iconst 0, 1) := by decide +kernel
theorem dX8_area_14 : decode cX8_area 14 = .ok (.invokevirtual 74, 3) := by decide +kernel
theorem dX8_area_17 : decode cX8_area 17 = .ok (.ifCond .ne 11, 3) := by decide +kernel
theorem dX8_area_20 : decode cX8_area 20 = .ok (.aload_n 0, 1) := by decide +kernel
theorem dX8_area_21 : decode cX8_area 21 = .ok (.iload_n 2, 1) := by decide +kernel
theorem dX8_area_22 : decode cX8_area 22 = .ok (.invokevirtual 70, 3) := by decide +kernel
theorem dX8_area_25 : decode cX8_area 25 = .ok (.ifCond .ne 5, 3) := by decide +kernel
theorem dX8_area_28 : decode cX8_area 28 = .ok (.iconst 0, 1) := by decide +kernel
theorem dX8_area_29 : decode cX8_area 29 = .ok (.ireturn, 1) := by decide +kernel
theorem dX8_area_30 : decode cX8_area 30 = .ok (.aload_n 0, 1) := by decide +kernel
theorem dX8_area_31 : decode cX8_area 31 = .ok (.getfield 17, 3) := by decide +kernel
theorem dX8_area_34 : decode cX8_area 34 = .ok (.iload_n 1, 1) := by decide +kernel
theorem dX8_area_35 : decode cX8_area 35 = .ok (.iload_n 2, 1) := by decide +kernel
theorem dX8_area_36 : decode cX8_area 36 = .ok (.iastore, 1) := by decide +kernel
theorem dX8_area_37 : decode cX8_area 37 = .ok (.iconst 1, 1) := by decide +kernel
theorem dX8_area_38 : decode cX8_area 38 = .ok (.ireturn, 1) := by decide +kernel
theorem dX8_size_0 : decode cX8_size 0 = .ok (.aload_n 0, 1) := by decide +kernel
theorem dX8_size_1 : decode cX8_size 1 = .ok (.iconst 0, 1) := by decide +kernel
theorem dX8_size_2 : decode cX8_size 2 = .ok (.putfield 58, 3) := by decide +kernel
theorem dX8_size_5 : decode cX8_size 5 = .ok (.iconst 0, 1) := by decide +kernel
theorem dX8_size_6 : decode cX8_size 6 = .ok (.istore_n 2, 1) := by decide +kernel
theorem dX8_size_7 : decode cX8_size 7 = .ok (.iconst 0, 1) := by decide +kernel
theorem dX8_size_8 : decode cX8_size 8 = .ok (.istore_n 3, 1) := by decide +kernel
theorem dX8_size_9 : decode cX8_size 9 = .ok (.iload_n 3, 1) := by decide +kernel
theorem dX8_size_10 : decode cX8_size 10 = .ok (.aload_n 0, 1) := by decide +kernel
theorem dX8_size_11 : decode cX8_size 11 = .ok (.invokevirtual 50, 3) := by decide +kernel
theorem dX8_size_14 : decode cX8_size 14 = .ok (.if_icmp .ge 27, 3) := by decide +kernel
theorem dX8_size_17 : decode cX8_size 17 = .ok (.iload_n 2, 1) := by decide +kernel
theorem dX8_size_18 : decode cX8_size 18 = .ok (.aload_n 0, 1) := by decide +kernel
theorem dX8_size_19 : decode cX8_size 19 = .ok (.getfield 17, 3) := by decide +kernel
theorem dX8_size_22 : decode cX8_size 22 = .ok (.iload_n 3, 1) := by decide +kernel
theorem dX8_size_23 : decode cX8_size 23 = .ok (.iaload, 1) := by decide +kernel
theorem dX8_size_24 : decode cX8_size 24 = .ok (.iload_n 1, 1) := by decide +kernel
theorem dX8_size_25 : decode cX8_size 25 = .ok (.if_icmp .ne 7, 3) := by decide +kernel
theorem dX8_size_28 : decode cX8_size 28 = .ok (.iconst 1, 1) := by decide +kernel
theorem dX8_size_29 : decode cX8_size 29 = .ok (.goto 4, 3) := by decide +kernel
theorem dX8_size_32 : decode cX8_size 32 = .ok (.iconst 0, 1) := by decide +kernel
theorem dX8_size_33 : decode cX8_size 33 = .ok (.iadd, 1) := by decide +kernel
theorem dX8_size_34 : decode cX8_size 34 = .ok (.istore_n 2, 1) := by decide +kernel
theorem dX8_size_35 : decode cX8_size 35 = .ok (.iinc 3 1, 3) := by decide +kernel
theorem dX8_size_38 : decode cX8_size 38 = .ok (.goto (-29), 3) := by decide +kernel
theorem dX8_size_41 : decode cX8_size 41 = .ok (.iload_n 2, 1) := by decide +kernel
theorem dX8_size_42 : decode cX8_size 42 = .ok (.ireturn, 1) := by decide +kernel
theorem dX8_mark_0 : decode cX8_mark 0 = .ok (.aload_n 0, 1) := by decide +kernel
theorem dX8_mark_1 : decode cX8_mark 1 = .ok (.aload_n 0, 1) := by decide +kernel
theorem dX8_mark_2 : decode cX8_mark 2 = .ok (.iload_n 1, 1) := by decide +kernel
theorem dX8_mark_3 : decode cX8_mark 3 = .ok (.invokevirtual 70, 3) := by decide +kernel
theorem dX8_mark_6 : decode cX8_mark 6 = .ok (.ifCond .ne 7, 3) := by decide +kernel
theorem dX8_mark_9 : decode cX8_mark 9 = .ok (.iconst 1, 1) := by decide +kernel
theorem dX8_mark_10 : decode cX8_mark 10 = .ok (.goto 4, 3) := by decide +kernel
theorem dX8_mark_13 : decode cX8_mark 13 = .ok (.iconst 0, 1) := by decide +kernel
theorem dX8_mark_14 : decode cX8_mark 14 = .ok (.invokevirtual 74, 3) := by decide +kernel
theorem dX8_mark_17 : decode cX8_mark 17 = .ok (.ifCond .ne 13, 3) := by decide +kernel
theorem dX8_mark_20 : decode cX8_mark 20 = .ok (.iload_n 2, 1) := by decide +kernel
theorem dX8_mark_21 : decode cX8_mark 21 = .ok (.ifCond .lt 9, 3) := by decide +kernel
theorem dX8_mark_24 : decode cX8_mark 24 = .ok (.iload_n 2, 1) := by decide +kernel
theorem dX8_mark_25 : decode cX8_mark 25 = .ok (.bipush 99, 2) := by decide +kernel
theorem dX8_mark_27 : decode cX8_mark 27 = .ok (.if_icmp .le 5, 3) := by decide +kernel
theorem dX8_mark_30 : decode cX8_mark 30 = .ok (.iconst 0, 1) := by decide +kernel
theorem dX8_mark_31 : decode cX8_mark 31 = .ok (.ireturn, 1) := by decide +kernel
theorem dX8_mark_32 : decode cX8_mark 32 = .ok (.aload_n 0, 1) := by decide +kernel
theorem dX8_mark_33 : decode cX8_mark 33 = .ok (.getfield 21, 3) := by decide +kernel
theorem dX8_mark_36 : decode cX8_mark 36 = .ok (.iload_n 1, 1) := by decide +kernel
theorem dX8_mark_37 : decode cX8_mark 37 = .ok (.iload_n 2, 1) := by decide +kernel
theorem dX8_mark_38 : decode cX8_mark 38 = .ok (.iastore, 1) := by decide +kernel
theorem dX8_mark_39 : decode cX8_mark 39 = .ok (.iconst 1, 1) := by decide +kernel
theorem dX8_mark_40 : decode cX8_mark 40 = .ok (.ireturn, 1) := by decide +kernel
theorem dX8_isTurn_0 : decode cX8_isTurn 0 = .ok (.aload_n 0, 1) := by decide +kernel
theorem dX8_isTurn_1 : decode cX8_isTurn 1 = .ok (.getfield 40, 3) := by decide +kernel
theorem dX8_isTurn_4 : decode cX8_isTurn 4 = .ok (.iconst 4, 1) := by decide +kernel
theorem dX8_isTurn_5 : decode cX8_isTurn 5 = .ok (.if_icmp .ne 7, 3) := by decide +kernel
theorem dX8_isTurn_8 : decode cX8_isTurn 8 = .ok (.iconst 1, 1) := by decide +kernel
theorem dX8_isTurn_9 : decode cX8_isTurn 9 = .ok (.goto 37, 3) := by decide +kernel
theorem dX8_isTurn_12 : decode cX8_isTurn 12 = .ok (.aload_n 0, 1) := by decide +kernel
theorem dX8_isTurn_13 : decode cX8_isTurn 13 = .ok (.getfield 40, 3) := by decide +kernel
theorem dX8_isTurn_16 : decode cX8_isTurn 16 = .ok (.iconst 3, 1) := by decide +kernel
theorem dX8_isTurn_17 : decode cX8_isTurn 17 = .ok (.if_icmp .ne 12, 3) := by decide +kernel
theorem dX8_isTurn_20 : decode cX8_isTurn 20 = .ok (.iconst 2, 1) := by decide +kernel
theorem dX8_isTurn_21 : decode cX8_isTurn 21 = .ok (.aload_n 0, 1) := by decide +kernel
theorem dX8_isTurn_22 : decode cX8_isTurn 22 = .ok (.getfield 44, 3) := by decide +kernel
theorem dX8_isTurn_25 : decode cX8_isTurn 25 = .ok (.imul, 1) := by decide +kernel
theorem dX8_isTurn_26 : decode cX8_isTurn 26 = .ok (.goto 20, 3) := by decide +kernel
theorem dX8_isTurn_29 : decode cX8_isTurn 29 = .ok (.aload_n 0, 1) := by decide +kernel
theorem dX8_isTurn_30 : decode cX8_isTurn 30 = .ok (.getfield 44, 3) := by decide +kernel
theorem dX8_isTurn_33 : decode cX8_isTurn 33 = .ok (.aload_n 0, 1) := by decide +kernel
theorem dX8_isTurn_34 : decode cX8_isTurn 34 = .ok (.getfield 47, 3) := by decide +kernel
theorem dX8_isTurn_37 : decode cX8_isTurn 37 = .ok (.if_icmp .ne 8, 3) := by decide +kernel
theorem dX8_isTurn_40 : decode cX8_isTurn 40 = .ok (.bipush 8, 2) := by decide +kernel
theorem dX8_isTurn_42 : decode cX8_isTurn 42 = .ok (.goto 4, 3) := by decide +kernel
theorem dX8_isTurn_45 : decode cX8_isTurn 45 = .ok (.iconst 4, 1) := by decide +kernel
theorem dX8_isTurn_46 : decode cX8_isTurn 46 = .ok (.istore_n 2, 1) := by decide +kernel
theorem dX8_isTurn_47 : decode cX8_isTurn 47 = .ok (.iload_n 1, 1) := by decide +kernel
theorem dX8_isTurn_48 : decode cX8_isTurn 48 = .ok (.ifCond .lt 12, 3) := by decide +kernel
theorem dX8_isTurn_51 : decode cX8_isTurn 51 = .ok (.iload_n 1, 1) := by decide +kernel
theorem dX8_isTurn_52 : decode cX8_isTurn 52 = .ok (.iload_n 2, 1) := by decide +kernel
theorem dX8_isTurn_53 : decode cX8_isTurn 53 = .ok (.if_icmp .ge 7, 3) := by decide +kernel
theorem dX8_isTurn_56 : decode cX8_isTurn 56 = .ok (.iconst 1, 1) := by decide +kernel
theorem dX8_isTurn_57 : decode cX8_isTurn 57 = .ok (.goto 4, 3) := by decide +kernel
theorem dX8_isTurn_60 : decode cX8_isTurn 60 = .ok (.iconst 0, 1) := by decide +kernel
theorem dX8_isTurn_61 : decode cX8_isTurn 61 = .ok (.ireturn, 1) := by decide +kernel
theorem dX8_turned_0 : decode cX8_turned 0 = .ok (.iload_n 2, 1) := by decide +kernel
theorem dX8_turned_1 : decode cX8_turned 1 = .ok (.aload_n 0, 1) := by decide +kernel
theorem dX8_turned_2 : decode cX8_turned 2 = .ok (.getfield 44, 3) := by decide +kernel
theorem dX8_turned_5 : decode cX8_turned 5 = .ok (.irem, 1) := by decide +kernel
theorem dX8_turned_6 : decode cX8_turned 6 = .ok (.istore_n 3, 1) := by decide +kernel
theorem dX8_turned_7 : decode cX8_turned 7 = .ok (.iload_n 2, 1) := by decide +kernel
theorem dX8_turned_8 : decode cX8_turned 8 = .ok (.aload_n 0, 1) := by decide +kernel
theorem dX8_turned_9 : decode cX8_turned 9 = .ok (.getfield 44, 3) := by decide +kernel
theorem dX8_turned_12 : decode cX8_turned 12 = .ok (.idiv, 1) := by decide +kernel
theorem dX8_turned_13 : decode cX8_turned 13 = .ok (.istore 4, 2) := by decide +kernel
theorem dX8_turned_15 : decode cX8_turned 15 = .ok (.aload_n 0, 1) := by decide +kernel
theorem dX8_turned_16 : decode cX8_turned 16 = .ok (.getfield 40, 3) := by decide +kernel
theorem dX8_turned_19 : decode cX8_turned 19 = .ok (.iconst 3, 1) := by decide +kernel
theorem dX8_turned_20 : decode cX8_turned 20 = .ok (.if_icmp .ne 44, 3) := by decide +kernel
theorem dX8_turned_23 : decode cX8_turned 23 = .ok (.aload_n 0, 1) := by decide +kernel
theorem dX8_turned_24 : decode cX8_turned 24 = .ok (.iload_n 1, 1) := by decide +kernel
theorem dX8_turned_25 : decode cX8_turned 25 = .ok (.iconst 2, 1) := by decide +kernel
theorem dX8_turned_26 : decode cX8_turned 26 = .ok (.irem, 1) := by decide +kernel
theorem dX8_turned_27 : decode cX8_turned 27 = .ok (.ifCond .ne 16, 3) := by decide +kernel
theorem dX8_turned_30 : decode cX8_turned 30 = .ok (.iload_n 3, 1) := by decide +kernel
theorem dX8_turned_31 : decode cX8_turned 31 = .ok (.iload_n 1, 1) := by decide +kernel
theorem dX8_turned_32 : decode cX8_turned 32 = .ok (.iconst 2, 1) := by decide +kernel
theorem dX8_turned_33 : decode cX8_turned 33 = .ok (.idiv, 1) := by decide +kernel
theorem dX8_turned_34 : decode cX8_turned 34 = .ok (.iadd, 1) := by decide +kernel
theorem dX8_turned_35 : decode cX8_turned 35 = .ok (.aload_n 0, 1) := by decide +kernel
theorem dX8_turned_36 : decode cX8_turned 36 = .ok (.getfield 44, 3) := by decide +kernel
theorem dX8_turned_39 : decode cX8_turned 39 = .ok (.irem, 1) := by decide +kernel
theorem dX8_turned_40 : decode cX8_turned 40 = .ok (.goto 18, 3) := by decide +kernel
theorem dX8_turned_43 : decode cX8_turned 43 = .ok (.iload_n 1, 1) := by decide +kernel
theorem dX8_turned_44 : decode cX8_turned 44 = .ok (.iconst 2, 1) := by decide +kernel
theorem dX8_turned_45 : decode cX8_turned 45 = .ok (.idiv, 1) := by decide +kernel
theorem dX8_turned_46 : decode cX8_turned 46 = .ok (.iload_n 3, 1) := by decide +kernel
theorem dX8_turned_47 : decode cX8_turned 47 = .ok (.isub, 1) := by decide +kernel
theorem dX8_turned_48 : decode cX8_turned 48 = .ok (.aload_n 0, 1) := by decide +kernel
theorem dX8_turned_49 : decode cX8_turned 49 = .ok (.getfield 44, 3) := by decide +kernel
theorem dX8_turned_52 : decode cX8_turned 52 = .ok (.iadd, 1) := by decide +kernel
theorem dX8_turned_53 : decode cX8_turned 53 = .ok (.aload_n 0, 1) := by decide +kernel
theorem dX8_turned_54 : decode cX8_turned 54 = .ok (.getfield 44, 3) := by decide +kernel
theorem dX8_turned_57 : decode cX8_turned 57 = .ok (.irem, 1) := by decide +kernel
theorem dX8_turned_58 : decode cX8_turned 58 = .ok (.iload 4, 2) := by decide +kernel
theorem dX8_turned_60 : decode cX8_turned 60 = .ok (.invokevirtual 61, 3) := by decide +kernel
theorem dX8_turned_63 : decode cX8_turned 63 = .ok (.ireturn, 1) := by decide +kernel
theorem dX8_turned_64 : decode cX8_turned 64 = .ok (.iload_n 1, 1) := by decide +kernel
theorem dX8_turned_65 : decode cX8_turned 65 = .ok (.iconst 4, 1) := by decide +kernel
theorem dX8_turned_66 : decode cX8_turned 66 = .ok (.if_icmp .ge 7, 3) := by decide +kernel
theorem dX8_turned_69 : decode cX8_turned 69 = .ok (.iload_n 3, 1) := by decide +kernel
theorem dX8_turned_70 : decode cX8_turned 70 = .ok (.goto 5, 3) := by decide +kernel
theorem dX8_turned_73 : decode cX8_turned 73 = .ok (.iload 4, 2) := by decide +kernel
theorem dX8_turned_75 : decode cX8_turned 75 = .ok (.istore 5, 2) := by decide +kernel
theorem dX8_turned_77 : decode cX8_turned 77 = .ok (.iload_n 1, 1) := by decide +kernel
theorem dX8_turned_78 : decode cX8_turned 78 = .ok (.iconst 4, 1) := by decide +kernel
theorem dX8_turned_79 : decode cX8_turned 79 = .ok (.if_icmp .ge 8, 3) := by decide +kernel
theorem dX8_turned_82 : decode cX8_turned 82 = .ok (.iload 4, 2) := by decide +kernel
theorem dX8_turned_84 : decode cX8_turned 84 = .ok (.goto 4, 3) := by decide +kernel
theorem dX8_turned_87 : decode cX8_turned 87 = .ok (.iload_n 3, 1) := by decide +kernel
theorem dX8_turned_88 : decode cX8_turned 88 = .ok (.istore 6, 2) := by decide +kernel
theorem dX8_turned_90 : decode cX8_turned 90 = .ok (.iload_n 1, 1) := by decide +kernel
theorem dX8_turned_91 : decode cX8_turned 91 = .ok (.iconst 2, 1) := by decide +kernel
theorem dX8_turned_92 : decode cX8_turned 92 = .ok (.irem, 1) := by decide +kernel
theorem dX8_turned_93 : decode cX8_turned 93 = .ok (.iconst 1, 1) := by decide +kernel
theorem dX8_turned_94 : decode cX8_turned 94 = .ok (.if_icmp .ne 7, 3) := by decide +kernel
theorem dX8_turned_97 : decode cX8_turned 97 = .ok (.iconst 1, 1) := by decide +kernel
theorem dX8_turned_98 : decode cX8_turned 98 = .ok (.goto 4, 3) := by decide +kernel
theorem dX8_turned_101 : decode cX8_turned 101 = .ok (.iconst 0, 1) := by decide +kernel
theorem dX8_turned_102 : decode cX8_turned 102 = .ok (.istore 7, 2) := by decide +kernel
theorem dX8_turned_104 : decode cX8_turned 104 = .ok (.iload_n 1, 1) := by decide +kernel
theorem dX8_turned_105 : decode cX8_turned 105 = .ok (.iconst 4, 1) := by decide +kernel
theorem dX8_turned_106 : decode cX8_turned 106 = .ok (.irem, 1) := by decide +kernel
theorem dX8_turned_107 : decode cX8_turned 107 = .ok (.iconst 1, 1) := by decide +kernel
theorem dX8_turned_108 : decode cX8_turned 108 = .ok (.if_icmp .le 7, 3) := by decide +kernel
theorem dX8_turned_111 : decode cX8_turned 111 = .ok (.iconst 1, 1) := by decide +kernel
theorem dX8_turned_112 : decode cX8_turned 112 = .ok (.goto 4, 3) := by decide +kernel
theorem dX8_turned_115 : decode cX8_turned 115 = .ok (.iconst 0, 1) := by decide +kernel
theorem dX8_turned_116 : decode cX8_turned 116 = .ok (.istore 8, 2) := by decide +kernel
theorem dX8_turned_118 : decode cX8_turned 118 = .ok (.aload_n 0, 1) := by decide +kernel
theorem dX8_turned_119 : decode cX8_turned 119 = .ok (.iload 7, 2) := by decide +kernel
theorem dX8_turned_121 : decode cX8_turned 121 = .ok (.ifCond .eq 15, 3) := by decide +kernel
theorem dX8_turned_124 : decode cX8_turned 124 = .ok (.aload_n 0, 1) := by decide +kernel
theorem dX8_turned_125 : decode cX8_turned 125 = .ok (.getfield 44, 3) := by decide +kernel
theorem dX8_turned_128 : decode cX8_turned 128 = .ok (.iconst 1, 1) := by decide +kernel
theorem dX8_turned_129 : decode cX8_turned 129 = .ok (.isub, 1) := by decide +kernel
theorem dX8_turned_130 : decode cX8_turned 130 = .ok (.iload 5, 2) := by decide +kernel
theorem dX8_turned_132 : decode cX8_turned 132 = .ok (.isub, 1) := by decide +kernel
theorem dX8_turned_133 : decode cX8_turned 133 = .ok (.goto 5, 3) := by decide +kernel
theorem dX8_turned_136 : decode cX8_turned 136 = .ok (.iload 5, 2) := by decide +kernel
theorem dX8_turned_138 : decode cX8_turned 138 = .ok (.iload 8, 2) := by decide +kernel
theorem dX8_turned_140 : decode cX8_turned 140 = .ok (.ifCond .eq 15, 3) := by decide +kernel
