theorem dX8_depth_26 : decode cX8_depth 26 = .ok (.bipush 50, 2) := by decide +kernel
theorem dX8_depth_28 : decode cX8_depth 28 = .ok (.iload_n 1, 1) := by decide +kernel
theorem dX8_depth_29 : decode cX8_depth 29 = .ok (.imul, 1) := by decide +kernel
theorem dX8_depth_30 : decode cX8_depth 30 = .ok (.iconst 4, 1) := by decide +kernel
theorem dX8_depth_31 : decode cX8_depth 31 = .ok (.iadd, 1) := by decide +kernel
theorem dX8_depth_32 : decode cX8_depth 32 = .ok (.iaload, 1) := by decide +kernel
theorem dX8_depth_33 : decode cX8_depth 33 = .ok (.invokevirtual 89, 3) := by decide +kernel
theorem dX8_depth_36 : decode cX8_depth 36 = .ok (.iadd, 1) := by decide +kernel
theorem dX8_depth_37 : decode cX8_depth 37 = .ok (.ireturn, 1) := by decide +kernel
theorem dX8_whole_0 : decode cX8_whole 0 = .ok (.bipush 50, 2) := by decide +kernel
theorem dX8_whole_2 : decode cX8_whole 2 = .ok (.iload_n 1, 1) := by decide +kernel
theorem dX8_whole_3 : decode cX8_whole 3 = .ok (.imul, 1) := by decide +kernel
theorem dX8_whole_4 : decode cX8_whole 4 = .ok (.istore_n 2, 1) := by decide +kernel
theorem dX8_whole_5 : decode cX8_whole 5 = .ok (.aload_n 0, 1) := by decide +kernel
theorem dX8_whole_6 : decode cX8_whole 6 = .ok (.getfield 9, 3) := by decide +kernel
theorem dX8_whole_9 : decode cX8_whole 9 = .ok (.iload_n 2, 1) := by decide +kernel
theorem dX8_whole_10 : decode cX8_whole 10 = .ok (.iconst 4, 1) := by decide +kernel
theorem dX8_whole_11 : decode cX8_whole 11 = .ok (.iadd, 1) := by decide +kernel
theorem dX8_whole_12 : decode cX8_whole 12 = .ok (.bipush (-9), 2) := by decide +kernel
theorem dX8_whole_14 : decode cX8_whole 14 = .ok (.iastore, 1) := by decide +kernel
theorem dX8_whole_15 : decode cX8_whole 15 = .ok (.aload_n 0, 1) := by decide +kernel
theorem dX8_whole_16 : decode cX8_whole 16 = .ok (.getfield 9, 3) := by decide +kernel
theorem dX8_whole_19 : decode cX8_whole 19 = .ok (.iload_n 2, 1) := by decide +kernel
theorem dX8_whole_20 : decode cX8_whole 20 = .ok (.iconst 5, 1) := by decide +kernel
theorem dX8_whole_21 : decode cX8_whole 21 = .ok (.iadd, 1) := by decide +kernel
theorem dX8_whole_22 : decode cX8_whole 22 = .ok (.aload_n 0, 1) := by decide +kernel
theorem dX8_whole_23 : decode cX8_whole 23 = .ok (.getfield 34, 3) := by decide +kernel
theorem dX8_whole_26 : decode cX8_whole 26 = .ok (.iload_n 1, 1) := by decide +kernel
theorem dX8_whole_27 : decode cX8_whole 27 = .ok (.iaload, 1) := by decide +kernel
theorem dX8_whole_28 : decode cX8_whole 28 = .ok (.iastore, 1) := by decide +kernel
theorem dX8_whole_29 : decode cX8_whole 29 = .ok (.aload_n 0, 1) := by decide +kernel
theorem dX8_whole_30 : decode cX8_whole 30 = .ok (.getfield 9, 3) := by decide +kernel
theorem dX8_whole_33 : decode cX8_whole 33 = .ok (.iload_n 2, 1) := by decide +kernel
theorem dX8_whole_34 : decode cX8_whole 34 = .ok (.bipush 18, 2) := by decide +kernel
theorem dX8_whole_36 : decode cX8_whole 36 = .ok (.iadd, 1) := by decide +kernel
theorem dX8_whole_37 : decode cX8_whole 37 = .ok (.iconst 0, 1) := by decide +kernel
theorem dX8_whole_38 : decode cX8_whole 38 = .ok (.iastore, 1) := by decide +kernel
theorem dX8_whole_39 : decode cX8_whole 39 = .ok (.iconst 0, 1) := by decide +kernel
theorem dX8_whole_40 : decode cX8_whole 40 = .ok (.istore_n 3, 1) := by decide +kernel
theorem dX8_whole_41 : decode cX8_whole 41 = .ok (.iload_n 3, 1) := by decide +kernel
theorem dX8_whole_42 : decode cX8_whole 42 = .ok (.aload_n 0, 1) := by decide +kernel
theorem dX8_whole_43 : decode cX8_whole 43 = .ok (.getfield 34, 3) := by decide +kernel
theorem dX8_whole_46 : decode cX8_whole 46 = .ok (.iload_n 1, 1) := by decide +kernel
theorem dX8_whole_47 : decode cX8_whole 47 = .ok (.iaload, 1) := by decide +kernel
theorem dX8_whole_48 : decode cX8_whole 48 = .ok (.if_icmp .ge 31, 3) := by decide +kernel
theorem dX8_whole_51 : decode cX8_whole 51 = .ok (.aload_n 0, 1) := by decide +kernel
theorem dX8_whole_52 : decode cX8_whole 52 = .ok (.getfield 9, 3) := by decide +kernel
theorem dX8_whole_55 : decode cX8_whole 55 = .ok (.iload_n 2, 1) := by decide +kernel
theorem dX8_whole_56 : decode cX8_whole 56 = .ok (.bipush 6, 2) := by decide +kernel
theorem dX8_whole_58 : decode cX8_whole 58 = .ok (.iadd, 1) := by decide +kernel
theorem dX8_whole_59 : decode cX8_whole 59 = .ok (.iload_n 3, 1) := by decide +kernel
theorem dX8_whole_60 : decode cX8_whole 60 = .ok (.iadd, 1) := by decide +kernel
theorem dX8_whole_61 : decode cX8_whole 61 = .ok (.aload_n 0, 1) := by decide +kernel
theorem dX8_whole_62 : decode cX8_whole 62 = .ok (.getfield 31, 3) := by decide +kernel
theorem dX8_whole_65 : decode cX8_whole 65 = .ok (.bipush 12, 2) := by decide +kernel
theorem dX8_whole_67 : decode cX8_whole 67 = .ok (.iload_n 1, 1) := by decide +kernel
theorem dX8_whole_68 : decode cX8_whole 68 = .ok (.imul, 1) := by decide +kernel
theorem dX8_whole_69 : decode cX8_whole 69 = .ok (.iload_n 3, 1) := by decide +kernel
theorem dX8_whole_70 : decode cX8_whole 70 = .ok (.iadd, 1) := by decide +kernel
theorem dX8_whole_71 : decode cX8_whole 71 = .ok (.iaload, 1) := by decide +kernel
theorem dX8_whole_72 : decode cX8_whole 72 = .ok (.iastore, 1) := by decide +kernel
theorem dX8_whole_73 : decode cX8_whole 73 = .ok (.iinc 3 1, 3) := by decide +kernel
theorem dX8_whole_76 : decode cX8_whole 76 = .ok (.goto (-35), 3) := by decide +kernel
theorem dX8_whole_79 : decode cX8_whole 79 = .ok (.return_, 1) := by decide +kernel
theorem dX8_isKind_0 : decode cX8_isKind 0 = .ok (.iload_n 1, 1) := by decide +kernel
theorem dX8_isKind_1 : decode cX8_isKind 1 = .ok (.iload_n 2, 1) := by decide +kernel
theorem dX8_isKind_2 : decode cX8_isKind 2 = .ok (.if_icmp .eq 28, 3) := by decide +kernel
theorem dX8_isKind_5 : decode cX8_isKind 5 = .ok (.iload_n 2, 1) := by decide +kernel
theorem dX8_isKind_6 : decode cX8_isKind 6 = .ok (.iconst 1, 1) := by decide +kernel
theorem dX8_isKind_7 : decode cX8_isKind 7 = .ok (.if_icmp .ne 13, 3) := by decide +kernel
theorem dX8_isKind_10 : decode cX8_isKind 10 = .ok (.iload_n 1, 1) := by decide +kernel
theorem dX8_isKind_11 : decode cX8_isKind 11 = .ok (.iconst 4, 1) := by decide +kernel
theorem dX8_isKind_12 : decode cX8_isKind 12 = .ok (.if_icmp .eq 18, 3) := by decide +kernel
theorem dX8_isKind_15 : decode cX8_isKind 15 = .ok (.iload_n 1, 1) := by decide +kernel
theorem dX8_isKind_16 : decode cX8_isKind 16 = .ok (.iconst 5, 1) := by decide +kernel
theorem dX8_isKind_17 : decode cX8_isKind 17 = .ok (.if_icmp .eq 13, 3) := by decide +kernel
theorem dX8_isKind_20 : decode cX8_isKind 20 = .ok (.iload_n 2, 1) := by decide +kernel
theorem dX8_isKind_21 : decode cX8_isKind 21 = .ok (.iconst 2, 1) := by decide +kernel
theorem dX8_isKind_22 : decode cX8_isKind 22 = .ok (.if_icmp .ne 12, 3) := by decide +kernel
theorem dX8_isKind_25 : decode cX8_isKind 25 = .ok (.iload_n 1, 1) := by decide +kernel
theorem dX8_isKind_26 : decode cX8_isKind 26 = .ok (.iconst 3, 1) := by decide +kernel
theorem dX8_isKind_27 : decode cX8_isKind 27 = .ok (.if_icmp .ne 7, 3) := by decide +kernel
theorem dX8_isKind_30 : decode cX8_isKind 30 = .ok (.iconst 1, 1) := by decide +kernel
theorem dX8_isKind_31 : decode cX8_isKind 31 = .ok (.goto 4, 3) := by decide +kernel
theorem dX8_isKind_34 : decode cX8_isKind 34 = .ok (.iconst 0, 1) := by decide +kernel
theorem dX8_isKind_35 : decode cX8_isKind 35 = .ok (.ireturn, 1) := by decide +kernel
theorem dX8_isAhead_0 : decode cX8_isAhead 0 = .ok (.aload_n 0, 1) := by decide +kernel
theorem dX8_isAhead_1 : decode cX8_isAhead 1 = .ok (.getfield 9, 3) := by decide +kernel
theorem dX8_isAhead_4 : decode cX8_isAhead 4 = .ok (.sipush 505, 3) := by decide +kernel
theorem dX8_isAhead_7 : decode cX8_isAhead 7 = .ok (.iaload, 1) := by decide +kernel
theorem dX8_isAhead_8 : decode cX8_isAhead 8 = .ok (.istore_n 3, 1) := by decide +kernel
theorem dX8_isAhead_9 : decode cX8_isAhead 9 = .ok (.aload_n 0, 1) := by decide +kernel
theorem dX8_isAhead_10 : decode cX8_isAhead 10 = .ok (.iload_n 3, 1) := by decide +kernel
theorem dX8_isAhead_11 : decode cX8_isAhead 11 = .ok (.iconst 1, 1) := by decide +kernel
theorem dX8_isAhead_12 : decode cX8_isAhead 12 = .ok (.invokevirtual 92, 3) := by decide +kernel
theorem dX8_isAhead_15 : decode cX8_isAhead 15 = .ok (.ifCond .eq 39, 3) := by decide +kernel
theorem dX8_isAhead_18 : decode cX8_isAhead 18 = .ok (.aload_n 0, 1) := by decide +kernel
theorem dX8_isAhead_19 : decode cX8_isAhead 19 = .ok (.getfield 34, 3) := by decide +kernel
theorem dX8_isAhead_22 : decode cX8_isAhead 22 = .ok (.iload_n 1, 1) := by decide +kernel
theorem dX8_isAhead_23 : decode cX8_isAhead 23 = .ok (.iaload, 1) := by decide +kernel
theorem dX8_isAhead_24 : decode cX8_isAhead 24 = .ok (.aload_n 0, 1) := by decide +kernel
theorem dX8_isAhead_25 : decode cX8_isAhead 25 = .ok (.getfield 34, 3) := by decide +kernel
theorem dX8_isAhead_28 : decode cX8_isAhead 28 = .ok (.iload_n 2, 1) := by decide +kernel
theorem dX8_isAhead_29 : decode cX8_isAhead 29 = .ok (.iaload, 1) := by decide +kernel
theorem dX8_isAhead_30 : decode cX8_isAhead 30 = .ok (.if_icmp .eq 24, 3) := by decide +kernel
theorem dX8_isAhead_33 : decode cX8_isAhead 33 = .ok (.aload_n 0, 1) := by decide +kernel
theorem dX8_isAhead_34 : decode cX8_isAhead 34 = .ok (.getfield 34, 3) := by decide +kernel
theorem dX8_isAhead_37 : decode cX8_isAhead 37 = .ok (.iload_n 1, 1) := by decide +kernel
theorem dX8_isAhead_38 : decode cX8_isAhead 38 = .ok (.iaload, 1) := by decide +kernel
theorem dX8_isAhead_39 : decode cX8_isAhead 39 = .ok (.aload_n 0, 1) := by decide +kernel
theorem dX8_isAhead_40 : decode cX8_isAhead 40 = .ok (.getfield 34, 3) := by decide +kernel
theorem dX8_isAhead_43 : decode cX8_isAhead 43 = .ok (.iload_n 2, 1) := by decide +kernel
theorem dX8_isAhead_44 : decode cX8_isAhead 44 = .ok (.iaload, 1) := by decide +kernel
theorem dX8_isAhead_45 : decode cX8_isAhead 45 = .ok (.if_icmp .le 7, 3) := by decide +kernel
theorem dX8_isAhead_48 : decode cX8_isAhead 48 = .ok (.iconst 1, 1) := by decide +kernel
theorem dX8_isAhead_49 : decode cX8_isAhead 49 = .ok (.goto 4, 3) := by decide +kernel
theorem dX8_isAhead_52 : decode cX8_isAhead 52 = .ok (.iconst 0, 1) := by decide +kernel
theorem dX8_isAhead_53 : decode cX8_isAhead 53 = .ok (.ireturn, 1) := by decide +kernel
theorem dX8_isAhead_54 : decode cX8_isAhead 54 = .ok (.aload_n 0, 1) := by decide +kernel
theorem dX8_isAhead_55 : decode cX8_isAhead 55 = .ok (.iload_n 3, 1) := by decide +kernel
theorem dX8_isAhead_56 : decode cX8_isAhead 56 = .ok (.iconst 2, 1) := by decide +kernel
theorem dX8_isAhead_57 : decode cX8_isAhead 57 = .ok (.invokevirtual 92, 3) := by decide +kernel
theorem dX8_isAhead_60 : decode cX8_isAhead 60 = .ok (.ifCond .eq 16, 3) := by decide +kernel
theorem dX8_isAhead_63 : decode cX8_isAhead 63 = .ok (.iload_n 1, 1) := by decide +kernel
theorem dX8_isAhead_64 : decode cX8_isAhead 64 = .ok (.iload_n 2, 1) := by decide +kernel
theorem dX8_isAhead_65 : decode cX8_isAhead 65 = .ok (.if_icmp .le 7, 3) := by decide +kernel
theorem dX8_isAhead_68 : decode cX8_isAhead 68 = .ok (.iconst 1, 1) := by decide +kernel
theorem dX8_isAhead_69 : decode cX8_isAhead 69 = .ok (.goto 17, 3) := by decide +kernel
theorem dX8_isAhead_72 : decode cX8_isAhead 72 = .ok (.iconst 0, 1) := by decide +kernel
theorem dX8_isAhead_73 : decode cX8_isAhead 73 = .ok (.goto 13, 3) := by decide +kernel
theorem dX8_isAhead_76 : decode cX8_isAhead 76 = .ok (.iload_n 1, 1) := by decide +kernel
theorem dX8_isAhead_77 : decode cX8_isAhead 77 = .ok (.iload_n 2, 1) := by decide +kernel
theorem dX8_isAhead_78 : decode cX8_isAhead 78 = .ok (.if_icmp .ge 7, 3) := by decide +kernel
theorem dX8_isAhead_81 : decode cX8_isAhead 81 = .ok (.iconst 1, 1) := by decide +kernel
theorem dX8_isAhead_82 : decode cX8_isAhead 82 = .ok (.goto 4, 3) := by decide +kernel
theorem dX8_isAhead_85 : decode cX8_isAhead 85 = .ok (.iconst 0, 1) := by decide +kernel
theorem dX8_isAhead_86 : decode cX8_isAhead 86 = .ok (.ireturn, 1) := by decide +kernel
theorem dX8_isParent_0 : decode cX8_isParent 0 = .ok (.aload_n 0, 1) := by decide +kernel
theorem dX8_isParent_1 : decode cX8_isParent 1 = .ok (.getfield 9, 3) := by decide +kernel
theorem dX8_isParent_4 : decode cX8_isParent 4 = .ok (.bipush 50, 2) := by decide +kernel
theorem dX8_isParent_6 : decode cX8_isParent 6 = .ok (.iload_n 2, 1) := by decide +kernel
theorem dX8_isParent_7 : decode cX8_isParent 7 = .ok (.imul, 1) := by decide +kernel
theorem dX8_isParent_8 : decode cX8_isParent 8 = .ok (.iconst 2, 1) := by decide +kernel
theorem dX8_isParent_9 : decode cX8_isParent 9 = .ok (.iadd, 1) := by decide +kernel
theorem dX8_isParent_10 : decode cX8_isParent 10 = .ok (.iaload, 1) := by decide +kernel
theorem dX8_isParent_11 : decode cX8_isParent 11 = .ok (.iload_n 1, 1) := by decide +kernel
theorem dX8_isParent_12 : decode cX8_isParent 12 = .ok (.if_icmp .eq 20, 3) := by decide +kernel
theorem dX8_isParent_15 : decode cX8_isParent 15 = .ok (.aload_n 0, 1) := by decide +kernel
theorem dX8_isParent_16 : decode cX8_isParent 16 = .ok (.getfield 9, 3) := by decide +kernel
theorem dX8_isParent_19 : decode cX8_isParent 19 = .ok (.bipush 50, 2) := by decide +kernel
theorem dX8_isParent_21 : decode cX8_isParent 21 = .ok (.iload_n 2, 1) := by decide +kernel
theorem dX8_isParent_22 : decode cX8_isParent 22 = .ok (.imul, 1) := by decide +kernel
theorem dX8_isParent_23 : decode cX8_isParent 23 = .ok (.iconst 2, 1) := by decide +kernel
theorem dX8_isParent_24 : decode cX8_isParent 24 = .ok (.iadd, 1) := by decide +kernel
theorem dX8_isParent_25 : decode cX8_isParent 25 = .ok (.iconst 1, 1) := by decide +kernel
theorem dX8_isParent_26 : decode cX8_isParent 26 = .ok (.iadd, 1) := by decide +kernel
theorem dX8_isParent_27 : decode cX8_isParent 27 = .ok (.iaload, 1) := by decide +kernel
theorem dX8_isParent_28 : decode cX8_isParent 28 = .ok (.iload_n 1, 1) := by decide +kernel
theorem dX8_isParent_29 : decode cX8_isParent 29 = .ok (.if_icmp .ne 7, 3) := by decide +kernel
theorem dX8_isParent_32 : decode cX8_isParent 32 = .ok (.iconst 1, 1) := by decide +kernel
theorem dX8_isParent_33 : decode cX8_isParent 33 = .ok (.goto 4, 3) := by decide +kernel
theorem dX8_isParent_36 : decode cX8_isParent 36 = .ok (.iconst 0, 1) := by decide +kernel
theorem dX8_isParent_37 : decode cX8_isParent 37 = .ok (.ireturn, 1) := by decide +kernel
theorem dX8_may_0 : decode cX8_may 0 = .ok (.aload_n 0, 1) := by decide +kernel
theorem dX8_may_1 : decode cX8_may 1 = .ok (.getfield 9, 3) := by decide +kernel
theorem dX8_may_4 : decode cX8_may 4 = .ok (.sipush 505, 3) := by decide +kernel
theorem dX8_may_7 : decode cX8_may 7 = .ok (.iaload, 1) := by decide +kernel
theorem dX8_may_8 : decode cX8_may 8 = .ok (.istore 5, 2) := by decide +kernel
theorem dX8_may_10 : decode cX8_may 10 = .ok (.iload 5, 2) := by decide +kernel
theorem dX8_may_12 : decode cX8_may 12 = .ok (.iconst 3, 1) := by decide +kernel
theorem dX8_may_13 : decode cX8_may 13 = .ok (.if_icmp .ne 29, 3) := by decide +kernel
theorem dX8_may_16 : decode cX8_may 16 = .ok (.aload_n 0, 1) := by decide +kernel
theorem dX8_may_17 : decode cX8_may 17 = .ok (.iload_n 1, 1) := by decide +kernel
theorem dX8_may_18 : decode cX8_may 18 = .ok (.iload_n 3, 1) := by decide +kernel
theorem dX8_may_19 : decode cX8_may 19 = .ok (.invokevirtual 96, 3) := by decide +kernel
theorem dX8_may_22 : decode cX8_may 22 = .ok (.ifCond .ne 12, 3) := by decide +kernel
theorem dX8_may_25 : decode cX8_may 25 = .ok (.aload_n 0, 1) := by decide +kernel
theorem dX8_may_26 : decode cX8_may 26 = .ok (.iload_n 3, 1) := by decide +kernel
theorem dX8_may_27 : decode cX8_may 27 = .ok (.iload_n 1, 1) := by decide +kernel
theorem dX8_may_28 : decode cX8_may 28 = .ok (.invokevirtual 96, 3) := by decide +kernel
theorem dX8_may_31 : decode cX8_may 31 = .ok (.ifCond .eq 7, 3) := by decide +kernel
theorem dX8_may_34 : decode cX8_may 34 = .ok (.iconst 1, 1) := by decide +kernel
theorem dX8_may_35 : decode cX8_may 35 = .ok (.goto 33, 3) := by decide +kernel
theorem dX8_may_38 : decode cX8_may 38 = .ok (.iconst 0, 1) := by decide +kernel
theorem dX8_may_39 : decode cX8_may 39 = .ok (.goto 29, 3) := by decide +kernel
theorem dX8_may_42 : decode cX8_may 42 = .ok (.iload 5, 2) := by decide +kernel
theorem dX8_may_44 : decode cX8_may 44 = .ok (.iconst 5, 1) := by decide +kernel
theorem dX8_may_45 : decode cX8_may 45 = .ok (.if_icmp .ne 18, 3) := by decide +kernel
theorem dX8_may_48 : decode cX8_may 48 = .ok (.iload 4, 2) := by decide +kernel
theorem dX8_may_50 : decode cX8_may 50 = .ok (.iload_n 2, 1) := by decide +kernel
theorem dX8_may_51 : decode cX8_may 51 = .ok (.isub, 1) := by decide +kernel
theorem dX8_may_52 : decode cX8_may 52 = .ok (.aload_n 0, 1) := by decide +kernel
theorem dX8_may_53 : decode cX8_may 53 = .ok (.getfield 9, 3) := by decide +kernel
theorem dX8_may_56 : decode cX8_may 56 = .ok (.sipush 506, 3) := by decide +kernel
theorem dX8_may_59 : decode cX8_may 59 = .ok (.iaload, 1) := by decide +kernel
theorem dX8_may_60 : decode cX8_may 60 = .ok (.if_icmp .gt 7, 3) := by decide +kernel
theorem dX8_may_63 : decode cX8_may 63 = .ok (.iconst 1, 1) := by decide +kernel
theorem dX8_may_64 : decode cX8_may 64 = .ok (.goto 4, 3) := by decide +kernel
theorem dX8_may_67 : decode cX8_may 67 = .ok (.iconst 0, 1) := by decide +kernel
theorem dX8_may_68 : decode cX8_may 68 = .ok (.ireturn, 1) := by decide +kernel
theorem dX8_repacks_0 : decode cX8_repacks 0 = .ok (.aload_n 0, 1) := by decide +kernel
theorem dX8_repacks_1 : decode cX8_repacks 1 = .ok (.invokevirtual 84, 3) := by decide +kernel
theorem dX8_repacks_4 : decode cX8_repacks 4 = .ok (.iconst 0, 1) := by decide +kernel
theorem dX8_repacks_5 : decode cX8_repacks 5 = .ok (.istore_n 1, 1) := by decide +kernel
theorem dX8_repacks_6 : decode cX8_repacks 6 = .ok (.iconst 0, 1) := by decide +kernel
theorem dX8_repacks_7 : decode cX8_repacks 7 = .ok (.istore_n 2, 1) := by decide +kernel
theorem dX8_repacks_8 : decode cX8_repacks 8 = .ok (.iload_n 2, 1) := by decide +kernel
theorem dX8_repacks_9 : decode cX8_repacks 9 = .ok (.bipush 10, 2) := by decide +kernel
theorem dX8_repacks_11 : decode cX8_repacks 11 = .ok (.if_icmp .ge 72, 3) := by decide +kernel
theorem dX8_repacks_14 : decode cX8_repacks 14 = .ok (.aload_n 0, 1) := by decide +kernel
theorem dX8_repacks_15 : decode cX8_repacks 15 = .ok (.iload_n 2, 1) := by decide +kernel
theorem dX8_repacks_16 : decode cX8_repacks 16 = .ok (.invokevirtual 59, 3) := by decide +kernel
theorem dX8_repacks_19 : decode cX8_repacks 19 = .ok (.ifCond .ne 6, 3) := by decide +kernel
theorem dX8_repacks_22 : decode cX8_repacks 22 = .ok (.goto 55, 3) := by decide +kernel
theorem dX8_repacks_25 : decode cX8_repacks 25 = .ok (.iload_n 1, 1) := by decide +kernel
theorem dX8_repacks_26 : decode cX8_repacks 26 = .ok (.istore_n 3, 1) := by decide +kernel
theorem dX8_repacks_27 : decode cX8_repacks 27 = .ok (.iload_n 3, 1) := by decide +kernel
theorem dX8_repacks_28 : decode cX8_repacks 28 = .ok (.ifCond .le 39, 3) := by decide +kernel
theorem dX8_repacks_31 : decode cX8_repacks 31 = .ok (.aload_n 0, 1) := by decide +kernel
theorem dX8_repacks_32 : decode cX8_repacks 32 = .ok (.iload_n 2, 1) := by decide +kernel
theorem dX8_repacks_33 : decode cX8_repacks 33 = .ok (.aload_n 0, 1) := by decide +kernel
theorem dX8_repacks_34 : decode cX8_repacks 34 = .ok (.getfield 40, 3) := by decide +kernel
theorem dX8_repacks_37 : decode cX8_repacks 37 = .ok (.iload_n 3, 1) := by decide +kernel
theorem dX8_repacks_38 : decode cX8_repacks 38 = .ok (.iconst 1, 1) := by decide +kernel
theorem dX8_repacks_39 : decode cX8_repacks 39 = .ok (.isub, 1) := by decide +kernel
theorem dX8_repacks_40 : decode cX8_repacks 40 = .ok (.iaload, 1) := by decide +kernel
theorem dX8_repacks_41 : decode cX8_repacks 41 = .ok (.invokevirtual 99, 3) := by decide +kernel
theorem dX8_repacks_44 : decode cX8_repacks 44 = .ok (.ifCond .eq 23, 3) := by decide +kernel
theorem dX8_repacks_47 : decode cX8_repacks 47 = .ok (.aload_n 0, 1) := by decide +kernel
theorem dX8_repacks_48 : decode cX8_repacks 48 = .ok (.getfield 40, 3) := by decide +kernel
theorem dX8_repacks_51 : decode cX8_repacks 51 = .ok (.iload_n 3, 1) := by decide +kernel
theorem dX8_repacks_52 : decode cX8_repacks 52 = .ok (.aload_n 0, 1) := by decide +kernel
theorem dX8_repacks_53 : decode cX8_repacks 53 = .ok (.getfield 40, 3) := by decide +kernel
theorem dX8_repacks_56 : decode cX8_repacks 56 = .ok (.iload_n 3, 1) := by decide +kernel
theorem dX8_repacks_57 : decode cX8_repacks 57 = .ok (.iconst 1, 1) := by decide +kernel
theorem dX8_repacks_58 : decode cX8_repacks 58 = .ok (.isub, 1) := by decide +kernel
theorem dX8_repacks_59 : decode cX8_repacks 59 = .ok (.iaload, 1) := by decide +kernel
theorem dX8_repacks_60 : decode cX8_repacks 60 = .ok (.iastore, 1) := by decide +kernel
theorem dX8_repacks_61 : decode cX8_repacks 61 = .ok (.iinc 3 (-1), 3) := by decide +kernel
theorem dX8_repacks_64 : decode cX8_repacks 64 = .ok (.goto (-37), 3) := by decide +kernel
theorem dX8_repacks_67 : decode cX8_repacks 67 = .ok (.aload_n 0, 1) := by decide +kernel
theorem dX8_repacks_68 : decode cX8_repacks 68 = .ok (.getfield 40, 3) := by decide +kernel
theorem dX8_repacks_71 : decode cX8_repacks 71 = .ok (.iload_n 3, 1) := by decide +kernel
theorem dX8_repacks_72 : decode cX8_repacks 72 = .ok (.iload_n 2, 1) := by decide +kernel
theorem dX8_repacks_73 : decode cX8_repacks 73 = .ok (.iastore, 1) := by decide +kernel
theorem dX8_repacks_74 : decode cX8_repacks 74 = .ok (.iinc 1 1, 3) := by decide +kernel
theorem dX8_repacks_77 : decode cX8_repacks 77 = .ok (.iinc 2 1, 3) := by decide +kernel
theorem dX8_repacks_80 : decode cX8_repacks 80 = .ok (.goto (-72), 3) := by decide +kernel
theorem dX8_repacks_83 : decode cX8_repacks 83 = .ok (.aload_n 0, 1) := by decide +kernel
theorem dX8_repacks_84 : decode cX8_repacks 84 = .ok (.getfield 9, 3) := by decide +kernel
theorem dX8_repacks_87 : decode cX8_repacks 87 = .ok (.sipush 505, 3) := by decide +kernel
theorem dX8_repacks_90 : decode cX8_repacks 90 = .ok (.iaload, 1) := by decide +kernel
theorem dX8_repacks_91 : decode cX8_repacks 91 = .ok (.iconst 4, 1) := by decide +kernel
theorem dX8_repacks_92 : decode cX8_repacks 92 = .ok (.if_icmp .ne 16, 3) := by decide +kernel
theorem dX8_repacks_95 : decode cX8_repacks 95 = .ok (.aload_n 0, 1) := by decide +kernel
theorem dX8_repacks_96 : decode cX8_repacks 96 = .ok (.getfield 9, 3) := by decide +kernel
theorem dX8_repacks_99 : decode cX8_repacks 99 = .ok (.sipush 506, 3) := by decide +kernel
theorem dX8_repacks_102 : decode cX8_repacks 102 = .ok (.iaload, 1) := by decide +kernel
theorem dX8_repacks_103 : decode cX8_repacks 103 = .ok (.iconst 1, 1) := by decide +kernel
theorem dX8_repacks_104 : decode cX8_repacks 104 = .ok (.iadd, 1) := by decide +kernel
theorem dX8_repacks_105 : decode cX8_repacks 105 = .ok (.goto 4, 3) := by decide +kernel
theorem dX8_repacks_108 : decode cX8_repacks 108 = .ok (.iconst 1, 1) := by decide +kernel
theorem dX8_repacks_109 : decode cX8_repacks 109 = .ok (.istore_n 2, 1) := by decide +kernel
theorem dX8_repacks_110 : decode cX8_repacks 110 = .ok (.iconst 0, 1) := by decide +kernel
theorem dX8_repacks_111 : decode cX8_repacks 111 = .ok (.istore_n 3, 1) := by decide +kernel
theorem dX8_repacks_112 : decode cX8_repacks 112 = .ok (.iload_n 3, 1) := by decide +kernel
theorem dX8_repacks_113 : decode cX8_repacks 113 = .ok (.iload_n 1, 1) := by decide +kernel
theorem dX8_repacks_114 : decode cX8_repacks 114 = .ok (.if_icmp .ge 189, 3) := by decide +kernel
theorem dX8_repacks_117 : decode cX8_repacks 117 = .ok (.aload_n 0, 1) := by decide +kernel
theorem dX8_repacks_118 : decode cX8_repacks 118 = .ok (.getfield 40, 3) := by decide +kernel
theorem dX8_repacks_121 : decode cX8_repacks 121 = .ok (.iload_n 3, 1) := by decide +kernel
theorem dX8_repacks_122 : decode cX8_repacks 122 = .ok (.iaload, 1) := by decide +kernel
theorem dX8_repacks_123 : decode cX8_repacks 123 = .ok (.istore 4, 2) := by decide +kernel
theorem dX8_repacks_125 : decode cX8_repacks 125 = .ok (.bipush (-9), 2) := by decide +kernel
theorem dX8_repacks_127 : decode cX8_repacks 127 = .ok (.istore 5, 2) := by decide +kernel
theorem dX8_repacks_129 : decode cX8_repacks 129 = .ok (.iconst 0, 1) := by decide +kernel
theorem dX8_repacks_130 : decode cX8_repacks 130 = .ok (.istore 6, 2) := by decide +kernel
theorem dX8_repacks_132 : decode cX8_repacks 132 = .ok (.iconst 0, 1) := by decide +kernel
theorem dX8_repacks_133 : decode cX8_repacks 133 = .ok (.istore 7, 2) := by decide +kernel
theorem dX8_repacks_135 : decode cX8_repacks 135 = .ok (.iload 7, 2) := by decide +kernel
theorem dX8_repacks_137 : decode cX8_repacks 137 = .ok (.iload_n 3, 1) := by decide +kernel
theorem dX8_repacks_138 : decode cX8_repacks 138 = .ok (.if_icmp .ge 85, 3) := by decide +kernel
theorem dX8_repacks_141 : decode cX8_repacks 141 = .ok (.aload_n 0, 1) := by decide +kernel
theorem dX8_repacks_142 : decode cX8_repacks 142 = .ok (.getfield 40, 3) := by decide +kernel
theorem dX8_repacks_145 : decode cX8_repacks 145 = .ok (.iload 7, 2) := by decide +kernel
theorem dX8_repacks_147 : decode cX8_repacks 147 = .ok (.iaload, 1) := by decide +kernel
theorem dX8_repacks_148 : decode cX8_repacks 148 = .ok (.istore 8, 2) := by decide +kernel
theorem dX8_repacks_150 : decode cX8_repacks 150 = .ok (.aload_n 0, 1) := by decide +kernel
theorem dX8_repacks_151 : decode cX8_repacks 151 = .ok (.iload 8, 2) := by decide +kernel
theorem dX8_repacks_153 : decode cX8_repacks 153 = .ok (.iload 7, 2) := by decide +kernel
theorem dX8_repacks_155 : decode cX8_repacks 155 = .ok (.iload 4, 2) := by decide +kernel
theorem dX8_repacks_157 : decode cX8_repacks 157 = .ok (.iload_n 3, 1) := by decide +kernel
theorem dX8_repacks_158 : decode cX8_repacks 158 = .ok (.invokevirtual 102, 3) := by decide +kernel
theorem dX8_repacks_161 : decode cX8_repacks 161 = .ok (.ifCond .eq 56, 3) := by decide +kernel
theorem dX8_repacks_164 : decode cX8_repacks 164 = .ok (.aload_n 0, 1) := by decide +kernel
theorem dX8_repacks_165 : decode cX8_repacks 165 = .ok (.getfield 43, 3) := by decide +kernel
theorem dX8_repacks_168 : decode cX8_repacks 168 = .ok (.iload 8, 2) := by decide +kernel
theorem dX8_repacks_170 : decode cX8_repacks 170 = .ok (.iaload, 1) := by decide +kernel
theorem dX8_repacks_171 : decode cX8_repacks 171 = .ok (.aload_n 0, 1) := by decide +kernel
theorem dX8_repacks_172 : decode cX8_repacks 172 = .ok (.getfield 9, 3) := by decide +kernel
theorem dX8_repacks_175 : decode cX8_repacks 175 = .ok (.sipush 507, 3) := by decide +kernel
theorem dX8_repacks_178 : decode cX8_repacks 178 = .ok (.iaload, 1) := by decide +kernel
theorem dX8_repacks_179 : decode cX8_repacks 179 = .ok (.if_icmp .lt 6, 3) := by decide +kernel
theorem dX8_repacks_182 : decode cX8_repacks 182 = .ok (.goto 35, 3) := by decide +kernel
theorem dX8_repacks_185 : decode cX8_repacks 185 = .ok (.aload_n 0, 1) := by decide +kernel
theorem dX8_repacks_186 : decode cX8_repacks 186 = .ok (.iload 8, 2) := by decide +kernel
theorem dX8_repacks_188 : decode cX8_repacks 188 = .ok (.iload 4, 2) := by decide +kernel
theorem dX8_repacks_190 : decode cX8_repacks 190 = .ok (.invokevirtual 106, 3) := by decide +kernel
theorem dX8_repacks_193 : decode cX8_repacks 193 = .ok (.istore 9, 2) := by decide +kernel
theorem dX8_repacks_195 : decode cX8_repacks 195 = .ok (.iload 5, 2) := by decide +kernel
theorem dX8_repacks_197 : decode cX8_repacks 197 = .ok (.bipush (-9), 2) := by decide +kernel
theorem dX8_repacks_199 : decode cX8_repacks 199 = .ok (.if_icmp .eq 10, 3) := by decide +kernel
theorem dX8_repacks_202 : decode cX8_repacks 202 = .ok (.iload 9, 2) := by decide +kernel
theorem dX8_repacks_204 : decode cX8_repacks 204 = .ok (.iload 6, 2) := by decide +kernel
theorem dX8_repacks_206 : decode cX8_repacks 206 = .ok (.if_icmp .ge 11, 3) := by decide +kernel
theorem dX8_repacks_209 : decode cX8_repacks 209 = .ok (.iload 8, 2) := by decide +kernel
theorem dX8_repacks_211 : decode cX8_repacks 211 = .ok (.istore 5, 2) := by decide +kernel
theorem dX8_repacks_213 : decode cX8_repacks 213 = .ok (.iload 9, 2) := by decide +kernel
theorem dX8_repacks_215 : decode cX8_repacks 215 = .ok (.istore 6, 2) := by decide +kernel
theorem dX8_repacks_217 : decode cX8_repacks 217 = .ok (.iinc 7 1, 3) := by decide +kernel
theorem dX8_repacks_220 : decode cX8_repacks 220 = .ok (.goto (-85), 3) := by decide +kernel
theorem dX8_repacks_223 : decode cX8_repacks 223 = .ok (.aload_n 0, 1) := by decide +kernel
theorem dX8_repacks_224 : decode cX8_repacks 224 = .ok (.getfield 46, 3) := by decide +kernel
theorem dX8_repacks_227 : decode cX8_repacks 227 = .ok (.iload 4, 2) := by decide +kernel
theorem dX8_repacks_229 : decode cX8_repacks 229 = .ok (.iload 5, 2) := by decide +kernel
theorem dX8_repacks_231 : decode cX8_repacks 231 = .ok (.bipush (-9), 2) := by decide +kernel
theorem dX8_repacks_233 : decode cX8_repacks 233 = .ok (.if_icmp .eq 24, 3) := by decide +kernel
theorem dX8_repacks_236 : decode cX8_repacks 236 = .ok (.iconst 1, 1) := by decide +kernel
theorem dX8_repacks_237 : decode cX8_repacks 237 = .ok (.aload_n 0, 1) := by decide +kernel
theorem dX8_repacks_238 : decode cX8_repacks 238 = .ok (.getfield 34, 3) := by decide +kernel
theorem dX8_repacks_241 : decode cX8_repacks 241 = .ok (.iload 4, 2) := by decide +kernel
theorem dX8_repacks_243 : decode cX8_repacks 243 = .ok (.iaload, 1) := by decide +kernel
theorem dX8_repacks_244 : decode cX8_repacks 244 = .ok (.iadd, 1) := by decide +kernel
theorem dX8_repacks_245 : decode cX8_repacks 245 = .ok (.iload 6, 2) := by decide +kernel
theorem dX8_repacks_247 : decode cX8_repacks 247 = .ok (.isub, 1) := by decide +kernel
theorem dX8_repacks_248 : decode cX8_repacks 248 = .ok (.iload_n 2, 1) := by decide +kernel
theorem dX8_repacks_249 : decode cX8_repacks 249 = .ok (.if_icmp .lt 8, 3) := by decide +kernel
theorem dX8_repacks_252 : decode cX8_repacks 252 = .ok (.iload 5, 2) := by decide +kernel
theorem dX8_repacks_254 : decode cX8_repacks 254 = .ok (.goto 5, 3) := by decide +kernel
theorem dX8_repacks_257 : decode cX8_repacks 257 = .ok (.bipush (-9), 2) := by decide +kernel
theorem dX8_repacks_259 : decode cX8_repacks 259 = .ok (.iastore, 1) := by decide +kernel
theorem dX8_repacks_260 : decode cX8_repacks 260 = .ok (.aload_n 0, 1) := by decide +kernel
theorem dX8_repacks_261 : decode cX8_repacks 261 = .ok (.getfield 43, 3) := by decide +kernel
theorem dX8_repacks_264 : decode cX8_repacks 264 = .ok (.iload 4, 2) := by decide +kernel
theorem dX8_repacks_266 : decode cX8_repacks 266 = .ok (.aload_n 0, 1) := by decide +kernel
theorem dX8_repacks_267 : decode cX8_repacks 267 = .ok (.getfield 46, 3) := by decide +kernel
theorem dX8_repacks_270 : decode cX8_repacks 270 = .ok (.iload 4, 2) := by decide +kernel
theorem dX8_repacks_272 : decode cX8_repacks 272 = .ok (.iaload, 1) := by decide +kernel
theorem dX8_repacks_273 : decode cX8_repacks 273 = .ok (.bipush (-9), 2) := by decide +kernel
theorem dX8_repacks_275 : decode cX8_repacks 275 = .ok (.if_icmp .ne 7, 3) := by decide +kernel
theorem dX8_repacks_278 : decode cX8_repacks 278 = .ok (.iconst 0, 1) := by decide +kernel
theorem dX8_repacks_279 : decode cX8_repacks 279 = .ok (.goto 17, 3) := by decide +kernel
theorem dX8_repacks_282 : decode cX8_repacks 282 = .ok (.aload_n 0, 1) := by decide +kernel
theorem dX8_repacks_283 : decode cX8_repacks 283 = .ok (.getfield 43, 3) := by decide +kernel
theorem dX8_repacks_286 : decode cX8_repacks 286 = .ok (.aload_n 0, 1) := by decide +kernel
theorem dX8_repacks_287 : decode cX8_repacks 287 = .ok (.getfield 46, 3) := by decide +kernel
theorem dX8_repacks_290 : decode cX8_repacks 290 = .ok (.iload 4, 2) := by decide +kernel
theorem dX8_repacks_292 : decode cX8_repacks 292 = .ok (.iaload, 1) := by decide +kernel
theorem dX8_repacks_293 : decode cX8_repacks 293 = .ok (.iaload, 1) := by decide +kernel
theorem dX8_repacks_294 : decode cX8_repacks 294 = .ok (.iconst 1, 1) := by decide +kernel
theorem dX8_repacks_295 : decode cX8_repacks 295 = .ok (.iadd, 1) := by decide +kernel
theorem dX8_repacks_296 : decode cX8_repacks 296 = .ok (.iastore, 1) := by decide +kernel
theorem dX8_repacks_297 : decode cX8_repacks 297 = .ok (.iinc 3 1, 3) := by decide +kernel
theorem dX8_repacks_300 : decode cX8_repacks 300 = .ok (.goto (-188), 3) := by decide +kernel
theorem dX8_repacks_303 : decode cX8_repacks 303 = .ok (.iconst 0, 1) := by decide +kernel
theorem dX8_repacks_304 : decode cX8_repacks 304 = .ok (.istore_n 3, 1) := by decide +kernel
theorem dX8_repacks_305 : decode cX8_repacks 305 = .ok (.iload_n 3, 1) := by decide +kernel
theorem dX8_repacks_306 : decode cX8_repacks 306 = .ok (.iload_n 1, 1) := by decide +kernel
theorem dX8_repacks_307 : decode cX8_repacks 307 = .ok (.if_icmp .ge 129, 3) := by decide +kernel
theorem dX8_repacks_310 : decode cX8_repacks 310 = .ok (.aload_n 0, 1) := by decide +kernel
theorem dX8_repacks_311 : decode cX8_repacks 311 = .ok (.getfield 40, 3) := by decide +kernel
theorem dX8_repacks_314 : decode cX8_repacks 314 = .ok (.iload_n 3, 1) := by decide +kernel
theorem dX8_repacks_315 : decode cX8_repacks 315 = .ok (.iaload, 1) := by decide +kernel
theorem dX8_repacks_316 : decode cX8_repacks 316 = .ok (.istore 4, 2) := by decide +kernel
theorem dX8_repacks_318 : decode cX8_repacks 318 = .ok (.aload_n 0, 1) := by decide +kernel
theorem dX8_repacks_319 : decode cX8_repacks 319 = .ok (.getfield 46, 3) := by decide +kernel
theorem dX8_repacks_322 : decode cX8_repacks 322 = .ok (.iload 4, 2) := by decide +kernel
theorem dX8_repacks_324 : decode cX8_repacks 324 = .ok (.iaload, 1) := by decide +kernel
theorem dX8_repacks_325 : decode cX8_repacks 325 = .ok (.bipush (-9), 2) := by decide +kernel
theorem dX8_repacks_327 : decode cX8_repacks 327 = .ok (.if_icmp .ne 12, 3) := by decide +kernel
theorem dX8_repacks_330 : decode cX8_repacks 330 = .ok (.aload_n 0, 1) := by decide +kernel
theorem dX8_repacks_331 : decode cX8_repacks 331 = .ok (.iload 4, 2) := by decide +kernel
theorem dX8_repacks_333 : decode cX8_repacks 333 = .ok (.invokevirtual 109, 3) := by decide +kernel
theorem dX8_repacks_336 : decode cX8_repacks 336 = .ok (.goto 94, 3) := by decide +kernel
theorem dX8_repacks_339 : decode cX8_repacks 339 = .ok (.aload_n 0, 1) := by decide +kernel
theorem dX8_repacks_340 : decode cX8_repacks 340 = .ok (.aload_n 0, 1) := by decide +kernel
theorem dX8_repacks_341 : decode cX8_repacks 341 = .ok (.getfield 46, 3) := by decide +kernel
theorem dX8_repacks_344 : decode cX8_repacks 344 = .ok (.iload 4, 2) := by decide +kernel
theorem dX8_repacks_346 : decode cX8_repacks 346 = .ok (.iaload, 1) := by decide +kernel
theorem dX8_repacks_347 : decode cX8_repacks 347 = .ok (.iload 4, 2) := by decide +kernel
theorem dX8_repacks_349 : decode cX8_repacks 349 = .ok (.invokevirtual 106, 3) := by decide +kernel
theorem dX8_repacks_352 : decode cX8_repacks 352 = .ok (.pop, 1) := by decide +kernel
theorem dX8_repacks_353 : decode cX8_repacks 353 = .ok (.bipush 50, 2) := by decide +kernel
theorem dX8_repacks_355 : decode cX8_repacks 355 = .ok (.iload 4, 2) := by decide +kernel
theorem dX8_repacks_357 : decode cX8_repacks 357 = .ok (.imul, 1) := by decide +kernel
theorem dX8_repacks_358 : decode cX8_repacks 358 = .ok (.istore 5, 2) := by decide +kernel
theorem dX8_repacks_360 : decode cX8_repacks 360 = .ok (.aload_n 0, 1) := by decide +kernel
theorem dX8_repacks_361 : decode cX8_repacks 361 = .ok (.getfield 9, 3) := by decide +kernel
theorem dX8_repacks_364 : decode cX8_repacks 364 = .ok (.iload 5, 2) := by decide +kernel
theorem dX8_repacks_366 : decode cX8_repacks 366 = .ok (.iconst 4, 1) := by decide +kernel
theorem dX8_repacks_367 : decode cX8_repacks 367 = .ok (.iadd, 1) := by decide +kernel
theorem dX8_repacks_368 : decode cX8_repacks 368 = .ok (.aload_n 0, 1) := by decide +kernel
theorem dX8_repacks_369 : decode cX8_repacks 369 = .ok (.getfield 46, 3) := by decide +kernel
theorem dX8_repacks_372 : decode cX8_repacks 372 = .ok (.iload 4, 2) := by decide +kernel
theorem dX8_repacks_374 : decode cX8_repacks 374 = .ok (.iaload, 1) := by decide +kernel
theorem dX8_repacks_375 : decode cX8_repacks 375 = .ok (.iastore, 1) := by decide +kernel
theorem dX8_repacks_376 : decode cX8_repacks 376 = .ok (.aload_n 0, 1) := by decide +kernel
theorem dX8_repacks_377 : decode cX8_repacks 377 = .ok (.getfield 9, 3) := by decide +kernel
theorem dX8_repacks_380 : decode cX8_repacks 380 = .ok (.iload 5, 2) := by decide +kernel
theorem dX8_repacks_382 : decode cX8_repacks 382 = .ok (.bipush 18, 2) := by decide +kernel
theorem dX8_repacks_384 : decode cX8_repacks 384 = .ok (.iadd, 1) := by decide +kernel
theorem dX8_repacks_385 : decode cX8_repacks 385 = .ok (.aload_n 0, 1) := by decide +kernel
theorem dX8_repacks_386 : decode cX8_repacks 386 = .ok (.getfield 73, 3) := by decide +kernel
theorem dX8_repacks_389 : decode cX8_repacks 389 = .ok (.iastore, 1) := by decide +kernel
theorem dX8_repacks_390 : decode cX8_repacks 390 = .ok (.iconst 0, 1) := by decide +kernel
theorem dX8_repacks_391 : decode cX8_repacks 391 = .ok (.istore 6, 2) := by decide +kernel
theorem dX8_repacks_393 : decode cX8_repacks 393 = .ok (.iload 6, 2) := by decide +kernel
theorem dX8_repacks_395 : decode cX8_repacks 395 = .ok (.iconst 2, 1) := by decide +kernel
theorem dX8_repacks_396 : decode cX8_repacks 396 = .ok (.aload_n 0, 1) := by decide +kernel
theorem dX8_repacks_397 : decode cX8_repacks 397 = .ok (.getfield 73, 3) := by decide +kernel
theorem dX8_repacks_400 : decode cX8_repacks 400 = .ok (.imul, 1) := by decide +kernel
theorem dX8_repacks_401 : decode cX8_repacks 401 = .ok (.if_icmp .ge 29, 3) := by decide +kernel
theorem dX8_repacks_404 : decode cX8_repacks 404 = .ok (.aload_n 0, 1) := by decide +kernel
theorem dX8_repacks_405 : decode cX8_repacks 405 = .ok (.getfield 9, 3) := by decide +kernel
theorem dX8_repacks_408 : decode cX8_repacks 408 = .ok (.iload 5, 2) := by decide +kernel
theorem dX8_repacks_410 : decode cX8_repacks 410 = .ok (.bipush 20, 2) := by decide +kernel
theorem dX8_repacks_412 : decode cX8_repacks 412 = .ok (.iadd, 1) := by decide +kernel
theorem dX8_repacks_413 : decode cX8_repacks 413 = .ok (.iload 6, 2) := by decide +kernel
theorem dX8_repacks_415 : decode cX8_repacks 415 = .ok (.iadd, 1) := by decide +kernel
theorem dX8_repacks_416 : decode cX8_repacks 416 = .ok (.aload_n 0, 1) := by decide +kernel
theorem dX8_repacks_417 : decode cX8_repacks 417 = .ok (.getfield 37, 3) := by decide +kernel
theorem dX8_repacks_420 : decode cX8_repacks 420 = .ok (.iload 6, 2) := by decide +kernel
theorem dX8_repacks_422 : decode cX8_repacks 422 = .ok (.iaload, 1) := by decide +kernel
theorem dX8_repacks_423 : decode cX8_repacks 423 = .ok (.iastore, 1) := by decide +kernel
theorem dX8_repacks_424 : decode cX8_repacks 424 = .ok (.iinc 6 1, 3) := by decide +kernel
theorem dX8_repacks_427 : decode cX8_repacks 427 = .ok (.goto (-34), 3) := by decide +kernel
theorem dX8_repacks_430 : decode cX8_repacks 430 = .ok (.iinc 3 1, 3) := by decide +kernel
theorem dX8_repacks_433 : decode cX8_repacks 433 = .ok (.goto (-128), 3) := by decide +kernel
theorem dX8_repacks_436 : decode cX8_repacks 436 = .ok (.aload_n 0, 1) := by decide +kernel
theorem dX8_repacks_437 : decode cX8_repacks 437 = .ok (.invokevirtual 112, 3) := by decide +kernel
theorem dX8_repacks_440 : decode cX8_repacks 440 = .ok (.ireturn, 1) := by decide +kernel
theorem dX8_comes_0 : decode cX8_comes 0 = .ok (.aload_n 0, 1) := by decide +kernel
theorem dX8_comes_1 : decode cX8_comes 1 = .ok (.getfield 9, 3) := by decide +kernel
theorem dX8_comes_4 : decode cX8_comes 4 = .ok (.sipush 500, 3) := by decide +kernel
theorem dX8_comes_7 : decode cX8_comes 7 = .ok (.iaload, 1) := by decide +kernel
theorem dX8_comes_8 : decode cX8_comes 8 = .ok (.istore_n 3, 1) := by decide +kernel
theorem dX8_comes_9 : decode cX8_comes 9 = .ok (.bipush 50, 2) := by decide +kernel
theorem dX8_comes_11 : decode cX8_comes 11 = .ok (.iload_n 3, 1) := by decide +kernel
theorem dX8_comes_12 : decode cX8_comes 12 = .ok (.imul, 1) := by decide +kernel
theorem dX8_comes_13 : decode cX8_comes 13 = .ok (.istore 4, 2) := by decide +kernel
theorem dX8_comes_15 : decode cX8_comes 15 = .ok (.iconst 0, 1) := by decide +kernel
theorem dX8_comes_16 : decode cX8_comes 16 = .ok (.istore 5, 2) := by decide +kernel
theorem dX8_comes_18 : decode cX8_comes 18 = .ok (.iload 5, 2) := by decide +kernel
theorem dX8_comes_20 : decode cX8_comes 20 = .ok (.bipush 50, 2) := by decide +kernel
theorem dX8_comes_22 : decode cX8_comes 22 = .ok (.if_icmp .ge 20, 3) := by decide +kernel
theorem dX8_comes_25 : decode cX8_comes 25 = .ok (.aload_n 0, 1) := by decide +kernel
theorem dX8_comes_26 : decode cX8_comes 26 = .ok (.getfield 9, 3) := by decide +kernel
theorem dX8_comes_29 : decode cX8_comes 29 = .ok (.iload 4, 2) := by decide +kernel
theorem dX8_comes_31 : decode cX8_comes 31 = .ok (.iload 5, 2) := by decide +kernel
theorem dX8_comes_33 : decode cX8_comes 33 = .ok (.iadd, 1) := by decide +kernel
theorem dX8_comes_34 : decode cX8_comes 34 = .ok (.iconst 0, 1) := by decide +kernel
theorem dX8_comes_35 : decode cX8_comes 35 = .ok (.iastore, 1) := by decide +kernel
theorem dX8_comes_36 : decode cX8_comes 36 = .ok (.iinc 5 1, 3) := by decide +kernel
theorem dX8_comes_39 : decode cX8_comes 39 = .ok (.goto (-21), 3) := by decide +kernel
theorem dX8_comes_42 : decode cX8_comes 42 = .ok (.aload_n 0, 1) := by decide +kernel
theorem dX8_comes_43 : decode cX8_comes 43 = .ok (.getfield 9, 3) := by decide +kernel
theorem dX8_comes_46 : decode cX8_comes 46 = .ok (.iload 4, 2) := by decide +kernel
theorem dX8_comes_48 : decode cX8_comes 48 = .ok (.iconst 0, 1) := by decide +kernel
theorem dX8_comes_49 : decode cX8_comes 49 = .ok (.iadd, 1) := by decide +kernel
theorem dX8_comes_50 : decode cX8_comes 50 = .ok (.iconst 1, 1) := by decide +kernel
theorem dX8_comes_51 : decode cX8_comes 51 = .ok (.iastore, 1) := by decide +kernel
theorem dX8_comes_52 : decode cX8_comes 52 = .ok (.aload_n 0, 1) := by decide +kernel
theorem dX8_comes_53 : decode cX8_comes 53 = .ok (.getfield 9, 3) := by decide +kernel
theorem dX8_comes_56 : decode cX8_comes 56 = .ok (.iload 4, 2) := by decide +kernel
theorem dX8_comes_58 : decode cX8_comes 58 = .ok (.iconst 2, 1) := by decide +kernel
theorem dX8_comes_59 : decode cX8_comes 59 = .ok (.iadd, 1) := by decide +kernel
theorem dX8_comes_60 : decode cX8_comes 60 = .ok (.iload_n 1, 1) := by decide +kernel
theorem dX8_comes_61 : decode cX8_comes 61 = .ok (.iastore, 1) := by decide +kernel
theorem dX8_comes_62 : decode cX8_comes 62 = .ok (.aload_n 0, 1) := by decide +kernel
theorem dX8_comes_63 : decode cX8_comes 63 = .ok (.getfield 9, 3) := by decide +kernel
theorem dX8_comes_66 : decode cX8_comes 66 = .ok (.iload 4, 2) := by decide +kernel
theorem dX8_comes_68 : decode cX8_comes 68 = .ok (.iconst 2, 1) := by decide +kernel
theorem dX8_comes_69 : decode cX8_comes 69 = .ok (.iadd, 1) := by decide +kernel
theorem dX8_comes_70 : decode cX8_comes 70 = .ok (.iconst 1, 1) := by decide +kernel
theorem dX8_comes_71 : decode cX8_comes 71 = .ok (.iadd, 1) := by decide +kernel
theorem dX8_comes_72 : decode cX8_comes 72 = .ok (.iload_n 2, 1) := by decide +kernel
theorem dX8_comes_73 : decode cX8_comes 73 = .ok (.iastore, 1) := by decide +kernel
theorem dX8_comes_74 : decode cX8_comes 74 = .ok (.aload_n 0, 1) := by decide +kernel
theorem dX8_comes_75 : decode cX8_comes 75 = .ok (.getfield 9, 3) := by decide +kernel
theorem dX8_comes_78 : decode cX8_comes 78 = .ok (.iload 4, 2) := by decide +kernel
theorem dX8_comes_80 : decode cX8_comes 80 = .ok (.iconst 4, 1) := by decide +kernel
theorem dX8_comes_81 : decode cX8_comes 81 = .ok (.iadd, 1) := by decide +kernel
theorem dX8_comes_82 : decode cX8_comes 82 = .ok (.bipush (-9), 2) := by decide +kernel
theorem dX8_comes_84 : decode cX8_comes 84 = .ok (.iastore, 1) := by decide +kernel
theorem dX8_comes_85 : decode cX8_comes 85 = .ok (.aload_n 0, 1) := by decide +kernel
theorem dX8_comes_86 : decode cX8_comes 86 = .ok (.getfield 9, 3) := by decide +kernel
theorem dX8_comes_89 : decode cX8_comes 89 = .ok (.sipush 500, 3) := by decide +kernel
theorem dX8_comes_92 : decode cX8_comes 92 = .ok (.dup2, 1) := by decide +kernel
theorem dX8_comes_93 : decode cX8_comes 93 = .ok (.iaload, 1) := by decide +kernel
theorem dX8_comes_94 : decode cX8_comes 94 = .ok (.iconst 1, 1) := by decide +kernel
theorem dX8_comes_95 : decode cX8_comes 95 = .ok (.iadd, 1) := by decide +kernel
theorem dX8_comes_96 : decode cX8_comes 96 = .ok (.iastore, 1) := by decide +kernel
theorem dX8_comes_97 : decode cX8_comes 97 = .ok (.iload_n 3, 1) := by decide +kernel
theorem dX8_comes_98 : decode cX8_comes 98 = .ok (.ireturn, 1) := by decide +kernel
theorem dX8_adds_0 : decode cX8_adds 0 = .ok (.aload_n 0, 1) := by decide +kernel
theorem dX8_adds_1 : decode cX8_adds 1 = .ok (.getfield 9, 3) := by decide +kernel
theorem dX8_adds_4 : decode cX8_adds 4 = .ok (.bipush 50, 2) := by decide +kernel
theorem dX8_adds_6 : decode cX8_adds 6 = .ok (.iload_n 1, 1) := by decide +kernel
theorem dX8_adds_7 : decode cX8_adds 7 = .ok (.imul, 1) := by decide +kernel
theorem dX8_adds_8 : decode cX8_adds 8 = .ok (.bipush 6, 2) := by decide +kernel
theorem dX8_adds_10 : decode cX8_adds 10 = .ok (.iadd, 1) := by decide +kernel
theorem dX8_adds_11 : decode cX8_adds 11 = .ok (.aload_n 0, 1) := by decide +kernel
theorem dX8_adds_12 : decode cX8_adds 12 = .ok (.getfield 9, 3) := by decide +kernel
theorem dX8_adds_15 : decode cX8_adds 15 = .ok (.bipush 50, 2) := by decide +kernel
theorem dX8_adds_17 : decode cX8_adds 17 = .ok (.iload_n 1, 1) := by decide +kernel
theorem dX8_adds_18 : decode cX8_adds 18 = .ok (.imul, 1) := by decide +kernel
theorem dX8_adds_19 : decode cX8_adds 19 = .ok (.iconst 5, 1) := by decide +kernel
theorem dX8_adds_20 : decode cX8_adds 20 = .ok (.iadd, 1) := by decide +kernel
theorem dX8_adds_21 : decode cX8_adds 21 = .ok (.iaload, 1) := by decide +kernel
theorem dX8_adds_22 : decode cX8_adds 22 = .ok (.iadd, 1) := by decide +kernel
theorem dX8_adds_23 : decode cX8_adds 23 = .ok (.iload_n 2, 1) := by decide +kernel
theorem dX8_adds_24 : decode cX8_adds 24 = .ok (.iastore, 1) := by decide +kernel
theorem dX8_adds_25 : decode cX8_adds 25 = .ok (.aload_n 0, 1) := by decide +kernel
theorem dX8_adds_26 : decode cX8_adds 26 = .ok (.getfield 9, 3) := by decide +kernel
theorem dX8_adds_29 : decode cX8_adds 29 = .ok (.bipush 50, 2) := by decide +kernel
theorem dX8_adds_31 : decode cX8_adds 31 = .ok (.iload_n 1, 1) := by decide +kernel
theorem dX8_adds_32 : decode cX8_adds 32 = .ok (.imul, 1) := by decide +kernel
theorem dX8_adds_33 : decode cX8_adds 33 = .ok (.iconst 5, 1) := by decide +kernel
theorem dX8_adds_34 : decode cX8_adds 34 = .ok (.iadd, 1) := by decide +kernel
theorem dX8_adds_35 : decode cX8_adds 35 = .ok (.dup2, 1) := by decide +kernel
theorem dX8_adds_36 : decode cX8_adds 36 = .ok (.iaload, 1) := by decide +kernel
theorem dX8_adds_37 : decode cX8_adds 37 = .ok (.iconst 1, 1) := by decide +kernel
theorem dX8_adds_38 : decode cX8_adds 38 = .ok (.iadd, 1) := by decide +kernel
theorem dX8_adds_39 : decode cX8_adds 39 = .ok (.iastore, 1) := by decide +kernel
theorem dX8_adds_40 : decode cX8_adds 40 = .ok (.return_, 1) := by decide +kernel
theorem dX8_hashed_0 : decode cX8_hashed 0 = .ok (.aload_n 0, 1) := by decide +kernel
theorem dX8_hashed_1 : decode cX8_hashed 1 = .ok (.invokevirtual 84, 3) := by decide +kernel
theorem dX8_hashed_4 : decode cX8_hashed 4 = .ok (.aload_n 0, 1) := by decide +kernel
theorem dX8_hashed_5 : decode cX8_hashed 5 = .ok (.getfield 9, 3) := by decide +kernel
theorem dX8_hashed_8 : decode cX8_hashed 8 = .ok (.bipush 50, 2) := by decide +kernel
theorem dX8_hashed_10 : decode cX8_hashed 10 = .ok (.iload_n 1, 1) := by decide +kernel
theorem dX8_hashed_11 : decode cX8_hashed 11 = .ok (.imul, 1) := by decide +kernel
theorem dX8_hashed_12 : decode cX8_hashed 12 = .ok (.iconst 1, 1) := by decide +kernel
theorem dX8_hashed_13 : decode cX8_hashed 13 = .ok (.iadd, 1) := by decide +kernel
theorem dX8_hashed_14 : decode cX8_hashed 14 = .ok (.aload_n 0, 1) := by decide +kernel
theorem dX8_hashed_15 : decode cX8_hashed 15 = .ok (.iload_n 1, 1) := by decide +kernel
theorem dX8_hashed_16 : decode cX8_hashed 16 = .ok (.invokevirtual 116, 3) := by decide +kernel
theorem dX8_hashed_19 : decode cX8_hashed 19 = .ok (.iastore, 1) := by decide +kernel
theorem dX8_hashed_20 : decode cX8_hashed 20 = .ok (.iload_n 1, 1) := by decide +kernel
theorem dX8_hashed_21 : decode cX8_hashed 21 = .ok (.ireturn, 1) := by decide +kernel
theorem dX8_edited_0 : decode cX8_edited 0 = .ok (.aload_n 0, 1) := by decide +kernel
theorem dX8_edited_1 : decode cX8_edited 1 = .ok (.invokevirtual 84, 3) := by decide +kernel
theorem dX8_edited_4 : decode cX8_edited 4 = .ok (.aload_n 0, 1) := by decide +kernel
theorem dX8_edited_5 : decode cX8_edited 5 = .ok (.iload_n 1, 1) := by decide +kernel
theorem dX8_edited_6 : decode cX8_edited 6 = .ok (.bipush (-9), 2) := by decide +kernel
theorem dX8_edited_8 : decode cX8_edited 8 = .ok (.invokevirtual 119, 3) := by decide +kernel
theorem dX8_edited_11 : decode cX8_edited 11 = .ok (.istore 4, 2) := by decide +kernel
theorem dX8_edited_13 : decode cX8_edited 13 = .ok (.iconst 0, 1) := by decide +kernel
theorem dX8_edited_14 : decode cX8_edited 14 = .ok (.istore 5, 2) := by decide +kernel
theorem dX8_edited_16 : decode cX8_edited 16 = .ok (.iload 5, 2) := by decide +kernel
theorem dX8_edited_18 : decode cX8_edited 18 = .ok (.aload_n 0, 1) := by decide +kernel
theorem dX8_edited_19 : decode cX8_edited 19 = .ok (.getfield 34, 3) := by decide +kernel
theorem dX8_edited_22 : decode cX8_edited 22 = .ok (.iload_n 1, 1) := by decide +kernel
theorem dX8_edited_23 : decode cX8_edited 23 = .ok (.iaload, 1) := by decide +kernel
theorem dX8_edited_24 : decode cX8_edited 24 = .ok (.if_icmp .ge 52, 3) := by decide +kernel
theorem dX8_edited_27 : decode cX8_edited 27 = .ok (.iload 5, 2) := by decide +kernel
theorem dX8_edited_29 : decode cX8_edited 29 = .ok (.iload_n 2, 1) := by decide +kernel
theorem dX8_edited_30 : decode cX8_edited 30 = .ok (.if_icmp .ne 12, 3) := by decide +kernel
theorem dX8_edited_33 : decode cX8_edited 33 = .ok (.iload_n 3, 1) := by decide +kernel
theorem dX8_edited_34 : decode cX8_edited 34 = .ok (.bipush 8, 2) := by decide +kernel
theorem dX8_edited_36 : decode cX8_edited 36 = .ok (.if_icmp .ne 6, 3) := by decide +kernel
theorem dX8_edited_39 : decode cX8_edited 39 = .ok (.goto 31, 3) := by decide +kernel
theorem dX8_edited_42 : decode cX8_edited 42 = .ok (.aload_n 0, 1) := by decide +kernel
theorem dX8_edited_43 : decode cX8_edited 43 = .ok (.iload 4, 2) := by decide +kernel
theorem dX8_edited_45 : decode cX8_edited 45 = .ok (.iload 5, 2) := by decide +kernel
theorem dX8_edited_47 : decode cX8_edited 47 = .ok (.iload_n 2, 1) := by decide +kernel
theorem dX8_edited_48 : decode cX8_edited 48 = .ok (.if_icmp .ne 7, 3) := by decide +kernel
theorem dX8_edited_51 : decode cX8_edited 51 = .ok (.iload_n 3, 1) := by decide +kernel
theorem dX8_edited_52 : decode cX8_edited 52 = .ok (.goto 15, 3) := by decide +kernel
theorem dX8_edited_55 : decode cX8_edited 55 = .ok (.aload_n 0, 1) := by decide +kernel
theorem dX8_edited_56 : decode cX8_edited 56 = .ok (.getfield 31, 3) := by decide +kernel
theorem dX8_edited_59 : decode cX8_edited 59 = .ok (.bipush 12, 2) := by decide +kernel
theorem dX8_edited_61 : decode cX8_edited 61 = .ok (.iload_n 1, 1) := by decide +kernel
theorem dX8_edited_62 : decode cX8_edited 62 = .ok (.imul, 1) := by decide +kernel
theorem dX8_edited_63 : decode cX8_edited 63 = .ok (.iload 5, 2) := by decide +kernel
theorem dX8_edited_65 : decode cX8_edited 65 = .ok (.iadd, 1) := by decide +kernel
theorem dX8_edited_66 : decode cX8_edited 66 = .ok (.iaload, 1) := by decide +kernel
theorem dX8_edited_67 : decode cX8_edited 67 = .ok (.invokevirtual 122, 3) := by decide +kernel
theorem dX8_edited_70 : decode cX8_edited 70 = .ok (.iinc 5 1, 3) := by decide +kernel
theorem dX8_edited_73 : decode cX8_edited 73 = .ok (.goto (-57), 3) := by decide +kernel
theorem dX8_edited_76 : decode cX8_edited 76 = .ok (.iload_n 2, 1) := by decide +kernel
theorem dX8_edited_77 : decode cX8_edited 77 = .ok (.aload_n 0, 1) := by decide +kernel
theorem dX8_edited_78 : decode cX8_edited 78 = .ok (.getfield 34, 3) := by decide +kernel
theorem dX8_edited_81 : decode cX8_edited 81 = .ok (.iload_n 1, 1) := by decide +kernel
theorem dX8_edited_82 : decode cX8_edited 82 = .ok (.iaload, 1) := by decide +kernel
theorem dX8_edited_83 : decode cX8_edited 83 = .ok (.if_icmp .ne 10, 3) := by decide +kernel
theorem dX8_edited_86 : decode cX8_edited 86 = .ok (.aload_n 0, 1) := by decide +kernel
theorem dX8_edited_87 : decode cX8_edited 87 = .ok (.iload 4, 2) := by decide +kernel
theorem dX8_edited_89 : decode cX8_edited 89 = .ok (.iload_n 3, 1) := by decide +kernel
theorem dX8_edited_90 : decode cX8_edited 90 = .ok (.invokevirtual 122, 3) := by decide +kernel
theorem dX8_edited_93 : decode cX8_edited 93 = .ok (.aload_n 0, 1) := by decide +kernel
theorem dX8_edited_94 : decode cX8_edited 94 = .ok (.iload 4, 2) := by decide +kernel
theorem dX8_edited_96 : decode cX8_edited 96 = .ok (.invokevirtual 126, 3) := by decide +kernel
theorem dX8_edited_99 : decode cX8_edited 99 = .ok (.ireturn, 1) := by decide +kernel
theorem dX8_edits_0 : decode cX8_edits 0 = .ok (.aload_n 0, 1) := by decide +kernel
theorem dX8_edits_1 : decode cX8_edits 1 = .ok (.iload_n 1, 1) := by decide +kernel
theorem dX8_edits_2 : decode cX8_edits 2 = .ok (.invokevirtual 59, 3) := by decide +kernel
theorem dX8_edits_5 : decode cX8_edits 5 = .ok (.ifCond .ne 9, 3) := by decide +kernel
theorem dX8_edits_8 : decode cX8_edits 8 = .ok (.aload_n 0, 1) := by decide +kernel
theorem dX8_edits_9 : decode cX8_edits 9 = .ok (.iconst (-1), 1) := by decide +kernel
theorem dX8_edits_10 : decode cX8_edits 10 = .ok (.invokevirtual 51, 3) := by decide +kernel
theorem dX8_edits_13 : decode cX8_edits 13 = .ok (.ireturn, 1) := by decide +kernel
theorem dX8_edits_14 : decode cX8_edits 14 = .ok (.aload_n 0, 1) := by decide +kernel
theorem dX8_edits_15 : decode cX8_edits 15 = .ok (.invokevirtual 84, 3) := by decide +kernel
theorem dX8_edits_18 : decode cX8_edits 18 = .ok (.aload_n 0, 1) := by decide +kernel
theorem dX8_edits_19 : decode cX8_edits 19 = .ok (.getfield 34, 3) := by decide +kernel
theorem dX8_edits_22 : decode cX8_edits 22 = .ok (.iload_n 1, 1) := by decide +kernel
theorem dX8_edits_23 : decode cX8_edits 23 = .ok (.iaload, 1) := by decide +kernel
theorem dX8_edits_24 : decode cX8_edits 24 = .ok (.istore 4, 2) := by decide +kernel
theorem dX8_edits_26 : decode cX8_edits 26 = .ok (.iload_n 2, 1) := by decide +kernel
theorem dX8_edits_27 : decode cX8_edits 27 = .ok (.iconst 0, 1) := by decide +kernel
theorem dX8_edits_28 : decode cX8_edits 28 = .ok (.iload 4, 2) := by decide +kernel
theorem dX8_edits_30 : decode cX8_edits 30 = .ok (.invokestatic 55, 3) := by decide +kernel
theorem dX8_edits_33 : decode cX8_edits 33 = .ok (.ifCond .ne 9, 3) := by decide +kernel
theorem dX8_edits_36 : decode cX8_edits 36 = .ok (.aload_n 0, 1) := by decide +kernel
theorem dX8_edits_37 : decode cX8_edits 37 = .ok (.iconst (-1), 1) := by decide +kernel
theorem dX8_edits_38 : decode cX8_edits 38 = .ok (.invokevirtual 51, 3) := by decide +kernel
theorem dX8_edits_41 : decode cX8_edits 41 = .ok (.ireturn, 1) := by decide +kernel
theorem dX8_edits_42 : decode cX8_edits 42 = .ok (.iload_n 3, 1) := by decide +kernel
theorem dX8_edits_43 : decode cX8_edits 43 = .ok (.iconst 0, 1) := by decide +kernel
theorem dX8_edits_44 : decode cX8_edits 44 = .ok (.bipush 8, 2) := by decide +kernel
theorem dX8_edits_46 : decode cX8_edits 46 = .ok (.invokestatic 55, 3) := by decide +kernel
theorem dX8_edits_49 : decode cX8_edits 49 = .ok (.ifCond .ne 10, 3) := by decide +kernel
theorem dX8_edits_52 : decode cX8_edits 52 = .ok (.aload_n 0, 1) := by decide +kernel
theorem dX8_edits_53 : decode cX8_edits 53 = .ok (.bipush (-2), 2) := by decide +kernel
theorem dX8_edits_55 : decode cX8_edits 55 = .ok (.invokevirtual 51, 3) := by decide +kernel
theorem dX8_edits_58 : decode cX8_edits 58 = .ok (.ireturn, 1) := by decide +kernel
theorem dX8_edits_59 : decode cX8_edits 59 = .ok (.iload_n 3, 1) := by decide +kernel
theorem dX8_edits_60 : decode cX8_edits 60 = .ok (.bipush 8, 2) := by decide +kernel
theorem dX8_edits_62 : decode cX8_edits 62 = .ok (.if_icmp .ne 22, 3) := by decide +kernel
theorem dX8_edits_65 : decode cX8_edits 65 = .ok (.iload 4, 2) := by decide +kernel
theorem dX8_edits_67 : decode cX8_edits 67 = .ok (.iconst 1, 1) := by decide +kernel
theorem dX8_edits_68 : decode cX8_edits 68 = .ok (.if_icmp .eq 9, 3) := by decide +kernel
theorem dX8_edits_71 : decode cX8_edits 71 = .ok (.iload_n 2, 1) := by decide +kernel
theorem dX8_edits_72 : decode cX8_edits 72 = .ok (.iload 4, 2) := by decide +kernel
theorem dX8_edits_74 : decode cX8_edits 74 = .ok (.if_icmp .ne 10, 3) := by decide +kernel
theorem dX8_edits_77 : decode cX8_edits 77 = .ok (.aload_n 0, 1) := by decide +kernel
theorem dX8_edits_78 : decode cX8_edits 78 = .ok (.bipush (-3), 2) := by decide +kernel
theorem dX8_edits_80 : decode cX8_edits 80 = .ok (.invokevirtual 51, 3) := by decide +kernel
theorem dX8_edits_83 : decode cX8_edits 83 = .ok (.ireturn, 1) := by decide +kernel
theorem dX8_edits_84 : decode cX8_edits 84 = .ok (.iload_n 2, 1) := by decide +kernel
theorem dX8_edits_85 : decode cX8_edits 85 = .ok (.bipush 12, 2) := by decide +kernel
theorem dX8_edits_87 : decode cX8_edits 87 = .ok (.if_icmp .ne 9, 3) := by decide +kernel
theorem dX8_edits_90 : decode cX8_edits 90 = .ok (.iload_n 3, 1) := by decide +kernel
theorem dX8_edits_91 : decode cX8_edits 91 = .ok (.bipush 8, 2) := by decide +kernel
theorem dX8_edits_93 : decode cX8_edits 93 = .ok (.if_icmp .lt 16, 3) := by decide +kernel
theorem dX8_edits_96 : decode cX8_edits 96 = .ok (.aload_n 0, 1) := by decide +kernel
theorem dX8_edits_97 : decode cX8_edits 97 = .ok (.getfield 9, 3) := by decide +kernel
theorem dX8_edits_100 : decode cX8_edits 100 = .ok (.sipush 500, 3) := by decide +kernel
theorem dX8_edits_103 : decode cX8_edits 103 = .ok (.iaload, 1) := by decide +kernel
theorem dX8_edits_104 : decode cX8_edits 104 = .ok (.bipush 10, 2) := by decide +kernel
theorem dX8_edits_106 : decode cX8_edits 106 = .ok (.if_icmp .ne 10, 3) := by decide +kernel
theorem dX8_edits_109 : decode cX8_edits 109 = .ok (.aload_n 0, 1) := by decide +kernel
theorem dX8_edits_110 : decode cX8_edits 110 = .ok (.bipush (-6), 2) := by decide +kernel
theorem dX8_edits_112 : decode cX8_edits 112 = .ok (.invokevirtual 51, 3) := by decide +kernel
theorem dX8_edits_115 : decode cX8_edits 115 = .ok (.ireturn, 1) := by decide +kernel
theorem dX8_edits_116 : decode cX8_edits 116 = .ok (.aload_n 0, 1) := by decide +kernel
theorem dX8_edits_117 : decode cX8_edits 117 = .ok (.iload_n 1, 1) := by decide +kernel
theorem dX8_edits_118 : decode cX8_edits 118 = .ok (.iload_n 2, 1) := by decide +kernel
theorem dX8_edits_119 : decode cX8_edits 119 = .ok (.iload_n 3, 1) := by decide +kernel
theorem dX8_edits_120 : decode cX8_edits 120 = .ok (.invokevirtual 129, 3) := by decide +kernel
theorem dX8_edits_123 : decode cX8_edits 123 = .ok (.ireturn, 1) := by decide +kernel
theorem dX8_merges_0 : decode cX8_merges 0 = .ok (.aload_n 0, 1) := by decide +kernel
theorem dX8_merges_1 : decode cX8_merges 1 = .ok (.iload_n 1, 1) := by decide +kernel
theorem dX8_merges_2 : decode cX8_merges 2 = .ok (.invokevirtual 59, 3) := by decide +kernel
theorem dX8_merges_5 : decode cX8_merges 5 = .ok (.ifCond .eq 11, 3) := by decide +kernel
theorem dX8_merges_8 : decode cX8_merges 8 = .ok (.aload_n 0, 1) := by decide +kernel
theorem dX8_merges_9 : decode cX8_merges 9 = .ok (.iload_n 2, 1) := by decide +kernel
theorem dX8_merges_10 : decode cX8_merges 10 = .ok (.invokevirtual 59, 3) := by decide +kernel
theorem dX8_merges_13 : decode cX8_merges 13 = .ok (.ifCond .ne 9, 3) := by decide +kernel
theorem dX8_merges_16 : decode cX8_merges 16 = .ok (.aload_n 0, 1) := by decide +kernel
theorem dX8_merges_17 : decode cX8_merges 17 = .ok (.iconst (-1), 1) := by decide +kernel
theorem dX8_merges_18 : decode cX8_merges 18 = .ok (.invokevirtual 51, 3) := by decide +kernel
theorem dX8_merges_21 : decode cX8_merges 21 = .ok (.ireturn, 1) := by decide +kernel
theorem dX8_merges_22 : decode cX8_merges 22 = .ok (.iload_n 1, 1) := by decide +kernel
theorem dX8_merges_23 : decode cX8_merges 23 = .ok (.iload_n 2, 1) := by decide +kernel
theorem dX8_merges_24 : decode cX8_merges 24 = .ok (.if_icmp .ne 10, 3) := by decide +kernel
theorem dX8_merges_27 : decode cX8_merges 27 = .ok (.aload_n 0, 1) := by decide +kernel
theorem dX8_merges_28 : decode cX8_merges 28 = .ok (.bipush (-3), 2) := by decide +kernel
theorem dX8_merges_30 : decode cX8_merges 30 = .ok (.invokevirtual 51, 3) := by decide +kernel
theorem dX8_merges_33 : decode cX8_merges 33 = .ok (.ireturn, 1) := by decide +kernel
theorem dX8_merges_34 : decode cX8_merges 34 = .ok (.aload_n 0, 1) := by decide +kernel
theorem dX8_merges_35 : decode cX8_merges 35 = .ok (.getfield 9, 3) := by decide +kernel
theorem dX8_merges_38 : decode cX8_merges 38 = .ok (.sipush 500, 3) := by decide +kernel
theorem dX8_merges_41 : decode cX8_merges 41 = .ok (.iaload, 1) := by decide +kernel
theorem dX8_merges_42 : decode cX8_merges 42 = .ok (.bipush 10, 2) := by decide +kernel
theorem dX8_merges_44 : decode cX8_merges 44 = .ok (.if_icmp .ne 10, 3) := by decide +kernel
theorem dX8_merges_47 : decode cX8_merges 47 = .ok (.aload_n 0, 1) := by decide +kernel
theorem dX8_merges_48 : decode cX8_merges 48 = .ok (.bipush (-6), 2) := by decide +kernel
theorem dX8_merges_50 : decode cX8_merges 50 = .ok (.invokevirtual 51, 3) := by decide +kernel
theorem dX8_merges_53 : decode cX8_merges 53 = .ok (.ireturn, 1) := by decide +kernel
theorem dX8_merges_54 : decode cX8_merges 54 = .ok (.aload_n 0, 1) := by decide +kernel
theorem dX8_merges_55 : decode cX8_merges 55 = .ok (.invokevirtual 84, 3) := by decide +kernel
theorem dX8_merges_58 : decode cX8_merges 58 = .ok (.aload_n 0, 1) := by decide +kernel
theorem dX8_merges_59 : decode cX8_merges 59 = .ok (.iload_n 1, 1) := by decide +kernel
theorem dX8_merges_60 : decode cX8_merges 60 = .ok (.iload_n 2, 1) := by decide +kernel
theorem dX8_merges_61 : decode cX8_merges 61 = .ok (.invokevirtual 119, 3) := by decide +kernel
theorem dX8_merges_64 : decode cX8_merges 64 = .ok (.istore_n 3, 1) := by decide +kernel
theorem dX8_merges_65 : decode cX8_merges 65 = .ok (.iconst 0, 1) := by decide +kernel
theorem dX8_merges_66 : decode cX8_merges 66 = .ok (.istore 4, 2) := by decide +kernel
theorem dX8_merges_68 : decode cX8_merges 68 = .ok (.iload 4, 2) := by decide +kernel
theorem dX8_merges_70 : decode cX8_merges 70 = .ok (.aload_n 0, 1) := by decide +kernel
theorem dX8_merges_71 : decode cX8_merges 71 = .ok (.getfield 34, 3) := by decide +kernel
theorem dX8_merges_74 : decode cX8_merges 74 = .ok (.iload_n 1, 1) := by decide +kernel
theorem dX8_merges_75 : decode cX8_merges 75 = .ok (.iaload, 1) := by decide +kernel
theorem dX8_merges_76 : decode cX8_merges 76 = .ok (.if_icmp .ge 26, 3) := by decide +kernel
theorem dX8_merges_79 : decode cX8_merges 79 = .ok (.aload_n 0, 1) := by decide +kernel
theorem dX8_merges_80 : decode cX8_merges 80 = .ok (.iload_n 3, 1) := by decide +kernel
theorem dX8_merges_81 : decode cX8_merges 81 = .ok (.aload_n 0, 1) := by decide +kernel
theorem dX8_merges_82 : decode cX8_merges 82 = .ok (.getfield 31, 3) := by decide +kernel
theorem dX8_merges_85 : decode cX8_merges 85 = .ok (.bipush 12, 2) := by decide +kernel
theorem dX8_merges_87 : decode cX8_merges 87 = .ok (.iload_n 1, 1) := by decide +kernel
theorem dX8_merges_88 : decode cX8_merges 88 = .ok (.imul, 1) := by decide +kernel
theorem dX8_merges_89 : decode cX8_merges 89 = .ok (.iload 4, 2) := by decide +kernel
theorem dX8_merges_91 : decode cX8_merges 91 = .ok (.iadd, 1) := by decide +kernel
theorem dX8_merges_92 : decode cX8_merges 92 = .ok (.iaload, 1) := by decide +kernel
theorem dX8_merges_93 : decode cX8_merges 93 = .ok (.invokevirtual 122, 3) := by decide +kernel
theorem dX8_merges_96 : decode cX8_merges 96 = .ok (.iinc 4 1, 3) := by decide +kernel
theorem dX8_merges_99 : decode cX8_merges 99 = .ok (.goto (-31), 3) := by decide +kernel
theorem dX8_merges_102 : decode cX8_merges 102 = .ok (.aload_n 0, 1) := by decide +kernel
theorem dX8_merges_103 : decode cX8_merges 103 = .ok (.iload_n 3, 1) := by decide +kernel
theorem dX8_merges_104 : decode cX8_merges 104 = .ok (.invokevirtual 126, 3) := by decide +kernel
theorem dX8_merges_107 : decode cX8_merges 107 = .ok (.ireturn, 1) := by decide +kernel
theorem dX8_heads_0 : decode cX8_heads 0 = .ok (.iload_n 1, 1) := by decide +kernel
theorem dX8_heads_1 : decode cX8_heads 1 = .ok (.iconst 0, 1) := by decide +kernel
theorem dX8_heads_2 : decode cX8_heads 2 = .ok (.iconst 3, 1) := by decide +kernel
theorem dX8_heads_3 : decode cX8_heads 3 = .ok (.invokestatic 55, 3) := by decide +kernel
theorem dX8_heads_6 : decode cX8_heads 6 = .ok (.ifCond .eq 16, 3) := by decide +kernel
theorem dX8_heads_9 : decode cX8_heads 9 = .ok (.iload_n 2, 1) := by decide +kernel
theorem dX8_heads_10 : decode cX8_heads 10 = .ok (.iconst (-1), 1) := by decide +kernel
theorem dX8_heads_11 : decode cX8_heads 11 = .ok (.if_icmp .eq 17, 3) := by decide +kernel
theorem dX8_heads_14 : decode cX8_heads 14 = .ok (.aload_n 0, 1) := by decide +kernel
theorem dX8_heads_15 : decode cX8_heads 15 = .ok (.iload_n 2, 1) := by decide +kernel
theorem dX8_heads_16 : decode cX8_heads 16 = .ok (.invokevirtual 59, 3) := by decide +kernel
theorem dX8_heads_19 : decode cX8_heads 19 = .ok (.ifCond .ne 9, 3) := by decide +kernel
theorem dX8_heads_22 : decode cX8_heads 22 = .ok (.aload_n 0, 1) := by decide +kernel
theorem dX8_heads_23 : decode cX8_heads 23 = .ok (.iconst (-1), 1) := by decide +kernel
theorem dX8_heads_24 : decode cX8_heads 24 = .ok (.invokevirtual 51, 3) := by decide +kernel
theorem dX8_heads_27 : decode cX8_heads 27 = .ok (.ireturn, 1) := by decide +kernel
theorem dX8_heads_28 : decode cX8_heads 28 = .ok (.aload_n 0, 1) := by decide +kernel
theorem dX8_heads_29 : decode cX8_heads 29 = .ok (.getfield 9, 3) := by decide +kernel
theorem dX8_heads_32 : decode cX8_heads 32 = .ok (.sipush 501, 3) := by decide +kernel
theorem dX8_heads_35 : decode cX8_heads 35 = .ok (.iload_n 1, 1) := by decide +kernel
theorem dX8_heads_36 : decode cX8_heads 36 = .ok (.iadd, 1) := by decide +kernel
theorem dX8_heads_37 : decode cX8_heads 37 = .ok (.iaload, 1) := by decide +kernel
theorem dX8_heads_38 : decode cX8_heads 38 = .ok (.istore_n 3, 1) := by decide +kernel
theorem dX8_heads_39 : decode cX8_heads 39 = .ok (.aload_n 0, 1) := by decide +kernel
theorem dX8_heads_40 : decode cX8_heads 40 = .ok (.getfield 9, 3) := by decide +kernel
theorem dX8_heads_43 : decode cX8_heads 43 = .ok (.sipush 501, 3) := by decide +kernel
theorem dX8_heads_46 : decode cX8_heads 46 = .ok (.iload_n 1, 1) := by decide +kernel
theorem dX8_heads_47 : decode cX8_heads 47 = .ok (.iadd, 1) := by decide +kernel
theorem dX8_heads_48 : decode cX8_heads 48 = .ok (.iload_n 2, 1) := by decide +kernel
theorem dX8_heads_49 : decode cX8_heads 49 = .ok (.iconst (-1), 1) := by decide +kernel
theorem dX8_heads_50 : decode cX8_heads 50 = .ok (.if_icmp .ne 8, 3) := by decide +kernel
theorem dX8_heads_53 : decode cX8_heads 53 = .ok (.bipush (-9), 2) := by decide +kernel
theorem dX8_heads_55 : decode cX8_heads 55 = .ok (.goto 4, 3) := by decide +kernel
theorem dX8_heads_58 : decode cX8_heads 58 = .ok (.iload_n 2, 1) := by decide +kernel
theorem dX8_heads_59 : decode cX8_heads 59 = .ok (.iastore, 1) := by decide +kernel
theorem dX8_heads_60 : decode cX8_heads 60 = .ok (.iload_n 3, 1) := by decide +kernel
theorem dX8_heads_61 : decode cX8_heads 61 = .ok (.ireturn, 1) := by decide +kernel
theorem dX8_kind_0 : decode cX8_kind 0 = .ok (.iload_n 1, 1) := by decide +kernel
theorem dX8_kind_1 : decode cX8_kind 1 = .ok (.iconst 0, 1) := by decide +kernel
theorem dX8_kind_2 : decode cX8_kind 2 = .ok (.iconst 5, 1) := by decide +kernel
theorem dX8_kind_3 : decode cX8_kind 3 = .ok (.invokestatic 55, 3) := by decide +kernel
theorem dX8_kind_6 : decode cX8_kind 6 = .ok (.ifCond .ne 10, 3) := by decide +kernel
theorem dX8_kind_9 : decode cX8_kind 9 = .ok (.aload_n 0, 1) := by decide +kernel
theorem dX8_kind_10 : decode cX8_kind 10 = .ok (.bipush (-2), 2) := by decide +kernel
theorem dX8_kind_12 : decode cX8_kind 12 = .ok (.invokevirtual 51, 3) := by decide +kernel
theorem dX8_kind_15 : decode cX8_kind 15 = .ok (.ireturn, 1) := by decide +kernel
theorem dX8_kind_16 : decode cX8_kind 16 = .ok (.iload_n 2, 1) := by decide +kernel
theorem dX8_kind_17 : decode cX8_kind 17 = .ok (.ifCond .ge 10, 3) := by decide +kernel
theorem dX8_kind_20 : decode cX8_kind 20 = .ok (.aload_n 0, 1) := by decide +kernel
theorem dX8_kind_21 : decode cX8_kind 21 = .ok (.bipush (-4), 2) := by decide +kernel
theorem dX8_kind_23 : decode cX8_kind 23 = .ok (.invokevirtual 51, 3) := by decide +kernel
theorem dX8_kind_26 : decode cX8_kind 26 = .ok (.ireturn, 1) := by decide +kernel
theorem dX8_kind_27 : decode cX8_kind 27 = .ok (.iload_n 2, 1) := by decide +kernel
theorem dX8_kind_28 : decode cX8_kind 28 = .ok (.bipush 9, 2) := by decide +kernel
theorem dX8_kind_30 : decode cX8_kind 30 = .ok (.if_icmp .le 10, 3) := by decide +kernel
theorem dX8_kind_33 : decode cX8_kind 33 = .ok (.aload_n 0, 1) := by decide +kernel
theorem dX8_kind_34 : decode cX8_kind 34 = .ok (.bipush (-6), 2) := by decide +kernel
theorem dX8_kind_36 : decode cX8_kind 36 = .ok (.invokevirtual 51, 3) := by decide +kernel
theorem dX8_kind_39 : decode cX8_kind 39 = .ok (.ireturn, 1) := by decide +kernel
theorem dX8_kind_40 : decode cX8_kind 40 = .ok (.bipush 10, 2) := by decide +kernel
theorem dX8_kind_42 : decode cX8_kind 42 = .ok (.aload_n 0, 1) := by decide +kernel
theorem dX8_kind_43 : decode cX8_kind 43 = .ok (.getfield 9, 3) := by decide +kernel
theorem dX8_kind_46 : decode cX8_kind 46 = .ok (.sipush 505, 3) := by decide +kernel
theorem dX8_kind_49 : decode cX8_kind 49 = .ok (.iaload, 1) := by decide +kernel
theorem dX8_kind_50 : decode cX8_kind 50 = .ok (.imul, 1) := by decide +kernel
theorem dX8_kind_51 : decode cX8_kind 51 = .ok (.aload_n 0, 1) := by decide +kernel
theorem dX8_kind_52 : decode cX8_kind 52 = .ok (.getfield 9, 3) := by decide +kernel
theorem dX8_kind_55 : decode cX8_kind 55 = .ok (.sipush 506, 3) := by decide +kernel
theorem dX8_kind_58 : decode cX8_kind 58 = .ok (.iaload, 1) := by decide +kernel
theorem dX8_kind_59 : decode cX8_kind 59 = .ok (.iadd, 1) := by decide +kernel
theorem dX8_kind_60 : decode cX8_kind 60 = .ok (.istore_n 3, 1) := by decide +kernel
theorem dX8_kind_61 : decode cX8_kind 61 = .ok (.aload_n 0, 1) := by decide +kernel
theorem dX8_kind_62 : decode cX8_kind 62 = .ok (.getfield 9, 3) := by decide +kernel
theorem dX8_kind_65 : decode cX8_kind 65 = .ok (.sipush 505, 3) := by decide +kernel
theorem dX8_kind_68 : decode cX8_kind 68 = .ok (.iload_n 1, 1) := by decide +kernel
theorem dX8_kind_69 : decode cX8_kind 69 = .ok (.iastore, 1) := by decide +kernel
theorem dX8_kind_70 : decode cX8_kind 70 = .ok (.aload_n 0, 1) := by decide +kernel
theorem dX8_kind_71 : decode cX8_kind 71 = .ok (.getfield 9, 3) := by decide +kernel
theorem dX8_kind_74 : decode cX8_kind 74 = .ok (.sipush 506, 3) := by decide +kernel
theorem dX8_kind_77 : decode cX8_kind 77 = .ok (.iload_n 2, 1) := by decide +kernel
theorem dX8_kind_78 : decode cX8_kind 78 = .ok (.iastore, 1) := by decide +kernel
theorem dX8_kind_79 : decode cX8_kind 79 = .ok (.iload_n 3, 1) := by decide +kernel
theorem dX8_kind_80 : decode cX8_kind 80 = .ok (.ireturn, 1) := by decide +kernel
theorem dX8_bound_0 : decode cX8_bound 0 = .ok (.iload_n 1, 1) := by decide +kernel
theorem dX8_bound_1 : decode cX8_bound 1 = .ok (.ifCond .ge 10, 3) := by decide +kernel
theorem dX8_bound_4 : decode cX8_bound 4 = .ok (.aload_n 0, 1) := by decide +kernel
theorem dX8_bound_5 : decode cX8_bound 5 = .ok (.bipush (-4), 2) := by decide +kernel
theorem dX8_bound_7 : decode cX8_bound 7 = .ok (.invokevirtual 51, 3) := by decide +kernel
theorem dX8_bound_10 : decode cX8_bound 10 = .ok (.ireturn, 1) := by decide +kernel
theorem dX8_bound_11 : decode cX8_bound 11 = .ok (.iload_n 1, 1) := by decide +kernel
theorem dX8_bound_12 : decode cX8_bound 12 = .ok (.bipush 8, 2) := by decide +kernel
theorem dX8_bound_14 : decode cX8_bound 14 = .ok (.if_icmp .le 10, 3) := by decide +kernel
theorem dX8_bound_17 : decode cX8_bound 17 = .ok (.aload_n 0, 1) := by decide +kernel
theorem dX8_bound_18 : decode cX8_bound 18 = .ok (.bipush (-6), 2) := by decide +kernel
theorem dX8_bound_20 : decode cX8_bound 20 = .ok (.invokevirtual 51, 3) := by decide +kernel
theorem dX8_bound_23 : decode cX8_bound 23 = .ok (.ireturn, 1) := by decide +kernel
theorem dX8_bound_24 : decode cX8_bound 24 = .ok (.aload_n 0, 1) := by decide +kernel
theorem dX8_bound_25 : decode cX8_bound 25 = .ok (.getfield 9, 3) := by decide +kernel
theorem dX8_bound_28 : decode cX8_bound 28 = .ok (.sipush 507, 3) := by decide +kernel
theorem dX8_bound_31 : decode cX8_bound 31 = .ok (.iaload, 1) := by decide +kernel
theorem dX8_bound_32 : decode cX8_bound 32 = .ok (.istore_n 2, 1) := by decide +kernel
theorem dX8_bound_33 : decode cX8_bound 33 = .ok (.aload_n 0, 1) := by decide +kernel
theorem dX8_bound_34 : decode cX8_bound 34 = .ok (.getfield 9, 3) := by decide +kernel
theorem dX8_bound_37 : decode cX8_bound 37 = .ok (.sipush 507, 3) := by decide +kernel
theorem dX8_bound_40 : decode cX8_bound 40 = .ok (.iload_n 1, 1) := by decide +kernel
theorem dX8_bound_41 : decode cX8_bound 41 = .ok (.iastore, 1) := by decide +kernel
theorem dX8_bound_42 : decode cX8_bound 42 = .ok (.iload_n 2, 1) := by decide +kernel
theorem dX8_bound_43 : decode cX8_bound 43 = .ok (.ireturn, 1) := by decide +kernel
theorem dX8_repack_0 : decode cX8_repack 0 = .ok (.aload_n 0, 1) := by decide +kernel
theorem dX8_repack_1 : decode cX8_repack 1 = .ok (.invokevirtual 133, 3) := by decide +kernel
theorem dX8_repack_4 : decode cX8_repack 4 = .ok (.ireturn, 1) := by decide +kernel
theorem dX8_reachedFrom_0 : decode cX8_reachedFrom 0 = .ok (.iconst 1, 1) := by decide +kernel
theorem dX8_reachedFrom_1 : decode cX8_reachedFrom 1 = .ok (.iload_n 1, 1) := by decide +kernel
theorem dX8_reachedFrom_2 : decode cX8_reachedFrom 2 = .ok (.ishl, 1) := by decide +kernel
theorem dX8_reachedFrom_3 : decode cX8_reachedFrom 3 = .ok (.istore_n 2, 1) := by decide +kernel
theorem dX8_reachedFrom_4 : decode cX8_reachedFrom 4 = .ok (.iconst 0, 1) := by decide +kernel
theorem dX8_reachedFrom_5 : decode cX8_reachedFrom 5 = .ok (.istore_n 3, 1) := by decide +kernel
theorem dX8_reachedFrom_6 : decode cX8_reachedFrom 6 = .ok (.iload_n 3, 1) := by decide +kernel
theorem dX8_reachedFrom_7 : decode cX8_reachedFrom 7 = .ok (.bipush 10, 2) := by decide +kernel
theorem dX8_reachedFrom_9 : decode cX8_reachedFrom 9 = .ok (.if_icmp .ge 15, 3) := by decide +kernel
theorem dX8_reachedFrom_12 : decode cX8_reachedFrom 12 = .ok (.aload_n 0, 1) := by decide +kernel
theorem dX8_reachedFrom_13 : decode cX8_reachedFrom 13 = .ok (.iload_n 2, 1) := by decide +kernel
theorem dX8_reachedFrom_14 : decode cX8_reachedFrom 14 = .ok (.invokevirtual 136, 3) := by decide +kernel
theorem dX8_reachedFrom_17 : decode cX8_reachedFrom 17 = .ok (.istore_n 2, 1) := by decide +kernel
theorem dX8_reachedFrom_18 : decode cX8_reachedFrom 18 = .ok (.iinc 3 1, 3) := by decide +kernel
theorem dX8_reachedFrom_21 : decode cX8_reachedFrom 21 = .ok (.goto (-15), 3) := by decide +kernel
theorem dX8_reachedFrom_24 : decode cX8_reachedFrom 24 = .ok (.iload_n 2, 1) := by decide +kernel
theorem dX8_reachedFrom_25 : decode cX8_reachedFrom 25 = .ok (.ireturn, 1) := by decide +kernel
theorem dX8_widened_0 : decode cX8_widened 0 = .ok (.iload_n 1, 1) := by decide +kernel
theorem dX8_widened_1 : decode cX8_widened 1 = .ok (.istore_n 2, 1) := by decide +kernel
theorem dX8_widened_2 : decode cX8_widened 2 = .ok (.iconst 0, 1) := by decide +kernel
theorem dX8_widened_3 : decode cX8_widened 3 = .ok (.istore_n 3, 1) := by decide +kernel
theorem dX8_widened_4 : decode cX8_widened 4 = .ok (.iload_n 3, 1) := by decide +kernel
theorem dX8_widened_5 : decode cX8_widened 5 = .ok (.aload_n 0, 1) := by decide +kernel
theorem dX8_widened_6 : decode cX8_widened 6 = .ok (.getfield 9, 3) := by decide +kernel
theorem dX8_widened_9 : decode cX8_widened 9 = .ok (.sipush 500, 3) := by decide +kernel
theorem dX8_widened_12 : decode cX8_widened 12 = .ok (.iaload, 1) := by decide +kernel
theorem dX8_widened_13 : decode cX8_widened 13 = .ok (.if_icmp .ge 69, 3) := by decide +kernel
theorem dX8_widened_16 : decode cX8_widened 16 = .ok (.iconst 0, 1) := by decide +kernel
theorem dX8_widened_17 : decode cX8_widened 17 = .ok (.istore 4, 2) := by decide +kernel
theorem dX8_widened_19 : decode cX8_widened 19 = .ok (.iload 4, 2) := by decide +kernel
theorem dX8_widened_21 : decode cX8_widened 21 = .ok (.iconst 2, 1) := by decide +kernel
theorem dX8_widened_22 : decode cX8_widened 22 = .ok (.if_icmp .ge 54, 3) := by decide +kernel
theorem dX8_widened_25 : decode cX8_widened 25 = .ok (.iload_n 1, 1) := by decide +kernel
theorem dX8_widened_26 : decode cX8_widened 26 = .ok (.iload_n 3, 1) := by decide +kernel
theorem dX8_widened_27 : decode cX8_widened 27 = .ok (.ishr, 1) := by decide +kernel
theorem dX8_widened_28 : decode cX8_widened 28 = .ok (.iconst 1, 1) := by decide +kernel
theorem dX8_widened_29 : decode cX8_widened 29 = .ok (.iand, 1) := by decide +kernel
theorem dX8_widened_30 : decode cX8_widened 30 = .ok (.iconst 1, 1) := by decide +kernel
theorem dX8_widened_31 : decode cX8_widened 31 = .ok (.if_icmp .ne 45, 3) := by decide +kernel
theorem dX8_widened_34 : decode cX8_widened 34 = .ok (.aload_n 0, 1) := by decide +kernel
theorem dX8_widened_35 : decode cX8_widened 35 = .ok (.getfield 9, 3) := by decide +kernel
theorem dX8_widened_38 : decode cX8_widened 38 = .ok (.bipush 50, 2) := by decide +kernel
theorem dX8_widened_40 : decode cX8_widened 40 = .ok (.iload_n 3, 1) := by decide +kernel
theorem dX8_widened_41 : decode cX8_widened 41 = .ok (.imul, 1) := by decide +kernel
theorem dX8_widened_42 : decode cX8_widened 42 = .ok (.iconst 2, 1) := by decide +kernel
theorem dX8_widened_43 : decode cX8_widened 43 = .ok (.iadd, 1) := by decide +kernel
theorem dX8_widened_44 : decode cX8_widened 44 = .ok (.iload 4, 2) := by decide +kernel
theorem dX8_widened_46 : decode cX8_widened 46 = .ok (.iadd, 1) := by decide +kernel
theorem dX8_widened_47 : decode cX8_widened 47 = .ok (.iaload, 1) := by decide +kernel
theorem dX8_widened_48 : decode cX8_widened 48 = .ok (.ifCond .lt 22, 3) := by decide +kernel
theorem dX8_widened_51 : decode cX8_widened 51 = .ok (.iload_n 2, 1) := by decide +kernel
theorem dX8_widened_52 : decode cX8_widened 52 = .ok (.iconst 1, 1) := by decide +kernel
theorem dX8_widened_53 : decode cX8_widened 53 = .ok (.aload_n 0, 1) := by decide +kernel
theorem dX8_widened_54 : decode cX8_widened 54 = .ok (.getfield 9, 3) := by decide +kernel
theorem dX8_widened_57 : decode cX8_widened 57 = .ok (.bipush 50, 2) := by decide +kernel
theorem dX8_widened_59 : decode cX8_widened 59 = .ok (.iload_n 3, 1) := by decide +kernel
theorem dX8_widened_60 : decode cX8_widened 60 = .ok (.imul, 1) := by decide +kernel
theorem dX8_widened_61 : decode cX8_widened 61 = .ok (.iconst 2, 1) := by decide +kernel
theorem dX8_widened_62 : decode cX8_widened 62 = .ok (.iadd, 1) := by decide +kernel
theorem dX8_widened_63 : decode cX8_widened 63 = .ok (.iload 4, 2) := by decide +kernel
theorem dX8_widened_65 : decode cX8_widened 65 = .ok (.iadd, 1) := by decide +kernel
theorem dX8_widened_66 : decode cX8_widened 66 = .ok (.iaload, 1) := by decide +kernel
theorem dX8_widened_67 : decode cX8_widened 67 = .ok (.ishl, 1) := by decide +kernel
theorem dX8_widened_68 : decode cX8_widened 68 = .ok (.ior, 1) := by decide +kernel
theorem dX8_widened_69 : decode cX8_widened 69 = .ok (.istore_n 2, 1) := by decide +kernel
theorem dX8_widened_70 : decode cX8_widened 70 = .ok (.iinc 4 1, 3) := by decide +kernel
theorem dX8_widened_73 : decode cX8_widened 73 = .ok (.goto (-54), 3) := by decide +kernel
theorem dX8_widened_76 : decode cX8_widened 76 = .ok (.iinc 3 1, 3) := by decide +kernel
theorem dX8_widened_79 : decode cX8_widened 79 = .ok (.goto (-75), 3) := by decide +kernel
theorem dX8_widened_82 : decode cX8_widened 82 = .ok (.iload_n 2, 1) := by decide +kernel
theorem dX8_widened_83 : decode cX8_widened 83 = .ok (.ireturn, 1) := by decide +kernel
theorem dX8_there_0 : decode cX8_there 0 = .ok (.iconst 0, 1) := by decide +kernel
theorem dX8_there_1 : decode cX8_there 1 = .ok (.istore_n 1, 1) := by decide +kernel
theorem dX8_there_2 : decode cX8_there 2 = .ok (.iconst 0, 1) := by decide +kernel
theorem dX8_there_3 : decode cX8_there 3 = .ok (.istore_n 2, 1) := by decide +kernel
theorem dX8_there_4 : decode cX8_there 4 = .ok (.iload_n 2, 1) := by decide +kernel
theorem dX8_there_5 : decode cX8_there 5 = .ok (.bipush 10, 2) := by decide +kernel
theorem dX8_there_7 : decode cX8_there 7 = .ok (.if_icmp .ge 27, 3) := by decide +kernel
theorem dX8_there_10 : decode cX8_there 10 = .ok (.iload_n 1, 1) := by decide +kernel
theorem dX8_there_11 : decode cX8_there 11 = .ok (.aload_n 0, 1) := by decide +kernel
theorem dX8_there_12 : decode cX8_there 12 = .ok (.iload_n 2, 1) := by decide +kernel
theorem dX8_there_13 : decode cX8_there 13 = .ok (.invokevirtual 59, 3) := by decide +kernel
theorem dX8_there_16 : decode cX8_there 16 = .ok (.ifCond .eq 9, 3) := by decide +kernel
theorem dX8_there_19 : decode cX8_there 19 = .ok (.iconst 1, 1) := by decide +kernel
theorem dX8_there_20 : decode cX8_there 20 = .ok (.iload_n 2, 1) := by decide +kernel
theorem dX8_there_21 : decode cX8_there 21 = .ok (.ishl, 1) := by decide +kernel
theorem dX8_there_22 : decode cX8_there 22 = .ok (.goto 4, 3) := by decide +kernel
theorem dX8_there_25 : decode cX8_there 25 = .ok (.iconst 0, 1) := by decide +kernel
theorem dX8_there_26 : decode cX8_there 26 = .ok (.ior, 1) := by decide +kernel
theorem dX8_there_27 : decode cX8_there 27 = .ok (.istore_n 1, 1) := by decide +kernel
theorem dX8_there_28 : decode cX8_there 28 = .ok (.iinc 2 1, 3) := by decide +kernel
theorem dX8_there_31 : decode cX8_there 31 = .ok (.goto (-27), 3) := by decide +kernel
theorem dX8_there_34 : decode cX8_there 34 = .ok (.iload_n 1, 1) := by decide +kernel
theorem dX8_there_35 : decode cX8_there 35 = .ok (.ireturn, 1) := by decide +kernel
theorem dX8_reachedByHeads_0 : decode cX8_reachedByHeads 0 = .ok (.iconst 0, 1) := by decide +kernel
theorem dX8_reachedByHeads_1 : decode cX8_reachedByHeads 1 = .ok (.istore_n 1, 1) := by decide +kernel
theorem dX8_reachedByHeads_2 : decode cX8_reachedByHeads 2 = .ok (.iconst 0, 1) := by decide +kernel
theorem dX8_reachedByHeads_3 : decode cX8_reachedByHeads 3 = .ok (.istore_n 2, 1) := by decide +kernel
theorem dX8_reachedByHeads_4 : decode cX8_reachedByHeads 4 = .ok (.iload_n 2, 1) := by decide +kernel
theorem dX8_reachedByHeads_5 : decode cX8_reachedByHeads 5 = .ok (.iconst 4, 1) := by decide +kernel
theorem dX8_reachedByHeads_6 : decode cX8_reachedByHeads 6 = .ok (.if_icmp .ge 45, 3) := by decide +kernel
theorem dX8_reachedByHeads_9 : decode cX8_reachedByHeads 9 = .ok (.iload_n 1, 1) := by decide +kernel
theorem dX8_reachedByHeads_10 : decode cX8_reachedByHeads 10 = .ok (.aload_n 0, 1) := by decide +kernel
theorem dX8_reachedByHeads_11 : decode cX8_reachedByHeads 11 = .ok (.getfield 9, 3) := by decide +kernel
theorem dX8_reachedByHeads_14 : decode cX8_reachedByHeads 14 = .ok (.sipush 501, 3) := by decide +kernel
theorem dX8_reachedByHeads_17 : decode cX8_reachedByHeads 17 = .ok (.iload_n 2, 1) := by decide +kernel
theorem dX8_reachedByHeads_18 : decode cX8_reachedByHeads 18 = .ok (.iadd, 1) := by decide +kernel
theorem dX8_reachedByHeads_19 : decode cX8_reachedByHeads 19 = .ok (.iaload, 1) := by decide +kernel
theorem dX8_reachedByHeads_20 : decode cX8_reachedByHeads 20 = .ok (.bipush (-9), 2) := by decide +kernel
theorem dX8_reachedByHeads_22 : decode cX8_reachedByHeads 22 = .ok (.if_icmp .ne 7, 3) := by decide +kernel
theorem dX8_reachedByHeads_25 : decode cX8_reachedByHeads 25 = .ok (.iconst 0, 1) := by decide +kernel
theorem dX8_reachedByHeads_26 : decode cX8_reachedByHeads 26 = .ok (.goto 17, 3) := by decide +kernel
theorem dX8_reachedByHeads_29 : decode cX8_reachedByHeads 29 = .ok (.aload_n 0, 1) := by decide +kernel
theorem dX8_reachedByHeads_30 : decode cX8_reachedByHeads 30 = .ok (.aload_n 0, 1) := by decide +kernel
theorem dX8_reachedByHeads_31 : decode cX8_reachedByHeads 31 = .ok (.getfield 9, 3) := by decide +kernel
theorem dX8_reachedByHeads_34 : decode cX8_reachedByHeads 34 = .ok (.sipush 501, 3) := by decide +kernel
theorem dX8_reachedByHeads_37 : decode cX8_reachedByHeads 37 = .ok (.iload_n 2, 1) := by decide +kernel
theorem dX8_reachedByHeads_38 : decode cX8_reachedByHeads 38 = .ok (.iadd, 1) := by decide +kernel
theorem dX8_reachedByHeads_39 : decode cX8_reachedByHeads 39 = .ok (.iaload, 1) := by decide +kernel
theorem dX8_reachedByHeads_40 : decode cX8_reachedByHeads 40 = .ok (.invokevirtual 139, 3) := by decide +kernel
theorem dX8_reachedByHeads_43 : decode cX8_reachedByHeads 43 = .ok (.ior, 1) := by decide +kernel
theorem dX8_reachedByHeads_44 : decode cX8_reachedByHeads 44 = .ok (.istore_n 1, 1) := by decide +kernel
theorem dX8_reachedByHeads_45 : decode cX8_reachedByHeads 45 = .ok (.iinc 2 1, 3) := by decide +kernel
theorem dX8_reachedByHeads_48 : decode cX8_reachedByHeads 48 = .ok (.goto (-44), 3) := by decide +kernel
theorem dX8_reachedByHeads_51 : decode cX8_reachedByHeads 51 = .ok (.iload_n 1, 1) := by decide +kernel
theorem dX8_reachedByHeads_52 : decode cX8_reachedByHeads 52 = .ok (.aload_n 0, 1) := by decide +kernel
theorem dX8_reachedByHeads_53 : decode cX8_reachedByHeads 53 = .ok (.invokevirtual 142, 3) := by decide +kernel
theorem dX8_reachedByHeads_56 : decode cX8_reachedByHeads 56 = .ok (.iand, 1) := by decide +kernel
theorem dX8_reachedByHeads_57 : decode cX8_reachedByHeads 57 = .ok (.ireturn, 1) := by decide +kernel
theorem dX8_ones_0 : decode cX8_ones 0 = .ok (.iconst 0, 1) := by decide +kernel
theorem dX8_ones_1 : decode cX8_ones 1 = .ok (.istore_n 1, 1) := by decide +kernel
theorem dX8_ones_2 : decode cX8_ones 2 = .ok (.iconst 0, 1) := by decide +kernel
theorem dX8_ones_3 : decode cX8_ones 3 = .ok (.istore_n 2, 1) := by decide +kernel
theorem dX8_ones_4 : decode cX8_ones 4 = .ok (.iload_n 2, 1) := by decide +kernel
theorem dX8_ones_5 : decode cX8_ones 5 = .ok (.bipush 16, 2) := by decide +kernel
theorem dX8_ones_7 : decode cX8_ones 7 = .ok (.if_icmp .ge 17, 3) := by decide +kernel
theorem dX8_ones_10 : decode cX8_ones 10 = .ok (.iload_n 1, 1) := by decide +kernel
theorem dX8_ones_11 : decode cX8_ones 11 = .ok (.iload_n 0, 1) := by decide +kernel
theorem dX8_ones_12 : decode cX8_ones 12 = .ok (.iload_n 2, 1) := by decide +kernel
theorem dX8_ones_13 : decode cX8_ones 13 = .ok (.ishr, 1) := by decide +kernel
theorem dX8_ones_14 : decode cX8_ones 14 = .ok (.iconst 1, 1) := by decide +kernel
theorem dX8_ones_15 : decode cX8_ones 15 = .ok (.iand, 1) := by decide +kernel
theorem dX8_ones_16 : decode cX8_ones 16 = .ok (.iadd, 1) := by decide +kernel
theorem dX8_ones_17 : decode cX8_ones 17 = .ok (.istore_n 1, 1) := by decide +kernel
theorem dX8_ones_18 : decode cX8_ones 18 = .ok (.iinc 2 1, 3) := by decide +kernel
theorem dX8_ones_21 : decode cX8_ones 21 = .ok (.goto (-17), 3) := by decide +kernel
theorem dX8_ones_24 : decode cX8_ones 24 = .ok (.iload_n 1, 1) := by decide +kernel
theorem dX8_ones_25 : decode cX8_ones 25 = .ok (.ireturn, 1) := by decide +kernel
theorem dX8_collects_0 : decode cX8_collects 0 = .ok (.aload_n 0, 1) := by decide +kernel
theorem dX8_collects_1 : decode cX8_collects 1 = .ok (.invokevirtual 84, 3) := by decide +kernel
theorem dX8_collects_4 : decode cX8_collects 4 = .ok (.aload_n 0, 1) := by decide +kernel
theorem dX8_collects_5 : decode cX8_collects 5 = .ok (.invokevirtual 145, 3) := by decide +kernel
theorem dX8_collects_8 : decode cX8_collects 8 = .ok (.istore_n 1, 1) := by decide +kernel
theorem dX8_collects_9 : decode cX8_collects 9 = .ok (.aload_n 0, 1) := by decide +kernel
theorem dX8_collects_10 : decode cX8_collects 10 = .ok (.invokevirtual 142, 3) := by decide +kernel
theorem dX8_collects_13 : decode cX8_collects 13 = .ok (.iload_n 1, 1) := by decide +kernel
theorem dX8_collects_14 : decode cX8_collects 14 = .ok (.iconst (-1), 1) := by decide +kernel
theorem dX8_collects_15 : decode cX8_collects 15 = .ok (.ixor, 1) := by decide +kernel
theorem dX8_collects_16 : decode cX8_collects 16 = .ok (.iand, 1) := by decide +kernel
theorem dX8_collects_17 : decode cX8_collects 17 = .ok (.istore_n 2, 1) := by decide +kernel
theorem dX8_collects_18 : decode cX8_collects 18 = .ok (.iconst 0, 1) := by decide +kernel
theorem dX8_collects_19 : decode cX8_collects 19 = .ok (.istore_n 3, 1) := by decide +kernel
theorem dX8_collects_20 : decode cX8_collects 20 = .ok (.iload_n 3, 1) := by decide +kernel
theorem dX8_collects_21 : decode cX8_collects 21 = .ok (.bipush 10, 2) := by decide +kernel
theorem dX8_collects_23 : decode cX8_collects 23 = .ok (.if_icmp .ge 53, 3) := by decide +kernel
theorem dX8_collects_26 : decode cX8_collects 26 = .ok (.aload_n 0, 1) := by decide +kernel
theorem dX8_collects_27 : decode cX8_collects 27 = .ok (.getfield 9, 3) := by decide +kernel
theorem dX8_collects_30 : decode cX8_collects 30 = .ok (.bipush 50, 2) := by decide +kernel
theorem dX8_collects_32 : decode cX8_collects 32 = .ok (.iload_n 3, 1) := by decide +kernel
theorem dX8_collects_33 : decode cX8_collects 33 = .ok (.imul, 1) := by decide +kernel
theorem dX8_collects_34 : decode cX8_collects 34 = .ok (.iconst 4, 1) := by decide +kernel
theorem dX8_collects_35 : decode cX8_collects 35 = .ok (.iadd, 1) := by decide +kernel
theorem dX8_collects_36 : decode cX8_collects 36 = .ok (.iaload, 1) := by decide +kernel
theorem dX8_collects_37 : decode cX8_collects 37 = .ok (.istore 4, 2) := by decide +kernel
theorem dX8_collects_39 : decode cX8_collects 39 = .ok (.iload_n 1, 1) := by decide +kernel
theorem dX8_collects_40 : decode cX8_collects 40 = .ok (.iload_n 3, 1) := by decide +kernel
theorem dX8_collects_41 : decode cX8_collects 41 = .ok (.ishr, 1) := by decide +kernel
theorem dX8_collects_42 : decode cX8_collects 42 = .ok (.iconst 1, 1) := by decide +kernel
theorem dX8_collects_43 : decode cX8_collects 43 = .ok (.iand, 1) := by decide +kernel
theorem dX8_collects_44 : decode cX8_collects 44 = .ok (.iconst 1, 1) := by decide +kernel
theorem dX8_collects_45 : decode cX8_collects 45 = .ok (.if_icmp .ne 25, 3) := by decide +kernel
theorem dX8_collects_48 : decode cX8_collects 48 = .ok (.iload 4, 2) := by decide +kernel
theorem dX8_collects_50 : decode cX8_collects 50 = .ok (.bipush (-9), 2) := by decide +kernel
theorem dX8_collects_52 : decode cX8_collects 52 = .ok (.if_icmp .eq 18, 3) := by decide +kernel
theorem dX8_collects_55 : decode cX8_collects 55 = .ok (.iload_n 2, 1) := by decide +kernel
theorem dX8_collects_56 : decode cX8_collects 56 = .ok (.iload 4, 2) := by decide +kernel
theorem dX8_collects_58 : decode cX8_collects 58 = .ok (.ishr, 1) := by decide +kernel
theorem dX8_collects_59 : decode cX8_collects 59 = .ok (.iconst 1, 1) := by decide +kernel
theorem dX8_collects_60 : decode cX8_collects 60 = .ok (.iand, 1) := by decide +kernel
theorem dX8_collects_61 : decode cX8_collects 61 = .ok (.iconst 1, 1) := by decide +kernel
theorem dX8_collects_62 : decode cX8_collects 62 = .ok (.if_icmp .ne 8, 3) := by decide +kernel
theorem dX8_collects_65 : decode cX8_collects 65 = .ok (.aload_n 0, 1) := by decide +kernel
theorem dX8_collects_66 : decode cX8_collects 66 = .ok (.iload_n 3, 1) := by decide +kernel
theorem dX8_collects_67 : decode cX8_collects 67 = .ok (.invokevirtual 109, 3) := by decide +kernel
theorem dX8_collects_70 : decode cX8_collects 70 = .ok (.iinc 3 1, 3) := by decide +kernel
theorem dX8_collects_73 : decode cX8_collects 73 = .ok (.goto (-53), 3) := by decide +kernel
theorem dX8_collects_76 : decode cX8_collects 76 = .ok (.iconst 0, 1) := by decide +kernel
theorem dX8_collects_77 : decode cX8_collects 77 = .ok (.istore_n 3, 1) := by decide +kernel
theorem dX8_collects_78 : decode cX8_collects 78 = .ok (.iload_n 3, 1) := by decide +kernel
theorem dX8_collects_79 : decode cX8_collects 79 = .ok (.bipush 10, 2) := by decide +kernel
theorem dX8_collects_81 : decode cX8_collects 81 = .ok (.if_icmp .ge 30, 3) := by decide +kernel
theorem dX8_collects_84 : decode cX8_collects 84 = .ok (.iload_n 2, 1) := by decide +kernel
theorem dX8_collects_85 : decode cX8_collects 85 = .ok (.iload_n 3, 1) := by decide +kernel
theorem dX8_collects_86 : decode cX8_collects 86 = .ok (.ishr, 1) := by decide +kernel
theorem dX8_collects_87 : decode cX8_collects 87 = .ok (.iconst 1, 1) := by decide +kernel
theorem dX8_collects_88 : decode cX8_collects 88 = .ok (.iand, 1) := by decide +kernel
theorem dX8_collects_89 : decode cX8_collects 89 = .ok (.iconst 1, 1) := by decide +kernel
theorem dX8_collects_90 : decode cX8_collects 90 = .ok (.if_icmp .ne 15, 3) := by decide +kernel
theorem dX8_collects_93 : decode cX8_collects 93 = .ok (.aload_n 0, 1) := by decide +kernel
theorem dX8_collects_94 : decode cX8_collects 94 = .ok (.getfield 9, 3) := by decide +kernel
theorem dX8_collects_97 : decode cX8_collects 97 = .ok (.bipush 50, 2) := by decide +kernel
theorem dX8_collects_99 : decode cX8_collects 99 = .ok (.iload_n 3, 1) := by decide +kernel
theorem dX8_collects_100 : decode cX8_collects 100 = .ok (.imul, 1) := by decide +kernel
theorem dX8_collects_101 : decode cX8_collects 101 = .ok (.iconst 0, 1) := by decide +kernel
theorem dX8_collects_102 : decode cX8_collects 102 = .ok (.iadd, 1) := by decide +kernel
theorem dX8_collects_103 : decode cX8_collects 103 = .ok (.iconst 0, 1) := by decide +kernel
theorem dX8_collects_104 : decode cX8_collects 104 = .ok (.iastore, 1) := by decide +kernel
theorem dX8_collects_105 : decode cX8_collects 105 = .ok (.iinc 3 1, 3) := by decide +kernel
theorem dX8_collects_108 : decode cX8_collects 108 = .ok (.goto (-30), 3) := by decide +kernel
theorem dX8_collects_111 : decode cX8_collects 111 = .ok (.iload_n 2, 1) := by decide +kernel
theorem dX8_collects_112 : decode cX8_collects 112 = .ok (.invokestatic 148, 3) := by decide +kernel
theorem dX8_collects_115 : decode cX8_collects 115 = .ok (.ireturn, 1) := by decide +kernel
theorem dX8_collect_0 : decode cX8_collect 0 = .ok (.aload_n 0, 1) := by decide +kernel
theorem dX8_collect_1 : decode cX8_collect 1 = .ok (.invokevirtual 151, 3) := by decide +kernel
theorem dX8_collect_4 : decode cX8_collect 4 = .ok (.ireturn, 1) := by decide +kernel
theorem dX8_damages_0 : decode cX8_damages 0 = .ok (.aload_n 0, 1) := by decide +kernel
theorem dX8_damages_1 : decode cX8_damages 1 = .ok (.iload_n 1, 1) := by decide +kernel
theorem dX8_damages_2 : decode cX8_damages 2 = .ok (.invokevirtual 59, 3) := by decide +kernel
theorem dX8_damages_5 : decode cX8_damages 5 = .ok (.ifCond .ne 9, 3) := by decide +kernel
theorem dX8_damages_8 : decode cX8_damages 8 = .ok (.aload_n 0, 1) := by decide +kernel
theorem dX8_damages_9 : decode cX8_damages 9 = .ok (.iconst (-1), 1) := by decide +kernel
theorem dX8_damages_10 : decode cX8_damages 10 = .ok (.invokevirtual 51, 3) := by decide +kernel
theorem dX8_damages_13 : decode cX8_damages 13 = .ok (.ireturn, 1) := by decide +kernel
theorem dX8_damages_14 : decode cX8_damages 14 = .ok (.aload_n 0, 1) := by decide +kernel
theorem dX8_damages_15 : decode cX8_damages 15 = .ok (.getfield 9, 3) := by decide +kernel
theorem dX8_damages_18 : decode cX8_damages 18 = .ok (.bipush 50, 2) := by decide +kernel
theorem dX8_damages_20 : decode cX8_damages 20 = .ok (.iload_n 1, 1) := by decide +kernel
theorem dX8_damages_21 : decode cX8_damages 21 = .ok (.imul, 1) := by decide +kernel
theorem dX8_damages_22 : decode cX8_damages 22 = .ok (.iconst 4, 1) := by decide +kernel
theorem dX8_damages_23 : decode cX8_damages 23 = .ok (.iadd, 1) := by decide +kernel
theorem dX8_damages_24 : decode cX8_damages 24 = .ok (.iaload, 1) := by decide +kernel
theorem dX8_damages_25 : decode cX8_damages 25 = .ok (.bipush (-9), 2) := by decide +kernel
theorem dX8_damages_27 : decode cX8_damages 27 = .ok (.if_icmp .eq 10, 3) := by decide +kernel
theorem dX8_damages_30 : decode cX8_damages 30 = .ok (.aload_n 0, 1) := by decide +kernel
theorem dX8_damages_31 : decode cX8_damages 31 = .ok (.bipush (-3), 2) := by decide +kernel
theorem dX8_damages_33 : decode cX8_damages 33 = .ok (.invokevirtual 51, 3) := by decide +kernel
theorem dX8_damages_36 : decode cX8_damages 36 = .ok (.ireturn, 1) := by decide +kernel
theorem dX8_damages_37 : decode cX8_damages 37 = .ok (.iload_n 2, 1) := by decide +kernel
theorem dX8_damages_38 : decode cX8_damages 38 = .ok (.iconst 0, 1) := by decide +kernel
theorem dX8_damages_39 : decode cX8_damages 39 = .ok (.aload_n 0, 1) := by decide +kernel
theorem dX8_damages_40 : decode cX8_damages 40 = .ok (.getfield 9, 3) := by decide +kernel
theorem dX8_damages_43 : decode cX8_damages 43 = .ok (.bipush 50, 2) := by decide +kernel
theorem dX8_damages_45 : decode cX8_damages 45 = .ok (.iload_n 1, 1) := by decide +kernel
theorem dX8_damages_46 : decode cX8_damages 46 = .ok (.imul, 1) := by decide +kernel
theorem dX8_damages_47 : decode cX8_damages 47 = .ok (.iconst 5, 1) := by decide +kernel
theorem dX8_damages_48 : decode cX8_damages 48 = .ok (.iadd, 1) := by decide +kernel
theorem dX8_damages_49 : decode cX8_damages 49 = .ok (.iaload, 1) := by decide +kernel
theorem dX8_damages_50 : decode cX8_damages 50 = .ok (.iconst 1, 1) := by decide +kernel
theorem dX8_damages_51 : decode cX8_damages 51 = .ok (.isub, 1) := by decide +kernel
theorem dX8_damages_52 : decode cX8_damages 52 = .ok (.invokestatic 55, 3) := by decide +kernel
theorem dX8_damages_55 : decode cX8_damages 55 = .ok (.ifCond .ne 9, 3) := by decide +kernel
theorem dX8_damages_58 : decode cX8_damages 58 = .ok (.aload_n 0, 1) := by decide +kernel
theorem dX8_damages_59 : decode cX8_damages 59 = .ok (.iconst (-1), 1) := by decide +kernel
theorem dX8_damages_60 : decode cX8_damages 60 = .ok (.invokevirtual 51, 3) := by decide +kernel
theorem dX8_damages_63 : decode cX8_damages 63 = .ok (.ireturn, 1) := by decide +kernel
theorem dX8_damages_64 : decode cX8_damages 64 = .ok (.iload_n 3, 1) := by decide +kernel
theorem dX8_damages_65 : decode cX8_damages 65 = .ok (.iconst 0, 1) := by decide +kernel
theorem dX8_damages_66 : decode cX8_damages 66 = .ok (.bipush 7, 2) := by decide +kernel
theorem dX8_damages_68 : decode cX8_damages 68 = .ok (.invokestatic 55, 3) := by decide +kernel
theorem dX8_damages_71 : decode cX8_damages 71 = .ok (.ifCond .ne 10, 3) := by decide +kernel
theorem dX8_damages_74 : decode cX8_damages 74 = .ok (.aload_n 0, 1) := by decide +kernel
theorem dX8_damages_75 : decode cX8_damages 75 = .ok (.bipush (-2), 2) := by decide +kernel
theorem dX8_damages_77 : decode cX8_damages 77 = .ok (.invokevirtual 51, 3) := by decide +kernel
theorem dX8_damages_80 : decode cX8_damages 80 = .ok (.ireturn, 1) := by decide +kernel
theorem dX8_damages_81 : decode cX8_damages 81 = .ok (.aload_n 0, 1) := by decide +kernel
theorem dX8_damages_82 : decode cX8_damages 82 = .ok (.getfield 9, 3) := by decide +kernel
theorem dX8_damages_85 : decode cX8_damages 85 = .ok (.bipush 50, 2) := by decide +kernel
theorem dX8_damages_87 : decode cX8_damages 87 = .ok (.iload_n 1, 1) := by decide +kernel
theorem dX8_damages_88 : decode cX8_damages 88 = .ok (.imul, 1) := by decide +kernel
theorem dX8_damages_89 : decode cX8_damages 89 = .ok (.bipush 6, 2) := by decide +kernel
theorem dX8_damages_91 : decode cX8_damages 91 = .ok (.iadd, 1) := by decide +kernel
theorem dX8_damages_92 : decode cX8_damages 92 = .ok (.iload_n 2, 1) := by decide +kernel
theorem dX8_damages_93 : decode cX8_damages 93 = .ok (.iadd, 1) := by decide +kernel
theorem dX8_damages_94 : decode cX8_damages 94 = .ok (.iaload, 1) := by decide +kernel
theorem dX8_damages_95 : decode cX8_damages 95 = .ok (.istore 4, 2) := by decide +kernel
theorem dX8_damages_97 : decode cX8_damages 97 = .ok (.aload_n 0, 1) := by decide +kernel
theorem dX8_damages_98 : decode cX8_damages 98 = .ok (.getfield 9, 3) := by decide +kernel
theorem dX8_damages_101 : decode cX8_damages 101 = .ok (.bipush 50, 2) := by decide +kernel
theorem dX8_damages_103 : decode cX8_damages 103 = .ok (.iload_n 1, 1) := by decide +kernel
theorem dX8_damages_104 : decode cX8_damages 104 = .ok (.imul, 1) := by decide +kernel
theorem dX8_damages_105 : decode cX8_damages 105 = .ok (.bipush 6, 2) := by decide +kernel
theorem dX8_damages_107 : decode cX8_damages 107 = .ok (.iadd, 1) := by decide +kernel
theorem dX8_damages_108 : decode cX8_damages 108 = .ok (.iload_n 2, 1) := by decide +kernel
theorem dX8_damages_109 : decode cX8_damages 109 = .ok (.iadd, 1) := by decide +kernel
theorem dX8_damages_110 : decode cX8_damages 110 = .ok (.iload_n 3, 1) := by decide +kernel
theorem dX8_damages_111 : decode cX8_damages 111 = .ok (.iastore, 1) := by decide +kernel
theorem dX8_damages_112 : decode cX8_damages 112 = .ok (.iload 4, 2) := by decide +kernel
theorem dX8_damages_114 : decode cX8_damages 114 = .ok (.ireturn, 1) := by decide +kernel
theorem dX8_letter_0 : decode cX8_letter 0 = .ok (.iload_n 1, 1) := by decide +kernel
theorem dX8_letter_1 : decode cX8_letter 1 = .ok (.ifCond .ge 10, 3) := by decide +kernel
theorem dX8_letter_4 : decode cX8_letter 4 = .ok (.aload_n 0, 1) := by decide +kernel
theorem dX8_letter_5 : decode cX8_letter 5 = .ok (.bipush (-4), 2) := by decide +kernel
theorem dX8_letter_7 : decode cX8_letter 7 = .ok (.invokevirtual 51, 3) := by decide +kernel
theorem dX8_letter_10 : decode cX8_letter 10 = .ok (.ireturn, 1) := by decide +kernel
theorem dX8_letter_11 : decode cX8_letter 11 = .ok (.iload_n 1, 1) := by decide +kernel
theorem dX8_letter_12 : decode cX8_letter 12 = .ok (.sipush 255, 3) := by decide +kernel
theorem dX8_letter_15 : decode cX8_letter 15 = .ok (.if_icmp .gt 12, 3) := by decide +kernel
theorem dX8_letter_18 : decode cX8_letter 18 = .ok (.aload_n 0, 1) := by decide +kernel
theorem dX8_letter_19 : decode cX8_letter 19 = .ok (.getfield 154, 3) := by decide +kernel
theorem dX8_letter_22 : decode cX8_letter 22 = .ok (.bipush 96, 2) := by decide +kernel
theorem dX8_letter_24 : decode cX8_letter 24 = .ok (.if_icmp .ne 10, 3) := by decide +kernel
theorem dX8_letter_27 : decode cX8_letter 27 = .ok (.aload_n 0, 1) := by decide +kernel
theorem dX8_letter_28 : decode cX8_letter 28 = .ok (.bipush (-6), 2) := by decide +kernel
theorem dX8_letter_30 : decode cX8_letter 30 = .ok (.invokevirtual 51, 3) := by decide +kernel
theorem dX8_letter_33 : decode cX8_letter 33 = .ok (.ireturn, 1) := by decide +kernel
theorem dX8_letter_34 : decode cX8_letter 34 = .ok (.aload_n 0, 1) := by decide +kernel
theorem dX8_letter_35 : decode cX8_letter 35 = .ok (.getfield 25, 3) := by decide +kernel
theorem dX8_letter_38 : decode cX8_letter 38 = .ok (.aload_n 0, 1) := by decide +kernel
theorem dX8_letter_39 : decode cX8_letter 39 = .ok (.getfield 154, 3) := by decide +kernel
theorem dX8_letter_42 : decode cX8_letter 42 = .ok (.iload_n 1, 1) := by decide +kernel
theorem dX8_letter_43 : decode cX8_letter 43 = .ok (.iastore, 1) := by decide +kernel
theorem dX8_letter_44 : decode cX8_letter 44 = .ok (.aload_n 0, 1) := by decide +kernel
theorem dX8_letter_45 : decode cX8_letter 45 = .ok (.dup, 1) := by decide +kernel
theorem dX8_letter_46 : decode cX8_letter 46 = .ok (.getfield 154, 3) := by decide +kernel
theorem dX8_letter_49 : decode cX8_letter 49 = .ok (.iconst 1, 1) := by decide +kernel
theorem dX8_letter_50 : decode cX8_letter 50 = .ok (.iadd, 1) := by decide +kernel
theorem dX8_letter_51 : decode cX8_letter 51 = .ok (.putfield 154, 3) := by decide +kernel
theorem dX8_letter_54 : decode cX8_letter 54 = .ok (.aload_n 0, 1) := by decide +kernel
theorem dX8_letter_55 : decode cX8_letter 55 = .ok (.getfield 154, 3) := by decide +kernel
theorem dX8_letter_58 : decode cX8_letter 58 = .ok (.ireturn, 1) := by decide +kernel
theorem dX8_isAt_0 : decode cX8_isAt 0 = .ok (.aload_n 0, 1) := by decide +kernel
theorem dX8_isAt_1 : decode cX8_isAt 1 = .ok (.getfield 157, 3) := by decide +kernel
theorem dX8_isAt_4 : decode cX8_isAt 4 = .ok (.aload_n 0, 1) := by decide +kernel
theorem dX8_isAt_5 : decode cX8_isAt 5 = .ok (.getfield 154, 3) := by decide +kernel
theorem dX8_isAt_8 : decode cX8_isAt 8 = .ok (.if_icmp .ge 33, 3) := by decide +kernel
theorem dX8_isAt_11 : decode cX8_isAt 11 = .ok (.aload_n 0, 1) := by decide +kernel
theorem dX8_isAt_12 : decode cX8_isAt 12 = .ok (.getfield 25, 3) := by decide +kernel
theorem dX8_isAt_15 : decode cX8_isAt 15 = .ok (.aload_n 0, 1) := by decide +kernel
theorem dX8_isAt_16 : decode cX8_isAt 16 = .ok (.getfield 157, 3) := by decide +kernel
theorem dX8_isAt_19 : decode cX8_isAt 19 = .ok (.iaload, 1) := by decide +kernel
theorem dX8_isAt_20 : decode cX8_isAt 20 = .ok (.iload_n 1, 1) := by decide +kernel
theorem dX8_isAt_21 : decode cX8_isAt 21 = .ok (.if_icmp .lt 20, 3) := by decide +kernel
theorem dX8_isAt_24 : decode cX8_isAt 24 = .ok (.aload_n 0, 1) := by decide +kernel
theorem dX8_isAt_25 : decode cX8_isAt 25 = .ok (.getfield 25, 3) := by decide +kernel
theorem dX8_isAt_28 : decode cX8_isAt 28 = .ok (.aload_n 0, 1) := by decide +kernel
theorem dX8_isAt_29 : decode cX8_isAt 29 = .ok (.getfield 157, 3) := by decide +kernel
theorem dX8_isAt_32 : decode cX8_isAt 32 = .ok (.iaload, 1) := by decide +kernel
theorem dX8_isAt_33 : decode cX8_isAt 33 = .ok (.iload_n 2, 1) := by decide +kernel
theorem dX8_isAt_34 : decode cX8_isAt 34 = .ok (.if_icmp .gt 7, 3) := by decide +kernel
theorem dX8_isAt_37 : decode cX8_isAt 37 = .ok (.iconst 1, 1) := by decide +kernel
theorem dX8_isAt_38 : decode cX8_isAt 38 = .ok (.goto 4, 3) := by decide +kernel
theorem dX8_isAt_41 : decode cX8_isAt 41 = .ok (.iconst 0, 1) := by decide +kernel
theorem dX8_isAt_42 : decode cX8_isAt 42 = .ok (.ireturn, 1) := by decide +kernel
theorem dX8_takes_0 : decode cX8_takes 0 = .ok (.aload_n 0, 1) := by decide +kernel
theorem dX8_takes_1 : decode cX8_takes 1 = .ok (.getfield 160, 3) := by decide +kernel
theorem dX8_takes_4 : decode cX8_takes 4 = .ok (.ifCond .eq 5, 3) := by decide +kernel
theorem dX8_takes_7 : decode cX8_takes 7 = .ok (.iconst 0, 1) := by decide +kernel
theorem dX8_takes_8 : decode cX8_takes 8 = .ok (.ireturn, 1) := by decide +kernel
theorem dX8_takes_9 : decode cX8_takes 9 = .ok (.aload_n 0, 1) := by decide +kernel
theorem dX8_takes_10 : decode cX8_takes 10 = .ok (.iload_n 1, 1) := by decide +kernel
theorem dX8_takes_11 : decode cX8_takes 11 = .ok (.iload_n 2, 1) := by decide +kernel
theorem dX8_takes_12 : decode cX8_takes 12 = .ok (.invokevirtual 163, 3) := by decide +kernel
theorem dX8_takes_15 : decode cX8_takes 15 = .ok (.ifCond .ne 17, 3) := by decide +kernel
theorem dX8_takes_18 : decode cX8_takes 18 = .ok (.aload_n 0, 1) := by decide +kernel
theorem dX8_takes_19 : decode cX8_takes 19 = .ok (.sipush (-1000), 3) := by decide +kernel
theorem dX8_takes_22 : decode cX8_takes 22 = .ok (.aload_n 0, 1) := by decide +kernel
theorem dX8_takes_23 : decode cX8_takes 23 = .ok (.getfield 157, 3) := by decide +kernel
theorem dX8_takes_26 : decode cX8_takes 26 = .ok (.isub, 1) := by decide +kernel
theorem dX8_takes_27 : decode cX8_takes 27 = .ok (.putfield 160, 3) := by decide +kernel
theorem dX8_takes_30 : decode cX8_takes 30 = .ok (.iconst 0, 1) := by decide +kernel
theorem dX8_takes_31 : decode cX8_takes 31 = .ok (.ireturn, 1) := by decide +kernel
theorem dX8_takes_32 : decode cX8_takes 32 = .ok (.aload_n 0, 1) := by decide +kernel
theorem dX8_takes_33 : decode cX8_takes 33 = .ok (.dup, 1) := by decide +kernel
theorem dX8_takes_34 : decode cX8_takes 34 = .ok (.getfield 157, 3) := by decide +kernel
theorem dX8_takes_37 : decode cX8_takes 37 = .ok (.iconst 1, 1) := by decide +kernel
theorem dX8_takes_38 : decode cX8_takes 38 = .ok (.iadd, 1) := by decide +kernel
theorem dX8_takes_39 : decode cX8_takes 39 = .ok (.putfield 157, 3) := by decide +kernel
theorem dX8_takes_42 : decode cX8_takes 42 = .ok (.aload_n 0, 1) := by decide +kernel
theorem dX8_takes_43 : decode cX8_takes 43 = .ok (.getfield 25, 3) := by decide +kernel
theorem dX8_takes_46 : decode cX8_takes 46 = .ok (.aload_n 0, 1) := by decide +kernel
theorem dX8_takes_47 : decode cX8_takes 47 = .ok (.getfield 157, 3) := by decide +kernel
theorem dX8_takes_50 : decode cX8_takes 50 = .ok (.iconst 1, 1) := by decide +kernel
theorem dX8_takes_51 : decode cX8_takes 51 = .ok (.isub, 1) := by decide +kernel
theorem dX8_takes_52 : decode cX8_takes 52 = .ok (.iaload, 1) := by decide +kernel
theorem dX8_takes_53 : decode cX8_takes 53 = .ok (.iload_n 1, 1) := by decide +kernel
theorem dX8_takes_54 : decode cX8_takes 54 = .ok (.isub, 1) := by decide +kernel
theorem dX8_takes_55 : decode cX8_takes 55 = .ok (.ireturn, 1) := by decide +kernel
theorem dX8_orNone_0 : decode cX8_orNone 0 = .ok (.aload_n 0, 1) := by decide +kernel
theorem dX8_orNone_1 : decode cX8_orNone 1 = .ok (.getfield 160, 3) := by decide +kernel
theorem dX8_orNone_4 : decode cX8_orNone 4 = .ok (.ifCond .ne 27, 3) := by decide +kernel
theorem dX8_orNone_7 : decode cX8_orNone 7 = .ok (.aload_n 0, 1) := by decide +kernel
theorem dX8_orNone_8 : decode cX8_orNone 8 = .ok (.bipush 46, 2) := by decide +kernel
theorem dX8_orNone_10 : decode cX8_orNone 10 = .ok (.bipush 46, 2) := by decide +kernel
theorem dX8_orNone_12 : decode cX8_orNone 12 = .ok (.invokevirtual 163, 3) := by decide +kernel
theorem dX8_orNone_15 : decode cX8_orNone 15 = .ok (.ifCond .eq 16, 3) := by decide +kernel
theorem dX8_orNone_18 : decode cX8_orNone 18 = .ok (.aload_n 0, 1) := by decide +kernel
theorem dX8_orNone_19 : decode cX8_orNone 19 = .ok (.dup, 1) := by decide +kernel
theorem dX8_orNone_20 : decode cX8_orNone 20 = .ok (.getfield 157, 3) := by decide +kernel
theorem dX8_orNone_23 : decode cX8_orNone 23 = .ok (.iconst 1, 1) := by decide +kernel
theorem dX8_orNone_24 : decode cX8_orNone 24 = .ok (.iadd, 1) := by decide +kernel
theorem dX8_orNone_25 : decode cX8_orNone 25 = .ok (.putfield 157, 3) := by decide +kernel
theorem dX8_orNone_28 : decode cX8_orNone 28 = .ok (.bipush (-9), 2) := by decide +kernel
theorem dX8_orNone_30 : decode cX8_orNone 30 = .ok (.ireturn, 1) := by decide +kernel
theorem dX8_orNone_31 : decode cX8_orNone 31 = .ok (.aload_n 0, 1) := by decide +kernel
theorem dX8_orNone_32 : decode cX8_orNone 32 = .ok (.bipush 48, 2) := by decide +kernel
theorem dX8_orNone_34 : decode cX8_orNone 34 = .ok (.bipush 57, 2) := by decide +kernel
theorem dX8_orNone_36 : decode cX8_orNone 36 = .ok (.invokevirtual 166, 3) := by decide +kernel
theorem dX8_orNone_39 : decode cX8_orNone 39 = .ok (.ireturn, 1) := by decide +kernel
theorem dX8_statement_0 : decode cX8_statement 0 = .ok (.aload_n 0, 1) := by decide +kernel
theorem dX8_statement_1 : decode cX8_statement 1 = .ok (.getfield 157, 3) := by decide +kernel
theorem dX8_statement_4 : decode cX8_statement 4 = .ok (.aload_n 0, 1) := by decide +kernel
theorem dX8_statement_5 : decode cX8_statement 5 = .ok (.getfield 154, 3) := by decide +kernel
theorem dX8_statement_8 : decode cX8_statement 8 = .ok (.if_icmp .ge 15, 3) := by decide +kernel
theorem dX8_statement_11 : decode cX8_statement 11 = .ok (.aload_n 0, 1) := by decide +kernel
theorem dX8_statement_12 : decode cX8_statement 12 = .ok (.getfield 25, 3) := by decide +kernel
theorem dX8_statement_15 : decode cX8_statement 15 = .ok (.aload_n 0, 1) := by decide +kernel
theorem dX8_statement_16 : decode cX8_statement 16 = .ok (.getfield 157, 3) := by decide +kernel
theorem dX8_statement_19 : decode cX8_statement 19 = .ok (.iaload, 1) := by decide +kernel
theorem dX8_statement_20 : decode cX8_statement 20 = .ok (.goto 4, 3) := by decide +kernel
theorem dX8_statement_23 : decode cX8_statement 23 = .ok (.iconst 0, 1) := by decide +kernel
theorem dX8_statement_24 : decode cX8_statement 24 = .ok (.istore_n 2, 1) := by decide +kernel
theorem dX8_statement_25 : decode cX8_statement 25 = .ok (.iload_n 2, 1) := by decide +kernel
theorem dX8_statement_26 : decode cX8_statement 26 = .ok (.bipush 118, 2) := by decide +kernel
theorem dX8_statement_28 : decode cX8_statement 28 = .ok (.if_icmp .eq 53, 3) := by decide +kernel
theorem dX8_statement_31 : decode cX8_statement 31 = .ok (.iload_n 2, 1) := by decide +kernel
theorem dX8_statement_32 : decode cX8_statement 32 = .ok (.bipush 104, 2) := by decide +kernel
theorem dX8_statement_34 : decode cX8_statement 34 = .ok (.if_icmp .eq 47, 3) := by decide +kernel
theorem dX8_statement_37 : decode cX8_statement 37 = .ok (.iload_n 2, 1) := by decide +kernel
theorem dX8_statement_38 : decode cX8_statement 38 = .ok (.bipush 107, 2) := by decide +kernel
theorem dX8_statement_40 : decode cX8_statement 40 = .ok (.if_icmp .eq 41, 3) := by decide +kernel
theorem dX8_statement_43 : decode cX8_statement 43 = .ok (.iload_n 2, 1) := by decide +kernel
theorem dX8_statement_44 : decode cX8_statement 44 = .ok (.bipush 100, 2) := by decide +kernel
theorem dX8_statement_46 : decode cX8_statement 46 = .ok (.if_icmp .eq 35, 3) := by decide +kernel
theorem dX8_statement_49 : decode cX8_statement 49 = .ok (.iload_n 2, 1) := by decide +kernel
theorem dX8_statement_50 : decode cX8_statement 50 = .ok (.bipush 114, 2) := by decide +kernel
theorem dX8_statement_52 : decode cX8_statement 52 = .ok (.if_icmp .eq 29, 3) := by decide +kernel
theorem dX8_statement_55 : decode cX8_statement 55 = .ok (.iload_n 2, 1) := by decide +kernel
theorem dX8_statement_56 : decode cX8_statement 56 = .ok (.bipush 99, 2) := by decide +kernel
theorem dX8_statement_58 : decode cX8_statement 58 = .ok (.if_icmp .eq 23, 3) := by decide +kernel
theorem dX8_statement_61 : decode cX8_statement 61 = .ok (.iload_n 2, 1) := by decide +kernel
theorem dX8_statement_62 : decode cX8_statement 62 = .ok (.bipush 120, 2) := by decide +kernel
theorem dX8_statement_64 : decode cX8_statement 64 = .ok (.if_icmp .eq 17, 3) := by decide +kernel
theorem dX8_statement_67 : decode cX8_statement 67 = .ok (.aload_n 0, 1) := by decide +kernel
theorem dX8_statement_68 : decode cX8_statement 68 = .ok (.sipush (-1000), 3) := by decide +kernel
theorem dX8_statement_71 : decode cX8_statement 71 = .ok (.aload_n 0, 1) := by decide +kernel
theorem dX8_statement_72 : decode cX8_statement 72 = .ok (.getfield 157, 3) := by decide +kernel
theorem dX8_statement_75 : decode cX8_statement 75 = .ok (.isub, 1) := by decide +kernel
theorem dX8_statement_76 : decode cX8_statement 76 = .ok (.putfield 160, 3) := by decide +kernel
theorem dX8_statement_79 : decode cX8_statement 79 = .ok (.iconst 0, 1) := by decide +kernel
theorem dX8_statement_80 : decode cX8_statement 80 = .ok (.ireturn, 1) := by decide +kernel
theorem dX8_statement_81 : decode cX8_statement 81 = .ok (.aload_n 0, 1) := by decide +kernel
theorem dX8_statement_82 : decode cX8_statement 82 = .ok (.dup, 1) := by decide +kernel
theorem dX8_statement_83 : decode cX8_statement 83 = .ok (.getfield 157, 3) := by decide +kernel
theorem dX8_statement_86 : decode cX8_statement 86 = .ok (.iconst 1, 1) := by decide +kernel
theorem dX8_statement_87 : decode cX8_statement 87 = .ok (.iadd, 1) := by decide +kernel
theorem dX8_statement_88 : decode cX8_statement 88 = .ok (.putfield 157, 3) := by decide +kernel
theorem dX8_statement_91 : decode cX8_statement 91 = .ok (.iload_n 2, 1) := by decide +kernel
theorem dX8_statement_92 : decode cX8_statement 92 = .ok (.bipush 118, 2) := by decide +kernel
theorem dX8_statement_94 : decode cX8_statement 94 = .ok (.if_icmp .ne 189, 3) := by decide +kernel
theorem dX8_statement_97 : decode cX8_statement 97 = .ok (.aload_n 0, 1) := by decide +kernel
theorem dX8_statement_98 : decode cX8_statement 98 = .ok (.invokevirtual 169, 3) := by decide +kernel
theorem dX8_statement_101 : decode cX8_statement 101 = .ok (.istore_n 3, 1) := by decide +kernel
theorem dX8_statement_102 : decode cX8_statement 102 = .ok (.aload_n 0, 1) := by decide +kernel
theorem dX8_statement_103 : decode cX8_statement 103 = .ok (.invokevirtual 169, 3) := by decide +kernel
theorem dX8_statement_106 : decode cX8_statement 106 = .ok (.istore 4, 2) := by decide +kernel
theorem dX8_statement_108 : decode cX8_statement 108 = .ok (.iload_n 3, 1) := by decide +kernel
theorem dX8_statement_109 : decode cX8_statement 109 = .ok (.bipush (-9), 2) := by decide +kernel
theorem dX8_statement_111 : decode cX8_statement 111 = .ok (.if_icmp .eq 11, 3) := by decide +kernel
theorem dX8_statement_114 : decode cX8_statement 114 = .ok (.aload_n 0, 1) := by decide +kernel
theorem dX8_statement_115 : decode cX8_statement 115 = .ok (.iload_n 3, 1) := by decide +kernel
theorem dX8_statement_116 : decode cX8_statement 116 = .ok (.invokevirtual 59, 3) := by decide +kernel
theorem dX8_statement_119 : decode cX8_statement 119 = .ok (.ifCond .eq 48, 3) := by decide +kernel
theorem dX8_statement_122 : decode cX8_statement 122 = .ok (.iload 4, 2) := by decide +kernel
theorem dX8_statement_124 : decode cX8_statement 124 = .ok (.bipush (-9), 2) := by decide +kernel
theorem dX8_statement_126 : decode cX8_statement 126 = .ok (.if_icmp .eq 24, 3) := by decide +kernel
theorem dX8_statement_129 : decode cX8_statement 129 = .ok (.aload_n 0, 1) := by decide +kernel
theorem dX8_statement_130 : decode cX8_statement 130 = .ok (.iload 4, 2) := by decide +kernel
theorem dX8_statement_132 : decode cX8_statement 132 = .ok (.invokevirtual 59, 3) := by decide +kernel
theorem dX8_statement_135 : decode cX8_statement 135 = .ok (.ifCond .eq 32, 3) := by decide +kernel
theorem dX8_statement_138 : decode cX8_statement 138 = .ok (.iload_n 3, 1) := by decide +kernel
theorem dX8_statement_139 : decode cX8_statement 139 = .ok (.bipush (-9), 2) := by decide +kernel
theorem dX8_statement_141 : decode cX8_statement 141 = .ok (.if_icmp .eq 26, 3) := by decide +kernel
theorem dX8_statement_144 : decode cX8_statement 144 = .ok (.iload_n 3, 1) := by decide +kernel
theorem dX8_statement_145 : decode cX8_statement 145 = .ok (.iload 4, 2) := by decide +kernel
theorem dX8_statement_147 : decode cX8_statement 147 = .ok (.if_icmp .eq 20, 3) := by decide +kernel
theorem dX8_statement_150 : decode cX8_statement 150 = .ok (.aload_n 0, 1) := by decide +kernel
theorem dX8_statement_151 : decode cX8_statement 151 = .ok (.getfield 9, 3) := by decide +kernel
theorem dX8_statement_154 : decode cX8_statement 154 = .ok (.sipush 500, 3) := by decide +kernel
theorem dX8_statement_157 : decode cX8_statement 157 = .ok (.iaload, 1) := by decide +kernel
theorem dX8_statement_158 : decode cX8_statement 158 = .ok (.bipush 10, 2) := by decide +kernel
theorem dX8_statement_160 : decode cX8_statement 160 = .ok (.if_icmp .ge 7, 3) := by decide +kernel
theorem dX8_statement_163 : decode cX8_statement 163 = .ok (.iconst 1, 1) := by decide +kernel
theorem dX8_statement_164 : decode cX8_statement 164 = .ok (.goto 4, 3) := by decide +kernel
theorem dX8_statement_167 : decode cX8_statement 167 = .ok (.iconst 0, 1) := by decide +kernel
theorem dX8_statement_168 : decode cX8_statement 168 = .ok (.istore 5, 2) := by decide +kernel
theorem dX8_statement_170 : decode cX8_statement 170 = .ok (.iload_n 1, 1) := by decide +kernel
theorem dX8_statement_171 : decode cX8_statement 171 = .ok (.ifCond .eq 18, 3) := by decide +kernel
theorem dX8_statement_174 : decode cX8_statement 174 = .ok (.iload 5, 2) := by decide +kernel
theorem dX8_statement_176 : decode cX8_statement 176 = .ok (.ifCond .eq 13, 3) := by decide +kernel
theorem dX8_statement_179 : decode cX8_statement 179 = .ok (.aload_n 0, 1) := by decide +kernel
theorem dX8_statement_180 : decode cX8_statement 180 = .ok (.iload_n 3, 1) := by decide +kernel
theorem dX8_statement_181 : decode cX8_statement 181 = .ok (.iload 4, 2) := by decide +kernel
theorem dX8_statement_183 : decode cX8_statement 183 = .ok (.invokevirtual 119, 3) := by decide +kernel
theorem dX8_statement_186 : decode cX8_statement 186 = .ok (.goto 5, 3) := by decide +kernel
theorem dX8_statement_189 : decode cX8_statement 189 = .ok (.bipush (-9), 2) := by decide +kernel
theorem dX8_statement_191 : decode cX8_statement 191 = .ok (.istore 6, 2) := by decide +kernel
theorem dX8_statement_193 : decode cX8_statement 193 = .ok (.iconst 0, 1) := by decide +kernel
theorem dX8_statement_194 : decode cX8_statement 194 = .ok (.istore 7, 2) := by decide +kernel
theorem dX8_statement_196 : decode cX8_statement 196 = .ok (.iload 7, 2) := by decide +kernel
theorem dX8_statement_198 : decode cX8_statement 198 = .ok (.ifCond .eq 28, 3) := by decide +kernel
theorem dX8_statement_201 : decode cX8_statement 201 = .ok (.iload 7, 2) := by decide +kernel
theorem dX8_statement_203 : decode cX8_statement 203 = .ok (.bipush 12, 2) := by decide +kernel
theorem dX8_statement_205 : decode cX8_statement 205 = .ok (.if_icmp .ge 52, 3) := by decide +kernel
theorem dX8_statement_208 : decode cX8_statement 208 = .ok (.aload_n 0, 1) := by decide +kernel
theorem dX8_statement_209 : decode cX8_statement 209 = .ok (.getfield 160, 3) := by decide +kernel
theorem dX8_statement_212 : decode cX8_statement 212 = .ok (.ifCond .ne 45, 3) := by decide +kernel
theorem dX8_statement_215 : decode cX8_statement 215 = .ok (.aload_n 0, 1) := by decide +kernel
theorem dX8_statement_216 : decode cX8_statement 216 = .ok (.bipush 97, 2) := by decide +kernel
theorem dX8_statement_218 : decode cX8_statement 218 = .ok (.bipush 104, 2) := by decide +kernel
theorem dX8_statement_220 : decode cX8_statement 220 = .ok (.invokevirtual 163, 3) := by decide +kernel
theorem dX8_statement_223 : decode cX8_statement 223 = .ok (.ifCond .eq 34, 3) := by decide +kernel
theorem dX8_statement_226 : decode cX8_statement 226 = .ok (.aload_n 0, 1) := by decide +kernel
theorem dX8_statement_227 : decode cX8_statement 227 = .ok (.bipush 97, 2) := by decide +kernel
theorem dX8_statement_229 : decode cX8_statement 229 = .ok (.bipush 104, 2) := by decide +kernel
theorem dX8_statement_231 : decode cX8_statement 231 = .ok (.invokevirtual 166, 3) := by decide +kernel
theorem dX8_statement_234 : decode cX8_statement 234 = .ok (.istore 8, 2) := by decide +kernel
theorem dX8_statement_236 : decode cX8_statement 236 = .ok (.iload 6, 2) := by decide +kernel
theorem dX8_statement_238 : decode cX8_statement 238 = .ok (.bipush (-9), 2) := by decide +kernel
theorem dX8_statement_240 : decode cX8_statement 240 = .ok (.if_icmp .eq 11, 3) := by decide +kernel
theorem dX8_statement_243 : decode cX8_statement 243 = .ok (.aload_n 0, 1) := by decide +kernel
theorem dX8_statement_244 : decode cX8_statement 244 = .ok (.iload 6, 2) := by decide +kernel
theorem dX8_statement_246 : decode cX8_statement 246 = .ok (.iload 8, 2) := by decide +kernel
theorem dX8_statement_248 : decode cX8_statement 248 = .ok (.invokevirtual 122, 3) := by decide +kernel
theorem dX8_statement_251 : decode cX8_statement 251 = .ok (.iinc 7 1, 3) := by decide +kernel
theorem dX8_statement_254 : decode cX8_statement 254 = .ok (.goto (-58), 3) := by decide +kernel
theorem dX8_statement_257 : decode cX8_statement 257 = .ok (.aload_n 0, 1) := by decide +kernel
theorem dX8_statement_258 : decode cX8_statement 258 = .ok (.bipush 59, 2) := by decide +kernel
theorem dX8_statement_260 : decode cX8_statement 260 = .ok (.bipush 59, 2) := by decide +kernel
theorem dX8_statement_262 : decode cX8_statement 262 = .ok (.invokevirtual 166, 3) := by decide +kernel
theorem dX8_statement_265 : decode cX8_statement 265 = .ok (.pop, 1) := by decide +kernel
theorem dX8_statement_266 : decode cX8_statement 266 = .ok (.iload 6, 2) := by decide +kernel
theorem dX8_statement_268 : decode cX8_statement 268 = .ok (.bipush (-9), 2) := by decide +kernel
theorem dX8_statement_270 : decode cX8_statement 270 = .ok (.if_icmp .eq 10, 3) := by decide +kernel
theorem dX8_statement_273 : decode cX8_statement 273 = .ok (.aload_n 0, 1) := by decide +kernel
theorem dX8_statement_274 : decode cX8_statement 274 = .ok (.iload 6, 2) := by decide +kernel
theorem dX8_statement_276 : decode cX8_statement 276 = .ok (.invokevirtual 126, 3) := by decide +kernel
theorem dX8_statement_279 : decode cX8_statement 279 = .ok (.pop, 1) := by decide +kernel
theorem dX8_statement_280 : decode cX8_statement 280 = .ok (.iload 5, 2) := by decide +kernel
theorem dX8_statement_282 : decode cX8_statement 282 = .ok (.ireturn, 1) := by decide +kernel
theorem dX8_statement_283 : decode cX8_statement 283 = .ok (.iload_n 2, 1) := by decide +kernel
theorem dX8_statement_284 : decode cX8_statement 284 = .ok (.bipush 104, 2) := by decide +kernel
theorem dX8_statement_286 : decode cX8_statement 286 = .ok (.if_icmp .ne 79, 3) := by decide +kernel
theorem dX8_statement_289 : decode cX8_statement 289 = .ok (.aload_n 0, 1) := by decide +kernel
theorem dX8_statement_290 : decode cX8_statement 290 = .ok (.bipush 48, 2) := by decide +kernel
theorem dX8_statement_292 : decode cX8_statement 292 = .ok (.bipush 57, 2) := by decide +kernel
theorem dX8_statement_294 : decode cX8_statement 294 = .ok (.invokevirtual 166, 3) := by decide +kernel
theorem dX8_statement_297 : decode cX8_statement 297 = .ok (.istore_n 3, 1) := by decide +kernel
theorem dX8_statement_298 : decode cX8_statement 298 = .ok (.aload_n 0, 1) := by decide +kernel
theorem dX8_statement_299 : decode cX8_statement 299 = .ok (.invokevirtual 169, 3) := by decide +kernel
theorem dX8_statement_302 : decode cX8_statement 302 = .ok (.istore 4, 2) := by decide +kernel
theorem dX8_statement_304 : decode cX8_statement 304 = .ok (.aload_n 0, 1) := by decide +kernel
theorem dX8_statement_305 : decode cX8_statement 305 = .ok (.bipush 59, 2) := by decide +kernel
theorem dX8_statement_307 : decode cX8_statement 307 = .ok (.bipush 59, 2) := by decide +kernel
theorem dX8_statement_309 : decode cX8_statement 309 = .ok (.invokevirtual 166, 3) := by decide +kernel
theorem dX8_statement_312 : decode cX8_statement 312 = .ok (.pop, 1) := by decide +kernel
theorem dX8_statement_313 : decode cX8_statement 313 = .ok (.iload_n 3, 1) := by decide +kernel
theorem dX8_statement_314 : decode cX8_statement 314 = .ok (.iconst 4, 1) := by decide +kernel
theorem dX8_statement_315 : decode cX8_statement 315 = .ok (.if_icmp .ge 23, 3) := by decide +kernel
theorem dX8_statement_318 : decode cX8_statement 318 = .ok (.iload 4, 2) := by decide +kernel
theorem dX8_statement_320 : decode cX8_statement 320 = .ok (.bipush (-9), 2) := by decide +kernel
theorem dX8_statement_322 : decode cX8_statement 322 = .ok (.if_icmp .eq 12, 3) := by decide +kernel
theorem dX8_statement_325 : decode cX8_statement 325 = .ok (.aload_n 0, 1) := by decide +kernel
theorem dX8_statement_326 : decode cX8_statement 326 = .ok (.iload 4, 2) := by decide +kernel
theorem dX8_statement_328 : decode cX8_statement 328 = .ok (.invokevirtual 59, 3) := by decide +kernel
theorem dX8_statement_331 : decode cX8_statement 331 = .ok (.ifCond .eq 7, 3) := by decide +kernel
theorem dX8_statement_334 : decode cX8_statement 334 = .ok (.iconst 1, 1) := by decide +kernel
theorem dX8_statement_335 : decode cX8_statement 335 = .ok (.goto 4, 3) := by decide +kernel
theorem dX8_statement_338 : decode cX8_statement 338 = .ok (.iconst 0, 1) := by decide +kernel
theorem dX8_statement_339 : decode cX8_statement 339 = .ok (.istore 5, 2) := by decide +kernel
theorem dX8_statement_341 : decode cX8_statement 341 = .ok (.iload_n 1, 1) := by decide +kernel
theorem dX8_statement_342 : decode cX8_statement 342 = .ok (.ifCond .eq 20, 3) := by decide +kernel
theorem dX8_statement_345 : decode cX8_statement 345 = .ok (.iload 5, 2) := by decide +kernel
theorem dX8_statement_347 : decode cX8_statement 347 = .ok (.ifCond .eq 15, 3) := by decide +kernel
theorem dX8_statement_350 : decode cX8_statement 350 = .ok (.aload_n 0, 1) := by decide +kernel
theorem dX8_statement_351 : decode cX8_statement 351 = .ok (.getfield 9, 3) := by decide +kernel
theorem dX8_statement_354 : decode cX8_statement 354 = .ok (.sipush 501, 3) := by decide +kernel
theorem dX8_statement_357 : decode cX8_statement 357 = .ok (.iload_n 3, 1) := by decide +kernel
theorem dX8_statement_358 : decode cX8_statement 358 = .ok (.iadd, 1) := by decide +kernel
theorem dX8_statement_359 : decode cX8_statement 359 = .ok (.iload 4, 2) := by decide +kernel
theorem dX8_statement_361 : decode cX8_statement 361 = .ok (.iastore, 1) := by decide +kernel
theorem dX8_statement_362 : decode cX8_statement 362 = .ok (.iload 5, 2) := by decide +kernel
theorem dX8_statement_364 : decode cX8_statement 364 = .ok (.ireturn, 1) := by decide +kernel
theorem dX8_statement_365 : decode cX8_statement 365 = .ok (.iload_n 2, 1) := by decide +kernel
theorem dX8_statement_366 : decode cX8_statement 366 = .ok (.bipush 107, 2) := by decide +kernel
theorem dX8_statement_368 : decode cX8_statement 368 = .ok (.if_icmp .eq 9, 3) := by decide +kernel
theorem dX8_statement_371 : decode cX8_statement 371 = .ok (.iload_n 2, 1) := by decide +kernel
theorem dX8_statement_372 : decode cX8_statement 372 = .ok (.bipush 100, 2) := by decide +kernel
theorem dX8_statement_374 : decode cX8_statement 374 = .ok (.if_icmp .ne 134, 3) := by decide +kernel
theorem dX8_statement_377 : decode cX8_statement 377 = .ok (.aload_n 0, 1) := by decide +kernel
theorem dX8_statement_378 : decode cX8_statement 378 = .ok (.bipush 48, 2) := by decide +kernel
theorem dX8_statement_380 : decode cX8_statement 380 = .ok (.bipush 57, 2) := by decide +kernel
theorem dX8_statement_382 : decode cX8_statement 382 = .ok (.invokevirtual 166, 3) := by decide +kernel
theorem dX8_statement_385 : decode cX8_statement 385 = .ok (.istore_n 3, 1) := by decide +kernel
theorem dX8_statement_386 : decode cX8_statement 386 = .ok (.iload_n 2, 1) := by decide +kernel
theorem dX8_statement_387 : decode cX8_statement 387 = .ok (.bipush 107, 2) := by decide +kernel
theorem dX8_statement_389 : decode cX8_statement 389 = .ok (.if_icmp .ne 14, 3) := by decide +kernel
theorem dX8_statement_392 : decode cX8_statement 392 = .ok (.aload_n 0, 1) := by decide +kernel
theorem dX8_statement_393 : decode cX8_statement 393 = .ok (.bipush 48, 2) := by decide +kernel
theorem dX8_statement_395 : decode cX8_statement 395 = .ok (.bipush 57, 2) := by decide +kernel
theorem dX8_statement_397 : decode cX8_statement 397 = .ok (.invokevirtual 166, 3) := by decide +kernel
theorem dX8_statement_400 : decode cX8_statement 400 = .ok (.goto 4, 3) := by decide +kernel
theorem dX8_statement_403 : decode cX8_statement 403 = .ok (.iconst 0, 1) := by decide +kernel
theorem dX8_statement_404 : decode cX8_statement 404 = .ok (.istore 4, 2) := by decide +kernel
theorem dX8_statement_406 : decode cX8_statement 406 = .ok (.aload_n 0, 1) := by decide +kernel
theorem dX8_statement_407 : decode cX8_statement 407 = .ok (.bipush 59, 2) := by decide +kernel
theorem dX8_statement_409 : decode cX8_statement 409 = .ok (.bipush 59, 2) := by decide +kernel
theorem dX8_statement_411 : decode cX8_statement 411 = .ok (.invokevirtual 166, 3) := by decide +kernel
theorem dX8_statement_414 : decode cX8_statement 414 = .ok (.pop, 1) := by decide +kernel
theorem dX8_statement_415 : decode cX8_statement 415 = .ok (.iload_n 2, 1) := by decide +kernel
theorem dX8_statement_416 : decode cX8_statement 416 = .ok (.bipush 107, 2) := by decide +kernel
theorem dX8_statement_418 : decode cX8_statement 418 = .ok (.if_icmp .ne 16, 3) := by decide +kernel
theorem dX8_statement_421 : decode cX8_statement 421 = .ok (.iload_n 3, 1) := by decide +kernel
theorem dX8_statement_422 : decode cX8_statement 422 = .ok (.iconst 5, 1) := by decide +kernel
theorem dX8_statement_423 : decode cX8_statement 423 = .ok (.if_icmp .gt 7, 3) := by decide +kernel
theorem dX8_statement_426 : decode cX8_statement 426 = .ok (.iconst 1, 1) := by decide +kernel
theorem dX8_statement_427 : decode cX8_statement 427 = .ok (.goto 18, 3) := by decide +kernel
theorem dX8_statement_430 : decode cX8_statement 430 = .ok (.iconst 0, 1) := by decide +kernel
theorem dX8_statement_431 : decode cX8_statement 431 = .ok (.goto 14, 3) := by decide +kernel
theorem dX8_statement_434 : decode cX8_statement 434 = .ok (.iload_n 3, 1) := by decide +kernel
theorem dX8_statement_435 : decode cX8_statement 435 = .ok (.bipush 8, 2) := by decide +kernel
theorem dX8_statement_437 : decode cX8_statement 437 = .ok (.if_icmp .gt 7, 3) := by decide +kernel
theorem dX8_statement_440 : decode cX8_statement 440 = .ok (.iconst 1, 1) := by decide +kernel
theorem dX8_statement_441 : decode cX8_statement 441 = .ok (.goto 4, 3) := by decide +kernel
theorem dX8_statement_444 : decode cX8_statement 444 = .ok (.iconst 0, 1) := by decide +kernel
theorem dX8_statement_445 : decode cX8_statement 445 = .ok (.istore 5, 2) := by decide +kernel
theorem dX8_statement_447 : decode cX8_statement 447 = .ok (.iload_n 1, 1) := by decide +kernel
theorem dX8_statement_448 : decode cX8_statement 448 = .ok (.ifCond .eq 23, 3) := by decide +kernel
theorem dX8_statement_451 : decode cX8_statement 451 = .ok (.iload 5, 2) := by decide +kernel
theorem dX8_statement_453 : decode cX8_statement 453 = .ok (.ifCond .eq 18, 3) := by decide +kernel
theorem dX8_statement_456 : decode cX8_statement 456 = .ok (.iload_n 2, 1) := by decide +kernel
theorem dX8_statement_457 : decode cX8_statement 457 = .ok (.bipush 100, 2) := by decide +kernel
theorem dX8_statement_459 : decode cX8_statement 459 = .ok (.if_icmp .ne 12, 3) := by decide +kernel
theorem dX8_statement_462 : decode cX8_statement 462 = .ok (.aload_n 0, 1) := by decide +kernel
theorem dX8_statement_463 : decode cX8_statement 463 = .ok (.getfield 9, 3) := by decide +kernel
theorem dX8_statement_466 : decode cX8_statement 466 = .ok (.sipush 507, 3) := by decide +kernel
theorem dX8_statement_469 : decode cX8_statement 469 = .ok (.iload_n 3, 1) := by decide +kernel
theorem dX8_statement_470 : decode cX8_statement 470 = .ok (.iastore, 1) := by decide +kernel
theorem dX8_statement_471 : decode cX8_statement 471 = .ok (.iload_n 1, 1) := by decide +kernel
theorem dX8_statement_472 : decode cX8_statement 472 = .ok (.ifCond .eq 33, 3) := by decide +kernel
theorem dX8_statement_475 : decode cX8_statement 475 = .ok (.iload 5, 2) := by decide +kernel
theorem dX8_statement_477 : decode cX8_statement 477 = .ok (.ifCond .eq 28, 3) := by decide +kernel
theorem dX8_statement_480 : decode cX8_statement 480 = .ok (.iload_n 2, 1) := by decide +kernel
theorem dX8_statement_481 : decode cX8_statement 481 = .ok (.bipush 107, 2) := by decide +kernel
theorem dX8_statement_483 : decode cX8_statement 483 = .ok (.if_icmp .ne 22, 3) := by decide +kernel
theorem dX8_statement_486 : decode cX8_statement 486 = .ok (.aload_n 0, 1) := by decide +kernel
theorem dX8_statement_487 : decode cX8_statement 487 = .ok (.getfield 9, 3) := by decide +kernel
