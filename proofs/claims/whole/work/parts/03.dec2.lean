theorem dX7_bestBase_32 : decode cX7_bestBase 32 = .ok (.ireturn, 1) := by decide +kernel
theorem dX7_bestBase_33 : decode cX7_bestBase 33 = .ok (.bipush (-9), 2) := by decide +kernel
theorem dX7_bestBase_35 : decode cX7_bestBase 35 = .ok (.istore_n 3, 1) := by decide +kernel
theorem dX7_bestBase_36 : decode cX7_bestBase 36 = .ok (.bipush (-9), 2) := by decide +kernel
theorem dX7_bestBase_38 : decode cX7_bestBase 38 = .ok (.istore 4, 2) := by decide +kernel
theorem dX7_bestBase_40 : decode cX7_bestBase 40 = .ok (.iconst 0, 1) := by decide +kernel
theorem dX7_bestBase_41 : decode cX7_bestBase 41 = .ok (.istore 5, 2) := by decide +kernel
theorem dX7_bestBase_43 : decode cX7_bestBase 43 = .ok (.iload 5, 2) := by decide +kernel
theorem dX7_bestBase_45 : decode cX7_bestBase 45 = .ok (.aload_n 0, 1) := by decide +kernel
theorem dX7_bestBase_46 : decode cX7_bestBase 46 = .ok (.getfield 10, 3) := by decide +kernel
theorem dX7_bestBase_49 : decode cX7_bestBase 49 = .ok (.getfield 224, 3) := by decide +kernel
theorem dX7_bestBase_52 : decode cX7_bestBase 52 = .ok (.if_icmp .ge 89, 3) := by decide +kernel
theorem dX7_bestBase_55 : decode cX7_bestBase 55 = .ok (.iload 5, 2) := by decide +kernel
theorem dX7_bestBase_57 : decode cX7_bestBase 57 = .ok (.iload_n 1, 1) := by decide +kernel
theorem dX7_bestBase_58 : decode cX7_bestBase 58 = .ok (.if_icmp .eq 77, 3) := by decide +kernel
theorem dX7_bestBase_61 : decode cX7_bestBase 61 = .ok (.aload_n 0, 1) := by decide +kernel
theorem dX7_bestBase_62 : decode cX7_bestBase 62 = .ok (.getfield 10, 3) := by decide +kernel
theorem dX7_bestBase_65 : decode cX7_bestBase 65 = .ok (.iload 5, 2) := by decide +kernel
theorem dX7_bestBase_67 : decode cX7_bestBase 67 = .ok (.invokevirtual 109, 3) := by decide +kernel
theorem dX7_bestBase_70 : decode cX7_bestBase 70 = .ok (.ifCond .eq 65, 3) := by decide +kernel
theorem dX7_bestBase_73 : decode cX7_bestBase 73 = .ok (.aload_n 0, 1) := by decide +kernel
theorem dX7_bestBase_74 : decode cX7_bestBase 74 = .ok (.getfield 32, 3) := by decide +kernel
theorem dX7_bestBase_77 : decode cX7_bestBase 77 = .ok (.aload_n 0, 1) := by decide +kernel
theorem dX7_bestBase_78 : decode cX7_bestBase 78 = .ok (.getfield 10, 3) := by decide +kernel
theorem dX7_bestBase_81 : decode cX7_bestBase 81 = .ok (.getfield 113, 3) := by decide +kernel
theorem dX7_bestBase_84 : decode cX7_bestBase 84 = .ok (.iload 5, 2) := by decide +kernel
theorem dX7_bestBase_86 : decode cX7_bestBase 86 = .ok (.aaload, 1) := by decide +kernel
theorem dX7_bestBase_87 : decode cX7_bestBase 87 = .ok (.getfield 117, 3) := by decide +kernel
theorem dX7_bestBase_90 : decode cX7_bestBase 90 = .ok (.aload_n 0, 1) := by decide +kernel
theorem dX7_bestBase_91 : decode cX7_bestBase 91 = .ok (.getfield 10, 3) := by decide +kernel
theorem dX7_bestBase_94 : decode cX7_bestBase 94 = .ok (.getfield 113, 3) := by decide +kernel
theorem dX7_bestBase_97 : decode cX7_bestBase 97 = .ok (.iload_n 1, 1) := by decide +kernel
theorem dX7_bestBase_98 : decode cX7_bestBase 98 = .ok (.aaload, 1) := by decide +kernel
theorem dX7_bestBase_99 : decode cX7_bestBase 99 = .ok (.getfield 117, 3) := by decide +kernel
theorem dX7_bestBase_102 : decode cX7_bestBase 102 = .ok (.invokevirtual 208, 3) := by decide +kernel
theorem dX7_bestBase_105 : decode cX7_bestBase 105 = .ok (.iload_n 3, 1) := by decide +kernel
theorem dX7_bestBase_106 : decode cX7_bestBase 106 = .ok (.bipush (-9), 2) := by decide +kernel
theorem dX7_bestBase_108 : decode cX7_bestBase 108 = .ok (.if_icmp .eq 15, 3) := by decide +kernel
theorem dX7_bestBase_111 : decode cX7_bestBase 111 = .ok (.aload_n 0, 1) := by decide +kernel
theorem dX7_bestBase_112 : decode cX7_bestBase 112 = .ok (.getfield 32, 3) := by decide +kernel
theorem dX7_bestBase_115 : decode cX7_bestBase 115 = .ok (.invokevirtual 211, 3) := by decide +kernel
theorem dX7_bestBase_118 : decode cX7_bestBase 118 = .ok (.iload 4, 2) := by decide +kernel
theorem dX7_bestBase_120 : decode cX7_bestBase 120 = .ok (.if_icmp .ge 15, 3) := by decide +kernel
theorem dX7_bestBase_123 : decode cX7_bestBase 123 = .ok (.iload 5, 2) := by decide +kernel
theorem dX7_bestBase_125 : decode cX7_bestBase 125 = .ok (.istore_n 3, 1) := by decide +kernel
theorem dX7_bestBase_126 : decode cX7_bestBase 126 = .ok (.aload_n 0, 1) := by decide +kernel
theorem dX7_bestBase_127 : decode cX7_bestBase 127 = .ok (.getfield 32, 3) := by decide +kernel
theorem dX7_bestBase_130 : decode cX7_bestBase 130 = .ok (.invokevirtual 211, 3) := by decide +kernel
theorem dX7_bestBase_133 : decode cX7_bestBase 133 = .ok (.istore 4, 2) := by decide +kernel
theorem dX7_bestBase_135 : decode cX7_bestBase 135 = .ok (.iinc 5 1, 3) := by decide +kernel
theorem dX7_bestBase_138 : decode cX7_bestBase 138 = .ok (.goto (-95), 3) := by decide +kernel
theorem dX7_bestBase_141 : decode cX7_bestBase 141 = .ok (.iload_n 2, 1) := by decide +kernel
theorem dX7_bestBase_142 : decode cX7_bestBase 142 = .ok (.ifCond .ne 7, 3) := by decide +kernel
theorem dX7_bestBase_145 : decode cX7_bestBase 145 = .ok (.iload_n 3, 1) := by decide +kernel
theorem dX7_bestBase_146 : decode cX7_bestBase 146 = .ok (.goto 5, 3) := by decide +kernel
theorem dX7_bestBase_149 : decode cX7_bestBase 149 = .ok (.iload 4, 2) := by decide +kernel
theorem dX7_bestBase_151 : decode cX7_bestBase 151 = .ok (.ireturn, 1) := by decide +kernel
theorem dX7_reached_0 : decode cX7_reached 0 = .ok (.iload_n 1, 1) := by decide +kernel
theorem dX7_reached_1 : decode cX7_reached 1 = .ok (.ifCond .lt 8, 3) := by decide +kernel
theorem dX7_reached_4 : decode cX7_reached 4 = .ok (.iload_n 1, 1) := by decide +kernel
theorem dX7_reached_5 : decode cX7_reached 5 = .ok (.iconst 2, 1) := by decide +kernel
theorem dX7_reached_6 : decode cX7_reached 6 = .ok (.if_icmp .le 10, 3) := by decide +kernel
theorem dX7_reached_9 : decode cX7_reached 9 = .ok (.aload_n 0, 1) := by decide +kernel
theorem dX7_reached_10 : decode cX7_reached 10 = .ok (.bipush (-2), 2) := by decide +kernel
theorem dX7_reached_12 : decode cX7_reached 12 = .ok (.invokevirtual 67, 3) := by decide +kernel
theorem dX7_reached_15 : decode cX7_reached 15 = .ok (.ireturn, 1) := by decide +kernel
theorem dX7_reached_16 : decode cX7_reached 16 = .ok (.iload_n 1, 1) := by decide +kernel
theorem dX7_reached_17 : decode cX7_reached 17 = .ok (.iconst 2, 1) := by decide +kernel
theorem dX7_reached_18 : decode cX7_reached 18 = .ok (.if_icmp .ne 11, 3) := by decide +kernel
theorem dX7_reached_21 : decode cX7_reached 21 = .ok (.aload_n 0, 1) := by decide +kernel
theorem dX7_reached_22 : decode cX7_reached 22 = .ok (.getfield 10, 3) := by decide +kernel
theorem dX7_reached_25 : decode cX7_reached 25 = .ok (.invokevirtual 227, 3) := by decide +kernel
theorem dX7_reached_28 : decode cX7_reached 28 = .ok (.ireturn, 1) := by decide +kernel
theorem dX7_reached_29 : decode cX7_reached 29 = .ok (.aload_n 0, 1) := by decide +kernel
theorem dX7_reached_30 : decode cX7_reached 30 = .ok (.getfield 10, 3) := by decide +kernel
theorem dX7_reached_33 : decode cX7_reached 33 = .ok (.invokevirtual 230, 3) := by decide +kernel
theorem dX7_reached_36 : decode cX7_reached 36 = .ok (.aload_n 0, 1) := by decide +kernel
theorem dX7_reached_37 : decode cX7_reached 37 = .ok (.getfield 10, 3) := by decide +kernel
theorem dX7_reached_40 : decode cX7_reached 40 = .ok (.getfield 233, 3) := by decide +kernel
theorem dX7_reached_43 : decode cX7_reached 43 = .ok (.iand, 1) := by decide +kernel
theorem dX7_reached_44 : decode cX7_reached 44 = .ok (.istore_n 2, 1) := by decide +kernel
theorem dX7_reached_45 : decode cX7_reached 45 = .ok (.iload_n 1, 1) := by decide +kernel
theorem dX7_reached_46 : decode cX7_reached 46 = .ok (.ifCond .ne 7, 3) := by decide +kernel
theorem dX7_reached_49 : decode cX7_reached 49 = .ok (.iload_n 2, 1) := by decide +kernel
theorem dX7_reached_50 : decode cX7_reached 50 = .ok (.goto 14, 3) := by decide +kernel
theorem dX7_reached_53 : decode cX7_reached 53 = .ok (.aload_n 0, 1) := by decide +kernel
theorem dX7_reached_54 : decode cX7_reached 54 = .ok (.getfield 10, 3) := by decide +kernel
theorem dX7_reached_57 : decode cX7_reached 57 = .ok (.getfield 233, 3) := by decide +kernel
theorem dX7_reached_60 : decode cX7_reached 60 = .ok (.iload_n 2, 1) := by decide +kernel
theorem dX7_reached_61 : decode cX7_reached 61 = .ok (.iconst (-1), 1) := by decide +kernel
theorem dX7_reached_62 : decode cX7_reached 62 = .ok (.ixor, 1) := by decide +kernel
theorem dX7_reached_63 : decode cX7_reached 63 = .ok (.iand, 1) := by decide +kernel
theorem dX7_reached_64 : decode cX7_reached 64 = .ok (.ireturn, 1) := by decide +kernel
theorem dX7_ancestors_0 : decode cX7_ancestors 0 = .ok (.aload_n 0, 1) := by decide +kernel
theorem dX7_ancestors_1 : decode cX7_ancestors 1 = .ok (.getfield 10, 3) := by decide +kernel
theorem dX7_ancestors_4 : decode cX7_ancestors 4 = .ok (.iload_n 1, 1) := by decide +kernel
theorem dX7_ancestors_5 : decode cX7_ancestors 5 = .ok (.invokevirtual 109, 3) := by decide +kernel
theorem dX7_ancestors_8 : decode cX7_ancestors 8 = .ok (.ifCond .ne 9, 3) := by decide +kernel
theorem dX7_ancestors_11 : decode cX7_ancestors 11 = .ok (.aload_n 0, 1) := by decide +kernel
theorem dX7_ancestors_12 : decode cX7_ancestors 12 = .ok (.iconst (-1), 1) := by decide +kernel
theorem dX7_ancestors_13 : decode cX7_ancestors 13 = .ok (.invokevirtual 67, 3) := by decide +kernel
theorem dX7_ancestors_16 : decode cX7_ancestors 16 = .ok (.ireturn, 1) := by decide +kernel
theorem dX7_ancestors_17 : decode cX7_ancestors 17 = .ok (.aload_n 0, 1) := by decide +kernel
theorem dX7_ancestors_18 : decode cX7_ancestors 18 = .ok (.getfield 10, 3) := by decide +kernel
theorem dX7_ancestors_21 : decode cX7_ancestors 21 = .ok (.getfield 113, 3) := by decide +kernel
theorem dX7_ancestors_24 : decode cX7_ancestors 24 = .ok (.iload_n 1, 1) := by decide +kernel
theorem dX7_ancestors_25 : decode cX7_ancestors 25 = .ok (.aaload, 1) := by decide +kernel
theorem dX7_ancestors_26 : decode cX7_ancestors 26 = .ok (.getfield 236, 3) := by decide +kernel
theorem dX7_ancestors_29 : decode cX7_ancestors 29 = .ok (.iconst 1, 1) := by decide +kernel
theorem dX7_ancestors_30 : decode cX7_ancestors 30 = .ok (.iload_n 1, 1) := by decide +kernel
theorem dX7_ancestors_31 : decode cX7_ancestors 31 = .ok (.ishl, 1) := by decide +kernel
theorem dX7_ancestors_32 : decode cX7_ancestors 32 = .ok (.iconst (-1), 1) := by decide +kernel
theorem dX7_ancestors_33 : decode cX7_ancestors 33 = .ok (.ixor, 1) := by decide +kernel
theorem dX7_ancestors_34 : decode cX7_ancestors 34 = .ok (.iand, 1) := by decide +kernel
theorem dX7_ancestors_35 : decode cX7_ancestors 35 = .ok (.ireturn, 1) := by decide +kernel
theorem dX7_common_0 : decode cX7_common 0 = .ok (.aload_n 0, 1) := by decide +kernel
theorem dX7_common_1 : decode cX7_common 1 = .ok (.getfield 10, 3) := by decide +kernel
theorem dX7_common_4 : decode cX7_common 4 = .ok (.iload_n 1, 1) := by decide +kernel
theorem dX7_common_5 : decode cX7_common 5 = .ok (.invokevirtual 109, 3) := by decide +kernel
theorem dX7_common_8 : decode cX7_common 8 = .ok (.ifCond .eq 14, 3) := by decide +kernel
theorem dX7_common_11 : decode cX7_common 11 = .ok (.aload_n 0, 1) := by decide +kernel
theorem dX7_common_12 : decode cX7_common 12 = .ok (.getfield 10, 3) := by decide +kernel
theorem dX7_common_15 : decode cX7_common 15 = .ok (.iload_n 2, 1) := by decide +kernel
theorem dX7_common_16 : decode cX7_common 16 = .ok (.invokevirtual 109, 3) := by decide +kernel
theorem dX7_common_19 : decode cX7_common 19 = .ok (.ifCond .ne 9, 3) := by decide +kernel
theorem dX7_common_22 : decode cX7_common 22 = .ok (.aload_n 0, 1) := by decide +kernel
theorem dX7_common_23 : decode cX7_common 23 = .ok (.iconst (-1), 1) := by decide +kernel
theorem dX7_common_24 : decode cX7_common 24 = .ok (.invokevirtual 67, 3) := by decide +kernel
theorem dX7_common_27 : decode cX7_common 27 = .ok (.ireturn, 1) := by decide +kernel
theorem dX7_common_28 : decode cX7_common 28 = .ok (.aload_n 0, 1) := by decide +kernel
theorem dX7_common_29 : decode cX7_common 29 = .ok (.getfield 10, 3) := by decide +kernel
theorem dX7_common_32 : decode cX7_common 32 = .ok (.getfield 113, 3) := by decide +kernel
theorem dX7_common_35 : decode cX7_common 35 = .ok (.iload_n 1, 1) := by decide +kernel
theorem dX7_common_36 : decode cX7_common 36 = .ok (.aaload, 1) := by decide +kernel
theorem dX7_common_37 : decode cX7_common 37 = .ok (.getfield 236, 3) := by decide +kernel
theorem dX7_common_40 : decode cX7_common 40 = .ok (.aload_n 0, 1) := by decide +kernel
theorem dX7_common_41 : decode cX7_common 41 = .ok (.getfield 10, 3) := by decide +kernel
theorem dX7_common_44 : decode cX7_common 44 = .ok (.getfield 113, 3) := by decide +kernel
theorem dX7_common_47 : decode cX7_common 47 = .ok (.iload_n 2, 1) := by decide +kernel
theorem dX7_common_48 : decode cX7_common 48 = .ok (.aaload, 1) := by decide +kernel
theorem dX7_common_49 : decode cX7_common 49 = .ok (.getfield 236, 3) := by decide +kernel
theorem dX7_common_52 : decode cX7_common 52 = .ok (.iand, 1) := by decide +kernel
theorem dX7_common_53 : decode cX7_common 53 = .ok (.istore_n 3, 1) := by decide +kernel
theorem dX7_common_54 : decode cX7_common 54 = .ok (.bipush 9, 2) := by decide +kernel
theorem dX7_common_56 : decode cX7_common 56 = .ok (.istore 4, 2) := by decide +kernel
theorem dX7_common_58 : decode cX7_common 58 = .ok (.iload 4, 2) := by decide +kernel
theorem dX7_common_60 : decode cX7_common 60 = .ok (.ifCond .lt 22, 3) := by decide +kernel
theorem dX7_common_63 : decode cX7_common 63 = .ok (.iload_n 3, 1) := by decide +kernel
theorem dX7_common_64 : decode cX7_common 64 = .ok (.iload 4, 2) := by decide +kernel
theorem dX7_common_66 : decode cX7_common 66 = .ok (.ishr, 1) := by decide +kernel
theorem dX7_common_67 : decode cX7_common 67 = .ok (.iconst 1, 1) := by decide +kernel
theorem dX7_common_68 : decode cX7_common 68 = .ok (.iand, 1) := by decide +kernel
theorem dX7_common_69 : decode cX7_common 69 = .ok (.iconst 1, 1) := by decide +kernel
theorem dX7_common_70 : decode cX7_common 70 = .ok (.if_icmp .ne 6, 3) := by decide +kernel
theorem dX7_common_73 : decode cX7_common 73 = .ok (.iload 4, 2) := by decide +kernel
theorem dX7_common_75 : decode cX7_common 75 = .ok (.ireturn, 1) := by decide +kernel
theorem dX7_common_76 : decode cX7_common 76 = .ok (.iinc 4 (-1), 3) := by decide +kernel
theorem dX7_common_79 : decode cX7_common 79 = .ok (.goto (-21), 3) := by decide +kernel
theorem dX7_common_82 : decode cX7_common 82 = .ok (.bipush (-9), 2) := by decide +kernel
theorem dX7_common_84 : decode cX7_common 84 = .ok (.ireturn, 1) := by decide +kernel
theorem dX7_generations_0 : decode cX7_generations 0 = .ok (.iload_n 1, 1) := by decide +kernel
theorem dX7_generations_1 : decode cX7_generations 1 = .ok (.invokestatic 133, 3) := by decide +kernel
theorem dX7_generations_4 : decode cX7_generations 4 = .ok (.ifCond .ne 9, 3) := by decide +kernel
theorem dX7_generations_7 : decode cX7_generations 7 = .ok (.aload_n 0, 1) := by decide +kernel
theorem dX7_generations_8 : decode cX7_generations 8 = .ok (.iconst (-1), 1) := by decide +kernel
theorem dX7_generations_9 : decode cX7_generations 9 = .ok (.invokevirtual 67, 3) := by decide +kernel
theorem dX7_generations_12 : decode cX7_generations 12 = .ok (.ireturn, 1) := by decide +kernel
theorem dX7_generations_13 : decode cX7_generations 13 = .ok (.iload_n 2, 1) := by decide +kernel
theorem dX7_generations_14 : decode cX7_generations 14 = .ok (.ifCond .ge 10, 3) := by decide +kernel
theorem dX7_generations_17 : decode cX7_generations 17 = .ok (.aload_n 0, 1) := by decide +kernel
theorem dX7_generations_18 : decode cX7_generations 18 = .ok (.bipush (-4), 2) := by decide +kernel
theorem dX7_generations_20 : decode cX7_generations 20 = .ok (.invokevirtual 67, 3) := by decide +kernel
theorem dX7_generations_23 : decode cX7_generations 23 = .ok (.ireturn, 1) := by decide +kernel
theorem dX7_generations_24 : decode cX7_generations 24 = .ok (.iload_n 2, 1) := by decide +kernel
theorem dX7_generations_25 : decode cX7_generations 25 = .ok (.bipush 9, 2) := by decide +kernel
theorem dX7_generations_27 : decode cX7_generations 27 = .ok (.if_icmp .le 10, 3) := by decide +kernel
theorem dX7_generations_30 : decode cX7_generations 30 = .ok (.aload_n 0, 1) := by decide +kernel
theorem dX7_generations_31 : decode cX7_generations 31 = .ok (.bipush (-6), 2) := by decide +kernel
theorem dX7_generations_33 : decode cX7_generations 33 = .ok (.invokevirtual 67, 3) := by decide +kernel
theorem dX7_generations_36 : decode cX7_generations 36 = .ok (.ireturn, 1) := by decide +kernel
theorem dX7_generations_37 : decode cX7_generations 37 = .ok (.aload_n 0, 1) := by decide +kernel
theorem dX7_generations_38 : decode cX7_generations 38 = .ok (.getfield 10, 3) := by decide +kernel
theorem dX7_generations_41 : decode cX7_generations 41 = .ok (.aload_n 0, 1) := by decide +kernel
theorem dX7_generations_42 : decode cX7_generations 42 = .ok (.getfield 10, 3) := by decide +kernel
theorem dX7_generations_45 : decode cX7_generations 45 = .ok (.getfield 136, 3) := by decide +kernel
theorem dX7_generations_48 : decode cX7_generations 48 = .ok (.iload_n 1, 1) := by decide +kernel
theorem dX7_generations_49 : decode cX7_generations 49 = .ok (.iaload, 1) := by decide +kernel
theorem dX7_generations_50 : decode cX7_generations 50 = .ok (.invokevirtual 109, 3) := by decide +kernel
theorem dX7_generations_53 : decode cX7_generations 53 = .ok (.ifCond .ne 5, 3) := by decide +kernel
theorem dX7_generations_56 : decode cX7_generations 56 = .ok (.iconst 0, 1) := by decide +kernel
theorem dX7_generations_57 : decode cX7_generations 57 = .ok (.ireturn, 1) := by decide +kernel
theorem dX7_generations_58 : decode cX7_generations 58 = .ok (.iconst 1, 1) := by decide +kernel
theorem dX7_generations_59 : decode cX7_generations 59 = .ok (.aload_n 0, 1) := by decide +kernel
theorem dX7_generations_60 : decode cX7_generations 60 = .ok (.getfield 10, 3) := by decide +kernel
theorem dX7_generations_63 : decode cX7_generations 63 = .ok (.getfield 136, 3) := by decide +kernel
theorem dX7_generations_66 : decode cX7_generations 66 = .ok (.iload_n 1, 1) := by decide +kernel
theorem dX7_generations_67 : decode cX7_generations 67 = .ok (.iaload, 1) := by decide +kernel
theorem dX7_generations_68 : decode cX7_generations 68 = .ok (.ishl, 1) := by decide +kernel
theorem dX7_generations_69 : decode cX7_generations 69 = .ok (.istore_n 3, 1) := by decide +kernel
theorem dX7_generations_70 : decode cX7_generations 70 = .ok (.iconst 0, 1) := by decide +kernel
theorem dX7_generations_71 : decode cX7_generations 71 = .ok (.istore 4, 2) := by decide +kernel
theorem dX7_generations_73 : decode cX7_generations 73 = .ok (.iload 4, 2) := by decide +kernel
theorem dX7_generations_75 : decode cX7_generations 75 = .ok (.iload_n 2, 1) := by decide +kernel
theorem dX7_generations_76 : decode cX7_generations 76 = .ok (.if_icmp .ge 20, 3) := by decide +kernel
theorem dX7_generations_79 : decode cX7_generations 79 = .ok (.iload_n 3, 1) := by decide +kernel
theorem dX7_generations_80 : decode cX7_generations 80 = .ok (.aload_n 0, 1) := by decide +kernel
theorem dX7_generations_81 : decode cX7_generations 81 = .ok (.getfield 10, 3) := by decide +kernel
theorem dX7_generations_84 : decode cX7_generations 84 = .ok (.iload_n 3, 1) := by decide +kernel
theorem dX7_generations_85 : decode cX7_generations 85 = .ok (.invokevirtual 239, 3) := by decide +kernel
theorem dX7_generations_88 : decode cX7_generations 88 = .ok (.ior, 1) := by decide +kernel
theorem dX7_generations_89 : decode cX7_generations 89 = .ok (.istore_n 3, 1) := by decide +kernel
theorem dX7_generations_90 : decode cX7_generations 90 = .ok (.iinc 4 1, 3) := by decide +kernel
theorem dX7_generations_93 : decode cX7_generations 93 = .ok (.goto (-20), 3) := by decide +kernel
theorem dX7_generations_96 : decode cX7_generations 96 = .ok (.iload_n 3, 1) := by decide +kernel
theorem dX7_generations_97 : decode cX7_generations 97 = .ok (.ireturn, 1) := by decide +kernel
theorem dX7_twin_0 : decode cX7_twin 0 = .ok (.aload_n 0, 1) := by decide +kernel
theorem dX7_twin_1 : decode cX7_twin 1 = .ok (.getfield 10, 3) := by decide +kernel
theorem dX7_twin_4 : decode cX7_twin 4 = .ok (.iload_n 1, 1) := by decide +kernel
theorem dX7_twin_5 : decode cX7_twin 5 = .ok (.invokevirtual 109, 3) := by decide +kernel
theorem dX7_twin_8 : decode cX7_twin 8 = .ok (.ifCond .ne 9, 3) := by decide +kernel
theorem dX7_twin_11 : decode cX7_twin 11 = .ok (.aload_n 0, 1) := by decide +kernel
theorem dX7_twin_12 : decode cX7_twin 12 = .ok (.iconst (-1), 1) := by decide +kernel
theorem dX7_twin_13 : decode cX7_twin 13 = .ok (.invokevirtual 67, 3) := by decide +kernel
theorem dX7_twin_16 : decode cX7_twin 16 = .ok (.ireturn, 1) := by decide +kernel
theorem dX7_twin_17 : decode cX7_twin 17 = .ok (.aload_n 0, 1) := by decide +kernel
theorem dX7_twin_18 : decode cX7_twin 18 = .ok (.getfield 10, 3) := by decide +kernel
theorem dX7_twin_21 : decode cX7_twin 21 = .ok (.iload_n 1, 1) := by decide +kernel
theorem dX7_twin_22 : decode cX7_twin 22 = .ok (.invokevirtual 242, 3) := by decide +kernel
theorem dX7_twin_25 : decode cX7_twin 25 = .ok (.ireturn, 1) := by decide +kernel
theorem dX7_fetch_0 : decode cX7_fetch 0 = .ok (.iload_n 1, 1) := by decide +kernel
theorem dX7_fetch_1 : decode cX7_fetch 1 = .ok (.invokestatic 133, 3) := by decide +kernel
theorem dX7_fetch_4 : decode cX7_fetch 4 = .ok (.ifCond .ne 9, 3) := by decide +kernel
theorem dX7_fetch_7 : decode cX7_fetch 7 = .ok (.aload_n 0, 1) := by decide +kernel
theorem dX7_fetch_8 : decode cX7_fetch 8 = .ok (.iconst (-1), 1) := by decide +kernel
theorem dX7_fetch_9 : decode cX7_fetch 9 = .ok (.invokevirtual 67, 3) := by decide +kernel
theorem dX7_fetch_12 : decode cX7_fetch 12 = .ok (.ireturn, 1) := by decide +kernel
theorem dX7_fetch_13 : decode cX7_fetch 13 = .ok (.iload_n 2, 1) := by decide +kernel
theorem dX7_fetch_14 : decode cX7_fetch 14 = .ok (.ifCond .ge 10, 3) := by decide +kernel
theorem dX7_fetch_17 : decode cX7_fetch 17 = .ok (.aload_n 0, 1) := by decide +kernel
theorem dX7_fetch_18 : decode cX7_fetch 18 = .ok (.bipush (-4), 2) := by decide +kernel
theorem dX7_fetch_20 : decode cX7_fetch 20 = .ok (.invokevirtual 67, 3) := by decide +kernel
theorem dX7_fetch_23 : decode cX7_fetch 23 = .ok (.ireturn, 1) := by decide +kernel
theorem dX7_fetch_24 : decode cX7_fetch 24 = .ok (.iload_n 2, 1) := by decide +kernel
theorem dX7_fetch_25 : decode cX7_fetch 25 = .ok (.sipush 1023, 3) := by decide +kernel
theorem dX7_fetch_28 : decode cX7_fetch 28 = .ok (.if_icmp .le 10, 3) := by decide +kernel
theorem dX7_fetch_31 : decode cX7_fetch 31 = .ok (.aload_n 0, 1) := by decide +kernel
theorem dX7_fetch_32 : decode cX7_fetch 32 = .ok (.bipush (-6), 2) := by decide +kernel
theorem dX7_fetch_34 : decode cX7_fetch 34 = .ok (.invokevirtual 67, 3) := by decide +kernel
theorem dX7_fetch_37 : decode cX7_fetch 37 = .ok (.ireturn, 1) := by decide +kernel
theorem dX7_fetch_38 : decode cX7_fetch 38 = .ok (.iload_n 3, 1) := by decide +kernel
theorem dX7_fetch_39 : decode cX7_fetch 39 = .ok (.ifCond .lt 8, 3) := by decide +kernel
theorem dX7_fetch_42 : decode cX7_fetch 42 = .ok (.iload_n 3, 1) := by decide +kernel
theorem dX7_fetch_43 : decode cX7_fetch 43 = .ok (.iconst 2, 1) := by decide +kernel
theorem dX7_fetch_44 : decode cX7_fetch 44 = .ok (.if_icmp .le 10, 3) := by decide +kernel
theorem dX7_fetch_47 : decode cX7_fetch 47 = .ok (.aload_n 0, 1) := by decide +kernel
theorem dX7_fetch_48 : decode cX7_fetch 48 = .ok (.bipush (-2), 2) := by decide +kernel
theorem dX7_fetch_50 : decode cX7_fetch 50 = .ok (.invokevirtual 67, 3) := by decide +kernel
theorem dX7_fetch_53 : decode cX7_fetch 53 = .ok (.ireturn, 1) := by decide +kernel
theorem dX7_fetch_54 : decode cX7_fetch 54 = .ok (.aload_n 0, 1) := by decide +kernel
theorem dX7_fetch_55 : decode cX7_fetch 55 = .ok (.getfield 10, 3) := by decide +kernel
theorem dX7_fetch_58 : decode cX7_fetch 58 = .ok (.getfield 136, 3) := by decide +kernel
theorem dX7_fetch_61 : decode cX7_fetch 61 = .ok (.iload_n 1, 1) := by decide +kernel
theorem dX7_fetch_62 : decode cX7_fetch 62 = .ok (.iaload, 1) := by decide +kernel
theorem dX7_fetch_63 : decode cX7_fetch 63 = .ok (.istore 4, 2) := by decide +kernel
theorem dX7_fetch_65 : decode cX7_fetch 65 = .ok (.aload_n 0, 1) := by decide +kernel
theorem dX7_fetch_66 : decode cX7_fetch 66 = .ok (.getfield 10, 3) := by decide +kernel
theorem dX7_fetch_69 : decode cX7_fetch 69 = .ok (.iload 4, 2) := by decide +kernel
theorem dX7_fetch_71 : decode cX7_fetch 71 = .ok (.invokevirtual 109, 3) := by decide +kernel
theorem dX7_fetch_74 : decode cX7_fetch 74 = .ok (.ifCond .ne 5, 3) := by decide +kernel
theorem dX7_fetch_77 : decode cX7_fetch 77 = .ok (.iconst 0, 1) := by decide +kernel
theorem dX7_fetch_78 : decode cX7_fetch 78 = .ok (.ireturn, 1) := by decide +kernel
theorem dX7_fetch_79 : decode cX7_fetch 79 = .ok (.aload_n 0, 1) := by decide +kernel
theorem dX7_fetch_80 : decode cX7_fetch 80 = .ok (.getfield 10, 3) := by decide +kernel
theorem dX7_fetch_83 : decode cX7_fetch 83 = .ok (.iload_n 2, 1) := by decide +kernel
theorem dX7_fetch_84 : decode cX7_fetch 84 = .ok (.invokevirtual 245, 3) := by decide +kernel
theorem dX7_fetch_87 : decode cX7_fetch 87 = .ok (.istore 5, 2) := by decide +kernel
theorem dX7_fetch_89 : decode cX7_fetch 89 = .ok (.aload_n 0, 1) := by decide +kernel
theorem dX7_fetch_90 : decode cX7_fetch 90 = .ok (.getfield 10, 3) := by decide +kernel
theorem dX7_fetch_93 : decode cX7_fetch 93 = .ok (.getfield 113, 3) := by decide +kernel
theorem dX7_fetch_96 : decode cX7_fetch 96 = .ok (.iload 4, 2) := by decide +kernel
theorem dX7_fetch_98 : decode cX7_fetch 98 = .ok (.aaload, 1) := by decide +kernel
theorem dX7_fetch_99 : decode cX7_fetch 99 = .ok (.getfield 236, 3) := by decide +kernel
theorem dX7_fetch_102 : decode cX7_fetch 102 = .ok (.aload_n 0, 1) := by decide +kernel
theorem dX7_fetch_103 : decode cX7_fetch 103 = .ok (.getfield 10, 3) := by decide +kernel
theorem dX7_fetch_106 : decode cX7_fetch 106 = .ok (.getfield 233, 3) := by decide +kernel
theorem dX7_fetch_109 : decode cX7_fetch 109 = .ok (.iand, 1) := by decide +kernel
theorem dX7_fetch_110 : decode cX7_fetch 110 = .ok (.iload 5, 2) := by decide +kernel
theorem dX7_fetch_112 : decode cX7_fetch 112 = .ok (.iconst (-1), 1) := by decide +kernel
theorem dX7_fetch_113 : decode cX7_fetch 113 = .ok (.ixor, 1) := by decide +kernel
theorem dX7_fetch_114 : decode cX7_fetch 114 = .ok (.iand, 1) := by decide +kernel
theorem dX7_fetch_115 : decode cX7_fetch 115 = .ok (.istore 6, 2) := by decide +kernel
theorem dX7_fetch_117 : decode cX7_fetch 117 = .ok (.iload_n 3, 1) := by decide +kernel
theorem dX7_fetch_118 : decode cX7_fetch 118 = .ok (.ifCond .ne 6, 3) := by decide +kernel
theorem dX7_fetch_121 : decode cX7_fetch 121 = .ok (.iload 6, 2) := by decide +kernel
theorem dX7_fetch_123 : decode cX7_fetch 123 = .ok (.ireturn, 1) := by decide +kernel
theorem dX7_fetch_124 : decode cX7_fetch 124 = .ok (.iload 6, 2) := by decide +kernel
theorem dX7_fetch_126 : decode cX7_fetch 126 = .ok (.iload 5, 2) := by decide +kernel
theorem dX7_fetch_128 : decode cX7_fetch 128 = .ok (.ior, 1) := by decide +kernel
theorem dX7_fetch_129 : decode cX7_fetch 129 = .ok (.aload_n 0, 1) := by decide +kernel
theorem dX7_fetch_130 : decode cX7_fetch 130 = .ok (.getfield 10, 3) := by decide +kernel
theorem dX7_fetch_133 : decode cX7_fetch 133 = .ok (.getfield 233, 3) := by decide +kernel
theorem dX7_fetch_136 : decode cX7_fetch 136 = .ok (.iand, 1) := by decide +kernel
theorem dX7_fetch_137 : decode cX7_fetch 137 = .ok (.istore 7, 2) := by decide +kernel
theorem dX7_fetch_139 : decode cX7_fetch 139 = .ok (.iload_n 3, 1) := by decide +kernel
theorem dX7_fetch_140 : decode cX7_fetch 140 = .ok (.iconst 1, 1) := by decide +kernel
theorem dX7_fetch_141 : decode cX7_fetch 141 = .ok (.if_icmp .ne 17, 3) := by decide +kernel
theorem dX7_fetch_144 : decode cX7_fetch 144 = .ok (.aload_n 0, 1) := by decide +kernel
theorem dX7_fetch_145 : decode cX7_fetch 145 = .ok (.getfield 10, 3) := by decide +kernel
theorem dX7_fetch_148 : decode cX7_fetch 148 = .ok (.iload 6, 2) := by decide +kernel
theorem dX7_fetch_150 : decode cX7_fetch 150 = .ok (.iload 7, 2) := by decide +kernel
theorem dX7_fetch_152 : decode cX7_fetch 152 = .ok (.invokevirtual 248, 3) := by decide +kernel
theorem dX7_fetch_155 : decode cX7_fetch 155 = .ok (.goto 17, 3) := by decide +kernel
theorem dX7_fetch_158 : decode cX7_fetch 158 = .ok (.aload_n 0, 1) := by decide +kernel
theorem dX7_fetch_159 : decode cX7_fetch 159 = .ok (.getfield 10, 3) := by decide +kernel
theorem dX7_fetch_162 : decode cX7_fetch 162 = .ok (.iload 6, 2) := by decide +kernel
theorem dX7_fetch_164 : decode cX7_fetch 164 = .ok (.iload 7, 2) := by decide +kernel
theorem dX7_fetch_166 : decode cX7_fetch 166 = .ok (.invokevirtual 251, 3) := by decide +kernel
theorem dX7_fetch_169 : decode cX7_fetch 169 = .ok (.invokestatic 254, 3) := by decide +kernel
theorem dX7_fetch_172 : decode cX7_fetch 172 = .ok (.ireturn, 1) := by decide +kernel
theorem dX7_wrong_0 : decode cX7_wrong 0 = .ok (.iconst 0, 1) := by decide +kernel
theorem dX7_wrong_1 : decode cX7_wrong 1 = .ok (.istore_n 1, 1) := by decide +kernel
theorem dX7_wrong_2 : decode cX7_wrong 2 = .ok (.iconst 0, 1) := by decide +kernel
theorem dX7_wrong_3 : decode cX7_wrong 3 = .ok (.istore_n 2, 1) := by decide +kernel
theorem dX7_wrong_4 : decode cX7_wrong 4 = .ok (.iload_n 2, 1) := by decide +kernel
theorem dX7_wrong_5 : decode cX7_wrong 5 = .ok (.aload_n 0, 1) := by decide +kernel
theorem dX7_wrong_6 : decode cX7_wrong 6 = .ok (.getfield 10, 3) := by decide +kernel
theorem dX7_wrong_9 : decode cX7_wrong 9 = .ok (.getfield 224, 3) := by decide +kernel
theorem dX7_wrong_12 : decode cX7_wrong 12 = .ok (.if_icmp .ge 41, 3) := by decide +kernel
theorem dX7_wrong_15 : decode cX7_wrong 15 = .ok (.aload_n 0, 1) := by decide +kernel
theorem dX7_wrong_16 : decode cX7_wrong 16 = .ok (.getfield 10, 3) := by decide +kernel
theorem dX7_wrong_19 : decode cX7_wrong 19 = .ok (.iload_n 2, 1) := by decide +kernel
theorem dX7_wrong_20 : decode cX7_wrong 20 = .ok (.invokevirtual 109, 3) := by decide +kernel
theorem dX7_wrong_23 : decode cX7_wrong 23 = .ok (.ifCond .eq 24, 3) := by decide +kernel
theorem dX7_wrong_26 : decode cX7_wrong 26 = .ok (.aload_n 0, 1) := by decide +kernel
theorem dX7_wrong_27 : decode cX7_wrong 27 = .ok (.getfield 10, 3) := by decide +kernel
theorem dX7_wrong_30 : decode cX7_wrong 30 = .ok (.getfield 113, 3) := by decide +kernel
theorem dX7_wrong_33 : decode cX7_wrong 33 = .ok (.iload_n 2, 1) := by decide +kernel
theorem dX7_wrong_34 : decode cX7_wrong 34 = .ok (.aaload, 1) := by decide +kernel
theorem dX7_wrong_35 : decode cX7_wrong 35 = .ok (.invokevirtual 195, 3) := by decide +kernel
theorem dX7_wrong_38 : decode cX7_wrong 38 = .ok (.ifCond .ne 9, 3) := by decide +kernel
theorem dX7_wrong_41 : decode cX7_wrong 41 = .ok (.iload_n 1, 1) := by decide +kernel
theorem dX7_wrong_42 : decode cX7_wrong 42 = .ok (.iconst 1, 1) := by decide +kernel
theorem dX7_wrong_43 : decode cX7_wrong 43 = .ok (.iload_n 2, 1) := by decide +kernel
theorem dX7_wrong_44 : decode cX7_wrong 44 = .ok (.ishl, 1) := by decide +kernel
theorem dX7_wrong_45 : decode cX7_wrong 45 = .ok (.ior, 1) := by decide +kernel
theorem dX7_wrong_46 : decode cX7_wrong 46 = .ok (.istore_n 1, 1) := by decide +kernel
theorem dX7_wrong_47 : decode cX7_wrong 47 = .ok (.iinc 2 1, 3) := by decide +kernel
theorem dX7_wrong_50 : decode cX7_wrong 50 = .ok (.goto (-46), 3) := by decide +kernel
theorem dX7_wrong_53 : decode cX7_wrong 53 = .ok (.iload_n 1, 1) := by decide +kernel
theorem dX7_wrong_54 : decode cX7_wrong 54 = .ok (.ireturn, 1) := by decide +kernel
theorem dX7_hurt_0 : decode cX7_hurt 0 = .ok (.aload_n 0, 1) := by decide +kernel
theorem dX7_hurt_1 : decode cX7_hurt 1 = .ok (.getfield 10, 3) := by decide +kernel
theorem dX7_hurt_4 : decode cX7_hurt 4 = .ok (.iload_n 1, 1) := by decide +kernel
theorem dX7_hurt_5 : decode cX7_hurt 5 = .ok (.invokevirtual 109, 3) := by decide +kernel
theorem dX7_hurt_8 : decode cX7_hurt 8 = .ok (.ifCond .ne 9, 3) := by decide +kernel
theorem dX7_hurt_11 : decode cX7_hurt 11 = .ok (.aload_n 0, 1) := by decide +kernel
theorem dX7_hurt_12 : decode cX7_hurt 12 = .ok (.iconst (-1), 1) := by decide +kernel
theorem dX7_hurt_13 : decode cX7_hurt 13 = .ok (.invokevirtual 67, 3) := by decide +kernel
theorem dX7_hurt_16 : decode cX7_hurt 16 = .ok (.ireturn, 1) := by decide +kernel
theorem dX7_hurt_17 : decode cX7_hurt 17 = .ok (.iconst 0, 1) := by decide +kernel
theorem dX7_hurt_18 : decode cX7_hurt 18 = .ok (.istore_n 2, 1) := by decide +kernel
theorem dX7_hurt_19 : decode cX7_hurt 19 = .ok (.iconst 0, 1) := by decide +kernel
theorem dX7_hurt_20 : decode cX7_hurt 20 = .ok (.istore_n 3, 1) := by decide +kernel
theorem dX7_hurt_21 : decode cX7_hurt 21 = .ok (.iload_n 3, 1) := by decide +kernel
theorem dX7_hurt_22 : decode cX7_hurt 22 = .ok (.aload_n 0, 1) := by decide +kernel
theorem dX7_hurt_23 : decode cX7_hurt 23 = .ok (.getfield 10, 3) := by decide +kernel
theorem dX7_hurt_26 : decode cX7_hurt 26 = .ok (.getfield 224, 3) := by decide +kernel
theorem dX7_hurt_29 : decode cX7_hurt 29 = .ok (.if_icmp .ge 42, 3) := by decide +kernel
theorem dX7_hurt_32 : decode cX7_hurt 32 = .ok (.aload_n 0, 1) := by decide +kernel
theorem dX7_hurt_33 : decode cX7_hurt 33 = .ok (.getfield 10, 3) := by decide +kernel
theorem dX7_hurt_36 : decode cX7_hurt 36 = .ok (.iload_n 3, 1) := by decide +kernel
theorem dX7_hurt_37 : decode cX7_hurt 37 = .ok (.invokevirtual 109, 3) := by decide +kernel
theorem dX7_hurt_40 : decode cX7_hurt 40 = .ok (.ifCond .eq 25, 3) := by decide +kernel
theorem dX7_hurt_43 : decode cX7_hurt 43 = .ok (.aload_n 0, 1) := by decide +kernel
theorem dX7_hurt_44 : decode cX7_hurt 44 = .ok (.getfield 10, 3) := by decide +kernel
theorem dX7_hurt_47 : decode cX7_hurt 47 = .ok (.iload_n 3, 1) := by decide +kernel
theorem dX7_hurt_48 : decode cX7_hurt 48 = .ok (.invokevirtual 259, 3) := by decide +kernel
theorem dX7_hurt_51 : decode cX7_hurt 51 = .ok (.iload_n 1, 1) := by decide +kernel
theorem dX7_hurt_52 : decode cX7_hurt 52 = .ok (.ishr, 1) := by decide +kernel
theorem dX7_hurt_53 : decode cX7_hurt 53 = .ok (.iconst 1, 1) := by decide +kernel
theorem dX7_hurt_54 : decode cX7_hurt 54 = .ok (.iand, 1) := by decide +kernel
theorem dX7_hurt_55 : decode cX7_hurt 55 = .ok (.iconst 1, 1) := by decide +kernel
theorem dX7_hurt_56 : decode cX7_hurt 56 = .ok (.if_icmp .ne 9, 3) := by decide +kernel
theorem dX7_hurt_59 : decode cX7_hurt 59 = .ok (.iload_n 2, 1) := by decide +kernel
theorem dX7_hurt_60 : decode cX7_hurt 60 = .ok (.iconst 1, 1) := by decide +kernel
theorem dX7_hurt_61 : decode cX7_hurt 61 = .ok (.iload_n 3, 1) := by decide +kernel
theorem dX7_hurt_62 : decode cX7_hurt 62 = .ok (.ishl, 1) := by decide +kernel
theorem dX7_hurt_63 : decode cX7_hurt 63 = .ok (.ior, 1) := by decide +kernel
theorem dX7_hurt_64 : decode cX7_hurt 64 = .ok (.istore_n 2, 1) := by decide +kernel
theorem dX7_hurt_65 : decode cX7_hurt 65 = .ok (.iinc 3 1, 3) := by decide +kernel
theorem dX7_hurt_68 : decode cX7_hurt 68 = .ok (.goto (-47), 3) := by decide +kernel
theorem dX7_hurt_71 : decode cX7_hurt 71 = .ok (.iload_n 2, 1) := by decide +kernel
theorem dX7_hurt_72 : decode cX7_hurt 72 = .ok (.ireturn, 1) := by decide +kernel
theorem dX7_lost_0 : decode cX7_lost 0 = .ok (.iload_n 1, 1) := by decide +kernel
theorem dX7_lost_1 : decode cX7_lost 1 = .ok (.invokestatic 133, 3) := by decide +kernel
theorem dX7_lost_4 : decode cX7_lost 4 = .ok (.ifCond .ne 9, 3) := by decide +kernel
theorem dX7_lost_7 : decode cX7_lost 7 = .ok (.aload_n 0, 1) := by decide +kernel
theorem dX7_lost_8 : decode cX7_lost 8 = .ok (.iconst (-1), 1) := by decide +kernel
theorem dX7_lost_9 : decode cX7_lost 9 = .ok (.invokevirtual 262, 3) := by decide +kernel
theorem dX7_lost_12 : decode cX7_lost 12 = .ok (.lreturn, 1) := by decide +kernel
theorem dX7_lost_13 : decode cX7_lost 13 = .ok (.aload_n 0, 1) := by decide +kernel
theorem dX7_lost_14 : decode cX7_lost 14 = .ok (.getfield 10, 3) := by decide +kernel
theorem dX7_lost_17 : decode cX7_lost 17 = .ok (.getfield 136, 3) := by decide +kernel
theorem dX7_lost_20 : decode cX7_lost 20 = .ok (.iload_n 1, 1) := by decide +kernel
theorem dX7_lost_21 : decode cX7_lost 21 = .ok (.iaload, 1) := by decide +kernel
theorem dX7_lost_22 : decode cX7_lost 22 = .ok (.iconst (-1), 1) := by decide +kernel
theorem dX7_lost_23 : decode cX7_lost 23 = .ok (.if_icmp .ne 10, 3) := by decide +kernel
theorem dX7_lost_26 : decode cX7_lost 26 = .ok (.aload_n 0, 1) := by decide +kernel
theorem dX7_lost_27 : decode cX7_lost 27 = .ok (.bipush (-3), 2) := by decide +kernel
theorem dX7_lost_29 : decode cX7_lost 29 = .ok (.invokevirtual 262, 3) := by decide +kernel
theorem dX7_lost_32 : decode cX7_lost 32 = .ok (.lreturn, 1) := by decide +kernel
theorem dX7_lost_33 : decode cX7_lost 33 = .ok (.iload_n 2, 1) := by decide +kernel
theorem dX7_lost_34 : decode cX7_lost 34 = .ok (.iconst 2, 1) := by decide +kernel
theorem dX7_lost_35 : decode cX7_lost 35 = .ok (.if_icmp .ge 10, 3) := by decide +kernel
theorem dX7_lost_38 : decode cX7_lost 38 = .ok (.aload_n 0, 1) := by decide +kernel
theorem dX7_lost_39 : decode cX7_lost 39 = .ok (.bipush (-4), 2) := by decide +kernel
theorem dX7_lost_41 : decode cX7_lost 41 = .ok (.invokevirtual 262, 3) := by decide +kernel
theorem dX7_lost_44 : decode cX7_lost 44 = .ok (.lreturn, 1) := by decide +kernel
theorem dX7_lost_45 : decode cX7_lost 45 = .ok (.iload_n 2, 1) := by decide +kernel
theorem dX7_lost_46 : decode cX7_lost 46 = .ok (.bipush 20, 2) := by decide +kernel
theorem dX7_lost_48 : decode cX7_lost 48 = .ok (.if_icmp .le 10, 3) := by decide +kernel
theorem dX7_lost_51 : decode cX7_lost 51 = .ok (.aload_n 0, 1) := by decide +kernel
theorem dX7_lost_52 : decode cX7_lost 52 = .ok (.bipush (-6), 2) := by decide +kernel
theorem dX7_lost_54 : decode cX7_lost 54 = .ok (.invokevirtual 262, 3) := by decide +kernel
theorem dX7_lost_57 : decode cX7_lost 57 = .ok (.lreturn, 1) := by decide +kernel
theorem dX7_lost_58 : decode cX7_lost 58 = .ok (.iload_n 3, 1) := by decide +kernel
theorem dX7_lost_59 : decode cX7_lost 59 = .ok (.ifCond .lt 8, 3) := by decide +kernel
theorem dX7_lost_62 : decode cX7_lost 62 = .ok (.iload_n 3, 1) := by decide +kernel
theorem dX7_lost_63 : decode cX7_lost 63 = .ok (.iconst 1, 1) := by decide +kernel
theorem dX7_lost_64 : decode cX7_lost 64 = .ok (.if_icmp .le 10, 3) := by decide +kernel
theorem dX7_lost_67 : decode cX7_lost 67 = .ok (.aload_n 0, 1) := by decide +kernel
theorem dX7_lost_68 : decode cX7_lost 68 = .ok (.bipush (-2), 2) := by decide +kernel
theorem dX7_lost_70 : decode cX7_lost 70 = .ok (.invokevirtual 262, 3) := by decide +kernel
theorem dX7_lost_73 : decode cX7_lost 73 = .ok (.lreturn, 1) := by decide +kernel
theorem dX7_lost_74 : decode cX7_lost 74 = .ok (.iload_n 3, 1) := by decide +kernel
theorem dX7_lost_75 : decode cX7_lost 75 = .ok (.ifCond .ne 10, 3) := by decide +kernel
theorem dX7_lost_78 : decode cX7_lost 78 = .ok (.iload_n 2, 1) := by decide +kernel
theorem dX7_lost_79 : decode cX7_lost 79 = .ok (.iconst 1, 1) := by decide +kernel
theorem dX7_lost_80 : decode cX7_lost 80 = .ok (.isub, 1) := by decide +kernel
theorem dX7_lost_81 : decode cX7_lost 81 = .ok (.i2l, 1) := by decide +kernel
theorem dX7_lost_82 : decode cX7_lost 82 = .ok (.goto 5, 3) := by decide +kernel
theorem dX7_lost_85 : decode cX7_lost 85 = .ok (.iload_n 2, 1) := by decide +kernel
theorem dX7_lost_86 : decode cX7_lost 86 = .ok (.i2l, 1) := by decide +kernel
theorem dX7_lost_87 : decode cX7_lost 87 = .ok (.lstore 4, 2) := by decide +kernel
theorem dX7_lost_89 : decode cX7_lost 89 = .ok (.aload_n 0, 1) := by decide +kernel
theorem dX7_lost_90 : decode cX7_lost 90 = .ok (.getfield 10, 3) := by decide +kernel
theorem dX7_lost_93 : decode cX7_lost 93 = .ok (.aload_n 0, 1) := by decide +kernel
theorem dX7_lost_94 : decode cX7_lost 94 = .ok (.getfield 10, 3) := by decide +kernel
theorem dX7_lost_97 : decode cX7_lost 97 = .ok (.getfield 136, 3) := by decide +kernel
theorem dX7_lost_100 : decode cX7_lost 100 = .ok (.iload_n 1, 1) := by decide +kernel
theorem dX7_lost_101 : decode cX7_lost 101 = .ok (.iaload, 1) := by decide +kernel
theorem dX7_lost_102 : decode cX7_lost 102 = .ok (.invokevirtual 259, 3) := by decide +kernel
theorem dX7_lost_105 : decode cX7_lost 105 = .ok (.bipush 63, 2) := by decide +kernel
theorem dX7_lost_107 : decode cX7_lost 107 = .ok (.iand, 1) := by decide +kernel
theorem dX7_lost_108 : decode cX7_lost 108 = .ok (.invokestatic 254, 3) := by decide +kernel
theorem dX7_lost_111 : decode cX7_lost 111 = .ok (.istore 6, 2) := by decide +kernel
theorem dX7_lost_113 : decode cX7_lost 113 = .ok (.lconst 1, 1) := by decide +kernel
theorem dX7_lost_114 : decode cX7_lost 114 = .ok (.lstore 7, 2) := by decide +kernel
theorem dX7_lost_116 : decode cX7_lost 116 = .ok (.iconst 0, 1) := by decide +kernel
theorem dX7_lost_117 : decode cX7_lost 117 = .ok (.istore 9, 2) := by decide +kernel
theorem dX7_lost_119 : decode cX7_lost 119 = .ok (.iload 9, 2) := by decide +kernel
theorem dX7_lost_121 : decode cX7_lost 121 = .ok (.iload 6, 2) := by decide +kernel
theorem dX7_lost_123 : decode cX7_lost 123 = .ok (.if_icmp .ge 16, 3) := by decide +kernel
theorem dX7_lost_126 : decode cX7_lost 126 = .ok (.lload 7, 2) := by decide +kernel
theorem dX7_lost_128 : decode cX7_lost 128 = .ok (.lload 4, 2) := by decide +kernel
theorem dX7_lost_130 : decode cX7_lost 130 = .ok (.lmul, 1) := by decide +kernel
theorem dX7_lost_131 : decode cX7_lost 131 = .ok (.lstore 7, 2) := by decide +kernel
theorem dX7_lost_133 : decode cX7_lost 133 = .ok (.iinc 9 1, 3) := by decide +kernel
theorem dX7_lost_136 : decode cX7_lost 136 = .ok (.goto (-17), 3) := by decide +kernel
theorem dX7_lost_139 : decode cX7_lost 139 = .ok (.lload 7, 2) := by decide +kernel
theorem dX7_lost_141 : decode cX7_lost 141 = .ok (.lreturn, 1) := by decide +kernel
theorem dX7_mean_0 : decode cX7_mean 0 = .ok (.iload_n 1, 1) := by decide +kernel
theorem dX7_mean_1 : decode cX7_mean 1 = .ok (.ifCond .lt 8, 3) := by decide +kernel
theorem dX7_mean_4 : decode cX7_mean 4 = .ok (.iload_n 1, 1) := by decide +kernel
theorem dX7_mean_5 : decode cX7_mean 5 = .ok (.iconst 1, 1) := by decide +kernel
theorem dX7_mean_6 : decode cX7_mean 6 = .ok (.if_icmp .le 10, 3) := by decide +kernel
theorem dX7_mean_9 : decode cX7_mean 9 = .ok (.aload_n 0, 1) := by decide +kernel
theorem dX7_mean_10 : decode cX7_mean 10 = .ok (.bipush (-2), 2) := by decide +kernel
theorem dX7_mean_12 : decode cX7_mean 12 = .ok (.invokevirtual 262, 3) := by decide +kernel
theorem dX7_mean_15 : decode cX7_mean 15 = .ok (.lreturn, 1) := by decide +kernel
theorem dX7_mean_16 : decode cX7_mean 16 = .ok (.aload_n 0, 1) := by decide +kernel
theorem dX7_mean_17 : decode cX7_mean 17 = .ok (.getfield 10, 3) := by decide +kernel
theorem dX7_mean_20 : decode cX7_mean 20 = .ok (.invokevirtual 162, 3) := by decide +kernel
theorem dX7_mean_23 : decode cX7_mean 23 = .ok (.istore_n 2, 1) := by decide +kernel
theorem dX7_mean_24 : decode cX7_mean 24 = .ok (.aload_n 0, 1) := by decide +kernel
theorem dX7_mean_25 : decode cX7_mean 25 = .ok (.getfield 10, 3) := by decide +kernel
theorem dX7_mean_28 : decode cX7_mean 28 = .ok (.getfield 233, 3) := by decide +kernel
theorem dX7_mean_31 : decode cX7_mean 31 = .ok (.invokestatic 254, 3) := by decide +kernel
theorem dX7_mean_34 : decode cX7_mean 34 = .ok (.istore_n 3, 1) := by decide +kernel
theorem dX7_mean_35 : decode cX7_mean 35 = .ok (.iload_n 2, 1) := by decide +kernel
theorem dX7_mean_36 : decode cX7_mean 36 = .ok (.iload_n 3, 1) := by decide +kernel
theorem dX7_mean_37 : decode cX7_mean 37 = .ok (.invokestatic 266, 3) := by decide +kernel
theorem dX7_mean_40 : decode cX7_mean 40 = .ok (.istore 4, 2) := by decide +kernel
theorem dX7_mean_42 : decode cX7_mean 42 = .ok (.iload 4, 2) := by decide +kernel
theorem dX7_mean_44 : decode cX7_mean 44 = .ok (.ifCond .ne 6, 3) := by decide +kernel
theorem dX7_mean_47 : decode cX7_mean 47 = .ok (.iload_n 1, 1) := by decide +kernel
theorem dX7_mean_48 : decode cX7_mean 48 = .ok (.i2l, 1) := by decide +kernel
theorem dX7_mean_49 : decode cX7_mean 49 = .ok (.lreturn, 1) := by decide +kernel
theorem dX7_mean_50 : decode cX7_mean 50 = .ok (.iload_n 1, 1) := by decide +kernel
theorem dX7_mean_51 : decode cX7_mean 51 = .ok (.ifCond .ne 11, 3) := by decide +kernel
theorem dX7_mean_54 : decode cX7_mean 54 = .ok (.iload_n 2, 1) := by decide +kernel
theorem dX7_mean_55 : decode cX7_mean 55 = .ok (.iload 4, 2) := by decide +kernel
theorem dX7_mean_57 : decode cX7_mean 57 = .ok (.idiv, 1) := by decide +kernel
theorem dX7_mean_58 : decode cX7_mean 58 = .ok (.i2l, 1) := by decide +kernel
theorem dX7_mean_59 : decode cX7_mean 59 = .ok (.goto 8, 3) := by decide +kernel
theorem dX7_mean_62 : decode cX7_mean 62 = .ok (.iload_n 3, 1) := by decide +kernel
theorem dX7_mean_63 : decode cX7_mean 63 = .ok (.iload 4, 2) := by decide +kernel
theorem dX7_mean_65 : decode cX7_mean 65 = .ok (.idiv, 1) := by decide +kernel
theorem dX7_mean_66 : decode cX7_mean 66 = .ok (.i2l, 1) := by decide +kernel
theorem dX7_mean_67 : decode cX7_mean 67 = .ok (.lreturn, 1) := by decide +kernel
theorem dX7_whatIs_0 : decode cX7_whatIs 0 = .ok (.iload_n 1, 1) := by decide +kernel
theorem dX7_whatIs_1 : decode cX7_whatIs 1 = .ok (.ifCond .lt 8, 3) := by decide +kernel
theorem dX7_whatIs_4 : decode cX7_whatIs 4 = .ok (.iload_n 1, 1) := by decide +kernel
theorem dX7_whatIs_5 : decode cX7_whatIs 5 = .ok (.iconst 1, 1) := by decide +kernel
theorem dX7_whatIs_6 : decode cX7_whatIs 6 = .ok (.if_icmp .le 10, 3) := by decide +kernel
theorem dX7_whatIs_9 : decode cX7_whatIs 9 = .ok (.aload_n 0, 1) := by decide +kernel
theorem dX7_whatIs_10 : decode cX7_whatIs 10 = .ok (.bipush (-2), 2) := by decide +kernel
theorem dX7_whatIs_12 : decode cX7_whatIs 12 = .ok (.invokevirtual 67, 3) := by decide +kernel
theorem dX7_whatIs_15 : decode cX7_whatIs 15 = .ok (.ireturn, 1) := by decide +kernel
theorem dX7_whatIs_16 : decode cX7_whatIs 16 = .ok (.iload_n 1, 1) := by decide +kernel
theorem dX7_whatIs_17 : decode cX7_whatIs 17 = .ok (.ifCond .ne 8, 3) := by decide +kernel
theorem dX7_whatIs_20 : decode cX7_whatIs 20 = .ok (.bipush 6, 2) := by decide +kernel
theorem dX7_whatIs_22 : decode cX7_whatIs 22 = .ok (.goto 5, 3) := by decide +kernel
theorem dX7_whatIs_25 : decode cX7_whatIs 25 = .ok (.bipush 10, 2) := by decide +kernel
theorem dX7_whatIs_27 : decode cX7_whatIs 27 = .ok (.istore_n 2, 1) := by decide +kernel
theorem dX7_whatIs_28 : decode cX7_whatIs 28 = .ok (.iconst 0, 1) := by decide +kernel
theorem dX7_whatIs_29 : decode cX7_whatIs 29 = .ok (.istore_n 3, 1) := by decide +kernel
theorem dX7_whatIs_30 : decode cX7_whatIs 30 = .ok (.aload_n 0, 1) := by decide +kernel
theorem dX7_whatIs_31 : decode cX7_whatIs 31 = .ok (.getfield 25, 3) := by decide +kernel
theorem dX7_whatIs_34 : decode cX7_whatIs 34 = .ok (.aload_n 0, 1) := by decide +kernel
theorem dX7_whatIs_35 : decode cX7_whatIs 35 = .ok (.getfield 10, 3) := by decide +kernel
theorem dX7_whatIs_38 : decode cX7_whatIs 38 = .ok (.invokevirtual 151, 3) := by decide +kernel
theorem dX7_whatIs_41 : decode cX7_whatIs 41 = .ok (.iconst 0, 1) := by decide +kernel
theorem dX7_whatIs_42 : decode cX7_whatIs 42 = .ok (.istore 4, 2) := by decide +kernel
theorem dX7_whatIs_44 : decode cX7_whatIs 44 = .ok (.iload 4, 2) := by decide +kernel
theorem dX7_whatIs_46 : decode cX7_whatIs 46 = .ok (.iload_n 2, 1) := by decide +kernel
theorem dX7_whatIs_47 : decode cX7_whatIs 47 = .ok (.if_icmp .ge 83, 3) := by decide +kernel
theorem dX7_whatIs_50 : decode cX7_whatIs 50 = .ok (.iload_n 1, 1) := by decide +kernel
theorem dX7_whatIs_51 : decode cX7_whatIs 51 = .ok (.ifCond .ne 29, 3) := by decide +kernel
theorem dX7_whatIs_54 : decode cX7_whatIs 54 = .ok (.aload_n 0, 1) := by decide +kernel
theorem dX7_whatIs_55 : decode cX7_whatIs 55 = .ok (.getfield 25, 3) := by decide +kernel
theorem dX7_whatIs_58 : decode cX7_whatIs 58 = .ok (.iload 4, 2) := by decide +kernel
theorem dX7_whatIs_60 : decode cX7_whatIs 60 = .ok (.aload_n 0, 1) := by decide +kernel
theorem dX7_whatIs_61 : decode cX7_whatIs 61 = .ok (.getfield 10, 3) := by decide +kernel
theorem dX7_whatIs_64 : decode cX7_whatIs 64 = .ok (.getfield 145, 3) := by decide +kernel
theorem dX7_whatIs_67 : decode cX7_whatIs 67 = .ok (.aload_n 0, 1) := by decide +kernel
theorem dX7_whatIs_68 : decode cX7_whatIs 68 = .ok (.getfield 10, 3) := by decide +kernel
theorem dX7_whatIs_71 : decode cX7_whatIs 71 = .ok (.getfield 148, 3) := by decide +kernel
theorem dX7_whatIs_74 : decode cX7_whatIs 74 = .ok (.invokevirtual 154, 3) := by decide +kernel
theorem dX7_whatIs_77 : decode cX7_whatIs 77 = .ok (.goto 26, 3) := by decide +kernel
theorem dX7_whatIs_80 : decode cX7_whatIs 80 = .ok (.aload_n 0, 1) := by decide +kernel
theorem dX7_whatIs_81 : decode cX7_whatIs 81 = .ok (.getfield 25, 3) := by decide +kernel
theorem dX7_whatIs_84 : decode cX7_whatIs 84 = .ok (.aload_n 0, 1) := by decide +kernel
theorem dX7_whatIs_85 : decode cX7_whatIs 85 = .ok (.getfield 10, 3) := by decide +kernel
theorem dX7_whatIs_88 : decode cX7_whatIs 88 = .ok (.getfield 142, 3) := by decide +kernel
theorem dX7_whatIs_91 : decode cX7_whatIs 91 = .ok (.iload 4, 2) := by decide +kernel
theorem dX7_whatIs_93 : decode cX7_whatIs 93 = .ok (.aload_n 0, 1) := by decide +kernel
theorem dX7_whatIs_94 : decode cX7_whatIs 94 = .ok (.getfield 10, 3) := by decide +kernel
theorem dX7_whatIs_97 : decode cX7_whatIs 97 = .ok (.getfield 148, 3) := by decide +kernel
theorem dX7_whatIs_100 : decode cX7_whatIs 100 = .ok (.invokevirtual 154, 3) := by decide +kernel
theorem dX7_whatIs_103 : decode cX7_whatIs 103 = .ok (.aload_n 0, 1) := by decide +kernel
theorem dX7_whatIs_104 : decode cX7_whatIs 104 = .ok (.getfield 25, 3) := by decide +kernel
theorem dX7_whatIs_107 : decode cX7_whatIs 107 = .ok (.aload_n 0, 1) := by decide +kernel
theorem dX7_whatIs_108 : decode cX7_whatIs 108 = .ok (.getfield 48, 3) := by decide +kernel
theorem dX7_whatIs_111 : decode cX7_whatIs 111 = .ok (.invokevirtual 269, 3) := by decide +kernel
theorem dX7_whatIs_114 : decode cX7_whatIs 114 = .ok (.ifCond .eq 10, 3) := by decide +kernel
theorem dX7_whatIs_117 : decode cX7_whatIs 117 = .ok (.iload_n 3, 1) := by decide +kernel
theorem dX7_whatIs_118 : decode cX7_whatIs 118 = .ok (.iconst 1, 1) := by decide +kernel
theorem dX7_whatIs_119 : decode cX7_whatIs 119 = .ok (.iload 4, 2) := by decide +kernel
theorem dX7_whatIs_121 : decode cX7_whatIs 121 = .ok (.ishl, 1) := by decide +kernel
theorem dX7_whatIs_122 : decode cX7_whatIs 122 = .ok (.ior, 1) := by decide +kernel
theorem dX7_whatIs_123 : decode cX7_whatIs 123 = .ok (.istore_n 3, 1) := by decide +kernel
theorem dX7_whatIs_124 : decode cX7_whatIs 124 = .ok (.iinc 4 1, 3) := by decide +kernel
theorem dX7_whatIs_127 : decode cX7_whatIs 127 = .ok (.goto (-83), 3) := by decide +kernel
theorem dX7_whatIs_130 : decode cX7_whatIs 130 = .ok (.iload_n 3, 1) := by decide +kernel
theorem dX7_whatIs_131 : decode cX7_whatIs 131 = .ok (.ireturn, 1) := by decide +kernel
theorem dX7_row_0 : decode cX7_row 0 = .ok (.iload_n 1, 1) := by decide +kernel
theorem dX7_row_1 : decode cX7_row 1 = .ok (.ifCond .ge 10, 3) := by decide +kernel
theorem dX7_row_4 : decode cX7_row 4 = .ok (.aload_n 0, 1) := by decide +kernel
theorem dX7_row_5 : decode cX7_row 5 = .ok (.bipush (-4), 2) := by decide +kernel
theorem dX7_row_7 : decode cX7_row 7 = .ok (.invokevirtual 67, 3) := by decide +kernel
theorem dX7_row_10 : decode cX7_row 10 = .ok (.ireturn, 1) := by decide +kernel
theorem dX7_row_11 : decode cX7_row 11 = .ok (.iload_n 1, 1) := by decide +kernel
theorem dX7_row_12 : decode cX7_row 12 = .ok (.bipush 99, 2) := by decide +kernel
theorem dX7_row_14 : decode cX7_row 14 = .ok (.if_icmp .gt 13, 3) := by decide +kernel
theorem dX7_row_17 : decode cX7_row 17 = .ok (.aload_n 0, 1) := by decide +kernel
theorem dX7_row_18 : decode cX7_row 18 = .ok (.getfield 48, 3) := by decide +kernel
theorem dX7_row_21 : decode cX7_row 21 = .ok (.invokevirtual 74, 3) := by decide +kernel
theorem dX7_row_24 : decode cX7_row 24 = .ok (.ifCond .eq 10, 3) := by decide +kernel
theorem dX7_row_27 : decode cX7_row 27 = .ok (.aload_n 0, 1) := by decide +kernel
theorem dX7_row_28 : decode cX7_row 28 = .ok (.bipush (-6), 2) := by decide +kernel
theorem dX7_row_30 : decode cX7_row 30 = .ok (.invokevirtual 67, 3) := by decide +kernel
theorem dX7_row_33 : decode cX7_row 33 = .ok (.ireturn, 1) := by decide +kernel
theorem dX7_row_34 : decode cX7_row 34 = .ok (.aload_n 0, 1) := by decide +kernel
theorem dX7_row_35 : decode cX7_row 35 = .ok (.getfield 48, 3) := by decide +kernel
theorem dX7_row_38 : decode cX7_row 38 = .ok (.iload_n 1, 1) := by decide +kernel
theorem dX7_row_39 : decode cX7_row 39 = .ok (.invokevirtual 78, 3) := by decide +kernel
theorem dX7_row_42 : decode cX7_row 42 = .ok (.aload_n 0, 1) := by decide +kernel
theorem dX7_row_43 : decode cX7_row 43 = .ok (.getfield 48, 3) := by decide +kernel
theorem dX7_row_46 : decode cX7_row 46 = .ok (.getfield 81, 3) := by decide +kernel
theorem dX7_row_49 : decode cX7_row 49 = .ok (.ireturn, 1) := by decide +kernel
theorem dX7_judge_0 : decode cX7_judge 0 = .ok (.aload_n 0, 1) := by decide +kernel
theorem dX7_judge_1 : decode cX7_judge 1 = .ok (.getfield 10, 3) := by decide +kernel
theorem dX7_judge_4 : decode cX7_judge 4 = .ok (.iload_n 1, 1) := by decide +kernel
theorem dX7_judge_5 : decode cX7_judge 5 = .ok (.invokevirtual 109, 3) := by decide +kernel
theorem dX7_judge_8 : decode cX7_judge 8 = .ok (.ifCond .ne 9, 3) := by decide +kernel
theorem dX7_judge_11 : decode cX7_judge 11 = .ok (.aload_n 0, 1) := by decide +kernel
theorem dX7_judge_12 : decode cX7_judge 12 = .ok (.iconst (-1), 1) := by decide +kernel
theorem dX7_judge_13 : decode cX7_judge 13 = .ok (.invokevirtual 67, 3) := by decide +kernel
theorem dX7_judge_16 : decode cX7_judge 16 = .ok (.ireturn, 1) := by decide +kernel
theorem dX7_judge_17 : decode cX7_judge 17 = .ok (.aload_n 0, 1) := by decide +kernel
theorem dX7_judge_18 : decode cX7_judge 18 = .ok (.getfield 10, 3) := by decide +kernel
theorem dX7_judge_21 : decode cX7_judge 21 = .ok (.getfield 113, 3) := by decide +kernel
theorem dX7_judge_24 : decode cX7_judge 24 = .ok (.iload_n 1, 1) := by decide +kernel
theorem dX7_judge_25 : decode cX7_judge 25 = .ok (.aaload, 1) := by decide +kernel
theorem dX7_judge_26 : decode cX7_judge 26 = .ok (.getfield 117, 3) := by decide +kernel
theorem dX7_judge_29 : decode cX7_judge 29 = .ok (.astore_n 2, 1) := by decide +kernel
theorem dX7_judge_30 : decode cX7_judge 30 = .ok (.aload_n 0, 1) := by decide +kernel
theorem dX7_judge_31 : decode cX7_judge 31 = .ok (.getfield 48, 3) := by decide +kernel
theorem dX7_judge_34 : decode cX7_judge 34 = .ok (.iconst 0, 1) := by decide +kernel
theorem dX7_judge_35 : decode cX7_judge 35 = .ok (.aload_n 2, 1) := by decide +kernel
theorem dX7_judge_36 : decode cX7_judge 36 = .ok (.iconst 0, 1) := by decide +kernel
theorem dX7_judge_37 : decode cX7_judge 37 = .ok (.invokevirtual 273, 3) := by decide +kernel
theorem dX7_judge_40 : decode cX7_judge 40 = .ok (.istore_n 3, 1) := by decide +kernel
theorem dX7_judge_41 : decode cX7_judge 41 = .ok (.iload_n 3, 1) := by decide +kernel
theorem dX7_judge_42 : decode cX7_judge 42 = .ok (.aload_n 0, 1) := by decide +kernel
theorem dX7_judge_43 : decode cX7_judge 43 = .ok (.getfield 48, 3) := by decide +kernel
theorem dX7_judge_46 : decode cX7_judge 46 = .ok (.getfield 81, 3) := by decide +kernel
theorem dX7_judge_49 : decode cX7_judge 49 = .ok (.if_icmp .ne 15, 3) := by decide +kernel
theorem dX7_judge_52 : decode cX7_judge 52 = .ok (.iload_n 3, 1) := by decide +kernel
theorem dX7_judge_53 : decode cX7_judge 53 = .ok (.aload_n 2, 1) := by decide +kernel
theorem dX7_judge_54 : decode cX7_judge 54 = .ok (.getfield 81, 3) := by decide +kernel
theorem dX7_judge_57 : decode cX7_judge 57 = .ok (.if_icmp .ne 7, 3) := by decide +kernel
theorem dX7_judge_60 : decode cX7_judge 60 = .ok (.iconst 1, 1) := by decide +kernel
theorem dX7_judge_61 : decode cX7_judge 61 = .ok (.goto 4, 3) := by decide +kernel
theorem dX7_judge_64 : decode cX7_judge 64 = .ok (.iconst 0, 1) := by decide +kernel
theorem dX7_judge_65 : decode cX7_judge 65 = .ok (.istore 4, 2) := by decide +kernel
theorem dX7_judge_67 : decode cX7_judge 67 = .ok (.aload_n 0, 1) := by decide +kernel
theorem dX7_judge_68 : decode cX7_judge 68 = .ok (.getfield 48, 3) := by decide +kernel
theorem dX7_judge_71 : decode cX7_judge 71 = .ok (.invokevirtual 106, 3) := by decide +kernel
theorem dX7_judge_74 : decode cX7_judge 74 = .ok (.iload 4, 2) := by decide +kernel
theorem dX7_judge_76 : decode cX7_judge 76 = .ok (.ifCond .eq 8, 3) := by decide +kernel
theorem dX7_judge_79 : decode cX7_judge 79 = .ok (.bipush (-9), 2) := by decide +kernel
theorem dX7_judge_81 : decode cX7_judge 81 = .ok (.goto 4, 3) := by decide +kernel
theorem dX7_judge_84 : decode cX7_judge 84 = .ok (.iload_n 3, 1) := by decide +kernel
theorem dX7_judge_85 : decode cX7_judge 85 = .ok (.ireturn, 1) := by decide +kernel
theorem dX7_clear_0 : decode cX7_clear 0 = .ok (.aload_n 0, 1) := by decide +kernel
theorem dX7_clear_1 : decode cX7_clear 1 = .ok (.getfield 48, 3) := by decide +kernel
theorem dX7_clear_4 : decode cX7_clear 4 = .ok (.getfield 81, 3) := by decide +kernel
theorem dX7_clear_7 : decode cX7_clear 7 = .ok (.istore_n 1, 1) := by decide +kernel
theorem dX7_clear_8 : decode cX7_clear 8 = .ok (.aload_n 0, 1) := by decide +kernel
theorem dX7_clear_9 : decode cX7_clear 9 = .ok (.getfield 48, 3) := by decide +kernel
theorem dX7_clear_12 : decode cX7_clear 12 = .ok (.invokevirtual 106, 3) := by decide +kernel
theorem dX7_clear_15 : decode cX7_clear 15 = .ok (.iload_n 1, 1) := by decide +kernel
theorem dX7_clear_16 : decode cX7_clear 16 = .ok (.ireturn, 1) := by decide +kernel
theorem dX7_lots_0 : decode cX7_lots 0 = .ok (.iload_n 1, 1) := by decide +kernel
theorem dX7_lots_1 : decode cX7_lots 1 = .ok (.iconst 1, 1) := by decide +kernel
theorem dX7_lots_2 : decode cX7_lots 2 = .ok (.if_icmp .ge 10, 3) := by decide +kernel
theorem dX7_lots_5 : decode cX7_lots 5 = .ok (.aload_n 0, 1) := by decide +kernel
theorem dX7_lots_6 : decode cX7_lots 6 = .ok (.bipush (-4), 2) := by decide +kernel
theorem dX7_lots_8 : decode cX7_lots 8 = .ok (.invokevirtual 67, 3) := by decide +kernel
theorem dX7_lots_11 : decode cX7_lots 11 = .ok (.ireturn, 1) := by decide +kernel
theorem dX7_lots_12 : decode cX7_lots 12 = .ok (.iload_n 1, 1) := by decide +kernel
theorem dX7_lots_13 : decode cX7_lots 13 = .ok (.bipush 20, 2) := by decide +kernel
theorem dX7_lots_15 : decode cX7_lots 15 = .ok (.if_icmp .le 10, 3) := by decide +kernel
theorem dX7_lots_18 : decode cX7_lots 18 = .ok (.aload_n 0, 1) := by decide +kernel
theorem dX7_lots_19 : decode cX7_lots 19 = .ok (.bipush (-6), 2) := by decide +kernel
theorem dX7_lots_21 : decode cX7_lots 21 = .ok (.invokevirtual 67, 3) := by decide +kernel
theorem dX7_lots_24 : decode cX7_lots 24 = .ok (.ireturn, 1) := by decide +kernel
theorem dX7_lots_25 : decode cX7_lots 25 = .ok (.iload_n 3, 1) := by decide +kernel
theorem dX7_lots_26 : decode cX7_lots 26 = .ok (.ifCond .lt 8, 3) := by decide +kernel
theorem dX7_lots_29 : decode cX7_lots 29 = .ok (.iload_n 3, 1) := by decide +kernel
theorem dX7_lots_30 : decode cX7_lots 30 = .ok (.iconst 1, 1) := by decide +kernel
theorem dX7_lots_31 : decode cX7_lots 31 = .ok (.if_icmp .le 10, 3) := by decide +kernel
theorem dX7_lots_34 : decode cX7_lots 34 = .ok (.aload_n 0, 1) := by decide +kernel
theorem dX7_lots_35 : decode cX7_lots 35 = .ok (.bipush (-2), 2) := by decide +kernel
theorem dX7_lots_37 : decode cX7_lots 37 = .ok (.invokevirtual 67, 3) := by decide +kernel
theorem dX7_lots_40 : decode cX7_lots 40 = .ok (.ireturn, 1) := by decide +kernel
theorem dX7_lots_41 : decode cX7_lots 41 = .ok (.aload_n 0, 1) := by decide +kernel
theorem dX7_lots_42 : decode cX7_lots 42 = .ok (.getfield 55, 3) := by decide +kernel
theorem dX7_lots_45 : decode cX7_lots 45 = .ok (.iload_n 2, 1) := by decide +kernel
theorem dX7_lots_46 : decode cX7_lots 46 = .ok (.putfield 277, 3) := by decide +kernel
theorem dX7_lots_49 : decode cX7_lots 49 = .ok (.iconst 0, 1) := by decide +kernel
theorem dX7_lots_50 : decode cX7_lots 50 = .ok (.istore 4, 2) := by decide +kernel
theorem dX7_lots_52 : decode cX7_lots 52 = .ok (.iconst 0, 1) := by decide +kernel
theorem dX7_lots_53 : decode cX7_lots 53 = .ok (.istore 5, 2) := by decide +kernel
theorem dX7_lots_55 : decode cX7_lots 55 = .ok (.iload 5, 2) := by decide +kernel
theorem dX7_lots_57 : decode cX7_lots 57 = .ok (.iload_n 1, 1) := by decide +kernel
theorem dX7_lots_58 : decode cX7_lots 58 = .ok (.if_icmp .ge 39, 3) := by decide +kernel
theorem dX7_lots_61 : decode cX7_lots 61 = .ok (.aload_n 0, 1) := by decide +kernel
theorem dX7_lots_62 : decode cX7_lots 62 = .ok (.invokevirtual 280, 3) := by decide +kernel
theorem dX7_lots_65 : decode cX7_lots 65 = .ok (.iload 4, 2) := by decide +kernel
theorem dX7_lots_67 : decode cX7_lots 67 = .ok (.iload_n 3, 1) := by decide +kernel
theorem dX7_lots_68 : decode cX7_lots 68 = .ok (.ifCond .ne 13, 3) := by decide +kernel
theorem dX7_lots_71 : decode cX7_lots 71 = .ok (.aload_n 0, 1) := by decide +kernel
theorem dX7_lots_72 : decode cX7_lots 72 = .ok (.getfield 25, 3) := by decide +kernel
theorem dX7_lots_75 : decode cX7_lots 75 = .ok (.getfield 215, 3) := by decide +kernel
theorem dX7_lots_78 : decode cX7_lots 78 = .ok (.goto 10, 3) := by decide +kernel
theorem dX7_lots_81 : decode cX7_lots 81 = .ok (.aload_n 0, 1) := by decide +kernel
theorem dX7_lots_82 : decode cX7_lots 82 = .ok (.getfield 25, 3) := by decide +kernel
theorem dX7_lots_85 : decode cX7_lots 85 = .ok (.getfield 220, 3) := by decide +kernel
theorem dX7_lots_88 : decode cX7_lots 88 = .ok (.iadd, 1) := by decide +kernel
theorem dX7_lots_89 : decode cX7_lots 89 = .ok (.istore 4, 2) := by decide +kernel
theorem dX7_lots_91 : decode cX7_lots 91 = .ok (.iinc 5 1, 3) := by decide +kernel
theorem dX7_lots_94 : decode cX7_lots 94 = .ok (.goto (-39), 3) := by decide +kernel
theorem dX7_lots_97 : decode cX7_lots 97 = .ok (.iload 4, 2) := by decide +kernel
theorem dX7_lots_99 : decode cX7_lots 99 = .ok (.ireturn, 1) := by decide +kernel
theorem dX7_image_0 : decode cX7_image 0 = .ok (.aload_n 0, 1) := by decide +kernel
theorem dX7_image_1 : decode cX7_image 1 = .ok (.getfield 16, 3) := by decide +kernel
theorem dX7_image_4 : decode cX7_image 4 = .ok (.aload_n 0, 1) := by decide +kernel
theorem dX7_image_5 : decode cX7_image 5 = .ok (.getfield 10, 3) := by decide +kernel
theorem dX7_image_8 : decode cX7_image 8 = .ok (.invokevirtual 89, 3) := by decide +kernel
theorem dX7_image_11 : decode cX7_image 11 = .ok (.aload_n 0, 1) := by decide +kernel
theorem dX7_image_12 : decode cX7_image 12 = .ok (.iconst 1, 1) := by decide +kernel
theorem dX7_image_13 : decode cX7_image 13 = .ok (.putfield 63, 3) := by decide +kernel
theorem dX7_image_16 : decode cX7_image 16 = .ok (.aload_n 0, 1) := by decide +kernel
theorem dX7_image_17 : decode cX7_image 17 = .ok (.getfield 10, 3) := by decide +kernel
theorem dX7_image_20 : decode cX7_image 20 = .ok (.getfield 233, 3) := by decide +kernel
theorem dX7_image_23 : decode cX7_image 23 = .ok (.invokestatic 254, 3) := by decide +kernel
theorem dX7_image_26 : decode cX7_image 26 = .ok (.ireturn, 1) := by decide +kernel
theorem dX7_on_0 : decode cX7_on 0 = .ok (.aload_n 0, 1) := by decide +kernel
theorem dX7_on_1 : decode cX7_on 1 = .ok (.getfield 63, 3) := by decide +kernel
theorem dX7_on_4 : decode cX7_on 4 = .ok (.ifCond .ne 10, 3) := by decide +kernel
theorem dX7_on_7 : decode cX7_on 7 = .ok (.aload_n 0, 1) := by decide +kernel
theorem dX7_on_8 : decode cX7_on 8 = .ok (.bipush (-3), 2) := by decide +kernel
theorem dX7_on_10 : decode cX7_on 10 = .ok (.invokevirtual 67, 3) := by decide +kernel
theorem dX7_on_13 : decode cX7_on 13 = .ok (.ireturn, 1) := by decide +kernel
theorem dX7_on_14 : decode cX7_on 14 = .ok (.aload_n 0, 1) := by decide +kernel
theorem dX7_on_15 : decode cX7_on 15 = .ok (.getfield 10, 3) := by decide +kernel
theorem dX7_on_18 : decode cX7_on 18 = .ok (.aload_n 0, 1) := by decide +kernel
theorem dX7_on_19 : decode cX7_on 19 = .ok (.getfield 16, 3) := by decide +kernel
theorem dX7_on_22 : decode cX7_on 22 = .ok (.invokevirtual 89, 3) := by decide +kernel
theorem dX7_on_25 : decode cX7_on 25 = .ok (.aload_n 0, 1) := by decide +kernel
theorem dX7_on_26 : decode cX7_on 26 = .ok (.getfield 10, 3) := by decide +kernel
theorem dX7_on_29 : decode cX7_on 29 = .ok (.getfield 233, 3) := by decide +kernel
theorem dX7_on_32 : decode cX7_on 32 = .ok (.invokestatic 254, 3) := by decide +kernel
theorem dX7_on_35 : decode cX7_on 35 = .ok (.ireturn, 1) := by decide +kernel
theorem dX7_count_0 : decode cX7_count 0 = .ok (.iload_n 1, 1) := by decide +kernel
theorem dX7_count_1 : decode cX7_count 1 = .ok (.tableswitch 114 0 7 #[47, 55, 63, 71, 79, 87, 95, 103], 47) := by decide +kernel
theorem dX7_count_48 : decode cX7_count 48 = .ok (.aload_n 0, 1) := by decide +kernel
theorem dX7_count_49 : decode cX7_count 49 = .ok (.getfield 10, 3) := by decide +kernel
theorem dX7_count_52 : decode cX7_count 52 = .ok (.getfield 224, 3) := by decide +kernel
theorem dX7_count_55 : decode cX7_count 55 = .ok (.ireturn, 1) := by decide +kernel
theorem dX7_count_56 : decode cX7_count 56 = .ok (.aload_n 0, 1) := by decide +kernel
theorem dX7_count_57 : decode cX7_count 57 = .ok (.getfield 10, 3) := by decide +kernel
theorem dX7_count_60 : decode cX7_count 60 = .ok (.getfield 233, 3) := by decide +kernel
theorem dX7_count_63 : decode cX7_count 63 = .ok (.ireturn, 1) := by decide +kernel
theorem dX7_count_64 : decode cX7_count 64 = .ok (.aload_n 0, 1) := by decide +kernel
theorem dX7_count_65 : decode cX7_count 65 = .ok (.getfield 10, 3) := by decide +kernel
theorem dX7_count_68 : decode cX7_count 68 = .ok (.invokevirtual 162, 3) := by decide +kernel
theorem dX7_count_71 : decode cX7_count 71 = .ok (.ireturn, 1) := by decide +kernel
theorem dX7_count_72 : decode cX7_count 72 = .ok (.aload_n 0, 1) := by decide +kernel
theorem dX7_count_73 : decode cX7_count 73 = .ok (.getfield 10, 3) := by decide +kernel
theorem dX7_count_76 : decode cX7_count 76 = .ok (.invokevirtual 283, 3) := by decide +kernel
theorem dX7_count_79 : decode cX7_count 79 = .ok (.ireturn, 1) := by decide +kernel
theorem dX7_count_80 : decode cX7_count 80 = .ok (.aload_n 0, 1) := by decide +kernel
theorem dX7_count_81 : decode cX7_count 81 = .ok (.getfield 10, 3) := by decide +kernel
theorem dX7_count_84 : decode cX7_count 84 = .ok (.invokevirtual 285, 3) := by decide +kernel
theorem dX7_count_87 : decode cX7_count 87 = .ok (.ireturn, 1) := by decide +kernel
theorem dX7_count_88 : decode cX7_count 88 = .ok (.aload_n 0, 1) := by decide +kernel
theorem dX7_count_89 : decode cX7_count 89 = .ok (.getfield 10, 3) := by decide +kernel
theorem dX7_count_92 : decode cX7_count 92 = .ok (.getfield 148, 3) := by decide +kernel
theorem dX7_count_95 : decode cX7_count 95 = .ok (.ireturn, 1) := by decide +kernel
theorem dX7_count_96 : decode cX7_count 96 = .ok (.aload_n 0, 1) := by decide +kernel
theorem dX7_count_97 : decode cX7_count 97 = .ok (.getfield 48, 3) := by decide +kernel
theorem dX7_count_100 : decode cX7_count 100 = .ok (.getfield 81, 3) := by decide +kernel
theorem dX7_count_103 : decode cX7_count 103 = .ok (.ireturn, 1) := by decide +kernel
theorem dX7_count_104 : decode cX7_count 104 = .ok (.aload_n 0, 1) := by decide +kernel
theorem dX7_count_105 : decode cX7_count 105 = .ok (.getfield 39, 3) := by decide +kernel
theorem dX7_count_108 : decode cX7_count 108 = .ok (.getfield 71, 3) := by decide +kernel
theorem dX7_count_111 : decode cX7_count 111 = .ok (.getfield 81, 3) := by decide +kernel
theorem dX7_count_114 : decode cX7_count 114 = .ok (.ireturn, 1) := by decide +kernel
theorem dX7_count_115 : decode cX7_count 115 = .ok (.iload_n 1, 1) := by decide +kernel
theorem dX7_count_116 : decode cX7_count 116 = .ok (.bipush 11, 2) := by decide +kernel
theorem dX7_count_118 : decode cX7_count 118 = .ok (.if_icmp .lt 21, 3) := by decide +kernel
theorem dX7_count_121 : decode cX7_count 121 = .ok (.iload_n 1, 1) := by decide +kernel
theorem dX7_count_122 : decode cX7_count 122 = .ok (.bipush 16, 2) := by decide +kernel
theorem dX7_count_124 : decode cX7_count 124 = .ok (.if_icmp .gt 15, 3) := by decide +kernel
theorem dX7_count_127 : decode cX7_count 127 = .ok (.aload_n 0, 1) := by decide +kernel
theorem dX7_count_128 : decode cX7_count 128 = .ok (.getfield 59, 3) := by decide +kernel
theorem dX7_count_131 : decode cX7_count 131 = .ok (.iload_n 1, 1) := by decide +kernel
theorem dX7_count_132 : decode cX7_count 132 = .ok (.bipush 10, 2) := by decide +kernel
theorem dX7_count_134 : decode cX7_count 134 = .ok (.isub, 1) := by decide +kernel
theorem dX7_count_135 : decode cX7_count 135 = .ok (.iaload, 1) := by decide +kernel
theorem dX7_count_136 : decode cX7_count 136 = .ok (.goto 5, 3) := by decide +kernel
theorem dX7_count_139 : decode cX7_count 139 = .ok (.bipush (-9), 2) := by decide +kernel
theorem dX7_count_141 : decode cX7_count 141 = .ok (.ireturn, 1) := by decide +kernel
theorem dX7_refuse_0 : decode cX7_refuse 0 = .ok (.iload_n 1, 1) := by decide +kernel
theorem dX7_refuse_1 : decode cX7_refuse 1 = .ok (.ifCond .ge 24, 3) := by decide +kernel
theorem dX7_refuse_4 : decode cX7_refuse 4 = .ok (.iload_n 1, 1) := by decide +kernel
theorem dX7_refuse_5 : decode cX7_refuse 5 = .ok (.aload_n 0, 1) := by decide +kernel
theorem dX7_refuse_6 : decode cX7_refuse 6 = .ok (.getfield 59, 3) := by decide +kernel
theorem dX7_refuse_9 : decode cX7_refuse 9 = .ok (.arraylength, 1) := by decide +kernel
theorem dX7_refuse_10 : decode cX7_refuse 10 = .ok (.ineg, 1) := by decide +kernel
theorem dX7_refuse_11 : decode cX7_refuse 11 = .ok (.if_icmp .le 14, 3) := by decide +kernel
theorem dX7_refuse_14 : decode cX7_refuse 14 = .ok (.aload_n 0, 1) := by decide +kernel
theorem dX7_refuse_15 : decode cX7_refuse 15 = .ok (.getfield 59, 3) := by decide +kernel
theorem dX7_refuse_18 : decode cX7_refuse 18 = .ok (.iload_n 1, 1) := by decide +kernel
theorem dX7_refuse_19 : decode cX7_refuse 19 = .ok (.ineg, 1) := by decide +kernel
theorem dX7_refuse_20 : decode cX7_refuse 20 = .ok (.dup2, 1) := by decide +kernel
theorem dX7_refuse_21 : decode cX7_refuse 21 = .ok (.iaload, 1) := by decide +kernel
theorem dX7_refuse_22 : decode cX7_refuse 22 = .ok (.iconst 1, 1) := by decide +kernel
theorem dX7_refuse_23 : decode cX7_refuse 23 = .ok (.iadd, 1) := by decide +kernel
theorem dX7_refuse_24 : decode cX7_refuse 24 = .ok (.iastore, 1) := by decide +kernel
theorem dX7_refuse_25 : decode cX7_refuse 25 = .ok (.iload_n 1, 1) := by decide +kernel
theorem dX7_refuse_26 : decode cX7_refuse 26 = .ok (.ireturn, 1) := by decide +kernel
theorem dX7_refuseLong_0 : decode cX7_refuseLong 0 = .ok (.ldc2_w 287, 3) := by decide +kernel
theorem dX7_refuseLong_3 : decode cX7_refuseLong 3 = .ok (.aload_n 0, 1) := by decide +kernel
theorem dX7_refuseLong_4 : decode cX7_refuseLong 4 = .ok (.iload_n 1, 1) := by decide +kernel
theorem dX7_refuseLong_5 : decode cX7_refuseLong 5 = .ok (.invokevirtual 67, 3) := by decide +kernel
theorem dX7_refuseLong_8 : decode cX7_refuseLong 8 = .ok (.i2l, 1) := by decide +kernel
theorem dX7_refuseLong_9 : decode cX7_refuseLong 9 = .ok (.lsub, 1) := by decide +kernel
theorem dX7_refuseLong_10 : decode cX7_refuseLong 10 = .ok (.lreturn, 1) := by decide +kernel
theorem dX7_orLacking_0 : decode cX7_orLacking 0 = .ok (.iload_n 0, 1) := by decide +kernel
theorem dX7_orLacking_1 : decode cX7_orLacking 1 = .ok (.iconst (-1), 1) := by decide +kernel
theorem dX7_orLacking_2 : decode cX7_orLacking 2 = .ok (.if_icmp .ne 8, 3) := by decide +kernel
theorem dX7_orLacking_5 : decode cX7_orLacking 5 = .ok (.bipush (-9), 2) := by decide +kernel
theorem dX7_orLacking_7 : decode cX7_orLacking 7 = .ok (.goto 4, 3) := by decide +kernel
theorem dX7_orLacking_10 : decode cX7_orLacking 10 = .ok (.iload_n 0, 1) := by decide +kernel
theorem dX7_orLacking_11 : decode cX7_orLacking 11 = .ok (.ireturn, 1) := by decide +kernel
theorem dX7_isHead_0 : decode cX7_isHead 0 = .ok (.iload_n 0, 1) := by decide +kernel
theorem dX7_isHead_1 : decode cX7_isHead 1 = .ok (.ifCond .lt 12, 3) := by decide +kernel
theorem dX7_isHead_4 : decode cX7_isHead 4 = .ok (.iload_n 0, 1) := by decide +kernel
theorem dX7_isHead_5 : decode cX7_isHead 5 = .ok (.iconst 4, 1) := by decide +kernel
theorem dX7_isHead_6 : decode cX7_isHead 6 = .ok (.if_icmp .ge 7, 3) := by decide +kernel
theorem dX7_isHead_9 : decode cX7_isHead 9 = .ok (.iconst 1, 1) := by decide +kernel
theorem dX7_isHead_10 : decode cX7_isHead 10 = .ok (.goto 4, 3) := by decide +kernel
theorem dX7_isHead_13 : decode cX7_isHead 13 = .ok (.iconst 0, 1) := by decide +kernel
theorem dX7_isHead_14 : decode cX7_isHead 14 = .ok (.ireturn, 1) := by decide +kernel
theorem dX7_greatestDivisor_0 : decode cX7_greatestDivisor 0 = .ok (.iload_n 0, 1) := by decide +kernel
theorem dX7_greatestDivisor_1 : decode cX7_greatestDivisor 1 = .ok (.istore_n 2, 1) := by decide +kernel
theorem dX7_greatestDivisor_2 : decode cX7_greatestDivisor 2 = .ok (.iload_n 1, 1) := by decide +kernel
theorem dX7_greatestDivisor_3 : decode cX7_greatestDivisor 3 = .ok (.istore_n 3, 1) := by decide +kernel
theorem dX7_greatestDivisor_4 : decode cX7_greatestDivisor 4 = .ok (.iconst 0, 1) := by decide +kernel
theorem dX7_greatestDivisor_5 : decode cX7_greatestDivisor 5 = .ok (.istore 4, 2) := by decide +kernel
theorem dX7_greatestDivisor_7 : decode cX7_greatestDivisor 7 = .ok (.iload 4, 2) := by decide +kernel
theorem dX7_greatestDivisor_9 : decode cX7_greatestDivisor 9 = .ok (.bipush 64, 2) := by decide +kernel
theorem dX7_greatestDivisor_11 : decode cX7_greatestDivisor 11 = .ok (.if_icmp .ge 23, 3) := by decide +kernel
theorem dX7_greatestDivisor_14 : decode cX7_greatestDivisor 14 = .ok (.iload_n 3, 1) := by decide +kernel
theorem dX7_greatestDivisor_15 : decode cX7_greatestDivisor 15 = .ok (.ifCond .eq 19, 3) := by decide +kernel
theorem dX7_greatestDivisor_18 : decode cX7_greatestDivisor 18 = .ok (.iload_n 2, 1) := by decide +kernel
theorem dX7_greatestDivisor_19 : decode cX7_greatestDivisor 19 = .ok (.iload_n 3, 1) := by decide +kernel
theorem dX7_greatestDivisor_20 : decode cX7_greatestDivisor 20 = .ok (.irem, 1) := by decide +kernel
theorem dX7_greatestDivisor_21 : decode cX7_greatestDivisor 21 = .ok (.istore 5, 2) := by decide +kernel
theorem dX7_greatestDivisor_23 : decode cX7_greatestDivisor 23 = .ok (.iload_n 3, 1) := by decide +kernel
theorem dX7_greatestDivisor_24 : decode cX7_greatestDivisor 24 = .ok (.istore_n 2, 1) := by decide +kernel
theorem dX7_greatestDivisor_25 : decode cX7_greatestDivisor 25 = .ok (.iload 5, 2) := by decide +kernel
theorem dX7_greatestDivisor_27 : decode cX7_greatestDivisor 27 = .ok (.istore_n 3, 1) := by decide +kernel
theorem dX7_greatestDivisor_28 : decode cX7_greatestDivisor 28 = .ok (.iinc 4 1, 3) := by decide +kernel
theorem dX7_greatestDivisor_31 : decode cX7_greatestDivisor 31 = .ok (.goto (-24), 3) := by decide +kernel
theorem dX7_greatestDivisor_34 : decode cX7_greatestDivisor 34 = .ok (.iload_n 2, 1) := by decide +kernel
theorem dX7_greatestDivisor_35 : decode cX7_greatestDivisor 35 = .ok (.ireturn, 1) := by decide +kernel
theorem dX7_drawLot_0 : decode cX7_drawLot 0 = .ok (.aload_n 0, 1) := by decide +kernel
theorem dX7_drawLot_1 : decode cX7_drawLot 1 = .ok (.getfield 19, 3) := by decide +kernel
theorem dX7_drawLot_4 : decode cX7_drawLot 4 = .ok (.aload_n 0, 1) := by decide +kernel
theorem dX7_drawLot_5 : decode cX7_drawLot 5 = .ok (.getfield 10, 3) := by decide +kernel
theorem dX7_drawLot_8 : decode cX7_drawLot 8 = .ok (.invokevirtual 89, 3) := by decide +kernel
theorem dX7_drawLot_11 : decode cX7_drawLot 11 = .ok (.iconst 0, 1) := by decide +kernel
theorem dX7_drawLot_12 : decode cX7_drawLot 12 = .ok (.istore_n 1, 1) := by decide +kernel
theorem dX7_drawLot_13 : decode cX7_drawLot 13 = .ok (.iload_n 1, 1) := by decide +kernel
theorem dX7_drawLot_14 : decode cX7_drawLot 14 = .ok (.bipush 6, 2) := by decide +kernel
theorem dX7_drawLot_16 : decode cX7_drawLot 16 = .ok (.if_icmp .ge 100, 3) := by decide +kernel
theorem dX7_drawLot_19 : decode cX7_drawLot 19 = .ok (.aload_n 0, 1) := by decide +kernel
theorem dX7_drawLot_20 : decode cX7_drawLot 20 = .ok (.getfield 19, 3) := by decide +kernel
theorem dX7_drawLot_23 : decode cX7_drawLot 23 = .ok (.invokevirtual 122, 3) := by decide +kernel
theorem dX7_drawLot_26 : decode cX7_drawLot 26 = .ok (.ifCond .eq 90, 3) := by decide +kernel
theorem dX7_drawLot_29 : decode cX7_drawLot 29 = .ok (.aload_n 0, 1) := by decide +kernel
theorem dX7_drawLot_30 : decode cX7_drawLot 30 = .ok (.getfield 19, 3) := by decide +kernel
theorem dX7_drawLot_33 : decode cX7_drawLot 33 = .ok (.getfield 233, 3) := by decide +kernel
theorem dX7_drawLot_36 : decode cX7_drawLot 36 = .ok (.ifCond .ne 14, 3) := by decide +kernel
theorem dX7_drawLot_39 : decode cX7_drawLot 39 = .ok (.aload_n 0, 1) := by decide +kernel
theorem dX7_drawLot_40 : decode cX7_drawLot 40 = .ok (.getfield 19, 3) := by decide +kernel
theorem dX7_drawLot_43 : decode cX7_drawLot 43 = .ok (.invokevirtual 289, 3) := by decide +kernel
theorem dX7_drawLot_46 : decode cX7_drawLot 46 = .ok (.pop, 1) := by decide +kernel
theorem dX7_drawLot_47 : decode cX7_drawLot 47 = .ok (.goto 63, 3) := by decide +kernel
theorem dX7_drawLot_50 : decode cX7_drawLot 50 = .ok (.aload_n 0, 1) := by decide +kernel
theorem dX7_drawLot_51 : decode cX7_drawLot 51 = .ok (.getfield 19, 3) := by decide +kernel
theorem dX7_drawLot_54 : decode cX7_drawLot 54 = .ok (.aload_n 0, 1) := by decide +kernel
theorem dX7_drawLot_55 : decode cX7_drawLot 55 = .ok (.getfield 55, 3) := by decide +kernel
theorem dX7_drawLot_58 : decode cX7_drawLot 58 = .ok (.aload_n 0, 1) := by decide +kernel
theorem dX7_drawLot_59 : decode cX7_drawLot 59 = .ok (.getfield 19, 3) := by decide +kernel
theorem dX7_drawLot_62 : decode cX7_drawLot 62 = .ok (.getfield 233, 3) := by decide +kernel
theorem dX7_drawLot_65 : decode cX7_drawLot 65 = .ok (.invokestatic 254, 3) := by decide +kernel
theorem dX7_drawLot_68 : decode cX7_drawLot 68 = .ok (.invokevirtual 292, 3) := by decide +kernel
theorem dX7_drawLot_71 : decode cX7_drawLot 71 = .ok (.invokevirtual 295, 3) := by decide +kernel
theorem dX7_drawLot_74 : decode cX7_drawLot 74 = .ok (.istore_n 2, 1) := by decide +kernel
theorem dX7_drawLot_75 : decode cX7_drawLot 75 = .ok (.aload_n 0, 1) := by decide +kernel
theorem dX7_drawLot_76 : decode cX7_drawLot 76 = .ok (.getfield 55, 3) := by decide +kernel
theorem dX7_drawLot_79 : decode cX7_drawLot 79 = .ok (.aload_n 0, 1) := by decide +kernel
theorem dX7_drawLot_80 : decode cX7_drawLot 80 = .ok (.getfield 19, 3) := by decide +kernel
theorem dX7_drawLot_83 : decode cX7_drawLot 83 = .ok (.iload_n 2, 1) := by decide +kernel
theorem dX7_drawLot_84 : decode cX7_drawLot 84 = .ok (.invokevirtual 298, 3) := by decide +kernel
theorem dX7_drawLot_87 : decode cX7_drawLot 87 = .ok (.invokevirtual 292, 3) := by decide +kernel
theorem dX7_drawLot_90 : decode cX7_drawLot 90 = .ok (.istore_n 3, 1) := by decide +kernel
theorem dX7_drawLot_91 : decode cX7_drawLot 91 = .ok (.aload_n 0, 1) := by decide +kernel
theorem dX7_drawLot_92 : decode cX7_drawLot 92 = .ok (.getfield 19, 3) := by decide +kernel
theorem dX7_drawLot_95 : decode cX7_drawLot 95 = .ok (.iload_n 2, 1) := by decide +kernel
theorem dX7_drawLot_96 : decode cX7_drawLot 96 = .ok (.iload_n 3, 1) := by decide +kernel
theorem dX7_drawLot_97 : decode cX7_drawLot 97 = .ok (.aload_n 0, 1) := by decide +kernel
theorem dX7_drawLot_98 : decode cX7_drawLot 98 = .ok (.getfield 55, 3) := by decide +kernel
theorem dX7_drawLot_101 : decode cX7_drawLot 101 = .ok (.bipush 8, 2) := by decide +kernel
theorem dX7_drawLot_103 : decode cX7_drawLot 103 = .ok (.invokevirtual 292, 3) := by decide +kernel
theorem dX7_drawLot_106 : decode cX7_drawLot 106 = .ok (.invokevirtual 125, 3) := by decide +kernel
theorem dX7_drawLot_109 : decode cX7_drawLot 109 = .ok (.pop, 1) := by decide +kernel
theorem dX7_drawLot_110 : decode cX7_drawLot 110 = .ok (.iinc 1 1, 3) := by decide +kernel
theorem dX7_drawLot_113 : decode cX7_drawLot 113 = .ok (.goto (-100), 3) := by decide +kernel
theorem dX7_drawLot_116 : decode cX7_drawLot 116 = .ok (.aload_n 0, 1) := by decide +kernel
theorem dX7_drawLot_117 : decode cX7_drawLot 117 = .ok (.getfield 25, 3) := by decide +kernel
theorem dX7_drawLot_120 : decode cX7_drawLot 120 = .ok (.aload_n 0, 1) := by decide +kernel
theorem dX7_drawLot_121 : decode cX7_drawLot 121 = .ok (.getfield 19, 3) := by decide +kernel
theorem dX7_drawLot_124 : decode cX7_drawLot 124 = .ok (.invokevirtual 151, 3) := by decide +kernel
theorem dX7_drawLot_127 : decode cX7_drawLot 127 = .ok (.aload_n 0, 1) := by decide +kernel
theorem dX7_drawLot_128 : decode cX7_drawLot 128 = .ok (.getfield 25, 3) := by decide +kernel
theorem dX7_drawLot_131 : decode cX7_drawLot 131 = .ok (.aload_n 0, 1) := by decide +kernel
theorem dX7_drawLot_132 : decode cX7_drawLot 132 = .ok (.getfield 19, 3) := by decide +kernel
theorem dX7_drawLot_135 : decode cX7_drawLot 135 = .ok (.getfield 142, 3) := by decide +kernel
theorem dX7_drawLot_138 : decode cX7_drawLot 138 = .ok (.aload_n 0, 1) := by decide +kernel
theorem dX7_drawLot_139 : decode cX7_drawLot 139 = .ok (.getfield 19, 3) := by decide +kernel
theorem dX7_drawLot_142 : decode cX7_drawLot 142 = .ok (.getfield 145, 3) := by decide +kernel
theorem dX7_drawLot_145 : decode cX7_drawLot 145 = .ok (.aload_n 0, 1) := by decide +kernel
theorem dX7_drawLot_146 : decode cX7_drawLot 146 = .ok (.getfield 19, 3) := by decide +kernel
theorem dX7_drawLot_149 : decode cX7_drawLot 149 = .ok (.getfield 148, 3) := by decide +kernel
theorem dX7_drawLot_152 : decode cX7_drawLot 152 = .ok (.invokevirtual 154, 3) := by decide +kernel
theorem dX7_drawLot_155 : decode cX7_drawLot 155 = .ok (.return_, 1) := by decide +kernel
theorem dX8_init_0 : decode cX8_init 0 = .ok (.aload_n 0, 1) := by decide +kernel
theorem dX8_init_1 : decode cX8_init 1 = .ok (.invokespecial 1, 3) := by decide +kernel
theorem dX8_init_4 : decode cX8_init 4 = .ok (.aload_n 0, 1) := by decide +kernel
theorem dX8_init_5 : decode cX8_init 5 = .ok (.sipush 520, 3) := by decide +kernel
theorem dX8_init_8 : decode cX8_init 8 = .ok (.newarray .int, 2) := by decide +kernel
theorem dX8_init_10 : decode cX8_init 10 = .ok (.putfield 9, 3) := by decide +kernel
theorem dX8_init_13 : decode cX8_init 13 = .ok (.aload_n 0, 1) := by decide +kernel
theorem dX8_init_14 : decode cX8_init 14 = .ok (.sipush 520, 3) := by decide +kernel
theorem dX8_init_17 : decode cX8_init 17 = .ok (.newarray .int, 2) := by decide +kernel
theorem dX8_init_19 : decode cX8_init 19 = .ok (.putfield 13, 3) := by decide +kernel
theorem dX8_init_22 : decode cX8_init 22 = .ok (.aload_n 0, 1) := by decide +kernel
theorem dX8_init_23 : decode cX8_init 23 = .ok (.sipush 520, 3) := by decide +kernel
theorem dX8_init_26 : decode cX8_init 26 = .ok (.newarray .int, 2) := by decide +kernel
theorem dX8_init_28 : decode cX8_init 28 = .ok (.putfield 16, 3) := by decide +kernel
theorem dX8_init_31 : decode cX8_init 31 = .ok (.aload_n 0, 1) := by decide +kernel
theorem dX8_init_32 : decode cX8_init 32 = .ok (.sipush 520, 3) := by decide +kernel
theorem dX8_init_35 : decode cX8_init 35 = .ok (.newarray .int, 2) := by decide +kernel
theorem dX8_init_37 : decode cX8_init 37 = .ok (.putfield 19, 3) := by decide +kernel
theorem dX8_init_40 : decode cX8_init 40 = .ok (.aload_n 0, 1) := by decide +kernel
theorem dX8_init_41 : decode cX8_init 41 = .ok (.bipush 8, 2) := by decide +kernel
theorem dX8_init_43 : decode cX8_init 43 = .ok (.newarray .int, 2) := by decide +kernel
theorem dX8_init_45 : decode cX8_init 45 = .ok (.putfield 22, 3) := by decide +kernel
theorem dX8_init_48 : decode cX8_init 48 = .ok (.aload_n 0, 1) := by decide +kernel
theorem dX8_init_49 : decode cX8_init 49 = .ok (.bipush 96, 2) := by decide +kernel
theorem dX8_init_51 : decode cX8_init 51 = .ok (.newarray .int, 2) := by decide +kernel
theorem dX8_init_53 : decode cX8_init 53 = .ok (.putfield 25, 3) := by decide +kernel
theorem dX8_init_56 : decode cX8_init 56 = .ok (.aload_n 0, 1) := by decide +kernel
theorem dX8_init_57 : decode cX8_init 57 = .ok (.bipush 12, 2) := by decide +kernel
theorem dX8_init_59 : decode cX8_init 59 = .ok (.newarray .int, 2) := by decide +kernel
theorem dX8_init_61 : decode cX8_init 61 = .ok (.putfield 28, 3) := by decide +kernel
theorem dX8_init_64 : decode cX8_init 64 = .ok (.aload_n 0, 1) := by decide +kernel
theorem dX8_init_65 : decode cX8_init 65 = .ok (.bipush 120, 2) := by decide +kernel
theorem dX8_init_67 : decode cX8_init 67 = .ok (.newarray .int, 2) := by decide +kernel
theorem dX8_init_69 : decode cX8_init 69 = .ok (.putfield 31, 3) := by decide +kernel
theorem dX8_init_72 : decode cX8_init 72 = .ok (.aload_n 0, 1) := by decide +kernel
theorem dX8_init_73 : decode cX8_init 73 = .ok (.bipush 10, 2) := by decide +kernel
theorem dX8_init_75 : decode cX8_init 75 = .ok (.newarray .int, 2) := by decide +kernel
theorem dX8_init_77 : decode cX8_init 77 = .ok (.putfield 34, 3) := by decide +kernel
theorem dX8_init_80 : decode cX8_init 80 = .ok (.aload_n 0, 1) := by decide +kernel
theorem dX8_init_81 : decode cX8_init 81 = .ok (.bipush 24, 2) := by decide +kernel
theorem dX8_init_83 : decode cX8_init 83 = .ok (.newarray .int, 2) := by decide +kernel
theorem dX8_init_85 : decode cX8_init 85 = .ok (.putfield 37, 3) := by decide +kernel
theorem dX8_init_88 : decode cX8_init 88 = .ok (.aload_n 0, 1) := by decide +kernel
theorem dX8_init_89 : decode cX8_init 89 = .ok (.bipush 10, 2) := by decide +kernel
theorem dX8_init_91 : decode cX8_init 91 = .ok (.newarray .int, 2) := by decide +kernel
theorem dX8_init_93 : decode cX8_init 93 = .ok (.putfield 40, 3) := by decide +kernel
theorem dX8_init_96 : decode cX8_init 96 = .ok (.aload_n 0, 1) := by decide +kernel
theorem dX8_init_97 : decode cX8_init 97 = .ok (.bipush 10, 2) := by decide +kernel
theorem dX8_init_99 : decode cX8_init 99 = .ok (.newarray .int, 2) := by decide +kernel
theorem dX8_init_101 : decode cX8_init 101 = .ok (.putfield 43, 3) := by decide +kernel
theorem dX8_init_104 : decode cX8_init 104 = .ok (.aload_n 0, 1) := by decide +kernel
theorem dX8_init_105 : decode cX8_init 105 = .ok (.bipush 10, 2) := by decide +kernel
theorem dX8_init_107 : decode cX8_init 107 = .ok (.newarray .int, 2) := by decide +kernel
theorem dX8_init_109 : decode cX8_init 109 = .ok (.putfield 46, 3) := by decide +kernel
theorem dX8_init_112 : decode cX8_init 112 = .ok (.iconst 0, 1) := by decide +kernel
theorem dX8_init_113 : decode cX8_init 113 = .ok (.istore_n 1, 1) := by decide +kernel
theorem dX8_init_114 : decode cX8_init 114 = .ok (.iload_n 1, 1) := by decide +kernel
theorem dX8_init_115 : decode cX8_init 115 = .ok (.iconst 4, 1) := by decide +kernel
theorem dX8_init_116 : decode cX8_init 116 = .ok (.if_icmp .ge 21, 3) := by decide +kernel
theorem dX8_init_119 : decode cX8_init 119 = .ok (.aload_n 0, 1) := by decide +kernel
theorem dX8_init_120 : decode cX8_init 120 = .ok (.getfield 9, 3) := by decide +kernel
theorem dX8_init_123 : decode cX8_init 123 = .ok (.sipush 501, 3) := by decide +kernel
theorem dX8_init_126 : decode cX8_init 126 = .ok (.iload_n 1, 1) := by decide +kernel
theorem dX8_init_127 : decode cX8_init 127 = .ok (.iadd, 1) := by decide +kernel
theorem dX8_init_128 : decode cX8_init 128 = .ok (.bipush (-9), 2) := by decide +kernel
theorem dX8_init_130 : decode cX8_init 130 = .ok (.iastore, 1) := by decide +kernel
theorem dX8_init_131 : decode cX8_init 131 = .ok (.iinc 1 1, 3) := by decide +kernel
theorem dX8_init_134 : decode cX8_init 134 = .ok (.goto (-20), 3) := by decide +kernel
theorem dX8_init_137 : decode cX8_init 137 = .ok (.aload_n 0, 1) := by decide +kernel
theorem dX8_init_138 : decode cX8_init 138 = .ok (.getfield 9, 3) := by decide +kernel
theorem dX8_init_141 : decode cX8_init 141 = .ok (.sipush 507, 3) := by decide +kernel
theorem dX8_init_144 : decode cX8_init 144 = .ok (.iconst 4, 1) := by decide +kernel
theorem dX8_init_145 : decode cX8_init 145 = .ok (.iastore, 1) := by decide +kernel
theorem dX8_init_146 : decode cX8_init 146 = .ok (.return_, 1) := by decide +kernel
theorem dX8_no_0 : decode cX8_no 0 = .ok (.aload_n 0, 1) := by decide +kernel
theorem dX8_no_1 : decode cX8_no 1 = .ok (.getfield 22, 3) := by decide +kernel
theorem dX8_no_4 : decode cX8_no 4 = .ok (.iload_n 1, 1) := by decide +kernel
theorem dX8_no_5 : decode cX8_no 5 = .ok (.ineg, 1) := by decide +kernel
theorem dX8_no_6 : decode cX8_no 6 = .ok (.dup2, 1) := by decide +kernel
theorem dX8_no_7 : decode cX8_no 7 = .ok (.iaload, 1) := by decide +kernel
theorem dX8_no_8 : decode cX8_no 8 = .ok (.iconst 1, 1) := by decide +kernel
theorem dX8_no_9 : decode cX8_no 9 = .ok (.iadd, 1) := by decide +kernel
theorem dX8_no_10 : decode cX8_no 10 = .ok (.iastore, 1) := by decide +kernel
theorem dX8_no_11 : decode cX8_no 11 = .ok (.iload_n 1, 1) := by decide +kernel
theorem dX8_no_12 : decode cX8_no 12 = .ok (.ireturn, 1) := by decide +kernel
theorem dX8_noLong_0 : decode cX8_noLong 0 = .ok (.ldc2_w 49, 3) := by decide +kernel
theorem dX8_noLong_3 : decode cX8_noLong 3 = .ok (.aload_n 0, 1) := by decide +kernel
theorem dX8_noLong_4 : decode cX8_noLong 4 = .ok (.iload_n 1, 1) := by decide +kernel
theorem dX8_noLong_5 : decode cX8_noLong 5 = .ok (.invokevirtual 51, 3) := by decide +kernel
theorem dX8_noLong_8 : decode cX8_noLong 8 = .ok (.i2l, 1) := by decide +kernel
theorem dX8_noLong_9 : decode cX8_noLong 9 = .ok (.lsub, 1) := by decide +kernel
theorem dX8_noLong_10 : decode cX8_noLong 10 = .ok (.lreturn, 1) := by decide +kernel
theorem dX8_isIn_0 : decode cX8_isIn 0 = .ok (.iload_n 0, 1) := by decide +kernel
theorem dX8_isIn_1 : decode cX8_isIn 1 = .ok (.iload_n 1, 1) := by decide +kernel
theorem dX8_isIn_2 : decode cX8_isIn 2 = .ok (.if_icmp .lt 12, 3) := by decide +kernel
theorem dX8_isIn_5 : decode cX8_isIn 5 = .ok (.iload_n 0, 1) := by decide +kernel
theorem dX8_isIn_6 : decode cX8_isIn 6 = .ok (.iload_n 2, 1) := by decide +kernel
theorem dX8_isIn_7 : decode cX8_isIn 7 = .ok (.if_icmp .gt 7, 3) := by decide +kernel
theorem dX8_isIn_10 : decode cX8_isIn 10 = .ok (.iconst 1, 1) := by decide +kernel
theorem dX8_isIn_11 : decode cX8_isIn 11 = .ok (.goto 4, 3) := by decide +kernel
theorem dX8_isIn_14 : decode cX8_isIn 14 = .ok (.iconst 0, 1) := by decide +kernel
theorem dX8_isIn_15 : decode cX8_isIn 15 = .ok (.ireturn, 1) := by decide +kernel
theorem dX8_isThere_0 : decode cX8_isThere 0 = .ok (.iload_n 1, 1) := by decide +kernel
theorem dX8_isThere_1 : decode cX8_isThere 1 = .ok (.iconst 0, 1) := by decide +kernel
theorem dX8_isThere_2 : decode cX8_isThere 2 = .ok (.bipush 9, 2) := by decide +kernel
theorem dX8_isThere_4 : decode cX8_isThere 4 = .ok (.invokestatic 55, 3) := by decide +kernel
theorem dX8_isThere_7 : decode cX8_isThere 7 = .ok (.ifCond .eq 22, 3) := by decide +kernel
theorem dX8_isThere_10 : decode cX8_isThere 10 = .ok (.aload_n 0, 1) := by decide +kernel
theorem dX8_isThere_11 : decode cX8_isThere 11 = .ok (.getfield 9, 3) := by decide +kernel
theorem dX8_isThere_14 : decode cX8_isThere 14 = .ok (.bipush 50, 2) := by decide +kernel
theorem dX8_isThere_16 : decode cX8_isThere 16 = .ok (.iload_n 1, 1) := by decide +kernel
theorem dX8_isThere_17 : decode cX8_isThere 17 = .ok (.imul, 1) := by decide +kernel
theorem dX8_isThere_18 : decode cX8_isThere 18 = .ok (.iconst 0, 1) := by decide +kernel
theorem dX8_isThere_19 : decode cX8_isThere 19 = .ok (.iadd, 1) := by decide +kernel
theorem dX8_isThere_20 : decode cX8_isThere 20 = .ok (.iaload, 1) := by decide +kernel
theorem dX8_isThere_21 : decode cX8_isThere 21 = .ok (.iconst 1, 1) := by decide +kernel
theorem dX8_isThere_22 : decode cX8_isThere 22 = .ok (.if_icmp .ne 7, 3) := by decide +kernel
theorem dX8_isThere_25 : decode cX8_isThere 25 = .ok (.iconst 1, 1) := by decide +kernel
theorem dX8_isThere_26 : decode cX8_isThere 26 = .ok (.goto 4, 3) := by decide +kernel
theorem dX8_isThere_29 : decode cX8_isThere 29 = .ok (.iconst 0, 1) := by decide +kernel
theorem dX8_isThere_30 : decode cX8_isThere 30 = .ok (.ireturn, 1) := by decide +kernel
theorem dX8_copies_0 : decode cX8_copies 0 = .ok (.iconst 0, 1) := by decide +kernel
theorem dX8_copies_1 : decode cX8_copies 1 = .ok (.istore_n 2, 1) := by decide +kernel
theorem dX8_copies_2 : decode cX8_copies 2 = .ok (.iload_n 2, 1) := by decide +kernel
theorem dX8_copies_3 : decode cX8_copies 3 = .ok (.sipush 520, 3) := by decide +kernel
theorem dX8_copies_6 : decode cX8_copies 6 = .ok (.if_icmp .ge 15, 3) := by decide +kernel
theorem dX8_copies_9 : decode cX8_copies 9 = .ok (.aload_n 1, 1) := by decide +kernel
theorem dX8_copies_10 : decode cX8_copies 10 = .ok (.iload_n 2, 1) := by decide +kernel
theorem dX8_copies_11 : decode cX8_copies 11 = .ok (.aload_n 0, 1) := by decide +kernel
theorem dX8_copies_12 : decode cX8_copies 12 = .ok (.iload_n 2, 1) := by decide +kernel
theorem dX8_copies_13 : decode cX8_copies 13 = .ok (.iaload, 1) := by decide +kernel
theorem dX8_copies_14 : decode cX8_copies 14 = .ok (.iastore, 1) := by decide +kernel
theorem dX8_copies_15 : decode cX8_copies 15 = .ok (.iinc 2 1, 3) := by decide +kernel
theorem dX8_copies_18 : decode cX8_copies 18 = .ok (.goto (-16), 3) := by decide +kernel
theorem dX8_copies_21 : decode cX8_copies 21 = .ok (.return_, 1) := by decide +kernel
theorem dX8_restores_0 : decode cX8_restores 0 = .ok (.iconst 0, 1) := by decide +kernel
theorem dX8_restores_1 : decode cX8_restores 1 = .ok (.istore_n 1, 1) := by decide +kernel
theorem dX8_restores_2 : decode cX8_restores 2 = .ok (.iload_n 1, 1) := by decide +kernel
theorem dX8_restores_3 : decode cX8_restores 3 = .ok (.bipush 10, 2) := by decide +kernel
theorem dX8_restores_5 : decode cX8_restores 5 = .ok (.if_icmp .ge 17, 3) := by decide +kernel
theorem dX8_restores_8 : decode cX8_restores 8 = .ok (.aload_n 0, 1) := by decide +kernel
theorem dX8_restores_9 : decode cX8_restores 9 = .ok (.getfield 34, 3) := by decide +kernel
theorem dX8_restores_12 : decode cX8_restores 12 = .ok (.iload_n 1, 1) := by decide +kernel
theorem dX8_restores_13 : decode cX8_restores 13 = .ok (.bipush (-9), 2) := by decide +kernel
theorem dX8_restores_15 : decode cX8_restores 15 = .ok (.iastore, 1) := by decide +kernel
theorem dX8_restores_16 : decode cX8_restores 16 = .ok (.iinc 1 1, 3) := by decide +kernel
theorem dX8_restores_19 : decode cX8_restores 19 = .ok (.goto (-17), 3) := by decide +kernel
theorem dX8_restores_22 : decode cX8_restores 22 = .ok (.iconst 0, 1) := by decide +kernel
theorem dX8_restores_23 : decode cX8_restores 23 = .ok (.istore_n 1, 1) := by decide +kernel
theorem dX8_restores_24 : decode cX8_restores 24 = .ok (.iload_n 1, 1) := by decide +kernel
theorem dX8_restores_25 : decode cX8_restores 25 = .ok (.aload_n 0, 1) := by decide +kernel
theorem dX8_restores_26 : decode cX8_restores 26 = .ok (.getfield 9, 3) := by decide +kernel
theorem dX8_restores_29 : decode cX8_restores 29 = .ok (.sipush 500, 3) := by decide +kernel
theorem dX8_restores_32 : decode cX8_restores 32 = .ok (.iaload, 1) := by decide +kernel
theorem dX8_restores_33 : decode cX8_restores 33 = .ok (.if_icmp .ge 22, 3) := by decide +kernel
theorem dX8_restores_36 : decode cX8_restores 36 = .ok (.aload_n 0, 1) := by decide +kernel
theorem dX8_restores_37 : decode cX8_restores 37 = .ok (.iload_n 1, 1) := by decide +kernel
theorem dX8_restores_38 : decode cX8_restores 38 = .ok (.invokevirtual 59, 3) := by decide +kernel
theorem dX8_restores_41 : decode cX8_restores 41 = .ok (.ifCond .eq 8, 3) := by decide +kernel
theorem dX8_restores_44 : decode cX8_restores 44 = .ok (.aload_n 0, 1) := by decide +kernel
theorem dX8_restores_45 : decode cX8_restores 45 = .ok (.iload_n 1, 1) := by decide +kernel
theorem dX8_restores_46 : decode cX8_restores 46 = .ok (.invokevirtual 63, 3) := by decide +kernel
theorem dX8_restores_49 : decode cX8_restores 49 = .ok (.iinc 1 1, 3) := by decide +kernel
theorem dX8_restores_52 : decode cX8_restores 52 = .ok (.goto (-28), 3) := by decide +kernel
theorem dX8_restores_55 : decode cX8_restores 55 = .ok (.return_, 1) := by decide +kernel
theorem dX8_restores__0 : decode cX8_restores_ 0 = .ok (.aload_n 0, 1) := by decide +kernel
theorem dX8_restores__1 : decode cX8_restores_ 1 = .ok (.getfield 34, 3) := by decide +kernel
theorem dX8_restores__4 : decode cX8_restores_ 4 = .ok (.iload_n 1, 1) := by decide +kernel
theorem dX8_restores__5 : decode cX8_restores_ 5 = .ok (.iaload, 1) := by decide +kernel
theorem dX8_restores__6 : decode cX8_restores_ 6 = .ok (.bipush (-9), 2) := by decide +kernel
theorem dX8_restores__8 : decode cX8_restores_ 8 = .ok (.if_icmp .eq 4, 3) := by decide +kernel
theorem dX8_restores__11 : decode cX8_restores_ 11 = .ok (.return_, 1) := by decide +kernel
theorem dX8_restores__12 : decode cX8_restores_ 12 = .ok (.bipush 50, 2) := by decide +kernel
theorem dX8_restores__14 : decode cX8_restores_ 14 = .ok (.iload_n 1, 1) := by decide +kernel
theorem dX8_restores__15 : decode cX8_restores_ 15 = .ok (.imul, 1) := by decide +kernel
theorem dX8_restores__16 : decode cX8_restores_ 16 = .ok (.istore_n 2, 1) := by decide +kernel
theorem dX8_restores__17 : decode cX8_restores_ 17 = .ok (.aload_n 0, 1) := by decide +kernel
theorem dX8_restores__18 : decode cX8_restores_ 18 = .ok (.getfield 9, 3) := by decide +kernel
theorem dX8_restores__21 : decode cX8_restores_ 21 = .ok (.iload_n 2, 1) := by decide +kernel
theorem dX8_restores__22 : decode cX8_restores_ 22 = .ok (.iconst 4, 1) := by decide +kernel
theorem dX8_restores__23 : decode cX8_restores_ 23 = .ok (.iadd, 1) := by decide +kernel
theorem dX8_restores__24 : decode cX8_restores_ 24 = .ok (.iaload, 1) := by decide +kernel
theorem dX8_restores__25 : decode cX8_restores_ 25 = .ok (.istore_n 3, 1) := by decide +kernel
theorem dX8_restores__26 : decode cX8_restores_ 26 = .ok (.iconst 0, 1) := by decide +kernel
theorem dX8_restores__27 : decode cX8_restores_ 27 = .ok (.istore 4, 2) := by decide +kernel
theorem dX8_restores__29 : decode cX8_restores_ 29 = .ok (.iload_n 3, 1) := by decide +kernel
theorem dX8_restores__30 : decode cX8_restores_ 30 = .ok (.bipush (-9), 2) := by decide +kernel
theorem dX8_restores__32 : decode cX8_restores_ 32 = .ok (.if_icmp .ne 56, 3) := by decide +kernel
theorem dX8_restores__35 : decode cX8_restores_ 35 = .ok (.aload_n 0, 1) := by decide +kernel
theorem dX8_restores__36 : decode cX8_restores_ 36 = .ok (.getfield 9, 3) := by decide +kernel
theorem dX8_restores__39 : decode cX8_restores_ 39 = .ok (.iload_n 2, 1) := by decide +kernel
theorem dX8_restores__40 : decode cX8_restores_ 40 = .ok (.iconst 5, 1) := by decide +kernel
theorem dX8_restores__41 : decode cX8_restores_ 41 = .ok (.iadd, 1) := by decide +kernel
theorem dX8_restores__42 : decode cX8_restores_ 42 = .ok (.iaload, 1) := by decide +kernel
theorem dX8_restores__43 : decode cX8_restores_ 43 = .ok (.istore 4, 2) := by decide +kernel
theorem dX8_restores__45 : decode cX8_restores_ 45 = .ok (.iconst 0, 1) := by decide +kernel
theorem dX8_restores__46 : decode cX8_restores_ 46 = .ok (.istore 5, 2) := by decide +kernel
theorem dX8_restores__48 : decode cX8_restores_ 48 = .ok (.iload 5, 2) := by decide +kernel
theorem dX8_restores__50 : decode cX8_restores_ 50 = .ok (.iload 4, 2) := by decide +kernel
theorem dX8_restores__52 : decode cX8_restores_ 52 = .ok (.if_icmp .ge 33, 3) := by decide +kernel
theorem dX8_restores__55 : decode cX8_restores_ 55 = .ok (.aload_n 0, 1) := by decide +kernel
theorem dX8_restores__56 : decode cX8_restores_ 56 = .ok (.getfield 31, 3) := by decide +kernel
theorem dX8_restores__59 : decode cX8_restores_ 59 = .ok (.bipush 12, 2) := by decide +kernel
theorem dX8_restores__61 : decode cX8_restores_ 61 = .ok (.iload_n 1, 1) := by decide +kernel
theorem dX8_restores__62 : decode cX8_restores_ 62 = .ok (.imul, 1) := by decide +kernel
theorem dX8_restores__63 : decode cX8_restores_ 63 = .ok (.iload 5, 2) := by decide +kernel
theorem dX8_restores__65 : decode cX8_restores_ 65 = .ok (.iadd, 1) := by decide +kernel
theorem dX8_restores__66 : decode cX8_restores_ 66 = .ok (.aload_n 0, 1) := by decide +kernel
theorem dX8_restores__67 : decode cX8_restores_ 67 = .ok (.getfield 9, 3) := by decide +kernel
theorem dX8_restores__70 : decode cX8_restores_ 70 = .ok (.iload_n 2, 1) := by decide +kernel
theorem dX8_restores__71 : decode cX8_restores_ 71 = .ok (.bipush 6, 2) := by decide +kernel
theorem dX8_restores__73 : decode cX8_restores_ 73 = .ok (.iadd, 1) := by decide +kernel
theorem dX8_restores__74 : decode cX8_restores_ 74 = .ok (.iload 5, 2) := by decide +kernel
theorem dX8_restores__76 : decode cX8_restores_ 76 = .ok (.iadd, 1) := by decide +kernel
theorem dX8_restores__77 : decode cX8_restores_ 77 = .ok (.iaload, 1) := by decide +kernel
theorem dX8_restores__78 : decode cX8_restores_ 78 = .ok (.iastore, 1) := by decide +kernel
theorem dX8_restores__79 : decode cX8_restores_ 79 = .ok (.iinc 5 1, 3) := by decide +kernel
theorem dX8_restores__82 : decode cX8_restores_ 82 = .ok (.goto (-34), 3) := by decide +kernel
theorem dX8_restores__85 : decode cX8_restores_ 85 = .ok (.goto 125, 3) := by decide +kernel
theorem dX8_restores__88 : decode cX8_restores_ 88 = .ok (.aload_n 0, 1) := by decide +kernel
theorem dX8_restores__89 : decode cX8_restores_ 89 = .ok (.iload_n 3, 1) := by decide +kernel
theorem dX8_restores__90 : decode cX8_restores_ 90 = .ok (.invokevirtual 63, 3) := by decide +kernel
theorem dX8_restores__93 : decode cX8_restores_ 93 = .ok (.iconst 0, 1) := by decide +kernel
theorem dX8_restores__94 : decode cX8_restores_ 94 = .ok (.istore 5, 2) := by decide +kernel
theorem dX8_restores__96 : decode cX8_restores_ 96 = .ok (.iload 5, 2) := by decide +kernel
theorem dX8_restores__98 : decode cX8_restores_ 98 = .ok (.aload_n 0, 1) := by decide +kernel
theorem dX8_restores__99 : decode cX8_restores_ 99 = .ok (.getfield 9, 3) := by decide +kernel
theorem dX8_restores__102 : decode cX8_restores_ 102 = .ok (.iload_n 2, 1) := by decide +kernel
theorem dX8_restores__103 : decode cX8_restores_ 103 = .ok (.bipush 18, 2) := by decide +kernel
theorem dX8_restores__105 : decode cX8_restores_ 105 = .ok (.iadd, 1) := by decide +kernel
theorem dX8_restores__106 : decode cX8_restores_ 106 = .ok (.iaload, 1) := by decide +kernel
theorem dX8_restores__107 : decode cX8_restores_ 107 = .ok (.if_icmp .ge 103, 3) := by decide +kernel
theorem dX8_restores__110 : decode cX8_restores_ 110 = .ok (.aload_n 0, 1) := by decide +kernel
theorem dX8_restores__111 : decode cX8_restores_ 111 = .ok (.getfield 9, 3) := by decide +kernel
theorem dX8_restores__114 : decode cX8_restores_ 114 = .ok (.iload_n 2, 1) := by decide +kernel
theorem dX8_restores__115 : decode cX8_restores_ 115 = .ok (.bipush 20, 2) := by decide +kernel
theorem dX8_restores__117 : decode cX8_restores_ 117 = .ok (.iadd, 1) := by decide +kernel
theorem dX8_restores__118 : decode cX8_restores_ 118 = .ok (.iconst 2, 1) := by decide +kernel
theorem dX8_restores__119 : decode cX8_restores_ 119 = .ok (.iload 5, 2) := by decide +kernel
theorem dX8_restores__121 : decode cX8_restores_ 121 = .ok (.imul, 1) := by decide +kernel
theorem dX8_restores__122 : decode cX8_restores_ 122 = .ok (.iadd, 1) := by decide +kernel
theorem dX8_restores__123 : decode cX8_restores_ 123 = .ok (.iaload, 1) := by decide +kernel
theorem dX8_restores__124 : decode cX8_restores_ 124 = .ok (.istore 6, 2) := by decide +kernel
theorem dX8_restores__126 : decode cX8_restores_ 126 = .ok (.aload_n 0, 1) := by decide +kernel
theorem dX8_restores__127 : decode cX8_restores_ 127 = .ok (.getfield 9, 3) := by decide +kernel
theorem dX8_restores__130 : decode cX8_restores_ 130 = .ok (.iload_n 2, 1) := by decide +kernel
theorem dX8_restores__131 : decode cX8_restores_ 131 = .ok (.bipush 20, 2) := by decide +kernel
theorem dX8_restores__133 : decode cX8_restores_ 133 = .ok (.iadd, 1) := by decide +kernel
theorem dX8_restores__134 : decode cX8_restores_ 134 = .ok (.iconst 2, 1) := by decide +kernel
theorem dX8_restores__135 : decode cX8_restores_ 135 = .ok (.iload 5, 2) := by decide +kernel
theorem dX8_restores__137 : decode cX8_restores_ 137 = .ok (.imul, 1) := by decide +kernel
theorem dX8_restores__138 : decode cX8_restores_ 138 = .ok (.iadd, 1) := by decide +kernel
theorem dX8_restores__139 : decode cX8_restores_ 139 = .ok (.iconst 1, 1) := by decide +kernel
theorem dX8_restores__140 : decode cX8_restores_ 140 = .ok (.iadd, 1) := by decide +kernel
theorem dX8_restores__141 : decode cX8_restores_ 141 = .ok (.iaload, 1) := by decide +kernel
theorem dX8_restores__142 : decode cX8_restores_ 142 = .ok (.istore 7, 2) := by decide +kernel
theorem dX8_restores__144 : decode cX8_restores_ 144 = .ok (.iconst 0, 1) := by decide +kernel
theorem dX8_restores__145 : decode cX8_restores_ 145 = .ok (.istore 8, 2) := by decide +kernel
theorem dX8_restores__147 : decode cX8_restores_ 147 = .ok (.iload 8, 2) := by decide +kernel
theorem dX8_restores__149 : decode cX8_restores_ 149 = .ok (.iconst 1, 1) := by decide +kernel
theorem dX8_restores__150 : decode cX8_restores_ 150 = .ok (.iload 6, 2) := by decide +kernel
theorem dX8_restores__152 : decode cX8_restores_ 152 = .ok (.invokestatic 67, 3) := by decide +kernel
theorem dX8_restores__155 : decode cX8_restores_ 155 = .ok (.if_icmp .ge 49, 3) := by decide +kernel
theorem dX8_restores__158 : decode cX8_restores_ 158 = .ok (.aload_n 0, 1) := by decide +kernel
theorem dX8_restores__159 : decode cX8_restores_ 159 = .ok (.getfield 31, 3) := by decide +kernel
theorem dX8_restores__162 : decode cX8_restores_ 162 = .ok (.bipush 12, 2) := by decide +kernel
theorem dX8_restores__164 : decode cX8_restores_ 164 = .ok (.iload_n 1, 1) := by decide +kernel
theorem dX8_restores__165 : decode cX8_restores_ 165 = .ok (.imul, 1) := by decide +kernel
theorem dX8_restores__166 : decode cX8_restores_ 166 = .ok (.iload 4, 2) := by decide +kernel
theorem dX8_restores__168 : decode cX8_restores_ 168 = .ok (.iadd, 1) := by decide +kernel
theorem dX8_restores__169 : decode cX8_restores_ 169 = .ok (.iload 6, 2) := by decide +kernel
theorem dX8_restores__171 : decode cX8_restores_ 171 = .ok (.ifCond .ne 8, 3) := by decide +kernel
theorem dX8_restores__174 : decode cX8_restores_ 174 = .ok (.iload 7, 2) := by decide +kernel
theorem dX8_restores__176 : decode cX8_restores_ 176 = .ok (.goto 18, 3) := by decide +kernel
theorem dX8_restores__179 : decode cX8_restores_ 179 = .ok (.aload_n 0, 1) := by decide +kernel
theorem dX8_restores__180 : decode cX8_restores_ 180 = .ok (.getfield 31, 3) := by decide +kernel
theorem dX8_restores__183 : decode cX8_restores_ 183 = .ok (.bipush 12, 2) := by decide +kernel
theorem dX8_restores__185 : decode cX8_restores_ 185 = .ok (.iload_n 3, 1) := by decide +kernel
theorem dX8_restores__186 : decode cX8_restores_ 186 = .ok (.imul, 1) := by decide +kernel
theorem dX8_restores__187 : decode cX8_restores_ 187 = .ok (.iload 7, 2) := by decide +kernel
theorem dX8_restores__189 : decode cX8_restores_ 189 = .ok (.iadd, 1) := by decide +kernel
theorem dX8_restores__190 : decode cX8_restores_ 190 = .ok (.iload 8, 2) := by decide +kernel
theorem dX8_restores__192 : decode cX8_restores_ 192 = .ok (.iadd, 1) := by decide +kernel
theorem dX8_restores__193 : decode cX8_restores_ 193 = .ok (.iaload, 1) := by decide +kernel
theorem dX8_restores__194 : decode cX8_restores_ 194 = .ok (.iastore, 1) := by decide +kernel
theorem dX8_restores__195 : decode cX8_restores_ 195 = .ok (.iinc 4 1, 3) := by decide +kernel
theorem dX8_restores__198 : decode cX8_restores_ 198 = .ok (.iinc 8 1, 3) := by decide +kernel
theorem dX8_restores__201 : decode cX8_restores_ 201 = .ok (.goto (-54), 3) := by decide +kernel
theorem dX8_restores__204 : decode cX8_restores_ 204 = .ok (.iinc 5 1, 3) := by decide +kernel
theorem dX8_restores__207 : decode cX8_restores_ 207 = .ok (.goto (-111), 3) := by decide +kernel
theorem dX8_restores__210 : decode cX8_restores_ 210 = .ok (.aload_n 0, 1) := by decide +kernel
theorem dX8_restores__211 : decode cX8_restores_ 211 = .ok (.getfield 34, 3) := by decide +kernel
theorem dX8_restores__214 : decode cX8_restores_ 214 = .ok (.iload_n 1, 1) := by decide +kernel
theorem dX8_restores__215 : decode cX8_restores_ 215 = .ok (.iload 4, 2) := by decide +kernel
theorem dX8_restores__217 : decode cX8_restores_ 217 = .ok (.iastore, 1) := by decide +kernel
theorem dX8_restores__218 : decode cX8_restores_ 218 = .ok (.return_, 1) := by decide +kernel
theorem dX8_hash_0 : decode cX8_hash 0 = .ok (.bipush 7, 2) := by decide +kernel
theorem dX8_hash_2 : decode cX8_hash 2 = .ok (.istore_n 2, 1) := by decide +kernel
theorem dX8_hash_3 : decode cX8_hash 3 = .ok (.iconst 0, 1) := by decide +kernel
theorem dX8_hash_4 : decode cX8_hash 4 = .ok (.istore_n 3, 1) := by decide +kernel
theorem dX8_hash_5 : decode cX8_hash 5 = .ok (.iload_n 3, 1) := by decide +kernel
theorem dX8_hash_6 : decode cX8_hash 6 = .ok (.aload_n 0, 1) := by decide +kernel
theorem dX8_hash_7 : decode cX8_hash 7 = .ok (.getfield 34, 3) := by decide +kernel
theorem dX8_hash_10 : decode cX8_hash 10 = .ok (.iload_n 1, 1) := by decide +kernel
theorem dX8_hash_11 : decode cX8_hash 11 = .ok (.iaload, 1) := by decide +kernel
theorem dX8_hash_12 : decode cX8_hash 12 = .ok (.if_icmp .ge 30, 3) := by decide +kernel
theorem dX8_hash_15 : decode cX8_hash 15 = .ok (.bipush 31, 2) := by decide +kernel
theorem dX8_hash_17 : decode cX8_hash 17 = .ok (.iload_n 2, 1) := by decide +kernel
theorem dX8_hash_18 : decode cX8_hash 18 = .ok (.imul, 1) := by decide +kernel
theorem dX8_hash_19 : decode cX8_hash 19 = .ok (.aload_n 0, 1) := by decide +kernel
theorem dX8_hash_20 : decode cX8_hash 20 = .ok (.getfield 31, 3) := by decide +kernel
theorem dX8_hash_23 : decode cX8_hash 23 = .ok (.bipush 12, 2) := by decide +kernel
theorem dX8_hash_25 : decode cX8_hash 25 = .ok (.iload_n 1, 1) := by decide +kernel
theorem dX8_hash_26 : decode cX8_hash 26 = .ok (.imul, 1) := by decide +kernel
theorem dX8_hash_27 : decode cX8_hash 27 = .ok (.iload_n 3, 1) := by decide +kernel
theorem dX8_hash_28 : decode cX8_hash 28 = .ok (.iadd, 1) := by decide +kernel
theorem dX8_hash_29 : decode cX8_hash 29 = .ok (.iaload, 1) := by decide +kernel
theorem dX8_hash_30 : decode cX8_hash 30 = .ok (.iadd, 1) := by decide +kernel
theorem dX8_hash_31 : decode cX8_hash 31 = .ok (.sipush 9973, 3) := by decide +kernel
theorem dX8_hash_34 : decode cX8_hash 34 = .ok (.irem, 1) := by decide +kernel
theorem dX8_hash_35 : decode cX8_hash 35 = .ok (.istore_n 2, 1) := by decide +kernel
theorem dX8_hash_36 : decode cX8_hash 36 = .ok (.iinc 3 1, 3) := by decide +kernel
theorem dX8_hash_39 : decode cX8_hash 39 = .ok (.goto (-34), 3) := by decide +kernel
theorem dX8_hash_42 : decode cX8_hash 42 = .ok (.iload_n 2, 1) := by decide +kernel
theorem dX8_hash_43 : decode cX8_hash 43 = .ok (.ireturn, 1) := by decide +kernel
theorem dX8_alike_0 : decode cX8_alike 0 = .ok (.iconst 0, 1) := by decide +kernel
theorem dX8_alike_1 : decode cX8_alike 1 = .ok (.istore 5, 2) := by decide +kernel
theorem dX8_alike_3 : decode cX8_alike 3 = .ok (.iload_n 2, 1) := by decide +kernel
theorem dX8_alike_4 : decode cX8_alike 4 = .ok (.iload 5, 2) := by decide +kernel
theorem dX8_alike_6 : decode cX8_alike 6 = .ok (.iadd, 1) := by decide +kernel
theorem dX8_alike_7 : decode cX8_alike 7 = .ok (.aload_n 0, 1) := by decide +kernel
theorem dX8_alike_8 : decode cX8_alike 8 = .ok (.getfield 34, 3) := by decide +kernel
theorem dX8_alike_11 : decode cX8_alike 11 = .ok (.iload_n 1, 1) := by decide +kernel
theorem dX8_alike_12 : decode cX8_alike 12 = .ok (.iaload, 1) := by decide +kernel
theorem dX8_alike_13 : decode cX8_alike 13 = .ok (.if_icmp .ge 55, 3) := by decide +kernel
theorem dX8_alike_16 : decode cX8_alike 16 = .ok (.iload 4, 2) := by decide +kernel
theorem dX8_alike_18 : decode cX8_alike 18 = .ok (.iload 5, 2) := by decide +kernel
theorem dX8_alike_20 : decode cX8_alike 20 = .ok (.iadd, 1) := by decide +kernel
theorem dX8_alike_21 : decode cX8_alike 21 = .ok (.aload_n 0, 1) := by decide +kernel
theorem dX8_alike_22 : decode cX8_alike 22 = .ok (.getfield 34, 3) := by decide +kernel
theorem dX8_alike_25 : decode cX8_alike 25 = .ok (.iload_n 3, 1) := by decide +kernel
theorem dX8_alike_26 : decode cX8_alike 26 = .ok (.iaload, 1) := by decide +kernel
theorem dX8_alike_27 : decode cX8_alike 27 = .ok (.if_icmp .ge 41, 3) := by decide +kernel
theorem dX8_alike_30 : decode cX8_alike 30 = .ok (.aload_n 0, 1) := by decide +kernel
theorem dX8_alike_31 : decode cX8_alike 31 = .ok (.getfield 31, 3) := by decide +kernel
theorem dX8_alike_34 : decode cX8_alike 34 = .ok (.bipush 12, 2) := by decide +kernel
theorem dX8_alike_36 : decode cX8_alike 36 = .ok (.iload_n 1, 1) := by decide +kernel
theorem dX8_alike_37 : decode cX8_alike 37 = .ok (.imul, 1) := by decide +kernel
theorem dX8_alike_38 : decode cX8_alike 38 = .ok (.iload_n 2, 1) := by decide +kernel
theorem dX8_alike_39 : decode cX8_alike 39 = .ok (.iadd, 1) := by decide +kernel
theorem dX8_alike_40 : decode cX8_alike 40 = .ok (.iload 5, 2) := by decide +kernel
theorem dX8_alike_42 : decode cX8_alike 42 = .ok (.iadd, 1) := by decide +kernel
theorem dX8_alike_43 : decode cX8_alike 43 = .ok (.iaload, 1) := by decide +kernel
theorem dX8_alike_44 : decode cX8_alike 44 = .ok (.aload_n 0, 1) := by decide +kernel
theorem dX8_alike_45 : decode cX8_alike 45 = .ok (.getfield 31, 3) := by decide +kernel
theorem dX8_alike_48 : decode cX8_alike 48 = .ok (.bipush 12, 2) := by decide +kernel
theorem dX8_alike_50 : decode cX8_alike 50 = .ok (.iload_n 3, 1) := by decide +kernel
theorem dX8_alike_51 : decode cX8_alike 51 = .ok (.imul, 1) := by decide +kernel
theorem dX8_alike_52 : decode cX8_alike 52 = .ok (.iload 4, 2) := by decide +kernel
theorem dX8_alike_54 : decode cX8_alike 54 = .ok (.iadd, 1) := by decide +kernel
theorem dX8_alike_55 : decode cX8_alike 55 = .ok (.iload 5, 2) := by decide +kernel
theorem dX8_alike_57 : decode cX8_alike 57 = .ok (.iadd, 1) := by decide +kernel
theorem dX8_alike_58 : decode cX8_alike 58 = .ok (.iaload, 1) := by decide +kernel
theorem dX8_alike_59 : decode cX8_alike 59 = .ok (.if_icmp .ne 9, 3) := by decide +kernel
theorem dX8_alike_62 : decode cX8_alike 62 = .ok (.iinc 5 1, 3) := by decide +kernel
theorem dX8_alike_65 : decode cX8_alike 65 = .ok (.goto (-62), 3) := by decide +kernel
theorem dX8_alike_68 : decode cX8_alike 68 = .ok (.iload 5, 2) := by decide +kernel
theorem dX8_alike_70 : decode cX8_alike 70 = .ok (.ireturn, 1) := by decide +kernel
theorem dX8_delta_0 : decode cX8_delta 0 = .ok (.aload_n 0, 1) := by decide +kernel
theorem dX8_delta_1 : decode cX8_delta 1 = .ok (.iconst 0, 1) := by decide +kernel
theorem dX8_delta_2 : decode cX8_delta 2 = .ok (.putfield 73, 3) := by decide +kernel
theorem dX8_delta_5 : decode cX8_delta 5 = .ok (.aload_n 0, 1) := by decide +kernel
theorem dX8_delta_6 : decode cX8_delta 6 = .ok (.iconst 0, 1) := by decide +kernel
theorem dX8_delta_7 : decode cX8_delta 7 = .ok (.putfield 77, 3) := by decide +kernel
theorem dX8_delta_10 : decode cX8_delta 10 = .ok (.iconst 0, 1) := by decide +kernel
theorem dX8_delta_11 : decode cX8_delta 11 = .ok (.istore_n 3, 1) := by decide +kernel
theorem dX8_delta_12 : decode cX8_delta 12 = .ok (.iload_n 3, 1) := by decide +kernel
theorem dX8_delta_13 : decode cX8_delta 13 = .ok (.aload_n 0, 1) := by decide +kernel
theorem dX8_delta_14 : decode cX8_delta 14 = .ok (.getfield 34, 3) := by decide +kernel
theorem dX8_delta_17 : decode cX8_delta 17 = .ok (.iload_n 2, 1) := by decide +kernel
theorem dX8_delta_18 : decode cX8_delta 18 = .ok (.iaload, 1) := by decide +kernel
theorem dX8_delta_19 : decode cX8_delta 19 = .ok (.if_icmp .ge 170, 3) := by decide +kernel
theorem dX8_delta_22 : decode cX8_delta 22 = .ok (.iconst 0, 1) := by decide +kernel
theorem dX8_delta_23 : decode cX8_delta 23 = .ok (.istore 4, 2) := by decide +kernel
theorem dX8_delta_25 : decode cX8_delta 25 = .ok (.iconst 0, 1) := by decide +kernel
theorem dX8_delta_26 : decode cX8_delta 26 = .ok (.istore 5, 2) := by decide +kernel
theorem dX8_delta_28 : decode cX8_delta 28 = .ok (.iconst 0, 1) := by decide +kernel
theorem dX8_delta_29 : decode cX8_delta 29 = .ok (.istore 6, 2) := by decide +kernel
theorem dX8_delta_31 : decode cX8_delta 31 = .ok (.iload 6, 2) := by decide +kernel
theorem dX8_delta_33 : decode cX8_delta 33 = .ok (.aload_n 0, 1) := by decide +kernel
theorem dX8_delta_34 : decode cX8_delta 34 = .ok (.getfield 34, 3) := by decide +kernel
theorem dX8_delta_37 : decode cX8_delta 37 = .ok (.iload_n 1, 1) := by decide +kernel
theorem dX8_delta_38 : decode cX8_delta 38 = .ok (.iaload, 1) := by decide +kernel
theorem dX8_delta_39 : decode cX8_delta 39 = .ok (.if_icmp .ge 35, 3) := by decide +kernel
theorem dX8_delta_42 : decode cX8_delta 42 = .ok (.aload_n 0, 1) := by decide +kernel
theorem dX8_delta_43 : decode cX8_delta 43 = .ok (.iload_n 1, 1) := by decide +kernel
theorem dX8_delta_44 : decode cX8_delta 44 = .ok (.iload 6, 2) := by decide +kernel
theorem dX8_delta_46 : decode cX8_delta 46 = .ok (.iload_n 2, 1) := by decide +kernel
theorem dX8_delta_47 : decode cX8_delta 47 = .ok (.iload_n 3, 1) := by decide +kernel
theorem dX8_delta_48 : decode cX8_delta 48 = .ok (.invokevirtual 80, 3) := by decide +kernel
theorem dX8_delta_51 : decode cX8_delta 51 = .ok (.istore 7, 2) := by decide +kernel
theorem dX8_delta_53 : decode cX8_delta 53 = .ok (.iload 7, 2) := by decide +kernel
theorem dX8_delta_55 : decode cX8_delta 55 = .ok (.iload 4, 2) := by decide +kernel
theorem dX8_delta_57 : decode cX8_delta 57 = .ok (.if_icmp .le 11, 3) := by decide +kernel
theorem dX8_delta_60 : decode cX8_delta 60 = .ok (.iload 7, 2) := by decide +kernel
theorem dX8_delta_62 : decode cX8_delta 62 = .ok (.istore 4, 2) := by decide +kernel
theorem dX8_delta_64 : decode cX8_delta 64 = .ok (.iload 6, 2) := by decide +kernel
theorem dX8_delta_66 : decode cX8_delta 66 = .ok (.istore 5, 2) := by decide +kernel
theorem dX8_delta_68 : decode cX8_delta 68 = .ok (.iinc 6 1, 3) := by decide +kernel
theorem dX8_delta_71 : decode cX8_delta 71 = .ok (.goto (-40), 3) := by decide +kernel
theorem dX8_delta_74 : decode cX8_delta 74 = .ok (.iload 4, 2) := by decide +kernel
theorem dX8_delta_76 : decode cX8_delta 76 = .ok (.iconst 2, 1) := by decide +kernel
theorem dX8_delta_77 : decode cX8_delta 77 = .ok (.if_icmp .lt 7, 3) := by decide +kernel
theorem dX8_delta_80 : decode cX8_delta 80 = .ok (.iconst 1, 1) := by decide +kernel
theorem dX8_delta_81 : decode cX8_delta 81 = .ok (.goto 4, 3) := by decide +kernel
theorem dX8_delta_84 : decode cX8_delta 84 = .ok (.iconst 0, 1) := by decide +kernel
theorem dX8_delta_85 : decode cX8_delta 85 = .ok (.istore 6, 2) := by decide +kernel
theorem dX8_delta_87 : decode cX8_delta 87 = .ok (.aload_n 0, 1) := by decide +kernel
theorem dX8_delta_88 : decode cX8_delta 88 = .ok (.getfield 37, 3) := by decide +kernel
theorem dX8_delta_91 : decode cX8_delta 91 = .ok (.iconst 2, 1) := by decide +kernel
theorem dX8_delta_92 : decode cX8_delta 92 = .ok (.aload_n 0, 1) := by decide +kernel
theorem dX8_delta_93 : decode cX8_delta 93 = .ok (.getfield 73, 3) := by decide +kernel
theorem dX8_delta_96 : decode cX8_delta 96 = .ok (.imul, 1) := by decide +kernel
theorem dX8_delta_97 : decode cX8_delta 97 = .ok (.iload 6, 2) := by decide +kernel
theorem dX8_delta_99 : decode cX8_delta 99 = .ok (.ifCond .eq 8, 3) := by decide +kernel
theorem dX8_delta_102 : decode cX8_delta 102 = .ok (.iload 4, 2) := by decide +kernel
theorem dX8_delta_104 : decode cX8_delta 104 = .ok (.goto 4, 3) := by decide +kernel
theorem dX8_delta_107 : decode cX8_delta 107 = .ok (.iconst 0, 1) := by decide +kernel
theorem dX8_delta_108 : decode cX8_delta 108 = .ok (.iastore, 1) := by decide +kernel
theorem dX8_delta_109 : decode cX8_delta 109 = .ok (.aload_n 0, 1) := by decide +kernel
theorem dX8_delta_110 : decode cX8_delta 110 = .ok (.getfield 37, 3) := by decide +kernel
theorem dX8_delta_113 : decode cX8_delta 113 = .ok (.iconst 2, 1) := by decide +kernel
theorem dX8_delta_114 : decode cX8_delta 114 = .ok (.aload_n 0, 1) := by decide +kernel
theorem dX8_delta_115 : decode cX8_delta 115 = .ok (.getfield 73, 3) := by decide +kernel
theorem dX8_delta_118 : decode cX8_delta 118 = .ok (.imul, 1) := by decide +kernel
theorem dX8_delta_119 : decode cX8_delta 119 = .ok (.iconst 1, 1) := by decide +kernel
theorem dX8_delta_120 : decode cX8_delta 120 = .ok (.iadd, 1) := by decide +kernel
theorem dX8_delta_121 : decode cX8_delta 121 = .ok (.iload 6, 2) := by decide +kernel
theorem dX8_delta_123 : decode cX8_delta 123 = .ok (.ifCond .eq 8, 3) := by decide +kernel
theorem dX8_delta_126 : decode cX8_delta 126 = .ok (.iload 5, 2) := by decide +kernel
theorem dX8_delta_128 : decode cX8_delta 128 = .ok (.goto 14, 3) := by decide +kernel
theorem dX8_delta_131 : decode cX8_delta 131 = .ok (.aload_n 0, 1) := by decide +kernel
theorem dX8_delta_132 : decode cX8_delta 132 = .ok (.getfield 31, 3) := by decide +kernel
theorem dX8_delta_135 : decode cX8_delta 135 = .ok (.bipush 12, 2) := by decide +kernel
theorem dX8_delta_137 : decode cX8_delta 137 = .ok (.iload_n 2, 1) := by decide +kernel
theorem dX8_delta_138 : decode cX8_delta 138 = .ok (.imul, 1) := by decide +kernel
theorem dX8_delta_139 : decode cX8_delta 139 = .ok (.iload_n 3, 1) := by decide +kernel
theorem dX8_delta_140 : decode cX8_delta 140 = .ok (.iadd, 1) := by decide +kernel
theorem dX8_delta_141 : decode cX8_delta 141 = .ok (.iaload, 1) := by decide +kernel
theorem dX8_delta_142 : decode cX8_delta 142 = .ok (.iastore, 1) := by decide +kernel
theorem dX8_delta_143 : decode cX8_delta 143 = .ok (.aload_n 0, 1) := by decide +kernel
theorem dX8_delta_144 : decode cX8_delta 144 = .ok (.dup, 1) := by decide +kernel
theorem dX8_delta_145 : decode cX8_delta 145 = .ok (.getfield 77, 3) := by decide +kernel
theorem dX8_delta_148 : decode cX8_delta 148 = .ok (.iload 6, 2) := by decide +kernel
theorem dX8_delta_150 : decode cX8_delta 150 = .ok (.ifCond .eq 7, 3) := by decide +kernel
theorem dX8_delta_153 : decode cX8_delta 153 = .ok (.iconst 1, 1) := by decide +kernel
theorem dX8_delta_154 : decode cX8_delta 154 = .ok (.goto 4, 3) := by decide +kernel
theorem dX8_delta_157 : decode cX8_delta 157 = .ok (.iconst 0, 1) := by decide +kernel
theorem dX8_delta_158 : decode cX8_delta 158 = .ok (.iadd, 1) := by decide +kernel
theorem dX8_delta_159 : decode cX8_delta 159 = .ok (.putfield 77, 3) := by decide +kernel
theorem dX8_delta_162 : decode cX8_delta 162 = .ok (.aload_n 0, 1) := by decide +kernel
theorem dX8_delta_163 : decode cX8_delta 163 = .ok (.dup, 1) := by decide +kernel
theorem dX8_delta_164 : decode cX8_delta 164 = .ok (.getfield 73, 3) := by decide +kernel
theorem dX8_delta_167 : decode cX8_delta 167 = .ok (.iconst 1, 1) := by decide +kernel
theorem dX8_delta_168 : decode cX8_delta 168 = .ok (.iadd, 1) := by decide +kernel
theorem dX8_delta_169 : decode cX8_delta 169 = .ok (.putfield 73, 3) := by decide +kernel
theorem dX8_delta_172 : decode cX8_delta 172 = .ok (.iload_n 3, 1) := by decide +kernel
theorem dX8_delta_173 : decode cX8_delta 173 = .ok (.iload 6, 2) := by decide +kernel
theorem dX8_delta_175 : decode cX8_delta 175 = .ok (.ifCond .eq 8, 3) := by decide +kernel
theorem dX8_delta_178 : decode cX8_delta 178 = .ok (.iload 4, 2) := by decide +kernel
theorem dX8_delta_180 : decode cX8_delta 180 = .ok (.goto 4, 3) := by decide +kernel
theorem dX8_delta_183 : decode cX8_delta 183 = .ok (.iconst 1, 1) := by decide +kernel
theorem dX8_delta_184 : decode cX8_delta 184 = .ok (.iadd, 1) := by decide +kernel
theorem dX8_delta_185 : decode cX8_delta 185 = .ok (.istore_n 3, 1) := by decide +kernel
theorem dX8_delta_186 : decode cX8_delta 186 = .ok (.goto (-174), 3) := by decide +kernel
theorem dX8_delta_189 : decode cX8_delta 189 = .ok (.iconst 1, 1) := by decide +kernel
theorem dX8_delta_190 : decode cX8_delta 190 = .ok (.aload_n 0, 1) := by decide +kernel
theorem dX8_delta_191 : decode cX8_delta 191 = .ok (.getfield 73, 3) := by decide +kernel
theorem dX8_delta_194 : decode cX8_delta 194 = .ok (.iadd, 1) := by decide +kernel
theorem dX8_delta_195 : decode cX8_delta 195 = .ok (.aload_n 0, 1) := by decide +kernel
theorem dX8_delta_196 : decode cX8_delta 196 = .ok (.getfield 77, 3) := by decide +kernel
theorem dX8_delta_199 : decode cX8_delta 199 = .ok (.iadd, 1) := by decide +kernel
theorem dX8_delta_200 : decode cX8_delta 200 = .ok (.ireturn, 1) := by decide +kernel
theorem dX8_costOf_0 : decode cX8_costOf 0 = .ok (.bipush 50, 2) := by decide +kernel
theorem dX8_costOf_2 : decode cX8_costOf 2 = .ok (.iload_n 1, 1) := by decide +kernel
theorem dX8_costOf_3 : decode cX8_costOf 3 = .ok (.imul, 1) := by decide +kernel
theorem dX8_costOf_4 : decode cX8_costOf 4 = .ok (.istore_n 2, 1) := by decide +kernel
theorem dX8_costOf_5 : decode cX8_costOf 5 = .ok (.iconst 1, 1) := by decide +kernel
theorem dX8_costOf_6 : decode cX8_costOf 6 = .ok (.aload_n 0, 1) := by decide +kernel
theorem dX8_costOf_7 : decode cX8_costOf 7 = .ok (.getfield 34, 3) := by decide +kernel
theorem dX8_costOf_10 : decode cX8_costOf 10 = .ok (.iload_n 1, 1) := by decide +kernel
theorem dX8_costOf_11 : decode cX8_costOf 11 = .ok (.iaload, 1) := by decide +kernel
theorem dX8_costOf_12 : decode cX8_costOf 12 = .ok (.iadd, 1) := by decide +kernel
theorem dX8_costOf_13 : decode cX8_costOf 13 = .ok (.istore_n 3, 1) := by decide +kernel
theorem dX8_costOf_14 : decode cX8_costOf 14 = .ok (.aload_n 0, 1) := by decide +kernel
theorem dX8_costOf_15 : decode cX8_costOf 15 = .ok (.getfield 9, 3) := by decide +kernel
theorem dX8_costOf_18 : decode cX8_costOf 18 = .ok (.iload_n 2, 1) := by decide +kernel
theorem dX8_costOf_19 : decode cX8_costOf 19 = .ok (.iconst 4, 1) := by decide +kernel
theorem dX8_costOf_20 : decode cX8_costOf 20 = .ok (.iadd, 1) := by decide +kernel
theorem dX8_costOf_21 : decode cX8_costOf 21 = .ok (.iaload, 1) := by decide +kernel
theorem dX8_costOf_22 : decode cX8_costOf 22 = .ok (.bipush (-9), 2) := by decide +kernel
theorem dX8_costOf_24 : decode cX8_costOf 24 = .ok (.if_icmp .eq 53, 3) := by decide +kernel
theorem dX8_costOf_27 : decode cX8_costOf 27 = .ok (.iconst 1, 1) := by decide +kernel
theorem dX8_costOf_28 : decode cX8_costOf 28 = .ok (.istore_n 3, 1) := by decide +kernel
theorem dX8_costOf_29 : decode cX8_costOf 29 = .ok (.iconst 0, 1) := by decide +kernel
theorem dX8_costOf_30 : decode cX8_costOf 30 = .ok (.istore 4, 2) := by decide +kernel
theorem dX8_costOf_32 : decode cX8_costOf 32 = .ok (.iload 4, 2) := by decide +kernel
theorem dX8_costOf_34 : decode cX8_costOf 34 = .ok (.aload_n 0, 1) := by decide +kernel
theorem dX8_costOf_35 : decode cX8_costOf 35 = .ok (.getfield 9, 3) := by decide +kernel
theorem dX8_costOf_38 : decode cX8_costOf 38 = .ok (.iload_n 2, 1) := by decide +kernel
theorem dX8_costOf_39 : decode cX8_costOf 39 = .ok (.bipush 18, 2) := by decide +kernel
theorem dX8_costOf_41 : decode cX8_costOf 41 = .ok (.iadd, 1) := by decide +kernel
theorem dX8_costOf_42 : decode cX8_costOf 42 = .ok (.iaload, 1) := by decide +kernel
theorem dX8_costOf_43 : decode cX8_costOf 43 = .ok (.if_icmp .ge 34, 3) := by decide +kernel
theorem dX8_costOf_46 : decode cX8_costOf 46 = .ok (.iload_n 3, 1) := by decide +kernel
theorem dX8_costOf_47 : decode cX8_costOf 47 = .ok (.aload_n 0, 1) := by decide +kernel
theorem dX8_costOf_48 : decode cX8_costOf 48 = .ok (.getfield 9, 3) := by decide +kernel
theorem dX8_costOf_51 : decode cX8_costOf 51 = .ok (.iload_n 2, 1) := by decide +kernel
theorem dX8_costOf_52 : decode cX8_costOf 52 = .ok (.bipush 20, 2) := by decide +kernel
theorem dX8_costOf_54 : decode cX8_costOf 54 = .ok (.iadd, 1) := by decide +kernel
theorem dX8_costOf_55 : decode cX8_costOf 55 = .ok (.iconst 2, 1) := by decide +kernel
theorem dX8_costOf_56 : decode cX8_costOf 56 = .ok (.iload 4, 2) := by decide +kernel
theorem dX8_costOf_58 : decode cX8_costOf 58 = .ok (.imul, 1) := by decide +kernel
theorem dX8_costOf_59 : decode cX8_costOf 59 = .ok (.iadd, 1) := by decide +kernel
theorem dX8_costOf_60 : decode cX8_costOf 60 = .ok (.iaload, 1) := by decide +kernel
theorem dX8_costOf_61 : decode cX8_costOf 61 = .ok (.ifCond .le 7, 3) := by decide +kernel
theorem dX8_costOf_64 : decode cX8_costOf 64 = .ok (.iconst 2, 1) := by decide +kernel
theorem dX8_costOf_65 : decode cX8_costOf 65 = .ok (.goto 4, 3) := by decide +kernel
theorem dX8_costOf_68 : decode cX8_costOf 68 = .ok (.iconst 1, 1) := by decide +kernel
theorem dX8_costOf_69 : decode cX8_costOf 69 = .ok (.iadd, 1) := by decide +kernel
theorem dX8_costOf_70 : decode cX8_costOf 70 = .ok (.istore_n 3, 1) := by decide +kernel
theorem dX8_costOf_71 : decode cX8_costOf 71 = .ok (.iinc 4 1, 3) := by decide +kernel
theorem dX8_costOf_74 : decode cX8_costOf 74 = .ok (.goto (-42), 3) := by decide +kernel
theorem dX8_costOf_77 : decode cX8_costOf 77 = .ok (.iload_n 3, 1) := by decide +kernel
theorem dX8_costOf_78 : decode cX8_costOf 78 = .ok (.ireturn, 1) := by decide +kernel
theorem dX8_cost_0 : decode cX8_cost 0 = .ok (.aload_n 0, 1) := by decide +kernel
theorem dX8_cost_1 : decode cX8_cost 1 = .ok (.invokevirtual 84, 3) := by decide +kernel
theorem dX8_cost_4 : decode cX8_cost 4 = .ok (.iconst 0, 1) := by decide +kernel
theorem dX8_cost_5 : decode cX8_cost 5 = .ok (.istore_n 1, 1) := by decide +kernel
theorem dX8_cost_6 : decode cX8_cost 6 = .ok (.iconst 0, 1) := by decide +kernel
theorem dX8_cost_7 : decode cX8_cost 7 = .ok (.istore_n 2, 1) := by decide +kernel
theorem dX8_cost_8 : decode cX8_cost 8 = .ok (.iload_n 2, 1) := by decide +kernel
theorem dX8_cost_9 : decode cX8_cost 9 = .ok (.bipush 10, 2) := by decide +kernel
theorem dX8_cost_11 : decode cX8_cost 11 = .ok (.if_icmp .ge 29, 3) := by decide +kernel
theorem dX8_cost_14 : decode cX8_cost 14 = .ok (.iload_n 1, 1) := by decide +kernel
theorem dX8_cost_15 : decode cX8_cost 15 = .ok (.aload_n 0, 1) := by decide +kernel
theorem dX8_cost_16 : decode cX8_cost 16 = .ok (.iload_n 2, 1) := by decide +kernel
theorem dX8_cost_17 : decode cX8_cost 17 = .ok (.invokevirtual 59, 3) := by decide +kernel
theorem dX8_cost_20 : decode cX8_cost 20 = .ok (.ifCond .eq 11, 3) := by decide +kernel
theorem dX8_cost_23 : decode cX8_cost 23 = .ok (.aload_n 0, 1) := by decide +kernel
theorem dX8_cost_24 : decode cX8_cost 24 = .ok (.iload_n 2, 1) := by decide +kernel
theorem dX8_cost_25 : decode cX8_cost 25 = .ok (.invokevirtual 86, 3) := by decide +kernel
theorem dX8_cost_28 : decode cX8_cost 28 = .ok (.goto 4, 3) := by decide +kernel
theorem dX8_cost_31 : decode cX8_cost 31 = .ok (.iconst 0, 1) := by decide +kernel
theorem dX8_cost_32 : decode cX8_cost 32 = .ok (.iadd, 1) := by decide +kernel
theorem dX8_cost_33 : decode cX8_cost 33 = .ok (.istore_n 1, 1) := by decide +kernel
theorem dX8_cost_34 : decode cX8_cost 34 = .ok (.iinc 2 1, 3) := by decide +kernel
theorem dX8_cost_37 : decode cX8_cost 37 = .ok (.goto (-29), 3) := by decide +kernel
theorem dX8_cost_40 : decode cX8_cost 40 = .ok (.iload_n 1, 1) := by decide +kernel
theorem dX8_cost_41 : decode cX8_cost 41 = .ok (.ireturn, 1) := by decide +kernel
theorem dX8_depth_0 : decode cX8_depth 0 = .ok (.aload_n 0, 1) := by decide +kernel
theorem dX8_depth_1 : decode cX8_depth 1 = .ok (.getfield 9, 3) := by decide +kernel
theorem dX8_depth_4 : decode cX8_depth 4 = .ok (.bipush 50, 2) := by decide +kernel
theorem dX8_depth_6 : decode cX8_depth 6 = .ok (.iload_n 1, 1) := by decide +kernel
theorem dX8_depth_7 : decode cX8_depth 7 = .ok (.imul, 1) := by decide +kernel
theorem dX8_depth_8 : decode cX8_depth 8 = .ok (.iconst 4, 1) := by decide +kernel
theorem dX8_depth_9 : decode cX8_depth 9 = .ok (.iadd, 1) := by decide +kernel
theorem dX8_depth_10 : decode cX8_depth 10 = .ok (.iaload, 1) := by decide +kernel
theorem dX8_depth_11 : decode cX8_depth 11 = .ok (.bipush (-9), 2) := by decide +kernel
theorem dX8_depth_13 : decode cX8_depth 13 = .ok (.if_icmp .ne 7, 3) := by decide +kernel
theorem dX8_depth_16 : decode cX8_depth 16 = .ok (.iconst 0, 1) := by decide +kernel
theorem dX8_depth_17 : decode cX8_depth 17 = .ok (.goto 20, 3) := by decide +kernel
theorem dX8_depth_20 : decode cX8_depth 20 = .ok (.iconst 1, 1) := by decide +kernel
theorem dX8_depth_21 : decode cX8_depth 21 = .ok (.aload_n 0, 1) := by decide +kernel
theorem dX8_depth_22 : decode cX8_depth 22 = .ok (.aload_n 0, 1) := by decide +kernel
theorem dX8_depth_23 : decode cX8_depth 23 = .ok (.getfield 9, 3) := by decide +kernel
