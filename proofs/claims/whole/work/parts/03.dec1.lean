theorem dX4_costOfAll_30 : decode cX4_costOfAll 30 = .ok (.iadd, 1) := by decide +kernel
theorem dX4_costOfAll_31 : decode cX4_costOfAll 31 = .ok (.istore_n 1, 1) := by decide +kernel
theorem dX4_costOfAll_32 : decode cX4_costOfAll 32 = .ok (.iinc 2 1, 3) := by decide +kernel
theorem dX4_costOfAll_35 : decode cX4_costOfAll 35 = .ok (.goto (-31), 3) := by decide +kernel
theorem dX4_costOfAll_38 : decode cX4_costOfAll 38 = .ok (.iload_n 1, 1) := by decide +kernel
theorem dX4_costOfAll_39 : decode cX4_costOfAll 39 = .ok (.ireturn, 1) := by decide +kernel
theorem dX4_wholes_0 : decode cX4_wholes 0 = .ok (.iconst 0, 1) := by decide +kernel
theorem dX4_wholes_1 : decode cX4_wholes 1 = .ok (.istore_n 1, 1) := by decide +kernel
theorem dX4_wholes_2 : decode cX4_wholes 2 = .ok (.iconst 0, 1) := by decide +kernel
theorem dX4_wholes_3 : decode cX4_wholes 3 = .ok (.istore_n 2, 1) := by decide +kernel
theorem dX4_wholes_4 : decode cX4_wholes 4 = .ok (.iload_n 2, 1) := by decide +kernel
theorem dX4_wholes_5 : decode cX4_wholes 5 = .ok (.aload_n 0, 1) := by decide +kernel
theorem dX4_wholes_6 : decode cX4_wholes 6 = .ok (.getfield 31, 3) := by decide +kernel
theorem dX4_wholes_9 : decode cX4_wholes 9 = .ok (.if_icmp .ge 35, 3) := by decide +kernel
theorem dX4_wholes_12 : decode cX4_wholes 12 = .ok (.aload_n 0, 1) := by decide +kernel
theorem dX4_wholes_13 : decode cX4_wholes 13 = .ok (.iload_n 2, 1) := by decide +kernel
theorem dX4_wholes_14 : decode cX4_wholes 14 = .ok (.invokevirtual 57, 3) := by decide +kernel
theorem dX4_wholes_17 : decode cX4_wholes 17 = .ok (.ifCond .eq 21, 3) := by decide +kernel
theorem dX4_wholes_20 : decode cX4_wholes 20 = .ok (.aload_n 0, 1) := by decide +kernel
theorem dX4_wholes_21 : decode cX4_wholes 21 = .ok (.getfield 11, 3) := by decide +kernel
theorem dX4_wholes_24 : decode cX4_wholes 24 = .ok (.iload_n 2, 1) := by decide +kernel
theorem dX4_wholes_25 : decode cX4_wholes 25 = .ok (.aaload, 1) := by decide +kernel
theorem dX4_wholes_26 : decode cX4_wholes 26 = .ok (.invokevirtual 160, 3) := by decide +kernel
theorem dX4_wholes_29 : decode cX4_wholes 29 = .ok (.ifCond .eq 9, 3) := by decide +kernel
theorem dX4_wholes_32 : decode cX4_wholes 32 = .ok (.iload_n 1, 1) := by decide +kernel
theorem dX4_wholes_33 : decode cX4_wholes 33 = .ok (.iconst 1, 1) := by decide +kernel
theorem dX4_wholes_34 : decode cX4_wholes 34 = .ok (.iload_n 2, 1) := by decide +kernel
theorem dX4_wholes_35 : decode cX4_wholes 35 = .ok (.ishl, 1) := by decide +kernel
theorem dX4_wholes_36 : decode cX4_wholes 36 = .ok (.ior, 1) := by decide +kernel
theorem dX4_wholes_37 : decode cX4_wholes 37 = .ok (.istore_n 1, 1) := by decide +kernel
theorem dX4_wholes_38 : decode cX4_wholes 38 = .ok (.iinc 2 1, 3) := by decide +kernel
theorem dX4_wholes_41 : decode cX4_wholes 41 = .ok (.goto (-37), 3) := by decide +kernel
theorem dX4_wholes_44 : decode cX4_wholes 44 = .ok (.iload_n 1, 1) := by decide +kernel
theorem dX4_wholes_45 : decode cX4_wholes 45 = .ok (.ireturn, 1) := by decide +kernel
theorem dX4_leastTwin_0 : decode cX4_leastTwin 0 = .ok (.iconst 0, 1) := by decide +kernel
theorem dX4_leastTwin_1 : decode cX4_leastTwin 1 = .ok (.istore_n 2, 1) := by decide +kernel
theorem dX4_leastTwin_2 : decode cX4_leastTwin 2 = .ok (.iload_n 2, 1) := by decide +kernel
theorem dX4_leastTwin_3 : decode cX4_leastTwin 3 = .ok (.iload_n 1, 1) := by decide +kernel
theorem dX4_leastTwin_4 : decode cX4_leastTwin 4 = .ok (.if_icmp .ge 43, 3) := by decide +kernel
theorem dX4_leastTwin_7 : decode cX4_leastTwin 7 = .ok (.aload_n 0, 1) := by decide +kernel
theorem dX4_leastTwin_8 : decode cX4_leastTwin 8 = .ok (.iload_n 2, 1) := by decide +kernel
theorem dX4_leastTwin_9 : decode cX4_leastTwin 9 = .ok (.invokevirtual 57, 3) := by decide +kernel
theorem dX4_leastTwin_12 : decode cX4_leastTwin 12 = .ok (.ifCond .eq 29, 3) := by decide +kernel
theorem dX4_leastTwin_15 : decode cX4_leastTwin 15 = .ok (.aload_n 0, 1) := by decide +kernel
theorem dX4_leastTwin_16 : decode cX4_leastTwin 16 = .ok (.getfield 11, 3) := by decide +kernel
theorem dX4_leastTwin_19 : decode cX4_leastTwin 19 = .ok (.iload_n 2, 1) := by decide +kernel
theorem dX4_leastTwin_20 : decode cX4_leastTwin 20 = .ok (.aaload, 1) := by decide +kernel
theorem dX4_leastTwin_21 : decode cX4_leastTwin 21 = .ok (.getfield 61, 3) := by decide +kernel
theorem dX4_leastTwin_24 : decode cX4_leastTwin 24 = .ok (.aload_n 0, 1) := by decide +kernel
theorem dX4_leastTwin_25 : decode cX4_leastTwin 25 = .ok (.getfield 11, 3) := by decide +kernel
theorem dX4_leastTwin_28 : decode cX4_leastTwin 28 = .ok (.iload_n 1, 1) := by decide +kernel
theorem dX4_leastTwin_29 : decode cX4_leastTwin 29 = .ok (.aaload, 1) := by decide +kernel
theorem dX4_leastTwin_30 : decode cX4_leastTwin 30 = .ok (.getfield 61, 3) := by decide +kernel
theorem dX4_leastTwin_33 : decode cX4_leastTwin 33 = .ok (.invokevirtual 164, 3) := by decide +kernel
theorem dX4_leastTwin_36 : decode cX4_leastTwin 36 = .ok (.ifCond .eq 5, 3) := by decide +kernel
theorem dX4_leastTwin_39 : decode cX4_leastTwin 39 = .ok (.iload_n 2, 1) := by decide +kernel
theorem dX4_leastTwin_40 : decode cX4_leastTwin 40 = .ok (.ireturn, 1) := by decide +kernel
theorem dX4_leastTwin_41 : decode cX4_leastTwin 41 = .ok (.iinc 2 1, 3) := by decide +kernel
theorem dX4_leastTwin_44 : decode cX4_leastTwin 44 = .ok (.goto (-42), 3) := by decide +kernel
theorem dX4_leastTwin_47 : decode cX4_leastTwin 47 = .ok (.iload_n 1, 1) := by decide +kernel
theorem dX4_leastTwin_48 : decode cX4_leastTwin 48 = .ok (.ireturn, 1) := by decide +kernel
theorem dX4_contents_0 : decode cX4_contents 0 = .ok (.iconst 0, 1) := by decide +kernel
theorem dX4_contents_1 : decode cX4_contents 1 = .ok (.istore_n 1, 1) := by decide +kernel
theorem dX4_contents_2 : decode cX4_contents 2 = .ok (.iconst 0, 1) := by decide +kernel
theorem dX4_contents_3 : decode cX4_contents 3 = .ok (.istore_n 2, 1) := by decide +kernel
theorem dX4_contents_4 : decode cX4_contents 4 = .ok (.iload_n 2, 1) := by decide +kernel
theorem dX4_contents_5 : decode cX4_contents 5 = .ok (.aload_n 0, 1) := by decide +kernel
theorem dX4_contents_6 : decode cX4_contents 6 = .ok (.getfield 31, 3) := by decide +kernel
theorem dX4_contents_9 : decode cX4_contents 9 = .ok (.if_icmp .ge 29, 3) := by decide +kernel
theorem dX4_contents_12 : decode cX4_contents 12 = .ok (.aload_n 0, 1) := by decide +kernel
theorem dX4_contents_13 : decode cX4_contents 13 = .ok (.iload_n 2, 1) := by decide +kernel
theorem dX4_contents_14 : decode cX4_contents 14 = .ok (.invokevirtual 57, 3) := by decide +kernel
theorem dX4_contents_17 : decode cX4_contents 17 = .ok (.ifCond .eq 15, 3) := by decide +kernel
theorem dX4_contents_20 : decode cX4_contents 20 = .ok (.aload_n 0, 1) := by decide +kernel
theorem dX4_contents_21 : decode cX4_contents 21 = .ok (.iload_n 2, 1) := by decide +kernel
theorem dX4_contents_22 : decode cX4_contents 22 = .ok (.invokevirtual 168, 3) := by decide +kernel
theorem dX4_contents_25 : decode cX4_contents 25 = .ok (.iload_n 2, 1) := by decide +kernel
theorem dX4_contents_26 : decode cX4_contents 26 = .ok (.if_icmp .ne 6, 3) := by decide +kernel
theorem dX4_contents_29 : decode cX4_contents 29 = .ok (.iinc 1 1, 3) := by decide +kernel
theorem dX4_contents_32 : decode cX4_contents 32 = .ok (.iinc 2 1, 3) := by decide +kernel
theorem dX4_contents_35 : decode cX4_contents 35 = .ok (.goto (-31), 3) := by decide +kernel
theorem dX4_contents_38 : decode cX4_contents 38 = .ok (.iload_n 1, 1) := by decide +kernel
theorem dX4_contents_39 : decode cX4_contents 39 = .ok (.ireturn, 1) := by decide +kernel
theorem dX4_sentWhole_0 : decode cX4_sentWhole 0 = .ok (.iconst 0, 1) := by decide +kernel
theorem dX4_sentWhole_1 : decode cX4_sentWhole 1 = .ok (.istore_n 3, 1) := by decide +kernel
theorem dX4_sentWhole_2 : decode cX4_sentWhole 2 = .ok (.iconst 0, 1) := by decide +kernel
theorem dX4_sentWhole_3 : decode cX4_sentWhole 3 = .ok (.istore 4, 2) := by decide +kernel
theorem dX4_sentWhole_5 : decode cX4_sentWhole 5 = .ok (.iload 4, 2) := by decide +kernel
theorem dX4_sentWhole_7 : decode cX4_sentWhole 7 = .ok (.aload_n 0, 1) := by decide +kernel
theorem dX4_sentWhole_8 : decode cX4_sentWhole 8 = .ok (.getfield 31, 3) := by decide +kernel
theorem dX4_sentWhole_11 : decode cX4_sentWhole 11 = .ok (.if_icmp .ge 62, 3) := by decide +kernel
theorem dX4_sentWhole_14 : decode cX4_sentWhole 14 = .ok (.iload_n 1, 1) := by decide +kernel
theorem dX4_sentWhole_15 : decode cX4_sentWhole 15 = .ok (.iload 4, 2) := by decide +kernel
theorem dX4_sentWhole_17 : decode cX4_sentWhole 17 = .ok (.ishr, 1) := by decide +kernel
theorem dX4_sentWhole_18 : decode cX4_sentWhole 18 = .ok (.iconst 1, 1) := by decide +kernel
theorem dX4_sentWhole_19 : decode cX4_sentWhole 19 = .ok (.iand, 1) := by decide +kernel
theorem dX4_sentWhole_20 : decode cX4_sentWhole 20 = .ok (.iconst 1, 1) := by decide +kernel
theorem dX4_sentWhole_21 : decode cX4_sentWhole 21 = .ok (.if_icmp .ne 46, 3) := by decide +kernel
theorem dX4_sentWhole_24 : decode cX4_sentWhole 24 = .ok (.aload_n 0, 1) := by decide +kernel
theorem dX4_sentWhole_25 : decode cX4_sentWhole 25 = .ok (.iload 4, 2) := by decide +kernel
theorem dX4_sentWhole_27 : decode cX4_sentWhole 27 = .ok (.invokevirtual 57, 3) := by decide +kernel
theorem dX4_sentWhole_30 : decode cX4_sentWhole 30 = .ok (.ifCond .eq 37, 3) := by decide +kernel
theorem dX4_sentWhole_33 : decode cX4_sentWhole 33 = .ok (.aload_n 0, 1) := by decide +kernel
theorem dX4_sentWhole_34 : decode cX4_sentWhole 34 = .ok (.getfield 11, 3) := by decide +kernel
theorem dX4_sentWhole_37 : decode cX4_sentWhole 37 = .ok (.iload 4, 2) := by decide +kernel
theorem dX4_sentWhole_39 : decode cX4_sentWhole 39 = .ok (.aaload, 1) := by decide +kernel
theorem dX4_sentWhole_40 : decode cX4_sentWhole 40 = .ok (.getfield 90, 3) := by decide +kernel
theorem dX4_sentWhole_43 : decode cX4_sentWhole 43 = .ok (.istore 5, 2) := by decide +kernel
theorem dX4_sentWhole_45 : decode cX4_sentWhole 45 = .ok (.iload 5, 2) := by decide +kernel
theorem dX4_sentWhole_47 : decode cX4_sentWhole 47 = .ok (.iconst (-1), 1) := by decide +kernel
theorem dX4_sentWhole_48 : decode cX4_sentWhole 48 = .ok (.if_icmp .eq 19, 3) := by decide +kernel
theorem dX4_sentWhole_51 : decode cX4_sentWhole 51 = .ok (.iload_n 2, 1) := by decide +kernel
theorem dX4_sentWhole_52 : decode cX4_sentWhole 52 = .ok (.iload 5, 2) := by decide +kernel
theorem dX4_sentWhole_54 : decode cX4_sentWhole 54 = .ok (.ishr, 1) := by decide +kernel
theorem dX4_sentWhole_55 : decode cX4_sentWhole 55 = .ok (.iconst 1, 1) := by decide +kernel
theorem dX4_sentWhole_56 : decode cX4_sentWhole 56 = .ok (.iand, 1) := by decide +kernel
theorem dX4_sentWhole_57 : decode cX4_sentWhole 57 = .ok (.ifCond .ne 10, 3) := by decide +kernel
theorem dX4_sentWhole_60 : decode cX4_sentWhole 60 = .ok (.iload_n 3, 1) := by decide +kernel
theorem dX4_sentWhole_61 : decode cX4_sentWhole 61 = .ok (.iconst 1, 1) := by decide +kernel
theorem dX4_sentWhole_62 : decode cX4_sentWhole 62 = .ok (.iload 4, 2) := by decide +kernel
theorem dX4_sentWhole_64 : decode cX4_sentWhole 64 = .ok (.ishl, 1) := by decide +kernel
theorem dX4_sentWhole_65 : decode cX4_sentWhole 65 = .ok (.ior, 1) := by decide +kernel
theorem dX4_sentWhole_66 : decode cX4_sentWhole 66 = .ok (.istore_n 3, 1) := by decide +kernel
theorem dX4_sentWhole_67 : decode cX4_sentWhole 67 = .ok (.iinc 4 1, 3) := by decide +kernel
theorem dX4_sentWhole_70 : decode cX4_sentWhole 70 = .ok (.goto (-65), 3) := by decide +kernel
theorem dX4_sentWhole_73 : decode cX4_sentWhole 73 = .ok (.iload_n 3, 1) := by decide +kernel
theorem dX4_sentWhole_74 : decode cX4_sentWhole 74 = .ok (.ireturn, 1) := by decide +kernel
theorem dX4_costOfSending_0 : decode cX4_costOfSending 0 = .ok (.aload_n 0, 1) := by decide +kernel
theorem dX4_costOfSending_1 : decode cX4_costOfSending 1 = .ok (.iload_n 1, 1) := by decide +kernel
theorem dX4_costOfSending_2 : decode cX4_costOfSending 2 = .ok (.iload_n 2, 1) := by decide +kernel
theorem dX4_costOfSending_3 : decode cX4_costOfSending 3 = .ok (.invokevirtual 171, 3) := by decide +kernel
theorem dX4_costOfSending_6 : decode cX4_costOfSending 6 = .ok (.istore_n 3, 1) := by decide +kernel
theorem dX4_costOfSending_7 : decode cX4_costOfSending 7 = .ok (.iconst 0, 1) := by decide +kernel
theorem dX4_costOfSending_8 : decode cX4_costOfSending 8 = .ok (.istore 4, 2) := by decide +kernel
theorem dX4_costOfSending_10 : decode cX4_costOfSending 10 = .ok (.iconst 0, 1) := by decide +kernel
theorem dX4_costOfSending_11 : decode cX4_costOfSending 11 = .ok (.istore 5, 2) := by decide +kernel
theorem dX4_costOfSending_13 : decode cX4_costOfSending 13 = .ok (.iload 5, 2) := by decide +kernel
theorem dX4_costOfSending_15 : decode cX4_costOfSending 15 = .ok (.aload_n 0, 1) := by decide +kernel
theorem dX4_costOfSending_16 : decode cX4_costOfSending 16 = .ok (.getfield 31, 3) := by decide +kernel
theorem dX4_costOfSending_19 : decode cX4_costOfSending 19 = .ok (.if_icmp .ge 66, 3) := by decide +kernel
theorem dX4_costOfSending_22 : decode cX4_costOfSending 22 = .ok (.iload_n 1, 1) := by decide +kernel
theorem dX4_costOfSending_23 : decode cX4_costOfSending 23 = .ok (.iload 5, 2) := by decide +kernel
theorem dX4_costOfSending_25 : decode cX4_costOfSending 25 = .ok (.ishr, 1) := by decide +kernel
theorem dX4_costOfSending_26 : decode cX4_costOfSending 26 = .ok (.iconst 1, 1) := by decide +kernel
theorem dX4_costOfSending_27 : decode cX4_costOfSending 27 = .ok (.iand, 1) := by decide +kernel
theorem dX4_costOfSending_28 : decode cX4_costOfSending 28 = .ok (.iconst 1, 1) := by decide +kernel
theorem dX4_costOfSending_29 : decode cX4_costOfSending 29 = .ok (.if_icmp .ne 50, 3) := by decide +kernel
theorem dX4_costOfSending_32 : decode cX4_costOfSending 32 = .ok (.aload_n 0, 1) := by decide +kernel
theorem dX4_costOfSending_33 : decode cX4_costOfSending 33 = .ok (.iload 5, 2) := by decide +kernel
theorem dX4_costOfSending_35 : decode cX4_costOfSending 35 = .ok (.invokevirtual 57, 3) := by decide +kernel
theorem dX4_costOfSending_38 : decode cX4_costOfSending 38 = .ok (.ifCond .eq 41, 3) := by decide +kernel
theorem dX4_costOfSending_41 : decode cX4_costOfSending 41 = .ok (.iload 4, 2) := by decide +kernel
theorem dX4_costOfSending_43 : decode cX4_costOfSending 43 = .ok (.iload_n 3, 1) := by decide +kernel
theorem dX4_costOfSending_44 : decode cX4_costOfSending 44 = .ok (.iload 5, 2) := by decide +kernel
theorem dX4_costOfSending_46 : decode cX4_costOfSending 46 = .ok (.ishr, 1) := by decide +kernel
theorem dX4_costOfSending_47 : decode cX4_costOfSending 47 = .ok (.iconst 1, 1) := by decide +kernel
theorem dX4_costOfSending_48 : decode cX4_costOfSending 48 = .ok (.iand, 1) := by decide +kernel
theorem dX4_costOfSending_49 : decode cX4_costOfSending 49 = .ok (.iconst 1, 1) := by decide +kernel
theorem dX4_costOfSending_50 : decode cX4_costOfSending 50 = .ok (.if_icmp .ne 16, 3) := by decide +kernel
theorem dX4_costOfSending_53 : decode cX4_costOfSending 53 = .ok (.aload_n 0, 1) := by decide +kernel
theorem dX4_costOfSending_54 : decode cX4_costOfSending 54 = .ok (.getfield 11, 3) := by decide +kernel
theorem dX4_costOfSending_57 : decode cX4_costOfSending 57 = .ok (.iload 5, 2) := by decide +kernel
theorem dX4_costOfSending_59 : decode cX4_costOfSending 59 = .ok (.aaload, 1) := by decide +kernel
theorem dX4_costOfSending_60 : decode cX4_costOfSending 60 = .ok (.invokevirtual 174, 3) := by decide +kernel
theorem dX4_costOfSending_63 : decode cX4_costOfSending 63 = .ok (.goto 13, 3) := by decide +kernel
theorem dX4_costOfSending_66 : decode cX4_costOfSending 66 = .ok (.aload_n 0, 1) := by decide +kernel
theorem dX4_costOfSending_67 : decode cX4_costOfSending 67 = .ok (.getfield 11, 3) := by decide +kernel
theorem dX4_costOfSending_70 : decode cX4_costOfSending 70 = .ok (.iload 5, 2) := by decide +kernel
theorem dX4_costOfSending_72 : decode cX4_costOfSending 72 = .ok (.aaload, 1) := by decide +kernel
theorem dX4_costOfSending_73 : decode cX4_costOfSending 73 = .ok (.invokevirtual 157, 3) := by decide +kernel
theorem dX4_costOfSending_76 : decode cX4_costOfSending 76 = .ok (.iadd, 1) := by decide +kernel
theorem dX4_costOfSending_77 : decode cX4_costOfSending 77 = .ok (.istore 4, 2) := by decide +kernel
theorem dX4_costOfSending_79 : decode cX4_costOfSending 79 = .ok (.iinc 5 1, 3) := by decide +kernel
theorem dX4_costOfSending_82 : decode cX4_costOfSending 82 = .ok (.goto (-69), 3) := by decide +kernel
theorem dX4_costOfSending_85 : decode cX4_costOfSending 85 = .ok (.iload 4, 2) := by decide +kernel
theorem dX4_costOfSending_87 : decode cX4_costOfSending 87 = .ok (.ireturn, 1) := by decide +kernel
theorem dX5_init_0 : decode cX5_init 0 = .ok (.aload_n 0, 1) := by decide +kernel
theorem dX5_init_1 : decode cX5_init 1 = .ok (.invokespecial 3, 3) := by decide +kernel
theorem dX5_init_4 : decode cX5_init 4 = .ok (.aload_n 0, 1) := by decide +kernel
theorem dX5_init_5 : decode cX5_init 5 = .ok (.new 9, 3) := by decide +kernel
theorem dX5_init_8 : decode cX5_init 8 = .ok (.dup, 1) := by decide +kernel
theorem dX5_init_9 : decode cX5_init 9 = .ok (.bipush 96, 2) := by decide +kernel
theorem dX5_init_11 : decode cX5_init 11 = .ok (.invokespecial 11, 3) := by decide +kernel
theorem dX5_init_14 : decode cX5_init 14 = .ok (.putfield 14, 3) := by decide +kernel
theorem dX5_init_17 : decode cX5_init 17 = .ok (.aload_n 0, 1) := by decide +kernel
theorem dX5_init_18 : decode cX5_init 18 = .ok (.new 9, 3) := by decide +kernel
theorem dX5_init_21 : decode cX5_init 21 = .ok (.dup, 1) := by decide +kernel
theorem dX5_init_22 : decode cX5_init 22 = .ok (.bipush 12, 2) := by decide +kernel
theorem dX5_init_24 : decode cX5_init 24 = .ok (.invokespecial 11, 3) := by decide +kernel
theorem dX5_init_27 : decode cX5_init 27 = .ok (.putfield 20, 3) := by decide +kernel
theorem dX5_init_30 : decode cX5_init 30 = .ok (.return_, 1) := by decide +kernel
theorem dX5_placeOfFault_0 : decode cX5_placeOfFault 0 = .ok (.iconst 0, 1) := by decide +kernel
theorem dX5_placeOfFault_1 : decode cX5_placeOfFault 1 = .ok (.istore_n 1, 1) := by decide +kernel
theorem dX5_placeOfFault_2 : decode cX5_placeOfFault 2 = .ok (.iconst 0, 1) := by decide +kernel
theorem dX5_placeOfFault_3 : decode cX5_placeOfFault 3 = .ok (.istore_n 2, 1) := by decide +kernel
theorem dX5_placeOfFault_4 : decode cX5_placeOfFault 4 = .ok (.iload_n 2, 1) := by decide +kernel
theorem dX5_placeOfFault_5 : decode cX5_placeOfFault 5 = .ok (.aload_n 0, 1) := by decide +kernel
theorem dX5_placeOfFault_6 : decode cX5_placeOfFault 6 = .ok (.getfield 14, 3) := by decide +kernel
theorem dX5_placeOfFault_9 : decode cX5_placeOfFault 9 = .ok (.getfield 23, 3) := by decide +kernel
theorem dX5_placeOfFault_12 : decode cX5_placeOfFault 12 = .ok (.if_icmp .gt 41, 3) := by decide +kernel
theorem dX5_placeOfFault_15 : decode cX5_placeOfFault 15 = .ok (.aload_n 0, 1) := by decide +kernel
theorem dX5_placeOfFault_16 : decode cX5_placeOfFault 16 = .ok (.iload_n 1, 1) := by decide +kernel
theorem dX5_placeOfFault_17 : decode cX5_placeOfFault 17 = .ok (.invokevirtual 27, 3) := by decide +kernel
theorem dX5_placeOfFault_20 : decode cX5_placeOfFault 20 = .ok (.istore_n 3, 1) := by decide +kernel
theorem dX5_placeOfFault_21 : decode cX5_placeOfFault 21 = .ok (.iload_n 3, 1) := by decide +kernel
theorem dX5_placeOfFault_22 : decode cX5_placeOfFault 22 = .ok (.iconst (-1), 1) := by decide +kernel
theorem dX5_placeOfFault_23 : decode cX5_placeOfFault 23 = .ok (.if_icmp .eq 5, 3) := by decide +kernel
theorem dX5_placeOfFault_26 : decode cX5_placeOfFault 26 = .ok (.iload_n 3, 1) := by decide +kernel
theorem dX5_placeOfFault_27 : decode cX5_placeOfFault 27 = .ok (.ireturn, 1) := by decide +kernel
theorem dX5_placeOfFault_28 : decode cX5_placeOfFault 28 = .ok (.aload_n 0, 1) := by decide +kernel
theorem dX5_placeOfFault_29 : decode cX5_placeOfFault 29 = .ok (.iload_n 1, 1) := by decide +kernel
theorem dX5_placeOfFault_30 : decode cX5_placeOfFault 30 = .ok (.invokevirtual 31, 3) := by decide +kernel
theorem dX5_placeOfFault_33 : decode cX5_placeOfFault 33 = .ok (.istore_n 1, 1) := by decide +kernel
theorem dX5_placeOfFault_34 : decode cX5_placeOfFault 34 = .ok (.iload_n 1, 1) := by decide +kernel
theorem dX5_placeOfFault_35 : decode cX5_placeOfFault 35 = .ok (.aload_n 0, 1) := by decide +kernel
theorem dX5_placeOfFault_36 : decode cX5_placeOfFault 36 = .ok (.getfield 14, 3) := by decide +kernel
theorem dX5_placeOfFault_39 : decode cX5_placeOfFault 39 = .ok (.getfield 23, 3) := by decide +kernel
theorem dX5_placeOfFault_42 : decode cX5_placeOfFault 42 = .ok (.if_icmp .lt 5, 3) := by decide +kernel
theorem dX5_placeOfFault_45 : decode cX5_placeOfFault 45 = .ok (.iconst (-1), 1) := by decide +kernel
theorem dX5_placeOfFault_46 : decode cX5_placeOfFault 46 = .ok (.ireturn, 1) := by decide +kernel
theorem dX5_placeOfFault_47 : decode cX5_placeOfFault 47 = .ok (.iinc 2 1, 3) := by decide +kernel
theorem dX5_placeOfFault_50 : decode cX5_placeOfFault 50 = .ok (.goto (-46), 3) := by decide +kernel
theorem dX5_placeOfFault_53 : decode cX5_placeOfFault 53 = .ok (.iconst (-1), 1) := by decide +kernel
theorem dX5_placeOfFault_54 : decode cX5_placeOfFault 54 = .ok (.ireturn, 1) := by decide +kernel
theorem dX5_placeBehind_0 : decode cX5_placeBehind 0 = .ok (.iload_n 1, 1) := by decide +kernel
theorem dX5_placeBehind_1 : decode cX5_placeBehind 1 = .ok (.istore_n 2, 1) := by decide +kernel
theorem dX5_placeBehind_2 : decode cX5_placeBehind 2 = .ok (.iload_n 2, 1) := by decide +kernel
theorem dX5_placeBehind_3 : decode cX5_placeBehind 3 = .ok (.aload_n 0, 1) := by decide +kernel
theorem dX5_placeBehind_4 : decode cX5_placeBehind 4 = .ok (.getfield 14, 3) := by decide +kernel
theorem dX5_placeBehind_7 : decode cX5_placeBehind 7 = .ok (.getfield 23, 3) := by decide +kernel
theorem dX5_placeBehind_10 : decode cX5_placeBehind 10 = .ok (.if_icmp .ge 22, 3) := by decide +kernel
theorem dX5_placeBehind_13 : decode cX5_placeBehind 13 = .ok (.aload_n 0, 1) := by decide +kernel
theorem dX5_placeBehind_14 : decode cX5_placeBehind 14 = .ok (.getfield 14, 3) := by decide +kernel
theorem dX5_placeBehind_17 : decode cX5_placeBehind 17 = .ok (.iload_n 2, 1) := by decide +kernel
theorem dX5_placeBehind_18 : decode cX5_placeBehind 18 = .ok (.invokevirtual 34, 3) := by decide +kernel
theorem dX5_placeBehind_21 : decode cX5_placeBehind 21 = .ok (.bipush 59, 2) := by decide +kernel
theorem dX5_placeBehind_23 : decode cX5_placeBehind 23 = .ok (.if_icmp .eq 9, 3) := by decide +kernel
theorem dX5_placeBehind_26 : decode cX5_placeBehind 26 = .ok (.iinc 2 1, 3) := by decide +kernel
theorem dX5_placeBehind_29 : decode cX5_placeBehind 29 = .ok (.goto (-27), 3) := by decide +kernel
theorem dX5_placeBehind_32 : decode cX5_placeBehind 32 = .ok (.iload_n 2, 1) := by decide +kernel
theorem dX5_placeBehind_33 : decode cX5_placeBehind 33 = .ok (.iconst 1, 1) := by decide +kernel
theorem dX5_placeBehind_34 : decode cX5_placeBehind 34 = .ok (.iadd, 1) := by decide +kernel
theorem dX5_placeBehind_35 : decode cX5_placeBehind 35 = .ok (.ireturn, 1) := by decide +kernel
theorem dX5_faultIn_0 : decode cX5_faultIn 0 = .ok (.aload_n 0, 1) := by decide +kernel
theorem dX5_faultIn_1 : decode cX5_faultIn 1 = .ok (.getfield 14, 3) := by decide +kernel
theorem dX5_faultIn_4 : decode cX5_faultIn 4 = .ok (.iload_n 1, 1) := by decide +kernel
theorem dX5_faultIn_5 : decode cX5_faultIn 5 = .ok (.invokevirtual 34, 3) := by decide +kernel
theorem dX5_faultIn_8 : decode cX5_faultIn 8 = .ok (.invokestatic 37, 3) := by decide +kernel
theorem dX5_faultIn_11 : decode cX5_faultIn 11 = .ok (.astore_n 2, 1) := by decide +kernel
theorem dX5_faultIn_12 : decode cX5_faultIn 12 = .ok (.iload_n 1, 1) := by decide +kernel
theorem dX5_faultIn_13 : decode cX5_faultIn 13 = .ok (.iconst 1, 1) := by decide +kernel
theorem dX5_faultIn_14 : decode cX5_faultIn 14 = .ok (.iadd, 1) := by decide +kernel
theorem dX5_faultIn_15 : decode cX5_faultIn 15 = .ok (.istore_n 3, 1) := by decide +kernel
theorem dX5_faultIn_16 : decode cX5_faultIn 16 = .ok (.iconst 0, 1) := by decide +kernel
theorem dX5_faultIn_17 : decode cX5_faultIn 17 = .ok (.istore 4, 2) := by decide +kernel
theorem dX5_faultIn_19 : decode cX5_faultIn 19 = .ok (.iload 4, 2) := by decide +kernel
theorem dX5_faultIn_21 : decode cX5_faultIn 21 = .ok (.aload_n 2, 1) := by decide +kernel
theorem dX5_faultIn_22 : decode cX5_faultIn 22 = .ok (.invokevirtual 41, 3) := by decide +kernel
theorem dX5_faultIn_25 : decode cX5_faultIn 25 = .ok (.if_icmp .ge 34, 3) := by decide +kernel
theorem dX5_faultIn_28 : decode cX5_faultIn 28 = .ok (.aload_n 0, 1) := by decide +kernel
theorem dX5_faultIn_29 : decode cX5_faultIn 29 = .ok (.aload_n 2, 1) := by decide +kernel
theorem dX5_faultIn_30 : decode cX5_faultIn 30 = .ok (.iload 4, 2) := by decide +kernel
theorem dX5_faultIn_32 : decode cX5_faultIn 32 = .ok (.invokevirtual 47, 3) := by decide +kernel
theorem dX5_faultIn_35 : decode cX5_faultIn 35 = .ok (.iload_n 3, 1) := by decide +kernel
theorem dX5_faultIn_36 : decode cX5_faultIn 36 = .ok (.invokevirtual 51, 3) := by decide +kernel
theorem dX5_faultIn_39 : decode cX5_faultIn 39 = .ok (.istore 5, 2) := by decide +kernel
theorem dX5_faultIn_41 : decode cX5_faultIn 41 = .ok (.iload 5, 2) := by decide +kernel
theorem dX5_faultIn_43 : decode cX5_faultIn 43 = .ok (.ifCond .ne 5, 3) := by decide +kernel
theorem dX5_faultIn_46 : decode cX5_faultIn 46 = .ok (.iload_n 3, 1) := by decide +kernel
theorem dX5_faultIn_47 : decode cX5_faultIn 47 = .ok (.ireturn, 1) := by decide +kernel
theorem dX5_faultIn_48 : decode cX5_faultIn 48 = .ok (.iload_n 3, 1) := by decide +kernel
theorem dX5_faultIn_49 : decode cX5_faultIn 49 = .ok (.iload 5, 2) := by decide +kernel
theorem dX5_faultIn_51 : decode cX5_faultIn 51 = .ok (.iadd, 1) := by decide +kernel
theorem dX5_faultIn_52 : decode cX5_faultIn 52 = .ok (.istore_n 3, 1) := by decide +kernel
theorem dX5_faultIn_53 : decode cX5_faultIn 53 = .ok (.iinc 4 1, 3) := by decide +kernel
theorem dX5_faultIn_56 : decode cX5_faultIn 56 = .ok (.goto (-37), 3) := by decide +kernel
theorem dX5_faultIn_59 : decode cX5_faultIn 59 = .ok (.aload_n 2, 1) := by decide +kernel
theorem dX5_faultIn_60 : decode cX5_faultIn 60 = .ok (.invokevirtual 55, 3) := by decide +kernel
theorem dX5_faultIn_63 : decode cX5_faultIn 63 = .ok (.ifCond .eq 7, 3) := by decide +kernel
theorem dX5_faultIn_66 : decode cX5_faultIn 66 = .ok (.iload_n 1, 1) := by decide +kernel
theorem dX5_faultIn_67 : decode cX5_faultIn 67 = .ok (.goto 4, 3) := by decide +kernel
theorem dX5_faultIn_70 : decode cX5_faultIn 70 = .ok (.iconst (-1), 1) := by decide +kernel
theorem dX5_faultIn_71 : decode cX5_faultIn 71 = .ok (.ireturn, 1) := by decide +kernel
theorem dX5_formOf_0 : decode cX5_formOf 0 = .ok (.iload_n 0, 1) := by decide +kernel
theorem dX5_formOf_1 : decode cX5_formOf 1 = .ok (.tableswitch 124 99 120 #[118, 112, 124, 124, 124, 106, 124, 124, 109, 124, 124, 124, 124, 124, 124, 115, 124, 124, 124, 103, 124, 121], 103) := by decide +kernel
theorem dX5_formOf_104 : decode cX5_formOf 104 = .ok (.ldc 59, 2) := by decide +kernel
theorem dX5_formOf_106 : decode cX5_formOf 106 = .ok (.areturn, 1) := by decide +kernel
theorem dX5_formOf_107 : decode cX5_formOf 107 = .ok (.ldc 61, 2) := by decide +kernel
theorem dX5_formOf_109 : decode cX5_formOf 109 = .ok (.areturn, 1) := by decide +kernel
theorem dX5_formOf_110 : decode cX5_formOf 110 = .ok (.ldc 63, 2) := by decide +kernel
theorem dX5_formOf_112 : decode cX5_formOf 112 = .ok (.areturn, 1) := by decide +kernel
theorem dX5_formOf_113 : decode cX5_formOf 113 = .ok (.ldc 65, 2) := by decide +kernel
theorem dX5_formOf_115 : decode cX5_formOf 115 = .ok (.areturn, 1) := by decide +kernel
theorem dX5_formOf_116 : decode cX5_formOf 116 = .ok (.ldc 67, 2) := by decide +kernel
theorem dX5_formOf_118 : decode cX5_formOf 118 = .ok (.areturn, 1) := by decide +kernel
theorem dX5_formOf_119 : decode cX5_formOf 119 = .ok (.ldc 67, 2) := by decide +kernel
theorem dX5_formOf_121 : decode cX5_formOf 121 = .ok (.areturn, 1) := by decide +kernel
theorem dX5_formOf_122 : decode cX5_formOf 122 = .ok (.ldc 69, 2) := by decide +kernel
theorem dX5_formOf_124 : decode cX5_formOf 124 = .ok (.areturn, 1) := by decide +kernel
theorem dX5_formOf_125 : decode cX5_formOf 125 = .ok (.ldc 71, 2) := by decide +kernel
theorem dX5_formOf_127 : decode cX5_formOf 127 = .ok (.areturn, 1) := by decide +kernel
theorem dX5_fitting_0 : decode cX5_fitting 0 = .ok (.aload_n 0, 1) := by decide +kernel
theorem dX5_fitting_1 : decode cX5_fitting 1 = .ok (.getfield 14, 3) := by decide +kernel
theorem dX5_fitting_4 : decode cX5_fitting 4 = .ok (.iload_n 2, 1) := by decide +kernel
theorem dX5_fitting_5 : decode cX5_fitting 5 = .ok (.invokevirtual 34, 3) := by decide +kernel
theorem dX5_fitting_8 : decode cX5_fitting 8 = .ok (.istore_n 3, 1) := by decide +kernel
theorem dX5_fitting_9 : decode cX5_fitting 9 = .ok (.iload_n 1, 1) := by decide +kernel
theorem dX5_fitting_10 : decode cX5_fitting 10 = .ok (.lookupswitch 93 #[(100, 42), (108, 74), (112, 55), (115, 87)], 42) := by decide +kernel
theorem dX5_fitting_52 : decode cX5_fitting 52 = .ok (.iload_n 3, 1) := by decide +kernel
theorem dX5_fitting_53 : decode cX5_fitting 53 = .ok (.invokestatic 73, 3) := by decide +kernel
theorem dX5_fitting_56 : decode cX5_fitting 56 = .ok (.ifCond .eq 7, 3) := by decide +kernel
theorem dX5_fitting_59 : decode cX5_fitting 59 = .ok (.iconst 1, 1) := by decide +kernel
theorem dX5_fitting_60 : decode cX5_fitting 60 = .ok (.goto 4, 3) := by decide +kernel
theorem dX5_fitting_63 : decode cX5_fitting 63 = .ok (.iconst 0, 1) := by decide +kernel
theorem dX5_fitting_64 : decode cX5_fitting 64 = .ok (.ireturn, 1) := by decide +kernel
theorem dX5_fitting_65 : decode cX5_fitting 65 = .ok (.iload_n 3, 1) := by decide +kernel
theorem dX5_fitting_66 : decode cX5_fitting 66 = .ok (.invokestatic 73, 3) := by decide +kernel
theorem dX5_fitting_69 : decode cX5_fitting 69 = .ok (.ifCond .ne 9, 3) := by decide +kernel
theorem dX5_fitting_72 : decode cX5_fitting 72 = .ok (.iload_n 3, 1) := by decide +kernel
theorem dX5_fitting_73 : decode cX5_fitting 73 = .ok (.bipush 46, 2) := by decide +kernel
theorem dX5_fitting_75 : decode cX5_fitting 75 = .ok (.if_icmp .ne 7, 3) := by decide +kernel
theorem dX5_fitting_78 : decode cX5_fitting 78 = .ok (.iconst 1, 1) := by decide +kernel
theorem dX5_fitting_79 : decode cX5_fitting 79 = .ok (.goto 4, 3) := by decide +kernel
theorem dX5_fitting_82 : decode cX5_fitting 82 = .ok (.iconst 0, 1) := by decide +kernel
theorem dX5_fitting_83 : decode cX5_fitting 83 = .ok (.ireturn, 1) := by decide +kernel
theorem dX5_fitting_84 : decode cX5_fitting 84 = .ok (.iload_n 3, 1) := by decide +kernel
theorem dX5_fitting_85 : decode cX5_fitting 85 = .ok (.invokestatic 77, 3) := by decide +kernel
theorem dX5_fitting_88 : decode cX5_fitting 88 = .ok (.ifCond .eq 7, 3) := by decide +kernel
theorem dX5_fitting_91 : decode cX5_fitting 91 = .ok (.iconst 1, 1) := by decide +kernel
theorem dX5_fitting_92 : decode cX5_fitting 92 = .ok (.goto 4, 3) := by decide +kernel
theorem dX5_fitting_95 : decode cX5_fitting 95 = .ok (.iconst 0, 1) := by decide +kernel
theorem dX5_fitting_96 : decode cX5_fitting 96 = .ok (.ireturn, 1) := by decide +kernel
theorem dX5_fitting_97 : decode cX5_fitting 97 = .ok (.aload_n 0, 1) := by decide +kernel
theorem dX5_fitting_98 : decode cX5_fitting 98 = .ok (.iload_n 2, 1) := by decide +kernel
theorem dX5_fitting_99 : decode cX5_fitting 99 = .ok (.invokevirtual 80, 3) := by decide +kernel
theorem dX5_fitting_102 : decode cX5_fitting 102 = .ok (.ireturn, 1) := by decide +kernel
theorem dX5_fitting_103 : decode cX5_fitting 103 = .ok (.iload_n 3, 1) := by decide +kernel
theorem dX5_fitting_104 : decode cX5_fitting 104 = .ok (.iload_n 1, 1) := by decide +kernel
theorem dX5_fitting_105 : decode cX5_fitting 105 = .ok (.if_icmp .ne 7, 3) := by decide +kernel
theorem dX5_fitting_108 : decode cX5_fitting 108 = .ok (.iconst 1, 1) := by decide +kernel
theorem dX5_fitting_109 : decode cX5_fitting 109 = .ok (.goto 4, 3) := by decide +kernel
theorem dX5_fitting_112 : decode cX5_fitting 112 = .ok (.iconst 0, 1) := by decide +kernel
theorem dX5_fitting_113 : decode cX5_fitting 113 = .ok (.ireturn, 1) := by decide +kernel
theorem dX5_lettersFrom_0 : decode cX5_lettersFrom 0 = .ok (.iconst 0, 1) := by decide +kernel
theorem dX5_lettersFrom_1 : decode cX5_lettersFrom 1 = .ok (.istore_n 2, 1) := by decide +kernel
theorem dX5_lettersFrom_2 : decode cX5_lettersFrom 2 = .ok (.iload_n 2, 1) := by decide +kernel
theorem dX5_lettersFrom_3 : decode cX5_lettersFrom 3 = .ok (.bipush 12, 2) := by decide +kernel
theorem dX5_lettersFrom_5 : decode cX5_lettersFrom 5 = .ok (.if_icmp .ge 25, 3) := by decide +kernel
theorem dX5_lettersFrom_8 : decode cX5_lettersFrom 8 = .ok (.aload_n 0, 1) := by decide +kernel
theorem dX5_lettersFrom_9 : decode cX5_lettersFrom 9 = .ok (.getfield 14, 3) := by decide +kernel
theorem dX5_lettersFrom_12 : decode cX5_lettersFrom 12 = .ok (.iload_n 1, 1) := by decide +kernel
theorem dX5_lettersFrom_13 : decode cX5_lettersFrom 13 = .ok (.iload_n 2, 1) := by decide +kernel
theorem dX5_lettersFrom_14 : decode cX5_lettersFrom 14 = .ok (.iadd, 1) := by decide +kernel
theorem dX5_lettersFrom_15 : decode cX5_lettersFrom 15 = .ok (.invokevirtual 34, 3) := by decide +kernel
theorem dX5_lettersFrom_18 : decode cX5_lettersFrom 18 = .ok (.invokestatic 77, 3) := by decide +kernel
theorem dX5_lettersFrom_21 : decode cX5_lettersFrom 21 = .ok (.ifCond .eq 9, 3) := by decide +kernel
theorem dX5_lettersFrom_24 : decode cX5_lettersFrom 24 = .ok (.iinc 2 1, 3) := by decide +kernel
theorem dX5_lettersFrom_27 : decode cX5_lettersFrom 27 = .ok (.goto (-25), 3) := by decide +kernel
theorem dX5_lettersFrom_30 : decode cX5_lettersFrom 30 = .ok (.iload_n 2, 1) := by decide +kernel
theorem dX5_lettersFrom_31 : decode cX5_lettersFrom 31 = .ok (.ireturn, 1) := by decide +kernel
theorem dX5_isDigit_0 : decode cX5_isDigit 0 = .ok (.iload_n 0, 1) := by decide +kernel
theorem dX5_isDigit_1 : decode cX5_isDigit 1 = .ok (.bipush 48, 2) := by decide +kernel
theorem dX5_isDigit_3 : decode cX5_isDigit 3 = .ok (.if_icmp .lt 13, 3) := by decide +kernel
theorem dX5_isDigit_6 : decode cX5_isDigit 6 = .ok (.iload_n 0, 1) := by decide +kernel
theorem dX5_isDigit_7 : decode cX5_isDigit 7 = .ok (.bipush 57, 2) := by decide +kernel
theorem dX5_isDigit_9 : decode cX5_isDigit 9 = .ok (.if_icmp .gt 7, 3) := by decide +kernel
theorem dX5_isDigit_12 : decode cX5_isDigit 12 = .ok (.iconst 1, 1) := by decide +kernel
theorem dX5_isDigit_13 : decode cX5_isDigit 13 = .ok (.goto 4, 3) := by decide +kernel
theorem dX5_isDigit_16 : decode cX5_isDigit 16 = .ok (.iconst 0, 1) := by decide +kernel
theorem dX5_isDigit_17 : decode cX5_isDigit 17 = .ok (.ireturn, 1) := by decide +kernel
theorem dX5_isLetter_0 : decode cX5_isLetter 0 = .ok (.iload_n 0, 1) := by decide +kernel
theorem dX5_isLetter_1 : decode cX5_isLetter 1 = .ok (.bipush 97, 2) := by decide +kernel
theorem dX5_isLetter_3 : decode cX5_isLetter 3 = .ok (.if_icmp .lt 13, 3) := by decide +kernel
theorem dX5_isLetter_6 : decode cX5_isLetter 6 = .ok (.iload_n 0, 1) := by decide +kernel
theorem dX5_isLetter_7 : decode cX5_isLetter 7 = .ok (.bipush 104, 2) := by decide +kernel
theorem dX5_isLetter_9 : decode cX5_isLetter 9 = .ok (.if_icmp .gt 7, 3) := by decide +kernel
theorem dX5_isLetter_12 : decode cX5_isLetter 12 = .ok (.iconst 1, 1) := by decide +kernel
theorem dX5_isLetter_13 : decode cX5_isLetter 13 = .ok (.goto 4, 3) := by decide +kernel
theorem dX5_isLetter_16 : decode cX5_isLetter 16 = .ok (.iconst 0, 1) := by decide +kernel
theorem dX5_isLetter_17 : decode cX5_isLetter 17 = .ok (.ireturn, 1) := by decide +kernel
theorem dX5_digitAt_0 : decode cX5_digitAt 0 = .ok (.aload_n 0, 1) := by decide +kernel
theorem dX5_digitAt_1 : decode cX5_digitAt 1 = .ok (.getfield 14, 3) := by decide +kernel
theorem dX5_digitAt_4 : decode cX5_digitAt 4 = .ok (.iload_n 1, 1) := by decide +kernel
theorem dX5_digitAt_5 : decode cX5_digitAt 5 = .ok (.invokevirtual 34, 3) := by decide +kernel
theorem dX5_digitAt_8 : decode cX5_digitAt 8 = .ok (.istore_n 2, 1) := by decide +kernel
theorem dX5_digitAt_9 : decode cX5_digitAt 9 = .ok (.iload_n 2, 1) := by decide +kernel
theorem dX5_digitAt_10 : decode cX5_digitAt 10 = .ok (.invokestatic 73, 3) := by decide +kernel
theorem dX5_digitAt_13 : decode cX5_digitAt 13 = .ok (.ifCond .eq 10, 3) := by decide +kernel
theorem dX5_digitAt_16 : decode cX5_digitAt 16 = .ok (.iload_n 2, 1) := by decide +kernel
theorem dX5_digitAt_17 : decode cX5_digitAt 17 = .ok (.bipush 48, 2) := by decide +kernel
theorem dX5_digitAt_19 : decode cX5_digitAt 19 = .ok (.isub, 1) := by decide +kernel
theorem dX5_digitAt_20 : decode cX5_digitAt 20 = .ok (.goto 4, 3) := by decide +kernel
theorem dX5_digitAt_23 : decode cX5_digitAt 23 = .ok (.iconst (-1), 1) := by decide +kernel
theorem dX5_digitAt_24 : decode cX5_digitAt 24 = .ok (.ireturn, 1) := by decide +kernel
theorem dX5_runsAt_0 : decode cX5_runsAt 0 = .ok (.aload_n 0, 1) := by decide +kernel
theorem dX5_runsAt_1 : decode cX5_runsAt 1 = .ok (.iload_n 1, 1) := by decide +kernel
theorem dX5_runsAt_2 : decode cX5_runsAt 2 = .ok (.iconst 1, 1) := by decide +kernel
theorem dX5_runsAt_3 : decode cX5_runsAt 3 = .ok (.iadd, 1) := by decide +kernel
theorem dX5_runsAt_4 : decode cX5_runsAt 4 = .ok (.invokevirtual 83, 3) := by decide +kernel
theorem dX5_runsAt_7 : decode cX5_runsAt 7 = .ok (.istore 4, 2) := by decide +kernel
theorem dX5_runsAt_9 : decode cX5_runsAt 9 = .ok (.aload_n 0, 1) := by decide +kernel
theorem dX5_runsAt_10 : decode cX5_runsAt 10 = .ok (.iload_n 1, 1) := by decide +kernel
theorem dX5_runsAt_11 : decode cX5_runsAt 11 = .ok (.iconst 2, 1) := by decide +kernel
theorem dX5_runsAt_12 : decode cX5_runsAt 12 = .ok (.iadd, 1) := by decide +kernel
theorem dX5_runsAt_13 : decode cX5_runsAt 13 = .ok (.invokevirtual 83, 3) := by decide +kernel
theorem dX5_runsAt_16 : decode cX5_runsAt 16 = .ok (.istore 5, 2) := by decide +kernel
theorem dX5_runsAt_18 : decode cX5_runsAt 18 = .ok (.aload_n 0, 1) := by decide +kernel
theorem dX5_runsAt_19 : decode cX5_runsAt 19 = .ok (.getfield 14, 3) := by decide +kernel
theorem dX5_runsAt_22 : decode cX5_runsAt 22 = .ok (.iload_n 1, 1) := by decide +kernel
theorem dX5_runsAt_23 : decode cX5_runsAt 23 = .ok (.invokevirtual 34, 3) := by decide +kernel
theorem dX5_runsAt_26 : decode cX5_runsAt 26 = .ok (.tableswitch 202 99 120 #[171, 135, 202, 202, 202, 115, 202, 202, 125, 202, 202, 202, 202, 202, 202, 143, 202, 202, 202, 102, 202, 178], 102) := by decide +kernel
theorem dX5_runsAt_128 : decode cX5_runsAt 128 = .ok (.aload_n 0, 1) := by decide +kernel
theorem dX5_runsAt_129 : decode cX5_runsAt 129 = .ok (.iload_n 1, 1) := by decide +kernel
theorem dX5_runsAt_130 : decode cX5_runsAt 130 = .ok (.iconst 3, 1) := by decide +kernel
theorem dX5_runsAt_131 : decode cX5_runsAt 131 = .ok (.iadd, 1) := by decide +kernel
theorem dX5_runsAt_132 : decode cX5_runsAt 132 = .ok (.aload_n 2, 1) := by decide +kernel
theorem dX5_runsAt_133 : decode cX5_runsAt 133 = .ok (.iload 4, 2) := by decide +kernel
theorem dX5_runsAt_135 : decode cX5_runsAt 135 = .ok (.iload 5, 2) := by decide +kernel
theorem dX5_runsAt_137 : decode cX5_runsAt 137 = .ok (.invokevirtual 86, 3) := by decide +kernel
theorem dX5_runsAt_140 : decode cX5_runsAt 140 = .ok (.ireturn, 1) := by decide +kernel
theorem dX5_runsAt_141 : decode cX5_runsAt 141 = .ok (.aload_n 0, 1) := by decide +kernel
theorem dX5_runsAt_142 : decode cX5_runsAt 142 = .ok (.aload_n 2, 1) := by decide +kernel
theorem dX5_runsAt_143 : decode cX5_runsAt 143 = .ok (.iload 4, 2) := by decide +kernel
theorem dX5_runsAt_145 : decode cX5_runsAt 145 = .ok (.iload 5, 2) := by decide +kernel
theorem dX5_runsAt_147 : decode cX5_runsAt 147 = .ok (.invokevirtual 90, 3) := by decide +kernel
theorem dX5_runsAt_150 : decode cX5_runsAt 150 = .ok (.ireturn, 1) := by decide +kernel
theorem dX5_runsAt_151 : decode cX5_runsAt 151 = .ok (.aload_n 0, 1) := by decide +kernel
theorem dX5_runsAt_152 : decode cX5_runsAt 152 = .ok (.aload_n 2, 1) := by decide +kernel
theorem dX5_runsAt_153 : decode cX5_runsAt 153 = .ok (.iload 4, 2) := by decide +kernel
theorem dX5_runsAt_155 : decode cX5_runsAt 155 = .ok (.iload 5, 2) := by decide +kernel
theorem dX5_runsAt_157 : decode cX5_runsAt 157 = .ok (.invokevirtual 94, 3) := by decide +kernel
theorem dX5_runsAt_160 : decode cX5_runsAt 160 = .ok (.ireturn, 1) := by decide +kernel
theorem dX5_runsAt_161 : decode cX5_runsAt 161 = .ok (.aload_n 0, 1) := by decide +kernel
theorem dX5_runsAt_162 : decode cX5_runsAt 162 = .ok (.aload_n 2, 1) := by decide +kernel
theorem dX5_runsAt_163 : decode cX5_runsAt 163 = .ok (.iload 4, 2) := by decide +kernel
theorem dX5_runsAt_165 : decode cX5_runsAt 165 = .ok (.invokevirtual 97, 3) := by decide +kernel
theorem dX5_runsAt_168 : decode cX5_runsAt 168 = .ok (.ireturn, 1) := by decide +kernel
theorem dX5_runsAt_169 : decode cX5_runsAt 169 = .ok (.aload_n 3, 1) := by decide +kernel
theorem dX5_runsAt_170 : decode cX5_runsAt 170 = .ok (.aload_n 2, 1) := by decide +kernel
theorem dX5_runsAt_171 : decode cX5_runsAt 171 = .ok (.invokevirtual 101, 3) := by decide +kernel
theorem dX5_runsAt_174 : decode cX5_runsAt 174 = .ok (.aload_n 3, 1) := by decide +kernel
theorem dX5_runsAt_175 : decode cX5_runsAt 175 = .ok (.aload_n 2, 1) := by decide +kernel
theorem dX5_runsAt_176 : decode cX5_runsAt 176 = .ok (.getfield 107, 3) := by decide +kernel
theorem dX5_runsAt_179 : decode cX5_runsAt 179 = .ok (.aload_n 2, 1) := by decide +kernel
theorem dX5_runsAt_180 : decode cX5_runsAt 180 = .ok (.getfield 112, 3) := by decide +kernel
theorem dX5_runsAt_183 : decode cX5_runsAt 183 = .ok (.aload_n 2, 1) := by decide +kernel
theorem dX5_runsAt_184 : decode cX5_runsAt 184 = .ok (.getfield 115, 3) := by decide +kernel
theorem dX5_runsAt_187 : decode cX5_runsAt 187 = .ok (.invokevirtual 118, 3) := by decide +kernel
theorem dX5_runsAt_190 : decode cX5_runsAt 190 = .ok (.aload_n 2, 1) := by decide +kernel
theorem dX5_runsAt_191 : decode cX5_runsAt 191 = .ok (.aload_n 3, 1) := by decide +kernel
theorem dX5_runsAt_192 : decode cX5_runsAt 192 = .ok (.invokevirtual 122, 3) := by decide +kernel
theorem dX5_runsAt_195 : decode cX5_runsAt 195 = .ok (.iconst 1, 1) := by decide +kernel
theorem dX5_runsAt_196 : decode cX5_runsAt 196 = .ok (.ireturn, 1) := by decide +kernel
theorem dX5_runsAt_197 : decode cX5_runsAt 197 = .ok (.aload_n 2, 1) := by decide +kernel
theorem dX5_runsAt_198 : decode cX5_runsAt 198 = .ok (.invokevirtual 126, 3) := by decide +kernel
theorem dX5_runsAt_201 : decode cX5_runsAt 201 = .ok (.pop, 1) := by decide +kernel
theorem dX5_runsAt_202 : decode cX5_runsAt 202 = .ok (.iconst 1, 1) := by decide +kernel
theorem dX5_runsAt_203 : decode cX5_runsAt 203 = .ok (.ireturn, 1) := by decide +kernel
theorem dX5_runsAt_204 : decode cX5_runsAt 204 = .ok (.aload_n 0, 1) := by decide +kernel
theorem dX5_runsAt_205 : decode cX5_runsAt 205 = .ok (.iload_n 1, 1) := by decide +kernel
theorem dX5_runsAt_206 : decode cX5_runsAt 206 = .ok (.iconst 4, 1) := by decide +kernel
theorem dX5_runsAt_207 : decode cX5_runsAt 207 = .ok (.iadd, 1) := by decide +kernel
theorem dX5_runsAt_208 : decode cX5_runsAt 208 = .ok (.aload_n 2, 1) := by decide +kernel
theorem dX5_runsAt_209 : decode cX5_runsAt 209 = .ok (.iload 4, 2) := by decide +kernel
theorem dX5_runsAt_211 : decode cX5_runsAt 211 = .ok (.bipush 10, 2) := by decide +kernel
theorem dX5_runsAt_213 : decode cX5_runsAt 213 = .ok (.iload 5, 2) := by decide +kernel
theorem dX5_runsAt_215 : decode cX5_runsAt 215 = .ok (.imul, 1) := by decide +kernel
theorem dX5_runsAt_216 : decode cX5_runsAt 216 = .ok (.aload_n 0, 1) := by decide +kernel
theorem dX5_runsAt_217 : decode cX5_runsAt 217 = .ok (.iload_n 1, 1) := by decide +kernel
theorem dX5_runsAt_218 : decode cX5_runsAt 218 = .ok (.iconst 3, 1) := by decide +kernel
theorem dX5_runsAt_219 : decode cX5_runsAt 219 = .ok (.iadd, 1) := by decide +kernel
theorem dX5_runsAt_220 : decode cX5_runsAt 220 = .ok (.invokevirtual 83, 3) := by decide +kernel
theorem dX5_runsAt_223 : decode cX5_runsAt 223 = .ok (.iadd, 1) := by decide +kernel
theorem dX5_runsAt_224 : decode cX5_runsAt 224 = .ok (.invokevirtual 129, 3) := by decide +kernel
theorem dX5_runsAt_227 : decode cX5_runsAt 227 = .ok (.ireturn, 1) := by decide +kernel
theorem dX5_runsAt_228 : decode cX5_runsAt 228 = .ok (.iconst 0, 1) := by decide +kernel
theorem dX5_runsAt_229 : decode cX5_runsAt 229 = .ok (.ireturn, 1) := by decide +kernel
theorem dX5_comes_0 : decode cX5_comes 0 = .ok (.iload_n 3, 1) := by decide +kernel
theorem dX5_comes_1 : decode cX5_comes 1 = .ok (.iconst (-1), 1) := by decide +kernel
theorem dX5_comes_2 : decode cX5_comes 2 = .ok (.if_icmp .eq 11, 3) := by decide +kernel
theorem dX5_comes_5 : decode cX5_comes 5 = .ok (.aload_n 2, 1) := by decide +kernel
theorem dX5_comes_6 : decode cX5_comes 6 = .ok (.iload_n 3, 1) := by decide +kernel
theorem dX5_comes_7 : decode cX5_comes 7 = .ok (.invokevirtual 132, 3) := by decide +kernel
theorem dX5_comes_10 : decode cX5_comes 10 = .ok (.ifCond .eq 7, 3) := by decide +kernel
theorem dX5_comes_13 : decode cX5_comes 13 = .ok (.iconst 1, 1) := by decide +kernel
theorem dX5_comes_14 : decode cX5_comes 14 = .ok (.goto 4, 3) := by decide +kernel
theorem dX5_comes_17 : decode cX5_comes 17 = .ok (.iconst 0, 1) := by decide +kernel
theorem dX5_comes_18 : decode cX5_comes 18 = .ok (.istore 5, 2) := by decide +kernel
theorem dX5_comes_20 : decode cX5_comes 20 = .ok (.iload 4, 2) := by decide +kernel
theorem dX5_comes_22 : decode cX5_comes 22 = .ok (.iconst (-1), 1) := by decide +kernel
theorem dX5_comes_23 : decode cX5_comes 23 = .ok (.if_icmp .eq 23, 3) := by decide +kernel
theorem dX5_comes_26 : decode cX5_comes 26 = .ok (.iload_n 3, 1) := by decide +kernel
theorem dX5_comes_27 : decode cX5_comes 27 = .ok (.iconst (-1), 1) := by decide +kernel
theorem dX5_comes_28 : decode cX5_comes 28 = .ok (.if_icmp .eq 22, 3) := by decide +kernel
theorem dX5_comes_31 : decode cX5_comes 31 = .ok (.iload_n 3, 1) := by decide +kernel
theorem dX5_comes_32 : decode cX5_comes 32 = .ok (.iload 4, 2) := by decide +kernel
theorem dX5_comes_34 : decode cX5_comes 34 = .ok (.if_icmp .eq 16, 3) := by decide +kernel
theorem dX5_comes_37 : decode cX5_comes 37 = .ok (.aload_n 2, 1) := by decide +kernel
theorem dX5_comes_38 : decode cX5_comes 38 = .ok (.iload 4, 2) := by decide +kernel
theorem dX5_comes_40 : decode cX5_comes 40 = .ok (.invokevirtual 132, 3) := by decide +kernel
theorem dX5_comes_43 : decode cX5_comes 43 = .ok (.ifCond .eq 7, 3) := by decide +kernel
theorem dX5_comes_46 : decode cX5_comes 46 = .ok (.iconst 1, 1) := by decide +kernel
theorem dX5_comes_47 : decode cX5_comes 47 = .ok (.goto 4, 3) := by decide +kernel
theorem dX5_comes_50 : decode cX5_comes 50 = .ok (.iconst 0, 1) := by decide +kernel
theorem dX5_comes_51 : decode cX5_comes 51 = .ok (.istore 6, 2) := by decide +kernel
theorem dX5_comes_53 : decode cX5_comes 53 = .ok (.iload 5, 2) := by decide +kernel
theorem dX5_comes_55 : decode cX5_comes 55 = .ok (.ifCond .eq 15, 3) := by decide +kernel
theorem dX5_comes_58 : decode cX5_comes 58 = .ok (.iload 6, 2) := by decide +kernel
theorem dX5_comes_60 : decode cX5_comes 60 = .ok (.ifCond .eq 10, 3) := by decide +kernel
theorem dX5_comes_63 : decode cX5_comes 63 = .ok (.aload_n 2, 1) := by decide +kernel
theorem dX5_comes_64 : decode cX5_comes 64 = .ok (.invokevirtual 135, 3) := by decide +kernel
theorem dX5_comes_67 : decode cX5_comes 67 = .ok (.ifCond .ne 5, 3) := by decide +kernel
theorem dX5_comes_70 : decode cX5_comes 70 = .ok (.iconst 0, 1) := by decide +kernel
theorem dX5_comes_71 : decode cX5_comes 71 = .ok (.ireturn, 1) := by decide +kernel
theorem dX5_comes_72 : decode cX5_comes 72 = .ok (.aload_n 0, 1) := by decide +kernel
theorem dX5_comes_73 : decode cX5_comes 73 = .ok (.iload_n 1, 1) := by decide +kernel
theorem dX5_comes_74 : decode cX5_comes 74 = .ok (.invokevirtual 80, 3) := by decide +kernel
theorem dX5_comes_77 : decode cX5_comes 77 = .ok (.istore 7, 2) := by decide +kernel
theorem dX5_comes_79 : decode cX5_comes 79 = .ok (.aload_n 0, 1) := by decide +kernel
theorem dX5_comes_80 : decode cX5_comes 80 = .ok (.getfield 20, 3) := by decide +kernel
theorem dX5_comes_83 : decode cX5_comes 83 = .ok (.invokevirtual 138, 3) := by decide +kernel
theorem dX5_comes_86 : decode cX5_comes 86 = .ok (.iconst 0, 1) := by decide +kernel
theorem dX5_comes_87 : decode cX5_comes 87 = .ok (.istore 8, 2) := by decide +kernel
theorem dX5_comes_89 : decode cX5_comes 89 = .ok (.iload 8, 2) := by decide +kernel
theorem dX5_comes_91 : decode cX5_comes 91 = .ok (.iload 7, 2) := by decide +kernel
theorem dX5_comes_93 : decode cX5_comes 93 = .ok (.if_icmp .ge 30, 3) := by decide +kernel
theorem dX5_comes_96 : decode cX5_comes 96 = .ok (.aload_n 0, 1) := by decide +kernel
theorem dX5_comes_97 : decode cX5_comes 97 = .ok (.getfield 20, 3) := by decide +kernel
theorem dX5_comes_100 : decode cX5_comes 100 = .ok (.aload_n 0, 1) := by decide +kernel
theorem dX5_comes_101 : decode cX5_comes 101 = .ok (.getfield 14, 3) := by decide +kernel
theorem dX5_comes_104 : decode cX5_comes 104 = .ok (.iload_n 1, 1) := by decide +kernel
theorem dX5_comes_105 : decode cX5_comes 105 = .ok (.iload 8, 2) := by decide +kernel
theorem dX5_comes_107 : decode cX5_comes 107 = .ok (.iadd, 1) := by decide +kernel
theorem dX5_comes_108 : decode cX5_comes 108 = .ok (.invokevirtual 34, 3) := by decide +kernel
theorem dX5_comes_111 : decode cX5_comes 111 = .ok (.bipush 97, 2) := by decide +kernel
theorem dX5_comes_113 : decode cX5_comes 113 = .ok (.isub, 1) := by decide +kernel
theorem dX5_comes_114 : decode cX5_comes 114 = .ok (.invokevirtual 141, 3) := by decide +kernel
theorem dX5_comes_117 : decode cX5_comes 117 = .ok (.iinc 8 1, 3) := by decide +kernel
theorem dX5_comes_120 : decode cX5_comes 120 = .ok (.goto (-31), 3) := by decide +kernel
theorem dX5_comes_123 : decode cX5_comes 123 = .ok (.aload_n 2, 1) := by decide +kernel
theorem dX5_comes_124 : decode cX5_comes 124 = .ok (.iload_n 3, 1) := by decide +kernel
theorem dX5_comes_125 : decode cX5_comes 125 = .ok (.iload 4, 2) := by decide +kernel
theorem dX5_comes_127 : decode cX5_comes 127 = .ok (.aload_n 0, 1) := by decide +kernel
theorem dX5_comes_128 : decode cX5_comes 128 = .ok (.getfield 20, 3) := by decide +kernel
theorem dX5_comes_131 : decode cX5_comes 131 = .ok (.invokevirtual 144, 3) := by decide +kernel
theorem dX5_comes_134 : decode cX5_comes 134 = .ok (.pop, 1) := by decide +kernel
theorem dX5_comes_135 : decode cX5_comes 135 = .ok (.iconst 1, 1) := by decide +kernel
theorem dX5_comes_136 : decode cX5_comes 136 = .ok (.ireturn, 1) := by decide +kernel
theorem dX5_points_0 : decode cX5_points 0 = .ok (.iload_n 2, 1) := by decide +kernel
theorem dX5_points_1 : decode cX5_points 1 = .ok (.invokestatic 147, 3) := by decide +kernel
theorem dX5_points_4 : decode cX5_points 4 = .ok (.ifCond .eq 16, 3) := by decide +kernel
theorem dX5_points_7 : decode cX5_points 7 = .ok (.iload_n 3, 1) := by decide +kernel
theorem dX5_points_8 : decode cX5_points 8 = .ok (.iconst (-1), 1) := by decide +kernel
theorem dX5_points_9 : decode cX5_points 9 = .ok (.if_icmp .eq 13, 3) := by decide +kernel
theorem dX5_points_12 : decode cX5_points 12 = .ok (.aload_n 1, 1) := by decide +kernel
theorem dX5_points_13 : decode cX5_points 13 = .ok (.iload_n 3, 1) := by decide +kernel
theorem dX5_points_14 : decode cX5_points 14 = .ok (.invokevirtual 132, 3) := by decide +kernel
theorem dX5_points_17 : decode cX5_points 17 = .ok (.ifCond .ne 5, 3) := by decide +kernel
theorem dX5_points_20 : decode cX5_points 20 = .ok (.iconst 0, 1) := by decide +kernel
theorem dX5_points_21 : decode cX5_points 21 = .ok (.ireturn, 1) := by decide +kernel
theorem dX5_points_22 : decode cX5_points 22 = .ok (.aload_n 1, 1) := by decide +kernel
theorem dX5_points_23 : decode cX5_points 23 = .ok (.getfield 150, 3) := by decide +kernel
theorem dX5_points_26 : decode cX5_points 26 = .ok (.iload_n 2, 1) := by decide +kernel
theorem dX5_points_27 : decode cX5_points 27 = .ok (.iload_n 3, 1) := by decide +kernel
theorem dX5_points_28 : decode cX5_points 28 = .ok (.iastore, 1) := by decide +kernel
theorem dX5_points_29 : decode cX5_points 29 = .ok (.iconst 1, 1) := by decide +kernel
theorem dX5_points_30 : decode cX5_points 30 = .ok (.ireturn, 1) := by decide +kernel
theorem dX5_becomes_0 : decode cX5_becomes 0 = .ok (.iload_n 2, 1) := by decide +kernel
theorem dX5_becomes_1 : decode cX5_becomes 1 = .ok (.ifCond .lt 9, 3) := by decide +kernel
theorem dX5_becomes_4 : decode cX5_becomes 4 = .ok (.iload_n 2, 1) := by decide +kernel
theorem dX5_becomes_5 : decode cX5_becomes 5 = .ok (.bipush 6, 2) := by decide +kernel
theorem dX5_becomes_7 : decode cX5_becomes 7 = .ok (.if_icmp .lt 5, 3) := by decide +kernel
theorem dX5_becomes_10 : decode cX5_becomes 10 = .ok (.iconst 0, 1) := by decide +kernel
theorem dX5_becomes_11 : decode cX5_becomes 11 = .ok (.ireturn, 1) := by decide +kernel
theorem dX5_becomes_12 : decode cX5_becomes 12 = .ok (.aload_n 1, 1) := by decide +kernel
theorem dX5_becomes_13 : decode cX5_becomes 13 = .ok (.iload_n 2, 1) := by decide +kernel
theorem dX5_becomes_14 : decode cX5_becomes 14 = .ok (.putfield 107, 3) := by decide +kernel
theorem dX5_becomes_17 : decode cX5_becomes 17 = .ok (.aload_n 1, 1) := by decide +kernel
theorem dX5_becomes_18 : decode cX5_becomes 18 = .ok (.iload_n 3, 1) := by decide +kernel
theorem dX5_becomes_19 : decode cX5_becomes 19 = .ok (.putfield 112, 3) := by decide +kernel
theorem dX5_becomes_22 : decode cX5_becomes 22 = .ok (.iconst 1, 1) := by decide +kernel
theorem dX5_becomes_23 : decode cX5_becomes 23 = .ok (.ireturn, 1) := by decide +kernel
theorem dX5_binds_0 : decode cX5_binds 0 = .ok (.iload_n 2, 1) := by decide +kernel
theorem dX5_binds_1 : decode cX5_binds 1 = .ok (.ifCond .lt 9, 3) := by decide +kernel
theorem dX5_binds_4 : decode cX5_binds 4 = .ok (.iload_n 2, 1) := by decide +kernel
theorem dX5_binds_5 : decode cX5_binds 5 = .ok (.bipush 8, 2) := by decide +kernel
theorem dX5_binds_7 : decode cX5_binds 7 = .ok (.if_icmp .le 5, 3) := by decide +kernel
theorem dX5_binds_10 : decode cX5_binds 10 = .ok (.iconst 0, 1) := by decide +kernel
theorem dX5_binds_11 : decode cX5_binds 11 = .ok (.ireturn, 1) := by decide +kernel
theorem dX5_binds_12 : decode cX5_binds 12 = .ok (.aload_n 1, 1) := by decide +kernel
theorem dX5_binds_13 : decode cX5_binds 13 = .ok (.iload_n 2, 1) := by decide +kernel
theorem dX5_binds_14 : decode cX5_binds 14 = .ok (.putfield 115, 3) := by decide +kernel
theorem dX5_binds_17 : decode cX5_binds 17 = .ok (.iconst 1, 1) := by decide +kernel
theorem dX5_binds_18 : decode cX5_binds 18 = .ok (.ireturn, 1) := by decide +kernel
theorem dX5_breaks_0 : decode cX5_breaks 0 = .ok (.aload_n 2, 1) := by decide +kernel
theorem dX5_breaks_1 : decode cX5_breaks 1 = .ok (.iload_n 3, 1) := by decide +kernel
theorem dX5_breaks_2 : decode cX5_breaks 2 = .ok (.invokevirtual 132, 3) := by decide +kernel
theorem dX5_breaks_5 : decode cX5_breaks 5 = .ok (.ifCond .eq 15, 3) := by decide +kernel
theorem dX5_breaks_8 : decode cX5_breaks 8 = .ok (.aload_n 2, 1) := by decide +kernel
theorem dX5_breaks_9 : decode cX5_breaks 9 = .ok (.getfield 154, 3) := by decide +kernel
theorem dX5_breaks_12 : decode cX5_breaks 12 = .ok (.iload_n 3, 1) := by decide +kernel
theorem dX5_breaks_13 : decode cX5_breaks 13 = .ok (.aaload, 1) := by decide +kernel
theorem dX5_breaks_14 : decode cX5_breaks 14 = .ok (.invokevirtual 158, 3) := by decide +kernel
theorem dX5_breaks_17 : decode cX5_breaks 17 = .ok (.ifCond .ne 5, 3) := by decide +kernel
theorem dX5_breaks_20 : decode cX5_breaks 20 = .ok (.iconst 0, 1) := by decide +kernel
theorem dX5_breaks_21 : decode cX5_breaks 21 = .ok (.ireturn, 1) := by decide +kernel
theorem dX5_breaks_22 : decode cX5_breaks 22 = .ok (.iload 4, 2) := by decide +kernel
theorem dX5_breaks_24 : decode cX5_breaks 24 = .ok (.ifCond .lt 20, 3) := by decide +kernel
theorem dX5_breaks_27 : decode cX5_breaks 27 = .ok (.iload 4, 2) := by decide +kernel
theorem dX5_breaks_29 : decode cX5_breaks 29 = .ok (.aload_n 2, 1) := by decide +kernel
theorem dX5_breaks_30 : decode cX5_breaks 30 = .ok (.getfield 154, 3) := by decide +kernel
theorem dX5_breaks_33 : decode cX5_breaks 33 = .ok (.iload_n 3, 1) := by decide +kernel
theorem dX5_breaks_34 : decode cX5_breaks 34 = .ok (.aaload, 1) := by decide +kernel
theorem dX5_breaks_35 : decode cX5_breaks 35 = .ok (.getfield 163, 3) := by decide +kernel
theorem dX5_breaks_38 : decode cX5_breaks 38 = .ok (.getfield 23, 3) := by decide +kernel
theorem dX5_breaks_41 : decode cX5_breaks 41 = .ok (.if_icmp .lt 5, 3) := by decide +kernel
theorem dX5_breaks_44 : decode cX5_breaks 44 = .ok (.iconst 0, 1) := by decide +kernel
theorem dX5_breaks_45 : decode cX5_breaks 45 = .ok (.ireturn, 1) := by decide +kernel
theorem dX5_breaks_46 : decode cX5_breaks 46 = .ok (.aload_n 2, 1) := by decide +kernel
theorem dX5_breaks_47 : decode cX5_breaks 47 = .ok (.iload_n 3, 1) := by decide +kernel
theorem dX5_breaks_48 : decode cX5_breaks 48 = .ok (.iload 4, 2) := by decide +kernel
theorem dX5_breaks_50 : decode cX5_breaks 50 = .ok (.aload_n 0, 1) := by decide +kernel
theorem dX5_breaks_51 : decode cX5_breaks 51 = .ok (.getfield 14, 3) := by decide +kernel
theorem dX5_breaks_54 : decode cX5_breaks 54 = .ok (.iload_n 1, 1) := by decide +kernel
theorem dX5_breaks_55 : decode cX5_breaks 55 = .ok (.invokevirtual 34, 3) := by decide +kernel
theorem dX5_breaks_58 : decode cX5_breaks 58 = .ok (.bipush 97, 2) := by decide +kernel
theorem dX5_breaks_60 : decode cX5_breaks 60 = .ok (.isub, 1) := by decide +kernel
theorem dX5_breaks_61 : decode cX5_breaks 61 = .ok (.invokevirtual 166, 3) := by decide +kernel
theorem dX5_breaks_64 : decode cX5_breaks 64 = .ok (.iconst 1, 1) := by decide +kernel
theorem dX5_breaks_65 : decode cX5_breaks 65 = .ok (.ireturn, 1) := by decide +kernel
theorem dX6_init_0 : decode cX6_init 0 = .ok (.aload_n 0, 1) := by decide +kernel
theorem dX6_init_1 : decode cX6_init 1 = .ok (.invokespecial 3, 3) := by decide +kernel
theorem dX6_init_4 : decode cX6_init 4 = .ok (.aload_n 0, 1) := by decide +kernel
theorem dX6_init_5 : decode cX6_init 5 = .ok (.new 9, 3) := by decide +kernel
theorem dX6_init_8 : decode cX6_init 8 = .ok (.dup, 1) := by decide +kernel
theorem dX6_init_9 : decode cX6_init 9 = .ok (.bipush 12, 2) := by decide +kernel
theorem dX6_init_11 : decode cX6_init 11 = .ok (.invokespecial 11, 3) := by decide +kernel
theorem dX6_init_14 : decode cX6_init 14 = .ok (.putfield 14, 3) := by decide +kernel
theorem dX6_init_17 : decode cX6_init 17 = .ok (.aload_n 0, 1) := by decide +kernel
theorem dX6_init_18 : decode cX6_init 18 = .ok (.new 20, 3) := by decide +kernel
theorem dX6_init_21 : decode cX6_init 21 = .ok (.dup, 1) := by decide +kernel
theorem dX6_init_22 : decode cX6_init 22 = .ok (.invokespecial 22, 3) := by decide +kernel
theorem dX6_init_25 : decode cX6_init 25 = .ok (.putfield 23, 3) := by decide +kernel
theorem dX6_init_28 : decode cX6_init 28 = .ok (.aload_n 0, 1) := by decide +kernel
theorem dX6_init_29 : decode cX6_init 29 = .ok (.iconst (-1), 1) := by decide +kernel
theorem dX6_init_30 : decode cX6_init 30 = .ok (.putfield 27, 3) := by decide +kernel
theorem dX6_init_33 : decode cX6_init 33 = .ok (.aload_n 0, 1) := by decide +kernel
theorem dX6_init_34 : decode cX6_init 34 = .ok (.iconst (-1), 1) := by decide +kernel
theorem dX6_init_35 : decode cX6_init 35 = .ok (.putfield 31, 3) := by decide +kernel
theorem dX6_init_38 : decode cX6_init 38 = .ok (.aload_n 0, 1) := by decide +kernel
theorem dX6_init_39 : decode cX6_init 39 = .ok (.iconst 0, 1) := by decide +kernel
theorem dX6_init_40 : decode cX6_init 40 = .ok (.putfield 34, 3) := by decide +kernel
theorem dX6_init_43 : decode cX6_init 43 = .ok (.aload_n 0, 1) := by decide +kernel
theorem dX6_init_44 : decode cX6_init 44 = .ok (.iconst 0, 1) := by decide +kernel
theorem dX6_init_45 : decode cX6_init 45 = .ok (.putfield 37, 3) := by decide +kernel
theorem dX6_init_48 : decode cX6_init 48 = .ok (.aload_n 0, 1) := by decide +kernel
theorem dX6_init_49 : decode cX6_init 49 = .ok (.iconst (-1), 1) := by decide +kernel
theorem dX6_init_50 : decode cX6_init 50 = .ok (.putfield 40, 3) := by decide +kernel
theorem dX6_init_53 : decode cX6_init 53 = .ok (.return_, 1) := by decide +kernel
theorem dX6_isWhole_0 : decode cX6_isWhole 0 = .ok (.aload_n 0, 1) := by decide +kernel
theorem dX6_isWhole_1 : decode cX6_isWhole 1 = .ok (.getfield 40, 3) := by decide +kernel
theorem dX6_isWhole_4 : decode cX6_isWhole 4 = .ok (.iconst (-1), 1) := by decide +kernel
theorem dX6_isWhole_5 : decode cX6_isWhole 5 = .ok (.if_icmp .ne 7, 3) := by decide +kernel
theorem dX6_isWhole_8 : decode cX6_isWhole 8 = .ok (.iconst 1, 1) := by decide +kernel
theorem dX6_isWhole_9 : decode cX6_isWhole 9 = .ok (.goto 4, 3) := by decide +kernel
theorem dX6_isWhole_12 : decode cX6_isWhole 12 = .ok (.iconst 0, 1) := by decide +kernel
theorem dX6_isWhole_13 : decode cX6_isWhole 13 = .ok (.ireturn, 1) := by decide +kernel
theorem dX6_wholeCost_0 : decode cX6_wholeCost 0 = .ok (.iconst 1, 1) := by decide +kernel
theorem dX6_wholeCost_1 : decode cX6_wholeCost 1 = .ok (.aload_n 0, 1) := by decide +kernel
theorem dX6_wholeCost_2 : decode cX6_wholeCost 2 = .ok (.getfield 14, 3) := by decide +kernel
theorem dX6_wholeCost_5 : decode cX6_wholeCost 5 = .ok (.getfield 43, 3) := by decide +kernel
theorem dX6_wholeCost_8 : decode cX6_wholeCost 8 = .ok (.iadd, 1) := by decide +kernel
theorem dX6_wholeCost_9 : decode cX6_wholeCost 9 = .ok (.ireturn, 1) := by decide +kernel
theorem dX6_cost_0 : decode cX6_cost 0 = .ok (.aload_n 0, 1) := by decide +kernel
theorem dX6_cost_1 : decode cX6_cost 1 = .ok (.invokevirtual 46, 3) := by decide +kernel
theorem dX6_cost_4 : decode cX6_cost 4 = .ok (.ifCond .eq 10, 3) := by decide +kernel
theorem dX6_cost_7 : decode cX6_cost 7 = .ok (.aload_n 0, 1) := by decide +kernel
theorem dX6_cost_8 : decode cX6_cost 8 = .ok (.invokevirtual 50, 3) := by decide +kernel
theorem dX6_cost_11 : decode cX6_cost 11 = .ok (.goto 10, 3) := by decide +kernel
theorem dX6_cost_14 : decode cX6_cost 14 = .ok (.aload_n 0, 1) := by decide +kernel
theorem dX6_cost_15 : decode cX6_cost 15 = .ok (.getfield 23, 3) := by decide +kernel
theorem dX6_cost_18 : decode cX6_cost 18 = .ok (.invokevirtual 54, 3) := by decide +kernel
theorem dX6_cost_21 : decode cX6_cost 21 = .ok (.ireturn, 1) := by decide +kernel
theorem dX6_isSound_0 : decode cX6_isSound 0 = .ok (.aload_n 0, 1) := by decide +kernel
theorem dX6_isSound_1 : decode cX6_isSound 1 = .ok (.getfield 14, 3) := by decide +kernel
theorem dX6_isSound_4 : decode cX6_isSound 4 = .ok (.invokevirtual 57, 3) := by decide +kernel
theorem dX6_isSound_7 : decode cX6_isSound 7 = .ok (.aload_n 0, 1) := by decide +kernel
theorem dX6_isSound_8 : decode cX6_isSound 8 = .ok (.getfield 37, 3) := by decide +kernel
theorem dX6_isSound_11 : decode cX6_isSound 11 = .ok (.if_icmp .ne 7, 3) := by decide +kernel
theorem dX6_isSound_14 : decode cX6_isSound 14 = .ok (.iconst 1, 1) := by decide +kernel
theorem dX6_isSound_15 : decode cX6_isSound 15 = .ok (.goto 4, 3) := by decide +kernel
theorem dX6_isSound_18 : decode cX6_isSound 18 = .ok (.iconst 0, 1) := by decide +kernel
theorem dX6_isSound_19 : decode cX6_isSound 19 = .ok (.ireturn, 1) := by decide +kernel
theorem dX6_leave_0 : decode cX6_leave 0 = .ok (.aload_n 0, 1) := by decide +kernel
theorem dX6_leave_1 : decode cX6_leave 1 = .ok (.invokevirtual 46, 3) := by decide +kernel
theorem dX6_leave_4 : decode cX6_leave 4 = .ok (.ifCond .ne 20, 3) := by decide +kernel
theorem dX6_leave_7 : decode cX6_leave 7 = .ok (.iload_n 1, 1) := by decide +kernel
theorem dX6_leave_8 : decode cX6_leave 8 = .ok (.aload_n 0, 1) := by decide +kernel
theorem dX6_leave_9 : decode cX6_leave 9 = .ok (.getfield 40, 3) := by decide +kernel
theorem dX6_leave_12 : decode cX6_leave 12 = .ok (.ishr, 1) := by decide +kernel
theorem dX6_leave_13 : decode cX6_leave 13 = .ok (.iconst 1, 1) := by decide +kernel
theorem dX6_leave_14 : decode cX6_leave 14 = .ok (.iand, 1) := by decide +kernel
theorem dX6_leave_15 : decode cX6_leave 15 = .ok (.iconst 1, 1) := by decide +kernel
theorem dX6_leave_16 : decode cX6_leave 16 = .ok (.if_icmp .ne 8, 3) := by decide +kernel
theorem dX6_leave_19 : decode cX6_leave 19 = .ok (.aload_n 0, 1) := by decide +kernel
theorem dX6_leave_20 : decode cX6_leave 20 = .ok (.iconst (-1), 1) := by decide +kernel
theorem dX6_leave_21 : decode cX6_leave 21 = .ok (.putfield 40, 3) := by decide +kernel
theorem dX6_leave_24 : decode cX6_leave 24 = .ok (.return_, 1) := by decide +kernel
theorem dX6_copyFrom_0 : decode cX6_copyFrom 0 = .ok (.aload_n 0, 1) := by decide +kernel
theorem dX6_copyFrom_1 : decode cX6_copyFrom 1 = .ok (.getfield 14, 3) := by decide +kernel
theorem dX6_copyFrom_4 : decode cX6_copyFrom 4 = .ok (.aload_n 1, 1) := by decide +kernel
theorem dX6_copyFrom_5 : decode cX6_copyFrom 5 = .ok (.getfield 14, 3) := by decide +kernel
theorem dX6_copyFrom_8 : decode cX6_copyFrom 8 = .ok (.invokevirtual 60, 3) := by decide +kernel
theorem dX6_copyFrom_11 : decode cX6_copyFrom 11 = .ok (.aload_n 0, 1) := by decide +kernel
theorem dX6_copyFrom_12 : decode cX6_copyFrom 12 = .ok (.getfield 23, 3) := by decide +kernel
theorem dX6_copyFrom_15 : decode cX6_copyFrom 15 = .ok (.aload_n 1, 1) := by decide +kernel
theorem dX6_copyFrom_16 : decode cX6_copyFrom 16 = .ok (.getfield 23, 3) := by decide +kernel
theorem dX6_copyFrom_19 : decode cX6_copyFrom 19 = .ok (.invokevirtual 64, 3) := by decide +kernel
theorem dX6_copyFrom_22 : decode cX6_copyFrom 22 = .ok (.aload_n 0, 1) := by decide +kernel
theorem dX6_copyFrom_23 : decode cX6_copyFrom 23 = .ok (.aload_n 1, 1) := by decide +kernel
theorem dX6_copyFrom_24 : decode cX6_copyFrom 24 = .ok (.getfield 27, 3) := by decide +kernel
theorem dX6_copyFrom_27 : decode cX6_copyFrom 27 = .ok (.putfield 27, 3) := by decide +kernel
theorem dX6_copyFrom_30 : decode cX6_copyFrom 30 = .ok (.aload_n 0, 1) := by decide +kernel
theorem dX6_copyFrom_31 : decode cX6_copyFrom 31 = .ok (.aload_n 1, 1) := by decide +kernel
theorem dX6_copyFrom_32 : decode cX6_copyFrom 32 = .ok (.getfield 31, 3) := by decide +kernel
theorem dX6_copyFrom_35 : decode cX6_copyFrom 35 = .ok (.putfield 31, 3) := by decide +kernel
theorem dX6_copyFrom_38 : decode cX6_copyFrom 38 = .ok (.aload_n 0, 1) := by decide +kernel
theorem dX6_copyFrom_39 : decode cX6_copyFrom 39 = .ok (.aload_n 1, 1) := by decide +kernel
theorem dX6_copyFrom_40 : decode cX6_copyFrom 40 = .ok (.getfield 34, 3) := by decide +kernel
theorem dX6_copyFrom_43 : decode cX6_copyFrom 43 = .ok (.putfield 34, 3) := by decide +kernel
theorem dX6_copyFrom_46 : decode cX6_copyFrom 46 = .ok (.aload_n 0, 1) := by decide +kernel
theorem dX6_copyFrom_47 : decode cX6_copyFrom 47 = .ok (.aload_n 1, 1) := by decide +kernel
theorem dX6_copyFrom_48 : decode cX6_copyFrom 48 = .ok (.getfield 37, 3) := by decide +kernel
theorem dX6_copyFrom_51 : decode cX6_copyFrom 51 = .ok (.putfield 37, 3) := by decide +kernel
theorem dX6_copyFrom_54 : decode cX6_copyFrom 54 = .ok (.aload_n 0, 1) := by decide +kernel
theorem dX6_copyFrom_55 : decode cX6_copyFrom 55 = .ok (.aload_n 1, 1) := by decide +kernel
theorem dX6_copyFrom_56 : decode cX6_copyFrom 56 = .ok (.getfield 40, 3) := by decide +kernel
theorem dX6_copyFrom_59 : decode cX6_copyFrom 59 = .ok (.putfield 40, 3) := by decide +kernel
theorem dX6_copyFrom_62 : decode cX6_copyFrom 62 = .ok (.return_, 1) := by decide +kernel
theorem dX7_init_0 : decode cX7_init 0 = .ok (.aload_n 0, 1) := by decide +kernel
theorem dX7_init_1 : decode cX7_init 1 = .ok (.invokespecial 1, 3) := by decide +kernel
theorem dX7_init_4 : decode cX7_init 4 = .ok (.aload_n 0, 1) := by decide +kernel
theorem dX7_init_5 : decode cX7_init 5 = .ok (.new 7, 3) := by decide +kernel
theorem dX7_init_8 : decode cX7_init 8 = .ok (.dup, 1) := by decide +kernel
theorem dX7_init_9 : decode cX7_init 9 = .ok (.invokespecial 9, 3) := by decide +kernel
theorem dX7_init_12 : decode cX7_init 12 = .ok (.putfield 10, 3) := by decide +kernel
theorem dX7_init_15 : decode cX7_init 15 = .ok (.aload_n 0, 1) := by decide +kernel
theorem dX7_init_16 : decode cX7_init 16 = .ok (.new 7, 3) := by decide +kernel
theorem dX7_init_19 : decode cX7_init 19 = .ok (.dup, 1) := by decide +kernel
theorem dX7_init_20 : decode cX7_init 20 = .ok (.invokespecial 9, 3) := by decide +kernel
theorem dX7_init_23 : decode cX7_init 23 = .ok (.putfield 16, 3) := by decide +kernel
theorem dX7_init_26 : decode cX7_init 26 = .ok (.aload_n 0, 1) := by decide +kernel
theorem dX7_init_27 : decode cX7_init 27 = .ok (.new 7, 3) := by decide +kernel
theorem dX7_init_30 : decode cX7_init 30 = .ok (.dup, 1) := by decide +kernel
theorem dX7_init_31 : decode cX7_init 31 = .ok (.invokespecial 9, 3) := by decide +kernel
theorem dX7_init_34 : decode cX7_init 34 = .ok (.putfield 19, 3) := by decide +kernel
theorem dX7_init_37 : decode cX7_init 37 = .ok (.aload_n 0, 1) := by decide +kernel
theorem dX7_init_38 : decode cX7_init 38 = .ok (.new 22, 3) := by decide +kernel
theorem dX7_init_41 : decode cX7_init 41 = .ok (.dup, 1) := by decide +kernel
theorem dX7_init_42 : decode cX7_init 42 = .ok (.invokespecial 24, 3) := by decide +kernel
theorem dX7_init_45 : decode cX7_init 45 = .ok (.putfield 25, 3) := by decide +kernel
theorem dX7_init_48 : decode cX7_init 48 = .ok (.aload_n 0, 1) := by decide +kernel
theorem dX7_init_49 : decode cX7_init 49 = .ok (.new 29, 3) := by decide +kernel
theorem dX7_init_52 : decode cX7_init 52 = .ok (.dup, 1) := by decide +kernel
theorem dX7_init_53 : decode cX7_init 53 = .ok (.invokespecial 31, 3) := by decide +kernel
theorem dX7_init_56 : decode cX7_init 56 = .ok (.putfield 32, 3) := by decide +kernel
theorem dX7_init_59 : decode cX7_init 59 = .ok (.aload_n 0, 1) := by decide +kernel
theorem dX7_init_60 : decode cX7_init 60 = .ok (.new 36, 3) := by decide +kernel
theorem dX7_init_63 : decode cX7_init 63 = .ok (.dup, 1) := by decide +kernel
theorem dX7_init_64 : decode cX7_init 64 = .ok (.invokespecial 38, 3) := by decide +kernel
theorem dX7_init_67 : decode cX7_init 67 = .ok (.putfield 39, 3) := by decide +kernel
theorem dX7_init_70 : decode cX7_init 70 = .ok (.aload_n 0, 1) := by decide +kernel
theorem dX7_init_71 : decode cX7_init 71 = .ok (.new 43, 3) := by decide +kernel
theorem dX7_init_74 : decode cX7_init 74 = .ok (.dup, 1) := by decide +kernel
theorem dX7_init_75 : decode cX7_init 75 = .ok (.bipush 12, 2) := by decide +kernel
theorem dX7_init_77 : decode cX7_init 77 = .ok (.invokespecial 45, 3) := by decide +kernel
theorem dX7_init_80 : decode cX7_init 80 = .ok (.putfield 48, 3) := by decide +kernel
theorem dX7_init_83 : decode cX7_init 83 = .ok (.aload_n 0, 1) := by decide +kernel
theorem dX7_init_84 : decode cX7_init 84 = .ok (.new 52, 3) := by decide +kernel
theorem dX7_init_87 : decode cX7_init 87 = .ok (.dup, 1) := by decide +kernel
theorem dX7_init_88 : decode cX7_init 88 = .ok (.invokespecial 54, 3) := by decide +kernel
theorem dX7_init_91 : decode cX7_init 91 = .ok (.putfield 55, 3) := by decide +kernel
theorem dX7_init_94 : decode cX7_init 94 = .ok (.aload_n 0, 1) := by decide +kernel
theorem dX7_init_95 : decode cX7_init 95 = .ok (.bipush 7, 2) := by decide +kernel
theorem dX7_init_97 : decode cX7_init 97 = .ok (.newarray .int, 2) := by decide +kernel
theorem dX7_init_99 : decode cX7_init 99 = .ok (.putfield 59, 3) := by decide +kernel
theorem dX7_init_102 : decode cX7_init 102 = .ok (.aload_n 0, 1) := by decide +kernel
theorem dX7_init_103 : decode cX7_init 103 = .ok (.iconst 0, 1) := by decide +kernel
theorem dX7_init_104 : decode cX7_init 104 = .ok (.putfield 63, 3) := by decide +kernel
theorem dX7_init_107 : decode cX7_init 107 = .ok (.return_, 1) := by decide +kernel
theorem dX7_letter_0 : decode cX7_letter 0 = .ok (.iload_n 1, 1) := by decide +kernel
theorem dX7_letter_1 : decode cX7_letter 1 = .ok (.ifCond .ge 10, 3) := by decide +kernel
theorem dX7_letter_4 : decode cX7_letter 4 = .ok (.aload_n 0, 1) := by decide +kernel
theorem dX7_letter_5 : decode cX7_letter 5 = .ok (.bipush (-4), 2) := by decide +kernel
theorem dX7_letter_7 : decode cX7_letter 7 = .ok (.invokevirtual 67, 3) := by decide +kernel
theorem dX7_letter_10 : decode cX7_letter 10 = .ok (.ireturn, 1) := by decide +kernel
theorem dX7_letter_11 : decode cX7_letter 11 = .ok (.iload_n 1, 1) := by decide +kernel
theorem dX7_letter_12 : decode cX7_letter 12 = .ok (.sipush 255, 3) := by decide +kernel
theorem dX7_letter_15 : decode cX7_letter 15 = .ok (.if_icmp .gt 16, 3) := by decide +kernel
theorem dX7_letter_18 : decode cX7_letter 18 = .ok (.aload_n 0, 1) := by decide +kernel
theorem dX7_letter_19 : decode cX7_letter 19 = .ok (.getfield 39, 3) := by decide +kernel
theorem dX7_letter_22 : decode cX7_letter 22 = .ok (.getfield 71, 3) := by decide +kernel
theorem dX7_letter_25 : decode cX7_letter 25 = .ok (.invokevirtual 74, 3) := by decide +kernel
theorem dX7_letter_28 : decode cX7_letter 28 = .ok (.ifCond .eq 10, 3) := by decide +kernel
theorem dX7_letter_31 : decode cX7_letter 31 = .ok (.aload_n 0, 1) := by decide +kernel
theorem dX7_letter_32 : decode cX7_letter 32 = .ok (.bipush (-6), 2) := by decide +kernel
theorem dX7_letter_34 : decode cX7_letter 34 = .ok (.invokevirtual 67, 3) := by decide +kernel
theorem dX7_letter_37 : decode cX7_letter 37 = .ok (.ireturn, 1) := by decide +kernel
theorem dX7_letter_38 : decode cX7_letter 38 = .ok (.aload_n 0, 1) := by decide +kernel
theorem dX7_letter_39 : decode cX7_letter 39 = .ok (.getfield 39, 3) := by decide +kernel
theorem dX7_letter_42 : decode cX7_letter 42 = .ok (.getfield 71, 3) := by decide +kernel
theorem dX7_letter_45 : decode cX7_letter 45 = .ok (.iload_n 1, 1) := by decide +kernel
theorem dX7_letter_46 : decode cX7_letter 46 = .ok (.invokevirtual 78, 3) := by decide +kernel
theorem dX7_letter_49 : decode cX7_letter 49 = .ok (.aload_n 0, 1) := by decide +kernel
theorem dX7_letter_50 : decode cX7_letter 50 = .ok (.getfield 39, 3) := by decide +kernel
theorem dX7_letter_53 : decode cX7_letter 53 = .ok (.getfield 71, 3) := by decide +kernel
theorem dX7_letter_56 : decode cX7_letter 56 = .ok (.getfield 81, 3) := by decide +kernel
theorem dX7_letter_59 : decode cX7_letter 59 = .ok (.ireturn, 1) := by decide +kernel
theorem dX7_archive_0 : decode cX7_archive 0 = .ok (.aload_n 0, 1) := by decide +kernel
theorem dX7_archive_1 : decode cX7_archive 1 = .ok (.getfield 39, 3) := by decide +kernel
theorem dX7_archive_4 : decode cX7_archive 4 = .ok (.invokevirtual 85, 3) := by decide +kernel
theorem dX7_archive_7 : decode cX7_archive 7 = .ok (.istore_n 1, 1) := by decide +kernel
theorem dX7_archive_8 : decode cX7_archive 8 = .ok (.iload_n 1, 1) := by decide +kernel
theorem dX7_archive_9 : decode cX7_archive 9 = .ok (.iconst (-1), 1) := by decide +kernel
theorem dX7_archive_10 : decode cX7_archive 10 = .ok (.if_icmp .ne 7, 3) := by decide +kernel
theorem dX7_archive_13 : decode cX7_archive 13 = .ok (.iconst 0, 1) := by decide +kernel
theorem dX7_archive_14 : decode cX7_archive 14 = .ok (.goto 8, 3) := by decide +kernel
theorem dX7_archive_17 : decode cX7_archive 17 = .ok (.sipush (-1000), 3) := by decide +kernel
theorem dX7_archive_20 : decode cX7_archive 20 = .ok (.iload_n 1, 1) := by decide +kernel
theorem dX7_archive_21 : decode cX7_archive 21 = .ok (.isub, 1) := by decide +kernel
theorem dX7_archive_22 : decode cX7_archive 22 = .ok (.istore_n 2, 1) := by decide +kernel
theorem dX7_archive_23 : decode cX7_archive 23 = .ok (.aload_n 0, 1) := by decide +kernel
theorem dX7_archive_24 : decode cX7_archive 24 = .ok (.getfield 19, 3) := by decide +kernel
theorem dX7_archive_27 : decode cX7_archive 27 = .ok (.aload_n 0, 1) := by decide +kernel
theorem dX7_archive_28 : decode cX7_archive 28 = .ok (.getfield 10, 3) := by decide +kernel
theorem dX7_archive_31 : decode cX7_archive 31 = .ok (.invokevirtual 89, 3) := by decide +kernel
theorem dX7_archive_34 : decode cX7_archive 34 = .ok (.iconst 0, 1) := by decide +kernel
theorem dX7_archive_35 : decode cX7_archive 35 = .ok (.istore_n 3, 1) := by decide +kernel
theorem dX7_archive_36 : decode cX7_archive 36 = .ok (.iload_n 3, 1) := by decide +kernel
theorem dX7_archive_37 : decode cX7_archive 37 = .ok (.aload_n 0, 1) := by decide +kernel
theorem dX7_archive_38 : decode cX7_archive 38 = .ok (.getfield 39, 3) := by decide +kernel
theorem dX7_archive_41 : decode cX7_archive 41 = .ok (.getfield 71, 3) := by decide +kernel
theorem dX7_archive_44 : decode cX7_archive 44 = .ok (.getfield 81, 3) := by decide +kernel
theorem dX7_archive_47 : decode cX7_archive 47 = .ok (.if_icmp .ge 56, 3) := by decide +kernel
theorem dX7_archive_50 : decode cX7_archive 50 = .ok (.iload_n 2, 1) := by decide +kernel
theorem dX7_archive_51 : decode cX7_archive 51 = .ok (.ifCond .lt 52, 3) := by decide +kernel
theorem dX7_archive_54 : decode cX7_archive 54 = .ok (.aload_n 0, 1) := by decide +kernel
theorem dX7_archive_55 : decode cX7_archive 55 = .ok (.getfield 39, 3) := by decide +kernel
theorem dX7_archive_58 : decode cX7_archive 58 = .ok (.iload_n 3, 1) := by decide +kernel
theorem dX7_archive_59 : decode cX7_archive 59 = .ok (.aload_n 0, 1) := by decide +kernel
theorem dX7_archive_60 : decode cX7_archive 60 = .ok (.getfield 19, 3) := by decide +kernel
theorem dX7_archive_63 : decode cX7_archive 63 = .ok (.aload_n 0, 1) := by decide +kernel
theorem dX7_archive_64 : decode cX7_archive 64 = .ok (.getfield 25, 3) := by decide +kernel
theorem dX7_archive_67 : decode cX7_archive 67 = .ok (.invokevirtual 93, 3) := by decide +kernel
theorem dX7_archive_70 : decode cX7_archive 70 = .ok (.ifCond .eq 9, 3) := by decide +kernel
theorem dX7_archive_73 : decode cX7_archive 73 = .ok (.iload_n 2, 1) := by decide +kernel
theorem dX7_archive_74 : decode cX7_archive 74 = .ok (.iconst 1, 1) := by decide +kernel
theorem dX7_archive_75 : decode cX7_archive 75 = .ok (.iadd, 1) := by decide +kernel
theorem dX7_archive_76 : decode cX7_archive 76 = .ok (.goto 8, 3) := by decide +kernel
theorem dX7_archive_79 : decode cX7_archive 79 = .ok (.sipush (-2000), 3) := by decide +kernel
theorem dX7_archive_82 : decode cX7_archive 82 = .ok (.iload_n 3, 1) := by decide +kernel
theorem dX7_archive_83 : decode cX7_archive 83 = .ok (.isub, 1) := by decide +kernel
theorem dX7_archive_84 : decode cX7_archive 84 = .ok (.istore_n 2, 1) := by decide +kernel
theorem dX7_archive_85 : decode cX7_archive 85 = .ok (.iload_n 3, 1) := by decide +kernel
theorem dX7_archive_86 : decode cX7_archive 86 = .ok (.iconst 1, 1) := by decide +kernel
theorem dX7_archive_87 : decode cX7_archive 87 = .ok (.iadd, 1) := by decide +kernel
theorem dX7_archive_88 : decode cX7_archive 88 = .ok (.aload_n 0, 1) := by decide +kernel
theorem dX7_archive_89 : decode cX7_archive 89 = .ok (.getfield 39, 3) := by decide +kernel
theorem dX7_archive_92 : decode cX7_archive 92 = .ok (.iload_n 3, 1) := by decide +kernel
theorem dX7_archive_93 : decode cX7_archive 93 = .ok (.invokevirtual 97, 3) := by decide +kernel
theorem dX7_archive_96 : decode cX7_archive 96 = .ok (.invokestatic 100, 3) := by decide +kernel
theorem dX7_archive_99 : decode cX7_archive 99 = .ok (.istore_n 3, 1) := by decide +kernel
theorem dX7_archive_100 : decode cX7_archive 100 = .ok (.goto (-64), 3) := by decide +kernel
theorem dX7_archive_103 : decode cX7_archive 103 = .ok (.iload_n 2, 1) := by decide +kernel
theorem dX7_archive_104 : decode cX7_archive 104 = .ok (.ifCond .lt 14, 3) := by decide +kernel
theorem dX7_archive_107 : decode cX7_archive 107 = .ok (.aload_n 0, 1) := by decide +kernel
theorem dX7_archive_108 : decode cX7_archive 108 = .ok (.getfield 10, 3) := by decide +kernel
theorem dX7_archive_111 : decode cX7_archive 111 = .ok (.aload_n 0, 1) := by decide +kernel
theorem dX7_archive_112 : decode cX7_archive 112 = .ok (.getfield 19, 3) := by decide +kernel
theorem dX7_archive_115 : decode cX7_archive 115 = .ok (.invokevirtual 89, 3) := by decide +kernel
theorem dX7_archive_118 : decode cX7_archive 118 = .ok (.aload_n 0, 1) := by decide +kernel
theorem dX7_archive_119 : decode cX7_archive 119 = .ok (.getfield 39, 3) := by decide +kernel
theorem dX7_archive_122 : decode cX7_archive 122 = .ok (.getfield 71, 3) := by decide +kernel
theorem dX7_archive_125 : decode cX7_archive 125 = .ok (.invokevirtual 106, 3) := by decide +kernel
theorem dX7_archive_128 : decode cX7_archive 128 = .ok (.iload_n 2, 1) := by decide +kernel
theorem dX7_archive_129 : decode cX7_archive 129 = .ok (.ireturn, 1) := by decide +kernel
theorem dX7_edits_0 : decode cX7_edits 0 = .ok (.aload_n 0, 1) := by decide +kernel
theorem dX7_edits_1 : decode cX7_edits 1 = .ok (.getfield 10, 3) := by decide +kernel
theorem dX7_edits_4 : decode cX7_edits 4 = .ok (.iload_n 1, 1) := by decide +kernel
theorem dX7_edits_5 : decode cX7_edits 5 = .ok (.invokevirtual 109, 3) := by decide +kernel
theorem dX7_edits_8 : decode cX7_edits 8 = .ok (.ifCond .ne 9, 3) := by decide +kernel
theorem dX7_edits_11 : decode cX7_edits 11 = .ok (.aload_n 0, 1) := by decide +kernel
theorem dX7_edits_12 : decode cX7_edits 12 = .ok (.iconst (-1), 1) := by decide +kernel
theorem dX7_edits_13 : decode cX7_edits 13 = .ok (.invokevirtual 67, 3) := by decide +kernel
theorem dX7_edits_16 : decode cX7_edits 16 = .ok (.ireturn, 1) := by decide +kernel
theorem dX7_edits_17 : decode cX7_edits 17 = .ok (.aload_n 0, 1) := by decide +kernel
theorem dX7_edits_18 : decode cX7_edits 18 = .ok (.getfield 10, 3) := by decide +kernel
theorem dX7_edits_21 : decode cX7_edits 21 = .ok (.getfield 113, 3) := by decide +kernel
theorem dX7_edits_24 : decode cX7_edits 24 = .ok (.iload_n 1, 1) := by decide +kernel
theorem dX7_edits_25 : decode cX7_edits 25 = .ok (.aaload, 1) := by decide +kernel
theorem dX7_edits_26 : decode cX7_edits 26 = .ok (.getfield 117, 3) := by decide +kernel
theorem dX7_edits_29 : decode cX7_edits 29 = .ok (.getfield 81, 3) := by decide +kernel
theorem dX7_edits_32 : decode cX7_edits 32 = .ok (.istore 4, 2) := by decide +kernel
theorem dX7_edits_34 : decode cX7_edits 34 = .ok (.iload_n 2, 1) := by decide +kernel
theorem dX7_edits_35 : decode cX7_edits 35 = .ok (.ifCond .lt 9, 3) := by decide +kernel
theorem dX7_edits_38 : decode cX7_edits 38 = .ok (.iload_n 2, 1) := by decide +kernel
theorem dX7_edits_39 : decode cX7_edits 39 = .ok (.iload 4, 2) := by decide +kernel
theorem dX7_edits_41 : decode cX7_edits 41 = .ok (.if_icmp .le 9, 3) := by decide +kernel
theorem dX7_edits_44 : decode cX7_edits 44 = .ok (.aload_n 0, 1) := by decide +kernel
theorem dX7_edits_45 : decode cX7_edits 45 = .ok (.iconst (-1), 1) := by decide +kernel
theorem dX7_edits_46 : decode cX7_edits 46 = .ok (.invokevirtual 67, 3) := by decide +kernel
theorem dX7_edits_49 : decode cX7_edits 49 = .ok (.ireturn, 1) := by decide +kernel
theorem dX7_edits_50 : decode cX7_edits 50 = .ok (.iload_n 3, 1) := by decide +kernel
theorem dX7_edits_51 : decode cX7_edits 51 = .ok (.ifCond .lt 9, 3) := by decide +kernel
theorem dX7_edits_54 : decode cX7_edits 54 = .ok (.iload_n 3, 1) := by decide +kernel
theorem dX7_edits_55 : decode cX7_edits 55 = .ok (.bipush 8, 2) := by decide +kernel
theorem dX7_edits_57 : decode cX7_edits 57 = .ok (.if_icmp .le 10, 3) := by decide +kernel
theorem dX7_edits_60 : decode cX7_edits 60 = .ok (.aload_n 0, 1) := by decide +kernel
theorem dX7_edits_61 : decode cX7_edits 61 = .ok (.bipush (-2), 2) := by decide +kernel
theorem dX7_edits_63 : decode cX7_edits 63 = .ok (.invokevirtual 67, 3) := by decide +kernel
theorem dX7_edits_66 : decode cX7_edits 66 = .ok (.ireturn, 1) := by decide +kernel
theorem dX7_edits_67 : decode cX7_edits 67 = .ok (.iload_n 3, 1) := by decide +kernel
theorem dX7_edits_68 : decode cX7_edits 68 = .ok (.bipush 8, 2) := by decide +kernel
theorem dX7_edits_70 : decode cX7_edits 70 = .ok (.if_icmp .ne 22, 3) := by decide +kernel
theorem dX7_edits_73 : decode cX7_edits 73 = .ok (.iload 4, 2) := by decide +kernel
theorem dX7_edits_75 : decode cX7_edits 75 = .ok (.iconst 1, 1) := by decide +kernel
theorem dX7_edits_76 : decode cX7_edits 76 = .ok (.if_icmp .eq 9, 3) := by decide +kernel
theorem dX7_edits_79 : decode cX7_edits 79 = .ok (.iload_n 2, 1) := by decide +kernel
theorem dX7_edits_80 : decode cX7_edits 80 = .ok (.iload 4, 2) := by decide +kernel
theorem dX7_edits_82 : decode cX7_edits 82 = .ok (.if_icmp .ne 10, 3) := by decide +kernel
theorem dX7_edits_85 : decode cX7_edits 85 = .ok (.aload_n 0, 1) := by decide +kernel
theorem dX7_edits_86 : decode cX7_edits 86 = .ok (.bipush (-3), 2) := by decide +kernel
theorem dX7_edits_88 : decode cX7_edits 88 = .ok (.invokevirtual 67, 3) := by decide +kernel
theorem dX7_edits_91 : decode cX7_edits 91 = .ok (.ireturn, 1) := by decide +kernel
theorem dX7_edits_92 : decode cX7_edits 92 = .ok (.iload_n 2, 1) := by decide +kernel
theorem dX7_edits_93 : decode cX7_edits 93 = .ok (.bipush 12, 2) := by decide +kernel
theorem dX7_edits_95 : decode cX7_edits 95 = .ok (.if_icmp .eq 13, 3) := by decide +kernel
theorem dX7_edits_98 : decode cX7_edits 98 = .ok (.aload_n 0, 1) := by decide +kernel
theorem dX7_edits_99 : decode cX7_edits 99 = .ok (.getfield 10, 3) := by decide +kernel
theorem dX7_edits_102 : decode cX7_edits 102 = .ok (.invokevirtual 122, 3) := by decide +kernel
theorem dX7_edits_105 : decode cX7_edits 105 = .ok (.ifCond .ne 10, 3) := by decide +kernel
theorem dX7_edits_108 : decode cX7_edits 108 = .ok (.aload_n 0, 1) := by decide +kernel
theorem dX7_edits_109 : decode cX7_edits 109 = .ok (.bipush (-6), 2) := by decide +kernel
theorem dX7_edits_111 : decode cX7_edits 111 = .ok (.invokevirtual 67, 3) := by decide +kernel
theorem dX7_edits_114 : decode cX7_edits 114 = .ok (.ireturn, 1) := by decide +kernel
theorem dX7_edits_115 : decode cX7_edits 115 = .ok (.aload_n 0, 1) := by decide +kernel
theorem dX7_edits_116 : decode cX7_edits 116 = .ok (.getfield 10, 3) := by decide +kernel
theorem dX7_edits_119 : decode cX7_edits 119 = .ok (.iload_n 1, 1) := by decide +kernel
theorem dX7_edits_120 : decode cX7_edits 120 = .ok (.iload_n 2, 1) := by decide +kernel
theorem dX7_edits_121 : decode cX7_edits 121 = .ok (.iload_n 3, 1) := by decide +kernel
theorem dX7_edits_122 : decode cX7_edits 122 = .ok (.invokevirtual 125, 3) := by decide +kernel
theorem dX7_edits_125 : decode cX7_edits 125 = .ok (.ireturn, 1) := by decide +kernel
theorem dX7_merges_0 : decode cX7_merges 0 = .ok (.aload_n 0, 1) := by decide +kernel
theorem dX7_merges_1 : decode cX7_merges 1 = .ok (.getfield 10, 3) := by decide +kernel
theorem dX7_merges_4 : decode cX7_merges 4 = .ok (.iload_n 1, 1) := by decide +kernel
theorem dX7_merges_5 : decode cX7_merges 5 = .ok (.invokevirtual 109, 3) := by decide +kernel
theorem dX7_merges_8 : decode cX7_merges 8 = .ok (.ifCond .eq 14, 3) := by decide +kernel
theorem dX7_merges_11 : decode cX7_merges 11 = .ok (.aload_n 0, 1) := by decide +kernel
theorem dX7_merges_12 : decode cX7_merges 12 = .ok (.getfield 10, 3) := by decide +kernel
theorem dX7_merges_15 : decode cX7_merges 15 = .ok (.iload_n 2, 1) := by decide +kernel
theorem dX7_merges_16 : decode cX7_merges 16 = .ok (.invokevirtual 109, 3) := by decide +kernel
theorem dX7_merges_19 : decode cX7_merges 19 = .ok (.ifCond .ne 9, 3) := by decide +kernel
theorem dX7_merges_22 : decode cX7_merges 22 = .ok (.aload_n 0, 1) := by decide +kernel
theorem dX7_merges_23 : decode cX7_merges 23 = .ok (.iconst (-1), 1) := by decide +kernel
theorem dX7_merges_24 : decode cX7_merges 24 = .ok (.invokevirtual 67, 3) := by decide +kernel
theorem dX7_merges_27 : decode cX7_merges 27 = .ok (.ireturn, 1) := by decide +kernel
theorem dX7_merges_28 : decode cX7_merges 28 = .ok (.iload_n 1, 1) := by decide +kernel
theorem dX7_merges_29 : decode cX7_merges 29 = .ok (.iload_n 2, 1) := by decide +kernel
theorem dX7_merges_30 : decode cX7_merges 30 = .ok (.if_icmp .ne 10, 3) := by decide +kernel
theorem dX7_merges_33 : decode cX7_merges 33 = .ok (.aload_n 0, 1) := by decide +kernel
theorem dX7_merges_34 : decode cX7_merges 34 = .ok (.bipush (-3), 2) := by decide +kernel
theorem dX7_merges_36 : decode cX7_merges 36 = .ok (.invokevirtual 67, 3) := by decide +kernel
theorem dX7_merges_39 : decode cX7_merges 39 = .ok (.ireturn, 1) := by decide +kernel
theorem dX7_merges_40 : decode cX7_merges 40 = .ok (.aload_n 0, 1) := by decide +kernel
theorem dX7_merges_41 : decode cX7_merges 41 = .ok (.getfield 10, 3) := by decide +kernel
theorem dX7_merges_44 : decode cX7_merges 44 = .ok (.invokevirtual 122, 3) := by decide +kernel
theorem dX7_merges_47 : decode cX7_merges 47 = .ok (.ifCond .ne 10, 3) := by decide +kernel
theorem dX7_merges_50 : decode cX7_merges 50 = .ok (.aload_n 0, 1) := by decide +kernel
theorem dX7_merges_51 : decode cX7_merges 51 = .ok (.bipush (-6), 2) := by decide +kernel
theorem dX7_merges_53 : decode cX7_merges 53 = .ok (.invokevirtual 67, 3) := by decide +kernel
theorem dX7_merges_56 : decode cX7_merges 56 = .ok (.ireturn, 1) := by decide +kernel
theorem dX7_merges_57 : decode cX7_merges 57 = .ok (.aload_n 0, 1) := by decide +kernel
theorem dX7_merges_58 : decode cX7_merges 58 = .ok (.getfield 10, 3) := by decide +kernel
theorem dX7_merges_61 : decode cX7_merges 61 = .ok (.iload_n 1, 1) := by decide +kernel
theorem dX7_merges_62 : decode cX7_merges 62 = .ok (.iload_n 2, 1) := by decide +kernel
theorem dX7_merges_63 : decode cX7_merges 63 = .ok (.aload_n 0, 1) := by decide +kernel
theorem dX7_merges_64 : decode cX7_merges 64 = .ok (.getfield 10, 3) := by decide +kernel
theorem dX7_merges_67 : decode cX7_merges 67 = .ok (.getfield 113, 3) := by decide +kernel
theorem dX7_merges_70 : decode cX7_merges 70 = .ok (.iload_n 1, 1) := by decide +kernel
theorem dX7_merges_71 : decode cX7_merges 71 = .ok (.aaload, 1) := by decide +kernel
theorem dX7_merges_72 : decode cX7_merges 72 = .ok (.getfield 117, 3) := by decide +kernel
theorem dX7_merges_75 : decode cX7_merges 75 = .ok (.invokevirtual 129, 3) := by decide +kernel
theorem dX7_merges_78 : decode cX7_merges 78 = .ok (.ireturn, 1) := by decide +kernel
theorem dX7_heads_0 : decode cX7_heads 0 = .ok (.iload_n 1, 1) := by decide +kernel
theorem dX7_heads_1 : decode cX7_heads 1 = .ok (.invokestatic 133, 3) := by decide +kernel
theorem dX7_heads_4 : decode cX7_heads 4 = .ok (.ifCond .eq 19, 3) := by decide +kernel
theorem dX7_heads_7 : decode cX7_heads 7 = .ok (.iload_n 2, 1) := by decide +kernel
theorem dX7_heads_8 : decode cX7_heads 8 = .ok (.iconst (-1), 1) := by decide +kernel
theorem dX7_heads_9 : decode cX7_heads 9 = .ok (.if_icmp .eq 20, 3) := by decide +kernel
theorem dX7_heads_12 : decode cX7_heads 12 = .ok (.aload_n 0, 1) := by decide +kernel
theorem dX7_heads_13 : decode cX7_heads 13 = .ok (.getfield 10, 3) := by decide +kernel
theorem dX7_heads_16 : decode cX7_heads 16 = .ok (.iload_n 2, 1) := by decide +kernel
theorem dX7_heads_17 : decode cX7_heads 17 = .ok (.invokevirtual 109, 3) := by decide +kernel
theorem dX7_heads_20 : decode cX7_heads 20 = .ok (.ifCond .ne 9, 3) := by decide +kernel
theorem dX7_heads_23 : decode cX7_heads 23 = .ok (.aload_n 0, 1) := by decide +kernel
theorem dX7_heads_24 : decode cX7_heads 24 = .ok (.iconst (-1), 1) := by decide +kernel
theorem dX7_heads_25 : decode cX7_heads 25 = .ok (.invokevirtual 67, 3) := by decide +kernel
theorem dX7_heads_28 : decode cX7_heads 28 = .ok (.ireturn, 1) := by decide +kernel
theorem dX7_heads_29 : decode cX7_heads 29 = .ok (.aload_n 0, 1) := by decide +kernel
theorem dX7_heads_30 : decode cX7_heads 30 = .ok (.getfield 10, 3) := by decide +kernel
theorem dX7_heads_33 : decode cX7_heads 33 = .ok (.getfield 136, 3) := by decide +kernel
theorem dX7_heads_36 : decode cX7_heads 36 = .ok (.iload_n 1, 1) := by decide +kernel
theorem dX7_heads_37 : decode cX7_heads 37 = .ok (.iaload, 1) := by decide +kernel
theorem dX7_heads_38 : decode cX7_heads 38 = .ok (.istore_n 3, 1) := by decide +kernel
theorem dX7_heads_39 : decode cX7_heads 39 = .ok (.aload_n 0, 1) := by decide +kernel
theorem dX7_heads_40 : decode cX7_heads 40 = .ok (.getfield 10, 3) := by decide +kernel
theorem dX7_heads_43 : decode cX7_heads 43 = .ok (.getfield 136, 3) := by decide +kernel
theorem dX7_heads_46 : decode cX7_heads 46 = .ok (.iload_n 1, 1) := by decide +kernel
theorem dX7_heads_47 : decode cX7_heads 47 = .ok (.iload_n 2, 1) := by decide +kernel
theorem dX7_heads_48 : decode cX7_heads 48 = .ok (.iastore, 1) := by decide +kernel
theorem dX7_heads_49 : decode cX7_heads 49 = .ok (.iload_n 3, 1) := by decide +kernel
theorem dX7_heads_50 : decode cX7_heads 50 = .ok (.invokestatic 139, 3) := by decide +kernel
theorem dX7_heads_53 : decode cX7_heads 53 = .ok (.ireturn, 1) := by decide +kernel
theorem dX7_kind_0 : decode cX7_kind 0 = .ok (.iload_n 1, 1) := by decide +kernel
theorem dX7_kind_1 : decode cX7_kind 1 = .ok (.ifCond .lt 9, 3) := by decide +kernel
theorem dX7_kind_4 : decode cX7_kind 4 = .ok (.iload_n 1, 1) := by decide +kernel
theorem dX7_kind_5 : decode cX7_kind 5 = .ok (.bipush 6, 2) := by decide +kernel
theorem dX7_kind_7 : decode cX7_kind 7 = .ok (.if_icmp .lt 10, 3) := by decide +kernel
theorem dX7_kind_10 : decode cX7_kind 10 = .ok (.aload_n 0, 1) := by decide +kernel
theorem dX7_kind_11 : decode cX7_kind 11 = .ok (.bipush (-2), 2) := by decide +kernel
theorem dX7_kind_13 : decode cX7_kind 13 = .ok (.invokevirtual 67, 3) := by decide +kernel
theorem dX7_kind_16 : decode cX7_kind 16 = .ok (.ireturn, 1) := by decide +kernel
theorem dX7_kind_17 : decode cX7_kind 17 = .ok (.iload_n 2, 1) := by decide +kernel
theorem dX7_kind_18 : decode cX7_kind 18 = .ok (.ifCond .ge 10, 3) := by decide +kernel
theorem dX7_kind_21 : decode cX7_kind 21 = .ok (.aload_n 0, 1) := by decide +kernel
theorem dX7_kind_22 : decode cX7_kind 22 = .ok (.bipush (-4), 2) := by decide +kernel
theorem dX7_kind_24 : decode cX7_kind 24 = .ok (.invokevirtual 67, 3) := by decide +kernel
theorem dX7_kind_27 : decode cX7_kind 27 = .ok (.ireturn, 1) := by decide +kernel
theorem dX7_kind_28 : decode cX7_kind 28 = .ok (.iload_n 2, 1) := by decide +kernel
theorem dX7_kind_29 : decode cX7_kind 29 = .ok (.bipush 9, 2) := by decide +kernel
theorem dX7_kind_31 : decode cX7_kind 31 = .ok (.if_icmp .le 10, 3) := by decide +kernel
theorem dX7_kind_34 : decode cX7_kind 34 = .ok (.aload_n 0, 1) := by decide +kernel
theorem dX7_kind_35 : decode cX7_kind 35 = .ok (.bipush (-6), 2) := by decide +kernel
theorem dX7_kind_37 : decode cX7_kind 37 = .ok (.invokevirtual 67, 3) := by decide +kernel
theorem dX7_kind_40 : decode cX7_kind 40 = .ok (.ireturn, 1) := by decide +kernel
theorem dX7_kind_41 : decode cX7_kind 41 = .ok (.bipush 10, 2) := by decide +kernel
theorem dX7_kind_43 : decode cX7_kind 43 = .ok (.aload_n 0, 1) := by decide +kernel
theorem dX7_kind_44 : decode cX7_kind 44 = .ok (.getfield 10, 3) := by decide +kernel
theorem dX7_kind_47 : decode cX7_kind 47 = .ok (.getfield 142, 3) := by decide +kernel
theorem dX7_kind_50 : decode cX7_kind 50 = .ok (.imul, 1) := by decide +kernel
theorem dX7_kind_51 : decode cX7_kind 51 = .ok (.aload_n 0, 1) := by decide +kernel
theorem dX7_kind_52 : decode cX7_kind 52 = .ok (.getfield 10, 3) := by decide +kernel
theorem dX7_kind_55 : decode cX7_kind 55 = .ok (.getfield 145, 3) := by decide +kernel
theorem dX7_kind_58 : decode cX7_kind 58 = .ok (.iadd, 1) := by decide +kernel
theorem dX7_kind_59 : decode cX7_kind 59 = .ok (.istore_n 3, 1) := by decide +kernel
theorem dX7_kind_60 : decode cX7_kind 60 = .ok (.aload_n 0, 1) := by decide +kernel
theorem dX7_kind_61 : decode cX7_kind 61 = .ok (.getfield 10, 3) := by decide +kernel
theorem dX7_kind_64 : decode cX7_kind 64 = .ok (.iload_n 1, 1) := by decide +kernel
theorem dX7_kind_65 : decode cX7_kind 65 = .ok (.putfield 142, 3) := by decide +kernel
theorem dX7_kind_68 : decode cX7_kind 68 = .ok (.aload_n 0, 1) := by decide +kernel
theorem dX7_kind_69 : decode cX7_kind 69 = .ok (.getfield 10, 3) := by decide +kernel
theorem dX7_kind_72 : decode cX7_kind 72 = .ok (.iload_n 2, 1) := by decide +kernel
theorem dX7_kind_73 : decode cX7_kind 73 = .ok (.putfield 145, 3) := by decide +kernel
theorem dX7_kind_76 : decode cX7_kind 76 = .ok (.iload_n 3, 1) := by decide +kernel
theorem dX7_kind_77 : decode cX7_kind 77 = .ok (.ireturn, 1) := by decide +kernel
theorem dX7_bound_0 : decode cX7_bound 0 = .ok (.iload_n 1, 1) := by decide +kernel
theorem dX7_bound_1 : decode cX7_bound 1 = .ok (.ifCond .ge 10, 3) := by decide +kernel
theorem dX7_bound_4 : decode cX7_bound 4 = .ok (.aload_n 0, 1) := by decide +kernel
theorem dX7_bound_5 : decode cX7_bound 5 = .ok (.bipush (-4), 2) := by decide +kernel
theorem dX7_bound_7 : decode cX7_bound 7 = .ok (.invokevirtual 67, 3) := by decide +kernel
theorem dX7_bound_10 : decode cX7_bound 10 = .ok (.ireturn, 1) := by decide +kernel
theorem dX7_bound_11 : decode cX7_bound 11 = .ok (.iload_n 1, 1) := by decide +kernel
theorem dX7_bound_12 : decode cX7_bound 12 = .ok (.bipush 8, 2) := by decide +kernel
theorem dX7_bound_14 : decode cX7_bound 14 = .ok (.if_icmp .le 10, 3) := by decide +kernel
theorem dX7_bound_17 : decode cX7_bound 17 = .ok (.aload_n 0, 1) := by decide +kernel
theorem dX7_bound_18 : decode cX7_bound 18 = .ok (.bipush (-6), 2) := by decide +kernel
theorem dX7_bound_20 : decode cX7_bound 20 = .ok (.invokevirtual 67, 3) := by decide +kernel
theorem dX7_bound_23 : decode cX7_bound 23 = .ok (.ireturn, 1) := by decide +kernel
theorem dX7_bound_24 : decode cX7_bound 24 = .ok (.aload_n 0, 1) := by decide +kernel
theorem dX7_bound_25 : decode cX7_bound 25 = .ok (.getfield 10, 3) := by decide +kernel
theorem dX7_bound_28 : decode cX7_bound 28 = .ok (.getfield 148, 3) := by decide +kernel
theorem dX7_bound_31 : decode cX7_bound 31 = .ok (.istore_n 2, 1) := by decide +kernel
theorem dX7_bound_32 : decode cX7_bound 32 = .ok (.aload_n 0, 1) := by decide +kernel
theorem dX7_bound_33 : decode cX7_bound 33 = .ok (.getfield 10, 3) := by decide +kernel
theorem dX7_bound_36 : decode cX7_bound 36 = .ok (.iload_n 1, 1) := by decide +kernel
theorem dX7_bound_37 : decode cX7_bound 37 = .ok (.putfield 148, 3) := by decide +kernel
theorem dX7_bound_40 : decode cX7_bound 40 = .ok (.iload_n 2, 1) := by decide +kernel
theorem dX7_bound_41 : decode cX7_bound 41 = .ok (.ireturn, 1) := by decide +kernel
theorem dX7_repack_0 : decode cX7_repack 0 = .ok (.aload_n 0, 1) := by decide +kernel
theorem dX7_repack_1 : decode cX7_repack 1 = .ok (.getfield 25, 3) := by decide +kernel
theorem dX7_repack_4 : decode cX7_repack 4 = .ok (.aload_n 0, 1) := by decide +kernel
theorem dX7_repack_5 : decode cX7_repack 5 = .ok (.getfield 10, 3) := by decide +kernel
theorem dX7_repack_8 : decode cX7_repack 8 = .ok (.invokevirtual 151, 3) := by decide +kernel
theorem dX7_repack_11 : decode cX7_repack 11 = .ok (.aload_n 0, 1) := by decide +kernel
theorem dX7_repack_12 : decode cX7_repack 12 = .ok (.getfield 25, 3) := by decide +kernel
theorem dX7_repack_15 : decode cX7_repack 15 = .ok (.aload_n 0, 1) := by decide +kernel
theorem dX7_repack_16 : decode cX7_repack 16 = .ok (.getfield 10, 3) := by decide +kernel
theorem dX7_repack_19 : decode cX7_repack 19 = .ok (.getfield 142, 3) := by decide +kernel
theorem dX7_repack_22 : decode cX7_repack 22 = .ok (.aload_n 0, 1) := by decide +kernel
theorem dX7_repack_23 : decode cX7_repack 23 = .ok (.getfield 10, 3) := by decide +kernel
theorem dX7_repack_26 : decode cX7_repack 26 = .ok (.getfield 145, 3) := by decide +kernel
theorem dX7_repack_29 : decode cX7_repack 29 = .ok (.aload_n 0, 1) := by decide +kernel
theorem dX7_repack_30 : decode cX7_repack 30 = .ok (.getfield 10, 3) := by decide +kernel
theorem dX7_repack_33 : decode cX7_repack 33 = .ok (.getfield 148, 3) := by decide +kernel
theorem dX7_repack_36 : decode cX7_repack 36 = .ok (.invokevirtual 154, 3) := by decide +kernel
theorem dX7_repack_39 : decode cX7_repack 39 = .ok (.aload_n 0, 1) := by decide +kernel
theorem dX7_repack_40 : decode cX7_repack 40 = .ok (.getfield 10, 3) := by decide +kernel
theorem dX7_repack_43 : decode cX7_repack 43 = .ok (.aload_n 0, 1) := by decide +kernel
theorem dX7_repack_44 : decode cX7_repack 44 = .ok (.getfield 25, 3) := by decide +kernel
theorem dX7_repack_47 : decode cX7_repack 47 = .ok (.invokevirtual 158, 3) := by decide +kernel
theorem dX7_repack_50 : decode cX7_repack 50 = .ok (.aload_n 0, 1) := by decide +kernel
theorem dX7_repack_51 : decode cX7_repack 51 = .ok (.getfield 10, 3) := by decide +kernel
theorem dX7_repack_54 : decode cX7_repack 54 = .ok (.invokevirtual 162, 3) := by decide +kernel
theorem dX7_repack_57 : decode cX7_repack 57 = .ok (.ireturn, 1) := by decide +kernel
theorem dX7_collect_0 : decode cX7_collect 0 = .ok (.aload_n 0, 1) := by decide +kernel
theorem dX7_collect_1 : decode cX7_collect 1 = .ok (.getfield 10, 3) := by decide +kernel
theorem dX7_collect_4 : decode cX7_collect 4 = .ok (.invokevirtual 165, 3) := by decide +kernel
theorem dX7_collect_7 : decode cX7_collect 7 = .ok (.ireturn, 1) := by decide +kernel
theorem dX7_damages_0 : decode cX7_damages 0 = .ok (.aload_n 0, 1) := by decide +kernel
theorem dX7_damages_1 : decode cX7_damages 1 = .ok (.getfield 10, 3) := by decide +kernel
theorem dX7_damages_4 : decode cX7_damages 4 = .ok (.iload_n 1, 1) := by decide +kernel
theorem dX7_damages_5 : decode cX7_damages 5 = .ok (.invokevirtual 109, 3) := by decide +kernel
theorem dX7_damages_8 : decode cX7_damages 8 = .ok (.ifCond .ne 9, 3) := by decide +kernel
theorem dX7_damages_11 : decode cX7_damages 11 = .ok (.aload_n 0, 1) := by decide +kernel
theorem dX7_damages_12 : decode cX7_damages 12 = .ok (.iconst (-1), 1) := by decide +kernel
theorem dX7_damages_13 : decode cX7_damages 13 = .ok (.invokevirtual 67, 3) := by decide +kernel
theorem dX7_damages_16 : decode cX7_damages 16 = .ok (.ireturn, 1) := by decide +kernel
theorem dX7_damages_17 : decode cX7_damages 17 = .ok (.aload_n 0, 1) := by decide +kernel
theorem dX7_damages_18 : decode cX7_damages 18 = .ok (.getfield 10, 3) := by decide +kernel
theorem dX7_damages_21 : decode cX7_damages 21 = .ok (.getfield 113, 3) := by decide +kernel
theorem dX7_damages_24 : decode cX7_damages 24 = .ok (.iload_n 1, 1) := by decide +kernel
theorem dX7_damages_25 : decode cX7_damages 25 = .ok (.aaload, 1) := by decide +kernel
theorem dX7_damages_26 : decode cX7_damages 26 = .ok (.astore 4, 2) := by decide +kernel
theorem dX7_damages_28 : decode cX7_damages 28 = .ok (.aload 4, 2) := by decide +kernel
theorem dX7_damages_30 : decode cX7_damages 30 = .ok (.invokevirtual 168, 3) := by decide +kernel
theorem dX7_damages_33 : decode cX7_damages 33 = .ok (.ifCond .ne 10, 3) := by decide +kernel
theorem dX7_damages_36 : decode cX7_damages 36 = .ok (.aload_n 0, 1) := by decide +kernel
theorem dX7_damages_37 : decode cX7_damages 37 = .ok (.bipush (-3), 2) := by decide +kernel
theorem dX7_damages_39 : decode cX7_damages 39 = .ok (.invokevirtual 67, 3) := by decide +kernel
theorem dX7_damages_42 : decode cX7_damages 42 = .ok (.ireturn, 1) := by decide +kernel
theorem dX7_damages_43 : decode cX7_damages 43 = .ok (.iload_n 2, 1) := by decide +kernel
theorem dX7_damages_44 : decode cX7_damages 44 = .ok (.ifCond .lt 15, 3) := by decide +kernel
theorem dX7_damages_47 : decode cX7_damages 47 = .ok (.iload_n 2, 1) := by decide +kernel
theorem dX7_damages_48 : decode cX7_damages 48 = .ok (.aload 4, 2) := by decide +kernel
theorem dX7_damages_50 : decode cX7_damages 50 = .ok (.getfield 117, 3) := by decide +kernel
theorem dX7_damages_53 : decode cX7_damages 53 = .ok (.getfield 81, 3) := by decide +kernel
theorem dX7_damages_56 : decode cX7_damages 56 = .ok (.if_icmp .lt 9, 3) := by decide +kernel
theorem dX7_damages_59 : decode cX7_damages 59 = .ok (.aload_n 0, 1) := by decide +kernel
theorem dX7_damages_60 : decode cX7_damages 60 = .ok (.iconst (-1), 1) := by decide +kernel
theorem dX7_damages_61 : decode cX7_damages 61 = .ok (.invokevirtual 67, 3) := by decide +kernel
theorem dX7_damages_64 : decode cX7_damages 64 = .ok (.ireturn, 1) := by decide +kernel
theorem dX7_damages_65 : decode cX7_damages 65 = .ok (.iload_n 3, 1) := by decide +kernel
theorem dX7_damages_66 : decode cX7_damages 66 = .ok (.ifCond .lt 9, 3) := by decide +kernel
theorem dX7_damages_69 : decode cX7_damages 69 = .ok (.iload_n 3, 1) := by decide +kernel
theorem dX7_damages_70 : decode cX7_damages 70 = .ok (.bipush 8, 2) := by decide +kernel
theorem dX7_damages_72 : decode cX7_damages 72 = .ok (.if_icmp .lt 10, 3) := by decide +kernel
theorem dX7_damages_75 : decode cX7_damages 75 = .ok (.aload_n 0, 1) := by decide +kernel
theorem dX7_damages_76 : decode cX7_damages 76 = .ok (.bipush (-2), 2) := by decide +kernel
theorem dX7_damages_78 : decode cX7_damages 78 = .ok (.invokevirtual 67, 3) := by decide +kernel
theorem dX7_damages_81 : decode cX7_damages 81 = .ok (.ireturn, 1) := by decide +kernel
theorem dX7_damages_82 : decode cX7_damages 82 = .ok (.aload 4, 2) := by decide +kernel
theorem dX7_damages_84 : decode cX7_damages 84 = .ok (.getfield 117, 3) := by decide +kernel
theorem dX7_damages_87 : decode cX7_damages 87 = .ok (.iload_n 2, 1) := by decide +kernel
theorem dX7_damages_88 : decode cX7_damages 88 = .ok (.invokevirtual 171, 3) := by decide +kernel
theorem dX7_damages_91 : decode cX7_damages 91 = .ok (.istore 5, 2) := by decide +kernel
theorem dX7_damages_93 : decode cX7_damages 93 = .ok (.aload_n 0, 1) := by decide +kernel
theorem dX7_damages_94 : decode cX7_damages 94 = .ok (.getfield 10, 3) := by decide +kernel
theorem dX7_damages_97 : decode cX7_damages 97 = .ok (.iload_n 1, 1) := by decide +kernel
theorem dX7_damages_98 : decode cX7_damages 98 = .ok (.iload_n 2, 1) := by decide +kernel
theorem dX7_damages_99 : decode cX7_damages 99 = .ok (.iload_n 3, 1) := by decide +kernel
theorem dX7_damages_100 : decode cX7_damages 100 = .ok (.invokevirtual 174, 3) := by decide +kernel
theorem dX7_damages_103 : decode cX7_damages 103 = .ok (.iload 5, 2) := by decide +kernel
theorem dX7_damages_105 : decode cX7_damages 105 = .ok (.ireturn, 1) := by decide +kernel
theorem dX7_version_0 : decode cX7_version 0 = .ok (.aload_n 0, 1) := by decide +kernel
theorem dX7_version_1 : decode cX7_version 1 = .ok (.getfield 10, 3) := by decide +kernel
theorem dX7_version_4 : decode cX7_version 4 = .ok (.iload_n 1, 1) := by decide +kernel
theorem dX7_version_5 : decode cX7_version 5 = .ok (.invokevirtual 109, 3) := by decide +kernel
theorem dX7_version_8 : decode cX7_version 8 = .ok (.ifCond .ne 9, 3) := by decide +kernel
theorem dX7_version_11 : decode cX7_version 11 = .ok (.aload_n 0, 1) := by decide +kernel
theorem dX7_version_12 : decode cX7_version 12 = .ok (.iconst (-1), 1) := by decide +kernel
theorem dX7_version_13 : decode cX7_version 13 = .ok (.invokevirtual 67, 3) := by decide +kernel
theorem dX7_version_16 : decode cX7_version 16 = .ok (.ireturn, 1) := by decide +kernel
theorem dX7_version_17 : decode cX7_version 17 = .ok (.aload_n 0, 1) := by decide +kernel
theorem dX7_version_18 : decode cX7_version 18 = .ok (.getfield 10, 3) := by decide +kernel
theorem dX7_version_21 : decode cX7_version 21 = .ok (.getfield 113, 3) := by decide +kernel
theorem dX7_version_24 : decode cX7_version 24 = .ok (.iload_n 1, 1) := by decide +kernel
theorem dX7_version_25 : decode cX7_version 25 = .ok (.aaload, 1) := by decide +kernel
theorem dX7_version_26 : decode cX7_version 26 = .ok (.astore_n 3, 1) := by decide +kernel
theorem dX7_version_27 : decode cX7_version 27 = .ok (.iload_n 2, 1) := by decide +kernel
theorem dX7_version_28 : decode cX7_version 28 = .ok (.tableswitch 135 0 8 #[52, 60, 68, 76, 84, 93, 98, 103, 116], 52) := by decide +kernel
theorem dX7_version_80 : decode cX7_version 80 = .ok (.aload_n 3, 1) := by decide +kernel
theorem dX7_version_81 : decode cX7_version 81 = .ok (.getfield 117, 3) := by decide +kernel
theorem dX7_version_84 : decode cX7_version 84 = .ok (.getfield 81, 3) := by decide +kernel
theorem dX7_version_87 : decode cX7_version 87 = .ok (.ireturn, 1) := by decide +kernel
theorem dX7_version_88 : decode cX7_version 88 = .ok (.aload_n 3, 1) := by decide +kernel
theorem dX7_version_89 : decode cX7_version 89 = .ok (.getfield 177, 3) := by decide +kernel
theorem dX7_version_92 : decode cX7_version 92 = .ok (.invokestatic 139, 3) := by decide +kernel
theorem dX7_version_95 : decode cX7_version 95 = .ok (.ireturn, 1) := by decide +kernel
theorem dX7_version_96 : decode cX7_version 96 = .ok (.aload_n 3, 1) := by decide +kernel
theorem dX7_version_97 : decode cX7_version 97 = .ok (.getfield 180, 3) := by decide +kernel
theorem dX7_version_100 : decode cX7_version 100 = .ok (.invokestatic 139, 3) := by decide +kernel
theorem dX7_version_103 : decode cX7_version 103 = .ok (.ireturn, 1) := by decide +kernel
theorem dX7_version_104 : decode cX7_version 104 = .ok (.aload_n 3, 1) := by decide +kernel
theorem dX7_version_105 : decode cX7_version 105 = .ok (.getfield 183, 3) := by decide +kernel
theorem dX7_version_108 : decode cX7_version 108 = .ok (.invokestatic 139, 3) := by decide +kernel
theorem dX7_version_111 : decode cX7_version 111 = .ok (.ireturn, 1) := by decide +kernel
theorem dX7_version_112 : decode cX7_version 112 = .ok (.aload_n 0, 1) := by decide +kernel
theorem dX7_version_113 : decode cX7_version 113 = .ok (.getfield 10, 3) := by decide +kernel
theorem dX7_version_116 : decode cX7_version 116 = .ok (.iload_n 1, 1) := by decide +kernel
theorem dX7_version_117 : decode cX7_version 117 = .ok (.invokevirtual 186, 3) := by decide +kernel
theorem dX7_version_120 : decode cX7_version 120 = .ok (.ireturn, 1) := by decide +kernel
theorem dX7_version_121 : decode cX7_version 121 = .ok (.aload_n 3, 1) := by decide +kernel
theorem dX7_version_122 : decode cX7_version 122 = .ok (.invokevirtual 189, 3) := by decide +kernel
theorem dX7_version_125 : decode cX7_version 125 = .ok (.ireturn, 1) := by decide +kernel
theorem dX7_version_126 : decode cX7_version 126 = .ok (.aload_n 3, 1) := by decide +kernel
theorem dX7_version_127 : decode cX7_version 127 = .ok (.getfield 192, 3) := by decide +kernel
theorem dX7_version_130 : decode cX7_version 130 = .ok (.ireturn, 1) := by decide +kernel
theorem dX7_version_131 : decode cX7_version 131 = .ok (.aload_n 3, 1) := by decide +kernel
theorem dX7_version_132 : decode cX7_version 132 = .ok (.invokevirtual 195, 3) := by decide +kernel
theorem dX7_version_135 : decode cX7_version 135 = .ok (.ifCond .eq 7, 3) := by decide +kernel
theorem dX7_version_138 : decode cX7_version 138 = .ok (.iconst 1, 1) := by decide +kernel
theorem dX7_version_139 : decode cX7_version 139 = .ok (.goto 4, 3) := by decide +kernel
theorem dX7_version_142 : decode cX7_version 142 = .ok (.iconst 0, 1) := by decide +kernel
theorem dX7_version_143 : decode cX7_version 143 = .ok (.ireturn, 1) := by decide +kernel
theorem dX7_version_144 : decode cX7_version 144 = .ok (.aload_n 3, 1) := by decide +kernel
theorem dX7_version_145 : decode cX7_version 145 = .ok (.invokevirtual 168, 3) := by decide +kernel
theorem dX7_version_148 : decode cX7_version 148 = .ok (.ifCond .eq 7, 3) := by decide +kernel
theorem dX7_version_151 : decode cX7_version 151 = .ok (.iconst 0, 1) := by decide +kernel
theorem dX7_version_152 : decode cX7_version 152 = .ok (.goto 10, 3) := by decide +kernel
theorem dX7_version_155 : decode cX7_version 155 = .ok (.aload_n 3, 1) := by decide +kernel
theorem dX7_version_156 : decode cX7_version 156 = .ok (.getfield 198, 3) := by decide +kernel
theorem dX7_version_159 : decode cX7_version 159 = .ok (.getfield 201, 3) := by decide +kernel
theorem dX7_version_162 : decode cX7_version 162 = .ok (.ireturn, 1) := by decide +kernel
theorem dX7_version_163 : decode cX7_version 163 = .ok (.aload_n 0, 1) := by decide +kernel
theorem dX7_version_164 : decode cX7_version 164 = .ok (.bipush (-2), 2) := by decide +kernel
theorem dX7_version_166 : decode cX7_version 166 = .ok (.invokevirtual 67, 3) := by decide +kernel
theorem dX7_version_169 : decode cX7_version 169 = .ok (.ireturn, 1) := by decide +kernel
theorem dX7_spelt_0 : decode cX7_spelt 0 = .ok (.aload_n 0, 1) := by decide +kernel
theorem dX7_spelt_1 : decode cX7_spelt 1 = .ok (.getfield 10, 3) := by decide +kernel
theorem dX7_spelt_4 : decode cX7_spelt 4 = .ok (.iload_n 1, 1) := by decide +kernel
theorem dX7_spelt_5 : decode cX7_spelt 5 = .ok (.invokevirtual 109, 3) := by decide +kernel
theorem dX7_spelt_8 : decode cX7_spelt 8 = .ok (.ifCond .eq 26, 3) := by decide +kernel
theorem dX7_spelt_11 : decode cX7_spelt 11 = .ok (.iload_n 2, 1) := by decide +kernel
theorem dX7_spelt_12 : decode cX7_spelt 12 = .ok (.ifCond .lt 22, 3) := by decide +kernel
theorem dX7_spelt_15 : decode cX7_spelt 15 = .ok (.iload_n 2, 1) := by decide +kernel
theorem dX7_spelt_16 : decode cX7_spelt 16 = .ok (.aload_n 0, 1) := by decide +kernel
theorem dX7_spelt_17 : decode cX7_spelt 17 = .ok (.getfield 10, 3) := by decide +kernel
theorem dX7_spelt_20 : decode cX7_spelt 20 = .ok (.getfield 113, 3) := by decide +kernel
theorem dX7_spelt_23 : decode cX7_spelt 23 = .ok (.iload_n 1, 1) := by decide +kernel
theorem dX7_spelt_24 : decode cX7_spelt 24 = .ok (.aaload, 1) := by decide +kernel
theorem dX7_spelt_25 : decode cX7_spelt 25 = .ok (.getfield 117, 3) := by decide +kernel
theorem dX7_spelt_28 : decode cX7_spelt 28 = .ok (.getfield 81, 3) := by decide +kernel
theorem dX7_spelt_31 : decode cX7_spelt 31 = .ok (.if_icmp .lt 9, 3) := by decide +kernel
theorem dX7_spelt_34 : decode cX7_spelt 34 = .ok (.aload_n 0, 1) := by decide +kernel
theorem dX7_spelt_35 : decode cX7_spelt 35 = .ok (.iconst (-1), 1) := by decide +kernel
theorem dX7_spelt_36 : decode cX7_spelt 36 = .ok (.invokevirtual 67, 3) := by decide +kernel
theorem dX7_spelt_39 : decode cX7_spelt 39 = .ok (.ireturn, 1) := by decide +kernel
theorem dX7_spelt_40 : decode cX7_spelt 40 = .ok (.aload_n 0, 1) := by decide +kernel
theorem dX7_spelt_41 : decode cX7_spelt 41 = .ok (.getfield 10, 3) := by decide +kernel
theorem dX7_spelt_44 : decode cX7_spelt 44 = .ok (.getfield 113, 3) := by decide +kernel
theorem dX7_spelt_47 : decode cX7_spelt 47 = .ok (.iload_n 1, 1) := by decide +kernel
theorem dX7_spelt_48 : decode cX7_spelt 48 = .ok (.aaload, 1) := by decide +kernel
theorem dX7_spelt_49 : decode cX7_spelt 49 = .ok (.getfield 117, 3) := by decide +kernel
theorem dX7_spelt_52 : decode cX7_spelt 52 = .ok (.iload_n 2, 1) := by decide +kernel
theorem dX7_spelt_53 : decode cX7_spelt 53 = .ok (.invokevirtual 171, 3) := by decide +kernel
theorem dX7_spelt_56 : decode cX7_spelt 56 = .ok (.ireturn, 1) := by decide +kernel
theorem dX7_step_0 : decode cX7_step 0 = .ok (.aload_n 0, 1) := by decide +kernel
theorem dX7_step_1 : decode cX7_step 1 = .ok (.getfield 10, 3) := by decide +kernel
theorem dX7_step_4 : decode cX7_step 4 = .ok (.iload_n 1, 1) := by decide +kernel
theorem dX7_step_5 : decode cX7_step 5 = .ok (.invokevirtual 109, 3) := by decide +kernel
theorem dX7_step_8 : decode cX7_step 8 = .ok (.ifCond .ne 9, 3) := by decide +kernel
theorem dX7_step_11 : decode cX7_step 11 = .ok (.aload_n 0, 1) := by decide +kernel
theorem dX7_step_12 : decode cX7_step 12 = .ok (.iconst (-1), 1) := by decide +kernel
theorem dX7_step_13 : decode cX7_step 13 = .ok (.invokevirtual 67, 3) := by decide +kernel
theorem dX7_step_16 : decode cX7_step 16 = .ok (.ireturn, 1) := by decide +kernel
theorem dX7_step_17 : decode cX7_step 17 = .ok (.aload_n 0, 1) := by decide +kernel
theorem dX7_step_18 : decode cX7_step 18 = .ok (.getfield 10, 3) := by decide +kernel
theorem dX7_step_21 : decode cX7_step 21 = .ok (.getfield 113, 3) := by decide +kernel
theorem dX7_step_24 : decode cX7_step 24 = .ok (.iload_n 1, 1) := by decide +kernel
theorem dX7_step_25 : decode cX7_step 25 = .ok (.aaload, 1) := by decide +kernel
theorem dX7_step_26 : decode cX7_step 26 = .ok (.astore 4, 2) := by decide +kernel
theorem dX7_step_28 : decode cX7_step 28 = .ok (.aload 4, 2) := by decide +kernel
theorem dX7_step_30 : decode cX7_step 30 = .ok (.invokevirtual 168, 3) := by decide +kernel
theorem dX7_step_33 : decode cX7_step 33 = .ok (.ifCond .ne 19, 3) := by decide +kernel
theorem dX7_step_36 : decode cX7_step 36 = .ok (.iload_n 2, 1) := by decide +kernel
theorem dX7_step_37 : decode cX7_step 37 = .ok (.ifCond .lt 15, 3) := by decide +kernel
theorem dX7_step_40 : decode cX7_step 40 = .ok (.iload_n 2, 1) := by decide +kernel
theorem dX7_step_41 : decode cX7_step 41 = .ok (.aload 4, 2) := by decide +kernel
theorem dX7_step_43 : decode cX7_step 43 = .ok (.getfield 198, 3) := by decide +kernel
theorem dX7_step_46 : decode cX7_step 46 = .ok (.getfield 201, 3) := by decide +kernel
theorem dX7_step_49 : decode cX7_step 49 = .ok (.if_icmp .lt 9, 3) := by decide +kernel
theorem dX7_step_52 : decode cX7_step 52 = .ok (.aload_n 0, 1) := by decide +kernel
theorem dX7_step_53 : decode cX7_step 53 = .ok (.iconst (-1), 1) := by decide +kernel
theorem dX7_step_54 : decode cX7_step 54 = .ok (.invokevirtual 67, 3) := by decide +kernel
theorem dX7_step_57 : decode cX7_step 57 = .ok (.ireturn, 1) := by decide +kernel
theorem dX7_step_58 : decode cX7_step 58 = .ok (.iload_n 3, 1) := by decide +kernel
theorem dX7_step_59 : decode cX7_step 59 = .ok (.ifCond .lt 8, 3) := by decide +kernel
theorem dX7_step_62 : decode cX7_step 62 = .ok (.iload_n 3, 1) := by decide +kernel
theorem dX7_step_63 : decode cX7_step 63 = .ok (.iconst 1, 1) := by decide +kernel
theorem dX7_step_64 : decode cX7_step 64 = .ok (.if_icmp .le 10, 3) := by decide +kernel
theorem dX7_step_67 : decode cX7_step 67 = .ok (.aload_n 0, 1) := by decide +kernel
theorem dX7_step_68 : decode cX7_step 68 = .ok (.bipush (-2), 2) := by decide +kernel
theorem dX7_step_70 : decode cX7_step 70 = .ok (.invokevirtual 67, 3) := by decide +kernel
theorem dX7_step_73 : decode cX7_step 73 = .ok (.ireturn, 1) := by decide +kernel
theorem dX7_step_74 : decode cX7_step 74 = .ok (.iload_n 3, 1) := by decide +kernel
theorem dX7_step_75 : decode cX7_step 75 = .ok (.ifCond .ne 16, 3) := by decide +kernel
theorem dX7_step_78 : decode cX7_step 78 = .ok (.aload 4, 2) := by decide +kernel
theorem dX7_step_80 : decode cX7_step 80 = .ok (.getfield 198, 3) := by decide +kernel
theorem dX7_step_83 : decode cX7_step 83 = .ok (.getfield 202, 3) := by decide +kernel
theorem dX7_step_86 : decode cX7_step 86 = .ok (.iload_n 2, 1) := by decide +kernel
theorem dX7_step_87 : decode cX7_step 87 = .ok (.iaload, 1) := by decide +kernel
theorem dX7_step_88 : decode cX7_step 88 = .ok (.goto 13, 3) := by decide +kernel
theorem dX7_step_91 : decode cX7_step 91 = .ok (.aload 4, 2) := by decide +kernel
theorem dX7_step_93 : decode cX7_step 93 = .ok (.getfield 198, 3) := by decide +kernel
theorem dX7_step_96 : decode cX7_step 96 = .ok (.getfield 205, 3) := by decide +kernel
theorem dX7_step_99 : decode cX7_step 99 = .ok (.iload_n 2, 1) := by decide +kernel
theorem dX7_step_100 : decode cX7_step 100 = .ok (.iaload, 1) := by decide +kernel
theorem dX7_step_101 : decode cX7_step 101 = .ok (.ireturn, 1) := by decide +kernel
theorem dX7_delta_0 : decode cX7_delta 0 = .ok (.aload_n 0, 1) := by decide +kernel
theorem dX7_delta_1 : decode cX7_delta 1 = .ok (.getfield 10, 3) := by decide +kernel
theorem dX7_delta_4 : decode cX7_delta 4 = .ok (.iload_n 1, 1) := by decide +kernel
theorem dX7_delta_5 : decode cX7_delta 5 = .ok (.invokevirtual 109, 3) := by decide +kernel
theorem dX7_delta_8 : decode cX7_delta 8 = .ok (.ifCond .eq 14, 3) := by decide +kernel
theorem dX7_delta_11 : decode cX7_delta 11 = .ok (.aload_n 0, 1) := by decide +kernel
theorem dX7_delta_12 : decode cX7_delta 12 = .ok (.getfield 10, 3) := by decide +kernel
theorem dX7_delta_15 : decode cX7_delta 15 = .ok (.iload_n 2, 1) := by decide +kernel
theorem dX7_delta_16 : decode cX7_delta 16 = .ok (.invokevirtual 109, 3) := by decide +kernel
theorem dX7_delta_19 : decode cX7_delta 19 = .ok (.ifCond .ne 9, 3) := by decide +kernel
theorem dX7_delta_22 : decode cX7_delta 22 = .ok (.aload_n 0, 1) := by decide +kernel
theorem dX7_delta_23 : decode cX7_delta 23 = .ok (.iconst (-1), 1) := by decide +kernel
theorem dX7_delta_24 : decode cX7_delta 24 = .ok (.invokevirtual 67, 3) := by decide +kernel
theorem dX7_delta_27 : decode cX7_delta 27 = .ok (.ireturn, 1) := by decide +kernel
theorem dX7_delta_28 : decode cX7_delta 28 = .ok (.iload_n 3, 1) := by decide +kernel
theorem dX7_delta_29 : decode cX7_delta 29 = .ok (.ifCond .lt 8, 3) := by decide +kernel
theorem dX7_delta_32 : decode cX7_delta 32 = .ok (.iload_n 3, 1) := by decide +kernel
theorem dX7_delta_33 : decode cX7_delta 33 = .ok (.iconst 2, 1) := by decide +kernel
theorem dX7_delta_34 : decode cX7_delta 34 = .ok (.if_icmp .le 10, 3) := by decide +kernel
theorem dX7_delta_37 : decode cX7_delta 37 = .ok (.aload_n 0, 1) := by decide +kernel
theorem dX7_delta_38 : decode cX7_delta 38 = .ok (.bipush (-2), 2) := by decide +kernel
theorem dX7_delta_40 : decode cX7_delta 40 = .ok (.invokevirtual 67, 3) := by decide +kernel
theorem dX7_delta_43 : decode cX7_delta 43 = .ok (.ireturn, 1) := by decide +kernel
theorem dX7_delta_44 : decode cX7_delta 44 = .ok (.aload_n 0, 1) := by decide +kernel
theorem dX7_delta_45 : decode cX7_delta 45 = .ok (.getfield 32, 3) := by decide +kernel
theorem dX7_delta_48 : decode cX7_delta 48 = .ok (.aload_n 0, 1) := by decide +kernel
theorem dX7_delta_49 : decode cX7_delta 49 = .ok (.getfield 10, 3) := by decide +kernel
theorem dX7_delta_52 : decode cX7_delta 52 = .ok (.getfield 113, 3) := by decide +kernel
theorem dX7_delta_55 : decode cX7_delta 55 = .ok (.iload_n 1, 1) := by decide +kernel
theorem dX7_delta_56 : decode cX7_delta 56 = .ok (.aaload, 1) := by decide +kernel
theorem dX7_delta_57 : decode cX7_delta 57 = .ok (.getfield 117, 3) := by decide +kernel
theorem dX7_delta_60 : decode cX7_delta 60 = .ok (.aload_n 0, 1) := by decide +kernel
theorem dX7_delta_61 : decode cX7_delta 61 = .ok (.getfield 10, 3) := by decide +kernel
theorem dX7_delta_64 : decode cX7_delta 64 = .ok (.getfield 113, 3) := by decide +kernel
theorem dX7_delta_67 : decode cX7_delta 67 = .ok (.iload_n 2, 1) := by decide +kernel
theorem dX7_delta_68 : decode cX7_delta 68 = .ok (.aaload, 1) := by decide +kernel
theorem dX7_delta_69 : decode cX7_delta 69 = .ok (.getfield 117, 3) := by decide +kernel
theorem dX7_delta_72 : decode cX7_delta 72 = .ok (.invokevirtual 208, 3) := by decide +kernel
theorem dX7_delta_75 : decode cX7_delta 75 = .ok (.iload_n 3, 1) := by decide +kernel
theorem dX7_delta_76 : decode cX7_delta 76 = .ok (.ifCond .ne 11, 3) := by decide +kernel
theorem dX7_delta_79 : decode cX7_delta 79 = .ok (.aload_n 0, 1) := by decide +kernel
theorem dX7_delta_80 : decode cX7_delta 80 = .ok (.getfield 32, 3) := by decide +kernel
theorem dX7_delta_83 : decode cX7_delta 83 = .ok (.invokevirtual 211, 3) := by decide +kernel
theorem dX7_delta_86 : decode cX7_delta 86 = .ok (.ireturn, 1) := by decide +kernel
theorem dX7_delta_87 : decode cX7_delta 87 = .ok (.iload_n 3, 1) := by decide +kernel
theorem dX7_delta_88 : decode cX7_delta 88 = .ok (.iconst 1, 1) := by decide +kernel
theorem dX7_delta_89 : decode cX7_delta 89 = .ok (.if_icmp .ne 13, 3) := by decide +kernel
theorem dX7_delta_92 : decode cX7_delta 92 = .ok (.aload_n 0, 1) := by decide +kernel
theorem dX7_delta_93 : decode cX7_delta 93 = .ok (.getfield 32, 3) := by decide +kernel
theorem dX7_delta_96 : decode cX7_delta 96 = .ok (.getfield 201, 3) := by decide +kernel
theorem dX7_delta_99 : decode cX7_delta 99 = .ok (.goto 10, 3) := by decide +kernel
theorem dX7_delta_102 : decode cX7_delta 102 = .ok (.aload_n 0, 1) := by decide +kernel
theorem dX7_delta_103 : decode cX7_delta 103 = .ok (.getfield 32, 3) := by decide +kernel
theorem dX7_delta_106 : decode cX7_delta 106 = .ok (.getfield 212, 3) := by decide +kernel
theorem dX7_delta_109 : decode cX7_delta 109 = .ok (.ireturn, 1) := by decide +kernel
theorem dX7_repacked_0 : decode cX7_repacked 0 = .ok (.iload_n 1, 1) := by decide +kernel
theorem dX7_repacked_1 : decode cX7_repacked 1 = .ok (.ifCond .lt 8, 3) := by decide +kernel
theorem dX7_repacked_4 : decode cX7_repacked 4 = .ok (.iload_n 1, 1) := by decide +kernel
theorem dX7_repacked_5 : decode cX7_repacked 5 = .ok (.iconst 2, 1) := by decide +kernel
theorem dX7_repacked_6 : decode cX7_repacked 6 = .ok (.if_icmp .le 10, 3) := by decide +kernel
theorem dX7_repacked_9 : decode cX7_repacked 9 = .ok (.aload_n 0, 1) := by decide +kernel
theorem dX7_repacked_10 : decode cX7_repacked 10 = .ok (.bipush (-2), 2) := by decide +kernel
theorem dX7_repacked_12 : decode cX7_repacked 12 = .ok (.invokevirtual 67, 3) := by decide +kernel
theorem dX7_repacked_15 : decode cX7_repacked 15 = .ok (.ireturn, 1) := by decide +kernel
theorem dX7_repacked_16 : decode cX7_repacked 16 = .ok (.aload_n 0, 1) := by decide +kernel
theorem dX7_repacked_17 : decode cX7_repacked 17 = .ok (.getfield 25, 3) := by decide +kernel
theorem dX7_repacked_20 : decode cX7_repacked 20 = .ok (.aload_n 0, 1) := by decide +kernel
theorem dX7_repacked_21 : decode cX7_repacked 21 = .ok (.getfield 10, 3) := by decide +kernel
theorem dX7_repacked_24 : decode cX7_repacked 24 = .ok (.invokevirtual 151, 3) := by decide +kernel
theorem dX7_repacked_27 : decode cX7_repacked 27 = .ok (.aload_n 0, 1) := by decide +kernel
theorem dX7_repacked_28 : decode cX7_repacked 28 = .ok (.getfield 25, 3) := by decide +kernel
theorem dX7_repacked_31 : decode cX7_repacked 31 = .ok (.aload_n 0, 1) := by decide +kernel
theorem dX7_repacked_32 : decode cX7_repacked 32 = .ok (.getfield 10, 3) := by decide +kernel
theorem dX7_repacked_35 : decode cX7_repacked 35 = .ok (.getfield 142, 3) := by decide +kernel
theorem dX7_repacked_38 : decode cX7_repacked 38 = .ok (.aload_n 0, 1) := by decide +kernel
theorem dX7_repacked_39 : decode cX7_repacked 39 = .ok (.getfield 10, 3) := by decide +kernel
theorem dX7_repacked_42 : decode cX7_repacked 42 = .ok (.getfield 145, 3) := by decide +kernel
theorem dX7_repacked_45 : decode cX7_repacked 45 = .ok (.aload_n 0, 1) := by decide +kernel
theorem dX7_repacked_46 : decode cX7_repacked 46 = .ok (.getfield 10, 3) := by decide +kernel
theorem dX7_repacked_49 : decode cX7_repacked 49 = .ok (.getfield 148, 3) := by decide +kernel
theorem dX7_repacked_52 : decode cX7_repacked 52 = .ok (.invokevirtual 154, 3) := by decide +kernel
theorem dX7_repacked_55 : decode cX7_repacked 55 = .ok (.iload_n 1, 1) := by decide +kernel
theorem dX7_repacked_56 : decode cX7_repacked 56 = .ok (.ifCond .ne 11, 3) := by decide +kernel
theorem dX7_repacked_59 : decode cX7_repacked 59 = .ok (.aload_n 0, 1) := by decide +kernel
theorem dX7_repacked_60 : decode cX7_repacked 60 = .ok (.getfield 25, 3) := by decide +kernel
theorem dX7_repacked_63 : decode cX7_repacked 63 = .ok (.getfield 215, 3) := by decide +kernel
theorem dX7_repacked_66 : decode cX7_repacked 66 = .ok (.ireturn, 1) := by decide +kernel
theorem dX7_repacked_67 : decode cX7_repacked 67 = .ok (.iload_n 1, 1) := by decide +kernel
theorem dX7_repacked_68 : decode cX7_repacked 68 = .ok (.iconst 1, 1) := by decide +kernel
theorem dX7_repacked_69 : decode cX7_repacked 69 = .ok (.if_icmp .ne 13, 3) := by decide +kernel
theorem dX7_repacked_72 : decode cX7_repacked 72 = .ok (.aload_n 0, 1) := by decide +kernel
theorem dX7_repacked_73 : decode cX7_repacked 73 = .ok (.getfield 25, 3) := by decide +kernel
theorem dX7_repacked_76 : decode cX7_repacked 76 = .ok (.getfield 217, 3) := by decide +kernel
theorem dX7_repacked_79 : decode cX7_repacked 79 = .ok (.goto 10, 3) := by decide +kernel
theorem dX7_repacked_82 : decode cX7_repacked 82 = .ok (.aload_n 0, 1) := by decide +kernel
theorem dX7_repacked_83 : decode cX7_repacked 83 = .ok (.getfield 25, 3) := by decide +kernel
theorem dX7_repacked_86 : decode cX7_repacked 86 = .ok (.getfield 220, 3) := by decide +kernel
theorem dX7_repacked_89 : decode cX7_repacked 89 = .ok (.ireturn, 1) := by decide +kernel
theorem dX7_best_0 : decode cX7_best 0 = .ok (.iload_n 1, 1) := by decide +kernel
theorem dX7_best_1 : decode cX7_best 1 = .ok (.ifCond .lt 8, 3) := by decide +kernel
theorem dX7_best_4 : decode cX7_best 4 = .ok (.iload_n 1, 1) := by decide +kernel
theorem dX7_best_5 : decode cX7_best 5 = .ok (.iconst 1, 1) := by decide +kernel
theorem dX7_best_6 : decode cX7_best 6 = .ok (.if_icmp .le 10, 3) := by decide +kernel
theorem dX7_best_9 : decode cX7_best 9 = .ok (.aload_n 0, 1) := by decide +kernel
theorem dX7_best_10 : decode cX7_best 10 = .ok (.bipush (-2), 2) := by decide +kernel
theorem dX7_best_12 : decode cX7_best 12 = .ok (.invokevirtual 67, 3) := by decide +kernel
theorem dX7_best_15 : decode cX7_best 15 = .ok (.ireturn, 1) := by decide +kernel
theorem dX7_best_16 : decode cX7_best 16 = .ok (.iload_n 1, 1) := by decide +kernel
theorem dX7_best_17 : decode cX7_best 17 = .ok (.ifCond .ne 8, 3) := by decide +kernel
theorem dX7_best_20 : decode cX7_best 20 = .ok (.bipush 9, 2) := by decide +kernel
theorem dX7_best_22 : decode cX7_best 22 = .ok (.goto 5, 3) := by decide +kernel
theorem dX7_best_25 : decode cX7_best 25 = .ok (.bipush 6, 2) := by decide +kernel
theorem dX7_best_27 : decode cX7_best 27 = .ok (.istore_n 2, 1) := by decide +kernel
theorem dX7_best_28 : decode cX7_best 28 = .ok (.iconst 0, 1) := by decide +kernel
theorem dX7_best_29 : decode cX7_best 29 = .ok (.istore_n 3, 1) := by decide +kernel
theorem dX7_best_30 : decode cX7_best 30 = .ok (.ldc 223, 2) := by decide +kernel
theorem dX7_best_32 : decode cX7_best 32 = .ok (.istore 4, 2) := by decide +kernel
theorem dX7_best_34 : decode cX7_best 34 = .ok (.aload_n 0, 1) := by decide +kernel
theorem dX7_best_35 : decode cX7_best 35 = .ok (.getfield 25, 3) := by decide +kernel
theorem dX7_best_38 : decode cX7_best 38 = .ok (.aload_n 0, 1) := by decide +kernel
theorem dX7_best_39 : decode cX7_best 39 = .ok (.getfield 10, 3) := by decide +kernel
theorem dX7_best_42 : decode cX7_best 42 = .ok (.invokevirtual 151, 3) := by decide +kernel
theorem dX7_best_45 : decode cX7_best 45 = .ok (.iconst 0, 1) := by decide +kernel
theorem dX7_best_46 : decode cX7_best 46 = .ok (.istore 5, 2) := by decide +kernel
theorem dX7_best_48 : decode cX7_best 48 = .ok (.iload 5, 2) := by decide +kernel
theorem dX7_best_50 : decode cX7_best 50 = .ok (.iload_n 2, 1) := by decide +kernel
theorem dX7_best_51 : decode cX7_best 51 = .ok (.if_icmp .ge 86, 3) := by decide +kernel
theorem dX7_best_54 : decode cX7_best 54 = .ok (.iload_n 1, 1) := by decide +kernel
theorem dX7_best_55 : decode cX7_best 55 = .ok (.ifCond .ne 29, 3) := by decide +kernel
theorem dX7_best_58 : decode cX7_best 58 = .ok (.aload_n 0, 1) := by decide +kernel
theorem dX7_best_59 : decode cX7_best 59 = .ok (.getfield 25, 3) := by decide +kernel
theorem dX7_best_62 : decode cX7_best 62 = .ok (.aload_n 0, 1) := by decide +kernel
theorem dX7_best_63 : decode cX7_best 63 = .ok (.getfield 10, 3) := by decide +kernel
theorem dX7_best_66 : decode cX7_best 66 = .ok (.getfield 142, 3) := by decide +kernel
theorem dX7_best_69 : decode cX7_best 69 = .ok (.aload_n 0, 1) := by decide +kernel
theorem dX7_best_70 : decode cX7_best 70 = .ok (.getfield 10, 3) := by decide +kernel
theorem dX7_best_73 : decode cX7_best 73 = .ok (.getfield 145, 3) := by decide +kernel
theorem dX7_best_76 : decode cX7_best 76 = .ok (.iload 5, 2) := by decide +kernel
theorem dX7_best_78 : decode cX7_best 78 = .ok (.invokevirtual 154, 3) := by decide +kernel
theorem dX7_best_81 : decode cX7_best 81 = .ok (.goto 26, 3) := by decide +kernel
theorem dX7_best_84 : decode cX7_best 84 = .ok (.aload_n 0, 1) := by decide +kernel
theorem dX7_best_85 : decode cX7_best 85 = .ok (.getfield 25, 3) := by decide +kernel
theorem dX7_best_88 : decode cX7_best 88 = .ok (.iload 5, 2) := by decide +kernel
theorem dX7_best_90 : decode cX7_best 90 = .ok (.aload_n 0, 1) := by decide +kernel
theorem dX7_best_91 : decode cX7_best 91 = .ok (.getfield 10, 3) := by decide +kernel
theorem dX7_best_94 : decode cX7_best 94 = .ok (.getfield 145, 3) := by decide +kernel
theorem dX7_best_97 : decode cX7_best 97 = .ok (.aload_n 0, 1) := by decide +kernel
theorem dX7_best_98 : decode cX7_best 98 = .ok (.getfield 10, 3) := by decide +kernel
theorem dX7_best_101 : decode cX7_best 101 = .ok (.getfield 148, 3) := by decide +kernel
theorem dX7_best_104 : decode cX7_best 104 = .ok (.invokevirtual 154, 3) := by decide +kernel
theorem dX7_best_107 : decode cX7_best 107 = .ok (.aload_n 0, 1) := by decide +kernel
theorem dX7_best_108 : decode cX7_best 108 = .ok (.getfield 25, 3) := by decide +kernel
theorem dX7_best_111 : decode cX7_best 111 = .ok (.getfield 215, 3) := by decide +kernel
theorem dX7_best_114 : decode cX7_best 114 = .ok (.iload 4, 2) := by decide +kernel
theorem dX7_best_116 : decode cX7_best 116 = .ok (.if_icmp .ge 15, 3) := by decide +kernel
theorem dX7_best_119 : decode cX7_best 119 = .ok (.aload_n 0, 1) := by decide +kernel
theorem dX7_best_120 : decode cX7_best 120 = .ok (.getfield 25, 3) := by decide +kernel
theorem dX7_best_123 : decode cX7_best 123 = .ok (.getfield 215, 3) := by decide +kernel
theorem dX7_best_126 : decode cX7_best 126 = .ok (.istore 4, 2) := by decide +kernel
theorem dX7_best_128 : decode cX7_best 128 = .ok (.iload 5, 2) := by decide +kernel
theorem dX7_best_130 : decode cX7_best 130 = .ok (.istore_n 3, 1) := by decide +kernel
theorem dX7_best_131 : decode cX7_best 131 = .ok (.iinc 5 1, 3) := by decide +kernel
theorem dX7_best_134 : decode cX7_best 134 = .ok (.goto (-86), 3) := by decide +kernel
theorem dX7_best_137 : decode cX7_best 137 = .ok (.iload_n 3, 1) := by decide +kernel
theorem dX7_best_138 : decode cX7_best 138 = .ok (.ireturn, 1) := by decide +kernel
theorem dX7_bestBase_0 : decode cX7_bestBase 0 = .ok (.aload_n 0, 1) := by decide +kernel
theorem dX7_bestBase_1 : decode cX7_bestBase 1 = .ok (.getfield 10, 3) := by decide +kernel
theorem dX7_bestBase_4 : decode cX7_bestBase 4 = .ok (.iload_n 1, 1) := by decide +kernel
theorem dX7_bestBase_5 : decode cX7_bestBase 5 = .ok (.invokevirtual 109, 3) := by decide +kernel
theorem dX7_bestBase_8 : decode cX7_bestBase 8 = .ok (.ifCond .ne 9, 3) := by decide +kernel
theorem dX7_bestBase_11 : decode cX7_bestBase 11 = .ok (.aload_n 0, 1) := by decide +kernel
theorem dX7_bestBase_12 : decode cX7_bestBase 12 = .ok (.iconst (-1), 1) := by decide +kernel
theorem dX7_bestBase_13 : decode cX7_bestBase 13 = .ok (.invokevirtual 67, 3) := by decide +kernel
theorem dX7_bestBase_16 : decode cX7_bestBase 16 = .ok (.ireturn, 1) := by decide +kernel
theorem dX7_bestBase_17 : decode cX7_bestBase 17 = .ok (.iload_n 2, 1) := by decide +kernel
theorem dX7_bestBase_18 : decode cX7_bestBase 18 = .ok (.ifCond .lt 8, 3) := by decide +kernel
theorem dX7_bestBase_21 : decode cX7_bestBase 21 = .ok (.iload_n 2, 1) := by decide +kernel
theorem dX7_bestBase_22 : decode cX7_bestBase 22 = .ok (.iconst 1, 1) := by decide +kernel
theorem dX7_bestBase_23 : decode cX7_bestBase 23 = .ok (.if_icmp .le 10, 3) := by decide +kernel
theorem dX7_bestBase_26 : decode cX7_bestBase 26 = .ok (.aload_n 0, 1) := by decide +kernel
theorem dX7_bestBase_27 : decode cX7_bestBase 27 = .ok (.bipush (-2), 2) := by decide +kernel
theorem dX7_bestBase_29 : decode cX7_bestBase 29 = .ok (.invokevirtual 67, 3) := by decide +kernel
