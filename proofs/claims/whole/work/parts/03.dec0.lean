theorem dX0_init_0 : decode cX0_init 0 = .ok (.aload_n 0, 1) := by decide +kernel
theorem dX0_init_1 : decode cX0_init 1 = .ok (.invokespecial 3, 3) := by decide +kernel
theorem dX0_init_4 : decode cX0_init 4 = .ok (.aload_n 0, 1) := by decide +kernel
theorem dX0_init_5 : decode cX0_init 5 = .ok (.bipush 12, 2) := by decide +kernel
theorem dX0_init_7 : decode cX0_init 7 = .ok (.newarray .int, 2) := by decide +kernel
theorem dX0_init_9 : decode cX0_init 9 = .ok (.putfield 9, 3) := by decide +kernel
theorem dX0_init_12 : decode cX0_init 12 = .ok (.aload_n 0, 1) := by decide +kernel
theorem dX0_init_13 : decode cX0_init 13 = .ok (.bipush 12, 2) := by decide +kernel
theorem dX0_init_15 : decode cX0_init 15 = .ok (.newarray .int, 2) := by decide +kernel
theorem dX0_init_17 : decode cX0_init 17 = .ok (.putfield 15, 3) := by decide +kernel
theorem dX0_init_20 : decode cX0_init 20 = .ok (.aload_n 0, 1) := by decide +kernel
theorem dX0_init_21 : decode cX0_init 21 = .ok (.iconst 0, 1) := by decide +kernel
theorem dX0_init_22 : decode cX0_init 22 = .ok (.putfield 18, 3) := by decide +kernel
theorem dX0_init_25 : decode cX0_init 25 = .ok (.aload_n 0, 1) := by decide +kernel
theorem dX0_init_26 : decode cX0_init 26 = .ok (.iconst 0, 1) := by decide +kernel
theorem dX0_init_27 : decode cX0_init 27 = .ok (.putfield 22, 3) := by decide +kernel
theorem dX0_init_30 : decode cX0_init 30 = .ok (.return_, 1) := by decide +kernel
theorem dX0_make_0 : decode cX0_make 0 = .ok (.aload_n 0, 1) := by decide +kernel
theorem dX0_make_1 : decode cX0_make 1 = .ok (.iconst 0, 1) := by decide +kernel
theorem dX0_make_2 : decode cX0_make 2 = .ok (.putfield 18, 3) := by decide +kernel
theorem dX0_make_5 : decode cX0_make 5 = .ok (.aload_n 0, 1) := by decide +kernel
theorem dX0_make_6 : decode cX0_make 6 = .ok (.iconst 0, 1) := by decide +kernel
theorem dX0_make_7 : decode cX0_make 7 = .ok (.putfield 22, 3) := by decide +kernel
theorem dX0_make_10 : decode cX0_make 10 = .ok (.iconst 0, 1) := by decide +kernel
theorem dX0_make_11 : decode cX0_make 11 = .ok (.istore_n 3, 1) := by decide +kernel
theorem dX0_make_12 : decode cX0_make 12 = .ok (.iload_n 3, 1) := by decide +kernel
theorem dX0_make_13 : decode cX0_make 13 = .ok (.aload_n 2, 1) := by decide +kernel
theorem dX0_make_14 : decode cX0_make 14 = .ok (.getfield 25, 3) := by decide +kernel
theorem dX0_make_17 : decode cX0_make 17 = .ok (.if_icmp .ge 33, 3) := by decide +kernel
theorem dX0_make_20 : decode cX0_make 20 = .ok (.aload_n 0, 1) := by decide +kernel
theorem dX0_make_21 : decode cX0_make 21 = .ok (.getfield 18, 3) := by decide +kernel
theorem dX0_make_24 : decode cX0_make 24 = .ok (.aload_n 0, 1) := by decide +kernel
theorem dX0_make_25 : decode cX0_make 25 = .ok (.getfield 9, 3) := by decide +kernel
theorem dX0_make_28 : decode cX0_make 28 = .ok (.arraylength, 1) := by decide +kernel
theorem dX0_make_29 : decode cX0_make 29 = .ok (.if_icmp .lt 4, 3) := by decide +kernel
theorem dX0_make_32 : decode cX0_make 32 = .ok (.return_, 1) := by decide +kernel
theorem dX0_make_33 : decode cX0_make 33 = .ok (.iload_n 3, 1) := by decide +kernel
theorem dX0_make_34 : decode cX0_make 34 = .ok (.iconst 1, 1) := by decide +kernel
theorem dX0_make_35 : decode cX0_make 35 = .ok (.aload_n 0, 1) := by decide +kernel
theorem dX0_make_36 : decode cX0_make 36 = .ok (.aload_n 1, 1) := by decide +kernel
theorem dX0_make_37 : decode cX0_make 37 = .ok (.aload_n 2, 1) := by decide +kernel
theorem dX0_make_38 : decode cX0_make 38 = .ok (.iload_n 3, 1) := by decide +kernel
theorem dX0_make_39 : decode cX0_make 39 = .ok (.invokevirtual 28, 3) := by decide +kernel
theorem dX0_make_42 : decode cX0_make 42 = .ok (.invokestatic 32, 3) := by decide +kernel
theorem dX0_make_45 : decode cX0_make 45 = .ok (.iadd, 1) := by decide +kernel
theorem dX0_make_46 : decode cX0_make 46 = .ok (.istore_n 3, 1) := by decide +kernel
theorem dX0_make_47 : decode cX0_make 47 = .ok (.goto (-35), 3) := by decide +kernel
theorem dX0_make_50 : decode cX0_make 50 = .ok (.return_, 1) := by decide +kernel
theorem dX0_addStep_0 : decode cX0_addStep 0 = .ok (.iconst 0, 1) := by decide +kernel
theorem dX0_addStep_1 : decode cX0_addStep 1 = .ok (.istore 4, 2) := by decide +kernel
theorem dX0_addStep_3 : decode cX0_addStep 3 = .ok (.iconst 0, 1) := by decide +kernel
theorem dX0_addStep_4 : decode cX0_addStep 4 = .ok (.istore 5, 2) := by decide +kernel
theorem dX0_addStep_6 : decode cX0_addStep 6 = .ok (.iconst 0, 1) := by decide +kernel
theorem dX0_addStep_7 : decode cX0_addStep 7 = .ok (.istore 6, 2) := by decide +kernel
theorem dX0_addStep_9 : decode cX0_addStep 9 = .ok (.iload 6, 2) := by decide +kernel
theorem dX0_addStep_11 : decode cX0_addStep 11 = .ok (.iload 4, 2) := by decide +kernel
theorem dX0_addStep_13 : decode cX0_addStep 13 = .ok (.iadd, 1) := by decide +kernel
theorem dX0_addStep_14 : decode cX0_addStep 14 = .ok (.aload_n 1, 1) := by decide +kernel
theorem dX0_addStep_15 : decode cX0_addStep 15 = .ok (.getfield 25, 3) := by decide +kernel
theorem dX0_addStep_18 : decode cX0_addStep 18 = .ok (.if_icmp .ge 34, 3) := by decide +kernel
theorem dX0_addStep_21 : decode cX0_addStep 21 = .ok (.aload_n 1, 1) := by decide +kernel
theorem dX0_addStep_22 : decode cX0_addStep 22 = .ok (.iload 6, 2) := by decide +kernel
theorem dX0_addStep_24 : decode cX0_addStep 24 = .ok (.aload_n 2, 1) := by decide +kernel
theorem dX0_addStep_25 : decode cX0_addStep 25 = .ok (.iload_n 3, 1) := by decide +kernel
theorem dX0_addStep_26 : decode cX0_addStep 26 = .ok (.invokevirtual 38, 3) := by decide +kernel
theorem dX0_addStep_29 : decode cX0_addStep 29 = .ok (.istore 7, 2) := by decide +kernel
theorem dX0_addStep_31 : decode cX0_addStep 31 = .ok (.iload 7, 2) := by decide +kernel
theorem dX0_addStep_33 : decode cX0_addStep 33 = .ok (.iload 4, 2) := by decide +kernel
theorem dX0_addStep_35 : decode cX0_addStep 35 = .ok (.if_icmp .le 11, 3) := by decide +kernel
theorem dX0_addStep_38 : decode cX0_addStep 38 = .ok (.iload 7, 2) := by decide +kernel
theorem dX0_addStep_40 : decode cX0_addStep 40 = .ok (.istore 4, 2) := by decide +kernel
theorem dX0_addStep_42 : decode cX0_addStep 42 = .ok (.iload 6, 2) := by decide +kernel
theorem dX0_addStep_44 : decode cX0_addStep 44 = .ok (.istore 5, 2) := by decide +kernel
theorem dX0_addStep_46 : decode cX0_addStep 46 = .ok (.iinc 6 1, 3) := by decide +kernel
theorem dX0_addStep_49 : decode cX0_addStep 49 = .ok (.goto (-40), 3) := by decide +kernel
theorem dX0_addStep_52 : decode cX0_addStep 52 = .ok (.iload 4, 2) := by decide +kernel
theorem dX0_addStep_54 : decode cX0_addStep 54 = .ok (.iconst 2, 1) := by decide +kernel
theorem dX0_addStep_55 : decode cX0_addStep 55 = .ok (.if_icmp .lt 24, 3) := by decide +kernel
theorem dX0_addStep_58 : decode cX0_addStep 58 = .ok (.aload_n 0, 1) := by decide +kernel
theorem dX0_addStep_59 : decode cX0_addStep 59 = .ok (.iload 4, 2) := by decide +kernel
theorem dX0_addStep_61 : decode cX0_addStep 61 = .ok (.iload 5, 2) := by decide +kernel
theorem dX0_addStep_63 : decode cX0_addStep 63 = .ok (.invokevirtual 42, 3) := by decide +kernel
theorem dX0_addStep_66 : decode cX0_addStep 66 = .ok (.aload_n 0, 1) := by decide +kernel
theorem dX0_addStep_67 : decode cX0_addStep 67 = .ok (.dup, 1) := by decide +kernel
theorem dX0_addStep_68 : decode cX0_addStep 68 = .ok (.getfield 22, 3) := by decide +kernel
theorem dX0_addStep_71 : decode cX0_addStep 71 = .ok (.iconst 1, 1) := by decide +kernel
theorem dX0_addStep_72 : decode cX0_addStep 72 = .ok (.iadd, 1) := by decide +kernel
theorem dX0_addStep_73 : decode cX0_addStep 73 = .ok (.putfield 22, 3) := by decide +kernel
theorem dX0_addStep_76 : decode cX0_addStep 76 = .ok (.iload 4, 2) := by decide +kernel
theorem dX0_addStep_78 : decode cX0_addStep 78 = .ok (.ireturn, 1) := by decide +kernel
theorem dX0_addStep_79 : decode cX0_addStep 79 = .ok (.aload_n 0, 1) := by decide +kernel
theorem dX0_addStep_80 : decode cX0_addStep 80 = .ok (.iconst 0, 1) := by decide +kernel
theorem dX0_addStep_81 : decode cX0_addStep 81 = .ok (.aload_n 2, 1) := by decide +kernel
theorem dX0_addStep_82 : decode cX0_addStep 82 = .ok (.iload_n 3, 1) := by decide +kernel
theorem dX0_addStep_83 : decode cX0_addStep 83 = .ok (.invokevirtual 46, 3) := by decide +kernel
theorem dX0_addStep_86 : decode cX0_addStep 86 = .ok (.invokevirtual 42, 3) := by decide +kernel
theorem dX0_addStep_89 : decode cX0_addStep 89 = .ok (.iconst 1, 1) := by decide +kernel
theorem dX0_addStep_90 : decode cX0_addStep 90 = .ok (.ireturn, 1) := by decide +kernel
theorem dX0_put_0 : decode cX0_put 0 = .ok (.aload_n 0, 1) := by decide +kernel
theorem dX0_put_1 : decode cX0_put 1 = .ok (.getfield 18, 3) := by decide +kernel
theorem dX0_put_4 : decode cX0_put 4 = .ok (.ifCond .lt 57, 3) := by decide +kernel
theorem dX0_put_7 : decode cX0_put 7 = .ok (.aload_n 0, 1) := by decide +kernel
theorem dX0_put_8 : decode cX0_put 8 = .ok (.getfield 18, 3) := by decide +kernel
theorem dX0_put_11 : decode cX0_put 11 = .ok (.aload_n 0, 1) := by decide +kernel
theorem dX0_put_12 : decode cX0_put 12 = .ok (.getfield 9, 3) := by decide +kernel
theorem dX0_put_15 : decode cX0_put 15 = .ok (.arraylength, 1) := by decide +kernel
theorem dX0_put_16 : decode cX0_put 16 = .ok (.if_icmp .ge 45, 3) := by decide +kernel
theorem dX0_put_19 : decode cX0_put 19 = .ok (.aload_n 0, 1) := by decide +kernel
theorem dX0_put_20 : decode cX0_put 20 = .ok (.getfield 18, 3) := by decide +kernel
theorem dX0_put_23 : decode cX0_put 23 = .ok (.aload_n 0, 1) := by decide +kernel
theorem dX0_put_24 : decode cX0_put 24 = .ok (.getfield 15, 3) := by decide +kernel
theorem dX0_put_27 : decode cX0_put 27 = .ok (.arraylength, 1) := by decide +kernel
theorem dX0_put_28 : decode cX0_put 28 = .ok (.if_icmp .ge 33, 3) := by decide +kernel
theorem dX0_put_31 : decode cX0_put 31 = .ok (.aload_n 0, 1) := by decide +kernel
theorem dX0_put_32 : decode cX0_put 32 = .ok (.getfield 9, 3) := by decide +kernel
theorem dX0_put_35 : decode cX0_put 35 = .ok (.aload_n 0, 1) := by decide +kernel
theorem dX0_put_36 : decode cX0_put 36 = .ok (.getfield 18, 3) := by decide +kernel
theorem dX0_put_39 : decode cX0_put 39 = .ok (.iload_n 1, 1) := by decide +kernel
theorem dX0_put_40 : decode cX0_put 40 = .ok (.iastore, 1) := by decide +kernel
theorem dX0_put_41 : decode cX0_put 41 = .ok (.aload_n 0, 1) := by decide +kernel
theorem dX0_put_42 : decode cX0_put 42 = .ok (.getfield 15, 3) := by decide +kernel
theorem dX0_put_45 : decode cX0_put 45 = .ok (.aload_n 0, 1) := by decide +kernel
theorem dX0_put_46 : decode cX0_put 46 = .ok (.getfield 18, 3) := by decide +kernel
theorem dX0_put_49 : decode cX0_put 49 = .ok (.iload_n 2, 1) := by decide +kernel
theorem dX0_put_50 : decode cX0_put 50 = .ok (.iastore, 1) := by decide +kernel
theorem dX0_put_51 : decode cX0_put 51 = .ok (.aload_n 0, 1) := by decide +kernel
theorem dX0_put_52 : decode cX0_put 52 = .ok (.dup, 1) := by decide +kernel
theorem dX0_put_53 : decode cX0_put 53 = .ok (.getfield 18, 3) := by decide +kernel
theorem dX0_put_56 : decode cX0_put 56 = .ok (.iconst 1, 1) := by decide +kernel
theorem dX0_put_57 : decode cX0_put 57 = .ok (.iadd, 1) := by decide +kernel
theorem dX0_put_58 : decode cX0_put 58 = .ok (.putfield 18, 3) := by decide +kernel
theorem dX0_put_61 : decode cX0_put 61 = .ok (.return_, 1) := by decide +kernel
theorem dX0_cost_0 : decode cX0_cost 0 = .ok (.iconst 1, 1) := by decide +kernel
theorem dX0_cost_1 : decode cX0_cost 1 = .ok (.aload_n 0, 1) := by decide +kernel
theorem dX0_cost_2 : decode cX0_cost 2 = .ok (.getfield 18, 3) := by decide +kernel
theorem dX0_cost_5 : decode cX0_cost 5 = .ok (.iadd, 1) := by decide +kernel
theorem dX0_cost_6 : decode cX0_cost 6 = .ok (.aload_n 0, 1) := by decide +kernel
theorem dX0_cost_7 : decode cX0_cost 7 = .ok (.getfield 22, 3) := by decide +kernel
theorem dX0_cost_10 : decode cX0_cost 10 = .ok (.iadd, 1) := by decide +kernel
theorem dX0_cost_11 : decode cX0_cost 11 = .ok (.ireturn, 1) := by decide +kernel
theorem dX0_spell_0 : decode cX0_spell 0 = .ok (.aload_n 2, 1) := by decide +kernel
theorem dX0_spell_1 : decode cX0_spell 1 = .ok (.invokevirtual 50, 3) := by decide +kernel
theorem dX0_spell_4 : decode cX0_spell 4 = .ok (.iconst 0, 1) := by decide +kernel
theorem dX0_spell_5 : decode cX0_spell 5 = .ok (.istore_n 3, 1) := by decide +kernel
theorem dX0_spell_6 : decode cX0_spell 6 = .ok (.iload_n 3, 1) := by decide +kernel
theorem dX0_spell_7 : decode cX0_spell 7 = .ok (.aload_n 0, 1) := by decide +kernel
theorem dX0_spell_8 : decode cX0_spell 8 = .ok (.getfield 18, 3) := by decide +kernel
theorem dX0_spell_11 : decode cX0_spell 11 = .ok (.if_icmp .ge 83, 3) := by decide +kernel
theorem dX0_spell_14 : decode cX0_spell 14 = .ok (.iload_n 3, 1) := by decide +kernel
theorem dX0_spell_15 : decode cX0_spell 15 = .ok (.aload_n 0, 1) := by decide +kernel
theorem dX0_spell_16 : decode cX0_spell 16 = .ok (.getfield 9, 3) := by decide +kernel
theorem dX0_spell_19 : decode cX0_spell 19 = .ok (.arraylength, 1) := by decide +kernel
theorem dX0_spell_20 : decode cX0_spell 20 = .ok (.if_icmp .ge 74, 3) := by decide +kernel
theorem dX0_spell_23 : decode cX0_spell 23 = .ok (.iload_n 3, 1) := by decide +kernel
theorem dX0_spell_24 : decode cX0_spell 24 = .ok (.aload_n 0, 1) := by decide +kernel
theorem dX0_spell_25 : decode cX0_spell 25 = .ok (.getfield 15, 3) := by decide +kernel
theorem dX0_spell_28 : decode cX0_spell 28 = .ok (.arraylength, 1) := by decide +kernel
theorem dX0_spell_29 : decode cX0_spell 29 = .ok (.if_icmp .ge 65, 3) := by decide +kernel
theorem dX0_spell_32 : decode cX0_spell 32 = .ok (.aload_n 0, 1) := by decide +kernel
theorem dX0_spell_33 : decode cX0_spell 33 = .ok (.getfield 9, 3) := by decide +kernel
theorem dX0_spell_36 : decode cX0_spell 36 = .ok (.iload_n 3, 1) := by decide +kernel
theorem dX0_spell_37 : decode cX0_spell 37 = .ok (.iaload, 1) := by decide +kernel
theorem dX0_spell_38 : decode cX0_spell 38 = .ok (.ifCond .ne 13, 3) := by decide +kernel
theorem dX0_spell_41 : decode cX0_spell 41 = .ok (.aload_n 2, 1) := by decide +kernel
theorem dX0_spell_42 : decode cX0_spell 42 = .ok (.aload_n 0, 1) := by decide +kernel
theorem dX0_spell_43 : decode cX0_spell 43 = .ok (.getfield 15, 3) := by decide +kernel
theorem dX0_spell_46 : decode cX0_spell 46 = .ok (.iload_n 3, 1) := by decide +kernel
theorem dX0_spell_47 : decode cX0_spell 47 = .ok (.iaload, 1) := by decide +kernel
theorem dX0_spell_48 : decode cX0_spell 48 = .ok (.invokevirtual 53, 3) := by decide +kernel
theorem dX0_spell_51 : decode cX0_spell 51 = .ok (.iconst 0, 1) := by decide +kernel
theorem dX0_spell_52 : decode cX0_spell 52 = .ok (.istore 4, 2) := by decide +kernel
theorem dX0_spell_54 : decode cX0_spell 54 = .ok (.iload 4, 2) := by decide +kernel
theorem dX0_spell_56 : decode cX0_spell 56 = .ok (.aload_n 0, 1) := by decide +kernel
theorem dX0_spell_57 : decode cX0_spell 57 = .ok (.getfield 9, 3) := by decide +kernel
theorem dX0_spell_60 : decode cX0_spell 60 = .ok (.iload_n 3, 1) := by decide +kernel
theorem dX0_spell_61 : decode cX0_spell 61 = .ok (.iaload, 1) := by decide +kernel
theorem dX0_spell_62 : decode cX0_spell 62 = .ok (.if_icmp .ge 26, 3) := by decide +kernel
theorem dX0_spell_65 : decode cX0_spell 65 = .ok (.aload_n 2, 1) := by decide +kernel
theorem dX0_spell_66 : decode cX0_spell 66 = .ok (.aload_n 1, 1) := by decide +kernel
theorem dX0_spell_67 : decode cX0_spell 67 = .ok (.aload_n 0, 1) := by decide +kernel
theorem dX0_spell_68 : decode cX0_spell 68 = .ok (.getfield 15, 3) := by decide +kernel
theorem dX0_spell_71 : decode cX0_spell 71 = .ok (.iload_n 3, 1) := by decide +kernel
theorem dX0_spell_72 : decode cX0_spell 72 = .ok (.iaload, 1) := by decide +kernel
theorem dX0_spell_73 : decode cX0_spell 73 = .ok (.iload 4, 2) := by decide +kernel
theorem dX0_spell_75 : decode cX0_spell 75 = .ok (.iadd, 1) := by decide +kernel
theorem dX0_spell_76 : decode cX0_spell 76 = .ok (.invokevirtual 46, 3) := by decide +kernel
theorem dX0_spell_79 : decode cX0_spell 79 = .ok (.invokevirtual 53, 3) := by decide +kernel
theorem dX0_spell_82 : decode cX0_spell 82 = .ok (.iinc 4 1, 3) := by decide +kernel
theorem dX0_spell_85 : decode cX0_spell 85 = .ok (.goto (-31), 3) := by decide +kernel
theorem dX0_spell_88 : decode cX0_spell 88 = .ok (.iinc 3 1, 3) := by decide +kernel
theorem dX0_spell_91 : decode cX0_spell 91 = .ok (.goto (-85), 3) := by decide +kernel
theorem dX0_spell_94 : decode cX0_spell 94 = .ok (.return_, 1) := by decide +kernel
theorem dX0_copyFrom_0 : decode cX0_copyFrom 0 = .ok (.aload_n 1, 1) := by decide +kernel
theorem dX0_copyFrom_1 : decode cX0_copyFrom 1 = .ok (.getfield 9, 3) := by decide +kernel
theorem dX0_copyFrom_4 : decode cX0_copyFrom 4 = .ok (.iconst 0, 1) := by decide +kernel
theorem dX0_copyFrom_5 : decode cX0_copyFrom 5 = .ok (.aload_n 0, 1) := by decide +kernel
theorem dX0_copyFrom_6 : decode cX0_copyFrom 6 = .ok (.getfield 9, 3) := by decide +kernel
theorem dX0_copyFrom_9 : decode cX0_copyFrom 9 = .ok (.iconst 0, 1) := by decide +kernel
theorem dX0_copyFrom_10 : decode cX0_copyFrom 10 = .ok (.bipush 12, 2) := by decide +kernel
theorem dX0_copyFrom_12 : decode cX0_copyFrom 12 = .ok (.invokestatic 57, 3) := by decide +kernel
theorem dX0_copyFrom_15 : decode cX0_copyFrom 15 = .ok (.aload_n 1, 1) := by decide +kernel
theorem dX0_copyFrom_16 : decode cX0_copyFrom 16 = .ok (.getfield 15, 3) := by decide +kernel
theorem dX0_copyFrom_19 : decode cX0_copyFrom 19 = .ok (.iconst 0, 1) := by decide +kernel
theorem dX0_copyFrom_20 : decode cX0_copyFrom 20 = .ok (.aload_n 0, 1) := by decide +kernel
theorem dX0_copyFrom_21 : decode cX0_copyFrom 21 = .ok (.getfield 15, 3) := by decide +kernel
theorem dX0_copyFrom_24 : decode cX0_copyFrom 24 = .ok (.iconst 0, 1) := by decide +kernel
theorem dX0_copyFrom_25 : decode cX0_copyFrom 25 = .ok (.bipush 12, 2) := by decide +kernel
theorem dX0_copyFrom_27 : decode cX0_copyFrom 27 = .ok (.invokestatic 57, 3) := by decide +kernel
theorem dX0_copyFrom_30 : decode cX0_copyFrom 30 = .ok (.aload_n 0, 1) := by decide +kernel
theorem dX0_copyFrom_31 : decode cX0_copyFrom 31 = .ok (.aload_n 1, 1) := by decide +kernel
theorem dX0_copyFrom_32 : decode cX0_copyFrom 32 = .ok (.getfield 18, 3) := by decide +kernel
theorem dX0_copyFrom_35 : decode cX0_copyFrom 35 = .ok (.putfield 18, 3) := by decide +kernel
theorem dX0_copyFrom_38 : decode cX0_copyFrom 38 = .ok (.aload_n 0, 1) := by decide +kernel
theorem dX0_copyFrom_39 : decode cX0_copyFrom 39 = .ok (.aload_n 1, 1) := by decide +kernel
theorem dX0_copyFrom_40 : decode cX0_copyFrom 40 = .ok (.getfield 22, 3) := by decide +kernel
theorem dX0_copyFrom_43 : decode cX0_copyFrom 43 = .ok (.putfield 22, 3) := by decide +kernel
theorem dX0_copyFrom_46 : decode cX0_copyFrom 46 = .ok (.return_, 1) := by decide +kernel
theorem dX1_init_0 : decode cX1_init 0 = .ok (.aload_n 0, 1) := by decide +kernel
theorem dX1_init_1 : decode cX1_init 1 = .ok (.invokespecial 3, 3) := by decide +kernel
theorem dX1_init_4 : decode cX1_init 4 = .ok (.aload_n 0, 1) := by decide +kernel
theorem dX1_init_5 : decode cX1_init 5 = .ok (.iconst 0, 1) := by decide +kernel
theorem dX1_init_6 : decode cX1_init 6 = .ok (.putfield 9, 3) := by decide +kernel
theorem dX1_init_9 : decode cX1_init 9 = .ok (.return_, 1) := by decide +kernel
theorem dX1_below_0 : decode cX1_below 0 = .ok (.aload_n 0, 1) := by decide +kernel
theorem dX1_below_1 : decode cX1_below 1 = .ok (.aload_n 0, 1) := by decide +kernel
theorem dX1_below_2 : decode cX1_below 2 = .ok (.getfield 9, 3) := by decide +kernel
theorem dX1_below_5 : decode cX1_below 5 = .ok (.ldc 15, 2) := by decide +kernel
theorem dX1_below_7 : decode cX1_below 7 = .ok (.imul, 1) := by decide +kernel
theorem dX1_below_8 : decode cX1_below 8 = .ok (.ldc 16, 2) := by decide +kernel
theorem dX1_below_10 : decode cX1_below 10 = .ok (.iadd, 1) := by decide +kernel
theorem dX1_below_11 : decode cX1_below 11 = .ok (.putfield 9, 3) := by decide +kernel
theorem dX1_below_14 : decode cX1_below 14 = .ok (.iload_n 1, 1) := by decide +kernel
theorem dX1_below_15 : decode cX1_below 15 = .ok (.ifCond .le 19, 3) := by decide +kernel
theorem dX1_below_18 : decode cX1_below 18 = .ok (.aload_n 0, 1) := by decide +kernel
theorem dX1_below_19 : decode cX1_below 19 = .ok (.getfield 9, 3) := by decide +kernel
theorem dX1_below_22 : decode cX1_below 22 = .ok (.ldc 17, 2) := by decide +kernel
theorem dX1_below_24 : decode cX1_below 24 = .ok (.iand, 1) := by decide +kernel
theorem dX1_below_25 : decode cX1_below 25 = .ok (.sipush 256, 3) := by decide +kernel
theorem dX1_below_28 : decode cX1_below 28 = .ok (.idiv, 1) := by decide +kernel
theorem dX1_below_29 : decode cX1_below 29 = .ok (.iload_n 1, 1) := by decide +kernel
theorem dX1_below_30 : decode cX1_below 30 = .ok (.irem, 1) := by decide +kernel
theorem dX1_below_31 : decode cX1_below 31 = .ok (.goto 4, 3) := by decide +kernel
theorem dX1_below_34 : decode cX1_below 34 = .ok (.iconst 0, 1) := by decide +kernel
theorem dX1_below_35 : decode cX1_below 35 = .ok (.ireturn, 1) := by decide +kernel
theorem dX2_init_0 : decode cX2_init 0 = .ok (.aload_n 0, 1) := by decide +kernel
theorem dX2_init_1 : decode cX2_init 1 = .ok (.invokespecial 3, 3) := by decide +kernel
theorem dX2_init_4 : decode cX2_init 4 = .ok (.aload_n 0, 1) := by decide +kernel
theorem dX2_init_5 : decode cX2_init 5 = .ok (.iconst 0, 1) := by decide +kernel
theorem dX2_init_6 : decode cX2_init 6 = .ok (.iload_n 1, 1) := by decide +kernel
theorem dX2_init_7 : decode cX2_init 7 = .ok (.invokestatic 9, 3) := by decide +kernel
theorem dX2_init_10 : decode cX2_init 10 = .ok (.newarray .int, 2) := by decide +kernel
theorem dX2_init_12 : decode cX2_init 12 = .ok (.putfield 15, 3) := by decide +kernel
theorem dX2_init_15 : decode cX2_init 15 = .ok (.aload_n 0, 1) := by decide +kernel
theorem dX2_init_16 : decode cX2_init 16 = .ok (.iconst 0, 1) := by decide +kernel
theorem dX2_init_17 : decode cX2_init 17 = .ok (.putfield 21, 3) := by decide +kernel
theorem dX2_init_20 : decode cX2_init 20 = .ok (.return_, 1) := by decide +kernel
theorem dX2_isFull_0 : decode cX2_isFull 0 = .ok (.aload_n 0, 1) := by decide +kernel
theorem dX2_isFull_1 : decode cX2_isFull 1 = .ok (.getfield 21, 3) := by decide +kernel
theorem dX2_isFull_4 : decode cX2_isFull 4 = .ok (.aload_n 0, 1) := by decide +kernel
theorem dX2_isFull_5 : decode cX2_isFull 5 = .ok (.getfield 15, 3) := by decide +kernel
theorem dX2_isFull_8 : decode cX2_isFull 8 = .ok (.arraylength, 1) := by decide +kernel
theorem dX2_isFull_9 : decode cX2_isFull 9 = .ok (.if_icmp .lt 7, 3) := by decide +kernel
theorem dX2_isFull_12 : decode cX2_isFull 12 = .ok (.iconst 1, 1) := by decide +kernel
theorem dX2_isFull_13 : decode cX2_isFull 13 = .ok (.goto 4, 3) := by decide +kernel
theorem dX2_isFull_16 : decode cX2_isFull 16 = .ok (.iconst 0, 1) := by decide +kernel
theorem dX2_isFull_17 : decode cX2_isFull 17 = .ok (.ireturn, 1) := by decide +kernel
theorem dX2_add_0 : decode cX2_add 0 = .ok (.aload_n 0, 1) := by decide +kernel
theorem dX2_add_1 : decode cX2_add 1 = .ok (.getfield 21, 3) := by decide +kernel
theorem dX2_add_4 : decode cX2_add 4 = .ok (.ifCond .lt 35, 3) := by decide +kernel
theorem dX2_add_7 : decode cX2_add 7 = .ok (.aload_n 0, 1) := by decide +kernel
theorem dX2_add_8 : decode cX2_add 8 = .ok (.getfield 21, 3) := by decide +kernel
theorem dX2_add_11 : decode cX2_add 11 = .ok (.aload_n 0, 1) := by decide +kernel
theorem dX2_add_12 : decode cX2_add 12 = .ok (.getfield 15, 3) := by decide +kernel
theorem dX2_add_15 : decode cX2_add 15 = .ok (.arraylength, 1) := by decide +kernel
theorem dX2_add_16 : decode cX2_add 16 = .ok (.if_icmp .ge 23, 3) := by decide +kernel
theorem dX2_add_19 : decode cX2_add 19 = .ok (.aload_n 0, 1) := by decide +kernel
theorem dX2_add_20 : decode cX2_add 20 = .ok (.getfield 15, 3) := by decide +kernel
theorem dX2_add_23 : decode cX2_add 23 = .ok (.aload_n 0, 1) := by decide +kernel
theorem dX2_add_24 : decode cX2_add 24 = .ok (.getfield 21, 3) := by decide +kernel
theorem dX2_add_27 : decode cX2_add 27 = .ok (.iload_n 1, 1) := by decide +kernel
theorem dX2_add_28 : decode cX2_add 28 = .ok (.iastore, 1) := by decide +kernel
theorem dX2_add_29 : decode cX2_add 29 = .ok (.aload_n 0, 1) := by decide +kernel
theorem dX2_add_30 : decode cX2_add 30 = .ok (.dup, 1) := by decide +kernel
theorem dX2_add_31 : decode cX2_add 31 = .ok (.getfield 21, 3) := by decide +kernel
theorem dX2_add_34 : decode cX2_add 34 = .ok (.iconst 1, 1) := by decide +kernel
theorem dX2_add_35 : decode cX2_add 35 = .ok (.iadd, 1) := by decide +kernel
theorem dX2_add_36 : decode cX2_add 36 = .ok (.putfield 21, 3) := by decide +kernel
theorem dX2_add_39 : decode cX2_add 39 = .ok (.return_, 1) := by decide +kernel
theorem dX2_at_0 : decode cX2_at 0 = .ok (.iload_n 1, 1) := by decide +kernel
theorem dX2_at_1 : decode cX2_at 1 = .ok (.ifCond .lt 29, 3) := by decide +kernel
theorem dX2_at_4 : decode cX2_at 4 = .ok (.iload_n 1, 1) := by decide +kernel
theorem dX2_at_5 : decode cX2_at 5 = .ok (.aload_n 0, 1) := by decide +kernel
theorem dX2_at_6 : decode cX2_at 6 = .ok (.getfield 21, 3) := by decide +kernel
theorem dX2_at_9 : decode cX2_at 9 = .ok (.if_icmp .ge 21, 3) := by decide +kernel
theorem dX2_at_12 : decode cX2_at 12 = .ok (.iload_n 1, 1) := by decide +kernel
theorem dX2_at_13 : decode cX2_at 13 = .ok (.aload_n 0, 1) := by decide +kernel
theorem dX2_at_14 : decode cX2_at 14 = .ok (.getfield 15, 3) := by decide +kernel
theorem dX2_at_17 : decode cX2_at 17 = .ok (.arraylength, 1) := by decide +kernel
theorem dX2_at_18 : decode cX2_at 18 = .ok (.if_icmp .ge 12, 3) := by decide +kernel
theorem dX2_at_21 : decode cX2_at 21 = .ok (.aload_n 0, 1) := by decide +kernel
theorem dX2_at_22 : decode cX2_at 22 = .ok (.getfield 15, 3) := by decide +kernel
theorem dX2_at_25 : decode cX2_at 25 = .ok (.iload_n 1, 1) := by decide +kernel
theorem dX2_at_26 : decode cX2_at 26 = .ok (.iaload, 1) := by decide +kernel
theorem dX2_at_27 : decode cX2_at 27 = .ok (.goto 4, 3) := by decide +kernel
theorem dX2_at_30 : decode cX2_at 30 = .ok (.iconst (-1), 1) := by decide +kernel
theorem dX2_at_31 : decode cX2_at 31 = .ok (.ireturn, 1) := by decide +kernel
theorem dX2_put_0 : decode cX2_put 0 = .ok (.iload_n 1, 1) := by decide +kernel
theorem dX2_put_1 : decode cX2_put 1 = .ok (.ifCond .lt 27, 3) := by decide +kernel
theorem dX2_put_4 : decode cX2_put 4 = .ok (.iload_n 1, 1) := by decide +kernel
theorem dX2_put_5 : decode cX2_put 5 = .ok (.aload_n 0, 1) := by decide +kernel
theorem dX2_put_6 : decode cX2_put 6 = .ok (.getfield 21, 3) := by decide +kernel
theorem dX2_put_9 : decode cX2_put 9 = .ok (.if_icmp .ge 19, 3) := by decide +kernel
theorem dX2_put_12 : decode cX2_put 12 = .ok (.iload_n 1, 1) := by decide +kernel
theorem dX2_put_13 : decode cX2_put 13 = .ok (.aload_n 0, 1) := by decide +kernel
theorem dX2_put_14 : decode cX2_put 14 = .ok (.getfield 15, 3) := by decide +kernel
theorem dX2_put_17 : decode cX2_put 17 = .ok (.arraylength, 1) := by decide +kernel
theorem dX2_put_18 : decode cX2_put 18 = .ok (.if_icmp .ge 10, 3) := by decide +kernel
theorem dX2_put_21 : decode cX2_put 21 = .ok (.aload_n 0, 1) := by decide +kernel
theorem dX2_put_22 : decode cX2_put 22 = .ok (.getfield 15, 3) := by decide +kernel
theorem dX2_put_25 : decode cX2_put 25 = .ok (.iload_n 1, 1) := by decide +kernel
theorem dX2_put_26 : decode cX2_put 26 = .ok (.iload_n 2, 1) := by decide +kernel
theorem dX2_put_27 : decode cX2_put 27 = .ok (.iastore, 1) := by decide +kernel
theorem dX2_put_28 : decode cX2_put 28 = .ok (.return_, 1) := by decide +kernel
theorem dX2_empty_0 : decode cX2_empty 0 = .ok (.aload_n 0, 1) := by decide +kernel
theorem dX2_empty_1 : decode cX2_empty 1 = .ok (.iconst 0, 1) := by decide +kernel
theorem dX2_empty_2 : decode cX2_empty 2 = .ok (.putfield 21, 3) := by decide +kernel
theorem dX2_empty_5 : decode cX2_empty 5 = .ok (.return_, 1) := by decide +kernel
theorem dX2_copyFrom_0 : decode cX2_copyFrom 0 = .ok (.aload_n 0, 1) := by decide +kernel
theorem dX2_copyFrom_1 : decode cX2_copyFrom 1 = .ok (.aload_n 1, 1) := by decide +kernel
theorem dX2_copyFrom_2 : decode cX2_copyFrom 2 = .ok (.getfield 21, 3) := by decide +kernel
theorem dX2_copyFrom_5 : decode cX2_copyFrom 5 = .ok (.aload_n 0, 1) := by decide +kernel
theorem dX2_copyFrom_6 : decode cX2_copyFrom 6 = .ok (.getfield 15, 3) := by decide +kernel
theorem dX2_copyFrom_9 : decode cX2_copyFrom 9 = .ok (.arraylength, 1) := by decide +kernel
theorem dX2_copyFrom_10 : decode cX2_copyFrom 10 = .ok (.invokestatic 25, 3) := by decide +kernel
theorem dX2_copyFrom_13 : decode cX2_copyFrom 13 = .ok (.putfield 21, 3) := by decide +kernel
theorem dX2_copyFrom_16 : decode cX2_copyFrom 16 = .ok (.aload_n 1, 1) := by decide +kernel
theorem dX2_copyFrom_17 : decode cX2_copyFrom 17 = .ok (.getfield 15, 3) := by decide +kernel
theorem dX2_copyFrom_20 : decode cX2_copyFrom 20 = .ok (.iconst 0, 1) := by decide +kernel
theorem dX2_copyFrom_21 : decode cX2_copyFrom 21 = .ok (.aload_n 0, 1) := by decide +kernel
theorem dX2_copyFrom_22 : decode cX2_copyFrom 22 = .ok (.getfield 15, 3) := by decide +kernel
theorem dX2_copyFrom_25 : decode cX2_copyFrom 25 = .ok (.iconst 0, 1) := by decide +kernel
theorem dX2_copyFrom_26 : decode cX2_copyFrom 26 = .ok (.aload_n 0, 1) := by decide +kernel
theorem dX2_copyFrom_27 : decode cX2_copyFrom 27 = .ok (.getfield 21, 3) := by decide +kernel
theorem dX2_copyFrom_30 : decode cX2_copyFrom 30 = .ok (.invokestatic 28, 3) := by decide +kernel
theorem dX2_copyFrom_33 : decode cX2_copyFrom 33 = .ok (.return_, 1) := by decide +kernel
theorem dX2_alikeFrom_0 : decode cX2_alikeFrom 0 = .ok (.iload_n 1, 1) := by decide +kernel
theorem dX2_alikeFrom_1 : decode cX2_alikeFrom 1 = .ok (.ifCond .lt 7, 3) := by decide +kernel
theorem dX2_alikeFrom_4 : decode cX2_alikeFrom 4 = .ok (.iload_n 3, 1) := by decide +kernel
theorem dX2_alikeFrom_5 : decode cX2_alikeFrom 5 = .ok (.ifCond .ge 5, 3) := by decide +kernel
theorem dX2_alikeFrom_8 : decode cX2_alikeFrom 8 = .ok (.iconst 0, 1) := by decide +kernel
theorem dX2_alikeFrom_9 : decode cX2_alikeFrom 9 = .ok (.ireturn, 1) := by decide +kernel
theorem dX2_alikeFrom_10 : decode cX2_alikeFrom 10 = .ok (.iconst 0, 1) := by decide +kernel
theorem dX2_alikeFrom_11 : decode cX2_alikeFrom 11 = .ok (.istore 4, 2) := by decide +kernel
theorem dX2_alikeFrom_13 : decode cX2_alikeFrom 13 = .ok (.iload_n 1, 1) := by decide +kernel
theorem dX2_alikeFrom_14 : decode cX2_alikeFrom 14 = .ok (.iload 4, 2) := by decide +kernel
theorem dX2_alikeFrom_16 : decode cX2_alikeFrom 16 = .ok (.iadd, 1) := by decide +kernel
theorem dX2_alikeFrom_17 : decode cX2_alikeFrom 17 = .ok (.aload_n 0, 1) := by decide +kernel
theorem dX2_alikeFrom_18 : decode cX2_alikeFrom 18 = .ok (.getfield 21, 3) := by decide +kernel
theorem dX2_alikeFrom_21 : decode cX2_alikeFrom 21 = .ok (.if_icmp .ge 41, 3) := by decide +kernel
theorem dX2_alikeFrom_24 : decode cX2_alikeFrom 24 = .ok (.iload_n 3, 1) := by decide +kernel
theorem dX2_alikeFrom_25 : decode cX2_alikeFrom 25 = .ok (.iload 4, 2) := by decide +kernel
theorem dX2_alikeFrom_27 : decode cX2_alikeFrom 27 = .ok (.iadd, 1) := by decide +kernel
theorem dX2_alikeFrom_28 : decode cX2_alikeFrom 28 = .ok (.aload_n 2, 1) := by decide +kernel
theorem dX2_alikeFrom_29 : decode cX2_alikeFrom 29 = .ok (.getfield 21, 3) := by decide +kernel
theorem dX2_alikeFrom_32 : decode cX2_alikeFrom 32 = .ok (.if_icmp .ge 30, 3) := by decide +kernel
theorem dX2_alikeFrom_35 : decode cX2_alikeFrom 35 = .ok (.aload_n 0, 1) := by decide +kernel
theorem dX2_alikeFrom_36 : decode cX2_alikeFrom 36 = .ok (.getfield 15, 3) := by decide +kernel
theorem dX2_alikeFrom_39 : decode cX2_alikeFrom 39 = .ok (.iload_n 1, 1) := by decide +kernel
theorem dX2_alikeFrom_40 : decode cX2_alikeFrom 40 = .ok (.iload 4, 2) := by decide +kernel
theorem dX2_alikeFrom_42 : decode cX2_alikeFrom 42 = .ok (.iadd, 1) := by decide +kernel
theorem dX2_alikeFrom_43 : decode cX2_alikeFrom 43 = .ok (.iaload, 1) := by decide +kernel
theorem dX2_alikeFrom_44 : decode cX2_alikeFrom 44 = .ok (.aload_n 2, 1) := by decide +kernel
theorem dX2_alikeFrom_45 : decode cX2_alikeFrom 45 = .ok (.getfield 15, 3) := by decide +kernel
theorem dX2_alikeFrom_48 : decode cX2_alikeFrom 48 = .ok (.iload_n 3, 1) := by decide +kernel
theorem dX2_alikeFrom_49 : decode cX2_alikeFrom 49 = .ok (.iload 4, 2) := by decide +kernel
theorem dX2_alikeFrom_51 : decode cX2_alikeFrom 51 = .ok (.iadd, 1) := by decide +kernel
theorem dX2_alikeFrom_52 : decode cX2_alikeFrom 52 = .ok (.iaload, 1) := by decide +kernel
theorem dX2_alikeFrom_53 : decode cX2_alikeFrom 53 = .ok (.if_icmp .ne 9, 3) := by decide +kernel
theorem dX2_alikeFrom_56 : decode cX2_alikeFrom 56 = .ok (.iinc 4 1, 3) := by decide +kernel
theorem dX2_alikeFrom_59 : decode cX2_alikeFrom 59 = .ok (.goto (-46), 3) := by decide +kernel
theorem dX2_alikeFrom_62 : decode cX2_alikeFrom 62 = .ok (.iload 4, 2) := by decide +kernel
theorem dX2_alikeFrom_64 : decode cX2_alikeFrom 64 = .ok (.ireturn, 1) := by decide +kernel
theorem dX2_isSameAs_0 : decode cX2_isSameAs 0 = .ok (.aload_n 0, 1) := by decide +kernel
theorem dX2_isSameAs_1 : decode cX2_isSameAs 1 = .ok (.getfield 21, 3) := by decide +kernel
theorem dX2_isSameAs_4 : decode cX2_isSameAs 4 = .ok (.aload_n 1, 1) := by decide +kernel
theorem dX2_isSameAs_5 : decode cX2_isSameAs 5 = .ok (.getfield 21, 3) := by decide +kernel
theorem dX2_isSameAs_8 : decode cX2_isSameAs 8 = .ok (.if_icmp .ne 21, 3) := by decide +kernel
theorem dX2_isSameAs_11 : decode cX2_isSameAs 11 = .ok (.aload_n 0, 1) := by decide +kernel
theorem dX2_isSameAs_12 : decode cX2_isSameAs 12 = .ok (.iconst 0, 1) := by decide +kernel
theorem dX2_isSameAs_13 : decode cX2_isSameAs 13 = .ok (.aload_n 1, 1) := by decide +kernel
theorem dX2_isSameAs_14 : decode cX2_isSameAs 14 = .ok (.iconst 0, 1) := by decide +kernel
theorem dX2_isSameAs_15 : decode cX2_isSameAs 15 = .ok (.invokevirtual 34, 3) := by decide +kernel
theorem dX2_isSameAs_18 : decode cX2_isSameAs 18 = .ok (.aload_n 0, 1) := by decide +kernel
theorem dX2_isSameAs_19 : decode cX2_isSameAs 19 = .ok (.getfield 21, 3) := by decide +kernel
theorem dX2_isSameAs_22 : decode cX2_isSameAs 22 = .ok (.if_icmp .ne 7, 3) := by decide +kernel
theorem dX2_isSameAs_25 : decode cX2_isSameAs 25 = .ok (.iconst 1, 1) := by decide +kernel
theorem dX2_isSameAs_26 : decode cX2_isSameAs 26 = .ok (.goto 4, 3) := by decide +kernel
theorem dX2_isSameAs_29 : decode cX2_isSameAs 29 = .ok (.iconst 0, 1) := by decide +kernel
theorem dX2_isSameAs_30 : decode cX2_isSameAs 30 = .ok (.ireturn, 1) := by decide +kernel
theorem dX2_hashed_0 : decode cX2_hashed 0 = .ok (.bipush 7, 2) := by decide +kernel
theorem dX2_hashed_2 : decode cX2_hashed 2 = .ok (.istore_n 1, 1) := by decide +kernel
theorem dX2_hashed_3 : decode cX2_hashed 3 = .ok (.iconst 0, 1) := by decide +kernel
theorem dX2_hashed_4 : decode cX2_hashed 4 = .ok (.istore_n 2, 1) := by decide +kernel
theorem dX2_hashed_5 : decode cX2_hashed 5 = .ok (.iload_n 2, 1) := by decide +kernel
theorem dX2_hashed_6 : decode cX2_hashed 6 = .ok (.aload_n 0, 1) := by decide +kernel
theorem dX2_hashed_7 : decode cX2_hashed 7 = .ok (.getfield 21, 3) := by decide +kernel
theorem dX2_hashed_10 : decode cX2_hashed 10 = .ok (.if_icmp .ge 25, 3) := by decide +kernel
theorem dX2_hashed_13 : decode cX2_hashed 13 = .ok (.bipush 31, 2) := by decide +kernel
theorem dX2_hashed_15 : decode cX2_hashed 15 = .ok (.iload_n 1, 1) := by decide +kernel
theorem dX2_hashed_16 : decode cX2_hashed 16 = .ok (.imul, 1) := by decide +kernel
theorem dX2_hashed_17 : decode cX2_hashed 17 = .ok (.aload_n 0, 1) := by decide +kernel
theorem dX2_hashed_18 : decode cX2_hashed 18 = .ok (.getfield 15, 3) := by decide +kernel
theorem dX2_hashed_21 : decode cX2_hashed 21 = .ok (.iload_n 2, 1) := by decide +kernel
theorem dX2_hashed_22 : decode cX2_hashed 22 = .ok (.iaload, 1) := by decide +kernel
theorem dX2_hashed_23 : decode cX2_hashed 23 = .ok (.iadd, 1) := by decide +kernel
theorem dX2_hashed_24 : decode cX2_hashed 24 = .ok (.sipush 9973, 3) := by decide +kernel
theorem dX2_hashed_27 : decode cX2_hashed 27 = .ok (.irem, 1) := by decide +kernel
theorem dX2_hashed_28 : decode cX2_hashed 28 = .ok (.istore_n 1, 1) := by decide +kernel
theorem dX2_hashed_29 : decode cX2_hashed 29 = .ok (.iinc 2 1, 3) := by decide +kernel
theorem dX2_hashed_32 : decode cX2_hashed 32 = .ok (.goto (-27), 3) := by decide +kernel
theorem dX2_hashed_35 : decode cX2_hashed 35 = .ok (.iload_n 1, 1) := by decide +kernel
theorem dX2_hashed_36 : decode cX2_hashed 36 = .ok (.ireturn, 1) := by decide +kernel
theorem dX3_init_0 : decode cX3_init 0 = .ok (.aload_n 0, 1) := by decide +kernel
theorem dX3_init_1 : decode cX3_init 1 = .ok (.invokespecial 3, 3) := by decide +kernel
theorem dX3_init_4 : decode cX3_init 4 = .ok (.aload_n 0, 1) := by decide +kernel
theorem dX3_init_5 : decode cX3_init 5 = .ok (.bipush 10, 2) := by decide +kernel
theorem dX3_init_7 : decode cX3_init 7 = .ok (.newarray .int, 2) := by decide +kernel
theorem dX3_init_9 : decode cX3_init 9 = .ok (.putfield 9, 3) := by decide +kernel
theorem dX3_init_12 : decode cX3_init 12 = .ok (.aload_n 0, 1) := by decide +kernel
theorem dX3_init_13 : decode cX3_init 13 = .ok (.bipush 10, 2) := by decide +kernel
theorem dX3_init_15 : decode cX3_init 15 = .ok (.newarray .int, 2) := by decide +kernel
theorem dX3_init_17 : decode cX3_init 17 = .ok (.putfield 15, 3) := by decide +kernel
theorem dX3_init_20 : decode cX3_init 20 = .ok (.aload_n 0, 1) := by decide +kernel
theorem dX3_init_21 : decode cX3_init 21 = .ok (.bipush 10, 2) := by decide +kernel
theorem dX3_init_23 : decode cX3_init 23 = .ok (.newarray .int, 2) := by decide +kernel
theorem dX3_init_25 : decode cX3_init 25 = .ok (.putfield 18, 3) := by decide +kernel
theorem dX3_init_28 : decode cX3_init 28 = .ok (.aload_n 0, 1) := by decide +kernel
theorem dX3_init_29 : decode cX3_init 29 = .ok (.bipush 100, 2) := by decide +kernel
theorem dX3_init_31 : decode cX3_init 31 = .ok (.newarray .int, 2) := by decide +kernel
theorem dX3_init_33 : decode cX3_init 33 = .ok (.putfield 21, 3) := by decide +kernel
theorem dX3_init_36 : decode cX3_init 36 = .ok (.aload_n 0, 1) := by decide +kernel
theorem dX3_init_37 : decode cX3_init 37 = .ok (.new 24, 3) := by decide +kernel
theorem dX3_init_40 : decode cX3_init 40 = .ok (.dup, 1) := by decide +kernel
theorem dX3_init_41 : decode cX3_init 41 = .ok (.invokespecial 26, 3) := by decide +kernel
theorem dX3_init_44 : decode cX3_init 44 = .ok (.putfield 27, 3) := by decide +kernel
theorem dX3_init_47 : decode cX3_init 47 = .ok (.aload_n 0, 1) := by decide +kernel
theorem dX3_init_48 : decode cX3_init 48 = .ok (.aconst_null, 1) := by decide +kernel
theorem dX3_init_49 : decode cX3_init 49 = .ok (.putfield 31, 3) := by decide +kernel
theorem dX3_init_52 : decode cX3_init 52 = .ok (.return_, 1) := by decide +kernel
theorem dX3_learn_0 : decode cX3_learn 0 = .ok (.aload_n 0, 1) := by decide +kernel
theorem dX3_learn_1 : decode cX3_learn 1 = .ok (.aload_n 1, 1) := by decide +kernel
theorem dX3_learn_2 : decode cX3_learn 2 = .ok (.putfield 31, 3) := by decide +kernel
theorem dX3_learn_5 : decode cX3_learn 5 = .ok (.iconst 0, 1) := by decide +kernel
theorem dX3_learn_6 : decode cX3_learn 6 = .ok (.istore_n 2, 1) := by decide +kernel
theorem dX3_learn_7 : decode cX3_learn 7 = .ok (.iload_n 2, 1) := by decide +kernel
theorem dX3_learn_8 : decode cX3_learn 8 = .ok (.aload_n 0, 1) := by decide +kernel
theorem dX3_learn_9 : decode cX3_learn 9 = .ok (.getfield 21, 3) := by decide +kernel
theorem dX3_learn_12 : decode cX3_learn 12 = .ok (.arraylength, 1) := by decide +kernel
theorem dX3_learn_13 : decode cX3_learn 13 = .ok (.if_icmp .ge 16, 3) := by decide +kernel
theorem dX3_learn_16 : decode cX3_learn 16 = .ok (.aload_n 0, 1) := by decide +kernel
theorem dX3_learn_17 : decode cX3_learn 17 = .ok (.getfield 21, 3) := by decide +kernel
theorem dX3_learn_20 : decode cX3_learn 20 = .ok (.iload_n 2, 1) := by decide +kernel
theorem dX3_learn_21 : decode cX3_learn 21 = .ok (.iconst 0, 1) := by decide +kernel
theorem dX3_learn_22 : decode cX3_learn 22 = .ok (.iastore, 1) := by decide +kernel
theorem dX3_learn_23 : decode cX3_learn 23 = .ok (.iinc 2 1, 3) := by decide +kernel
theorem dX3_learn_26 : decode cX3_learn 26 = .ok (.goto (-19), 3) := by decide +kernel
theorem dX3_learn_29 : decode cX3_learn 29 = .ok (.return_, 1) := by decide +kernel
theorem dX3_make_0 : decode cX3_make 0 = .ok (.aload_n 0, 1) := by decide +kernel
theorem dX3_make_1 : decode cX3_make 1 = .ok (.iload_n 1, 1) := by decide +kernel
theorem dX3_make_2 : decode cX3_make 2 = .ok (.putfield 35, 3) := by decide +kernel
theorem dX3_make_5 : decode cX3_make 5 = .ok (.aload_n 0, 1) := by decide +kernel
theorem dX3_make_6 : decode cX3_make 6 = .ok (.iload_n 2, 1) := by decide +kernel
theorem dX3_make_7 : decode cX3_make 7 = .ok (.putfield 39, 3) := by decide +kernel
theorem dX3_make_10 : decode cX3_make 10 = .ok (.aload_n 0, 1) := by decide +kernel
theorem dX3_make_11 : decode cX3_make 11 = .ok (.iload_n 3, 1) := by decide +kernel
theorem dX3_make_12 : decode cX3_make 12 = .ok (.putfield 42, 3) := by decide +kernel
theorem dX3_make_15 : decode cX3_make 15 = .ok (.aload_n 0, 1) := by decide +kernel
theorem dX3_make_16 : decode cX3_make 16 = .ok (.iconst 0, 1) := by decide +kernel
theorem dX3_make_17 : decode cX3_make 17 = .ok (.putfield 45, 3) := by decide +kernel
theorem dX3_make_20 : decode cX3_make 20 = .ok (.aload_n 0, 1) := by decide +kernel
theorem dX3_make_21 : decode cX3_make 21 = .ok (.iconst 0, 1) := by decide +kernel
theorem dX3_make_22 : decode cX3_make 22 = .ok (.putfield 48, 3) := by decide +kernel
theorem dX3_make_25 : decode cX3_make 25 = .ok (.aload_n 0, 1) := by decide +kernel
theorem dX3_make_26 : decode cX3_make 26 = .ok (.iconst 0, 1) := by decide +kernel
theorem dX3_make_27 : decode cX3_make 27 = .ok (.putfield 51, 3) := by decide +kernel
theorem dX3_make_30 : decode cX3_make 30 = .ok (.aload_n 0, 1) := by decide +kernel
theorem dX3_make_31 : decode cX3_make 31 = .ok (.iconst 0, 1) := by decide +kernel
theorem dX3_make_32 : decode cX3_make 32 = .ok (.putfield 54, 3) := by decide +kernel
theorem dX3_make_35 : decode cX3_make 35 = .ok (.iconst 0, 1) := by decide +kernel
theorem dX3_make_36 : decode cX3_make 36 = .ok (.istore 4, 2) := by decide +kernel
theorem dX3_make_38 : decode cX3_make 38 = .ok (.iload 4, 2) := by decide +kernel
theorem dX3_make_40 : decode cX3_make 40 = .ok (.bipush 10, 2) := by decide +kernel
theorem dX3_make_42 : decode cX3_make 42 = .ok (.if_icmp .ge 18, 3) := by decide +kernel
theorem dX3_make_45 : decode cX3_make 45 = .ok (.aload_n 0, 1) := by decide +kernel
theorem dX3_make_46 : decode cX3_make 46 = .ok (.getfield 15, 3) := by decide +kernel
theorem dX3_make_49 : decode cX3_make 49 = .ok (.iload 4, 2) := by decide +kernel
theorem dX3_make_51 : decode cX3_make 51 = .ok (.bipush 11, 2) := by decide +kernel
theorem dX3_make_53 : decode cX3_make 53 = .ok (.iastore, 1) := by decide +kernel
theorem dX3_make_54 : decode cX3_make 54 = .ok (.iinc 4 1, 3) := by decide +kernel
theorem dX3_make_57 : decode cX3_make 57 = .ok (.goto (-19), 3) := by decide +kernel
theorem dX3_make_60 : decode cX3_make 60 = .ok (.aload_n 0, 1) := by decide +kernel
theorem dX3_make_61 : decode cX3_make 61 = .ok (.getfield 31, 3) := by decide +kernel
theorem dX3_make_64 : decode cX3_make 64 = .ok (.ifnull 45, 3) := by decide +kernel
theorem dX3_make_67 : decode cX3_make 67 = .ok (.aload_n 0, 1) := by decide +kernel
theorem dX3_make_68 : decode cX3_make 68 = .ok (.invokevirtual 57, 3) := by decide +kernel
theorem dX3_make_71 : decode cX3_make 71 = .ok (.iconst 0, 1) := by decide +kernel
theorem dX3_make_72 : decode cX3_make 72 = .ok (.istore 4, 2) := by decide +kernel
theorem dX3_make_74 : decode cX3_make 74 = .ok (.iload 4, 2) := by decide +kernel
theorem dX3_make_76 : decode cX3_make 76 = .ok (.aload_n 0, 1) := by decide +kernel
theorem dX3_make_77 : decode cX3_make 77 = .ok (.getfield 45, 3) := by decide +kernel
theorem dX3_make_80 : decode cX3_make 80 = .ok (.if_icmp .ge 29, 3) := by decide +kernel
theorem dX3_make_83 : decode cX3_make 83 = .ok (.iload 4, 2) := by decide +kernel
theorem dX3_make_85 : decode cX3_make 85 = .ok (.bipush 10, 2) := by decide +kernel
theorem dX3_make_87 : decode cX3_make 87 = .ok (.if_icmp .ge 22, 3) := by decide +kernel
theorem dX3_make_90 : decode cX3_make 90 = .ok (.aload_n 0, 1) := by decide +kernel
theorem dX3_make_91 : decode cX3_make 91 = .ok (.iload 4, 2) := by decide +kernel
theorem dX3_make_93 : decode cX3_make 93 = .ok (.aload_n 0, 1) := by decide +kernel
theorem dX3_make_94 : decode cX3_make 94 = .ok (.getfield 9, 3) := by decide +kernel
theorem dX3_make_97 : decode cX3_make 97 = .ok (.iload 4, 2) := by decide +kernel
theorem dX3_make_99 : decode cX3_make 99 = .ok (.iaload, 1) := by decide +kernel
theorem dX3_make_100 : decode cX3_make 100 = .ok (.invokevirtual 60, 3) := by decide +kernel
theorem dX3_make_103 : decode cX3_make 103 = .ok (.iinc 4 1, 3) := by decide +kernel
theorem dX3_make_106 : decode cX3_make 106 = .ok (.goto (-32), 3) := by decide +kernel
theorem dX3_make_109 : decode cX3_make 109 = .ok (.return_, 1) := by decide +kernel
theorem dX3_lineUp_0 : decode cX3_lineUp 0 = .ok (.iconst 0, 1) := by decide +kernel
theorem dX3_lineUp_1 : decode cX3_lineUp 1 = .ok (.istore_n 1, 1) := by decide +kernel
theorem dX3_lineUp_2 : decode cX3_lineUp 2 = .ok (.iload_n 1, 1) := by decide +kernel
theorem dX3_lineUp_3 : decode cX3_lineUp 3 = .ok (.aload_n 0, 1) := by decide +kernel
theorem dX3_lineUp_4 : decode cX3_lineUp 4 = .ok (.getfield 31, 3) := by decide +kernel
theorem dX3_lineUp_7 : decode cX3_lineUp 7 = .ok (.getfield 64, 3) := by decide +kernel
theorem dX3_lineUp_10 : decode cX3_lineUp 10 = .ok (.if_icmp .ge 91, 3) := by decide +kernel
theorem dX3_lineUp_13 : decode cX3_lineUp 13 = .ok (.aload_n 0, 1) := by decide +kernel
theorem dX3_lineUp_14 : decode cX3_lineUp 14 = .ok (.getfield 45, 3) := by decide +kernel
theorem dX3_lineUp_17 : decode cX3_lineUp 17 = .ok (.bipush 10, 2) := by decide +kernel
theorem dX3_lineUp_19 : decode cX3_lineUp 19 = .ok (.if_icmp .ge 82, 3) := by decide +kernel
theorem dX3_lineUp_22 : decode cX3_lineUp 22 = .ok (.aload_n 0, 1) := by decide +kernel
theorem dX3_lineUp_23 : decode cX3_lineUp 23 = .ok (.getfield 31, 3) := by decide +kernel
theorem dX3_lineUp_26 : decode cX3_lineUp 26 = .ok (.iload_n 1, 1) := by decide +kernel
theorem dX3_lineUp_27 : decode cX3_lineUp 27 = .ok (.invokevirtual 69, 3) := by decide +kernel
theorem dX3_lineUp_30 : decode cX3_lineUp 30 = .ok (.ifCond .eq 65, 3) := by decide +kernel
theorem dX3_lineUp_33 : decode cX3_lineUp 33 = .ok (.aload_n 0, 1) := by decide +kernel
theorem dX3_lineUp_34 : decode cX3_lineUp 34 = .ok (.getfield 45, 3) := by decide +kernel
theorem dX3_lineUp_37 : decode cX3_lineUp 37 = .ok (.istore_n 2, 1) := by decide +kernel
theorem dX3_lineUp_38 : decode cX3_lineUp 38 = .ok (.iload_n 2, 1) := by decide +kernel
theorem dX3_lineUp_39 : decode cX3_lineUp 39 = .ok (.ifCond .le 39, 3) := by decide +kernel
theorem dX3_lineUp_42 : decode cX3_lineUp 42 = .ok (.aload_n 0, 1) := by decide +kernel
theorem dX3_lineUp_43 : decode cX3_lineUp 43 = .ok (.iload_n 1, 1) := by decide +kernel
theorem dX3_lineUp_44 : decode cX3_lineUp 44 = .ok (.aload_n 0, 1) := by decide +kernel
theorem dX3_lineUp_45 : decode cX3_lineUp 45 = .ok (.getfield 9, 3) := by decide +kernel
theorem dX3_lineUp_48 : decode cX3_lineUp 48 = .ok (.iload_n 2, 1) := by decide +kernel
theorem dX3_lineUp_49 : decode cX3_lineUp 49 = .ok (.iconst 1, 1) := by decide +kernel
theorem dX3_lineUp_50 : decode cX3_lineUp 50 = .ok (.isub, 1) := by decide +kernel
theorem dX3_lineUp_51 : decode cX3_lineUp 51 = .ok (.iaload, 1) := by decide +kernel
theorem dX3_lineUp_52 : decode cX3_lineUp 52 = .ok (.invokevirtual 73, 3) := by decide +kernel
theorem dX3_lineUp_55 : decode cX3_lineUp 55 = .ok (.ifCond .eq 23, 3) := by decide +kernel
theorem dX3_lineUp_58 : decode cX3_lineUp 58 = .ok (.aload_n 0, 1) := by decide +kernel
theorem dX3_lineUp_59 : decode cX3_lineUp 59 = .ok (.getfield 9, 3) := by decide +kernel
theorem dX3_lineUp_62 : decode cX3_lineUp 62 = .ok (.iload_n 2, 1) := by decide +kernel
theorem dX3_lineUp_63 : decode cX3_lineUp 63 = .ok (.aload_n 0, 1) := by decide +kernel
theorem dX3_lineUp_64 : decode cX3_lineUp 64 = .ok (.getfield 9, 3) := by decide +kernel
theorem dX3_lineUp_67 : decode cX3_lineUp 67 = .ok (.iload_n 2, 1) := by decide +kernel
theorem dX3_lineUp_68 : decode cX3_lineUp 68 = .ok (.iconst 1, 1) := by decide +kernel
theorem dX3_lineUp_69 : decode cX3_lineUp 69 = .ok (.isub, 1) := by decide +kernel
theorem dX3_lineUp_70 : decode cX3_lineUp 70 = .ok (.iaload, 1) := by decide +kernel
theorem dX3_lineUp_71 : decode cX3_lineUp 71 = .ok (.iastore, 1) := by decide +kernel
theorem dX3_lineUp_72 : decode cX3_lineUp 72 = .ok (.iinc 2 (-1), 3) := by decide +kernel
theorem dX3_lineUp_75 : decode cX3_lineUp 75 = .ok (.goto (-37), 3) := by decide +kernel
theorem dX3_lineUp_78 : decode cX3_lineUp 78 = .ok (.aload_n 0, 1) := by decide +kernel
theorem dX3_lineUp_79 : decode cX3_lineUp 79 = .ok (.getfield 9, 3) := by decide +kernel
theorem dX3_lineUp_82 : decode cX3_lineUp 82 = .ok (.iload_n 2, 1) := by decide +kernel
theorem dX3_lineUp_83 : decode cX3_lineUp 83 = .ok (.iload_n 1, 1) := by decide +kernel
theorem dX3_lineUp_84 : decode cX3_lineUp 84 = .ok (.iastore, 1) := by decide +kernel
theorem dX3_lineUp_85 : decode cX3_lineUp 85 = .ok (.aload_n 0, 1) := by decide +kernel
theorem dX3_lineUp_86 : decode cX3_lineUp 86 = .ok (.dup, 1) := by decide +kernel
theorem dX3_lineUp_87 : decode cX3_lineUp 87 = .ok (.getfield 45, 3) := by decide +kernel
theorem dX3_lineUp_90 : decode cX3_lineUp 90 = .ok (.iconst 1, 1) := by decide +kernel
theorem dX3_lineUp_91 : decode cX3_lineUp 91 = .ok (.iadd, 1) := by decide +kernel
theorem dX3_lineUp_92 : decode cX3_lineUp 92 = .ok (.putfield 45, 3) := by decide +kernel
theorem dX3_lineUp_95 : decode cX3_lineUp 95 = .ok (.iinc 1 1, 3) := by decide +kernel
theorem dX3_lineUp_98 : decode cX3_lineUp 98 = .ok (.goto (-96), 3) := by decide +kernel
theorem dX3_lineUp_101 : decode cX3_lineUp 101 = .ok (.return_, 1) := by decide +kernel
theorem dX3_isAhead_0 : decode cX3_isAhead 0 = .ok (.aload_n 0, 1) := by decide +kernel
theorem dX3_isAhead_1 : decode cX3_isAhead 1 = .ok (.getfield 35, 3) := by decide +kernel
theorem dX3_isAhead_4 : decode cX3_isAhead 4 = .ok (.tableswitch 63 1 5 #[38, 36, 36, 38, 38], 36) := by decide +kernel
theorem dX3_isAhead_40 : decode cX3_isAhead 40 = .ok (.iconst 1, 1) := by decide +kernel
theorem dX3_isAhead_41 : decode cX3_isAhead 41 = .ok (.ireturn, 1) := by decide +kernel
theorem dX3_isAhead_42 : decode cX3_isAhead 42 = .ok (.aload_n 0, 1) := by decide +kernel
theorem dX3_isAhead_43 : decode cX3_isAhead 43 = .ok (.getfield 31, 3) := by decide +kernel
theorem dX3_isAhead_46 : decode cX3_isAhead 46 = .ok (.iload_n 1, 1) := by decide +kernel
theorem dX3_isAhead_47 : decode cX3_isAhead 47 = .ok (.invokevirtual 77, 3) := by decide +kernel
theorem dX3_isAhead_50 : decode cX3_isAhead 50 = .ok (.aload_n 0, 1) := by decide +kernel
theorem dX3_isAhead_51 : decode cX3_isAhead 51 = .ok (.getfield 31, 3) := by decide +kernel
theorem dX3_isAhead_54 : decode cX3_isAhead 54 = .ok (.iload_n 2, 1) := by decide +kernel
theorem dX3_isAhead_55 : decode cX3_isAhead 55 = .ok (.invokevirtual 77, 3) := by decide +kernel
theorem dX3_isAhead_58 : decode cX3_isAhead 58 = .ok (.if_icmp .le 7, 3) := by decide +kernel
theorem dX3_isAhead_61 : decode cX3_isAhead 61 = .ok (.iconst 1, 1) := by decide +kernel
theorem dX3_isAhead_62 : decode cX3_isAhead 62 = .ok (.goto 4, 3) := by decide +kernel
theorem dX3_isAhead_65 : decode cX3_isAhead 65 = .ok (.iconst 0, 1) := by decide +kernel
theorem dX3_isAhead_66 : decode cX3_isAhead 66 = .ok (.ireturn, 1) := by decide +kernel
theorem dX3_isAhead_67 : decode cX3_isAhead 67 = .ok (.iconst 0, 1) := by decide +kernel
theorem dX3_isAhead_68 : decode cX3_isAhead 68 = .ok (.ireturn, 1) := by decide +kernel
theorem dX3_choose_0 : decode cX3_choose 0 = .ok (.aload_n 0, 1) := by decide +kernel
theorem dX3_choose_1 : decode cX3_choose 1 = .ok (.getfield 31, 3) := by decide +kernel
theorem dX3_choose_4 : decode cX3_choose 4 = .ok (.iload_n 2, 1) := by decide +kernel
theorem dX3_choose_5 : decode cX3_choose 5 = .ok (.invokevirtual 69, 3) := by decide +kernel
theorem dX3_choose_8 : decode cX3_choose 8 = .ok (.ifCond .ne 4, 3) := by decide +kernel
theorem dX3_choose_11 : decode cX3_choose 11 = .ok (.return_, 1) := by decide +kernel
theorem dX3_choose_12 : decode cX3_choose 12 = .ok (.iconst (-1), 1) := by decide +kernel
theorem dX3_choose_13 : decode cX3_choose 13 = .ok (.istore_n 3, 1) := by decide +kernel
theorem dX3_choose_14 : decode cX3_choose 14 = .ok (.ldc 81, 2) := by decide +kernel
theorem dX3_choose_16 : decode cX3_choose 16 = .ok (.istore 4, 2) := by decide +kernel
theorem dX3_choose_18 : decode cX3_choose 18 = .ok (.iconst 0, 1) := by decide +kernel
theorem dX3_choose_19 : decode cX3_choose 19 = .ok (.istore 5, 2) := by decide +kernel
theorem dX3_choose_21 : decode cX3_choose 21 = .ok (.iload 5, 2) := by decide +kernel
theorem dX3_choose_23 : decode cX3_choose 23 = .ok (.iload_n 1, 1) := by decide +kernel
theorem dX3_choose_24 : decode cX3_choose 24 = .ok (.if_icmp .ge 154, 3) := by decide +kernel
theorem dX3_choose_27 : decode cX3_choose 27 = .ok (.iload 5, 2) := by decide +kernel
theorem dX3_choose_29 : decode cX3_choose 29 = .ok (.bipush 10, 2) := by decide +kernel
theorem dX3_choose_31 : decode cX3_choose 31 = .ok (.if_icmp .ge 147, 3) := by decide +kernel
theorem dX3_choose_34 : decode cX3_choose 34 = .ok (.aload_n 0, 1) := by decide +kernel
theorem dX3_choose_35 : decode cX3_choose 35 = .ok (.getfield 9, 3) := by decide +kernel
theorem dX3_choose_38 : decode cX3_choose 38 = .ok (.iload 5, 2) := by decide +kernel
theorem dX3_choose_40 : decode cX3_choose 40 = .ok (.iaload, 1) := by decide +kernel
theorem dX3_choose_41 : decode cX3_choose 41 = .ok (.istore 6, 2) := by decide +kernel
theorem dX3_choose_43 : decode cX3_choose 43 = .ok (.aload_n 0, 1) := by decide +kernel
theorem dX3_choose_44 : decode cX3_choose 44 = .ok (.getfield 31, 3) := by decide +kernel
theorem dX3_choose_47 : decode cX3_choose 47 = .ok (.iload 6, 2) := by decide +kernel
theorem dX3_choose_49 : decode cX3_choose 49 = .ok (.invokevirtual 69, 3) := by decide +kernel
theorem dX3_choose_52 : decode cX3_choose 52 = .ok (.ifCond .eq 120, 3) := by decide +kernel
theorem dX3_choose_55 : decode cX3_choose 55 = .ok (.aload_n 0, 1) := by decide +kernel
theorem dX3_choose_56 : decode cX3_choose 56 = .ok (.getfield 18, 3) := by decide +kernel
theorem dX3_choose_59 : decode cX3_choose 59 = .ok (.iload 6, 2) := by decide +kernel
theorem dX3_choose_61 : decode cX3_choose 61 = .ok (.iaload, 1) := by decide +kernel
theorem dX3_choose_62 : decode cX3_choose 62 = .ok (.aload_n 0, 1) := by decide +kernel
theorem dX3_choose_63 : decode cX3_choose 63 = .ok (.getfield 42, 3) := by decide +kernel
theorem dX3_choose_66 : decode cX3_choose 66 = .ok (.if_icmp .ge 106, 3) := by decide +kernel
theorem dX3_choose_69 : decode cX3_choose 69 = .ok (.aload_n 0, 1) := by decide +kernel
theorem dX3_choose_70 : decode cX3_choose 70 = .ok (.iload 6, 2) := by decide +kernel
theorem dX3_choose_72 : decode cX3_choose 72 = .ok (.iload_n 2, 1) := by decide +kernel
theorem dX3_choose_73 : decode cX3_choose 73 = .ok (.iload_n 1, 1) := by decide +kernel
theorem dX3_choose_74 : decode cX3_choose 74 = .ok (.iload 5, 2) := by decide +kernel
theorem dX3_choose_76 : decode cX3_choose 76 = .ok (.isub, 1) := by decide +kernel
theorem dX3_choose_77 : decode cX3_choose 77 = .ok (.invokevirtual 82, 3) := by decide +kernel
theorem dX3_choose_80 : decode cX3_choose 80 = .ok (.ifCond .eq 92, 3) := by decide +kernel
theorem dX3_choose_83 : decode cX3_choose 83 = .ok (.iload 6, 2) := by decide +kernel
theorem dX3_choose_85 : decode cX3_choose 85 = .ok (.bipush 10, 2) := by decide +kernel
theorem dX3_choose_87 : decode cX3_choose 87 = .ok (.imul, 1) := by decide +kernel
theorem dX3_choose_88 : decode cX3_choose 88 = .ok (.iload_n 2, 1) := by decide +kernel
theorem dX3_choose_89 : decode cX3_choose 89 = .ok (.iadd, 1) := by decide +kernel
theorem dX3_choose_90 : decode cX3_choose 90 = .ok (.istore 7, 2) := by decide +kernel
theorem dX3_choose_92 : decode cX3_choose 92 = .ok (.aload_n 0, 1) := by decide +kernel
theorem dX3_choose_93 : decode cX3_choose 93 = .ok (.getfield 21, 3) := by decide +kernel
theorem dX3_choose_96 : decode cX3_choose 96 = .ok (.iload 7, 2) := by decide +kernel
theorem dX3_choose_98 : decode cX3_choose 98 = .ok (.iaload, 1) := by decide +kernel
theorem dX3_choose_99 : decode cX3_choose 99 = .ok (.ifCond .ne 49, 3) := by decide +kernel
theorem dX3_choose_102 : decode cX3_choose 102 = .ok (.aload_n 0, 1) := by decide +kernel
theorem dX3_choose_103 : decode cX3_choose 103 = .ok (.getfield 27, 3) := by decide +kernel
theorem dX3_choose_106 : decode cX3_choose 106 = .ok (.aload_n 0, 1) := by decide +kernel
theorem dX3_choose_107 : decode cX3_choose 107 = .ok (.getfield 31, 3) := by decide +kernel
theorem dX3_choose_110 : decode cX3_choose 110 = .ok (.getfield 86, 3) := by decide +kernel
theorem dX3_choose_113 : decode cX3_choose 113 = .ok (.iload 6, 2) := by decide +kernel
theorem dX3_choose_115 : decode cX3_choose 115 = .ok (.aaload, 1) := by decide +kernel
theorem dX3_choose_116 : decode cX3_choose 116 = .ok (.getfield 90, 3) := by decide +kernel
theorem dX3_choose_119 : decode cX3_choose 119 = .ok (.aload_n 0, 1) := by decide +kernel
theorem dX3_choose_120 : decode cX3_choose 120 = .ok (.getfield 31, 3) := by decide +kernel
theorem dX3_choose_123 : decode cX3_choose 123 = .ok (.getfield 86, 3) := by decide +kernel
theorem dX3_choose_126 : decode cX3_choose 126 = .ok (.iload_n 2, 1) := by decide +kernel
theorem dX3_choose_127 : decode cX3_choose 127 = .ok (.aaload, 1) := by decide +kernel
theorem dX3_choose_128 : decode cX3_choose 128 = .ok (.getfield 90, 3) := by decide +kernel
theorem dX3_choose_131 : decode cX3_choose 131 = .ok (.invokevirtual 96, 3) := by decide +kernel
theorem dX3_choose_134 : decode cX3_choose 134 = .ok (.aload_n 0, 1) := by decide +kernel
theorem dX3_choose_135 : decode cX3_choose 135 = .ok (.getfield 21, 3) := by decide +kernel
theorem dX3_choose_138 : decode cX3_choose 138 = .ok (.iload 7, 2) := by decide +kernel
theorem dX3_choose_140 : decode cX3_choose 140 = .ok (.aload_n 0, 1) := by decide +kernel
theorem dX3_choose_141 : decode cX3_choose 141 = .ok (.getfield 27, 3) := by decide +kernel
theorem dX3_choose_144 : decode cX3_choose 144 = .ok (.invokevirtual 100, 3) := by decide +kernel
theorem dX3_choose_147 : decode cX3_choose 147 = .ok (.iastore, 1) := by decide +kernel
theorem dX3_choose_148 : decode cX3_choose 148 = .ok (.aload_n 0, 1) := by decide +kernel
theorem dX3_choose_149 : decode cX3_choose 149 = .ok (.getfield 21, 3) := by decide +kernel
theorem dX3_choose_152 : decode cX3_choose 152 = .ok (.iload 7, 2) := by decide +kernel
theorem dX3_choose_154 : decode cX3_choose 154 = .ok (.iaload, 1) := by decide +kernel
theorem dX3_choose_155 : decode cX3_choose 155 = .ok (.iload 4, 2) := by decide +kernel
theorem dX3_choose_157 : decode cX3_choose 157 = .ok (.if_icmp .ge 15, 3) := by decide +kernel
theorem dX3_choose_160 : decode cX3_choose 160 = .ok (.aload_n 0, 1) := by decide +kernel
theorem dX3_choose_161 : decode cX3_choose 161 = .ok (.getfield 21, 3) := by decide +kernel
theorem dX3_choose_164 : decode cX3_choose 164 = .ok (.iload 7, 2) := by decide +kernel
theorem dX3_choose_166 : decode cX3_choose 166 = .ok (.iaload, 1) := by decide +kernel
theorem dX3_choose_167 : decode cX3_choose 167 = .ok (.istore 4, 2) := by decide +kernel
theorem dX3_choose_169 : decode cX3_choose 169 = .ok (.iload 6, 2) := by decide +kernel
theorem dX3_choose_171 : decode cX3_choose 171 = .ok (.istore_n 3, 1) := by decide +kernel
theorem dX3_choose_172 : decode cX3_choose 172 = .ok (.iinc 5 1, 3) := by decide +kernel
theorem dX3_choose_175 : decode cX3_choose 175 = .ok (.goto (-154), 3) := by decide +kernel
theorem dX3_choose_178 : decode cX3_choose 178 = .ok (.aload_n 0, 1) := by decide +kernel
theorem dX3_choose_179 : decode cX3_choose 179 = .ok (.getfield 31, 3) := by decide +kernel
theorem dX3_choose_182 : decode cX3_choose 182 = .ok (.getfield 86, 3) := by decide +kernel
theorem dX3_choose_185 : decode cX3_choose 185 = .ok (.iload_n 2, 1) := by decide +kernel
theorem dX3_choose_186 : decode cX3_choose 186 = .ok (.aaload, 1) := by decide +kernel
theorem dX3_choose_187 : decode cX3_choose 187 = .ok (.invokevirtual 103, 3) := by decide +kernel
theorem dX3_choose_190 : decode cX3_choose 190 = .ok (.istore 5, 2) := by decide +kernel
theorem dX3_choose_192 : decode cX3_choose 192 = .ok (.aload_n 0, 1) := by decide +kernel
theorem dX3_choose_193 : decode cX3_choose 193 = .ok (.getfield 31, 3) := by decide +kernel
theorem dX3_choose_196 : decode cX3_choose 196 = .ok (.iload_n 3, 1) := by decide +kernel
theorem dX3_choose_197 : decode cX3_choose 197 = .ok (.invokevirtual 69, 3) := by decide +kernel
theorem dX3_choose_200 : decode cX3_choose 200 = .ok (.ifCond .eq 34, 3) := by decide +kernel
theorem dX3_choose_203 : decode cX3_choose 203 = .ok (.iload 4, 2) := by decide +kernel
theorem dX3_choose_205 : decode cX3_choose 205 = .ok (.iload 5, 2) := by decide +kernel
theorem dX3_choose_207 : decode cX3_choose 207 = .ok (.aload_n 0, 1) := by decide +kernel
theorem dX3_choose_208 : decode cX3_choose 208 = .ok (.invokevirtual 106, 3) := by decide +kernel
theorem dX3_choose_211 : decode cX3_choose 211 = .ok (.isub, 1) := by decide +kernel
theorem dX3_choose_212 : decode cX3_choose 212 = .ok (.if_icmp .gt 22, 3) := by decide +kernel
theorem dX3_choose_215 : decode cX3_choose 215 = .ok (.aload_n 0, 1) := by decide +kernel
theorem dX3_choose_216 : decode cX3_choose 216 = .ok (.iload_n 2, 1) := by decide +kernel
theorem dX3_choose_217 : decode cX3_choose 217 = .ok (.iload_n 3, 1) := by decide +kernel
theorem dX3_choose_218 : decode cX3_choose 218 = .ok (.aload_n 0, 1) := by decide +kernel
theorem dX3_choose_219 : decode cX3_choose 219 = .ok (.getfield 18, 3) := by decide +kernel
theorem dX3_choose_222 : decode cX3_choose 222 = .ok (.iload_n 3, 1) := by decide +kernel
theorem dX3_choose_223 : decode cX3_choose 223 = .ok (.iaload, 1) := by decide +kernel
theorem dX3_choose_224 : decode cX3_choose 224 = .ok (.iconst 1, 1) := by decide +kernel
theorem dX3_choose_225 : decode cX3_choose 225 = .ok (.iadd, 1) := by decide +kernel
theorem dX3_choose_226 : decode cX3_choose 226 = .ok (.iload 4, 2) := by decide +kernel
theorem dX3_choose_228 : decode cX3_choose 228 = .ok (.invokevirtual 109, 3) := by decide +kernel
theorem dX3_choose_231 : decode cX3_choose 231 = .ok (.goto 23, 3) := by decide +kernel
theorem dX3_choose_234 : decode cX3_choose 234 = .ok (.aload_n 0, 1) := by decide +kernel
theorem dX3_choose_235 : decode cX3_choose 235 = .ok (.iload_n 2, 1) := by decide +kernel
theorem dX3_choose_236 : decode cX3_choose 236 = .ok (.bipush 10, 2) := by decide +kernel
theorem dX3_choose_238 : decode cX3_choose 238 = .ok (.iconst 0, 1) := by decide +kernel
theorem dX3_choose_239 : decode cX3_choose 239 = .ok (.iload 5, 2) := by decide +kernel
theorem dX3_choose_241 : decode cX3_choose 241 = .ok (.invokevirtual 109, 3) := by decide +kernel
theorem dX3_choose_244 : decode cX3_choose 244 = .ok (.aload_n 0, 1) := by decide +kernel
theorem dX3_choose_245 : decode cX3_choose 245 = .ok (.dup, 1) := by decide +kernel
theorem dX3_choose_246 : decode cX3_choose 246 = .ok (.getfield 54, 3) := by decide +kernel
theorem dX3_choose_249 : decode cX3_choose 249 = .ok (.iconst 1, 1) := by decide +kernel
theorem dX3_choose_250 : decode cX3_choose 250 = .ok (.iadd, 1) := by decide +kernel
theorem dX3_choose_251 : decode cX3_choose 251 = .ok (.putfield 54, 3) := by decide +kernel
theorem dX3_choose_254 : decode cX3_choose 254 = .ok (.return_, 1) := by decide +kernel
theorem dX3_mayBeBase_0 : decode cX3_mayBeBase 0 = .ok (.aload_n 0, 1) := by decide +kernel
theorem dX3_mayBeBase_1 : decode cX3_mayBeBase 1 = .ok (.getfield 35, 3) := by decide +kernel
theorem dX3_mayBeBase_4 : decode cX3_mayBeBase 4 = .ok (.lookupswitch 72 #[(3, 28), (5, 58)], 28) := by decide +kernel
theorem dX3_mayBeBase_32 : decode cX3_mayBeBase 32 = .ok (.aload_n 0, 1) := by decide +kernel
theorem dX3_mayBeBase_33 : decode cX3_mayBeBase 33 = .ok (.getfield 31, 3) := by decide +kernel
theorem dX3_mayBeBase_36 : decode cX3_mayBeBase 36 = .ok (.iload_n 2, 1) := by decide +kernel
theorem dX3_mayBeBase_37 : decode cX3_mayBeBase 37 = .ok (.iload_n 1, 1) := by decide +kernel
theorem dX3_mayBeBase_38 : decode cX3_mayBeBase 38 = .ok (.invokevirtual 113, 3) := by decide +kernel
theorem dX3_mayBeBase_41 : decode cX3_mayBeBase 41 = .ok (.ifCond .ne 15, 3) := by decide +kernel
theorem dX3_mayBeBase_44 : decode cX3_mayBeBase 44 = .ok (.aload_n 0, 1) := by decide +kernel
theorem dX3_mayBeBase_45 : decode cX3_mayBeBase 45 = .ok (.getfield 31, 3) := by decide +kernel
theorem dX3_mayBeBase_48 : decode cX3_mayBeBase 48 = .ok (.iload_n 1, 1) := by decide +kernel
theorem dX3_mayBeBase_49 : decode cX3_mayBeBase 49 = .ok (.iload_n 2, 1) := by decide +kernel
theorem dX3_mayBeBase_50 : decode cX3_mayBeBase 50 = .ok (.invokevirtual 113, 3) := by decide +kernel
theorem dX3_mayBeBase_53 : decode cX3_mayBeBase 53 = .ok (.ifCond .eq 7, 3) := by decide +kernel
theorem dX3_mayBeBase_56 : decode cX3_mayBeBase 56 = .ok (.iconst 1, 1) := by decide +kernel
theorem dX3_mayBeBase_57 : decode cX3_mayBeBase 57 = .ok (.goto 4, 3) := by decide +kernel
theorem dX3_mayBeBase_60 : decode cX3_mayBeBase 60 = .ok (.iconst 0, 1) := by decide +kernel
theorem dX3_mayBeBase_61 : decode cX3_mayBeBase 61 = .ok (.ireturn, 1) := by decide +kernel
theorem dX3_mayBeBase_62 : decode cX3_mayBeBase 62 = .ok (.iload_n 3, 1) := by decide +kernel
theorem dX3_mayBeBase_63 : decode cX3_mayBeBase 63 = .ok (.aload_n 0, 1) := by decide +kernel
theorem dX3_mayBeBase_64 : decode cX3_mayBeBase 64 = .ok (.getfield 39, 3) := by decide +kernel
theorem dX3_mayBeBase_67 : decode cX3_mayBeBase 67 = .ok (.if_icmp .gt 7, 3) := by decide +kernel
theorem dX3_mayBeBase_70 : decode cX3_mayBeBase 70 = .ok (.iconst 1, 1) := by decide +kernel
theorem dX3_mayBeBase_71 : decode cX3_mayBeBase 71 = .ok (.goto 4, 3) := by decide +kernel
theorem dX3_mayBeBase_74 : decode cX3_mayBeBase 74 = .ok (.iconst 0, 1) := by decide +kernel
theorem dX3_mayBeBase_75 : decode cX3_mayBeBase 75 = .ok (.ireturn, 1) := by decide +kernel
theorem dX3_mayBeBase_76 : decode cX3_mayBeBase 76 = .ok (.iconst 1, 1) := by decide +kernel
theorem dX3_mayBeBase_77 : decode cX3_mayBeBase 77 = .ok (.ireturn, 1) := by decide +kernel
theorem dX3_savings_0 : decode cX3_savings 0 = .ok (.aload_n 0, 1) := by decide +kernel
theorem dX3_savings_1 : decode cX3_savings 1 = .ok (.getfield 35, 3) := by decide +kernel
theorem dX3_savings_4 : decode cX3_savings 4 = .ok (.iconst 4, 1) := by decide +kernel
theorem dX3_savings_5 : decode cX3_savings 5 = .ok (.if_icmp .ne 12, 3) := by decide +kernel
theorem dX3_savings_8 : decode cX3_savings 8 = .ok (.aload_n 0, 1) := by decide +kernel
theorem dX3_savings_9 : decode cX3_savings 9 = .ok (.getfield 39, 3) := by decide +kernel
theorem dX3_savings_12 : decode cX3_savings 12 = .ok (.iconst 1, 1) := by decide +kernel
theorem dX3_savings_13 : decode cX3_savings 13 = .ok (.iadd, 1) := by decide +kernel
theorem dX3_savings_14 : decode cX3_savings 14 = .ok (.goto 4, 3) := by decide +kernel
theorem dX3_savings_17 : decode cX3_savings 17 = .ok (.iconst 1, 1) := by decide +kernel
theorem dX3_savings_18 : decode cX3_savings 18 = .ok (.ireturn, 1) := by decide +kernel
theorem dX3_settle_0 : decode cX3_settle 0 = .ok (.aload_n 0, 1) := by decide +kernel
theorem dX3_settle_1 : decode cX3_settle 1 = .ok (.getfield 15, 3) := by decide +kernel
theorem dX3_settle_4 : decode cX3_settle 4 = .ok (.iload_n 1, 1) := by decide +kernel
theorem dX3_settle_5 : decode cX3_settle 5 = .ok (.iload_n 2, 1) := by decide +kernel
theorem dX3_settle_6 : decode cX3_settle 6 = .ok (.iastore, 1) := by decide +kernel
theorem dX3_settle_7 : decode cX3_settle 7 = .ok (.aload_n 0, 1) := by decide +kernel
theorem dX3_settle_8 : decode cX3_settle 8 = .ok (.getfield 18, 3) := by decide +kernel
theorem dX3_settle_11 : decode cX3_settle 11 = .ok (.iload_n 1, 1) := by decide +kernel
theorem dX3_settle_12 : decode cX3_settle 12 = .ok (.iload_n 3, 1) := by decide +kernel
theorem dX3_settle_13 : decode cX3_settle 13 = .ok (.iastore, 1) := by decide +kernel
theorem dX3_settle_14 : decode cX3_settle 14 = .ok (.aload_n 0, 1) := by decide +kernel
theorem dX3_settle_15 : decode cX3_settle 15 = .ok (.dup, 1) := by decide +kernel
theorem dX3_settle_16 : decode cX3_settle 16 = .ok (.getfield 48, 3) := by decide +kernel
theorem dX3_settle_19 : decode cX3_settle 19 = .ok (.iload 4, 2) := by decide +kernel
theorem dX3_settle_21 : decode cX3_settle 21 = .ok (.iadd, 1) := by decide +kernel
theorem dX3_settle_22 : decode cX3_settle 22 = .ok (.putfield 48, 3) := by decide +kernel
theorem dX3_settle_25 : decode cX3_settle 25 = .ok (.aload_n 0, 1) := by decide +kernel
theorem dX3_settle_26 : decode cX3_settle 26 = .ok (.aload_n 0, 1) := by decide +kernel
theorem dX3_settle_27 : decode cX3_settle 27 = .ok (.getfield 51, 3) := by decide +kernel
theorem dX3_settle_30 : decode cX3_settle 30 = .ok (.iload_n 3, 1) := by decide +kernel
theorem dX3_settle_31 : decode cX3_settle 31 = .ok (.invokestatic 116, 3) := by decide +kernel
theorem dX3_settle_34 : decode cX3_settle 34 = .ok (.putfield 51, 3) := by decide +kernel
theorem dX3_settle_37 : decode cX3_settle 37 = .ok (.return_, 1) := by decide +kernel
theorem dX3_baseOf_0 : decode cX3_baseOf 0 = .ok (.iload_n 1, 1) := by decide +kernel
theorem dX3_baseOf_1 : decode cX3_baseOf 1 = .ok (.ifCond .lt 29, 3) := by decide +kernel
theorem dX3_baseOf_4 : decode cX3_baseOf 4 = .ok (.iload_n 1, 1) := by decide +kernel
theorem dX3_baseOf_5 : decode cX3_baseOf 5 = .ok (.bipush 10, 2) := by decide +kernel
theorem dX3_baseOf_7 : decode cX3_baseOf 7 = .ok (.if_icmp .ge 23, 3) := by decide +kernel
theorem dX3_baseOf_10 : decode cX3_baseOf 10 = .ok (.aload_n 0, 1) := by decide +kernel
theorem dX3_baseOf_11 : decode cX3_baseOf 11 = .ok (.getfield 15, 3) := by decide +kernel
theorem dX3_baseOf_14 : decode cX3_baseOf 14 = .ok (.iload_n 1, 1) := by decide +kernel
theorem dX3_baseOf_15 : decode cX3_baseOf 15 = .ok (.iaload, 1) := by decide +kernel
theorem dX3_baseOf_16 : decode cX3_baseOf 16 = .ok (.bipush 10, 2) := by decide +kernel
theorem dX3_baseOf_18 : decode cX3_baseOf 18 = .ok (.if_icmp .ge 12, 3) := by decide +kernel
theorem dX3_baseOf_21 : decode cX3_baseOf 21 = .ok (.aload_n 0, 1) := by decide +kernel
theorem dX3_baseOf_22 : decode cX3_baseOf 22 = .ok (.getfield 15, 3) := by decide +kernel
theorem dX3_baseOf_25 : decode cX3_baseOf 25 = .ok (.iload_n 1, 1) := by decide +kernel
theorem dX3_baseOf_26 : decode cX3_baseOf 26 = .ok (.iaload, 1) := by decide +kernel
theorem dX3_baseOf_27 : decode cX3_baseOf 27 = .ok (.goto 4, 3) := by decide +kernel
theorem dX3_baseOf_30 : decode cX3_baseOf 30 = .ok (.iconst (-1), 1) := by decide +kernel
theorem dX3_baseOf_31 : decode cX3_baseOf 31 = .ok (.ireturn, 1) := by decide +kernel
theorem dX3_isTold_0 : decode cX3_isTold 0 = .ok (.iconst 0, 1) := by decide +kernel
theorem dX3_isTold_1 : decode cX3_isTold 1 = .ok (.istore_n 2, 1) := by decide +kernel
theorem dX3_isTold_2 : decode cX3_isTold 2 = .ok (.iload_n 2, 1) := by decide +kernel
theorem dX3_isTold_3 : decode cX3_isTold 3 = .ok (.aload_n 1, 1) := by decide +kernel
theorem dX3_isTold_4 : decode cX3_isTold 4 = .ok (.getfield 122, 3) := by decide +kernel
theorem dX3_isTold_7 : decode cX3_isTold 7 = .ok (.if_icmp .ge 38, 3) := by decide +kernel
theorem dX3_isTold_10 : decode cX3_isTold 10 = .ok (.iload_n 2, 1) := by decide +kernel
theorem dX3_isTold_11 : decode cX3_isTold 11 = .ok (.bipush 10, 2) := by decide +kernel
theorem dX3_isTold_13 : decode cX3_isTold 13 = .ok (.if_icmp .ge 12, 3) := by decide +kernel
theorem dX3_isTold_16 : decode cX3_isTold 16 = .ok (.aload_n 0, 1) := by decide +kernel
theorem dX3_isTold_17 : decode cX3_isTold 17 = .ok (.getfield 15, 3) := by decide +kernel
theorem dX3_isTold_20 : decode cX3_isTold 20 = .ok (.iload_n 2, 1) := by decide +kernel
theorem dX3_isTold_21 : decode cX3_isTold 21 = .ok (.iaload, 1) := by decide +kernel
theorem dX3_isTold_22 : decode cX3_isTold 22 = .ok (.goto 5, 3) := by decide +kernel
theorem dX3_isTold_25 : decode cX3_isTold 25 = .ok (.bipush 11, 2) := by decide +kernel
theorem dX3_isTold_27 : decode cX3_isTold 27 = .ok (.istore_n 3, 1) := by decide +kernel
theorem dX3_isTold_28 : decode cX3_isTold 28 = .ok (.aload_n 1, 1) := by decide +kernel
theorem dX3_isTold_29 : decode cX3_isTold 29 = .ok (.iload_n 2, 1) := by decide +kernel
theorem dX3_isTold_30 : decode cX3_isTold 30 = .ok (.invokevirtual 127, 3) := by decide +kernel
theorem dX3_isTold_33 : decode cX3_isTold 33 = .ok (.iload_n 3, 1) := by decide +kernel
theorem dX3_isTold_34 : decode cX3_isTold 34 = .ok (.if_icmp .eq 5, 3) := by decide +kernel
theorem dX3_isTold_37 : decode cX3_isTold 37 = .ok (.iconst 0, 1) := by decide +kernel
theorem dX3_isTold_38 : decode cX3_isTold 38 = .ok (.ireturn, 1) := by decide +kernel
theorem dX3_isTold_39 : decode cX3_isTold 39 = .ok (.iinc 2 1, 3) := by decide +kernel
theorem dX3_isTold_42 : decode cX3_isTold 42 = .ok (.goto (-40), 3) := by decide +kernel
theorem dX3_isTold_45 : decode cX3_isTold 45 = .ok (.iconst 1, 1) := by decide +kernel
theorem dX3_isTold_46 : decode cX3_isTold 46 = .ok (.ireturn, 1) := by decide +kernel
theorem dX4_init_0 : decode cX4_init 0 = .ok (.aload_n 0, 1) := by decide +kernel
theorem dX4_init_1 : decode cX4_init 1 = .ok (.invokespecial 3, 3) := by decide +kernel
theorem dX4_init_4 : decode cX4_init 4 = .ok (.aload_n 0, 1) := by decide +kernel
theorem dX4_init_5 : decode cX4_init 5 = .ok (.bipush 10, 2) := by decide +kernel
theorem dX4_init_7 : decode cX4_init 7 = .ok (.anewarray 9, 3) := by decide +kernel
theorem dX4_init_10 : decode cX4_init 10 = .ok (.putfield 11, 3) := by decide +kernel
theorem dX4_init_13 : decode cX4_init 13 = .ok (.iconst 0, 1) := by decide +kernel
theorem dX4_init_14 : decode cX4_init 14 = .ok (.istore_n 1, 1) := by decide +kernel
theorem dX4_init_15 : decode cX4_init 15 = .ok (.iload_n 1, 1) := by decide +kernel
theorem dX4_init_16 : decode cX4_init 16 = .ok (.bipush 10, 2) := by decide +kernel
theorem dX4_init_18 : decode cX4_init 18 = .ok (.if_icmp .ge 22, 3) := by decide +kernel
theorem dX4_init_21 : decode cX4_init 21 = .ok (.aload_n 0, 1) := by decide +kernel
theorem dX4_init_22 : decode cX4_init 22 = .ok (.getfield 11, 3) := by decide +kernel
theorem dX4_init_25 : decode cX4_init 25 = .ok (.iload_n 1, 1) := by decide +kernel
theorem dX4_init_26 : decode cX4_init 26 = .ok (.new 9, 3) := by decide +kernel
theorem dX4_init_29 : decode cX4_init 29 = .ok (.dup, 1) := by decide +kernel
theorem dX4_init_30 : decode cX4_init 30 = .ok (.invokespecial 17, 3) := by decide +kernel
theorem dX4_init_33 : decode cX4_init 33 = .ok (.aastore, 1) := by decide +kernel
theorem dX4_init_34 : decode cX4_init 34 = .ok (.iinc 1 1, 3) := by decide +kernel
theorem dX4_init_37 : decode cX4_init 37 = .ok (.goto (-22), 3) := by decide +kernel
theorem dX4_init_40 : decode cX4_init 40 = .ok (.aload_n 0, 1) := by decide +kernel
theorem dX4_init_41 : decode cX4_init 41 = .ok (.iconst 4, 1) := by decide +kernel
theorem dX4_init_42 : decode cX4_init 42 = .ok (.newarray .int, 2) := by decide +kernel
theorem dX4_init_44 : decode cX4_init 44 = .ok (.putfield 18, 3) := by decide +kernel
theorem dX4_init_47 : decode cX4_init 47 = .ok (.iconst 0, 1) := by decide +kernel
theorem dX4_init_48 : decode cX4_init 48 = .ok (.istore_n 1, 1) := by decide +kernel
theorem dX4_init_49 : decode cX4_init 49 = .ok (.iload_n 1, 1) := by decide +kernel
theorem dX4_init_50 : decode cX4_init 50 = .ok (.iconst 4, 1) := by decide +kernel
theorem dX4_init_51 : decode cX4_init 51 = .ok (.if_icmp .ge 16, 3) := by decide +kernel
theorem dX4_init_54 : decode cX4_init 54 = .ok (.aload_n 0, 1) := by decide +kernel
theorem dX4_init_55 : decode cX4_init 55 = .ok (.getfield 18, 3) := by decide +kernel
theorem dX4_init_58 : decode cX4_init 58 = .ok (.iload_n 1, 1) := by decide +kernel
theorem dX4_init_59 : decode cX4_init 59 = .ok (.iconst (-1), 1) := by decide +kernel
theorem dX4_init_60 : decode cX4_init 60 = .ok (.iastore, 1) := by decide +kernel
theorem dX4_init_61 : decode cX4_init 61 = .ok (.iinc 1 1, 3) := by decide +kernel
theorem dX4_init_64 : decode cX4_init 64 = .ok (.goto (-15), 3) := by decide +kernel
theorem dX4_init_67 : decode cX4_init 67 = .ok (.aload_n 0, 1) := by decide +kernel
theorem dX4_init_68 : decode cX4_init 68 = .ok (.new 22, 3) := by decide +kernel
theorem dX4_init_71 : decode cX4_init 71 = .ok (.dup, 1) := by decide +kernel
theorem dX4_init_72 : decode cX4_init 72 = .ok (.bipush 12, 2) := by decide +kernel
theorem dX4_init_74 : decode cX4_init 74 = .ok (.invokespecial 24, 3) := by decide +kernel
theorem dX4_init_77 : decode cX4_init 77 = .ok (.putfield 27, 3) := by decide +kernel
theorem dX4_init_80 : decode cX4_init 80 = .ok (.aload_n 0, 1) := by decide +kernel
theorem dX4_init_81 : decode cX4_init 81 = .ok (.iconst 0, 1) := by decide +kernel
theorem dX4_init_82 : decode cX4_init 82 = .ok (.putfield 31, 3) := by decide +kernel
theorem dX4_init_85 : decode cX4_init 85 = .ok (.aload_n 0, 1) := by decide +kernel
theorem dX4_init_86 : decode cX4_init 86 = .ok (.iconst 0, 1) := by decide +kernel
theorem dX4_init_87 : decode cX4_init 87 = .ok (.putfield 35, 3) := by decide +kernel
theorem dX4_init_90 : decode cX4_init 90 = .ok (.aload_n 0, 1) := by decide +kernel
theorem dX4_init_91 : decode cX4_init 91 = .ok (.iconst 0, 1) := by decide +kernel
theorem dX4_init_92 : decode cX4_init 92 = .ok (.putfield 38, 3) := by decide +kernel
theorem dX4_init_95 : decode cX4_init 95 = .ok (.aload_n 0, 1) := by decide +kernel
theorem dX4_init_96 : decode cX4_init 96 = .ok (.iconst 0, 1) := by decide +kernel
theorem dX4_init_97 : decode cX4_init 97 = .ok (.putfield 41, 3) := by decide +kernel
theorem dX4_init_100 : decode cX4_init 100 = .ok (.aload_n 0, 1) := by decide +kernel
theorem dX4_init_101 : decode cX4_init 101 = .ok (.iconst 4, 1) := by decide +kernel
theorem dX4_init_102 : decode cX4_init 102 = .ok (.putfield 44, 3) := by decide +kernel
theorem dX4_init_105 : decode cX4_init 105 = .ok (.return_, 1) := by decide +kernel
theorem dX4_copyFrom_0 : decode cX4_copyFrom 0 = .ok (.iconst 0, 1) := by decide +kernel
theorem dX4_copyFrom_1 : decode cX4_copyFrom 1 = .ok (.istore_n 2, 1) := by decide +kernel
theorem dX4_copyFrom_2 : decode cX4_copyFrom 2 = .ok (.iload_n 2, 1) := by decide +kernel
theorem dX4_copyFrom_3 : decode cX4_copyFrom 3 = .ok (.aload_n 1, 1) := by decide +kernel
theorem dX4_copyFrom_4 : decode cX4_copyFrom 4 = .ok (.getfield 31, 3) := by decide +kernel
theorem dX4_copyFrom_7 : decode cX4_copyFrom 7 = .ok (.if_icmp .ge 30, 3) := by decide +kernel
theorem dX4_copyFrom_10 : decode cX4_copyFrom 10 = .ok (.iload_n 2, 1) := by decide +kernel
theorem dX4_copyFrom_11 : decode cX4_copyFrom 11 = .ok (.bipush 10, 2) := by decide +kernel
theorem dX4_copyFrom_13 : decode cX4_copyFrom 13 = .ok (.if_icmp .ge 24, 3) := by decide +kernel
theorem dX4_copyFrom_16 : decode cX4_copyFrom 16 = .ok (.aload_n 0, 1) := by decide +kernel
theorem dX4_copyFrom_17 : decode cX4_copyFrom 17 = .ok (.getfield 11, 3) := by decide +kernel
theorem dX4_copyFrom_20 : decode cX4_copyFrom 20 = .ok (.iload_n 2, 1) := by decide +kernel
theorem dX4_copyFrom_21 : decode cX4_copyFrom 21 = .ok (.aaload, 1) := by decide +kernel
theorem dX4_copyFrom_22 : decode cX4_copyFrom 22 = .ok (.aload_n 1, 1) := by decide +kernel
theorem dX4_copyFrom_23 : decode cX4_copyFrom 23 = .ok (.getfield 11, 3) := by decide +kernel
theorem dX4_copyFrom_26 : decode cX4_copyFrom 26 = .ok (.iload_n 2, 1) := by decide +kernel
theorem dX4_copyFrom_27 : decode cX4_copyFrom 27 = .ok (.aaload, 1) := by decide +kernel
theorem dX4_copyFrom_28 : decode cX4_copyFrom 28 = .ok (.invokevirtual 47, 3) := by decide +kernel
theorem dX4_copyFrom_31 : decode cX4_copyFrom 31 = .ok (.iinc 2 1, 3) := by decide +kernel
theorem dX4_copyFrom_34 : decode cX4_copyFrom 34 = .ok (.goto (-32), 3) := by decide +kernel
theorem dX4_copyFrom_37 : decode cX4_copyFrom 37 = .ok (.aload_n 1, 1) := by decide +kernel
theorem dX4_copyFrom_38 : decode cX4_copyFrom 38 = .ok (.getfield 18, 3) := by decide +kernel
theorem dX4_copyFrom_41 : decode cX4_copyFrom 41 = .ok (.iconst 0, 1) := by decide +kernel
theorem dX4_copyFrom_42 : decode cX4_copyFrom 42 = .ok (.aload_n 0, 1) := by decide +kernel
theorem dX4_copyFrom_43 : decode cX4_copyFrom 43 = .ok (.getfield 18, 3) := by decide +kernel
theorem dX4_copyFrom_46 : decode cX4_copyFrom 46 = .ok (.iconst 0, 1) := by decide +kernel
theorem dX4_copyFrom_47 : decode cX4_copyFrom 47 = .ok (.iconst 4, 1) := by decide +kernel
theorem dX4_copyFrom_48 : decode cX4_copyFrom 48 = .ok (.invokestatic 51, 3) := by decide +kernel
theorem dX4_copyFrom_51 : decode cX4_copyFrom 51 = .ok (.aload_n 0, 1) := by decide +kernel
theorem dX4_copyFrom_52 : decode cX4_copyFrom 52 = .ok (.aload_n 1, 1) := by decide +kernel
theorem dX4_copyFrom_53 : decode cX4_copyFrom 53 = .ok (.getfield 31, 3) := by decide +kernel
theorem dX4_copyFrom_56 : decode cX4_copyFrom 56 = .ok (.putfield 31, 3) := by decide +kernel
theorem dX4_copyFrom_59 : decode cX4_copyFrom 59 = .ok (.aload_n 0, 1) := by decide +kernel
theorem dX4_copyFrom_60 : decode cX4_copyFrom 60 = .ok (.aload_n 1, 1) := by decide +kernel
theorem dX4_copyFrom_61 : decode cX4_copyFrom 61 = .ok (.getfield 35, 3) := by decide +kernel
theorem dX4_copyFrom_64 : decode cX4_copyFrom 64 = .ok (.putfield 35, 3) := by decide +kernel
theorem dX4_copyFrom_67 : decode cX4_copyFrom 67 = .ok (.aload_n 0, 1) := by decide +kernel
theorem dX4_copyFrom_68 : decode cX4_copyFrom 68 = .ok (.aload_n 1, 1) := by decide +kernel
theorem dX4_copyFrom_69 : decode cX4_copyFrom 69 = .ok (.getfield 38, 3) := by decide +kernel
theorem dX4_copyFrom_72 : decode cX4_copyFrom 72 = .ok (.putfield 38, 3) := by decide +kernel
theorem dX4_copyFrom_75 : decode cX4_copyFrom 75 = .ok (.aload_n 0, 1) := by decide +kernel
theorem dX4_copyFrom_76 : decode cX4_copyFrom 76 = .ok (.aload_n 1, 1) := by decide +kernel
theorem dX4_copyFrom_77 : decode cX4_copyFrom 77 = .ok (.getfield 41, 3) := by decide +kernel
theorem dX4_copyFrom_80 : decode cX4_copyFrom 80 = .ok (.putfield 41, 3) := by decide +kernel
theorem dX4_copyFrom_83 : decode cX4_copyFrom 83 = .ok (.aload_n 0, 1) := by decide +kernel
theorem dX4_copyFrom_84 : decode cX4_copyFrom 84 = .ok (.aload_n 1, 1) := by decide +kernel
theorem dX4_copyFrom_85 : decode cX4_copyFrom 85 = .ok (.getfield 44, 3) := by decide +kernel
theorem dX4_copyFrom_88 : decode cX4_copyFrom 88 = .ok (.putfield 44, 3) := by decide +kernel
theorem dX4_copyFrom_91 : decode cX4_copyFrom 91 = .ok (.return_, 1) := by decide +kernel
theorem dX4_holds_0 : decode cX4_holds 0 = .ok (.iload_n 1, 1) := by decide +kernel
theorem dX4_holds_1 : decode cX4_holds 1 = .ok (.ifCond .lt 33, 3) := by decide +kernel
theorem dX4_holds_4 : decode cX4_holds 4 = .ok (.iload_n 1, 1) := by decide +kernel
theorem dX4_holds_5 : decode cX4_holds 5 = .ok (.aload_n 0, 1) := by decide +kernel
theorem dX4_holds_6 : decode cX4_holds 6 = .ok (.getfield 31, 3) := by decide +kernel
theorem dX4_holds_9 : decode cX4_holds 9 = .ok (.if_icmp .ge 25, 3) := by decide +kernel
theorem dX4_holds_12 : decode cX4_holds 12 = .ok (.iload_n 1, 1) := by decide +kernel
theorem dX4_holds_13 : decode cX4_holds 13 = .ok (.bipush 10, 2) := by decide +kernel
theorem dX4_holds_15 : decode cX4_holds 15 = .ok (.if_icmp .ge 19, 3) := by decide +kernel
theorem dX4_holds_18 : decode cX4_holds 18 = .ok (.aload_n 0, 1) := by decide +kernel
theorem dX4_holds_19 : decode cX4_holds 19 = .ok (.getfield 35, 3) := by decide +kernel
theorem dX4_holds_22 : decode cX4_holds 22 = .ok (.iload_n 1, 1) := by decide +kernel
theorem dX4_holds_23 : decode cX4_holds 23 = .ok (.ishr, 1) := by decide +kernel
theorem dX4_holds_24 : decode cX4_holds 24 = .ok (.iconst 1, 1) := by decide +kernel
theorem dX4_holds_25 : decode cX4_holds 25 = .ok (.iand, 1) := by decide +kernel
theorem dX4_holds_26 : decode cX4_holds 26 = .ok (.iconst 1, 1) := by decide +kernel
theorem dX4_holds_27 : decode cX4_holds 27 = .ok (.if_icmp .ne 7, 3) := by decide +kernel
theorem dX4_holds_30 : decode cX4_holds 30 = .ok (.iconst 1, 1) := by decide +kernel
theorem dX4_holds_31 : decode cX4_holds 31 = .ok (.goto 4, 3) := by decide +kernel
theorem dX4_holds_34 : decode cX4_holds 34 = .ok (.iconst 0, 1) := by decide +kernel
theorem dX4_holds_35 : decode cX4_holds 35 = .ok (.ireturn, 1) := by decide +kernel
theorem dX4_hasRoom_0 : decode cX4_hasRoom 0 = .ok (.aload_n 0, 1) := by decide +kernel
theorem dX4_hasRoom_1 : decode cX4_hasRoom 1 = .ok (.getfield 31, 3) := by decide +kernel
theorem dX4_hasRoom_4 : decode cX4_hasRoom 4 = .ok (.bipush 10, 2) := by decide +kernel
theorem dX4_hasRoom_6 : decode cX4_hasRoom 6 = .ok (.if_icmp .ge 7, 3) := by decide +kernel
theorem dX4_hasRoom_9 : decode cX4_hasRoom 9 = .ok (.iconst 1, 1) := by decide +kernel
theorem dX4_hasRoom_10 : decode cX4_hasRoom 10 = .ok (.goto 4, 3) := by decide +kernel
theorem dX4_hasRoom_13 : decode cX4_hasRoom 13 = .ok (.iconst 0, 1) := by decide +kernel
theorem dX4_hasRoom_14 : decode cX4_hasRoom 14 = .ok (.ireturn, 1) := by decide +kernel
theorem dX4_lettersOf_0 : decode cX4_lettersOf 0 = .ok (.aload_n 0, 1) := by decide +kernel
theorem dX4_lettersOf_1 : decode cX4_lettersOf 1 = .ok (.iload_n 1, 1) := by decide +kernel
theorem dX4_lettersOf_2 : decode cX4_lettersOf 2 = .ok (.invokevirtual 57, 3) := by decide +kernel
theorem dX4_lettersOf_5 : decode cX4_lettersOf 5 = .ok (.ifCond .eq 18, 3) := by decide +kernel
theorem dX4_lettersOf_8 : decode cX4_lettersOf 8 = .ok (.aload_n 0, 1) := by decide +kernel
theorem dX4_lettersOf_9 : decode cX4_lettersOf 9 = .ok (.getfield 11, 3) := by decide +kernel
theorem dX4_lettersOf_12 : decode cX4_lettersOf 12 = .ok (.iload_n 1, 1) := by decide +kernel
theorem dX4_lettersOf_13 : decode cX4_lettersOf 13 = .ok (.aaload, 1) := by decide +kernel
theorem dX4_lettersOf_14 : decode cX4_lettersOf 14 = .ok (.getfield 61, 3) := by decide +kernel
theorem dX4_lettersOf_17 : decode cX4_lettersOf 17 = .ok (.getfield 64, 3) := by decide +kernel
theorem dX4_lettersOf_20 : decode cX4_lettersOf 20 = .ok (.goto 4, 3) := by decide +kernel
theorem dX4_lettersOf_23 : decode cX4_lettersOf 23 = .ok (.iconst 0, 1) := by decide +kernel
theorem dX4_lettersOf_24 : decode cX4_lettersOf 24 = .ok (.ireturn, 1) := by decide +kernel
theorem dX4_hasParent_0 : decode cX4_hasParent 0 = .ok (.aload_n 0, 1) := by decide +kernel
theorem dX4_hasParent_1 : decode cX4_hasParent 1 = .ok (.iload_n 1, 1) := by decide +kernel
theorem dX4_hasParent_2 : decode cX4_hasParent 2 = .ok (.invokevirtual 57, 3) := by decide +kernel
theorem dX4_hasParent_5 : decode cX4_hasParent 5 = .ok (.ifCond .eq 33, 3) := by decide +kernel
theorem dX4_hasParent_8 : decode cX4_hasParent 8 = .ok (.aload_n 0, 1) := by decide +kernel
theorem dX4_hasParent_9 : decode cX4_hasParent 9 = .ok (.getfield 11, 3) := by decide +kernel
theorem dX4_hasParent_12 : decode cX4_hasParent 12 = .ok (.iload_n 1, 1) := by decide +kernel
theorem dX4_hasParent_13 : decode cX4_hasParent 13 = .ok (.aaload, 1) := by decide +kernel
theorem dX4_hasParent_14 : decode cX4_hasParent 14 = .ok (.getfield 67, 3) := by decide +kernel
theorem dX4_hasParent_17 : decode cX4_hasParent 17 = .ok (.iload_n 2, 1) := by decide +kernel
theorem dX4_hasParent_18 : decode cX4_hasParent 18 = .ok (.if_icmp .eq 16, 3) := by decide +kernel
theorem dX4_hasParent_21 : decode cX4_hasParent 21 = .ok (.aload_n 0, 1) := by decide +kernel
theorem dX4_hasParent_22 : decode cX4_hasParent 22 = .ok (.getfield 11, 3) := by decide +kernel
theorem dX4_hasParent_25 : decode cX4_hasParent 25 = .ok (.iload_n 1, 1) := by decide +kernel
theorem dX4_hasParent_26 : decode cX4_hasParent 26 = .ok (.aaload, 1) := by decide +kernel
theorem dX4_hasParent_27 : decode cX4_hasParent 27 = .ok (.getfield 70, 3) := by decide +kernel
theorem dX4_hasParent_30 : decode cX4_hasParent 30 = .ok (.iload_n 2, 1) := by decide +kernel
theorem dX4_hasParent_31 : decode cX4_hasParent 31 = .ok (.if_icmp .ne 7, 3) := by decide +kernel
theorem dX4_hasParent_34 : decode cX4_hasParent 34 = .ok (.iconst 1, 1) := by decide +kernel
theorem dX4_hasParent_35 : decode cX4_hasParent 35 = .ok (.goto 4, 3) := by decide +kernel
theorem dX4_hasParent_38 : decode cX4_hasParent 38 = .ok (.iconst 0, 1) := by decide +kernel
theorem dX4_hasParent_39 : decode cX4_hasParent 39 = .ok (.ireturn, 1) := by decide +kernel
theorem dX4_heldAt_0 : decode cX4_heldAt 0 = .ok (.iconst 0, 1) := by decide +kernel
theorem dX4_heldAt_1 : decode cX4_heldAt 1 = .ok (.istore_n 2, 1) := by decide +kernel
theorem dX4_heldAt_2 : decode cX4_heldAt 2 = .ok (.iconst 0, 1) := by decide +kernel
theorem dX4_heldAt_3 : decode cX4_heldAt 3 = .ok (.istore_n 3, 1) := by decide +kernel
theorem dX4_heldAt_4 : decode cX4_heldAt 4 = .ok (.iload_n 3, 1) := by decide +kernel
theorem dX4_heldAt_5 : decode cX4_heldAt 5 = .ok (.aload_n 0, 1) := by decide +kernel
theorem dX4_heldAt_6 : decode cX4_heldAt 6 = .ok (.getfield 31, 3) := by decide +kernel
theorem dX4_heldAt_9 : decode cX4_heldAt 9 = .ok (.if_icmp .ge 27, 3) := by decide +kernel
theorem dX4_heldAt_12 : decode cX4_heldAt 12 = .ok (.aload_n 0, 1) := by decide +kernel
theorem dX4_heldAt_13 : decode cX4_heldAt 13 = .ok (.iload_n 3, 1) := by decide +kernel
theorem dX4_heldAt_14 : decode cX4_heldAt 14 = .ok (.invokevirtual 57, 3) := by decide +kernel
theorem dX4_heldAt_17 : decode cX4_heldAt 17 = .ok (.ifCond .eq 13, 3) := by decide +kernel
theorem dX4_heldAt_20 : decode cX4_heldAt 20 = .ok (.iload_n 2, 1) := by decide +kernel
theorem dX4_heldAt_21 : decode cX4_heldAt 21 = .ok (.iload_n 1, 1) := by decide +kernel
theorem dX4_heldAt_22 : decode cX4_heldAt 22 = .ok (.if_icmp .ne 5, 3) := by decide +kernel
theorem dX4_heldAt_25 : decode cX4_heldAt 25 = .ok (.iload_n 3, 1) := by decide +kernel
theorem dX4_heldAt_26 : decode cX4_heldAt 26 = .ok (.ireturn, 1) := by decide +kernel
theorem dX4_heldAt_27 : decode cX4_heldAt 27 = .ok (.iinc 2 1, 3) := by decide +kernel
theorem dX4_heldAt_30 : decode cX4_heldAt 30 = .ok (.iinc 3 1, 3) := by decide +kernel
theorem dX4_heldAt_33 : decode cX4_heldAt 33 = .ok (.goto (-29), 3) := by decide +kernel
theorem dX4_heldAt_36 : decode cX4_heldAt 36 = .ok (.iconst 0, 1) := by decide +kernel
theorem dX4_heldAt_37 : decode cX4_heldAt 37 = .ok (.ireturn, 1) := by decide +kernel
theorem dX4_comes_0 : decode cX4_comes 0 = .ok (.aload_n 0, 1) := by decide +kernel
theorem dX4_comes_1 : decode cX4_comes 1 = .ok (.getfield 31, 3) := by decide +kernel
theorem dX4_comes_4 : decode cX4_comes 4 = .ok (.ifCond .lt 12, 3) := by decide +kernel
theorem dX4_comes_7 : decode cX4_comes 7 = .ok (.aload_n 0, 1) := by decide +kernel
theorem dX4_comes_8 : decode cX4_comes 8 = .ok (.getfield 31, 3) := by decide +kernel
theorem dX4_comes_11 : decode cX4_comes 11 = .ok (.bipush 10, 2) := by decide +kernel
theorem dX4_comes_13 : decode cX4_comes 13 = .ok (.if_icmp .lt 5, 3) := by decide +kernel
theorem dX4_comes_16 : decode cX4_comes 16 = .ok (.iconst (-1), 1) := by decide +kernel
theorem dX4_comes_17 : decode cX4_comes 17 = .ok (.ireturn, 1) := by decide +kernel
theorem dX4_comes_18 : decode cX4_comes 18 = .ok (.aload_n 0, 1) := by decide +kernel
theorem dX4_comes_19 : decode cX4_comes 19 = .ok (.getfield 11, 3) := by decide +kernel
theorem dX4_comes_22 : decode cX4_comes 22 = .ok (.aload_n 0, 1) := by decide +kernel
theorem dX4_comes_23 : decode cX4_comes 23 = .ok (.getfield 31, 3) := by decide +kernel
theorem dX4_comes_26 : decode cX4_comes 26 = .ok (.aaload, 1) := by decide +kernel
theorem dX4_comes_27 : decode cX4_comes 27 = .ok (.astore 4, 2) := by decide +kernel
theorem dX4_comes_29 : decode cX4_comes 29 = .ok (.aload 4, 2) := by decide +kernel
theorem dX4_comes_31 : decode cX4_comes 31 = .ok (.getfield 61, 3) := by decide +kernel
theorem dX4_comes_34 : decode cX4_comes 34 = .ok (.aload_n 3, 1) := by decide +kernel
theorem dX4_comes_35 : decode cX4_comes 35 = .ok (.invokevirtual 73, 3) := by decide +kernel
theorem dX4_comes_38 : decode cX4_comes 38 = .ok (.aload 4, 2) := by decide +kernel
theorem dX4_comes_40 : decode cX4_comes 40 = .ok (.aload_n 3, 1) := by decide +kernel
theorem dX4_comes_41 : decode cX4_comes 41 = .ok (.invokevirtual 76, 3) := by decide +kernel
theorem dX4_comes_44 : decode cX4_comes 44 = .ok (.putfield 80, 3) := by decide +kernel
theorem dX4_comes_47 : decode cX4_comes 47 = .ok (.aload 4, 2) := by decide +kernel
theorem dX4_comes_49 : decode cX4_comes 49 = .ok (.iload_n 1, 1) := by decide +kernel
theorem dX4_comes_50 : decode cX4_comes 50 = .ok (.putfield 67, 3) := by decide +kernel
theorem dX4_comes_53 : decode cX4_comes 53 = .ok (.aload 4, 2) := by decide +kernel
theorem dX4_comes_55 : decode cX4_comes 55 = .ok (.iload_n 2, 1) := by decide +kernel
theorem dX4_comes_56 : decode cX4_comes 56 = .ok (.putfield 70, 3) := by decide +kernel
theorem dX4_comes_59 : decode cX4_comes 59 = .ok (.aload 4, 2) := by decide +kernel
theorem dX4_comes_61 : decode cX4_comes 61 = .ok (.iconst 1, 1) := by decide +kernel
theorem dX4_comes_62 : decode cX4_comes 62 = .ok (.aload_n 0, 1) := by decide +kernel
theorem dX4_comes_63 : decode cX4_comes 63 = .ok (.getfield 31, 3) := by decide +kernel
theorem dX4_comes_66 : decode cX4_comes 66 = .ok (.ishl, 1) := by decide +kernel
theorem dX4_comes_67 : decode cX4_comes 67 = .ok (.aload_n 0, 1) := by decide +kernel
theorem dX4_comes_68 : decode cX4_comes 68 = .ok (.iload_n 1, 1) := by decide +kernel
theorem dX4_comes_69 : decode cX4_comes 69 = .ok (.invokevirtual 83, 3) := by decide +kernel
theorem dX4_comes_72 : decode cX4_comes 72 = .ok (.ior, 1) := by decide +kernel
theorem dX4_comes_73 : decode cX4_comes 73 = .ok (.aload_n 0, 1) := by decide +kernel
theorem dX4_comes_74 : decode cX4_comes 74 = .ok (.iload_n 2, 1) := by decide +kernel
theorem dX4_comes_75 : decode cX4_comes 75 = .ok (.invokevirtual 83, 3) := by decide +kernel
theorem dX4_comes_78 : decode cX4_comes 78 = .ok (.ior, 1) := by decide +kernel
theorem dX4_comes_79 : decode cX4_comes 79 = .ok (.putfield 87, 3) := by decide +kernel
theorem dX4_comes_82 : decode cX4_comes 82 = .ok (.aload 4, 2) := by decide +kernel
theorem dX4_comes_84 : decode cX4_comes 84 = .ok (.iconst (-1), 1) := by decide +kernel
theorem dX4_comes_85 : decode cX4_comes 85 = .ok (.putfield 90, 3) := by decide +kernel
theorem dX4_comes_88 : decode cX4_comes 88 = .ok (.aload_n 0, 1) := by decide +kernel
theorem dX4_comes_89 : decode cX4_comes 89 = .ok (.dup, 1) := by decide +kernel
theorem dX4_comes_90 : decode cX4_comes 90 = .ok (.getfield 35, 3) := by decide +kernel
theorem dX4_comes_93 : decode cX4_comes 93 = .ok (.iconst 1, 1) := by decide +kernel
theorem dX4_comes_94 : decode cX4_comes 94 = .ok (.aload_n 0, 1) := by decide +kernel
theorem dX4_comes_95 : decode cX4_comes 95 = .ok (.getfield 31, 3) := by decide +kernel
theorem dX4_comes_98 : decode cX4_comes 98 = .ok (.ishl, 1) := by decide +kernel
theorem dX4_comes_99 : decode cX4_comes 99 = .ok (.ior, 1) := by decide +kernel
theorem dX4_comes_100 : decode cX4_comes 100 = .ok (.putfield 35, 3) := by decide +kernel
theorem dX4_comes_103 : decode cX4_comes 103 = .ok (.aload_n 0, 1) := by decide +kernel
theorem dX4_comes_104 : decode cX4_comes 104 = .ok (.dup, 1) := by decide +kernel
theorem dX4_comes_105 : decode cX4_comes 105 = .ok (.getfield 31, 3) := by decide +kernel
theorem dX4_comes_108 : decode cX4_comes 108 = .ok (.iconst 1, 1) := by decide +kernel
theorem dX4_comes_109 : decode cX4_comes 109 = .ok (.iadd, 1) := by decide +kernel
theorem dX4_comes_110 : decode cX4_comes 110 = .ok (.putfield 31, 3) := by decide +kernel
theorem dX4_comes_113 : decode cX4_comes 113 = .ok (.aload_n 0, 1) := by decide +kernel
theorem dX4_comes_114 : decode cX4_comes 114 = .ok (.getfield 31, 3) := by decide +kernel
theorem dX4_comes_117 : decode cX4_comes 117 = .ok (.iconst 1, 1) := by decide +kernel
theorem dX4_comes_118 : decode cX4_comes 118 = .ok (.isub, 1) := by decide +kernel
theorem dX4_comes_119 : decode cX4_comes 119 = .ok (.ireturn, 1) := by decide +kernel
theorem dX4_comesAlone_0 : decode cX4_comesAlone 0 = .ok (.aload_n 0, 1) := by decide +kernel
theorem dX4_comesAlone_1 : decode cX4_comesAlone 1 = .ok (.getfield 27, 3) := by decide +kernel
theorem dX4_comesAlone_4 : decode cX4_comesAlone 4 = .ok (.invokevirtual 93, 3) := by decide +kernel
theorem dX4_comesAlone_7 : decode cX4_comesAlone 7 = .ok (.aload_n 0, 1) := by decide +kernel
theorem dX4_comesAlone_8 : decode cX4_comesAlone 8 = .ok (.getfield 27, 3) := by decide +kernel
theorem dX4_comesAlone_11 : decode cX4_comesAlone 11 = .ok (.iconst 0, 1) := by decide +kernel
theorem dX4_comesAlone_12 : decode cX4_comesAlone 12 = .ok (.invokevirtual 96, 3) := by decide +kernel
theorem dX4_comesAlone_15 : decode cX4_comesAlone 15 = .ok (.aload_n 0, 1) := by decide +kernel
theorem dX4_comesAlone_16 : decode cX4_comesAlone 16 = .ok (.iconst (-1), 1) := by decide +kernel
theorem dX4_comesAlone_17 : decode cX4_comesAlone 17 = .ok (.iconst (-1), 1) := by decide +kernel
theorem dX4_comesAlone_18 : decode cX4_comesAlone 18 = .ok (.aload_n 0, 1) := by decide +kernel
theorem dX4_comesAlone_19 : decode cX4_comesAlone 19 = .ok (.getfield 27, 3) := by decide +kernel
theorem dX4_comesAlone_22 : decode cX4_comesAlone 22 = .ok (.invokevirtual 99, 3) := by decide +kernel
theorem dX4_comesAlone_25 : decode cX4_comesAlone 25 = .ok (.ireturn, 1) := by decide +kernel
theorem dX4_comesEdited_0 : decode cX4_comesEdited 0 = .ok (.aload_n 0, 1) := by decide +kernel
theorem dX4_comesEdited_1 : decode cX4_comesEdited 1 = .ok (.iload_n 1, 1) := by decide +kernel
theorem dX4_comesEdited_2 : decode cX4_comesEdited 2 = .ok (.invokevirtual 57, 3) := by decide +kernel
theorem dX4_comesEdited_5 : decode cX4_comesEdited 5 = .ok (.ifCond .ne 5, 3) := by decide +kernel
theorem dX4_comesEdited_8 : decode cX4_comesEdited 8 = .ok (.iconst (-1), 1) := by decide +kernel
theorem dX4_comesEdited_9 : decode cX4_comesEdited 9 = .ok (.ireturn, 1) := by decide +kernel
theorem dX4_comesEdited_10 : decode cX4_comesEdited 10 = .ok (.aload_n 0, 1) := by decide +kernel
theorem dX4_comesEdited_11 : decode cX4_comesEdited 11 = .ok (.getfield 11, 3) := by decide +kernel
theorem dX4_comesEdited_14 : decode cX4_comesEdited 14 = .ok (.iload_n 1, 1) := by decide +kernel
theorem dX4_comesEdited_15 : decode cX4_comesEdited 15 = .ok (.aaload, 1) := by decide +kernel
theorem dX4_comesEdited_16 : decode cX4_comesEdited 16 = .ok (.getfield 61, 3) := by decide +kernel
theorem dX4_comesEdited_19 : decode cX4_comesEdited 19 = .ok (.astore 4, 2) := by decide +kernel
theorem dX4_comesEdited_21 : decode cX4_comesEdited 21 = .ok (.aload_n 0, 1) := by decide +kernel
theorem dX4_comesEdited_22 : decode cX4_comesEdited 22 = .ok (.getfield 27, 3) := by decide +kernel
theorem dX4_comesEdited_25 : decode cX4_comesEdited 25 = .ok (.invokevirtual 93, 3) := by decide +kernel
theorem dX4_comesEdited_28 : decode cX4_comesEdited 28 = .ok (.iconst 0, 1) := by decide +kernel
theorem dX4_comesEdited_29 : decode cX4_comesEdited 29 = .ok (.istore 5, 2) := by decide +kernel
theorem dX4_comesEdited_31 : decode cX4_comesEdited 31 = .ok (.iload 5, 2) := by decide +kernel
theorem dX4_comesEdited_33 : decode cX4_comesEdited 33 = .ok (.aload 4, 2) := by decide +kernel
theorem dX4_comesEdited_35 : decode cX4_comesEdited 35 = .ok (.getfield 64, 3) := by decide +kernel
theorem dX4_comesEdited_38 : decode cX4_comesEdited 38 = .ok (.if_icmp .ge 46, 3) := by decide +kernel
theorem dX4_comesEdited_41 : decode cX4_comesEdited 41 = .ok (.iload 5, 2) := by decide +kernel
theorem dX4_comesEdited_43 : decode cX4_comesEdited 43 = .ok (.iload_n 2, 1) := by decide +kernel
theorem dX4_comesEdited_44 : decode cX4_comesEdited 44 = .ok (.if_icmp .eq 20, 3) := by decide +kernel
theorem dX4_comesEdited_47 : decode cX4_comesEdited 47 = .ok (.aload_n 0, 1) := by decide +kernel
theorem dX4_comesEdited_48 : decode cX4_comesEdited 48 = .ok (.getfield 27, 3) := by decide +kernel
theorem dX4_comesEdited_51 : decode cX4_comesEdited 51 = .ok (.aload 4, 2) := by decide +kernel
theorem dX4_comesEdited_53 : decode cX4_comesEdited 53 = .ok (.iload 5, 2) := by decide +kernel
theorem dX4_comesEdited_55 : decode cX4_comesEdited 55 = .ok (.invokevirtual 103, 3) := by decide +kernel
theorem dX4_comesEdited_58 : decode cX4_comesEdited 58 = .ok (.invokevirtual 96, 3) := by decide +kernel
theorem dX4_comesEdited_61 : decode cX4_comesEdited 61 = .ok (.goto 17, 3) := by decide +kernel
theorem dX4_comesEdited_64 : decode cX4_comesEdited 64 = .ok (.iload_n 3, 1) := by decide +kernel
theorem dX4_comesEdited_65 : decode cX4_comesEdited 65 = .ok (.bipush 8, 2) := by decide +kernel
theorem dX4_comesEdited_67 : decode cX4_comesEdited 67 = .ok (.if_icmp .eq 11, 3) := by decide +kernel
theorem dX4_comesEdited_70 : decode cX4_comesEdited 70 = .ok (.aload_n 0, 1) := by decide +kernel
theorem dX4_comesEdited_71 : decode cX4_comesEdited 71 = .ok (.getfield 27, 3) := by decide +kernel
theorem dX4_comesEdited_74 : decode cX4_comesEdited 74 = .ok (.iload_n 3, 1) := by decide +kernel
theorem dX4_comesEdited_75 : decode cX4_comesEdited 75 = .ok (.invokevirtual 96, 3) := by decide +kernel
theorem dX4_comesEdited_78 : decode cX4_comesEdited 78 = .ok (.iinc 5 1, 3) := by decide +kernel
theorem dX4_comesEdited_81 : decode cX4_comesEdited 81 = .ok (.goto (-50), 3) := by decide +kernel
theorem dX4_comesEdited_84 : decode cX4_comesEdited 84 = .ok (.iload_n 2, 1) := by decide +kernel
theorem dX4_comesEdited_85 : decode cX4_comesEdited 85 = .ok (.aload 4, 2) := by decide +kernel
theorem dX4_comesEdited_87 : decode cX4_comesEdited 87 = .ok (.getfield 64, 3) := by decide +kernel
theorem dX4_comesEdited_90 : decode cX4_comesEdited 90 = .ok (.if_icmp .ne 11, 3) := by decide +kernel
theorem dX4_comesEdited_93 : decode cX4_comesEdited 93 = .ok (.aload_n 0, 1) := by decide +kernel
theorem dX4_comesEdited_94 : decode cX4_comesEdited 94 = .ok (.getfield 27, 3) := by decide +kernel
theorem dX4_comesEdited_97 : decode cX4_comesEdited 97 = .ok (.iload_n 3, 1) := by decide +kernel
theorem dX4_comesEdited_98 : decode cX4_comesEdited 98 = .ok (.invokevirtual 96, 3) := by decide +kernel
theorem dX4_comesEdited_101 : decode cX4_comesEdited 101 = .ok (.aload_n 0, 1) := by decide +kernel
theorem dX4_comesEdited_102 : decode cX4_comesEdited 102 = .ok (.iload_n 1, 1) := by decide +kernel
theorem dX4_comesEdited_103 : decode cX4_comesEdited 103 = .ok (.iconst (-1), 1) := by decide +kernel
theorem dX4_comesEdited_104 : decode cX4_comesEdited 104 = .ok (.aload_n 0, 1) := by decide +kernel
theorem dX4_comesEdited_105 : decode cX4_comesEdited 105 = .ok (.getfield 27, 3) := by decide +kernel
theorem dX4_comesEdited_108 : decode cX4_comesEdited 108 = .ok (.invokevirtual 99, 3) := by decide +kernel
theorem dX4_comesEdited_111 : decode cX4_comesEdited 111 = .ok (.ireturn, 1) := by decide +kernel
theorem dX4_damageAt_0 : decode cX4_damageAt 0 = .ok (.aload_n 0, 1) := by decide +kernel
theorem dX4_damageAt_1 : decode cX4_damageAt 1 = .ok (.iload_n 1, 1) := by decide +kernel
theorem dX4_damageAt_2 : decode cX4_damageAt 2 = .ok (.invokevirtual 57, 3) := by decide +kernel
theorem dX4_damageAt_5 : decode cX4_damageAt 5 = .ok (.ifCond .ne 4, 3) := by decide +kernel
theorem dX4_damageAt_8 : decode cX4_damageAt 8 = .ok (.return_, 1) := by decide +kernel
theorem dX4_damageAt_9 : decode cX4_damageAt 9 = .ok (.aload_n 0, 1) := by decide +kernel
theorem dX4_damageAt_10 : decode cX4_damageAt 10 = .ok (.getfield 11, 3) := by decide +kernel
theorem dX4_damageAt_13 : decode cX4_damageAt 13 = .ok (.iload_n 1, 1) := by decide +kernel
theorem dX4_damageAt_14 : decode cX4_damageAt 14 = .ok (.aaload, 1) := by decide +kernel
theorem dX4_damageAt_15 : decode cX4_damageAt 15 = .ok (.getfield 61, 3) := by decide +kernel
theorem dX4_damageAt_18 : decode cX4_damageAt 18 = .ok (.iload_n 2, 1) := by decide +kernel
theorem dX4_damageAt_19 : decode cX4_damageAt 19 = .ok (.iload_n 3, 1) := by decide +kernel
theorem dX4_damageAt_20 : decode cX4_damageAt 20 = .ok (.invokevirtual 106, 3) := by decide +kernel
theorem dX4_damageAt_23 : decode cX4_damageAt 23 = .ok (.iconst 1, 1) := by decide +kernel
theorem dX4_damageAt_24 : decode cX4_damageAt 24 = .ok (.istore 4, 2) := by decide +kernel
theorem dX4_damageAt_26 : decode cX4_damageAt 26 = .ok (.iload 4, 2) := by decide +kernel
theorem dX4_damageAt_28 : decode cX4_damageAt 28 = .ok (.bipush 10, 2) := by decide +kernel
theorem dX4_damageAt_30 : decode cX4_damageAt 30 = .ok (.if_icmp .ge 58, 3) := by decide +kernel
theorem dX4_damageAt_33 : decode cX4_damageAt 33 = .ok (.iconst 0, 1) := by decide +kernel
theorem dX4_damageAt_34 : decode cX4_damageAt 34 = .ok (.istore 5, 2) := by decide +kernel
theorem dX4_damageAt_36 : decode cX4_damageAt 36 = .ok (.iload 5, 2) := by decide +kernel
theorem dX4_damageAt_38 : decode cX4_damageAt 38 = .ok (.aload_n 0, 1) := by decide +kernel
theorem dX4_damageAt_39 : decode cX4_damageAt 39 = .ok (.getfield 31, 3) := by decide +kernel
theorem dX4_damageAt_42 : decode cX4_damageAt 42 = .ok (.if_icmp .ge 40, 3) := by decide +kernel
theorem dX4_damageAt_45 : decode cX4_damageAt 45 = .ok (.aload_n 0, 1) := by decide +kernel
theorem dX4_damageAt_46 : decode cX4_damageAt 46 = .ok (.iload 5, 2) := by decide +kernel
theorem dX4_damageAt_48 : decode cX4_damageAt 48 = .ok (.invokevirtual 57, 3) := by decide +kernel
theorem dX4_damageAt_51 : decode cX4_damageAt 51 = .ok (.ifCond .eq 25, 3) := by decide +kernel
theorem dX4_damageAt_54 : decode cX4_damageAt 54 = .ok (.aload_n 0, 1) := by decide +kernel
theorem dX4_damageAt_55 : decode cX4_damageAt 55 = .ok (.iload 5, 2) := by decide +kernel
theorem dX4_damageAt_57 : decode cX4_damageAt 57 = .ok (.invokevirtual 110, 3) := by decide +kernel
theorem dX4_damageAt_60 : decode cX4_damageAt 60 = .ok (.iload 4, 2) := by decide +kernel
theorem dX4_damageAt_62 : decode cX4_damageAt 62 = .ok (.if_icmp .ne 14, 3) := by decide +kernel
theorem dX4_damageAt_65 : decode cX4_damageAt 65 = .ok (.aload_n 0, 1) := by decide +kernel
theorem dX4_damageAt_66 : decode cX4_damageAt 66 = .ok (.aload_n 0, 1) := by decide +kernel
theorem dX4_damageAt_67 : decode cX4_damageAt 67 = .ok (.getfield 11, 3) := by decide +kernel
theorem dX4_damageAt_70 : decode cX4_damageAt 70 = .ok (.iload 5, 2) := by decide +kernel
theorem dX4_damageAt_72 : decode cX4_damageAt 72 = .ok (.aaload, 1) := by decide +kernel
theorem dX4_damageAt_73 : decode cX4_damageAt 73 = .ok (.invokevirtual 113, 3) := by decide +kernel
theorem dX4_damageAt_76 : decode cX4_damageAt 76 = .ok (.iinc 5 1, 3) := by decide +kernel
theorem dX4_damageAt_79 : decode cX4_damageAt 79 = .ok (.goto (-43), 3) := by decide +kernel
theorem dX4_damageAt_82 : decode cX4_damageAt 82 = .ok (.iinc 4 1, 3) := by decide +kernel
theorem dX4_damageAt_85 : decode cX4_damageAt 85 = .ok (.goto (-59), 3) := by decide +kernel
theorem dX4_damageAt_88 : decode cX4_damageAt 88 = .ok (.return_, 1) := by decide +kernel
theorem dX4_restore_0 : decode cX4_restore 0 = .ok (.aload_n 0, 1) := by decide +kernel
theorem dX4_restore_1 : decode cX4_restore 1 = .ok (.aload_n 1, 1) := by decide +kernel
theorem dX4_restore_2 : decode cX4_restore 2 = .ok (.getfield 90, 3) := by decide +kernel
theorem dX4_restore_5 : decode cX4_restore 5 = .ok (.invokevirtual 57, 3) := by decide +kernel
theorem dX4_restore_8 : decode cX4_restore 8 = .ok (.ifCond .eq 26, 3) := by decide +kernel
theorem dX4_restore_11 : decode cX4_restore 11 = .ok (.aload_n 1, 1) := by decide +kernel
theorem dX4_restore_12 : decode cX4_restore 12 = .ok (.getfield 116, 3) := by decide +kernel
theorem dX4_restore_15 : decode cX4_restore 15 = .ok (.aload_n 0, 1) := by decide +kernel
theorem dX4_restore_16 : decode cX4_restore 16 = .ok (.getfield 11, 3) := by decide +kernel
theorem dX4_restore_19 : decode cX4_restore 19 = .ok (.aload_n 1, 1) := by decide +kernel
theorem dX4_restore_20 : decode cX4_restore 20 = .ok (.getfield 90, 3) := by decide +kernel
theorem dX4_restore_23 : decode cX4_restore 23 = .ok (.aaload, 1) := by decide +kernel
theorem dX4_restore_24 : decode cX4_restore 24 = .ok (.getfield 61, 3) := by decide +kernel
theorem dX4_restore_27 : decode cX4_restore 27 = .ok (.aload_n 1, 1) := by decide +kernel
theorem dX4_restore_28 : decode cX4_restore 28 = .ok (.getfield 61, 3) := by decide +kernel
theorem dX4_restore_31 : decode cX4_restore 31 = .ok (.invokevirtual 120, 3) := by decide +kernel
theorem dX4_restore_34 : decode cX4_restore 34 = .ok (.return_, 1) := by decide +kernel
theorem dX4_storeBy_0 : decode cX4_storeBy 0 = .ok (.iconst 0, 1) := by decide +kernel
theorem dX4_storeBy_1 : decode cX4_storeBy 1 = .ok (.istore_n 2, 1) := by decide +kernel
theorem dX4_storeBy_2 : decode cX4_storeBy 2 = .ok (.iload_n 2, 1) := by decide +kernel
theorem dX4_storeBy_3 : decode cX4_storeBy 3 = .ok (.aload_n 0, 1) := by decide +kernel
theorem dX4_storeBy_4 : decode cX4_storeBy 4 = .ok (.getfield 31, 3) := by decide +kernel
theorem dX4_storeBy_7 : decode cX4_storeBy 7 = .ok (.if_icmp .ge 67, 3) := by decide +kernel
theorem dX4_storeBy_10 : decode cX4_storeBy 10 = .ok (.aload_n 0, 1) := by decide +kernel
theorem dX4_storeBy_11 : decode cX4_storeBy 11 = .ok (.iload_n 2, 1) := by decide +kernel
theorem dX4_storeBy_12 : decode cX4_storeBy 12 = .ok (.invokevirtual 57, 3) := by decide +kernel
theorem dX4_storeBy_15 : decode cX4_storeBy 15 = .ok (.ifCond .eq 53, 3) := by decide +kernel
theorem dX4_storeBy_18 : decode cX4_storeBy 18 = .ok (.aload_n 0, 1) := by decide +kernel
theorem dX4_storeBy_19 : decode cX4_storeBy 19 = .ok (.getfield 11, 3) := by decide +kernel
theorem dX4_storeBy_22 : decode cX4_storeBy 22 = .ok (.iload_n 2, 1) := by decide +kernel
theorem dX4_storeBy_23 : decode cX4_storeBy 23 = .ok (.aaload, 1) := by decide +kernel
theorem dX4_storeBy_24 : decode cX4_storeBy 24 = .ok (.astore_n 3, 1) := by decide +kernel
theorem dX4_storeBy_25 : decode cX4_storeBy 25 = .ok (.aload_n 3, 1) := by decide +kernel
theorem dX4_storeBy_26 : decode cX4_storeBy 26 = .ok (.aload_n 1, 1) := by decide +kernel
theorem dX4_storeBy_27 : decode cX4_storeBy 27 = .ok (.iload_n 2, 1) := by decide +kernel
theorem dX4_storeBy_28 : decode cX4_storeBy 28 = .ok (.invokevirtual 126, 3) := by decide +kernel
theorem dX4_storeBy_31 : decode cX4_storeBy 31 = .ok (.putfield 90, 3) := by decide +kernel
theorem dX4_storeBy_34 : decode cX4_storeBy 34 = .ok (.aload_n 0, 1) := by decide +kernel
theorem dX4_storeBy_35 : decode cX4_storeBy 35 = .ok (.aload_n 3, 1) := by decide +kernel
theorem dX4_storeBy_36 : decode cX4_storeBy 36 = .ok (.getfield 90, 3) := by decide +kernel
theorem dX4_storeBy_39 : decode cX4_storeBy 39 = .ok (.invokevirtual 57, 3) := by decide +kernel
theorem dX4_storeBy_42 : decode cX4_storeBy 42 = .ok (.ifCond .eq 26, 3) := by decide +kernel
theorem dX4_storeBy_45 : decode cX4_storeBy 45 = .ok (.aload_n 3, 1) := by decide +kernel
theorem dX4_storeBy_46 : decode cX4_storeBy 46 = .ok (.getfield 116, 3) := by decide +kernel
theorem dX4_storeBy_49 : decode cX4_storeBy 49 = .ok (.aload_n 0, 1) := by decide +kernel
theorem dX4_storeBy_50 : decode cX4_storeBy 50 = .ok (.getfield 11, 3) := by decide +kernel
theorem dX4_storeBy_53 : decode cX4_storeBy 53 = .ok (.aload_n 3, 1) := by decide +kernel
theorem dX4_storeBy_54 : decode cX4_storeBy 54 = .ok (.getfield 90, 3) := by decide +kernel
theorem dX4_storeBy_57 : decode cX4_storeBy 57 = .ok (.aaload, 1) := by decide +kernel
theorem dX4_storeBy_58 : decode cX4_storeBy 58 = .ok (.getfield 61, 3) := by decide +kernel
theorem dX4_storeBy_61 : decode cX4_storeBy 61 = .ok (.aload_n 3, 1) := by decide +kernel
theorem dX4_storeBy_62 : decode cX4_storeBy 62 = .ok (.getfield 61, 3) := by decide +kernel
theorem dX4_storeBy_65 : decode cX4_storeBy 65 = .ok (.invokevirtual 131, 3) := by decide +kernel
theorem dX4_storeBy_68 : decode cX4_storeBy 68 = .ok (.iinc 2 1, 3) := by decide +kernel
theorem dX4_storeBy_71 : decode cX4_storeBy 71 = .ok (.goto (-69), 3) := by decide +kernel
theorem dX4_storeBy_74 : decode cX4_storeBy 74 = .ok (.return_, 1) := by decide +kernel
theorem dX4_dropGarbage_0 : decode cX4_dropGarbage 0 = .ok (.aload_n 0, 1) := by decide +kernel
theorem dX4_dropGarbage_1 : decode cX4_dropGarbage 1 = .ok (.invokevirtual 134, 3) := by decide +kernel
theorem dX4_dropGarbage_4 : decode cX4_dropGarbage 4 = .ok (.aload_n 0, 1) := by decide +kernel
theorem dX4_dropGarbage_5 : decode cX4_dropGarbage 5 = .ok (.getfield 35, 3) := by decide +kernel
theorem dX4_dropGarbage_8 : decode cX4_dropGarbage 8 = .ok (.iand, 1) := by decide +kernel
theorem dX4_dropGarbage_9 : decode cX4_dropGarbage 9 = .ok (.istore_n 1, 1) := by decide +kernel
theorem dX4_dropGarbage_10 : decode cX4_dropGarbage 10 = .ok (.aload_n 0, 1) := by decide +kernel
theorem dX4_dropGarbage_11 : decode cX4_dropGarbage 11 = .ok (.getfield 35, 3) := by decide +kernel
theorem dX4_dropGarbage_14 : decode cX4_dropGarbage 14 = .ok (.iload_n 1, 1) := by decide +kernel
theorem dX4_dropGarbage_15 : decode cX4_dropGarbage 15 = .ok (.iconst (-1), 1) := by decide +kernel
theorem dX4_dropGarbage_16 : decode cX4_dropGarbage 16 = .ok (.ixor, 1) := by decide +kernel
theorem dX4_dropGarbage_17 : decode cX4_dropGarbage 17 = .ok (.iand, 1) := by decide +kernel
theorem dX4_dropGarbage_18 : decode cX4_dropGarbage 18 = .ok (.istore_n 2, 1) := by decide +kernel
theorem dX4_dropGarbage_19 : decode cX4_dropGarbage 19 = .ok (.iconst 0, 1) := by decide +kernel
theorem dX4_dropGarbage_20 : decode cX4_dropGarbage 20 = .ok (.istore_n 3, 1) := by decide +kernel
theorem dX4_dropGarbage_21 : decode cX4_dropGarbage 21 = .ok (.iload_n 3, 1) := by decide +kernel
theorem dX4_dropGarbage_22 : decode cX4_dropGarbage 22 = .ok (.aload_n 0, 1) := by decide +kernel
theorem dX4_dropGarbage_23 : decode cX4_dropGarbage 23 = .ok (.getfield 31, 3) := by decide +kernel
theorem dX4_dropGarbage_26 : decode cX4_dropGarbage 26 = .ok (.if_icmp .ge 36, 3) := by decide +kernel
theorem dX4_dropGarbage_29 : decode cX4_dropGarbage 29 = .ok (.aload_n 0, 1) := by decide +kernel
theorem dX4_dropGarbage_30 : decode cX4_dropGarbage 30 = .ok (.iload_n 3, 1) := by decide +kernel
theorem dX4_dropGarbage_31 : decode cX4_dropGarbage 31 = .ok (.invokevirtual 57, 3) := by decide +kernel
theorem dX4_dropGarbage_34 : decode cX4_dropGarbage 34 = .ok (.ifCond .eq 22, 3) := by decide +kernel
theorem dX4_dropGarbage_37 : decode cX4_dropGarbage 37 = .ok (.iload_n 1, 1) := by decide +kernel
theorem dX4_dropGarbage_38 : decode cX4_dropGarbage 38 = .ok (.iload_n 3, 1) := by decide +kernel
theorem dX4_dropGarbage_39 : decode cX4_dropGarbage 39 = .ok (.ishr, 1) := by decide +kernel
theorem dX4_dropGarbage_40 : decode cX4_dropGarbage 40 = .ok (.iconst 1, 1) := by decide +kernel
theorem dX4_dropGarbage_41 : decode cX4_dropGarbage 41 = .ok (.iand, 1) := by decide +kernel
theorem dX4_dropGarbage_42 : decode cX4_dropGarbage 42 = .ok (.iconst 1, 1) := by decide +kernel
theorem dX4_dropGarbage_43 : decode cX4_dropGarbage 43 = .ok (.if_icmp .ne 13, 3) := by decide +kernel
theorem dX4_dropGarbage_46 : decode cX4_dropGarbage 46 = .ok (.aload_n 0, 1) := by decide +kernel
theorem dX4_dropGarbage_47 : decode cX4_dropGarbage 47 = .ok (.getfield 11, 3) := by decide +kernel
theorem dX4_dropGarbage_50 : decode cX4_dropGarbage 50 = .ok (.iload_n 3, 1) := by decide +kernel
theorem dX4_dropGarbage_51 : decode cX4_dropGarbage 51 = .ok (.aaload, 1) := by decide +kernel
theorem dX4_dropGarbage_52 : decode cX4_dropGarbage 52 = .ok (.iload_n 2, 1) := by decide +kernel
theorem dX4_dropGarbage_53 : decode cX4_dropGarbage 53 = .ok (.invokevirtual 137, 3) := by decide +kernel
theorem dX4_dropGarbage_56 : decode cX4_dropGarbage 56 = .ok (.iinc 3 1, 3) := by decide +kernel
theorem dX4_dropGarbage_59 : decode cX4_dropGarbage 59 = .ok (.goto (-38), 3) := by decide +kernel
theorem dX4_dropGarbage_62 : decode cX4_dropGarbage 62 = .ok (.aload_n 0, 1) := by decide +kernel
theorem dX4_dropGarbage_63 : decode cX4_dropGarbage 63 = .ok (.iload_n 1, 1) := by decide +kernel
theorem dX4_dropGarbage_64 : decode cX4_dropGarbage 64 = .ok (.putfield 35, 3) := by decide +kernel
theorem dX4_dropGarbage_67 : decode cX4_dropGarbage 67 = .ok (.iload_n 2, 1) := by decide +kernel
theorem dX4_dropGarbage_68 : decode cX4_dropGarbage 68 = .ok (.invokestatic 140, 3) := by decide +kernel
theorem dX4_dropGarbage_71 : decode cX4_dropGarbage 71 = .ok (.ireturn, 1) := by decide +kernel
theorem dX4_reachOf_0 : decode cX4_reachOf 0 = .ok (.iload_n 1, 1) := by decide +kernel
theorem dX4_reachOf_1 : decode cX4_reachOf 1 = .ok (.ifCond .lt 29, 3) := by decide +kernel
theorem dX4_reachOf_4 : decode cX4_reachOf 4 = .ok (.iload_n 1, 1) := by decide +kernel
theorem dX4_reachOf_5 : decode cX4_reachOf 5 = .ok (.aload_n 0, 1) := by decide +kernel
theorem dX4_reachOf_6 : decode cX4_reachOf 6 = .ok (.getfield 31, 3) := by decide +kernel
theorem dX4_reachOf_9 : decode cX4_reachOf 9 = .ok (.if_icmp .ge 21, 3) := by decide +kernel
theorem dX4_reachOf_12 : decode cX4_reachOf 12 = .ok (.iload_n 1, 1) := by decide +kernel
theorem dX4_reachOf_13 : decode cX4_reachOf 13 = .ok (.bipush 10, 2) := by decide +kernel
theorem dX4_reachOf_15 : decode cX4_reachOf 15 = .ok (.if_icmp .ge 15, 3) := by decide +kernel
theorem dX4_reachOf_18 : decode cX4_reachOf 18 = .ok (.aload_n 0, 1) := by decide +kernel
theorem dX4_reachOf_19 : decode cX4_reachOf 19 = .ok (.getfield 11, 3) := by decide +kernel
theorem dX4_reachOf_22 : decode cX4_reachOf 22 = .ok (.iload_n 1, 1) := by decide +kernel
theorem dX4_reachOf_23 : decode cX4_reachOf 23 = .ok (.aaload, 1) := by decide +kernel
theorem dX4_reachOf_24 : decode cX4_reachOf 24 = .ok (.getfield 87, 3) := by decide +kernel
theorem dX4_reachOf_27 : decode cX4_reachOf 27 = .ok (.goto 4, 3) := by decide +kernel
theorem dX4_reachOf_30 : decode cX4_reachOf 30 = .ok (.iconst 0, 1) := by decide +kernel
theorem dX4_reachOf_31 : decode cX4_reachOf 31 = .ok (.ireturn, 1) := by decide +kernel
theorem dX4_reachedFrom_0 : decode cX4_reachedFrom 0 = .ok (.iconst 0, 1) := by decide +kernel
theorem dX4_reachedFrom_1 : decode cX4_reachedFrom 1 = .ok (.istore_n 2, 1) := by decide +kernel
theorem dX4_reachedFrom_2 : decode cX4_reachedFrom 2 = .ok (.iconst 0, 1) := by decide +kernel
theorem dX4_reachedFrom_3 : decode cX4_reachedFrom 3 = .ok (.istore_n 3, 1) := by decide +kernel
theorem dX4_reachedFrom_4 : decode cX4_reachedFrom 4 = .ok (.iload_n 3, 1) := by decide +kernel
theorem dX4_reachedFrom_5 : decode cX4_reachedFrom 5 = .ok (.aload_n 0, 1) := by decide +kernel
theorem dX4_reachedFrom_6 : decode cX4_reachedFrom 6 = .ok (.getfield 31, 3) := by decide +kernel
theorem dX4_reachedFrom_9 : decode cX4_reachedFrom 9 = .ok (.if_icmp .ge 26, 3) := by decide +kernel
theorem dX4_reachedFrom_12 : decode cX4_reachedFrom 12 = .ok (.iload_n 1, 1) := by decide +kernel
theorem dX4_reachedFrom_13 : decode cX4_reachedFrom 13 = .ok (.iload_n 3, 1) := by decide +kernel
theorem dX4_reachedFrom_14 : decode cX4_reachedFrom 14 = .ok (.ishr, 1) := by decide +kernel
theorem dX4_reachedFrom_15 : decode cX4_reachedFrom 15 = .ok (.iconst 1, 1) := by decide +kernel
theorem dX4_reachedFrom_16 : decode cX4_reachedFrom 16 = .ok (.iand, 1) := by decide +kernel
theorem dX4_reachedFrom_17 : decode cX4_reachedFrom 17 = .ok (.iconst 1, 1) := by decide +kernel
theorem dX4_reachedFrom_18 : decode cX4_reachedFrom 18 = .ok (.if_icmp .ne 11, 3) := by decide +kernel
theorem dX4_reachedFrom_21 : decode cX4_reachedFrom 21 = .ok (.iload_n 2, 1) := by decide +kernel
theorem dX4_reachedFrom_22 : decode cX4_reachedFrom 22 = .ok (.aload_n 0, 1) := by decide +kernel
theorem dX4_reachedFrom_23 : decode cX4_reachedFrom 23 = .ok (.iload_n 3, 1) := by decide +kernel
theorem dX4_reachedFrom_24 : decode cX4_reachedFrom 24 = .ok (.invokevirtual 83, 3) := by decide +kernel
theorem dX4_reachedFrom_27 : decode cX4_reachedFrom 27 = .ok (.ior, 1) := by decide +kernel
theorem dX4_reachedFrom_28 : decode cX4_reachedFrom 28 = .ok (.istore_n 2, 1) := by decide +kernel
theorem dX4_reachedFrom_29 : decode cX4_reachedFrom 29 = .ok (.iinc 3 1, 3) := by decide +kernel
theorem dX4_reachedFrom_32 : decode cX4_reachedFrom 32 = .ok (.goto (-28), 3) := by decide +kernel
theorem dX4_reachedFrom_35 : decode cX4_reachedFrom 35 = .ok (.iload_n 2, 1) := by decide +kernel
theorem dX4_reachedFrom_36 : decode cX4_reachedFrom 36 = .ok (.ireturn, 1) := by decide +kernel
theorem dX4_reachedFromHeads_0 : decode cX4_reachedFromHeads 0 = .ok (.iconst 0, 1) := by decide +kernel
theorem dX4_reachedFromHeads_1 : decode cX4_reachedFromHeads 1 = .ok (.istore_n 1, 1) := by decide +kernel
theorem dX4_reachedFromHeads_2 : decode cX4_reachedFromHeads 2 = .ok (.iconst 0, 1) := by decide +kernel
theorem dX4_reachedFromHeads_3 : decode cX4_reachedFromHeads 3 = .ok (.istore_n 2, 1) := by decide +kernel
theorem dX4_reachedFromHeads_4 : decode cX4_reachedFromHeads 4 = .ok (.iload_n 2, 1) := by decide +kernel
theorem dX4_reachedFromHeads_5 : decode cX4_reachedFromHeads 5 = .ok (.iconst 4, 1) := by decide +kernel
theorem dX4_reachedFromHeads_6 : decode cX4_reachedFromHeads 6 = .ok (.if_icmp .ge 22, 3) := by decide +kernel
theorem dX4_reachedFromHeads_9 : decode cX4_reachedFromHeads 9 = .ok (.iload_n 1, 1) := by decide +kernel
theorem dX4_reachedFromHeads_10 : decode cX4_reachedFromHeads 10 = .ok (.aload_n 0, 1) := by decide +kernel
theorem dX4_reachedFromHeads_11 : decode cX4_reachedFromHeads 11 = .ok (.aload_n 0, 1) := by decide +kernel
theorem dX4_reachedFromHeads_12 : decode cX4_reachedFromHeads 12 = .ok (.getfield 18, 3) := by decide +kernel
theorem dX4_reachedFromHeads_15 : decode cX4_reachedFromHeads 15 = .ok (.iload_n 2, 1) := by decide +kernel
theorem dX4_reachedFromHeads_16 : decode cX4_reachedFromHeads 16 = .ok (.iaload, 1) := by decide +kernel
theorem dX4_reachedFromHeads_17 : decode cX4_reachedFromHeads 17 = .ok (.invokevirtual 83, 3) := by decide +kernel
theorem dX4_reachedFromHeads_20 : decode cX4_reachedFromHeads 20 = .ok (.ior, 1) := by decide +kernel
theorem dX4_reachedFromHeads_21 : decode cX4_reachedFromHeads 21 = .ok (.istore_n 1, 1) := by decide +kernel
theorem dX4_reachedFromHeads_22 : decode cX4_reachedFromHeads 22 = .ok (.iinc 2 1, 3) := by decide +kernel
theorem dX4_reachedFromHeads_25 : decode cX4_reachedFromHeads 25 = .ok (.goto (-21), 3) := by decide +kernel
theorem dX4_reachedFromHeads_28 : decode cX4_reachedFromHeads 28 = .ok (.iload_n 1, 1) := by decide +kernel
theorem dX4_reachedFromHeads_29 : decode cX4_reachedFromHeads 29 = .ok (.ireturn, 1) := by decide +kernel
theorem dX4_parentsOf_0 : decode cX4_parentsOf 0 = .ok (.iconst 0, 1) := by decide +kernel
theorem dX4_parentsOf_1 : decode cX4_parentsOf 1 = .ok (.istore_n 2, 1) := by decide +kernel
theorem dX4_parentsOf_2 : decode cX4_parentsOf 2 = .ok (.iconst 0, 1) := by decide +kernel
theorem dX4_parentsOf_3 : decode cX4_parentsOf 3 = .ok (.istore_n 3, 1) := by decide +kernel
theorem dX4_parentsOf_4 : decode cX4_parentsOf 4 = .ok (.iload_n 3, 1) := by decide +kernel
theorem dX4_parentsOf_5 : decode cX4_parentsOf 5 = .ok (.aload_n 0, 1) := by decide +kernel
theorem dX4_parentsOf_6 : decode cX4_parentsOf 6 = .ok (.getfield 31, 3) := by decide +kernel
theorem dX4_parentsOf_9 : decode cX4_parentsOf 9 = .ok (.if_icmp .ge 52, 3) := by decide +kernel
theorem dX4_parentsOf_12 : decode cX4_parentsOf 12 = .ok (.iload_n 3, 1) := by decide +kernel
theorem dX4_parentsOf_13 : decode cX4_parentsOf 13 = .ok (.bipush 10, 2) := by decide +kernel
theorem dX4_parentsOf_15 : decode cX4_parentsOf 15 = .ok (.if_icmp .ge 46, 3) := by decide +kernel
theorem dX4_parentsOf_18 : decode cX4_parentsOf 18 = .ok (.iload_n 1, 1) := by decide +kernel
theorem dX4_parentsOf_19 : decode cX4_parentsOf 19 = .ok (.iload_n 3, 1) := by decide +kernel
theorem dX4_parentsOf_20 : decode cX4_parentsOf 20 = .ok (.ishr, 1) := by decide +kernel
theorem dX4_parentsOf_21 : decode cX4_parentsOf 21 = .ok (.iconst 1, 1) := by decide +kernel
theorem dX4_parentsOf_22 : decode cX4_parentsOf 22 = .ok (.iand, 1) := by decide +kernel
theorem dX4_parentsOf_23 : decode cX4_parentsOf 23 = .ok (.iconst 1, 1) := by decide +kernel
theorem dX4_parentsOf_24 : decode cX4_parentsOf 24 = .ok (.if_icmp .ne 31, 3) := by decide +kernel
theorem dX4_parentsOf_27 : decode cX4_parentsOf 27 = .ok (.iload_n 2, 1) := by decide +kernel
theorem dX4_parentsOf_28 : decode cX4_parentsOf 28 = .ok (.aload_n 0, 1) := by decide +kernel
theorem dX4_parentsOf_29 : decode cX4_parentsOf 29 = .ok (.getfield 11, 3) := by decide +kernel
theorem dX4_parentsOf_32 : decode cX4_parentsOf 32 = .ok (.iload_n 3, 1) := by decide +kernel
theorem dX4_parentsOf_33 : decode cX4_parentsOf 33 = .ok (.aaload, 1) := by decide +kernel
theorem dX4_parentsOf_34 : decode cX4_parentsOf 34 = .ok (.getfield 67, 3) := by decide +kernel
theorem dX4_parentsOf_37 : decode cX4_parentsOf 37 = .ok (.invokestatic 145, 3) := by decide +kernel
theorem dX4_parentsOf_40 : decode cX4_parentsOf 40 = .ok (.aload_n 0, 1) := by decide +kernel
theorem dX4_parentsOf_41 : decode cX4_parentsOf 41 = .ok (.getfield 11, 3) := by decide +kernel
theorem dX4_parentsOf_44 : decode cX4_parentsOf 44 = .ok (.iload_n 3, 1) := by decide +kernel
theorem dX4_parentsOf_45 : decode cX4_parentsOf 45 = .ok (.aaload, 1) := by decide +kernel
theorem dX4_parentsOf_46 : decode cX4_parentsOf 46 = .ok (.getfield 70, 3) := by decide +kernel
theorem dX4_parentsOf_49 : decode cX4_parentsOf 49 = .ok (.invokestatic 145, 3) := by decide +kernel
theorem dX4_parentsOf_52 : decode cX4_parentsOf 52 = .ok (.ior, 1) := by decide +kernel
theorem dX4_parentsOf_53 : decode cX4_parentsOf 53 = .ok (.ior, 1) := by decide +kernel
theorem dX4_parentsOf_54 : decode cX4_parentsOf 54 = .ok (.istore_n 2, 1) := by decide +kernel
theorem dX4_parentsOf_55 : decode cX4_parentsOf 55 = .ok (.iinc 3 1, 3) := by decide +kernel
theorem dX4_parentsOf_58 : decode cX4_parentsOf 58 = .ok (.goto (-54), 3) := by decide +kernel
theorem dX4_parentsOf_61 : decode cX4_parentsOf 61 = .ok (.iload_n 2, 1) := by decide +kernel
theorem dX4_parentsOf_62 : decode cX4_parentsOf 62 = .ok (.ireturn, 1) := by decide +kernel
theorem dX4_bitOf_0 : decode cX4_bitOf 0 = .ok (.iload_n 0, 1) := by decide +kernel
theorem dX4_bitOf_1 : decode cX4_bitOf 1 = .ok (.iconst (-1), 1) := by decide +kernel
theorem dX4_bitOf_2 : decode cX4_bitOf 2 = .ok (.if_icmp .ne 7, 3) := by decide +kernel
theorem dX4_bitOf_5 : decode cX4_bitOf 5 = .ok (.iconst 0, 1) := by decide +kernel
theorem dX4_bitOf_6 : decode cX4_bitOf 6 = .ok (.goto 6, 3) := by decide +kernel
theorem dX4_bitOf_9 : decode cX4_bitOf 9 = .ok (.iconst 1, 1) := by decide +kernel
theorem dX4_bitOf_10 : decode cX4_bitOf 10 = .ok (.iload_n 0, 1) := by decide +kernel
theorem dX4_bitOf_11 : decode cX4_bitOf 11 = .ok (.ishl, 1) := by decide +kernel
theorem dX4_bitOf_12 : decode cX4_bitOf 12 = .ok (.ireturn, 1) := by decide +kernel
theorem dX4_neededBy_0 : decode cX4_neededBy 0 = .ok (.iconst 0, 1) := by decide +kernel
theorem dX4_neededBy_1 : decode cX4_neededBy 1 = .ok (.istore_n 2, 1) := by decide +kernel
theorem dX4_neededBy_2 : decode cX4_neededBy 2 = .ok (.iload_n 1, 1) := by decide +kernel
theorem dX4_neededBy_3 : decode cX4_neededBy 3 = .ok (.istore_n 3, 1) := by decide +kernel
theorem dX4_neededBy_4 : decode cX4_neededBy 4 = .ok (.iconst 0, 1) := by decide +kernel
theorem dX4_neededBy_5 : decode cX4_neededBy 5 = .ok (.istore 4, 2) := by decide +kernel
theorem dX4_neededBy_7 : decode cX4_neededBy 7 = .ok (.iload 4, 2) := by decide +kernel
theorem dX4_neededBy_9 : decode cX4_neededBy 9 = .ok (.bipush 10, 2) := by decide +kernel
theorem dX4_neededBy_11 : decode cX4_neededBy 11 = .ok (.if_icmp .ge 33, 3) := by decide +kernel
theorem dX4_neededBy_14 : decode cX4_neededBy 14 = .ok (.aload_n 0, 1) := by decide +kernel
theorem dX4_neededBy_15 : decode cX4_neededBy 15 = .ok (.iload_n 3, 1) := by decide +kernel
theorem dX4_neededBy_16 : decode cX4_neededBy 16 = .ok (.invokevirtual 57, 3) := by decide +kernel
theorem dX4_neededBy_19 : decode cX4_neededBy 19 = .ok (.ifCond .eq 25, 3) := by decide +kernel
theorem dX4_neededBy_22 : decode cX4_neededBy 22 = .ok (.iload_n 2, 1) := by decide +kernel
theorem dX4_neededBy_23 : decode cX4_neededBy 23 = .ok (.iconst 1, 1) := by decide +kernel
theorem dX4_neededBy_24 : decode cX4_neededBy 24 = .ok (.iload_n 3, 1) := by decide +kernel
theorem dX4_neededBy_25 : decode cX4_neededBy 25 = .ok (.ishl, 1) := by decide +kernel
theorem dX4_neededBy_26 : decode cX4_neededBy 26 = .ok (.ior, 1) := by decide +kernel
theorem dX4_neededBy_27 : decode cX4_neededBy 27 = .ok (.istore_n 2, 1) := by decide +kernel
theorem dX4_neededBy_28 : decode cX4_neededBy 28 = .ok (.aload_n 0, 1) := by decide +kernel
theorem dX4_neededBy_29 : decode cX4_neededBy 29 = .ok (.getfield 11, 3) := by decide +kernel
theorem dX4_neededBy_32 : decode cX4_neededBy 32 = .ok (.iload_n 3, 1) := by decide +kernel
theorem dX4_neededBy_33 : decode cX4_neededBy 33 = .ok (.aaload, 1) := by decide +kernel
theorem dX4_neededBy_34 : decode cX4_neededBy 34 = .ok (.getfield 90, 3) := by decide +kernel
theorem dX4_neededBy_37 : decode cX4_neededBy 37 = .ok (.istore_n 3, 1) := by decide +kernel
theorem dX4_neededBy_38 : decode cX4_neededBy 38 = .ok (.iinc 4 1, 3) := by decide +kernel
theorem dX4_neededBy_41 : decode cX4_neededBy 41 = .ok (.goto (-34), 3) := by decide +kernel
theorem dX4_neededBy_44 : decode cX4_neededBy 44 = .ok (.iload_n 2, 1) := by decide +kernel
theorem dX4_neededBy_45 : decode cX4_neededBy 45 = .ok (.ireturn, 1) := by decide +kernel
theorem dX4_depthOf_0 : decode cX4_depthOf 0 = .ok (.aload_n 0, 1) := by decide +kernel
theorem dX4_depthOf_1 : decode cX4_depthOf 1 = .ok (.iload_n 1, 1) := by decide +kernel
theorem dX4_depthOf_2 : decode cX4_depthOf 2 = .ok (.invokevirtual 148, 3) := by decide +kernel
theorem dX4_depthOf_5 : decode cX4_depthOf 5 = .ok (.invokestatic 140, 3) := by decide +kernel
theorem dX4_depthOf_8 : decode cX4_depthOf 8 = .ok (.iconst 1, 1) := by decide +kernel
theorem dX4_depthOf_9 : decode cX4_depthOf 9 = .ok (.isub, 1) := by decide +kernel
theorem dX4_depthOf_10 : decode cX4_depthOf 10 = .ok (.ireturn, 1) := by decide +kernel
theorem dX4_greatestDepth_0 : decode cX4_greatestDepth 0 = .ok (.iconst 0, 1) := by decide +kernel
theorem dX4_greatestDepth_1 : decode cX4_greatestDepth 1 = .ok (.istore_n 1, 1) := by decide +kernel
theorem dX4_greatestDepth_2 : decode cX4_greatestDepth 2 = .ok (.iconst 0, 1) := by decide +kernel
theorem dX4_greatestDepth_3 : decode cX4_greatestDepth 3 = .ok (.istore_n 2, 1) := by decide +kernel
theorem dX4_greatestDepth_4 : decode cX4_greatestDepth 4 = .ok (.iload_n 2, 1) := by decide +kernel
theorem dX4_greatestDepth_5 : decode cX4_greatestDepth 5 = .ok (.aload_n 0, 1) := by decide +kernel
theorem dX4_greatestDepth_6 : decode cX4_greatestDepth 6 = .ok (.getfield 31, 3) := by decide +kernel
theorem dX4_greatestDepth_9 : decode cX4_greatestDepth 9 = .ok (.if_icmp .ge 27, 3) := by decide +kernel
theorem dX4_greatestDepth_12 : decode cX4_greatestDepth 12 = .ok (.aload_n 0, 1) := by decide +kernel
theorem dX4_greatestDepth_13 : decode cX4_greatestDepth 13 = .ok (.iload_n 2, 1) := by decide +kernel
theorem dX4_greatestDepth_14 : decode cX4_greatestDepth 14 = .ok (.invokevirtual 57, 3) := by decide +kernel
theorem dX4_greatestDepth_17 : decode cX4_greatestDepth 17 = .ok (.ifCond .eq 13, 3) := by decide +kernel
theorem dX4_greatestDepth_20 : decode cX4_greatestDepth 20 = .ok (.iload_n 1, 1) := by decide +kernel
theorem dX4_greatestDepth_21 : decode cX4_greatestDepth 21 = .ok (.aload_n 0, 1) := by decide +kernel
theorem dX4_greatestDepth_22 : decode cX4_greatestDepth 22 = .ok (.iload_n 2, 1) := by decide +kernel
theorem dX4_greatestDepth_23 : decode cX4_greatestDepth 23 = .ok (.invokevirtual 110, 3) := by decide +kernel
theorem dX4_greatestDepth_26 : decode cX4_greatestDepth 26 = .ok (.invokestatic 151, 3) := by decide +kernel
theorem dX4_greatestDepth_29 : decode cX4_greatestDepth 29 = .ok (.istore_n 1, 1) := by decide +kernel
theorem dX4_greatestDepth_30 : decode cX4_greatestDepth 30 = .ok (.iinc 2 1, 3) := by decide +kernel
theorem dX4_greatestDepth_33 : decode cX4_greatestDepth 33 = .ok (.goto (-29), 3) := by decide +kernel
theorem dX4_greatestDepth_36 : decode cX4_greatestDepth 36 = .ok (.iload_n 1, 1) := by decide +kernel
theorem dX4_greatestDepth_37 : decode cX4_greatestDepth 37 = .ok (.ireturn, 1) := by decide +kernel
theorem dX4_costOfAll_0 : decode cX4_costOfAll 0 = .ok (.iconst 0, 1) := by decide +kernel
theorem dX4_costOfAll_1 : decode cX4_costOfAll 1 = .ok (.istore_n 1, 1) := by decide +kernel
theorem dX4_costOfAll_2 : decode cX4_costOfAll 2 = .ok (.iconst 0, 1) := by decide +kernel
theorem dX4_costOfAll_3 : decode cX4_costOfAll 3 = .ok (.istore_n 2, 1) := by decide +kernel
theorem dX4_costOfAll_4 : decode cX4_costOfAll 4 = .ok (.iload_n 2, 1) := by decide +kernel
theorem dX4_costOfAll_5 : decode cX4_costOfAll 5 = .ok (.aload_n 0, 1) := by decide +kernel
theorem dX4_costOfAll_6 : decode cX4_costOfAll 6 = .ok (.getfield 31, 3) := by decide +kernel
theorem dX4_costOfAll_9 : decode cX4_costOfAll 9 = .ok (.if_icmp .ge 29, 3) := by decide +kernel
theorem dX4_costOfAll_12 : decode cX4_costOfAll 12 = .ok (.aload_n 0, 1) := by decide +kernel
theorem dX4_costOfAll_13 : decode cX4_costOfAll 13 = .ok (.iload_n 2, 1) := by decide +kernel
theorem dX4_costOfAll_14 : decode cX4_costOfAll 14 = .ok (.invokevirtual 57, 3) := by decide +kernel
theorem dX4_costOfAll_17 : decode cX4_costOfAll 17 = .ok (.ifCond .eq 15, 3) := by decide +kernel
theorem dX4_costOfAll_20 : decode cX4_costOfAll 20 = .ok (.iload_n 1, 1) := by decide +kernel
theorem dX4_costOfAll_21 : decode cX4_costOfAll 21 = .ok (.aload_n 0, 1) := by decide +kernel
theorem dX4_costOfAll_22 : decode cX4_costOfAll 22 = .ok (.getfield 11, 3) := by decide +kernel
theorem dX4_costOfAll_25 : decode cX4_costOfAll 25 = .ok (.iload_n 2, 1) := by decide +kernel
theorem dX4_costOfAll_26 : decode cX4_costOfAll 26 = .ok (.aaload, 1) := by decide +kernel
theorem dX4_costOfAll_27 : decode cX4_costOfAll 27 = .ok (.invokevirtual 157, 3) := by decide +kernel
