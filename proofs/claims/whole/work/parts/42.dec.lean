/-! Decode rows. -/
theorem d_G_init_0 : decode b_G_init 0 = .ok (.aload_n 0, 1) := by decide +kernel
theorem d_G_init_1 : decode b_G_init 1 = .ok (.invokespecial 3, 3) := by decide +kernel
theorem d_G_init_4 : decode b_G_init 4 = .ok (.aload_n 0, 1) := by decide +kernel
theorem d_G_init_5 : decode b_G_init 5 = .ok (.bipush 90, 2) := by decide +kernel
theorem d_G_init_7 : decode b_G_init 7 = .ok (.newarray .int, 2) := by decide +kernel
theorem d_G_init_9 : decode b_G_init 9 = .ok (.putfield 9, 3) := by decide +kernel
theorem d_G_init_12 : decode b_G_init 12 = .ok (.aload_n 0, 1) := by decide +kernel
theorem d_G_init_13 : decode b_G_init 13 = .ok (.bipush 90, 2) := by decide +kernel
theorem d_G_init_15 : decode b_G_init 15 = .ok (.newarray .int, 2) := by decide +kernel
theorem d_G_init_17 : decode b_G_init 17 = .ok (.putfield 13, 3) := by decide +kernel
theorem d_G_init_20 : decode b_G_init 20 = .ok (.aload_n 0, 1) := by decide +kernel
theorem d_G_init_21 : decode b_G_init 21 = .ok (.bipush 90, 2) := by decide +kernel
theorem d_G_init_23 : decode b_G_init 23 = .ok (.newarray .int, 2) := by decide +kernel
theorem d_G_init_25 : decode b_G_init 25 = .ok (.putfield 16, 3) := by decide +kernel
theorem d_G_init_28 : decode b_G_init 28 = .ok (.aload_n 0, 1) := by decide +kernel
theorem d_G_init_29 : decode b_G_init 29 = .ok (.bipush 90, 2) := by decide +kernel
theorem d_G_init_31 : decode b_G_init 31 = .ok (.newarray .boolean, 2) := by decide +kernel
theorem d_G_init_33 : decode b_G_init 33 = .ok (.putfield 19, 3) := by decide +kernel
theorem d_G_init_36 : decode b_G_init 36 = .ok (.aload_n 0, 1) := by decide +kernel
theorem d_G_init_37 : decode b_G_init 37 = .ok (.iconst 0, 1) := by decide +kernel
theorem d_G_init_38 : decode b_G_init 38 = .ok (.putfield 23, 3) := by decide +kernel
theorem d_G_init_41 : decode b_G_init 41 = .ok (.aload_n 0, 1) := by decide +kernel
theorem d_G_init_42 : decode b_G_init 42 = .ok (.bipush 28, 2) := by decide +kernel
theorem d_G_init_44 : decode b_G_init 44 = .ok (.newarray .int, 2) := by decide +kernel
theorem d_G_init_46 : decode b_G_init 46 = .ok (.putfield 27, 3) := by decide +kernel
theorem d_G_init_49 : decode b_G_init 49 = .ok (.aload_n 0, 1) := by decide +kernel
theorem d_G_init_50 : decode b_G_init 50 = .ok (.bipush 90, 2) := by decide +kernel
theorem d_G_init_52 : decode b_G_init 52 = .ok (.newarray .int, 2) := by decide +kernel
theorem d_G_init_54 : decode b_G_init 54 = .ok (.putfield 30, 3) := by decide +kernel
theorem d_G_init_57 : decode b_G_init 57 = .ok (.aload_n 0, 1) := by decide +kernel
theorem d_G_init_58 : decode b_G_init 58 = .ok (.bipush 28, 2) := by decide +kernel
theorem d_G_init_60 : decode b_G_init 60 = .ok (.newarray .int, 2) := by decide +kernel
theorem d_G_init_62 : decode b_G_init 62 = .ok (.putfield 33, 3) := by decide +kernel
theorem d_G_init_65 : decode b_G_init 65 = .ok (.return_, 1) := by decide +kernel
theorem d_G_clear_0 : decode b_G_clear 0 = .ok (.aload_n 0, 1) := by decide +kernel
theorem d_G_clear_1 : decode b_G_clear 1 = .ok (.iconst 0, 1) := by decide +kernel
theorem d_G_clear_2 : decode b_G_clear 2 = .ok (.putfield 23, 3) := by decide +kernel
theorem d_G_clear_5 : decode b_G_clear 5 = .ok (.return_, 1) := by decide +kernel
theorem d_G_rule_0 : decode b_G_rule 0 = .ok (.iload_n 1, 1) := by decide +kernel
theorem d_G_rule_1 : decode b_G_rule 1 = .ok (.iload_n 2, 1) := by decide +kernel
theorem d_G_rule_2 : decode b_G_rule 2 = .ok (.invokestatic 36, 3) := by decide +kernel
theorem d_G_rule_5 : decode b_G_rule 5 = .ok (.iload_n 3, 1) := by decide +kernel
theorem d_G_rule_6 : decode b_G_rule 6 = .ok (.iconst 1, 1) := by decide +kernel
theorem d_G_rule_7 : decode b_G_rule 7 = .ok (.if_icmp .lt 9, 3) := by decide +kernel
theorem d_G_rule_10 : decode b_G_rule 10 = .ok (.iload_n 3, 1) := by decide +kernel
theorem d_G_rule_11 : decode b_G_rule 11 = .ok (.bipush 9, 2) := by decide +kernel
theorem d_G_rule_13 : decode b_G_rule 13 = .ok (.if_icmp .le 13, 3) := by decide +kernel
theorem d_G_rule_16 : decode b_G_rule 16 = .ok (.new 40, 3) := by decide +kernel
theorem d_G_rule_19 : decode b_G_rule 19 = .ok (.dup, 1) := by decide +kernel
theorem d_G_rule_20 : decode b_G_rule 20 = .ok (.ldc 42, 2) := by decide +kernel
theorem d_G_rule_22 : decode b_G_rule 22 = .ok (.invokespecial 44, 3) := by decide +kernel
theorem d_G_rule_25 : decode b_G_rule 25 = .ok (.athrow, 1) := by decide +kernel
theorem d_G_rule_26 : decode b_G_rule 26 = .ok (.aload_n 0, 1) := by decide +kernel
theorem d_G_rule_27 : decode b_G_rule 27 = .ok (.getfield 23, 3) := by decide +kernel
theorem d_G_rule_30 : decode b_G_rule 30 = .ok (.bipush 90, 2) := by decide +kernel
theorem d_G_rule_32 : decode b_G_rule 32 = .ok (.if_icmp .lt 13, 3) := by decide +kernel
theorem d_G_rule_35 : decode b_G_rule 35 = .ok (.new 47, 3) := by decide +kernel
theorem d_G_rule_38 : decode b_G_rule 38 = .ok (.dup, 1) := by decide +kernel
theorem d_G_rule_39 : decode b_G_rule 39 = .ok (.ldc 49, 2) := by decide +kernel
theorem d_G_rule_41 : decode b_G_rule 41 = .ok (.invokespecial 51, 3) := by decide +kernel
theorem d_G_rule_44 : decode b_G_rule 44 = .ok (.athrow, 1) := by decide +kernel
theorem d_G_rule_45 : decode b_G_rule 45 = .ok (.aload_n 0, 1) := by decide +kernel
theorem d_G_rule_46 : decode b_G_rule 46 = .ok (.getfield 23, 3) := by decide +kernel
theorem d_G_rule_49 : decode b_G_rule 49 = .ok (.istore 4, 2) := by decide +kernel
theorem d_G_rule_51 : decode b_G_rule 51 = .ok (.aload_n 0, 1) := by decide +kernel
theorem d_G_rule_52 : decode b_G_rule 52 = .ok (.getfield 9, 3) := by decide +kernel
theorem d_G_rule_55 : decode b_G_rule 55 = .ok (.iload 4, 2) := by decide +kernel
theorem d_G_rule_57 : decode b_G_rule 57 = .ok (.iload_n 1, 1) := by decide +kernel
theorem d_G_rule_58 : decode b_G_rule 58 = .ok (.iastore, 1) := by decide +kernel
theorem d_G_rule_59 : decode b_G_rule 59 = .ok (.aload_n 0, 1) := by decide +kernel
theorem d_G_rule_60 : decode b_G_rule 60 = .ok (.getfield 13, 3) := by decide +kernel
theorem d_G_rule_63 : decode b_G_rule 63 = .ok (.iload 4, 2) := by decide +kernel
theorem d_G_rule_65 : decode b_G_rule 65 = .ok (.iload_n 2, 1) := by decide +kernel
theorem d_G_rule_66 : decode b_G_rule 66 = .ok (.iastore, 1) := by decide +kernel
theorem d_G_rule_67 : decode b_G_rule 67 = .ok (.aload_n 0, 1) := by decide +kernel
theorem d_G_rule_68 : decode b_G_rule 68 = .ok (.getfield 16, 3) := by decide +kernel
theorem d_G_rule_71 : decode b_G_rule 71 = .ok (.iload 4, 2) := by decide +kernel
theorem d_G_rule_73 : decode b_G_rule 73 = .ok (.iload_n 3, 1) := by decide +kernel
theorem d_G_rule_74 : decode b_G_rule 74 = .ok (.iastore, 1) := by decide +kernel
theorem d_G_rule_75 : decode b_G_rule 75 = .ok (.aload_n 0, 1) := by decide +kernel
theorem d_G_rule_76 : decode b_G_rule 76 = .ok (.getfield 19, 3) := by decide +kernel
theorem d_G_rule_79 : decode b_G_rule 79 = .ok (.iload 4, 2) := by decide +kernel
theorem d_G_rule_81 : decode b_G_rule 81 = .ok (.iconst 1, 1) := by decide +kernel
theorem d_G_rule_82 : decode b_G_rule 82 = .ok (.bastore, 1) := by decide +kernel
theorem d_G_rule_83 : decode b_G_rule 83 = .ok (.aload_n 0, 1) := by decide +kernel
theorem d_G_rule_84 : decode b_G_rule 84 = .ok (.iload 4, 2) := by decide +kernel
theorem d_G_rule_86 : decode b_G_rule 86 = .ok (.iconst 1, 1) := by decide +kernel
theorem d_G_rule_87 : decode b_G_rule 87 = .ok (.iadd, 1) := by decide +kernel
theorem d_G_rule_88 : decode b_G_rule 88 = .ok (.putfield 23, 3) := by decide +kernel
theorem d_G_rule_91 : decode b_G_rule 91 = .ok (.iload 4, 2) := by decide +kernel
theorem d_G_rule_93 : decode b_G_rule 93 = .ok (.ireturn, 1) := by decide +kernel
theorem d_G_turn_0 : decode b_G_turn 0 = .ok (.iload_n 1, 1) := by decide +kernel
theorem d_G_turn_1 : decode b_G_turn 1 = .ok (.ifCond .lt 11, 3) := by decide +kernel
theorem d_G_turn_4 : decode b_G_turn 4 = .ok (.iload_n 1, 1) := by decide +kernel
theorem d_G_turn_5 : decode b_G_turn 5 = .ok (.aload_n 0, 1) := by decide +kernel
theorem d_G_turn_6 : decode b_G_turn 6 = .ok (.getfield 23, 3) := by decide +kernel
theorem d_G_turn_9 : decode b_G_turn 9 = .ok (.if_icmp .lt 13, 3) := by decide +kernel
theorem d_G_turn_12 : decode b_G_turn 12 = .ok (.new 52, 3) := by decide +kernel
theorem d_G_turn_15 : decode b_G_turn 15 = .ok (.dup, 1) := by decide +kernel
theorem d_G_turn_16 : decode b_G_turn 16 = .ok (.ldc 54, 2) := by decide +kernel
theorem d_G_turn_18 : decode b_G_turn 18 = .ok (.invokespecial 56, 3) := by decide +kernel
theorem d_G_turn_21 : decode b_G_turn 21 = .ok (.athrow, 1) := by decide +kernel
theorem d_G_turn_22 : decode b_G_turn 22 = .ok (.aload_n 0, 1) := by decide +kernel
theorem d_G_turn_23 : decode b_G_turn 23 = .ok (.getfield 19, 3) := by decide +kernel
theorem d_G_turn_26 : decode b_G_turn 26 = .ok (.iload_n 1, 1) := by decide +kernel
theorem d_G_turn_27 : decode b_G_turn 27 = .ok (.baload, 1) := by decide +kernel
theorem d_G_turn_28 : decode b_G_turn 28 = .ok (.iload_n 2, 1) := by decide +kernel
theorem d_G_turn_29 : decode b_G_turn 29 = .ok (.if_icmp .ne 7, 3) := by decide +kernel
theorem d_G_turn_32 : decode b_G_turn 32 = .ok (.iconst 1, 1) := by decide +kernel
theorem d_G_turn_33 : decode b_G_turn 33 = .ok (.goto 4, 3) := by decide +kernel
theorem d_G_turn_36 : decode b_G_turn 36 = .ok (.iconst 0, 1) := by decide +kernel
theorem d_G_turn_37 : decode b_G_turn 37 = .ok (.istore_n 3, 1) := by decide +kernel
theorem d_G_turn_38 : decode b_G_turn 38 = .ok (.aload_n 0, 1) := by decide +kernel
theorem d_G_turn_39 : decode b_G_turn 39 = .ok (.getfield 19, 3) := by decide +kernel
theorem d_G_turn_42 : decode b_G_turn 42 = .ok (.iload_n 1, 1) := by decide +kernel
theorem d_G_turn_43 : decode b_G_turn 43 = .ok (.iload_n 2, 1) := by decide +kernel
theorem d_G_turn_44 : decode b_G_turn 44 = .ok (.bastore, 1) := by decide +kernel
theorem d_G_turn_45 : decode b_G_turn 45 = .ok (.iload_n 3, 1) := by decide +kernel
theorem d_G_turn_46 : decode b_G_turn 46 = .ok (.ireturn, 1) := by decide +kernel
theorem d_G_length_0 : decode b_G_length 0 = .ok (.iload_n 1, 1) := by decide +kernel
theorem d_G_length_1 : decode b_G_length 1 = .ok (.iload_n 2, 1) := by decide +kernel
theorem d_G_length_2 : decode b_G_length 2 = .ok (.invokestatic 57, 3) := by decide +kernel
theorem d_G_length_5 : decode b_G_length 5 = .ok (.aload_n 0, 1) := by decide +kernel
theorem d_G_length_6 : decode b_G_length 6 = .ok (.iload_n 2, 1) := by decide +kernel
theorem d_G_length_7 : decode b_G_length 7 = .ok (.invokevirtual 60, 3) := by decide +kernel
theorem d_G_length_10 : decode b_G_length 10 = .ok (.aload_n 0, 1) := by decide +kernel
theorem d_G_length_11 : decode b_G_length 11 = .ok (.getfield 27, 3) := by decide +kernel
theorem d_G_length_14 : decode b_G_length 14 = .ok (.iload_n 1, 1) := by decide +kernel
theorem d_G_length_15 : decode b_G_length 15 = .ok (.iaload, 1) := by decide +kernel
theorem d_G_length_16 : decode b_G_length 16 = .ok (.ireturn, 1) := by decide +kernel
theorem d_G_step_0 : decode b_G_step 0 = .ok (.iload_n 1, 1) := by decide +kernel
theorem d_G_step_1 : decode b_G_step 1 = .ok (.iload_n 2, 1) := by decide +kernel
theorem d_G_step_2 : decode b_G_step 2 = .ok (.invokestatic 57, 3) := by decide +kernel
theorem d_G_step_5 : decode b_G_step 5 = .ok (.aload_n 0, 1) := by decide +kernel
theorem d_G_step_6 : decode b_G_step 6 = .ok (.iload_n 2, 1) := by decide +kernel
theorem d_G_step_7 : decode b_G_step 7 = .ok (.invokevirtual 60, 3) := by decide +kernel
theorem d_G_step_10 : decode b_G_step 10 = .ok (.iload_n 3, 1) := by decide +kernel
theorem d_G_step_11 : decode b_G_step 11 = .ok (.ifCond .lt 13, 3) := by decide +kernel
theorem d_G_step_14 : decode b_G_step 14 = .ok (.iload_n 3, 1) := by decide +kernel
theorem d_G_step_15 : decode b_G_step 15 = .ok (.aload_n 0, 1) := by decide +kernel
theorem d_G_step_16 : decode b_G_step 16 = .ok (.getfield 27, 3) := by decide +kernel
theorem d_G_step_19 : decode b_G_step 19 = .ok (.iload_n 1, 1) := by decide +kernel
theorem d_G_step_20 : decode b_G_step 20 = .ok (.iaload, 1) := by decide +kernel
theorem d_G_step_21 : decode b_G_step 21 = .ok (.if_icmp .lt 13, 3) := by decide +kernel
theorem d_G_step_24 : decode b_G_step 24 = .ok (.new 52, 3) := by decide +kernel
theorem d_G_step_27 : decode b_G_step 27 = .ok (.dup, 1) := by decide +kernel
theorem d_G_step_28 : decode b_G_step 28 = .ok (.ldc 64, 2) := by decide +kernel
theorem d_G_step_30 : decode b_G_step 30 = .ok (.invokespecial 56, 3) := by decide +kernel
theorem d_G_step_33 : decode b_G_step 33 = .ok (.athrow, 1) := by decide +kernel
theorem d_G_step_34 : decode b_G_step 34 = .ok (.aload_n 0, 1) := by decide +kernel
theorem d_G_step_35 : decode b_G_step 35 = .ok (.iload_n 1, 1) := by decide +kernel
theorem d_G_step_36 : decode b_G_step 36 = .ok (.iload_n 3, 1) := by decide +kernel
theorem d_G_step_37 : decode b_G_step 37 = .ok (.invokevirtual 66, 3) := by decide +kernel
theorem d_G_step_40 : decode b_G_step 40 = .ok (.ireturn, 1) := by decide +kernel
theorem d_G_passed_0 : decode b_G_passed 0 = .ok (.iload_n 1, 1) := by decide +kernel
theorem d_G_passed_1 : decode b_G_passed 1 = .ok (.iload_n 2, 1) := by decide +kernel
theorem d_G_passed_2 : decode b_G_passed 2 = .ok (.invokestatic 57, 3) := by decide +kernel
theorem d_G_passed_5 : decode b_G_passed 5 = .ok (.aload_n 0, 1) := by decide +kernel
theorem d_G_passed_6 : decode b_G_passed 6 = .ok (.aload_n 0, 1) := by decide +kernel
theorem d_G_passed_7 : decode b_G_passed 7 = .ok (.getfield 9, 3) := by decide +kernel
theorem d_G_passed_10 : decode b_G_passed 10 = .ok (.aload_n 0, 1) := by decide +kernel
theorem d_G_passed_11 : decode b_G_passed 11 = .ok (.getfield 13, 3) := by decide +kernel
theorem d_G_passed_14 : decode b_G_passed 14 = .ok (.iload_n 1, 1) := by decide +kernel
theorem d_G_passed_15 : decode b_G_passed 15 = .ok (.iconst 0, 1) := by decide +kernel
theorem d_G_passed_16 : decode b_G_passed 16 = .ok (.invokevirtual 70, 3) := by decide +kernel
theorem d_G_passed_19 : decode b_G_passed 19 = .ok (.istore_n 3, 1) := by decide +kernel
theorem d_G_passed_20 : decode b_G_passed 20 = .ok (.iload_n 3, 1) := by decide +kernel
theorem d_G_passed_21 : decode b_G_passed 21 = .ok (.iload_n 2, 1) := by decide +kernel
theorem d_G_passed_22 : decode b_G_passed 22 = .ok (.invokestatic 74, 3) := by decide +kernel
theorem d_G_passed_25 : decode b_G_passed 25 = .ok (.ifCond .ne 5, 3) := by decide +kernel
theorem d_G_passed_28 : decode b_G_passed 28 = .ok (.iconst 0, 1) := by decide +kernel
theorem d_G_passed_29 : decode b_G_passed 29 = .ok (.ireturn, 1) := by decide +kernel
theorem d_G_passed_30 : decode b_G_passed 30 = .ok (.iconst 0, 1) := by decide +kernel
theorem d_G_passed_31 : decode b_G_passed 31 = .ok (.istore 4, 2) := by decide +kernel
theorem d_G_passed_33 : decode b_G_passed 33 = .ok (.iconst 0, 1) := by decide +kernel
theorem d_G_passed_34 : decode b_G_passed 34 = .ok (.istore 5, 2) := by decide +kernel
theorem d_G_passed_36 : decode b_G_passed 36 = .ok (.iload 5, 2) := by decide +kernel
theorem d_G_passed_38 : decode b_G_passed 38 = .ok (.bipush 28, 2) := by decide +kernel
theorem d_G_passed_40 : decode b_G_passed 40 = .ok (.if_icmp .ge 77, 3) := by decide +kernel
theorem d_G_passed_43 : decode b_G_passed 43 = .ok (.iload 5, 2) := by decide +kernel
theorem d_G_passed_45 : decode b_G_passed 45 = .ok (.iload_n 1, 1) := by decide +kernel
theorem d_G_passed_46 : decode b_G_passed 46 = .ok (.if_icmp .eq 22, 3) := by decide +kernel
theorem d_G_passed_49 : decode b_G_passed 49 = .ok (.iload 5, 2) := by decide +kernel
theorem d_G_passed_51 : decode b_G_passed 51 = .ok (.iload_n 2, 1) := by decide +kernel
theorem d_G_passed_52 : decode b_G_passed 52 = .ok (.if_icmp .eq 16, 3) := by decide +kernel
theorem d_G_passed_55 : decode b_G_passed 55 = .ok (.iload_n 3, 1) := by decide +kernel
theorem d_G_passed_56 : decode b_G_passed 56 = .ok (.iload 5, 2) := by decide +kernel
theorem d_G_passed_58 : decode b_G_passed 58 = .ok (.invokestatic 74, 3) := by decide +kernel
theorem d_G_passed_61 : decode b_G_passed 61 = .ok (.ifCond .eq 7, 3) := by decide +kernel
theorem d_G_passed_64 : decode b_G_passed 64 = .ok (.iconst 1, 1) := by decide +kernel
theorem d_G_passed_65 : decode b_G_passed 65 = .ok (.goto 4, 3) := by decide +kernel
theorem d_G_passed_68 : decode b_G_passed 68 = .ok (.iconst 0, 1) := by decide +kernel
theorem d_G_passed_69 : decode b_G_passed 69 = .ok (.istore 6, 2) := by decide +kernel
theorem d_G_passed_71 : decode b_G_passed 71 = .ok (.iload 6, 2) := by decide +kernel
theorem d_G_passed_73 : decode b_G_passed 73 = .ok (.ifCond .eq 38, 3) := by decide +kernel
theorem d_G_passed_76 : decode b_G_passed 76 = .ok (.aload_n 0, 1) := by decide +kernel
theorem d_G_passed_77 : decode b_G_passed 77 = .ok (.aload_n 0, 1) := by decide +kernel
theorem d_G_passed_78 : decode b_G_passed 78 = .ok (.getfield 9, 3) := by decide +kernel
theorem d_G_passed_81 : decode b_G_passed 81 = .ok (.aload_n 0, 1) := by decide +kernel
theorem d_G_passed_82 : decode b_G_passed 82 = .ok (.getfield 13, 3) := by decide +kernel
theorem d_G_passed_85 : decode b_G_passed 85 = .ok (.iload_n 1, 1) := by decide +kernel
theorem d_G_passed_86 : decode b_G_passed 86 = .ok (.iload 5, 2) := by decide +kernel
theorem d_G_passed_88 : decode b_G_passed 88 = .ok (.invokestatic 78, 3) := by decide +kernel
theorem d_G_passed_91 : decode b_G_passed 91 = .ok (.invokevirtual 70, 3) := by decide +kernel
theorem d_G_passed_94 : decode b_G_passed 94 = .ok (.iload_n 2, 1) := by decide +kernel
theorem d_G_passed_95 : decode b_G_passed 95 = .ok (.invokestatic 74, 3) := by decide +kernel
theorem d_G_passed_98 : decode b_G_passed 98 = .ok (.ifCond .ne 13, 3) := by decide +kernel
theorem d_G_passed_101 : decode b_G_passed 101 = .ok (.iload 4, 2) := by decide +kernel
theorem d_G_passed_103 : decode b_G_passed 103 = .ok (.iload 5, 2) := by decide +kernel
theorem d_G_passed_105 : decode b_G_passed 105 = .ok (.invokestatic 78, 3) := by decide +kernel
theorem d_G_passed_108 : decode b_G_passed 108 = .ok (.ior, 1) := by decide +kernel
theorem d_G_passed_109 : decode b_G_passed 109 = .ok (.istore 4, 2) := by decide +kernel
theorem d_G_passed_111 : decode b_G_passed 111 = .ok (.iinc 5 1, 3) := by decide +kernel
theorem d_G_passed_114 : decode b_G_passed 114 = .ok (.goto (-78), 3) := by decide +kernel
theorem d_G_passed_117 : decode b_G_passed 117 = .ok (.iload 4, 2) := by decide +kernel
theorem d_G_passed_119 : decode b_G_passed 119 = .ok (.ireturn, 1) := by decide +kernel
theorem d_G_circle_0 : decode b_G_circle 0 = .ok (.iload_n 1, 1) := by decide +kernel
theorem d_G_circle_1 : decode b_G_circle 1 = .ok (.invokestatic 82, 3) := by decide +kernel
theorem d_G_circle_4 : decode b_G_circle 4 = .ok (.aload_n 0, 1) := by decide +kernel
theorem d_G_circle_5 : decode b_G_circle 5 = .ok (.iload_n 1, 1) := by decide +kernel
theorem d_G_circle_6 : decode b_G_circle 6 = .ok (.invokevirtual 85, 3) := by decide +kernel
theorem d_G_circle_9 : decode b_G_circle 9 = .ok (.ireturn, 1) := by decide +kernel
theorem d_G_circles_0 : decode b_G_circles 0 = .ok (.iconst 0, 1) := by decide +kernel
theorem d_G_circles_1 : decode b_G_circles 1 = .ok (.istore_n 1, 1) := by decide +kernel
theorem d_G_circles_2 : decode b_G_circles 2 = .ok (.iconst 0, 1) := by decide +kernel
theorem d_G_circles_3 : decode b_G_circles 3 = .ok (.istore_n 2, 1) := by decide +kernel
theorem d_G_circles_4 : decode b_G_circles 4 = .ok (.iconst 0, 1) := by decide +kernel
theorem d_G_circles_5 : decode b_G_circles 5 = .ok (.istore_n 3, 1) := by decide +kernel
theorem d_G_circles_6 : decode b_G_circles 6 = .ok (.iload_n 3, 1) := by decide +kernel
theorem d_G_circles_7 : decode b_G_circles 7 = .ok (.bipush 28, 2) := by decide +kernel
theorem d_G_circles_9 : decode b_G_circles 9 = .ok (.if_icmp .ge 28, 3) := by decide +kernel
theorem d_G_circles_12 : decode b_G_circles 12 = .ok (.iload_n 1, 1) := by decide +kernel
theorem d_G_circles_13 : decode b_G_circles 13 = .ok (.iload_n 3, 1) := by decide +kernel
theorem d_G_circles_14 : decode b_G_circles 14 = .ok (.invokestatic 74, 3) := by decide +kernel
theorem d_G_circles_17 : decode b_G_circles 17 = .ok (.ifCond .ne 14, 3) := by decide +kernel
theorem d_G_circles_20 : decode b_G_circles 20 = .ok (.iload_n 1, 1) := by decide +kernel
theorem d_G_circles_21 : decode b_G_circles 21 = .ok (.aload_n 0, 1) := by decide +kernel
theorem d_G_circles_22 : decode b_G_circles 22 = .ok (.iload_n 3, 1) := by decide +kernel
theorem d_G_circles_23 : decode b_G_circles 23 = .ok (.invokevirtual 85, 3) := by decide +kernel
theorem d_G_circles_26 : decode b_G_circles 26 = .ok (.ior, 1) := by decide +kernel
theorem d_G_circles_27 : decode b_G_circles 27 = .ok (.istore_n 1, 1) := by decide +kernel
theorem d_G_circles_28 : decode b_G_circles 28 = .ok (.iinc 2 1, 3) := by decide +kernel
theorem d_G_circles_31 : decode b_G_circles 31 = .ok (.iinc 3 1, 3) := by decide +kernel
theorem d_G_circles_34 : decode b_G_circles 34 = .ok (.goto (-28), 3) := by decide +kernel
theorem d_G_circles_37 : decode b_G_circles 37 = .ok (.iload_n 2, 1) := by decide +kernel
theorem d_G_circles_38 : decode b_G_circles 38 = .ok (.ireturn, 1) := by decide +kernel
theorem d_G_cut_0 : decode b_G_cut 0 = .ok (.iload_n 1, 1) := by decide +kernel
theorem d_G_cut_1 : decode b_G_cut 1 = .ok (.iload_n 2, 1) := by decide +kernel
theorem d_G_cut_2 : decode b_G_cut 2 = .ok (.invokestatic 36, 3) := by decide +kernel
theorem d_G_cut_5 : decode b_G_cut 5 = .ok (.aload_n 0, 1) := by decide +kernel
theorem d_G_cut_6 : decode b_G_cut 6 = .ok (.iload_n 1, 1) := by decide +kernel
theorem d_G_cut_7 : decode b_G_cut 7 = .ok (.iload_n 2, 1) := by decide +kernel
theorem d_G_cut_8 : decode b_G_cut 8 = .ok (.invokevirtual 88, 3) := by decide +kernel
theorem d_G_cut_11 : decode b_G_cut 11 = .ok (.istore_n 3, 1) := by decide +kernel
theorem d_G_cut_12 : decode b_G_cut 12 = .ok (.iconst 0, 1) := by decide +kernel
theorem d_G_cut_13 : decode b_G_cut 13 = .ok (.istore 4, 2) := by decide +kernel
theorem d_G_cut_15 : decode b_G_cut 15 = .ok (.iconst 0, 1) := by decide +kernel
theorem d_G_cut_16 : decode b_G_cut 16 = .ok (.istore 5, 2) := by decide +kernel
theorem d_G_cut_18 : decode b_G_cut 18 = .ok (.iload 5, 2) := by decide +kernel
theorem d_G_cut_20 : decode b_G_cut 20 = .ok (.aload_n 0, 1) := by decide +kernel
theorem d_G_cut_21 : decode b_G_cut 21 = .ok (.getfield 23, 3) := by decide +kernel
theorem d_G_cut_24 : decode b_G_cut 24 = .ok (.if_icmp .ge 31, 3) := by decide +kernel
theorem d_G_cut_27 : decode b_G_cut 27 = .ok (.aload_n 0, 1) := by decide +kernel
theorem d_G_cut_28 : decode b_G_cut 28 = .ok (.iload 5, 2) := by decide +kernel
theorem d_G_cut_30 : decode b_G_cut 30 = .ok (.iload_n 3, 1) := by decide +kernel
theorem d_G_cut_31 : decode b_G_cut 31 = .ok (.invokevirtual 91, 3) := by decide +kernel
theorem d_G_cut_34 : decode b_G_cut 34 = .ok (.ifCond .eq 15, 3) := by decide +kernel
theorem d_G_cut_37 : decode b_G_cut 37 = .ok (.iload 4, 2) := by decide +kernel
theorem d_G_cut_39 : decode b_G_cut 39 = .ok (.aload_n 0, 1) := by decide +kernel
theorem d_G_cut_40 : decode b_G_cut 40 = .ok (.getfield 16, 3) := by decide +kernel
theorem d_G_cut_43 : decode b_G_cut 43 = .ok (.iload 5, 2) := by decide +kernel
theorem d_G_cut_45 : decode b_G_cut 45 = .ok (.iaload, 1) := by decide +kernel
theorem d_G_cut_46 : decode b_G_cut 46 = .ok (.iadd, 1) := by decide +kernel
theorem d_G_cut_47 : decode b_G_cut 47 = .ok (.istore 4, 2) := by decide +kernel
theorem d_G_cut_49 : decode b_G_cut 49 = .ok (.iinc 5 1, 3) := by decide +kernel
theorem d_G_cut_52 : decode b_G_cut 52 = .ok (.goto (-34), 3) := by decide +kernel
theorem d_G_cut_55 : decode b_G_cut 55 = .ok (.iload 4, 2) := by decide +kernel
theorem d_G_cut_57 : decode b_G_cut 57 = .ok (.ireturn, 1) := by decide +kernel
theorem d_G_cutRule_0 : decode b_G_cutRule 0 = .ok (.iload_n 1, 1) := by decide +kernel
theorem d_G_cutRule_1 : decode b_G_cutRule 1 = .ok (.iload_n 2, 1) := by decide +kernel
theorem d_G_cutRule_2 : decode b_G_cutRule 2 = .ok (.invokestatic 36, 3) := by decide +kernel
theorem d_G_cutRule_5 : decode b_G_cutRule 5 = .ok (.iload_n 3, 1) := by decide +kernel
theorem d_G_cutRule_6 : decode b_G_cutRule 6 = .ok (.ifCond .ge 13, 3) := by decide +kernel
theorem d_G_cutRule_9 : decode b_G_cutRule 9 = .ok (.new 40, 3) := by decide +kernel
theorem d_G_cutRule_12 : decode b_G_cutRule 12 = .ok (.dup, 1) := by decide +kernel
theorem d_G_cutRule_13 : decode b_G_cutRule 13 = .ok (.ldc 94, 2) := by decide +kernel
theorem d_G_cutRule_15 : decode b_G_cutRule 15 = .ok (.invokespecial 44, 3) := by decide +kernel
theorem d_G_cutRule_18 : decode b_G_cutRule 18 = .ok (.athrow, 1) := by decide +kernel
theorem d_G_cutRule_19 : decode b_G_cutRule 19 = .ok (.aload_n 0, 1) := by decide +kernel
theorem d_G_cutRule_20 : decode b_G_cutRule 20 = .ok (.iload_n 1, 1) := by decide +kernel
theorem d_G_cutRule_21 : decode b_G_cutRule 21 = .ok (.iload_n 2, 1) := by decide +kernel
theorem d_G_cutRule_22 : decode b_G_cutRule 22 = .ok (.invokevirtual 88, 3) := by decide +kernel
theorem d_G_cutRule_25 : decode b_G_cutRule 25 = .ok (.istore 4, 2) := by decide +kernel
theorem d_G_cutRule_27 : decode b_G_cutRule 27 = .ok (.iconst 0, 1) := by decide +kernel
theorem d_G_cutRule_28 : decode b_G_cutRule 28 = .ok (.istore 5, 2) := by decide +kernel
theorem d_G_cutRule_30 : decode b_G_cutRule 30 = .ok (.iconst 0, 1) := by decide +kernel
theorem d_G_cutRule_31 : decode b_G_cutRule 31 = .ok (.istore 6, 2) := by decide +kernel
theorem d_G_cutRule_33 : decode b_G_cutRule 33 = .ok (.iload 6, 2) := by decide +kernel
theorem d_G_cutRule_35 : decode b_G_cutRule 35 = .ok (.aload_n 0, 1) := by decide +kernel
theorem d_G_cutRule_36 : decode b_G_cutRule 36 = .ok (.getfield 23, 3) := by decide +kernel
theorem d_G_cutRule_39 : decode b_G_cutRule 39 = .ok (.if_icmp .ge 32, 3) := by decide +kernel
theorem d_G_cutRule_42 : decode b_G_cutRule 42 = .ok (.aload_n 0, 1) := by decide +kernel
theorem d_G_cutRule_43 : decode b_G_cutRule 43 = .ok (.iload 6, 2) := by decide +kernel
theorem d_G_cutRule_45 : decode b_G_cutRule 45 = .ok (.iload 4, 2) := by decide +kernel
theorem d_G_cutRule_47 : decode b_G_cutRule 47 = .ok (.invokevirtual 91, 3) := by decide +kernel
theorem d_G_cutRule_50 : decode b_G_cutRule 50 = .ok (.ifCond .eq 15, 3) := by decide +kernel
theorem d_G_cutRule_53 : decode b_G_cutRule 53 = .ok (.iload 5, 2) := by decide +kernel
theorem d_G_cutRule_55 : decode b_G_cutRule 55 = .ok (.iload_n 3, 1) := by decide +kernel
theorem d_G_cutRule_56 : decode b_G_cutRule 56 = .ok (.if_icmp .ne 6, 3) := by decide +kernel
theorem d_G_cutRule_59 : decode b_G_cutRule 59 = .ok (.iload 6, 2) := by decide +kernel
theorem d_G_cutRule_61 : decode b_G_cutRule 61 = .ok (.ireturn, 1) := by decide +kernel
theorem d_G_cutRule_62 : decode b_G_cutRule 62 = .ok (.iinc 5 1, 3) := by decide +kernel
theorem d_G_cutRule_65 : decode b_G_cutRule 65 = .ok (.iinc 6 1, 3) := by decide +kernel
theorem d_G_cutRule_68 : decode b_G_cutRule 68 = .ok (.goto (-35), 3) := by decide +kernel
theorem d_G_cutRule_71 : decode b_G_cutRule 71 = .ok (.iconst (-1), 1) := by decide +kernel
theorem d_G_cutRule_72 : decode b_G_cutRule 72 = .ok (.ireturn, 1) := by decide +kernel
theorem d_G_left_0 : decode b_G_left 0 = .ok (.iload_n 1, 1) := by decide +kernel
theorem d_G_left_1 : decode b_G_left 1 = .ok (.iload_n 2, 1) := by decide +kernel
theorem d_G_left_2 : decode b_G_left 2 = .ok (.invokestatic 36, 3) := by decide +kernel
theorem d_G_left_5 : decode b_G_left 5 = .ok (.aload_n 0, 1) := by decide +kernel
theorem d_G_left_6 : decode b_G_left 6 = .ok (.iload_n 1, 1) := by decide +kernel
theorem d_G_left_7 : decode b_G_left 7 = .ok (.iload_n 2, 1) := by decide +kernel
theorem d_G_left_8 : decode b_G_left 8 = .ok (.invokevirtual 88, 3) := by decide +kernel
theorem d_G_left_11 : decode b_G_left 11 = .ok (.ireturn, 1) := by decide +kernel
theorem d_G_needNode_0 : decode b_G_needNode 0 = .ok (.iload_n 0, 1) := by decide +kernel
theorem d_G_needNode_1 : decode b_G_needNode 1 = .ok (.ifCond .lt 9, 3) := by decide +kernel
theorem d_G_needNode_4 : decode b_G_needNode 4 = .ok (.iload_n 0, 1) := by decide +kernel
theorem d_G_needNode_5 : decode b_G_needNode 5 = .ok (.bipush 28, 2) := by decide +kernel
theorem d_G_needNode_7 : decode b_G_needNode 7 = .ok (.if_icmp .lt 13, 3) := by decide +kernel
theorem d_G_needNode_10 : decode b_G_needNode 10 = .ok (.new 40, 3) := by decide +kernel
theorem d_G_needNode_13 : decode b_G_needNode 13 = .ok (.dup, 1) := by decide +kernel
theorem d_G_needNode_14 : decode b_G_needNode 14 = .ok (.ldc 96, 2) := by decide +kernel
theorem d_G_needNode_16 : decode b_G_needNode 16 = .ok (.invokespecial 44, 3) := by decide +kernel
theorem d_G_needNode_19 : decode b_G_needNode 19 = .ok (.athrow, 1) := by decide +kernel
theorem d_G_needNode_20 : decode b_G_needNode 20 = .ok (.return_, 1) := by decide +kernel
theorem d_G_needNodes_0 : decode b_G_needNodes 0 = .ok (.iload_n 0, 1) := by decide +kernel
theorem d_G_needNodes_1 : decode b_G_needNodes 1 = .ok (.invokestatic 82, 3) := by decide +kernel
theorem d_G_needNodes_4 : decode b_G_needNodes 4 = .ok (.iload_n 1, 1) := by decide +kernel
theorem d_G_needNodes_5 : decode b_G_needNodes 5 = .ok (.invokestatic 82, 3) := by decide +kernel
theorem d_G_needNodes_8 : decode b_G_needNodes 8 = .ok (.return_, 1) := by decide +kernel
theorem d_G_needUnlikeNodes_0 : decode b_G_needUnlikeNodes 0 = .ok (.iload_n 0, 1) := by decide +kernel
theorem d_G_needUnlikeNodes_1 : decode b_G_needUnlikeNodes 1 = .ok (.iload_n 1, 1) := by decide +kernel
theorem d_G_needUnlikeNodes_2 : decode b_G_needUnlikeNodes 2 = .ok (.invokestatic 57, 3) := by decide +kernel
theorem d_G_needUnlikeNodes_5 : decode b_G_needUnlikeNodes 5 = .ok (.iload_n 0, 1) := by decide +kernel
theorem d_G_needUnlikeNodes_6 : decode b_G_needUnlikeNodes 6 = .ok (.iload_n 1, 1) := by decide +kernel
theorem d_G_needUnlikeNodes_7 : decode b_G_needUnlikeNodes 7 = .ok (.if_icmp .ne 13, 3) := by decide +kernel
theorem d_G_needUnlikeNodes_10 : decode b_G_needUnlikeNodes 10 = .ok (.new 40, 3) := by decide +kernel
theorem d_G_needUnlikeNodes_13 : decode b_G_needUnlikeNodes 13 = .ok (.dup, 1) := by decide +kernel
theorem d_G_needUnlikeNodes_14 : decode b_G_needUnlikeNodes 14 = .ok (.ldc 98, 2) := by decide +kernel
theorem d_G_needUnlikeNodes_16 : decode b_G_needUnlikeNodes 16 = .ok (.invokespecial 44, 3) := by decide +kernel
theorem d_G_needUnlikeNodes_19 : decode b_G_needUnlikeNodes 19 = .ok (.athrow, 1) := by decide +kernel
theorem d_G_needUnlikeNodes_20 : decode b_G_needUnlikeNodes 20 = .ok (.return_, 1) := by decide +kernel
theorem d_G_bit_0 : decode b_G_bit 0 = .ok (.iconst 1, 1) := by decide +kernel
theorem d_G_bit_1 : decode b_G_bit 1 = .ok (.iload_n 0, 1) := by decide +kernel
theorem d_G_bit_2 : decode b_G_bit 2 = .ok (.ishl, 1) := by decide +kernel
theorem d_G_bit_3 : decode b_G_bit 3 = .ok (.ireturn, 1) := by decide +kernel
theorem d_G_has_0 : decode b_G_has 0 = .ok (.iload_n 0, 1) := by decide +kernel
theorem d_G_has_1 : decode b_G_has 1 = .ok (.iload_n 1, 1) := by decide +kernel
theorem d_G_has_2 : decode b_G_has 2 = .ok (.invokestatic 78, 3) := by decide +kernel
theorem d_G_has_5 : decode b_G_has 5 = .ok (.iand, 1) := by decide +kernel
theorem d_G_has_6 : decode b_G_has 6 = .ok (.ifCond .eq 7, 3) := by decide +kernel
theorem d_G_has_9 : decode b_G_has 9 = .ok (.iconst 1, 1) := by decide +kernel
theorem d_G_has_10 : decode b_G_has 10 = .ok (.goto 4, 3) := by decide +kernel
theorem d_G_has_13 : decode b_G_has 13 = .ok (.iconst 0, 1) := by decide +kernel
theorem d_G_has_14 : decode b_G_has 14 = .ok (.ireturn, 1) := by decide +kernel
theorem d_G_measureWaysTo_0 : decode b_G_measureWaysTo 0 = .ok (.iconst 0, 1) := by decide +kernel
theorem d_G_measureWaysTo_1 : decode b_G_measureWaysTo 1 = .ok (.istore_n 2, 1) := by decide +kernel
theorem d_G_measureWaysTo_2 : decode b_G_measureWaysTo 2 = .ok (.iload_n 2, 1) := by decide +kernel
theorem d_G_measureWaysTo_3 : decode b_G_measureWaysTo 3 = .ok (.bipush 28, 2) := by decide +kernel
theorem d_G_measureWaysTo_5 : decode b_G_measureWaysTo 5 = .ok (.if_icmp .ge 16, 3) := by decide +kernel
theorem d_G_measureWaysTo_8 : decode b_G_measureWaysTo 8 = .ok (.aload_n 0, 1) := by decide +kernel
theorem d_G_measureWaysTo_9 : decode b_G_measureWaysTo 9 = .ok (.getfield 27, 3) := by decide +kernel
theorem d_G_measureWaysTo_12 : decode b_G_measureWaysTo 12 = .ok (.iload_n 2, 1) := by decide +kernel
theorem d_G_measureWaysTo_13 : decode b_G_measureWaysTo 13 = .ok (.iconst (-1), 1) := by decide +kernel
theorem d_G_measureWaysTo_14 : decode b_G_measureWaysTo 14 = .ok (.iastore, 1) := by decide +kernel
theorem d_G_measureWaysTo_15 : decode b_G_measureWaysTo 15 = .ok (.iinc 2 1, 3) := by decide +kernel
theorem d_G_measureWaysTo_18 : decode b_G_measureWaysTo 18 = .ok (.goto (-16), 3) := by decide +kernel
theorem d_G_measureWaysTo_21 : decode b_G_measureWaysTo 21 = .ok (.aload_n 0, 1) := by decide +kernel
theorem d_G_measureWaysTo_22 : decode b_G_measureWaysTo 22 = .ok (.getfield 27, 3) := by decide +kernel
theorem d_G_measureWaysTo_25 : decode b_G_measureWaysTo 25 = .ok (.iload_n 1, 1) := by decide +kernel
theorem d_G_measureWaysTo_26 : decode b_G_measureWaysTo 26 = .ok (.iconst 0, 1) := by decide +kernel
theorem d_G_measureWaysTo_27 : decode b_G_measureWaysTo 27 = .ok (.iastore, 1) := by decide +kernel
theorem d_G_measureWaysTo_28 : decode b_G_measureWaysTo 28 = .ok (.iconst 1, 1) := by decide +kernel
theorem d_G_measureWaysTo_29 : decode b_G_measureWaysTo 29 = .ok (.istore_n 2, 1) := by decide +kernel
theorem d_G_measureWaysTo_30 : decode b_G_measureWaysTo 30 = .ok (.iconst 1, 1) := by decide +kernel
theorem d_G_measureWaysTo_31 : decode b_G_measureWaysTo 31 = .ok (.istore_n 3, 1) := by decide +kernel
theorem d_G_measureWaysTo_32 : decode b_G_measureWaysTo 32 = .ok (.iload_n 3, 1) := by decide +kernel
theorem d_G_measureWaysTo_33 : decode b_G_measureWaysTo 33 = .ok (.bipush 28, 2) := by decide +kernel
theorem d_G_measureWaysTo_35 : decode b_G_measureWaysTo 35 = .ok (.if_icmp .ge 19, 3) := by decide +kernel
theorem d_G_measureWaysTo_38 : decode b_G_measureWaysTo 38 = .ok (.iload_n 2, 1) := by decide +kernel
theorem d_G_measureWaysTo_39 : decode b_G_measureWaysTo 39 = .ok (.ifCond .eq 15, 3) := by decide +kernel
theorem d_G_measureWaysTo_42 : decode b_G_measureWaysTo 42 = .ok (.aload_n 0, 1) := by decide +kernel
theorem d_G_measureWaysTo_43 : decode b_G_measureWaysTo 43 = .ok (.iload_n 3, 1) := by decide +kernel
theorem d_G_measureWaysTo_44 : decode b_G_measureWaysTo 44 = .ok (.invokevirtual 100, 3) := by decide +kernel
theorem d_G_measureWaysTo_47 : decode b_G_measureWaysTo 47 = .ok (.istore_n 2, 1) := by decide +kernel
theorem d_G_measureWaysTo_48 : decode b_G_measureWaysTo 48 = .ok (.iinc 3 1, 3) := by decide +kernel
theorem d_G_measureWaysTo_51 : decode b_G_measureWaysTo 51 = .ok (.goto (-19), 3) := by decide +kernel
theorem d_G_measureWaysTo_54 : decode b_G_measureWaysTo 54 = .ok (.return_, 1) := by decide +kernel
theorem d_G_measureWaysOf_0 : decode b_G_measureWaysOf 0 = .ok (.iconst 0, 1) := by decide +kernel
theorem d_G_measureWaysOf_1 : decode b_G_measureWaysOf 1 = .ok (.istore_n 2, 1) := by decide +kernel
theorem d_G_measureWaysOf_2 : decode b_G_measureWaysOf 2 = .ok (.iconst 0, 1) := by decide +kernel
theorem d_G_measureWaysOf_3 : decode b_G_measureWaysOf 3 = .ok (.istore_n 3, 1) := by decide +kernel
theorem d_G_measureWaysOf_4 : decode b_G_measureWaysOf 4 = .ok (.iload_n 3, 1) := by decide +kernel
theorem d_G_measureWaysOf_5 : decode b_G_measureWaysOf 5 = .ok (.aload_n 0, 1) := by decide +kernel
theorem d_G_measureWaysOf_6 : decode b_G_measureWaysOf 6 = .ok (.getfield 23, 3) := by decide +kernel
theorem d_G_measureWaysOf_9 : decode b_G_measureWaysOf 9 = .ok (.if_icmp .ge 64, 3) := by decide +kernel
theorem d_G_measureWaysOf_12 : decode b_G_measureWaysOf 12 = .ok (.aload_n 0, 1) := by decide +kernel
theorem d_G_measureWaysOf_13 : decode b_G_measureWaysOf 13 = .ok (.getfield 9, 3) := by decide +kernel
theorem d_G_measureWaysOf_16 : decode b_G_measureWaysOf 16 = .ok (.iload_n 3, 1) := by decide +kernel
theorem d_G_measureWaysOf_17 : decode b_G_measureWaysOf 17 = .ok (.iaload, 1) := by decide +kernel
theorem d_G_measureWaysOf_18 : decode b_G_measureWaysOf 18 = .ok (.istore 4, 2) := by decide +kernel
theorem d_G_measureWaysOf_20 : decode b_G_measureWaysOf 20 = .ok (.aload_n 0, 1) := by decide +kernel
theorem d_G_measureWaysOf_21 : decode b_G_measureWaysOf 21 = .ok (.getfield 19, 3) := by decide +kernel
theorem d_G_measureWaysOf_24 : decode b_G_measureWaysOf 24 = .ok (.iload_n 3, 1) := by decide +kernel
theorem d_G_measureWaysOf_25 : decode b_G_measureWaysOf 25 = .ok (.baload, 1) := by decide +kernel
theorem d_G_measureWaysOf_26 : decode b_G_measureWaysOf 26 = .ok (.ifCond .eq 41, 3) := by decide +kernel
theorem d_G_measureWaysOf_29 : decode b_G_measureWaysOf 29 = .ok (.aload_n 0, 1) := by decide +kernel
theorem d_G_measureWaysOf_30 : decode b_G_measureWaysOf 30 = .ok (.getfield 27, 3) := by decide +kernel
theorem d_G_measureWaysOf_33 : decode b_G_measureWaysOf 33 = .ok (.iload 4, 2) := by decide +kernel
theorem d_G_measureWaysOf_35 : decode b_G_measureWaysOf 35 = .ok (.iaload, 1) := by decide +kernel
theorem d_G_measureWaysOf_36 : decode b_G_measureWaysOf 36 = .ok (.iconst (-1), 1) := by decide +kernel
theorem d_G_measureWaysOf_37 : decode b_G_measureWaysOf 37 = .ok (.if_icmp .ne 30, 3) := by decide +kernel
theorem d_G_measureWaysOf_40 : decode b_G_measureWaysOf 40 = .ok (.aload_n 0, 1) := by decide +kernel
theorem d_G_measureWaysOf_41 : decode b_G_measureWaysOf 41 = .ok (.getfield 27, 3) := by decide +kernel
theorem d_G_measureWaysOf_44 : decode b_G_measureWaysOf 44 = .ok (.aload_n 0, 1) := by decide +kernel
theorem d_G_measureWaysOf_45 : decode b_G_measureWaysOf 45 = .ok (.getfield 13, 3) := by decide +kernel
theorem d_G_measureWaysOf_48 : decode b_G_measureWaysOf 48 = .ok (.iload_n 3, 1) := by decide +kernel
theorem d_G_measureWaysOf_49 : decode b_G_measureWaysOf 49 = .ok (.iaload, 1) := by decide +kernel
theorem d_G_measureWaysOf_50 : decode b_G_measureWaysOf 50 = .ok (.iaload, 1) := by decide +kernel
theorem d_G_measureWaysOf_51 : decode b_G_measureWaysOf 51 = .ok (.iload_n 1, 1) := by decide +kernel
theorem d_G_measureWaysOf_52 : decode b_G_measureWaysOf 52 = .ok (.iconst 1, 1) := by decide +kernel
theorem d_G_measureWaysOf_53 : decode b_G_measureWaysOf 53 = .ok (.isub, 1) := by decide +kernel
theorem d_G_measureWaysOf_54 : decode b_G_measureWaysOf 54 = .ok (.if_icmp .ne 13, 3) := by decide +kernel
theorem d_G_measureWaysOf_57 : decode b_G_measureWaysOf 57 = .ok (.aload_n 0, 1) := by decide +kernel
theorem d_G_measureWaysOf_58 : decode b_G_measureWaysOf 58 = .ok (.getfield 27, 3) := by decide +kernel
theorem d_G_measureWaysOf_61 : decode b_G_measureWaysOf 61 = .ok (.iload 4, 2) := by decide +kernel
theorem d_G_measureWaysOf_63 : decode b_G_measureWaysOf 63 = .ok (.iload_n 1, 1) := by decide +kernel
theorem d_G_measureWaysOf_64 : decode b_G_measureWaysOf 64 = .ok (.iastore, 1) := by decide +kernel
theorem d_G_measureWaysOf_65 : decode b_G_measureWaysOf 65 = .ok (.iconst 1, 1) := by decide +kernel
theorem d_G_measureWaysOf_66 : decode b_G_measureWaysOf 66 = .ok (.istore_n 2, 1) := by decide +kernel
theorem d_G_measureWaysOf_67 : decode b_G_measureWaysOf 67 = .ok (.iinc 3 1, 3) := by decide +kernel
theorem d_G_measureWaysOf_70 : decode b_G_measureWaysOf 70 = .ok (.goto (-66), 3) := by decide +kernel
theorem d_G_measureWaysOf_73 : decode b_G_measureWaysOf 73 = .ok (.iload_n 2, 1) := by decide +kernel
theorem d_G_measureWaysOf_74 : decode b_G_measureWaysOf 74 = .ok (.ireturn, 1) := by decide +kernel
theorem d_G_ruleOfLeastWay_0 : decode b_G_ruleOfLeastWay 0 = .ok (.iload_n 1, 1) := by decide +kernel
theorem d_G_ruleOfLeastWay_1 : decode b_G_ruleOfLeastWay 1 = .ok (.istore_n 3, 1) := by decide +kernel
theorem d_G_ruleOfLeastWay_2 : decode b_G_ruleOfLeastWay 2 = .ok (.iconst (-1), 1) := by decide +kernel
theorem d_G_ruleOfLeastWay_3 : decode b_G_ruleOfLeastWay 3 = .ok (.istore 4, 2) := by decide +kernel
theorem d_G_ruleOfLeastWay_5 : decode b_G_ruleOfLeastWay 5 = .ok (.iconst 0, 1) := by decide +kernel
theorem d_G_ruleOfLeastWay_6 : decode b_G_ruleOfLeastWay 6 = .ok (.istore 5, 2) := by decide +kernel
theorem d_G_ruleOfLeastWay_8 : decode b_G_ruleOfLeastWay 8 = .ok (.iload 5, 2) := by decide +kernel
theorem d_G_ruleOfLeastWay_10 : decode b_G_ruleOfLeastWay 10 = .ok (.iload_n 2, 1) := by decide +kernel
theorem d_G_ruleOfLeastWay_11 : decode b_G_ruleOfLeastWay 11 = .ok (.if_icmp .gt 32, 3) := by decide +kernel
theorem d_G_ruleOfLeastWay_14 : decode b_G_ruleOfLeastWay 14 = .ok (.aload_n 0, 1) := by decide +kernel
theorem d_G_ruleOfLeastWay_15 : decode b_G_ruleOfLeastWay 15 = .ok (.iload_n 3, 1) := by decide +kernel
theorem d_G_ruleOfLeastWay_16 : decode b_G_ruleOfLeastWay 16 = .ok (.invokevirtual 104, 3) := by decide +kernel
theorem d_G_ruleOfLeastWay_19 : decode b_G_ruleOfLeastWay 19 = .ok (.istore 4, 2) := by decide +kernel
theorem d_G_ruleOfLeastWay_21 : decode b_G_ruleOfLeastWay 21 = .ok (.iload 4, 2) := by decide +kernel
theorem d_G_ruleOfLeastWay_23 : decode b_G_ruleOfLeastWay 23 = .ok (.iconst (-1), 1) := by decide +kernel
theorem d_G_ruleOfLeastWay_24 : decode b_G_ruleOfLeastWay 24 = .ok (.if_icmp .ne 5, 3) := by decide +kernel
theorem d_G_ruleOfLeastWay_27 : decode b_G_ruleOfLeastWay 27 = .ok (.iconst (-1), 1) := by decide +kernel
theorem d_G_ruleOfLeastWay_28 : decode b_G_ruleOfLeastWay 28 = .ok (.ireturn, 1) := by decide +kernel
theorem d_G_ruleOfLeastWay_29 : decode b_G_ruleOfLeastWay 29 = .ok (.aload_n 0, 1) := by decide +kernel
theorem d_G_ruleOfLeastWay_30 : decode b_G_ruleOfLeastWay 30 = .ok (.getfield 13, 3) := by decide +kernel
theorem d_G_ruleOfLeastWay_33 : decode b_G_ruleOfLeastWay 33 = .ok (.iload 4, 2) := by decide +kernel
theorem d_G_ruleOfLeastWay_35 : decode b_G_ruleOfLeastWay 35 = .ok (.iaload, 1) := by decide +kernel
theorem d_G_ruleOfLeastWay_36 : decode b_G_ruleOfLeastWay 36 = .ok (.istore_n 3, 1) := by decide +kernel
theorem d_G_ruleOfLeastWay_37 : decode b_G_ruleOfLeastWay 37 = .ok (.iinc 5 1, 3) := by decide +kernel
theorem d_G_ruleOfLeastWay_40 : decode b_G_ruleOfLeastWay 40 = .ok (.goto (-32), 3) := by decide +kernel
theorem d_G_ruleOfLeastWay_43 : decode b_G_ruleOfLeastWay 43 = .ok (.iload 4, 2) := by decide +kernel
theorem d_G_ruleOfLeastWay_45 : decode b_G_ruleOfLeastWay 45 = .ok (.ireturn, 1) := by decide +kernel
theorem d_G_leastRuleOnward_0 : decode b_G_leastRuleOnward 0 = .ok (.iconst 0, 1) := by decide +kernel
theorem d_G_leastRuleOnward_1 : decode b_G_leastRuleOnward 1 = .ok (.istore_n 2, 1) := by decide +kernel
theorem d_G_leastRuleOnward_2 : decode b_G_leastRuleOnward 2 = .ok (.iload_n 2, 1) := by decide +kernel
theorem d_G_leastRuleOnward_3 : decode b_G_leastRuleOnward 3 = .ok (.aload_n 0, 1) := by decide +kernel
theorem d_G_leastRuleOnward_4 : decode b_G_leastRuleOnward 4 = .ok (.getfield 23, 3) := by decide +kernel
theorem d_G_leastRuleOnward_7 : decode b_G_leastRuleOnward 7 = .ok (.if_icmp .ge 52, 3) := by decide +kernel
theorem d_G_leastRuleOnward_10 : decode b_G_leastRuleOnward 10 = .ok (.aload_n 0, 1) := by decide +kernel
theorem d_G_leastRuleOnward_11 : decode b_G_leastRuleOnward 11 = .ok (.getfield 19, 3) := by decide +kernel
theorem d_G_leastRuleOnward_14 : decode b_G_leastRuleOnward 14 = .ok (.iload_n 2, 1) := by decide +kernel
theorem d_G_leastRuleOnward_15 : decode b_G_leastRuleOnward 15 = .ok (.baload, 1) := by decide +kernel
theorem d_G_leastRuleOnward_16 : decode b_G_leastRuleOnward 16 = .ok (.ifCond .eq 37, 3) := by decide +kernel
theorem d_G_leastRuleOnward_19 : decode b_G_leastRuleOnward 19 = .ok (.aload_n 0, 1) := by decide +kernel
theorem d_G_leastRuleOnward_20 : decode b_G_leastRuleOnward 20 = .ok (.getfield 9, 3) := by decide +kernel
theorem d_G_leastRuleOnward_23 : decode b_G_leastRuleOnward 23 = .ok (.iload_n 2, 1) := by decide +kernel
theorem d_G_leastRuleOnward_24 : decode b_G_leastRuleOnward 24 = .ok (.iaload, 1) := by decide +kernel
theorem d_G_leastRuleOnward_25 : decode b_G_leastRuleOnward 25 = .ok (.iload_n 1, 1) := by decide +kernel
theorem d_G_leastRuleOnward_26 : decode b_G_leastRuleOnward 26 = .ok (.if_icmp .ne 27, 3) := by decide +kernel
theorem d_G_leastRuleOnward_29 : decode b_G_leastRuleOnward 29 = .ok (.aload_n 0, 1) := by decide +kernel
theorem d_G_leastRuleOnward_30 : decode b_G_leastRuleOnward 30 = .ok (.getfield 27, 3) := by decide +kernel
theorem d_G_leastRuleOnward_33 : decode b_G_leastRuleOnward 33 = .ok (.aload_n 0, 1) := by decide +kernel
theorem d_G_leastRuleOnward_34 : decode b_G_leastRuleOnward 34 = .ok (.getfield 13, 3) := by decide +kernel
theorem d_G_leastRuleOnward_37 : decode b_G_leastRuleOnward 37 = .ok (.iload_n 2, 1) := by decide +kernel
theorem d_G_leastRuleOnward_38 : decode b_G_leastRuleOnward 38 = .ok (.iaload, 1) := by decide +kernel
theorem d_G_leastRuleOnward_39 : decode b_G_leastRuleOnward 39 = .ok (.iaload, 1) := by decide +kernel
theorem d_G_leastRuleOnward_40 : decode b_G_leastRuleOnward 40 = .ok (.aload_n 0, 1) := by decide +kernel
theorem d_G_leastRuleOnward_41 : decode b_G_leastRuleOnward 41 = .ok (.getfield 27, 3) := by decide +kernel
theorem d_G_leastRuleOnward_44 : decode b_G_leastRuleOnward 44 = .ok (.iload_n 1, 1) := by decide +kernel
theorem d_G_leastRuleOnward_45 : decode b_G_leastRuleOnward 45 = .ok (.iaload, 1) := by decide +kernel
theorem d_G_leastRuleOnward_46 : decode b_G_leastRuleOnward 46 = .ok (.iconst 1, 1) := by decide +kernel
theorem d_G_leastRuleOnward_47 : decode b_G_leastRuleOnward 47 = .ok (.isub, 1) := by decide +kernel
theorem d_G_leastRuleOnward_48 : decode b_G_leastRuleOnward 48 = .ok (.if_icmp .ne 5, 3) := by decide +kernel
theorem d_G_leastRuleOnward_51 : decode b_G_leastRuleOnward 51 = .ok (.iload_n 2, 1) := by decide +kernel
theorem d_G_leastRuleOnward_52 : decode b_G_leastRuleOnward 52 = .ok (.ireturn, 1) := by decide +kernel
theorem d_G_leastRuleOnward_53 : decode b_G_leastRuleOnward 53 = .ok (.iinc 2 1, 3) := by decide +kernel
theorem d_G_leastRuleOnward_56 : decode b_G_leastRuleOnward 56 = .ok (.goto (-54), 3) := by decide +kernel
theorem d_G_leastRuleOnward_59 : decode b_G_leastRuleOnward 59 = .ok (.iconst (-1), 1) := by decide +kernel
theorem d_G_leastRuleOnward_60 : decode b_G_leastRuleOnward 60 = .ok (.ireturn, 1) := by decide +kernel
theorem d_G_reach_0 : decode b_G_reach 0 = .ok (.iload_n 3, 1) := by decide +kernel
theorem d_G_reach_1 : decode b_G_reach 1 = .ok (.invokestatic 78, 3) := by decide +kernel
theorem d_G_reach_4 : decode b_G_reach 4 = .ok (.istore 5, 2) := by decide +kernel
theorem d_G_reach_6 : decode b_G_reach 6 = .ok (.iconst 0, 1) := by decide +kernel
theorem d_G_reach_7 : decode b_G_reach 7 = .ok (.istore 6, 2) := by decide +kernel
theorem d_G_reach_9 : decode b_G_reach 9 = .ok (.iconst 0, 1) := by decide +kernel
theorem d_G_reach_10 : decode b_G_reach 10 = .ok (.istore 7, 2) := by decide +kernel
theorem d_G_reach_12 : decode b_G_reach 12 = .ok (.iload 7, 2) := by decide +kernel
theorem d_G_reach_14 : decode b_G_reach 14 = .ok (.bipush 28, 2) := by decide +kernel
theorem d_G_reach_16 : decode b_G_reach 16 = .ok (.if_icmp .ge 84, 3) := by decide +kernel
theorem d_G_reach_19 : decode b_G_reach 19 = .ok (.iload 5, 2) := by decide +kernel
theorem d_G_reach_21 : decode b_G_reach 21 = .ok (.iload 6, 2) := by decide +kernel
theorem d_G_reach_23 : decode b_G_reach 23 = .ok (.if_icmp .eq 77, 3) := by decide +kernel
theorem d_G_reach_26 : decode b_G_reach 26 = .ok (.iload 5, 2) := by decide +kernel
theorem d_G_reach_28 : decode b_G_reach 28 = .ok (.istore 6, 2) := by decide +kernel
theorem d_G_reach_30 : decode b_G_reach 30 = .ok (.iconst 0, 1) := by decide +kernel
theorem d_G_reach_31 : decode b_G_reach 31 = .ok (.istore 8, 2) := by decide +kernel
theorem d_G_reach_33 : decode b_G_reach 33 = .ok (.iload 8, 2) := by decide +kernel
theorem d_G_reach_35 : decode b_G_reach 35 = .ok (.aload_n 0, 1) := by decide +kernel
theorem d_G_reach_36 : decode b_G_reach 36 = .ok (.getfield 23, 3) := by decide +kernel
theorem d_G_reach_39 : decode b_G_reach 39 = .ok (.if_icmp .ge 55, 3) := by decide +kernel
theorem d_G_reach_42 : decode b_G_reach 42 = .ok (.aload_n 0, 1) := by decide +kernel
theorem d_G_reach_43 : decode b_G_reach 43 = .ok (.getfield 19, 3) := by decide +kernel
theorem d_G_reach_46 : decode b_G_reach 46 = .ok (.iload 8, 2) := by decide +kernel
theorem d_G_reach_48 : decode b_G_reach 48 = .ok (.baload, 1) := by decide +kernel
theorem d_G_reach_49 : decode b_G_reach 49 = .ok (.ifCond .eq 39, 3) := by decide +kernel
theorem d_G_reach_52 : decode b_G_reach 52 = .ok (.iload 5, 2) := by decide +kernel
theorem d_G_reach_54 : decode b_G_reach 54 = .ok (.aload_n 1, 1) := by decide +kernel
theorem d_G_reach_55 : decode b_G_reach 55 = .ok (.iload 8, 2) := by decide +kernel
theorem d_G_reach_57 : decode b_G_reach 57 = .ok (.iaload, 1) := by decide +kernel
theorem d_G_reach_58 : decode b_G_reach 58 = .ok (.invokestatic 74, 3) := by decide +kernel
theorem d_G_reach_61 : decode b_G_reach 61 = .ok (.ifCond .eq 27, 3) := by decide +kernel
theorem d_G_reach_64 : decode b_G_reach 64 = .ok (.iload 4, 2) := by decide +kernel
theorem d_G_reach_66 : decode b_G_reach 66 = .ok (.aload_n 2, 1) := by decide +kernel
theorem d_G_reach_67 : decode b_G_reach 67 = .ok (.iload 8, 2) := by decide +kernel
theorem d_G_reach_69 : decode b_G_reach 69 = .ok (.iaload, 1) := by decide +kernel
theorem d_G_reach_70 : decode b_G_reach 70 = .ok (.invokestatic 74, 3) := by decide +kernel
theorem d_G_reach_73 : decode b_G_reach 73 = .ok (.ifCond .ne 15, 3) := by decide +kernel
theorem d_G_reach_76 : decode b_G_reach 76 = .ok (.iload 5, 2) := by decide +kernel
theorem d_G_reach_78 : decode b_G_reach 78 = .ok (.aload_n 2, 1) := by decide +kernel
theorem d_G_reach_79 : decode b_G_reach 79 = .ok (.iload 8, 2) := by decide +kernel
theorem d_G_reach_81 : decode b_G_reach 81 = .ok (.iaload, 1) := by decide +kernel
theorem d_G_reach_82 : decode b_G_reach 82 = .ok (.invokestatic 78, 3) := by decide +kernel
theorem d_G_reach_85 : decode b_G_reach 85 = .ok (.ior, 1) := by decide +kernel
theorem d_G_reach_86 : decode b_G_reach 86 = .ok (.istore 5, 2) := by decide +kernel
theorem d_G_reach_88 : decode b_G_reach 88 = .ok (.iinc 8 1, 3) := by decide +kernel
theorem d_G_reach_91 : decode b_G_reach 91 = .ok (.goto (-58), 3) := by decide +kernel
theorem d_G_reach_94 : decode b_G_reach 94 = .ok (.iinc 7 1, 3) := by decide +kernel
theorem d_G_reach_97 : decode b_G_reach 97 = .ok (.goto (-85), 3) := by decide +kernel
theorem d_G_reach_100 : decode b_G_reach 100 = .ok (.iload 5, 2) := by decide +kernel
theorem d_G_reach_102 : decode b_G_reach 102 = .ok (.ireturn, 1) := by decide +kernel
theorem d_G_circleOf_0 : decode b_G_circleOf 0 = .ok (.aload_n 0, 1) := by decide +kernel
theorem d_G_circleOf_1 : decode b_G_circleOf 1 = .ok (.aload_n 0, 1) := by decide +kernel
theorem d_G_circleOf_2 : decode b_G_circleOf 2 = .ok (.getfield 9, 3) := by decide +kernel
theorem d_G_circleOf_5 : decode b_G_circleOf 5 = .ok (.aload_n 0, 1) := by decide +kernel
theorem d_G_circleOf_6 : decode b_G_circleOf 6 = .ok (.getfield 13, 3) := by decide +kernel
theorem d_G_circleOf_9 : decode b_G_circleOf 9 = .ok (.iload_n 1, 1) := by decide +kernel
theorem d_G_circleOf_10 : decode b_G_circleOf 10 = .ok (.iconst 0, 1) := by decide +kernel
theorem d_G_circleOf_11 : decode b_G_circleOf 11 = .ok (.invokevirtual 70, 3) := by decide +kernel
theorem d_G_circleOf_14 : decode b_G_circleOf 14 = .ok (.aload_n 0, 1) := by decide +kernel
theorem d_G_circleOf_15 : decode b_G_circleOf 15 = .ok (.aload_n 0, 1) := by decide +kernel
theorem d_G_circleOf_16 : decode b_G_circleOf 16 = .ok (.getfield 13, 3) := by decide +kernel
theorem d_G_circleOf_19 : decode b_G_circleOf 19 = .ok (.aload_n 0, 1) := by decide +kernel
theorem d_G_circleOf_20 : decode b_G_circleOf 20 = .ok (.getfield 9, 3) := by decide +kernel
theorem d_G_circleOf_23 : decode b_G_circleOf 23 = .ok (.iload_n 1, 1) := by decide +kernel
theorem d_G_circleOf_24 : decode b_G_circleOf 24 = .ok (.iconst 0, 1) := by decide +kernel
theorem d_G_circleOf_25 : decode b_G_circleOf 25 = .ok (.invokevirtual 70, 3) := by decide +kernel
theorem d_G_circleOf_28 : decode b_G_circleOf 28 = .ok (.iand, 1) := by decide +kernel
theorem d_G_circleOf_29 : decode b_G_circleOf 29 = .ok (.ireturn, 1) := by decide +kernel
theorem d_G_leaves_0 : decode b_G_leaves 0 = .ok (.aload_n 0, 1) := by decide +kernel
theorem d_G_leaves_1 : decode b_G_leaves 1 = .ok (.getfield 19, 3) := by decide +kernel
theorem d_G_leaves_4 : decode b_G_leaves 4 = .ok (.iload_n 1, 1) := by decide +kernel
theorem d_G_leaves_5 : decode b_G_leaves 5 = .ok (.baload, 1) := by decide +kernel
theorem d_G_leaves_6 : decode b_G_leaves 6 = .ok (.ifCond .eq 33, 3) := by decide +kernel
theorem d_G_leaves_9 : decode b_G_leaves 9 = .ok (.iload_n 2, 1) := by decide +kernel
theorem d_G_leaves_10 : decode b_G_leaves 10 = .ok (.aload_n 0, 1) := by decide +kernel
theorem d_G_leaves_11 : decode b_G_leaves 11 = .ok (.getfield 9, 3) := by decide +kernel
theorem d_G_leaves_14 : decode b_G_leaves 14 = .ok (.iload_n 1, 1) := by decide +kernel
theorem d_G_leaves_15 : decode b_G_leaves 15 = .ok (.iaload, 1) := by decide +kernel
theorem d_G_leaves_16 : decode b_G_leaves 16 = .ok (.invokestatic 74, 3) := by decide +kernel
theorem d_G_leaves_19 : decode b_G_leaves 19 = .ok (.ifCond .eq 20, 3) := by decide +kernel
theorem d_G_leaves_22 : decode b_G_leaves 22 = .ok (.iload_n 2, 1) := by decide +kernel
theorem d_G_leaves_23 : decode b_G_leaves 23 = .ok (.aload_n 0, 1) := by decide +kernel
theorem d_G_leaves_24 : decode b_G_leaves 24 = .ok (.getfield 13, 3) := by decide +kernel
theorem d_G_leaves_27 : decode b_G_leaves 27 = .ok (.iload_n 1, 1) := by decide +kernel
theorem d_G_leaves_28 : decode b_G_leaves 28 = .ok (.iaload, 1) := by decide +kernel
theorem d_G_leaves_29 : decode b_G_leaves 29 = .ok (.invokestatic 74, 3) := by decide +kernel
theorem d_G_leaves_32 : decode b_G_leaves 32 = .ok (.ifCond .ne 7, 3) := by decide +kernel
theorem d_G_leaves_35 : decode b_G_leaves 35 = .ok (.iconst 1, 1) := by decide +kernel
theorem d_G_leaves_36 : decode b_G_leaves 36 = .ok (.goto 4, 3) := by decide +kernel
theorem d_G_leaves_39 : decode b_G_leaves 39 = .ok (.iconst 0, 1) := by decide +kernel
theorem d_G_leaves_40 : decode b_G_leaves 40 = .ok (.ireturn, 1) := by decide +kernel
theorem d_G_nearSide_0 : decode b_G_nearSide 0 = .ok (.iconst 0, 1) := by decide +kernel
theorem d_G_nearSide_1 : decode b_G_nearSide 1 = .ok (.istore_n 3, 1) := by decide +kernel
theorem d_G_nearSide_2 : decode b_G_nearSide 2 = .ok (.iload_n 3, 1) := by decide +kernel
theorem d_G_nearSide_3 : decode b_G_nearSide 3 = .ok (.aload_n 0, 1) := by decide +kernel
theorem d_G_nearSide_4 : decode b_G_nearSide 4 = .ok (.getfield 23, 3) := by decide +kernel
theorem d_G_nearSide_7 : decode b_G_nearSide 7 = .ok (.if_icmp .ge 16, 3) := by decide +kernel
theorem d_G_nearSide_10 : decode b_G_nearSide 10 = .ok (.aload_n 0, 1) := by decide +kernel
theorem d_G_nearSide_11 : decode b_G_nearSide 11 = .ok (.getfield 30, 3) := by decide +kernel
theorem d_G_nearSide_14 : decode b_G_nearSide 14 = .ok (.iload_n 3, 1) := by decide +kernel
theorem d_G_nearSide_15 : decode b_G_nearSide 15 = .ok (.iconst 0, 1) := by decide +kernel
theorem d_G_nearSide_16 : decode b_G_nearSide 16 = .ok (.iastore, 1) := by decide +kernel
theorem d_G_nearSide_17 : decode b_G_nearSide 17 = .ok (.iinc 3 1, 3) := by decide +kernel
theorem d_G_nearSide_20 : decode b_G_nearSide 20 = .ok (.goto (-18), 3) := by decide +kernel
theorem d_G_nearSide_23 : decode b_G_nearSide 23 = .ok (.aload_n 0, 1) := by decide +kernel
theorem d_G_nearSide_24 : decode b_G_nearSide 24 = .ok (.iload_n 1, 1) := by decide +kernel
theorem d_G_nearSide_25 : decode b_G_nearSide 25 = .ok (.iload_n 2, 1) := by decide +kernel
theorem d_G_nearSide_26 : decode b_G_nearSide 26 = .ok (.invokevirtual 107, 3) := by decide +kernel
theorem d_G_nearSide_29 : decode b_G_nearSide 29 = .ok (.istore_n 3, 1) := by decide +kernel
theorem d_G_nearSide_30 : decode b_G_nearSide 30 = .ok (.iconst 0, 1) := by decide +kernel
theorem d_G_nearSide_31 : decode b_G_nearSide 31 = .ok (.istore 4, 2) := by decide +kernel
theorem d_G_nearSide_33 : decode b_G_nearSide 33 = .ok (.iload 4, 2) := by decide +kernel
theorem d_G_nearSide_35 : decode b_G_nearSide 35 = .ok (.sipush 810, 3) := by decide +kernel
theorem d_G_nearSide_38 : decode b_G_nearSide 38 = .ok (.if_icmp .ge 30, 3) := by decide +kernel
theorem d_G_nearSide_41 : decode b_G_nearSide 41 = .ok (.iload_n 3, 1) := by decide +kernel
theorem d_G_nearSide_42 : decode b_G_nearSide 42 = .ok (.iload_n 2, 1) := by decide +kernel
theorem d_G_nearSide_43 : decode b_G_nearSide 43 = .ok (.invokestatic 74, 3) := by decide +kernel
theorem d_G_nearSide_46 : decode b_G_nearSide 46 = .ok (.ifCond .eq 22, 3) := by decide +kernel
theorem d_G_nearSide_49 : decode b_G_nearSide 49 = .ok (.aload_n 0, 1) := by decide +kernel
theorem d_G_nearSide_50 : decode b_G_nearSide 50 = .ok (.iload_n 1, 1) := by decide +kernel
theorem d_G_nearSide_51 : decode b_G_nearSide 51 = .ok (.iload_n 2, 1) := by decide +kernel
theorem d_G_nearSide_52 : decode b_G_nearSide 52 = .ok (.invokevirtual 110, 3) := by decide +kernel
theorem d_G_nearSide_55 : decode b_G_nearSide 55 = .ok (.aload_n 0, 1) := by decide +kernel
theorem d_G_nearSide_56 : decode b_G_nearSide 56 = .ok (.iload_n 1, 1) := by decide +kernel
theorem d_G_nearSide_57 : decode b_G_nearSide 57 = .ok (.iload_n 2, 1) := by decide +kernel
theorem d_G_nearSide_58 : decode b_G_nearSide 58 = .ok (.invokevirtual 107, 3) := by decide +kernel
theorem d_G_nearSide_61 : decode b_G_nearSide 61 = .ok (.istore_n 3, 1) := by decide +kernel
theorem d_G_nearSide_62 : decode b_G_nearSide 62 = .ok (.iinc 4 1, 3) := by decide +kernel
theorem d_G_nearSide_65 : decode b_G_nearSide 65 = .ok (.goto (-32), 3) := by decide +kernel
theorem d_G_nearSide_68 : decode b_G_nearSide 68 = .ok (.iload_n 3, 1) := by decide +kernel
theorem d_G_nearSide_69 : decode b_G_nearSide 69 = .ok (.ireturn, 1) := by decide +kernel
theorem d_G_spread_0 : decode b_G_spread 0 = .ok (.iload_n 1, 1) := by decide +kernel
theorem d_G_spread_1 : decode b_G_spread 1 = .ok (.invokestatic 78, 3) := by decide +kernel
theorem d_G_spread_4 : decode b_G_spread 4 = .ok (.istore_n 3, 1) := by decide +kernel
theorem d_G_spread_5 : decode b_G_spread 5 = .ok (.iconst 0, 1) := by decide +kernel
theorem d_G_spread_6 : decode b_G_spread 6 = .ok (.istore 4, 2) := by decide +kernel
theorem d_G_spread_8 : decode b_G_spread 8 = .ok (.iconst 0, 1) := by decide +kernel
theorem d_G_spread_9 : decode b_G_spread 9 = .ok (.istore 5, 2) := by decide +kernel
theorem d_G_spread_11 : decode b_G_spread 11 = .ok (.iload 5, 2) := by decide +kernel
theorem d_G_spread_13 : decode b_G_spread 13 = .ok (.bipush 28, 2) := by decide +kernel
theorem d_G_spread_15 : decode b_G_spread 15 = .ok (.if_icmp .ge 32, 3) := by decide +kernel
theorem d_G_spread_18 : decode b_G_spread 18 = .ok (.iload_n 3, 1) := by decide +kernel
theorem d_G_spread_19 : decode b_G_spread 19 = .ok (.iload 4, 2) := by decide +kernel
theorem d_G_spread_21 : decode b_G_spread 21 = .ok (.if_icmp .eq 26, 3) := by decide +kernel
theorem d_G_spread_24 : decode b_G_spread 24 = .ok (.iload_n 3, 1) := by decide +kernel
theorem d_G_spread_25 : decode b_G_spread 25 = .ok (.iload_n 2, 1) := by decide +kernel
theorem d_G_spread_26 : decode b_G_spread 26 = .ok (.invokestatic 74, 3) := by decide +kernel
theorem d_G_spread_29 : decode b_G_spread 29 = .ok (.ifCond .ne 18, 3) := by decide +kernel
theorem d_G_spread_32 : decode b_G_spread 32 = .ok (.iload_n 3, 1) := by decide +kernel
theorem d_G_spread_33 : decode b_G_spread 33 = .ok (.istore 4, 2) := by decide +kernel
theorem d_G_spread_35 : decode b_G_spread 35 = .ok (.aload_n 0, 1) := by decide +kernel
theorem d_G_spread_36 : decode b_G_spread 36 = .ok (.iload_n 3, 1) := by decide +kernel
theorem d_G_spread_37 : decode b_G_spread 37 = .ok (.invokevirtual 113, 3) := by decide +kernel
theorem d_G_spread_40 : decode b_G_spread 40 = .ok (.istore_n 3, 1) := by decide +kernel
theorem d_G_spread_41 : decode b_G_spread 41 = .ok (.iinc 5 1, 3) := by decide +kernel
theorem d_G_spread_44 : decode b_G_spread 44 = .ok (.goto (-33), 3) := by decide +kernel
theorem d_G_spread_47 : decode b_G_spread 47 = .ok (.iload_n 3, 1) := by decide +kernel
theorem d_G_spread_48 : decode b_G_spread 48 = .ok (.ireturn, 1) := by decide +kernel
theorem d_G_spreadByEachRule_0 : decode b_G_spreadByEachRule 0 = .ok (.iload_n 1, 1) := by decide +kernel
theorem d_G_spreadByEachRule_1 : decode b_G_spreadByEachRule 1 = .ok (.istore_n 2, 1) := by decide +kernel
theorem d_G_spreadByEachRule_2 : decode b_G_spreadByEachRule 2 = .ok (.iconst 0, 1) := by decide +kernel
theorem d_G_spreadByEachRule_3 : decode b_G_spreadByEachRule 3 = .ok (.istore_n 3, 1) := by decide +kernel
theorem d_G_spreadByEachRule_4 : decode b_G_spreadByEachRule 4 = .ok (.iload_n 3, 1) := by decide +kernel
theorem d_G_spreadByEachRule_5 : decode b_G_spreadByEachRule 5 = .ok (.aload_n 0, 1) := by decide +kernel
theorem d_G_spreadByEachRule_6 : decode b_G_spreadByEachRule 6 = .ok (.getfield 23, 3) := by decide +kernel
theorem d_G_spreadByEachRule_9 : decode b_G_spreadByEachRule 9 = .ok (.if_icmp .ge 129, 3) := by decide +kernel
theorem d_G_spreadByEachRule_12 : decode b_G_spreadByEachRule 12 = .ok (.aload_n 0, 1) := by decide +kernel
theorem d_G_spreadByEachRule_13 : decode b_G_spreadByEachRule 13 = .ok (.getfield 9, 3) := by decide +kernel
theorem d_G_spreadByEachRule_16 : decode b_G_spreadByEachRule 16 = .ok (.iload_n 3, 1) := by decide +kernel
theorem d_G_spreadByEachRule_17 : decode b_G_spreadByEachRule 17 = .ok (.iaload, 1) := by decide +kernel
theorem d_G_spreadByEachRule_18 : decode b_G_spreadByEachRule 18 = .ok (.istore 4, 2) := by decide +kernel
theorem d_G_spreadByEachRule_20 : decode b_G_spreadByEachRule 20 = .ok (.aload_n 0, 1) := by decide +kernel
theorem d_G_spreadByEachRule_21 : decode b_G_spreadByEachRule 21 = .ok (.getfield 13, 3) := by decide +kernel
theorem d_G_spreadByEachRule_24 : decode b_G_spreadByEachRule 24 = .ok (.iload_n 3, 1) := by decide +kernel
theorem d_G_spreadByEachRule_25 : decode b_G_spreadByEachRule 25 = .ok (.iaload, 1) := by decide +kernel
theorem d_G_spreadByEachRule_26 : decode b_G_spreadByEachRule 26 = .ok (.istore 5, 2) := by decide +kernel
theorem d_G_spreadByEachRule_28 : decode b_G_spreadByEachRule 28 = .ok (.iload_n 2, 1) := by decide +kernel
theorem d_G_spreadByEachRule_29 : decode b_G_spreadByEachRule 29 = .ok (.iload 4, 2) := by decide +kernel
theorem d_G_spreadByEachRule_31 : decode b_G_spreadByEachRule 31 = .ok (.invokestatic 74, 3) := by decide +kernel
theorem d_G_spreadByEachRule_34 : decode b_G_spreadByEachRule 34 = .ok (.istore 6, 2) := by decide +kernel
theorem d_G_spreadByEachRule_36 : decode b_G_spreadByEachRule 36 = .ok (.iload_n 2, 1) := by decide +kernel
theorem d_G_spreadByEachRule_37 : decode b_G_spreadByEachRule 37 = .ok (.iload 5, 2) := by decide +kernel
theorem d_G_spreadByEachRule_39 : decode b_G_spreadByEachRule 39 = .ok (.invokestatic 74, 3) := by decide +kernel
theorem d_G_spreadByEachRule_42 : decode b_G_spreadByEachRule 42 = .ok (.istore 7, 2) := by decide +kernel
theorem d_G_spreadByEachRule_44 : decode b_G_spreadByEachRule 44 = .ok (.iload 6, 2) := by decide +kernel
theorem d_G_spreadByEachRule_46 : decode b_G_spreadByEachRule 46 = .ok (.ifCond .eq 51, 3) := by decide +kernel
theorem d_G_spreadByEachRule_49 : decode b_G_spreadByEachRule 49 = .ok (.iload 7, 2) := by decide +kernel
theorem d_G_spreadByEachRule_51 : decode b_G_spreadByEachRule 51 = .ok (.ifCond .ne 46, 3) := by decide +kernel
theorem d_G_spreadByEachRule_54 : decode b_G_spreadByEachRule 54 = .ok (.aload_n 0, 1) := by decide +kernel
theorem d_G_spreadByEachRule_55 : decode b_G_spreadByEachRule 55 = .ok (.getfield 19, 3) := by decide +kernel
theorem d_G_spreadByEachRule_58 : decode b_G_spreadByEachRule 58 = .ok (.iload_n 3, 1) := by decide +kernel
theorem d_G_spreadByEachRule_59 : decode b_G_spreadByEachRule 59 = .ok (.baload, 1) := by decide +kernel
theorem d_G_spreadByEachRule_60 : decode b_G_spreadByEachRule 60 = .ok (.ifCond .eq 37, 3) := by decide +kernel
theorem d_G_spreadByEachRule_63 : decode b_G_spreadByEachRule 63 = .ok (.aload_n 0, 1) := by decide +kernel
theorem d_G_spreadByEachRule_64 : decode b_G_spreadByEachRule 64 = .ok (.getfield 30, 3) := by decide +kernel
theorem d_G_spreadByEachRule_67 : decode b_G_spreadByEachRule 67 = .ok (.iload_n 3, 1) := by decide +kernel
theorem d_G_spreadByEachRule_68 : decode b_G_spreadByEachRule 68 = .ok (.iaload, 1) := by decide +kernel
theorem d_G_spreadByEachRule_69 : decode b_G_spreadByEachRule 69 = .ok (.aload_n 0, 1) := by decide +kernel
theorem d_G_spreadByEachRule_70 : decode b_G_spreadByEachRule 70 = .ok (.getfield 16, 3) := by decide +kernel
theorem d_G_spreadByEachRule_73 : decode b_G_spreadByEachRule 73 = .ok (.iload_n 3, 1) := by decide +kernel
theorem d_G_spreadByEachRule_74 : decode b_G_spreadByEachRule 74 = .ok (.iaload, 1) := by decide +kernel
theorem d_G_spreadByEachRule_75 : decode b_G_spreadByEachRule 75 = .ok (.if_icmp .ge 22, 3) := by decide +kernel
theorem d_G_spreadByEachRule_78 : decode b_G_spreadByEachRule 78 = .ok (.iload_n 2, 1) := by decide +kernel
theorem d_G_spreadByEachRule_79 : decode b_G_spreadByEachRule 79 = .ok (.iload 5, 2) := by decide +kernel
theorem d_G_spreadByEachRule_81 : decode b_G_spreadByEachRule 81 = .ok (.invokestatic 78, 3) := by decide +kernel
theorem d_G_spreadByEachRule_84 : decode b_G_spreadByEachRule 84 = .ok (.ior, 1) := by decide +kernel
theorem d_G_spreadByEachRule_85 : decode b_G_spreadByEachRule 85 = .ok (.istore_n 2, 1) := by decide +kernel
theorem d_G_spreadByEachRule_86 : decode b_G_spreadByEachRule 86 = .ok (.aload_n 0, 1) := by decide +kernel
theorem d_G_spreadByEachRule_87 : decode b_G_spreadByEachRule 87 = .ok (.getfield 33, 3) := by decide +kernel
theorem d_G_spreadByEachRule_90 : decode b_G_spreadByEachRule 90 = .ok (.iload 5, 2) := by decide +kernel
theorem d_G_spreadByEachRule_92 : decode b_G_spreadByEachRule 92 = .ok (.iload_n 3, 1) := by decide +kernel
theorem d_G_spreadByEachRule_93 : decode b_G_spreadByEachRule 93 = .ok (.iastore, 1) := by decide +kernel
theorem d_G_spreadByEachRule_94 : decode b_G_spreadByEachRule 94 = .ok (.goto 38, 3) := by decide +kernel
theorem d_G_spreadByEachRule_97 : decode b_G_spreadByEachRule 97 = .ok (.iload 7, 2) := by decide +kernel
theorem d_G_spreadByEachRule_99 : decode b_G_spreadByEachRule 99 = .ok (.ifCond .eq 33, 3) := by decide +kernel
theorem d_G_spreadByEachRule_102 : decode b_G_spreadByEachRule 102 = .ok (.iload 6, 2) := by decide +kernel
theorem d_G_spreadByEachRule_104 : decode b_G_spreadByEachRule 104 = .ok (.ifCond .ne 28, 3) := by decide +kernel
theorem d_G_spreadByEachRule_107 : decode b_G_spreadByEachRule 107 = .ok (.aload_n 0, 1) := by decide +kernel
theorem d_G_spreadByEachRule_108 : decode b_G_spreadByEachRule 108 = .ok (.getfield 30, 3) := by decide +kernel
theorem d_G_spreadByEachRule_111 : decode b_G_spreadByEachRule 111 = .ok (.iload_n 3, 1) := by decide +kernel
theorem d_G_spreadByEachRule_112 : decode b_G_spreadByEachRule 112 = .ok (.iaload, 1) := by decide +kernel
theorem d_G_spreadByEachRule_113 : decode b_G_spreadByEachRule 113 = .ok (.ifCond .le 19, 3) := by decide +kernel
theorem d_G_spreadByEachRule_116 : decode b_G_spreadByEachRule 116 = .ok (.iload_n 2, 1) := by decide +kernel
theorem d_G_spreadByEachRule_117 : decode b_G_spreadByEachRule 117 = .ok (.iload 4, 2) := by decide +kernel
theorem d_G_spreadByEachRule_119 : decode b_G_spreadByEachRule 119 = .ok (.invokestatic 78, 3) := by decide +kernel
theorem d_G_spreadByEachRule_122 : decode b_G_spreadByEachRule 122 = .ok (.ior, 1) := by decide +kernel
theorem d_G_spreadByEachRule_123 : decode b_G_spreadByEachRule 123 = .ok (.istore_n 2, 1) := by decide +kernel
theorem d_G_spreadByEachRule_124 : decode b_G_spreadByEachRule 124 = .ok (.aload_n 0, 1) := by decide +kernel
theorem d_G_spreadByEachRule_125 : decode b_G_spreadByEachRule 125 = .ok (.getfield 33, 3) := by decide +kernel
theorem d_G_spreadByEachRule_128 : decode b_G_spreadByEachRule 128 = .ok (.iload 4, 2) := by decide +kernel
theorem d_G_spreadByEachRule_130 : decode b_G_spreadByEachRule 130 = .ok (.iload_n 3, 1) := by decide +kernel
theorem d_G_spreadByEachRule_131 : decode b_G_spreadByEachRule 131 = .ok (.iastore, 1) := by decide +kernel
theorem d_G_spreadByEachRule_132 : decode b_G_spreadByEachRule 132 = .ok (.iinc 3 1, 3) := by decide +kernel
theorem d_G_spreadByEachRule_135 : decode b_G_spreadByEachRule 135 = .ok (.goto (-131), 3) := by decide +kernel
theorem d_G_spreadByEachRule_138 : decode b_G_spreadByEachRule 138 = .ok (.iload_n 2, 1) := by decide +kernel
theorem d_G_spreadByEachRule_139 : decode b_G_spreadByEachRule 139 = .ok (.ireturn, 1) := by decide +kernel
theorem d_G_pushAlong_0 : decode b_G_pushAlong 0 = .ok (.bipush 9, 2) := by decide +kernel
theorem d_G_pushAlong_2 : decode b_G_pushAlong 2 = .ok (.istore_n 3, 1) := by decide +kernel
theorem d_G_pushAlong_3 : decode b_G_pushAlong 3 = .ok (.iload_n 2, 1) := by decide +kernel
theorem d_G_pushAlong_4 : decode b_G_pushAlong 4 = .ok (.istore 4, 2) := by decide +kernel
theorem d_G_pushAlong_6 : decode b_G_pushAlong 6 = .ok (.iconst 0, 1) := by decide +kernel
theorem d_G_pushAlong_7 : decode b_G_pushAlong 7 = .ok (.istore 5, 2) := by decide +kernel
theorem d_G_pushAlong_9 : decode b_G_pushAlong 9 = .ok (.iload 5, 2) := by decide +kernel
theorem d_G_pushAlong_11 : decode b_G_pushAlong 11 = .ok (.bipush 28, 2) := by decide +kernel
theorem d_G_pushAlong_13 : decode b_G_pushAlong 13 = .ok (.if_icmp .ge 34, 3) := by decide +kernel
theorem d_G_pushAlong_16 : decode b_G_pushAlong 16 = .ok (.iload 4, 2) := by decide +kernel
theorem d_G_pushAlong_18 : decode b_G_pushAlong 18 = .ok (.iload_n 1, 1) := by decide +kernel
theorem d_G_pushAlong_19 : decode b_G_pushAlong 19 = .ok (.if_icmp .eq 28, 3) := by decide +kernel
theorem d_G_pushAlong_22 : decode b_G_pushAlong 22 = .ok (.iload_n 3, 1) := by decide +kernel
theorem d_G_pushAlong_23 : decode b_G_pushAlong 23 = .ok (.aload_n 0, 1) := by decide +kernel
theorem d_G_pushAlong_24 : decode b_G_pushAlong 24 = .ok (.iload 4, 2) := by decide +kernel
theorem d_G_pushAlong_26 : decode b_G_pushAlong 26 = .ok (.invokevirtual 116, 3) := by decide +kernel
theorem d_G_pushAlong_29 : decode b_G_pushAlong 29 = .ok (.invokestatic 119, 3) := by decide +kernel
theorem d_G_pushAlong_32 : decode b_G_pushAlong 32 = .ok (.istore_n 3, 1) := by decide +kernel
theorem d_G_pushAlong_33 : decode b_G_pushAlong 33 = .ok (.aload_n 0, 1) := by decide +kernel
theorem d_G_pushAlong_34 : decode b_G_pushAlong 34 = .ok (.iload 4, 2) := by decide +kernel
theorem d_G_pushAlong_36 : decode b_G_pushAlong 36 = .ok (.invokevirtual 124, 3) := by decide +kernel
theorem d_G_pushAlong_39 : decode b_G_pushAlong 39 = .ok (.istore 4, 2) := by decide +kernel
theorem d_G_pushAlong_41 : decode b_G_pushAlong 41 = .ok (.iinc 5 1, 3) := by decide +kernel
theorem d_G_pushAlong_44 : decode b_G_pushAlong 44 = .ok (.goto (-35), 3) := by decide +kernel
theorem d_G_pushAlong_47 : decode b_G_pushAlong 47 = .ok (.iload_n 2, 1) := by decide +kernel
theorem d_G_pushAlong_48 : decode b_G_pushAlong 48 = .ok (.istore 4, 2) := by decide +kernel
theorem d_G_pushAlong_50 : decode b_G_pushAlong 50 = .ok (.iconst 0, 1) := by decide +kernel
theorem d_G_pushAlong_51 : decode b_G_pushAlong 51 = .ok (.istore 5, 2) := by decide +kernel
theorem d_G_pushAlong_53 : decode b_G_pushAlong 53 = .ok (.iload 5, 2) := by decide +kernel
theorem d_G_pushAlong_55 : decode b_G_pushAlong 55 = .ok (.bipush 28, 2) := by decide +kernel
theorem d_G_pushAlong_57 : decode b_G_pushAlong 57 = .ok (.if_icmp .ge 30, 3) := by decide +kernel
theorem d_G_pushAlong_60 : decode b_G_pushAlong 60 = .ok (.iload 4, 2) := by decide +kernel
theorem d_G_pushAlong_62 : decode b_G_pushAlong 62 = .ok (.iload_n 1, 1) := by decide +kernel
theorem d_G_pushAlong_63 : decode b_G_pushAlong 63 = .ok (.if_icmp .eq 24, 3) := by decide +kernel
theorem d_G_pushAlong_66 : decode b_G_pushAlong 66 = .ok (.aload_n 0, 1) := by decide +kernel
theorem d_G_pushAlong_67 : decode b_G_pushAlong 67 = .ok (.iload 4, 2) := by decide +kernel
theorem d_G_pushAlong_69 : decode b_G_pushAlong 69 = .ok (.iload_n 3, 1) := by decide +kernel
theorem d_G_pushAlong_70 : decode b_G_pushAlong 70 = .ok (.invokevirtual 127, 3) := by decide +kernel
theorem d_G_pushAlong_73 : decode b_G_pushAlong 73 = .ok (.aload_n 0, 1) := by decide +kernel
theorem d_G_pushAlong_74 : decode b_G_pushAlong 74 = .ok (.iload 4, 2) := by decide +kernel
theorem d_G_pushAlong_76 : decode b_G_pushAlong 76 = .ok (.invokevirtual 124, 3) := by decide +kernel
theorem d_G_pushAlong_79 : decode b_G_pushAlong 79 = .ok (.istore 4, 2) := by decide +kernel
theorem d_G_pushAlong_81 : decode b_G_pushAlong 81 = .ok (.iinc 5 1, 3) := by decide +kernel
theorem d_G_pushAlong_84 : decode b_G_pushAlong 84 = .ok (.goto (-31), 3) := by decide +kernel
theorem d_G_pushAlong_87 : decode b_G_pushAlong 87 = .ok (.return_, 1) := by decide +kernel
theorem d_G_nodeBefore_0 : decode b_G_nodeBefore 0 = .ok (.aload_n 0, 1) := by decide +kernel
theorem d_G_nodeBefore_1 : decode b_G_nodeBefore 1 = .ok (.getfield 33, 3) := by decide +kernel
theorem d_G_nodeBefore_4 : decode b_G_nodeBefore 4 = .ok (.iload_n 1, 1) := by decide +kernel
theorem d_G_nodeBefore_5 : decode b_G_nodeBefore 5 = .ok (.iaload, 1) := by decide +kernel
theorem d_G_nodeBefore_6 : decode b_G_nodeBefore 6 = .ok (.istore_n 2, 1) := by decide +kernel
theorem d_G_nodeBefore_7 : decode b_G_nodeBefore 7 = .ok (.aload_n 0, 1) := by decide +kernel
theorem d_G_nodeBefore_8 : decode b_G_nodeBefore 8 = .ok (.getfield 13, 3) := by decide +kernel
theorem d_G_nodeBefore_11 : decode b_G_nodeBefore 11 = .ok (.iload_n 2, 1) := by decide +kernel
theorem d_G_nodeBefore_12 : decode b_G_nodeBefore 12 = .ok (.iaload, 1) := by decide +kernel
theorem d_G_nodeBefore_13 : decode b_G_nodeBefore 13 = .ok (.iload_n 1, 1) := by decide +kernel
theorem d_G_nodeBefore_14 : decode b_G_nodeBefore 14 = .ok (.if_icmp .ne 12, 3) := by decide +kernel
theorem d_G_nodeBefore_17 : decode b_G_nodeBefore 17 = .ok (.aload_n 0, 1) := by decide +kernel
theorem d_G_nodeBefore_18 : decode b_G_nodeBefore 18 = .ok (.getfield 9, 3) := by decide +kernel
theorem d_G_nodeBefore_21 : decode b_G_nodeBefore 21 = .ok (.iload_n 2, 1) := by decide +kernel
theorem d_G_nodeBefore_22 : decode b_G_nodeBefore 22 = .ok (.iaload, 1) := by decide +kernel
theorem d_G_nodeBefore_23 : decode b_G_nodeBefore 23 = .ok (.goto 9, 3) := by decide +kernel
theorem d_G_nodeBefore_26 : decode b_G_nodeBefore 26 = .ok (.aload_n 0, 1) := by decide +kernel
theorem d_G_nodeBefore_27 : decode b_G_nodeBefore 27 = .ok (.getfield 13, 3) := by decide +kernel
theorem d_G_nodeBefore_30 : decode b_G_nodeBefore 30 = .ok (.iload_n 2, 1) := by decide +kernel
theorem d_G_nodeBefore_31 : decode b_G_nodeBefore 31 = .ok (.iaload, 1) := by decide +kernel
theorem d_G_nodeBefore_32 : decode b_G_nodeBefore 32 = .ok (.ireturn, 1) := by decide +kernel
theorem d_G_roomInto_0 : decode b_G_roomInto 0 = .ok (.aload_n 0, 1) := by decide +kernel
theorem d_G_roomInto_1 : decode b_G_roomInto 1 = .ok (.getfield 33, 3) := by decide +kernel
theorem d_G_roomInto_4 : decode b_G_roomInto 4 = .ok (.iload_n 1, 1) := by decide +kernel
theorem d_G_roomInto_5 : decode b_G_roomInto 5 = .ok (.iaload, 1) := by decide +kernel
theorem d_G_roomInto_6 : decode b_G_roomInto 6 = .ok (.istore_n 2, 1) := by decide +kernel
theorem d_G_roomInto_7 : decode b_G_roomInto 7 = .ok (.aload_n 0, 1) := by decide +kernel
theorem d_G_roomInto_8 : decode b_G_roomInto 8 = .ok (.getfield 13, 3) := by decide +kernel
theorem d_G_roomInto_11 : decode b_G_roomInto 11 = .ok (.iload_n 2, 1) := by decide +kernel
theorem d_G_roomInto_12 : decode b_G_roomInto 12 = .ok (.iaload, 1) := by decide +kernel
theorem d_G_roomInto_13 : decode b_G_roomInto 13 = .ok (.iload_n 1, 1) := by decide +kernel
theorem d_G_roomInto_14 : decode b_G_roomInto 14 = .ok (.if_icmp .ne 19, 3) := by decide +kernel
theorem d_G_roomInto_17 : decode b_G_roomInto 17 = .ok (.aload_n 0, 1) := by decide +kernel
theorem d_G_roomInto_18 : decode b_G_roomInto 18 = .ok (.getfield 16, 3) := by decide +kernel
theorem d_G_roomInto_21 : decode b_G_roomInto 21 = .ok (.iload_n 2, 1) := by decide +kernel
theorem d_G_roomInto_22 : decode b_G_roomInto 22 = .ok (.iaload, 1) := by decide +kernel
theorem d_G_roomInto_23 : decode b_G_roomInto 23 = .ok (.aload_n 0, 1) := by decide +kernel
theorem d_G_roomInto_24 : decode b_G_roomInto 24 = .ok (.getfield 30, 3) := by decide +kernel
theorem d_G_roomInto_27 : decode b_G_roomInto 27 = .ok (.iload_n 2, 1) := by decide +kernel
theorem d_G_roomInto_28 : decode b_G_roomInto 28 = .ok (.iaload, 1) := by decide +kernel
theorem d_G_roomInto_29 : decode b_G_roomInto 29 = .ok (.isub, 1) := by decide +kernel
theorem d_G_roomInto_30 : decode b_G_roomInto 30 = .ok (.goto 9, 3) := by decide +kernel
theorem d_G_roomInto_33 : decode b_G_roomInto 33 = .ok (.aload_n 0, 1) := by decide +kernel
theorem d_G_roomInto_34 : decode b_G_roomInto 34 = .ok (.getfield 30, 3) := by decide +kernel
theorem d_G_roomInto_37 : decode b_G_roomInto 37 = .ok (.iload_n 2, 1) := by decide +kernel
theorem d_G_roomInto_38 : decode b_G_roomInto 38 = .ok (.iaload, 1) := by decide +kernel
theorem d_G_roomInto_39 : decode b_G_roomInto 39 = .ok (.ireturn, 1) := by decide +kernel
theorem d_G_pushInto_0 : decode b_G_pushInto 0 = .ok (.aload_n 0, 1) := by decide +kernel
theorem d_G_pushInto_1 : decode b_G_pushInto 1 = .ok (.getfield 33, 3) := by decide +kernel
theorem d_G_pushInto_4 : decode b_G_pushInto 4 = .ok (.iload_n 1, 1) := by decide +kernel
theorem d_G_pushInto_5 : decode b_G_pushInto 5 = .ok (.iaload, 1) := by decide +kernel
theorem d_G_pushInto_6 : decode b_G_pushInto 6 = .ok (.istore_n 3, 1) := by decide +kernel
theorem d_G_pushInto_7 : decode b_G_pushInto 7 = .ok (.aload_n 0, 1) := by decide +kernel
theorem d_G_pushInto_8 : decode b_G_pushInto 8 = .ok (.getfield 30, 3) := by decide +kernel
theorem d_G_pushInto_11 : decode b_G_pushInto 11 = .ok (.iload_n 3, 1) := by decide +kernel
theorem d_G_pushInto_12 : decode b_G_pushInto 12 = .ok (.dup2, 1) := by decide +kernel
theorem d_G_pushInto_13 : decode b_G_pushInto 13 = .ok (.iaload, 1) := by decide +kernel
theorem d_G_pushInto_14 : decode b_G_pushInto 14 = .ok (.aload_n 0, 1) := by decide +kernel
theorem d_G_pushInto_15 : decode b_G_pushInto 15 = .ok (.getfield 13, 3) := by decide +kernel
theorem d_G_pushInto_18 : decode b_G_pushInto 18 = .ok (.iload_n 3, 1) := by decide +kernel
theorem d_G_pushInto_19 : decode b_G_pushInto 19 = .ok (.iaload, 1) := by decide +kernel
theorem d_G_pushInto_20 : decode b_G_pushInto 20 = .ok (.iload_n 1, 1) := by decide +kernel
theorem d_G_pushInto_21 : decode b_G_pushInto 21 = .ok (.if_icmp .ne 7, 3) := by decide +kernel
theorem d_G_pushInto_24 : decode b_G_pushInto 24 = .ok (.iload_n 2, 1) := by decide +kernel
theorem d_G_pushInto_25 : decode b_G_pushInto 25 = .ok (.goto 5, 3) := by decide +kernel
theorem d_G_pushInto_28 : decode b_G_pushInto 28 = .ok (.iload_n 2, 1) := by decide +kernel
theorem d_G_pushInto_29 : decode b_G_pushInto 29 = .ok (.ineg, 1) := by decide +kernel
theorem d_G_pushInto_30 : decode b_G_pushInto 30 = .ok (.iadd, 1) := by decide +kernel
theorem d_G_pushInto_31 : decode b_G_pushInto 31 = .ok (.iastore, 1) := by decide +kernel
theorem d_G_pushInto_32 : decode b_G_pushInto 32 = .ok (.return_, 1) := by decide +kernel
