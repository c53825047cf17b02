/-! Decode rows. -/
theorem d_M_init_0 : decode b_M_init 0 = .ok (.aload_n 0, 1) := by decide +kernel
theorem d_M_init_1 : decode b_M_init 1 = .ok (.invokespecial 1, 3) := by decide +kernel
theorem d_M_init_4 : decode b_M_init 4 = .ok (.aload_n 0, 1) := by decide +kernel
theorem d_M_init_5 : decode b_M_init 5 = .ok (.bipush 90, 2) := by decide +kernel
theorem d_M_init_7 : decode b_M_init 7 = .ok (.newarray .int, 2) := by decide +kernel
theorem d_M_init_9 : decode b_M_init 9 = .ok (.putfield 7, 3) := by decide +kernel
theorem d_M_init_12 : decode b_M_init 12 = .ok (.aload_n 0, 1) := by decide +kernel
theorem d_M_init_13 : decode b_M_init 13 = .ok (.bipush 90, 2) := by decide +kernel
theorem d_M_init_15 : decode b_M_init 15 = .ok (.newarray .int, 2) := by decide +kernel
theorem d_M_init_17 : decode b_M_init 17 = .ok (.putfield 13, 3) := by decide +kernel
theorem d_M_init_20 : decode b_M_init 20 = .ok (.aload_n 0, 1) := by decide +kernel
theorem d_M_init_21 : decode b_M_init 21 = .ok (.bipush 90, 2) := by decide +kernel
theorem d_M_init_23 : decode b_M_init 23 = .ok (.newarray .int, 2) := by decide +kernel
theorem d_M_init_25 : decode b_M_init 25 = .ok (.putfield 16, 3) := by decide +kernel
theorem d_M_init_28 : decode b_M_init 28 = .ok (.aload_n 0, 1) := by decide +kernel
theorem d_M_init_29 : decode b_M_init 29 = .ok (.bipush 90, 2) := by decide +kernel
theorem d_M_init_31 : decode b_M_init 31 = .ok (.newarray .boolean, 2) := by decide +kernel
theorem d_M_init_33 : decode b_M_init 33 = .ok (.putfield 19, 3) := by decide +kernel
theorem d_M_init_36 : decode b_M_init 36 = .ok (.aload_n 0, 1) := by decide +kernel
theorem d_M_init_37 : decode b_M_init 37 = .ok (.bipush 28, 2) := by decide +kernel
theorem d_M_init_39 : decode b_M_init 39 = .ok (.newarray .int, 2) := by decide +kernel
theorem d_M_init_41 : decode b_M_init 41 = .ok (.putfield 23, 3) := by decide +kernel
theorem d_M_init_44 : decode b_M_init 44 = .ok (.aload_n 0, 1) := by decide +kernel
theorem d_M_init_45 : decode b_M_init 45 = .ok (.bipush 90, 2) := by decide +kernel
theorem d_M_init_47 : decode b_M_init 47 = .ok (.newarray .int, 2) := by decide +kernel
theorem d_M_init_49 : decode b_M_init 49 = .ok (.putfield 26, 3) := by decide +kernel
theorem d_M_init_52 : decode b_M_init 52 = .ok (.aload_n 0, 1) := by decide +kernel
theorem d_M_init_53 : decode b_M_init 53 = .ok (.bipush 28, 2) := by decide +kernel
theorem d_M_init_55 : decode b_M_init 55 = .ok (.newarray .int, 2) := by decide +kernel
theorem d_M_init_57 : decode b_M_init 57 = .ok (.putfield 29, 3) := by decide +kernel
theorem d_M_init_60 : decode b_M_init 60 = .ok (.return_, 1) := by decide +kernel
theorem d_M_thrown_0 : decode b_M_thrown 0 = .ok (.aload_n 0, 1) := by decide +kernel
theorem d_M_thrown_1 : decode b_M_thrown 1 = .ok (.getfield 32, 3) := by decide +kernel
theorem d_M_thrown_4 : decode b_M_thrown 4 = .ok (.ireturn, 1) := by decide +kernel
theorem d_M_refuse_0 : decode b_M_refuse 0 = .ok (.aload_n 0, 1) := by decide +kernel
theorem d_M_refuse_1 : decode b_M_refuse 1 = .ok (.iload_n 1, 1) := by decide +kernel
theorem d_M_refuse_2 : decode b_M_refuse 2 = .ok (.ifCond .eq 7, 3) := by decide +kernel
theorem d_M_refuse_5 : decode b_M_refuse 5 = .ok (.iconst 1, 1) := by decide +kernel
theorem d_M_refuse_6 : decode b_M_refuse 6 = .ok (.goto 12, 3) := by decide +kernel
theorem d_M_refuse_9 : decode b_M_refuse 9 = .ok (.iload_n 2, 1) := by decide +kernel
theorem d_M_refuse_10 : decode b_M_refuse 10 = .ok (.ifCond .eq 7, 3) := by decide +kernel
theorem d_M_refuse_13 : decode b_M_refuse 13 = .ok (.iconst 2, 1) := by decide +kernel
theorem d_M_refuse_14 : decode b_M_refuse 14 = .ok (.goto 4, 3) := by decide +kernel
theorem d_M_refuse_17 : decode b_M_refuse 17 = .ok (.iconst 0, 1) := by decide +kernel
theorem d_M_refuse_18 : decode b_M_refuse 18 = .ok (.putfield 32, 3) := by decide +kernel
theorem d_M_refuse_21 : decode b_M_refuse 21 = .ok (.aload_n 0, 1) := by decide +kernel
theorem d_M_refuse_22 : decode b_M_refuse 22 = .ok (.getfield 32, 3) := by decide +kernel
theorem d_M_refuse_25 : decode b_M_refuse 25 = .ok (.ifCond .le 7, 3) := by decide +kernel
theorem d_M_refuse_28 : decode b_M_refuse 28 = .ok (.iconst 1, 1) := by decide +kernel
theorem d_M_refuse_29 : decode b_M_refuse 29 = .ok (.goto 4, 3) := by decide +kernel
theorem d_M_refuse_32 : decode b_M_refuse 32 = .ok (.iconst 0, 1) := by decide +kernel
theorem d_M_refuse_33 : decode b_M_refuse 33 = .ok (.ireturn, 1) := by decide +kernel
theorem d_M_in_0 : decode b_M_in 0 = .ok (.iload_n 0, 1) := by decide +kernel
theorem d_M_in_1 : decode b_M_in 1 = .ok (.iload_n 1, 1) := by decide +kernel
theorem d_M_in_2 : decode b_M_in 2 = .ok (.if_icmp .lt 12, 3) := by decide +kernel
theorem d_M_in_5 : decode b_M_in 5 = .ok (.iload_n 0, 1) := by decide +kernel
theorem d_M_in_6 : decode b_M_in 6 = .ok (.iload_n 2, 1) := by decide +kernel
theorem d_M_in_7 : decode b_M_in 7 = .ok (.if_icmp .gt 7, 3) := by decide +kernel
theorem d_M_in_10 : decode b_M_in 10 = .ok (.iconst 1, 1) := by decide +kernel
theorem d_M_in_11 : decode b_M_in 11 = .ok (.goto 4, 3) := by decide +kernel
theorem d_M_in_14 : decode b_M_in 14 = .ok (.iconst 0, 1) := by decide +kernel
theorem d_M_in_15 : decode b_M_in 15 = .ok (.ireturn, 1) := by decide +kernel
theorem d_M_isNode_0 : decode b_M_isNode 0 = .ok (.iload_n 0, 1) := by decide +kernel
theorem d_M_isNode_1 : decode b_M_isNode 1 = .ok (.iconst 0, 1) := by decide +kernel
theorem d_M_isNode_2 : decode b_M_isNode 2 = .ok (.bipush 27, 2) := by decide +kernel
theorem d_M_isNode_4 : decode b_M_isNode 4 = .ok (.invokestatic 36, 3) := by decide +kernel
theorem d_M_isNode_7 : decode b_M_isNode 7 = .ok (.ireturn, 1) := by decide +kernel
theorem d_M_clear_0 : decode b_M_clear 0 = .ok (.aload_n 0, 1) := by decide +kernel
theorem d_M_clear_1 : decode b_M_clear 1 = .ok (.iconst 0, 1) := by decide +kernel
theorem d_M_clear_2 : decode b_M_clear 2 = .ok (.putfield 32, 3) := by decide +kernel
theorem d_M_clear_5 : decode b_M_clear 5 = .ok (.aload_n 0, 1) := by decide +kernel
theorem d_M_clear_6 : decode b_M_clear 6 = .ok (.iconst 0, 1) := by decide +kernel
theorem d_M_clear_7 : decode b_M_clear 7 = .ok (.putfield 40, 3) := by decide +kernel
theorem d_M_clear_10 : decode b_M_clear 10 = .ok (.return_, 1) := by decide +kernel
theorem d_M_rule_0 : decode b_M_rule 0 = .ok (.aload_n 0, 1) := by decide +kernel
theorem d_M_rule_1 : decode b_M_rule 1 = .ok (.iload_n 1, 1) := by decide +kernel
theorem d_M_rule_2 : decode b_M_rule 2 = .ok (.invokestatic 43, 3) := by decide +kernel
theorem d_M_rule_5 : decode b_M_rule 5 = .ok (.ifCond .eq 25, 3) := by decide +kernel
theorem d_M_rule_8 : decode b_M_rule 8 = .ok (.iload_n 2, 1) := by decide +kernel
theorem d_M_rule_9 : decode b_M_rule 9 = .ok (.invokestatic 43, 3) := by decide +kernel
theorem d_M_rule_12 : decode b_M_rule 12 = .ok (.ifCond .eq 18, 3) := by decide +kernel
theorem d_M_rule_15 : decode b_M_rule 15 = .ok (.iload_n 1, 1) := by decide +kernel
theorem d_M_rule_16 : decode b_M_rule 16 = .ok (.iload_n 2, 1) := by decide +kernel
theorem d_M_rule_17 : decode b_M_rule 17 = .ok (.if_icmp .eq 13, 3) := by decide +kernel
theorem d_M_rule_20 : decode b_M_rule 20 = .ok (.iload_n 3, 1) := by decide +kernel
theorem d_M_rule_21 : decode b_M_rule 21 = .ok (.iconst 1, 1) := by decide +kernel
theorem d_M_rule_22 : decode b_M_rule 22 = .ok (.bipush 9, 2) := by decide +kernel
theorem d_M_rule_24 : decode b_M_rule 24 = .ok (.invokestatic 36, 3) := by decide +kernel
theorem d_M_rule_27 : decode b_M_rule 27 = .ok (.ifCond .ne 7, 3) := by decide +kernel
theorem d_M_rule_30 : decode b_M_rule 30 = .ok (.iconst 1, 1) := by decide +kernel
theorem d_M_rule_31 : decode b_M_rule 31 = .ok (.goto 4, 3) := by decide +kernel
theorem d_M_rule_34 : decode b_M_rule 34 = .ok (.iconst 0, 1) := by decide +kernel
theorem d_M_rule_35 : decode b_M_rule 35 = .ok (.aload_n 0, 1) := by decide +kernel
theorem d_M_rule_36 : decode b_M_rule 36 = .ok (.getfield 40, 3) := by decide +kernel
theorem d_M_rule_39 : decode b_M_rule 39 = .ok (.bipush 90, 2) := by decide +kernel
theorem d_M_rule_41 : decode b_M_rule 41 = .ok (.if_icmp .ne 7, 3) := by decide +kernel
theorem d_M_rule_44 : decode b_M_rule 44 = .ok (.iconst 1, 1) := by decide +kernel
theorem d_M_rule_45 : decode b_M_rule 45 = .ok (.goto 4, 3) := by decide +kernel
theorem d_M_rule_48 : decode b_M_rule 48 = .ok (.iconst 0, 1) := by decide +kernel
theorem d_M_rule_49 : decode b_M_rule 49 = .ok (.invokevirtual 47, 3) := by decide +kernel
theorem d_M_rule_52 : decode b_M_rule 52 = .ok (.ifCond .eq 5, 3) := by decide +kernel
theorem d_M_rule_55 : decode b_M_rule 55 = .ok (.iconst 0, 1) := by decide +kernel
theorem d_M_rule_56 : decode b_M_rule 56 = .ok (.ireturn, 1) := by decide +kernel
theorem d_M_rule_57 : decode b_M_rule 57 = .ok (.aload_n 0, 1) := by decide +kernel
theorem d_M_rule_58 : decode b_M_rule 58 = .ok (.getfield 7, 3) := by decide +kernel
theorem d_M_rule_61 : decode b_M_rule 61 = .ok (.aload_n 0, 1) := by decide +kernel
theorem d_M_rule_62 : decode b_M_rule 62 = .ok (.getfield 40, 3) := by decide +kernel
theorem d_M_rule_65 : decode b_M_rule 65 = .ok (.iload_n 1, 1) := by decide +kernel
theorem d_M_rule_66 : decode b_M_rule 66 = .ok (.iastore, 1) := by decide +kernel
theorem d_M_rule_67 : decode b_M_rule 67 = .ok (.aload_n 0, 1) := by decide +kernel
theorem d_M_rule_68 : decode b_M_rule 68 = .ok (.getfield 13, 3) := by decide +kernel
theorem d_M_rule_71 : decode b_M_rule 71 = .ok (.aload_n 0, 1) := by decide +kernel
theorem d_M_rule_72 : decode b_M_rule 72 = .ok (.getfield 40, 3) := by decide +kernel
theorem d_M_rule_75 : decode b_M_rule 75 = .ok (.iload_n 2, 1) := by decide +kernel
theorem d_M_rule_76 : decode b_M_rule 76 = .ok (.iastore, 1) := by decide +kernel
theorem d_M_rule_77 : decode b_M_rule 77 = .ok (.aload_n 0, 1) := by decide +kernel
theorem d_M_rule_78 : decode b_M_rule 78 = .ok (.getfield 16, 3) := by decide +kernel
theorem d_M_rule_81 : decode b_M_rule 81 = .ok (.aload_n 0, 1) := by decide +kernel
theorem d_M_rule_82 : decode b_M_rule 82 = .ok (.getfield 40, 3) := by decide +kernel
theorem d_M_rule_85 : decode b_M_rule 85 = .ok (.iload_n 3, 1) := by decide +kernel
theorem d_M_rule_86 : decode b_M_rule 86 = .ok (.iastore, 1) := by decide +kernel
theorem d_M_rule_87 : decode b_M_rule 87 = .ok (.aload_n 0, 1) := by decide +kernel
theorem d_M_rule_88 : decode b_M_rule 88 = .ok (.getfield 19, 3) := by decide +kernel
theorem d_M_rule_91 : decode b_M_rule 91 = .ok (.aload_n 0, 1) := by decide +kernel
theorem d_M_rule_92 : decode b_M_rule 92 = .ok (.getfield 40, 3) := by decide +kernel
theorem d_M_rule_95 : decode b_M_rule 95 = .ok (.iconst 1, 1) := by decide +kernel
theorem d_M_rule_96 : decode b_M_rule 96 = .ok (.bastore, 1) := by decide +kernel
theorem d_M_rule_97 : decode b_M_rule 97 = .ok (.aload_n 0, 1) := by decide +kernel
theorem d_M_rule_98 : decode b_M_rule 98 = .ok (.dup, 1) := by decide +kernel
theorem d_M_rule_99 : decode b_M_rule 99 = .ok (.getfield 40, 3) := by decide +kernel
theorem d_M_rule_102 : decode b_M_rule 102 = .ok (.iconst 1, 1) := by decide +kernel
theorem d_M_rule_103 : decode b_M_rule 103 = .ok (.iadd, 1) := by decide +kernel
theorem d_M_rule_104 : decode b_M_rule 104 = .ok (.putfield 40, 3) := by decide +kernel
theorem d_M_rule_107 : decode b_M_rule 107 = .ok (.aload_n 0, 1) := by decide +kernel
theorem d_M_rule_108 : decode b_M_rule 108 = .ok (.getfield 40, 3) := by decide +kernel
theorem d_M_rule_111 : decode b_M_rule 111 = .ok (.iconst 1, 1) := by decide +kernel
theorem d_M_rule_112 : decode b_M_rule 112 = .ok (.isub, 1) := by decide +kernel
theorem d_M_rule_113 : decode b_M_rule 113 = .ok (.ireturn, 1) := by decide +kernel
theorem d_M_turn_0 : decode b_M_turn 0 = .ok (.aload_n 0, 1) := by decide +kernel
theorem d_M_turn_1 : decode b_M_turn 1 = .ok (.iload_n 1, 1) := by decide +kernel
theorem d_M_turn_2 : decode b_M_turn 2 = .ok (.iconst 0, 1) := by decide +kernel
theorem d_M_turn_3 : decode b_M_turn 3 = .ok (.aload_n 0, 1) := by decide +kernel
theorem d_M_turn_4 : decode b_M_turn 4 = .ok (.getfield 40, 3) := by decide +kernel
theorem d_M_turn_7 : decode b_M_turn 7 = .ok (.iconst 1, 1) := by decide +kernel
theorem d_M_turn_8 : decode b_M_turn 8 = .ok (.isub, 1) := by decide +kernel
theorem d_M_turn_9 : decode b_M_turn 9 = .ok (.invokestatic 36, 3) := by decide +kernel
theorem d_M_turn_12 : decode b_M_turn 12 = .ok (.ifCond .ne 7, 3) := by decide +kernel
theorem d_M_turn_15 : decode b_M_turn 15 = .ok (.iconst 1, 1) := by decide +kernel
theorem d_M_turn_16 : decode b_M_turn 16 = .ok (.goto 4, 3) := by decide +kernel
theorem d_M_turn_19 : decode b_M_turn 19 = .ok (.iconst 0, 1) := by decide +kernel
theorem d_M_turn_20 : decode b_M_turn 20 = .ok (.iconst 0, 1) := by decide +kernel
theorem d_M_turn_21 : decode b_M_turn 21 = .ok (.invokevirtual 47, 3) := by decide +kernel
theorem d_M_turn_24 : decode b_M_turn 24 = .ok (.ifCond .eq 5, 3) := by decide +kernel
theorem d_M_turn_27 : decode b_M_turn 27 = .ok (.iconst 0, 1) := by decide +kernel
theorem d_M_turn_28 : decode b_M_turn 28 = .ok (.ireturn, 1) := by decide +kernel
theorem d_M_turn_29 : decode b_M_turn 29 = .ok (.aload_n 0, 1) := by decide +kernel
theorem d_M_turn_30 : decode b_M_turn 30 = .ok (.getfield 19, 3) := by decide +kernel
theorem d_M_turn_33 : decode b_M_turn 33 = .ok (.iload_n 1, 1) := by decide +kernel
theorem d_M_turn_34 : decode b_M_turn 34 = .ok (.baload, 1) := by decide +kernel
theorem d_M_turn_35 : decode b_M_turn 35 = .ok (.iload_n 2, 1) := by decide +kernel
theorem d_M_turn_36 : decode b_M_turn 36 = .ok (.if_icmp .ne 7, 3) := by decide +kernel
theorem d_M_turn_39 : decode b_M_turn 39 = .ok (.iconst 1, 1) := by decide +kernel
theorem d_M_turn_40 : decode b_M_turn 40 = .ok (.goto 4, 3) := by decide +kernel
theorem d_M_turn_43 : decode b_M_turn 43 = .ok (.iconst 0, 1) := by decide +kernel
theorem d_M_turn_44 : decode b_M_turn 44 = .ok (.istore_n 3, 1) := by decide +kernel
theorem d_M_turn_45 : decode b_M_turn 45 = .ok (.aload_n 0, 1) := by decide +kernel
theorem d_M_turn_46 : decode b_M_turn 46 = .ok (.getfield 19, 3) := by decide +kernel
theorem d_M_turn_49 : decode b_M_turn 49 = .ok (.iload_n 1, 1) := by decide +kernel
theorem d_M_turn_50 : decode b_M_turn 50 = .ok (.iload_n 2, 1) := by decide +kernel
theorem d_M_turn_51 : decode b_M_turn 51 = .ok (.bastore, 1) := by decide +kernel
theorem d_M_turn_52 : decode b_M_turn 52 = .ok (.iload_n 3, 1) := by decide +kernel
theorem d_M_turn_53 : decode b_M_turn 53 = .ok (.ireturn, 1) := by decide +kernel
theorem d_M_measure_0 : decode b_M_measure 0 = .ok (.iconst 0, 1) := by decide +kernel
theorem d_M_measure_1 : decode b_M_measure 1 = .ok (.istore_n 3, 1) := by decide +kernel
theorem d_M_measure_2 : decode b_M_measure 2 = .ok (.iload_n 3, 1) := by decide +kernel
theorem d_M_measure_3 : decode b_M_measure 3 = .ok (.bipush 28, 2) := by decide +kernel
theorem d_M_measure_5 : decode b_M_measure 5 = .ok (.if_icmp .ge 16, 3) := by decide +kernel
theorem d_M_measure_8 : decode b_M_measure 8 = .ok (.aload_n 0, 1) := by decide +kernel
theorem d_M_measure_9 : decode b_M_measure 9 = .ok (.getfield 23, 3) := by decide +kernel
theorem d_M_measure_12 : decode b_M_measure 12 = .ok (.iload_n 3, 1) := by decide +kernel
theorem d_M_measure_13 : decode b_M_measure 13 = .ok (.iconst (-1), 1) := by decide +kernel
theorem d_M_measure_14 : decode b_M_measure 14 = .ok (.iastore, 1) := by decide +kernel
theorem d_M_measure_15 : decode b_M_measure 15 = .ok (.iinc 3 1, 3) := by decide +kernel
theorem d_M_measure_18 : decode b_M_measure 18 = .ok (.goto (-16), 3) := by decide +kernel
theorem d_M_measure_21 : decode b_M_measure 21 = .ok (.aload_n 0, 1) := by decide +kernel
theorem d_M_measure_22 : decode b_M_measure 22 = .ok (.getfield 23, 3) := by decide +kernel
theorem d_M_measure_25 : decode b_M_measure 25 = .ok (.iload_n 1, 1) := by decide +kernel
theorem d_M_measure_26 : decode b_M_measure 26 = .ok (.iconst 0, 1) := by decide +kernel
theorem d_M_measure_27 : decode b_M_measure 27 = .ok (.iastore, 1) := by decide +kernel
theorem d_M_measure_28 : decode b_M_measure 28 = .ok (.iconst 1, 1) := by decide +kernel
theorem d_M_measure_29 : decode b_M_measure 29 = .ok (.istore_n 3, 1) := by decide +kernel
theorem d_M_measure_30 : decode b_M_measure 30 = .ok (.iconst 0, 1) := by decide +kernel
theorem d_M_measure_31 : decode b_M_measure 31 = .ok (.istore 4, 2) := by decide +kernel
theorem d_M_measure_33 : decode b_M_measure 33 = .ok (.iload_n 3, 1) := by decide +kernel
theorem d_M_measure_34 : decode b_M_measure 34 = .ok (.ifCond .eq 123, 3) := by decide +kernel
theorem d_M_measure_37 : decode b_M_measure 37 = .ok (.iconst 0, 1) := by decide +kernel
theorem d_M_measure_38 : decode b_M_measure 38 = .ok (.istore_n 3, 1) := by decide +kernel
theorem d_M_measure_39 : decode b_M_measure 39 = .ok (.iconst 0, 1) := by decide +kernel
theorem d_M_measure_40 : decode b_M_measure 40 = .ok (.istore 5, 2) := by decide +kernel
theorem d_M_measure_42 : decode b_M_measure 42 = .ok (.iload 5, 2) := by decide +kernel
theorem d_M_measure_44 : decode b_M_measure 44 = .ok (.aload_n 0, 1) := by decide +kernel
theorem d_M_measure_45 : decode b_M_measure 45 = .ok (.getfield 40, 3) := by decide +kernel
theorem d_M_measure_48 : decode b_M_measure 48 = .ok (.if_icmp .ge 103, 3) := by decide +kernel
theorem d_M_measure_51 : decode b_M_measure 51 = .ok (.aload_n 0, 1) := by decide +kernel
theorem d_M_measure_52 : decode b_M_measure 52 = .ok (.getfield 19, 3) := by decide +kernel
theorem d_M_measure_55 : decode b_M_measure 55 = .ok (.iload 5, 2) := by decide +kernel
theorem d_M_measure_57 : decode b_M_measure 57 = .ok (.baload, 1) := by decide +kernel
theorem d_M_measure_58 : decode b_M_measure 58 = .ok (.ifCond .eq 61, 3) := by decide +kernel
theorem d_M_measure_61 : decode b_M_measure 61 = .ok (.aload_n 0, 1) := by decide +kernel
theorem d_M_measure_62 : decode b_M_measure 62 = .ok (.getfield 23, 3) := by decide +kernel
theorem d_M_measure_65 : decode b_M_measure 65 = .ok (.aload_n 0, 1) := by decide +kernel
theorem d_M_measure_66 : decode b_M_measure 66 = .ok (.getfield 13, 3) := by decide +kernel
theorem d_M_measure_69 : decode b_M_measure 69 = .ok (.iload 5, 2) := by decide +kernel
theorem d_M_measure_71 : decode b_M_measure 71 = .ok (.iaload, 1) := by decide +kernel
theorem d_M_measure_72 : decode b_M_measure 72 = .ok (.iaload, 1) := by decide +kernel
theorem d_M_measure_73 : decode b_M_measure 73 = .ok (.iload 4, 2) := by decide +kernel
theorem d_M_measure_75 : decode b_M_measure 75 = .ok (.if_icmp .ne 44, 3) := by decide +kernel
theorem d_M_measure_78 : decode b_M_measure 78 = .ok (.aload_n 0, 1) := by decide +kernel
theorem d_M_measure_79 : decode b_M_measure 79 = .ok (.getfield 23, 3) := by decide +kernel
theorem d_M_measure_82 : decode b_M_measure 82 = .ok (.aload_n 0, 1) := by decide +kernel
theorem d_M_measure_83 : decode b_M_measure 83 = .ok (.getfield 7, 3) := by decide +kernel
theorem d_M_measure_86 : decode b_M_measure 86 = .ok (.iload 5, 2) := by decide +kernel
theorem d_M_measure_88 : decode b_M_measure 88 = .ok (.iaload, 1) := by decide +kernel
theorem d_M_measure_89 : decode b_M_measure 89 = .ok (.iaload, 1) := by decide +kernel
theorem d_M_measure_90 : decode b_M_measure 90 = .ok (.ifCond .ge 29, 3) := by decide +kernel
theorem d_M_measure_93 : decode b_M_measure 93 = .ok (.aload_n 0, 1) := by decide +kernel
theorem d_M_measure_94 : decode b_M_measure 94 = .ok (.getfield 7, 3) := by decide +kernel
theorem d_M_measure_97 : decode b_M_measure 97 = .ok (.iload 5, 2) := by decide +kernel
theorem d_M_measure_99 : decode b_M_measure 99 = .ok (.iaload, 1) := by decide +kernel
theorem d_M_measure_100 : decode b_M_measure 100 = .ok (.iload_n 2, 1) := by decide +kernel
theorem d_M_measure_101 : decode b_M_measure 101 = .ok (.if_icmp .eq 18, 3) := by decide +kernel
theorem d_M_measure_104 : decode b_M_measure 104 = .ok (.aload_n 0, 1) := by decide +kernel
theorem d_M_measure_105 : decode b_M_measure 105 = .ok (.getfield 13, 3) := by decide +kernel
theorem d_M_measure_108 : decode b_M_measure 108 = .ok (.iload 5, 2) := by decide +kernel
theorem d_M_measure_110 : decode b_M_measure 110 = .ok (.iaload, 1) := by decide +kernel
theorem d_M_measure_111 : decode b_M_measure 111 = .ok (.iload_n 2, 1) := by decide +kernel
theorem d_M_measure_112 : decode b_M_measure 112 = .ok (.if_icmp .eq 7, 3) := by decide +kernel
theorem d_M_measure_115 : decode b_M_measure 115 = .ok (.iconst 1, 1) := by decide +kernel
theorem d_M_measure_116 : decode b_M_measure 116 = .ok (.goto 4, 3) := by decide +kernel
theorem d_M_measure_119 : decode b_M_measure 119 = .ok (.iconst 0, 1) := by decide +kernel
theorem d_M_measure_120 : decode b_M_measure 120 = .ok (.istore 6, 2) := by decide +kernel
theorem d_M_measure_122 : decode b_M_measure 122 = .ok (.iload 6, 2) := by decide +kernel
theorem d_M_measure_124 : decode b_M_measure 124 = .ok (.ifCond .eq 21, 3) := by decide +kernel
theorem d_M_measure_127 : decode b_M_measure 127 = .ok (.aload_n 0, 1) := by decide +kernel
theorem d_M_measure_128 : decode b_M_measure 128 = .ok (.getfield 23, 3) := by decide +kernel
theorem d_M_measure_131 : decode b_M_measure 131 = .ok (.aload_n 0, 1) := by decide +kernel
theorem d_M_measure_132 : decode b_M_measure 132 = .ok (.getfield 7, 3) := by decide +kernel
theorem d_M_measure_135 : decode b_M_measure 135 = .ok (.iload 5, 2) := by decide +kernel
theorem d_M_measure_137 : decode b_M_measure 137 = .ok (.iaload, 1) := by decide +kernel
theorem d_M_measure_138 : decode b_M_measure 138 = .ok (.iload 4, 2) := by decide +kernel
theorem d_M_measure_140 : decode b_M_measure 140 = .ok (.iconst 1, 1) := by decide +kernel
theorem d_M_measure_141 : decode b_M_measure 141 = .ok (.iadd, 1) := by decide +kernel
theorem d_M_measure_142 : decode b_M_measure 142 = .ok (.iastore, 1) := by decide +kernel
theorem d_M_measure_143 : decode b_M_measure 143 = .ok (.iconst 1, 1) := by decide +kernel
theorem d_M_measure_144 : decode b_M_measure 144 = .ok (.istore_n 3, 1) := by decide +kernel
theorem d_M_measure_145 : decode b_M_measure 145 = .ok (.iinc 5 1, 3) := by decide +kernel
theorem d_M_measure_148 : decode b_M_measure 148 = .ok (.goto (-106), 3) := by decide +kernel
theorem d_M_measure_151 : decode b_M_measure 151 = .ok (.iinc 4 1, 3) := by decide +kernel
theorem d_M_measure_154 : decode b_M_measure 154 = .ok (.goto (-121), 3) := by decide +kernel
theorem d_M_measure_157 : decode b_M_measure 157 = .ok (.return_, 1) := by decide +kernel
theorem d_M_length_0 : decode b_M_length 0 = .ok (.aload_n 0, 1) := by decide +kernel
theorem d_M_length_1 : decode b_M_length 1 = .ok (.iload_n 1, 1) := by decide +kernel
theorem d_M_length_2 : decode b_M_length 2 = .ok (.invokestatic 43, 3) := by decide +kernel
theorem d_M_length_5 : decode b_M_length 5 = .ok (.ifCond .eq 10, 3) := by decide +kernel
theorem d_M_length_8 : decode b_M_length 8 = .ok (.iload_n 2, 1) := by decide +kernel
theorem d_M_length_9 : decode b_M_length 9 = .ok (.invokestatic 43, 3) := by decide +kernel
theorem d_M_length_12 : decode b_M_length 12 = .ok (.ifCond .ne 7, 3) := by decide +kernel
theorem d_M_length_15 : decode b_M_length 15 = .ok (.iconst 1, 1) := by decide +kernel
theorem d_M_length_16 : decode b_M_length 16 = .ok (.goto 4, 3) := by decide +kernel
theorem d_M_length_19 : decode b_M_length 19 = .ok (.iconst 0, 1) := by decide +kernel
theorem d_M_length_20 : decode b_M_length 20 = .ok (.iconst 0, 1) := by decide +kernel
theorem d_M_length_21 : decode b_M_length 21 = .ok (.invokevirtual 47, 3) := by decide +kernel
theorem d_M_length_24 : decode b_M_length 24 = .ok (.ifCond .eq 5, 3) := by decide +kernel
theorem d_M_length_27 : decode b_M_length 27 = .ok (.iconst 0, 1) := by decide +kernel
theorem d_M_length_28 : decode b_M_length 28 = .ok (.ireturn, 1) := by decide +kernel
theorem d_M_length_29 : decode b_M_length 29 = .ok (.aload_n 0, 1) := by decide +kernel
theorem d_M_length_30 : decode b_M_length 30 = .ok (.iload_n 2, 1) := by decide +kernel
theorem d_M_length_31 : decode b_M_length 31 = .ok (.iconst (-1), 1) := by decide +kernel
theorem d_M_length_32 : decode b_M_length 32 = .ok (.invokevirtual 51, 3) := by decide +kernel
theorem d_M_length_35 : decode b_M_length 35 = .ok (.aload_n 0, 1) := by decide +kernel
theorem d_M_length_36 : decode b_M_length 36 = .ok (.getfield 23, 3) := by decide +kernel
theorem d_M_length_39 : decode b_M_length 39 = .ok (.iload_n 1, 1) := by decide +kernel
theorem d_M_length_40 : decode b_M_length 40 = .ok (.iaload, 1) := by decide +kernel
theorem d_M_length_41 : decode b_M_length 41 = .ok (.ireturn, 1) := by decide +kernel
theorem d_M_step_0 : decode b_M_step 0 = .ok (.iload_n 1, 1) := by decide +kernel
theorem d_M_step_1 : decode b_M_step 1 = .ok (.invokestatic 43, 3) := by decide +kernel
theorem d_M_step_4 : decode b_M_step 4 = .ok (.ifCond .eq 14, 3) := by decide +kernel
theorem d_M_step_7 : decode b_M_step 7 = .ok (.iload_n 2, 1) := by decide +kernel
theorem d_M_step_8 : decode b_M_step 8 = .ok (.invokestatic 43, 3) := by decide +kernel
theorem d_M_step_11 : decode b_M_step 11 = .ok (.ifCond .eq 7, 3) := by decide +kernel
theorem d_M_step_14 : decode b_M_step 14 = .ok (.iconst 1, 1) := by decide +kernel
theorem d_M_step_15 : decode b_M_step 15 = .ok (.goto 4, 3) := by decide +kernel
theorem d_M_step_18 : decode b_M_step 18 = .ok (.iconst 0, 1) := by decide +kernel
theorem d_M_step_19 : decode b_M_step 19 = .ok (.istore 4, 2) := by decide +kernel
theorem d_M_step_21 : decode b_M_step 21 = .ok (.iload 4, 2) := by decide +kernel
theorem d_M_step_23 : decode b_M_step 23 = .ok (.ifCond .eq 9, 3) := by decide +kernel
theorem d_M_step_26 : decode b_M_step 26 = .ok (.aload_n 0, 1) := by decide +kernel
theorem d_M_step_27 : decode b_M_step 27 = .ok (.iload_n 2, 1) := by decide +kernel
theorem d_M_step_28 : decode b_M_step 28 = .ok (.iconst (-1), 1) := by decide +kernel
theorem d_M_step_29 : decode b_M_step 29 = .ok (.invokevirtual 51, 3) := by decide +kernel
theorem d_M_step_32 : decode b_M_step 32 = .ok (.aload_n 0, 1) := by decide +kernel
theorem d_M_step_33 : decode b_M_step 33 = .ok (.iload 4, 2) := by decide +kernel
theorem d_M_step_35 : decode b_M_step 35 = .ok (.ifCond .ne 7, 3) := by decide +kernel
theorem d_M_step_38 : decode b_M_step 38 = .ok (.iconst 1, 1) := by decide +kernel
theorem d_M_step_39 : decode b_M_step 39 = .ok (.goto 4, 3) := by decide +kernel
theorem d_M_step_42 : decode b_M_step 42 = .ok (.iconst 0, 1) := by decide +kernel
theorem d_M_step_43 : decode b_M_step 43 = .ok (.iload 4, 2) := by decide +kernel
theorem d_M_step_45 : decode b_M_step 45 = .ok (.ifCond .eq 32, 3) := by decide +kernel
theorem d_M_step_48 : decode b_M_step 48 = .ok (.iload_n 3, 1) := by decide +kernel
theorem d_M_step_49 : decode b_M_step 49 = .ok (.iconst 0, 1) := by decide +kernel
theorem d_M_step_50 : decode b_M_step 50 = .ok (.aload_n 0, 1) := by decide +kernel
theorem d_M_step_51 : decode b_M_step 51 = .ok (.getfield 23, 3) := by decide +kernel
theorem d_M_step_54 : decode b_M_step 54 = .ok (.iload 4, 2) := by decide +kernel
theorem d_M_step_56 : decode b_M_step 56 = .ok (.ifCond .eq 7, 3) := by decide +kernel
theorem d_M_step_59 : decode b_M_step 59 = .ok (.iload_n 1, 1) := by decide +kernel
theorem d_M_step_60 : decode b_M_step 60 = .ok (.goto 4, 3) := by decide +kernel
theorem d_M_step_63 : decode b_M_step 63 = .ok (.iconst 0, 1) := by decide +kernel
theorem d_M_step_64 : decode b_M_step 64 = .ok (.iaload, 1) := by decide +kernel
theorem d_M_step_65 : decode b_M_step 65 = .ok (.iconst 1, 1) := by decide +kernel
theorem d_M_step_66 : decode b_M_step 66 = .ok (.isub, 1) := by decide +kernel
theorem d_M_step_67 : decode b_M_step 67 = .ok (.invokestatic 36, 3) := by decide +kernel
theorem d_M_step_70 : decode b_M_step 70 = .ok (.ifCond .ne 7, 3) := by decide +kernel
theorem d_M_step_73 : decode b_M_step 73 = .ok (.iconst 1, 1) := by decide +kernel
theorem d_M_step_74 : decode b_M_step 74 = .ok (.goto 4, 3) := by decide +kernel
theorem d_M_step_77 : decode b_M_step 77 = .ok (.iconst 0, 1) := by decide +kernel
theorem d_M_step_78 : decode b_M_step 78 = .ok (.invokevirtual 47, 3) := by decide +kernel
theorem d_M_step_81 : decode b_M_step 81 = .ok (.ifCond .eq 5, 3) := by decide +kernel
theorem d_M_step_84 : decode b_M_step 84 = .ok (.iconst 0, 1) := by decide +kernel
theorem d_M_step_85 : decode b_M_step 85 = .ok (.ireturn, 1) := by decide +kernel
theorem d_M_step_86 : decode b_M_step 86 = .ok (.iload_n 1, 1) := by decide +kernel
theorem d_M_step_87 : decode b_M_step 87 = .ok (.istore 5, 2) := by decide +kernel
theorem d_M_step_89 : decode b_M_step 89 = .ok (.iconst (-1), 1) := by decide +kernel
theorem d_M_step_90 : decode b_M_step 90 = .ok (.istore 6, 2) := by decide +kernel
theorem d_M_step_92 : decode b_M_step 92 = .ok (.iconst 0, 1) := by decide +kernel
theorem d_M_step_93 : decode b_M_step 93 = .ok (.istore 7, 2) := by decide +kernel
theorem d_M_step_95 : decode b_M_step 95 = .ok (.iload 7, 2) := by decide +kernel
theorem d_M_step_97 : decode b_M_step 97 = .ok (.iload_n 3, 1) := by decide +kernel
theorem d_M_step_98 : decode b_M_step 98 = .ok (.if_icmp .gt 95, 3) := by decide +kernel
theorem d_M_step_101 : decode b_M_step 101 = .ok (.iconst (-1), 1) := by decide +kernel
theorem d_M_step_102 : decode b_M_step 102 = .ok (.istore 6, 2) := by decide +kernel
theorem d_M_step_104 : decode b_M_step 104 = .ok (.aload_n 0, 1) := by decide +kernel
theorem d_M_step_105 : decode b_M_step 105 = .ok (.getfield 40, 3) := by decide +kernel
theorem d_M_step_108 : decode b_M_step 108 = .ok (.iconst 1, 1) := by decide +kernel
theorem d_M_step_109 : decode b_M_step 109 = .ok (.isub, 1) := by decide +kernel
theorem d_M_step_110 : decode b_M_step 110 = .ok (.istore 8, 2) := by decide +kernel
theorem d_M_step_112 : decode b_M_step 112 = .ok (.iload 8, 2) := by decide +kernel
theorem d_M_step_114 : decode b_M_step 114 = .ok (.ifCond .lt 64, 3) := by decide +kernel
theorem d_M_step_117 : decode b_M_step 117 = .ok (.aload_n 0, 1) := by decide +kernel
theorem d_M_step_118 : decode b_M_step 118 = .ok (.getfield 19, 3) := by decide +kernel
theorem d_M_step_121 : decode b_M_step 121 = .ok (.iload 8, 2) := by decide +kernel
theorem d_M_step_123 : decode b_M_step 123 = .ok (.baload, 1) := by decide +kernel
theorem d_M_step_124 : decode b_M_step 124 = .ok (.ifCond .eq 44, 3) := by decide +kernel
theorem d_M_step_127 : decode b_M_step 127 = .ok (.aload_n 0, 1) := by decide +kernel
theorem d_M_step_128 : decode b_M_step 128 = .ok (.getfield 7, 3) := by decide +kernel
theorem d_M_step_131 : decode b_M_step 131 = .ok (.iload 8, 2) := by decide +kernel
theorem d_M_step_133 : decode b_M_step 133 = .ok (.iaload, 1) := by decide +kernel
theorem d_M_step_134 : decode b_M_step 134 = .ok (.iload 5, 2) := by decide +kernel
theorem d_M_step_136 : decode b_M_step 136 = .ok (.if_icmp .ne 32, 3) := by decide +kernel
theorem d_M_step_139 : decode b_M_step 139 = .ok (.aload_n 0, 1) := by decide +kernel
theorem d_M_step_140 : decode b_M_step 140 = .ok (.getfield 23, 3) := by decide +kernel
theorem d_M_step_143 : decode b_M_step 143 = .ok (.aload_n 0, 1) := by decide +kernel
theorem d_M_step_144 : decode b_M_step 144 = .ok (.getfield 13, 3) := by decide +kernel
theorem d_M_step_147 : decode b_M_step 147 = .ok (.iload 8, 2) := by decide +kernel
theorem d_M_step_149 : decode b_M_step 149 = .ok (.iaload, 1) := by decide +kernel
theorem d_M_step_150 : decode b_M_step 150 = .ok (.iaload, 1) := by decide +kernel
theorem d_M_step_151 : decode b_M_step 151 = .ok (.aload_n 0, 1) := by decide +kernel
theorem d_M_step_152 : decode b_M_step 152 = .ok (.getfield 23, 3) := by decide +kernel
theorem d_M_step_155 : decode b_M_step 155 = .ok (.iload 5, 2) := by decide +kernel
theorem d_M_step_157 : decode b_M_step 157 = .ok (.iaload, 1) := by decide +kernel
theorem d_M_step_158 : decode b_M_step 158 = .ok (.iconst 1, 1) := by decide +kernel
theorem d_M_step_159 : decode b_M_step 159 = .ok (.isub, 1) := by decide +kernel
theorem d_M_step_160 : decode b_M_step 160 = .ok (.if_icmp .ne 8, 3) := by decide +kernel
theorem d_M_step_163 : decode b_M_step 163 = .ok (.iload 8, 2) := by decide +kernel
theorem d_M_step_165 : decode b_M_step 165 = .ok (.goto 5, 3) := by decide +kernel
theorem d_M_step_168 : decode b_M_step 168 = .ok (.iload 6, 2) := by decide +kernel
theorem d_M_step_170 : decode b_M_step 170 = .ok (.istore 6, 2) := by decide +kernel
theorem d_M_step_172 : decode b_M_step 172 = .ok (.iinc 8 (-1), 3) := by decide +kernel
theorem d_M_step_175 : decode b_M_step 175 = .ok (.goto (-63), 3) := by decide +kernel
theorem d_M_step_178 : decode b_M_step 178 = .ok (.aload_n 0, 1) := by decide +kernel
theorem d_M_step_179 : decode b_M_step 179 = .ok (.getfield 13, 3) := by decide +kernel
theorem d_M_step_182 : decode b_M_step 182 = .ok (.iload 6, 2) := by decide +kernel
theorem d_M_step_184 : decode b_M_step 184 = .ok (.iaload, 1) := by decide +kernel
theorem d_M_step_185 : decode b_M_step 185 = .ok (.istore 5, 2) := by decide +kernel
theorem d_M_step_187 : decode b_M_step 187 = .ok (.iinc 7 1, 3) := by decide +kernel
theorem d_M_step_190 : decode b_M_step 190 = .ok (.goto (-95), 3) := by decide +kernel
theorem d_M_step_193 : decode b_M_step 193 = .ok (.iload 6, 2) := by decide +kernel
theorem d_M_step_195 : decode b_M_step 195 = .ok (.ireturn, 1) := by decide +kernel
theorem d_M_passed_0 : decode b_M_passed 0 = .ok (.aload_n 0, 1) := by decide +kernel
theorem d_M_passed_1 : decode b_M_passed 1 = .ok (.iload_n 1, 1) := by decide +kernel
theorem d_M_passed_2 : decode b_M_passed 2 = .ok (.invokestatic 43, 3) := by decide +kernel
theorem d_M_passed_5 : decode b_M_passed 5 = .ok (.ifCond .eq 10, 3) := by decide +kernel
theorem d_M_passed_8 : decode b_M_passed 8 = .ok (.iload_n 2, 1) := by decide +kernel
theorem d_M_passed_9 : decode b_M_passed 9 = .ok (.invokestatic 43, 3) := by decide +kernel
theorem d_M_passed_12 : decode b_M_passed 12 = .ok (.ifCond .ne 7, 3) := by decide +kernel
theorem d_M_passed_15 : decode b_M_passed 15 = .ok (.iconst 1, 1) := by decide +kernel
theorem d_M_passed_16 : decode b_M_passed 16 = .ok (.goto 4, 3) := by decide +kernel
theorem d_M_passed_19 : decode b_M_passed 19 = .ok (.iconst 0, 1) := by decide +kernel
theorem d_M_passed_20 : decode b_M_passed 20 = .ok (.iconst 0, 1) := by decide +kernel
theorem d_M_passed_21 : decode b_M_passed 21 = .ok (.invokevirtual 47, 3) := by decide +kernel
theorem d_M_passed_24 : decode b_M_passed 24 = .ok (.ifCond .eq 5, 3) := by decide +kernel
theorem d_M_passed_27 : decode b_M_passed 27 = .ok (.iconst 0, 1) := by decide +kernel
theorem d_M_passed_28 : decode b_M_passed 28 = .ok (.ireturn, 1) := by decide +kernel
theorem d_M_passed_29 : decode b_M_passed 29 = .ok (.aload_n 0, 1) := by decide +kernel
theorem d_M_passed_30 : decode b_M_passed 30 = .ok (.iload_n 2, 1) := by decide +kernel
theorem d_M_passed_31 : decode b_M_passed 31 = .ok (.iconst (-1), 1) := by decide +kernel
theorem d_M_passed_32 : decode b_M_passed 32 = .ok (.invokevirtual 51, 3) := by decide +kernel
theorem d_M_passed_35 : decode b_M_passed 35 = .ok (.iconst 0, 1) := by decide +kernel
theorem d_M_passed_36 : decode b_M_passed 36 = .ok (.istore_n 3, 1) := by decide +kernel
theorem d_M_passed_37 : decode b_M_passed 37 = .ok (.aload_n 0, 1) := by decide +kernel
theorem d_M_passed_38 : decode b_M_passed 38 = .ok (.getfield 23, 3) := by decide +kernel
theorem d_M_passed_41 : decode b_M_passed 41 = .ok (.iload_n 1, 1) := by decide +kernel
theorem d_M_passed_42 : decode b_M_passed 42 = .ok (.iaload, 1) := by decide +kernel
theorem d_M_passed_43 : decode b_M_passed 43 = .ok (.ifCond .lt 7, 3) := by decide +kernel
theorem d_M_passed_46 : decode b_M_passed 46 = .ok (.iconst 1, 1) := by decide +kernel
theorem d_M_passed_47 : decode b_M_passed 47 = .ok (.goto 4, 3) := by decide +kernel
theorem d_M_passed_50 : decode b_M_passed 50 = .ok (.iconst 0, 1) := by decide +kernel
theorem d_M_passed_51 : decode b_M_passed 51 = .ok (.istore 4, 2) := by decide +kernel
theorem d_M_passed_53 : decode b_M_passed 53 = .ok (.iconst 0, 1) := by decide +kernel
theorem d_M_passed_54 : decode b_M_passed 54 = .ok (.istore 5, 2) := by decide +kernel
theorem d_M_passed_56 : decode b_M_passed 56 = .ok (.iload 5, 2) := by decide +kernel
theorem d_M_passed_58 : decode b_M_passed 58 = .ok (.bipush 28, 2) := by decide +kernel
theorem d_M_passed_60 : decode b_M_passed 60 = .ok (.if_icmp .ge 53, 3) := by decide +kernel
theorem d_M_passed_63 : decode b_M_passed 63 = .ok (.iload 4, 2) := by decide +kernel
theorem d_M_passed_65 : decode b_M_passed 65 = .ok (.ifCond .eq 48, 3) := by decide +kernel
theorem d_M_passed_68 : decode b_M_passed 68 = .ok (.iload 5, 2) := by decide +kernel
theorem d_M_passed_70 : decode b_M_passed 70 = .ok (.iload_n 1, 1) := by decide +kernel
theorem d_M_passed_71 : decode b_M_passed 71 = .ok (.if_icmp .eq 36, 3) := by decide +kernel
theorem d_M_passed_74 : decode b_M_passed 74 = .ok (.iload 5, 2) := by decide +kernel
theorem d_M_passed_76 : decode b_M_passed 76 = .ok (.iload_n 2, 1) := by decide +kernel
theorem d_M_passed_77 : decode b_M_passed 77 = .ok (.if_icmp .eq 30, 3) := by decide +kernel
theorem d_M_passed_80 : decode b_M_passed 80 = .ok (.aload_n 0, 1) := by decide +kernel
theorem d_M_passed_81 : decode b_M_passed 81 = .ok (.iload_n 2, 1) := by decide +kernel
theorem d_M_passed_82 : decode b_M_passed 82 = .ok (.iload 5, 2) := by decide +kernel
theorem d_M_passed_84 : decode b_M_passed 84 = .ok (.invokevirtual 51, 3) := by decide +kernel
theorem d_M_passed_87 : decode b_M_passed 87 = .ok (.aload_n 0, 1) := by decide +kernel
theorem d_M_passed_88 : decode b_M_passed 88 = .ok (.getfield 23, 3) := by decide +kernel
theorem d_M_passed_91 : decode b_M_passed 91 = .ok (.iload_n 1, 1) := by decide +kernel
theorem d_M_passed_92 : decode b_M_passed 92 = .ok (.iaload, 1) := by decide +kernel
theorem d_M_passed_93 : decode b_M_passed 93 = .ok (.ifCond .ge 12, 3) := by decide +kernel
theorem d_M_passed_96 : decode b_M_passed 96 = .ok (.iload_n 3, 1) := by decide +kernel
theorem d_M_passed_97 : decode b_M_passed 97 = .ok (.iconst 1, 1) := by decide +kernel
theorem d_M_passed_98 : decode b_M_passed 98 = .ok (.iload 5, 2) := by decide +kernel
theorem d_M_passed_100 : decode b_M_passed 100 = .ok (.ishl, 1) := by decide +kernel
theorem d_M_passed_101 : decode b_M_passed 101 = .ok (.ior, 1) := by decide +kernel
theorem d_M_passed_102 : decode b_M_passed 102 = .ok (.goto 4, 3) := by decide +kernel
theorem d_M_passed_105 : decode b_M_passed 105 = .ok (.iload_n 3, 1) := by decide +kernel
theorem d_M_passed_106 : decode b_M_passed 106 = .ok (.istore_n 3, 1) := by decide +kernel
theorem d_M_passed_107 : decode b_M_passed 107 = .ok (.iinc 5 1, 3) := by decide +kernel
theorem d_M_passed_110 : decode b_M_passed 110 = .ok (.goto (-54), 3) := by decide +kernel
theorem d_M_passed_113 : decode b_M_passed 113 = .ok (.iload_n 3, 1) := by decide +kernel
theorem d_M_passed_114 : decode b_M_passed 114 = .ok (.ireturn, 1) := by decide +kernel
theorem d_M_before_0 : decode b_M_before 0 = .ok (.aload_n 0, 1) := by decide +kernel
theorem d_M_before_1 : decode b_M_before 1 = .ok (.iload_n 1, 1) := by decide +kernel
theorem d_M_before_2 : decode b_M_before 2 = .ok (.iconst (-1), 1) := by decide +kernel
theorem d_M_before_3 : decode b_M_before 3 = .ok (.invokevirtual 51, 3) := by decide +kernel
theorem d_M_before_6 : decode b_M_before 6 = .ok (.iconst 0, 1) := by decide +kernel
theorem d_M_before_7 : decode b_M_before 7 = .ok (.istore_n 2, 1) := by decide +kernel
theorem d_M_before_8 : decode b_M_before 8 = .ok (.iconst 0, 1) := by decide +kernel
theorem d_M_before_9 : decode b_M_before 9 = .ok (.istore_n 3, 1) := by decide +kernel
theorem d_M_before_10 : decode b_M_before 10 = .ok (.iload_n 3, 1) := by decide +kernel
theorem d_M_before_11 : decode b_M_before 11 = .ok (.bipush 28, 2) := by decide +kernel
theorem d_M_before_13 : decode b_M_before 13 = .ok (.if_icmp .ge 28, 3) := by decide +kernel
theorem d_M_before_16 : decode b_M_before 16 = .ok (.aload_n 0, 1) := by decide +kernel
theorem d_M_before_17 : decode b_M_before 17 = .ok (.getfield 23, 3) := by decide +kernel
theorem d_M_before_20 : decode b_M_before 20 = .ok (.iload_n 3, 1) := by decide +kernel
theorem d_M_before_21 : decode b_M_before 21 = .ok (.iaload, 1) := by decide +kernel
theorem d_M_before_22 : decode b_M_before 22 = .ok (.ifCond .lt 11, 3) := by decide +kernel
theorem d_M_before_25 : decode b_M_before 25 = .ok (.iload_n 2, 1) := by decide +kernel
theorem d_M_before_26 : decode b_M_before 26 = .ok (.iconst 1, 1) := by decide +kernel
theorem d_M_before_27 : decode b_M_before 27 = .ok (.iload_n 3, 1) := by decide +kernel
theorem d_M_before_28 : decode b_M_before 28 = .ok (.ishl, 1) := by decide +kernel
theorem d_M_before_29 : decode b_M_before 29 = .ok (.ior, 1) := by decide +kernel
theorem d_M_before_30 : decode b_M_before 30 = .ok (.goto 4, 3) := by decide +kernel
theorem d_M_before_33 : decode b_M_before 33 = .ok (.iload_n 2, 1) := by decide +kernel
theorem d_M_before_34 : decode b_M_before 34 = .ok (.istore_n 2, 1) := by decide +kernel
theorem d_M_before_35 : decode b_M_before 35 = .ok (.iinc 3 1, 3) := by decide +kernel
theorem d_M_before_38 : decode b_M_before 38 = .ok (.goto (-28), 3) := by decide +kernel
theorem d_M_before_41 : decode b_M_before 41 = .ok (.iload_n 2, 1) := by decide +kernel
theorem d_M_before_42 : decode b_M_before 42 = .ok (.ireturn, 1) := by decide +kernel
theorem d_M_circleOf_0 : decode b_M_circleOf 0 = .ok (.aload_n 0, 1) := by decide +kernel
theorem d_M_circleOf_1 : decode b_M_circleOf 1 = .ok (.iload_n 1, 1) := by decide +kernel
theorem d_M_circleOf_2 : decode b_M_circleOf 2 = .ok (.invokevirtual 55, 3) := by decide +kernel
theorem d_M_circleOf_5 : decode b_M_circleOf 5 = .ok (.istore_n 2, 1) := by decide +kernel
theorem d_M_circleOf_6 : decode b_M_circleOf 6 = .ok (.iconst 0, 1) := by decide +kernel
theorem d_M_circleOf_7 : decode b_M_circleOf 7 = .ok (.istore_n 3, 1) := by decide +kernel
theorem d_M_circleOf_8 : decode b_M_circleOf 8 = .ok (.iconst 0, 1) := by decide +kernel
theorem d_M_circleOf_9 : decode b_M_circleOf 9 = .ok (.istore 4, 2) := by decide +kernel
theorem d_M_circleOf_11 : decode b_M_circleOf 11 = .ok (.iload 4, 2) := by decide +kernel
theorem d_M_circleOf_13 : decode b_M_circleOf 13 = .ok (.bipush 28, 2) := by decide +kernel
theorem d_M_circleOf_15 : decode b_M_circleOf 15 = .ok (.if_icmp .ge 44, 3) := by decide +kernel
theorem d_M_circleOf_18 : decode b_M_circleOf 18 = .ok (.iload_n 2, 1) := by decide +kernel
theorem d_M_circleOf_19 : decode b_M_circleOf 19 = .ok (.iload 4, 2) := by decide +kernel
theorem d_M_circleOf_21 : decode b_M_circleOf 21 = .ok (.ishr, 1) := by decide +kernel
theorem d_M_circleOf_22 : decode b_M_circleOf 22 = .ok (.iconst 1, 1) := by decide +kernel
theorem d_M_circleOf_23 : decode b_M_circleOf 23 = .ok (.iand, 1) := by decide +kernel
theorem d_M_circleOf_24 : decode b_M_circleOf 24 = .ok (.iconst 1, 1) := by decide +kernel
theorem d_M_circleOf_25 : decode b_M_circleOf 25 = .ok (.if_icmp .ne 26, 3) := by decide +kernel
theorem d_M_circleOf_28 : decode b_M_circleOf 28 = .ok (.aload_n 0, 1) := by decide +kernel
theorem d_M_circleOf_29 : decode b_M_circleOf 29 = .ok (.iload 4, 2) := by decide +kernel
theorem d_M_circleOf_31 : decode b_M_circleOf 31 = .ok (.invokevirtual 55, 3) := by decide +kernel
theorem d_M_circleOf_34 : decode b_M_circleOf 34 = .ok (.iload_n 1, 1) := by decide +kernel
theorem d_M_circleOf_35 : decode b_M_circleOf 35 = .ok (.ishr, 1) := by decide +kernel
theorem d_M_circleOf_36 : decode b_M_circleOf 36 = .ok (.iconst 1, 1) := by decide +kernel
theorem d_M_circleOf_37 : decode b_M_circleOf 37 = .ok (.iand, 1) := by decide +kernel
theorem d_M_circleOf_38 : decode b_M_circleOf 38 = .ok (.iconst 1, 1) := by decide +kernel
theorem d_M_circleOf_39 : decode b_M_circleOf 39 = .ok (.if_icmp .ne 12, 3) := by decide +kernel
theorem d_M_circleOf_42 : decode b_M_circleOf 42 = .ok (.iload_n 3, 1) := by decide +kernel
theorem d_M_circleOf_43 : decode b_M_circleOf 43 = .ok (.iconst 1, 1) := by decide +kernel
theorem d_M_circleOf_44 : decode b_M_circleOf 44 = .ok (.iload 4, 2) := by decide +kernel
theorem d_M_circleOf_46 : decode b_M_circleOf 46 = .ok (.ishl, 1) := by decide +kernel
theorem d_M_circleOf_47 : decode b_M_circleOf 47 = .ok (.ior, 1) := by decide +kernel
theorem d_M_circleOf_48 : decode b_M_circleOf 48 = .ok (.goto 4, 3) := by decide +kernel
theorem d_M_circleOf_51 : decode b_M_circleOf 51 = .ok (.iload_n 3, 1) := by decide +kernel
theorem d_M_circleOf_52 : decode b_M_circleOf 52 = .ok (.istore_n 3, 1) := by decide +kernel
theorem d_M_circleOf_53 : decode b_M_circleOf 53 = .ok (.iinc 4 1, 3) := by decide +kernel
theorem d_M_circleOf_56 : decode b_M_circleOf 56 = .ok (.goto (-45), 3) := by decide +kernel
theorem d_M_circleOf_59 : decode b_M_circleOf 59 = .ok (.iload_n 3, 1) := by decide +kernel
theorem d_M_circleOf_60 : decode b_M_circleOf 60 = .ok (.ireturn, 1) := by decide +kernel
theorem d_M_circle_0 : decode b_M_circle 0 = .ok (.aload_n 0, 1) := by decide +kernel
theorem d_M_circle_1 : decode b_M_circle 1 = .ok (.iload_n 1, 1) := by decide +kernel
theorem d_M_circle_2 : decode b_M_circle 2 = .ok (.invokestatic 43, 3) := by decide +kernel
theorem d_M_circle_5 : decode b_M_circle 5 = .ok (.ifCond .ne 7, 3) := by decide +kernel
theorem d_M_circle_8 : decode b_M_circle 8 = .ok (.iconst 1, 1) := by decide +kernel
theorem d_M_circle_9 : decode b_M_circle 9 = .ok (.goto 4, 3) := by decide +kernel
theorem d_M_circle_12 : decode b_M_circle 12 = .ok (.iconst 0, 1) := by decide +kernel
theorem d_M_circle_13 : decode b_M_circle 13 = .ok (.iconst 0, 1) := by decide +kernel
theorem d_M_circle_14 : decode b_M_circle 14 = .ok (.invokevirtual 47, 3) := by decide +kernel
theorem d_M_circle_17 : decode b_M_circle 17 = .ok (.ifCond .eq 7, 3) := by decide +kernel
theorem d_M_circle_20 : decode b_M_circle 20 = .ok (.iconst 0, 1) := by decide +kernel
theorem d_M_circle_21 : decode b_M_circle 21 = .ok (.goto 8, 3) := by decide +kernel
theorem d_M_circle_24 : decode b_M_circle 24 = .ok (.aload_n 0, 1) := by decide +kernel
theorem d_M_circle_25 : decode b_M_circle 25 = .ok (.iload_n 1, 1) := by decide +kernel
theorem d_M_circle_26 : decode b_M_circle 26 = .ok (.invokevirtual 59, 3) := by decide +kernel
theorem d_M_circle_29 : decode b_M_circle 29 = .ok (.ireturn, 1) := by decide +kernel
theorem d_M_circles_0 : decode b_M_circles 0 = .ok (.aload_n 0, 1) := by decide +kernel
theorem d_M_circles_1 : decode b_M_circles 1 = .ok (.iconst 0, 1) := by decide +kernel
theorem d_M_circles_2 : decode b_M_circles 2 = .ok (.putfield 32, 3) := by decide +kernel
theorem d_M_circles_5 : decode b_M_circles 5 = .ok (.iconst 0, 1) := by decide +kernel
theorem d_M_circles_6 : decode b_M_circles 6 = .ok (.istore_n 1, 1) := by decide +kernel
theorem d_M_circles_7 : decode b_M_circles 7 = .ok (.iconst 0, 1) := by decide +kernel
theorem d_M_circles_8 : decode b_M_circles 8 = .ok (.istore_n 2, 1) := by decide +kernel
theorem d_M_circles_9 : decode b_M_circles 9 = .ok (.iload_n 2, 1) := by decide +kernel
theorem d_M_circles_10 : decode b_M_circles 10 = .ok (.bipush 28, 2) := by decide +kernel
theorem d_M_circles_12 : decode b_M_circles 12 = .ok (.if_icmp .ge 31, 3) := by decide +kernel
theorem d_M_circles_15 : decode b_M_circles 15 = .ok (.aload_n 0, 1) := by decide +kernel
theorem d_M_circles_16 : decode b_M_circles 16 = .ok (.iload_n 2, 1) := by decide +kernel
theorem d_M_circles_17 : decode b_M_circles 17 = .ok (.invokevirtual 59, 3) := by decide +kernel
theorem d_M_circles_20 : decode b_M_circles 20 = .ok (.iconst 1, 1) := by decide +kernel
theorem d_M_circles_21 : decode b_M_circles 21 = .ok (.iload_n 2, 1) := by decide +kernel
theorem d_M_circles_22 : decode b_M_circles 22 = .ok (.ishl, 1) := by decide +kernel
theorem d_M_circles_23 : decode b_M_circles 23 = .ok (.iconst 1, 1) := by decide +kernel
theorem d_M_circles_24 : decode b_M_circles 24 = .ok (.isub, 1) := by decide +kernel
theorem d_M_circles_25 : decode b_M_circles 25 = .ok (.iand, 1) := by decide +kernel
theorem d_M_circles_26 : decode b_M_circles 26 = .ok (.ifCond .ne 9, 3) := by decide +kernel
theorem d_M_circles_29 : decode b_M_circles 29 = .ok (.iload_n 1, 1) := by decide +kernel
theorem d_M_circles_30 : decode b_M_circles 30 = .ok (.iconst 1, 1) := by decide +kernel
theorem d_M_circles_31 : decode b_M_circles 31 = .ok (.iadd, 1) := by decide +kernel
theorem d_M_circles_32 : decode b_M_circles 32 = .ok (.goto 4, 3) := by decide +kernel
theorem d_M_circles_35 : decode b_M_circles 35 = .ok (.iload_n 1, 1) := by decide +kernel
theorem d_M_circles_36 : decode b_M_circles 36 = .ok (.istore_n 1, 1) := by decide +kernel
theorem d_M_circles_37 : decode b_M_circles 37 = .ok (.iinc 2 1, 3) := by decide +kernel
theorem d_M_circles_40 : decode b_M_circles 40 = .ok (.goto (-31), 3) := by decide +kernel
theorem d_M_circles_43 : decode b_M_circles 43 = .ok (.iload_n 1, 1) := by decide +kernel
theorem d_M_circles_44 : decode b_M_circles 44 = .ok (.ireturn, 1) := by decide +kernel
theorem d_M_spread_0 : decode b_M_spread 0 = .ok (.iconst 0, 1) := by decide +kernel
theorem d_M_spread_1 : decode b_M_spread 1 = .ok (.istore_n 2, 1) := by decide +kernel
theorem d_M_spread_2 : decode b_M_spread 2 = .ok (.iload_n 2, 1) := by decide +kernel
theorem d_M_spread_3 : decode b_M_spread 3 = .ok (.bipush 28, 2) := by decide +kernel
theorem d_M_spread_5 : decode b_M_spread 5 = .ok (.if_icmp .ge 16, 3) := by decide +kernel
theorem d_M_spread_8 : decode b_M_spread 8 = .ok (.aload_n 0, 1) := by decide +kernel
theorem d_M_spread_9 : decode b_M_spread 9 = .ok (.getfield 29, 3) := by decide +kernel
theorem d_M_spread_12 : decode b_M_spread 12 = .ok (.iload_n 2, 1) := by decide +kernel
theorem d_M_spread_13 : decode b_M_spread 13 = .ok (.iconst 0, 1) := by decide +kernel
theorem d_M_spread_14 : decode b_M_spread 14 = .ok (.iastore, 1) := by decide +kernel
theorem d_M_spread_15 : decode b_M_spread 15 = .ok (.iinc 2 1, 3) := by decide +kernel
theorem d_M_spread_18 : decode b_M_spread 18 = .ok (.goto (-16), 3) := by decide +kernel
theorem d_M_spread_21 : decode b_M_spread 21 = .ok (.aload_n 0, 1) := by decide +kernel
theorem d_M_spread_22 : decode b_M_spread 22 = .ok (.getfield 29, 3) := by decide +kernel
theorem d_M_spread_25 : decode b_M_spread 25 = .ok (.iload_n 1, 1) := by decide +kernel
theorem d_M_spread_26 : decode b_M_spread 26 = .ok (.iconst 1, 1) := by decide +kernel
theorem d_M_spread_27 : decode b_M_spread 27 = .ok (.iastore, 1) := by decide +kernel
theorem d_M_spread_28 : decode b_M_spread 28 = .ok (.iconst 1, 1) := by decide +kernel
theorem d_M_spread_29 : decode b_M_spread 29 = .ok (.istore_n 2, 1) := by decide +kernel
theorem d_M_spread_30 : decode b_M_spread 30 = .ok (.iload_n 2, 1) := by decide +kernel
theorem d_M_spread_31 : decode b_M_spread 31 = .ok (.ifCond .eq 158, 3) := by decide +kernel
theorem d_M_spread_34 : decode b_M_spread 34 = .ok (.iconst 0, 1) := by decide +kernel
theorem d_M_spread_35 : decode b_M_spread 35 = .ok (.istore_n 2, 1) := by decide +kernel
theorem d_M_spread_36 : decode b_M_spread 36 = .ok (.iconst 0, 1) := by decide +kernel
theorem d_M_spread_37 : decode b_M_spread 37 = .ok (.istore_n 3, 1) := by decide +kernel
theorem d_M_spread_38 : decode b_M_spread 38 = .ok (.iload_n 3, 1) := by decide +kernel
theorem d_M_spread_39 : decode b_M_spread 39 = .ok (.aload_n 0, 1) := by decide +kernel
theorem d_M_spread_40 : decode b_M_spread 40 = .ok (.getfield 40, 3) := by decide +kernel
theorem d_M_spread_43 : decode b_M_spread 43 = .ok (.if_icmp .ge 143, 3) := by decide +kernel
theorem d_M_spread_46 : decode b_M_spread 46 = .ok (.aload_n 0, 1) := by decide +kernel
theorem d_M_spread_47 : decode b_M_spread 47 = .ok (.getfield 19, 3) := by decide +kernel
theorem d_M_spread_50 : decode b_M_spread 50 = .ok (.iload_n 3, 1) := by decide +kernel
theorem d_M_spread_51 : decode b_M_spread 51 = .ok (.baload, 1) := by decide +kernel
theorem d_M_spread_52 : decode b_M_spread 52 = .ok (.ifCond .eq 64, 3) := by decide +kernel
theorem d_M_spread_55 : decode b_M_spread 55 = .ok (.aload_n 0, 1) := by decide +kernel
theorem d_M_spread_56 : decode b_M_spread 56 = .ok (.getfield 29, 3) := by decide +kernel
theorem d_M_spread_59 : decode b_M_spread 59 = .ok (.aload_n 0, 1) := by decide +kernel
theorem d_M_spread_60 : decode b_M_spread 60 = .ok (.getfield 7, 3) := by decide +kernel
theorem d_M_spread_63 : decode b_M_spread 63 = .ok (.iload_n 3, 1) := by decide +kernel
theorem d_M_spread_64 : decode b_M_spread 64 = .ok (.iaload, 1) := by decide +kernel
theorem d_M_spread_65 : decode b_M_spread 65 = .ok (.iaload, 1) := by decide +kernel
theorem d_M_spread_66 : decode b_M_spread 66 = .ok (.ifCond .le 50, 3) := by decide +kernel
theorem d_M_spread_69 : decode b_M_spread 69 = .ok (.aload_n 0, 1) := by decide +kernel
theorem d_M_spread_70 : decode b_M_spread 70 = .ok (.getfield 29, 3) := by decide +kernel
theorem d_M_spread_73 : decode b_M_spread 73 = .ok (.aload_n 0, 1) := by decide +kernel
theorem d_M_spread_74 : decode b_M_spread 74 = .ok (.getfield 13, 3) := by decide +kernel
theorem d_M_spread_77 : decode b_M_spread 77 = .ok (.iload_n 3, 1) := by decide +kernel
theorem d_M_spread_78 : decode b_M_spread 78 = .ok (.iaload, 1) := by decide +kernel
theorem d_M_spread_79 : decode b_M_spread 79 = .ok (.iaload, 1) := by decide +kernel
theorem d_M_spread_80 : decode b_M_spread 80 = .ok (.ifCond .ne 36, 3) := by decide +kernel
theorem d_M_spread_83 : decode b_M_spread 83 = .ok (.aload_n 0, 1) := by decide +kernel
theorem d_M_spread_84 : decode b_M_spread 84 = .ok (.getfield 26, 3) := by decide +kernel
theorem d_M_spread_87 : decode b_M_spread 87 = .ok (.iload_n 3, 1) := by decide +kernel
theorem d_M_spread_88 : decode b_M_spread 88 = .ok (.iaload, 1) := by decide +kernel
theorem d_M_spread_89 : decode b_M_spread 89 = .ok (.aload_n 0, 1) := by decide +kernel
theorem d_M_spread_90 : decode b_M_spread 90 = .ok (.getfield 16, 3) := by decide +kernel
theorem d_M_spread_93 : decode b_M_spread 93 = .ok (.iload_n 3, 1) := by decide +kernel
theorem d_M_spread_94 : decode b_M_spread 94 = .ok (.iaload, 1) := by decide +kernel
theorem d_M_spread_95 : decode b_M_spread 95 = .ok (.if_icmp .ge 21, 3) := by decide +kernel
theorem d_M_spread_98 : decode b_M_spread 98 = .ok (.aload_n 0, 1) := by decide +kernel
theorem d_M_spread_99 : decode b_M_spread 99 = .ok (.getfield 29, 3) := by decide +kernel
theorem d_M_spread_102 : decode b_M_spread 102 = .ok (.aload_n 0, 1) := by decide +kernel
theorem d_M_spread_103 : decode b_M_spread 103 = .ok (.getfield 13, 3) := by decide +kernel
theorem d_M_spread_106 : decode b_M_spread 106 = .ok (.iload_n 3, 1) := by decide +kernel
theorem d_M_spread_107 : decode b_M_spread 107 = .ok (.iaload, 1) := by decide +kernel
theorem d_M_spread_108 : decode b_M_spread 108 = .ok (.iconst 2, 1) := by decide +kernel
theorem d_M_spread_109 : decode b_M_spread 109 = .ok (.iconst 2, 1) := by decide +kernel
theorem d_M_spread_110 : decode b_M_spread 110 = .ok (.iload_n 3, 1) := by decide +kernel
theorem d_M_spread_111 : decode b_M_spread 111 = .ok (.imul, 1) := by decide +kernel
theorem d_M_spread_112 : decode b_M_spread 112 = .ok (.iadd, 1) := by decide +kernel
theorem d_M_spread_113 : decode b_M_spread 113 = .ok (.iastore, 1) := by decide +kernel
theorem d_M_spread_114 : decode b_M_spread 114 = .ok (.iconst 1, 1) := by decide +kernel
theorem d_M_spread_115 : decode b_M_spread 115 = .ok (.istore_n 2, 1) := by decide +kernel
theorem d_M_spread_116 : decode b_M_spread 116 = .ok (.aload_n 0, 1) := by decide +kernel
theorem d_M_spread_117 : decode b_M_spread 117 = .ok (.getfield 19, 3) := by decide +kernel
theorem d_M_spread_120 : decode b_M_spread 120 = .ok (.iload_n 3, 1) := by decide +kernel
theorem d_M_spread_121 : decode b_M_spread 121 = .ok (.baload, 1) := by decide +kernel
theorem d_M_spread_122 : decode b_M_spread 122 = .ok (.ifCond .eq 58, 3) := by decide +kernel
theorem d_M_spread_125 : decode b_M_spread 125 = .ok (.aload_n 0, 1) := by decide +kernel
theorem d_M_spread_126 : decode b_M_spread 126 = .ok (.getfield 29, 3) := by decide +kernel
theorem d_M_spread_129 : decode b_M_spread 129 = .ok (.aload_n 0, 1) := by decide +kernel
theorem d_M_spread_130 : decode b_M_spread 130 = .ok (.getfield 13, 3) := by decide +kernel
theorem d_M_spread_133 : decode b_M_spread 133 = .ok (.iload_n 3, 1) := by decide +kernel
theorem d_M_spread_134 : decode b_M_spread 134 = .ok (.iaload, 1) := by decide +kernel
theorem d_M_spread_135 : decode b_M_spread 135 = .ok (.iaload, 1) := by decide +kernel
theorem d_M_spread_136 : decode b_M_spread 136 = .ok (.ifCond .le 44, 3) := by decide +kernel
theorem d_M_spread_139 : decode b_M_spread 139 = .ok (.aload_n 0, 1) := by decide +kernel
theorem d_M_spread_140 : decode b_M_spread 140 = .ok (.getfield 29, 3) := by decide +kernel
theorem d_M_spread_143 : decode b_M_spread 143 = .ok (.aload_n 0, 1) := by decide +kernel
theorem d_M_spread_144 : decode b_M_spread 144 = .ok (.getfield 7, 3) := by decide +kernel
theorem d_M_spread_147 : decode b_M_spread 147 = .ok (.iload_n 3, 1) := by decide +kernel
theorem d_M_spread_148 : decode b_M_spread 148 = .ok (.iaload, 1) := by decide +kernel
theorem d_M_spread_149 : decode b_M_spread 149 = .ok (.iaload, 1) := by decide +kernel
theorem d_M_spread_150 : decode b_M_spread 150 = .ok (.ifCond .ne 30, 3) := by decide +kernel
theorem d_M_spread_153 : decode b_M_spread 153 = .ok (.aload_n 0, 1) := by decide +kernel
theorem d_M_spread_154 : decode b_M_spread 154 = .ok (.getfield 26, 3) := by decide +kernel
theorem d_M_spread_157 : decode b_M_spread 157 = .ok (.iload_n 3, 1) := by decide +kernel
theorem d_M_spread_158 : decode b_M_spread 158 = .ok (.iaload, 1) := by decide +kernel
theorem d_M_spread_159 : decode b_M_spread 159 = .ok (.ifCond .le 21, 3) := by decide +kernel
theorem d_M_spread_162 : decode b_M_spread 162 = .ok (.aload_n 0, 1) := by decide +kernel
theorem d_M_spread_163 : decode b_M_spread 163 = .ok (.getfield 29, 3) := by decide +kernel
theorem d_M_spread_166 : decode b_M_spread 166 = .ok (.aload_n 0, 1) := by decide +kernel
theorem d_M_spread_167 : decode b_M_spread 167 = .ok (.getfield 7, 3) := by decide +kernel
theorem d_M_spread_170 : decode b_M_spread 170 = .ok (.iload_n 3, 1) := by decide +kernel
theorem d_M_spread_171 : decode b_M_spread 171 = .ok (.iaload, 1) := by decide +kernel
theorem d_M_spread_172 : decode b_M_spread 172 = .ok (.iconst 3, 1) := by decide +kernel
theorem d_M_spread_173 : decode b_M_spread 173 = .ok (.iconst 2, 1) := by decide +kernel
theorem d_M_spread_174 : decode b_M_spread 174 = .ok (.iload_n 3, 1) := by decide +kernel
theorem d_M_spread_175 : decode b_M_spread 175 = .ok (.imul, 1) := by decide +kernel
theorem d_M_spread_176 : decode b_M_spread 176 = .ok (.iadd, 1) := by decide +kernel
theorem d_M_spread_177 : decode b_M_spread 177 = .ok (.iastore, 1) := by decide +kernel
theorem d_M_spread_178 : decode b_M_spread 178 = .ok (.iconst 1, 1) := by decide +kernel
theorem d_M_spread_179 : decode b_M_spread 179 = .ok (.istore_n 2, 1) := by decide +kernel
theorem d_M_spread_180 : decode b_M_spread 180 = .ok (.iinc 3 1, 3) := by decide +kernel
theorem d_M_spread_183 : decode b_M_spread 183 = .ok (.goto (-145), 3) := by decide +kernel
theorem d_M_spread_186 : decode b_M_spread 186 = .ok (.goto (-156), 3) := by decide +kernel
theorem d_M_spread_189 : decode b_M_spread 189 = .ok (.return_, 1) := by decide +kernel
theorem d_M_push_0 : decode b_M_push 0 = .ok (.iload_n 2, 1) := by decide +kernel
theorem d_M_push_1 : decode b_M_push 1 = .ok (.istore_n 3, 1) := by decide +kernel
theorem d_M_push_2 : decode b_M_push 2 = .ok (.iload_n 3, 1) := by decide +kernel
theorem d_M_push_3 : decode b_M_push 3 = .ok (.iload_n 1, 1) := by decide +kernel
theorem d_M_push_4 : decode b_M_push 4 = .ok (.if_icmp .eq 93, 3) := by decide +kernel
theorem d_M_push_7 : decode b_M_push 7 = .ok (.aload_n 0, 1) := by decide +kernel
theorem d_M_push_8 : decode b_M_push 8 = .ok (.getfield 29, 3) := by decide +kernel
theorem d_M_push_11 : decode b_M_push 11 = .ok (.iload_n 3, 1) := by decide +kernel
theorem d_M_push_12 : decode b_M_push 12 = .ok (.iaload, 1) := by decide +kernel
theorem d_M_push_13 : decode b_M_push 13 = .ok (.iconst 2, 1) := by decide +kernel
theorem d_M_push_14 : decode b_M_push 14 = .ok (.isub, 1) := by decide +kernel
theorem d_M_push_15 : decode b_M_push 15 = .ok (.iconst 2, 1) := by decide +kernel
theorem d_M_push_16 : decode b_M_push 16 = .ok (.idiv, 1) := by decide +kernel
theorem d_M_push_17 : decode b_M_push 17 = .ok (.istore 4, 2) := by decide +kernel
theorem d_M_push_19 : decode b_M_push 19 = .ok (.aload_n 0, 1) := by decide +kernel
theorem d_M_push_20 : decode b_M_push 20 = .ok (.getfield 29, 3) := by decide +kernel
theorem d_M_push_23 : decode b_M_push 23 = .ok (.iload_n 3, 1) := by decide +kernel
theorem d_M_push_24 : decode b_M_push 24 = .ok (.iaload, 1) := by decide +kernel
theorem d_M_push_25 : decode b_M_push 25 = .ok (.iconst 2, 1) := by decide +kernel
theorem d_M_push_26 : decode b_M_push 26 = .ok (.irem, 1) := by decide +kernel
theorem d_M_push_27 : decode b_M_push 27 = .ok (.iconst 1, 1) := by decide +kernel
theorem d_M_push_28 : decode b_M_push 28 = .ok (.if_icmp .ne 7, 3) := by decide +kernel
theorem d_M_push_31 : decode b_M_push 31 = .ok (.iconst 1, 1) := by decide +kernel
theorem d_M_push_32 : decode b_M_push 32 = .ok (.goto 4, 3) := by decide +kernel
theorem d_M_push_35 : decode b_M_push 35 = .ok (.iconst 0, 1) := by decide +kernel
theorem d_M_push_36 : decode b_M_push 36 = .ok (.istore 5, 2) := by decide +kernel
theorem d_M_push_38 : decode b_M_push 38 = .ok (.aload_n 0, 1) := by decide +kernel
theorem d_M_push_39 : decode b_M_push 39 = .ok (.getfield 26, 3) := by decide +kernel
theorem d_M_push_42 : decode b_M_push 42 = .ok (.iload 4, 2) := by decide +kernel
theorem d_M_push_44 : decode b_M_push 44 = .ok (.iload 5, 2) := by decide +kernel
theorem d_M_push_46 : decode b_M_push 46 = .ok (.ifCond .eq 15, 3) := by decide +kernel
theorem d_M_push_49 : decode b_M_push 49 = .ok (.aload_n 0, 1) := by decide +kernel
theorem d_M_push_50 : decode b_M_push 50 = .ok (.getfield 26, 3) := by decide +kernel
theorem d_M_push_53 : decode b_M_push 53 = .ok (.iload 4, 2) := by decide +kernel
theorem d_M_push_55 : decode b_M_push 55 = .ok (.iaload, 1) := by decide +kernel
theorem d_M_push_56 : decode b_M_push 56 = .ok (.iconst 1, 1) := by decide +kernel
theorem d_M_push_57 : decode b_M_push 57 = .ok (.isub, 1) := by decide +kernel
theorem d_M_push_58 : decode b_M_push 58 = .ok (.goto 12, 3) := by decide +kernel
theorem d_M_push_61 : decode b_M_push 61 = .ok (.aload_n 0, 1) := by decide +kernel
theorem d_M_push_62 : decode b_M_push 62 = .ok (.getfield 26, 3) := by decide +kernel
theorem d_M_push_65 : decode b_M_push 65 = .ok (.iload 4, 2) := by decide +kernel
theorem d_M_push_67 : decode b_M_push 67 = .ok (.iaload, 1) := by decide +kernel
theorem d_M_push_68 : decode b_M_push 68 = .ok (.iconst 1, 1) := by decide +kernel
theorem d_M_push_69 : decode b_M_push 69 = .ok (.iadd, 1) := by decide +kernel
theorem d_M_push_70 : decode b_M_push 70 = .ok (.iastore, 1) := by decide +kernel
theorem d_M_push_71 : decode b_M_push 71 = .ok (.iload 5, 2) := by decide +kernel
theorem d_M_push_73 : decode b_M_push 73 = .ok (.ifCond .eq 13, 3) := by decide +kernel
theorem d_M_push_76 : decode b_M_push 76 = .ok (.aload_n 0, 1) := by decide +kernel
theorem d_M_push_77 : decode b_M_push 77 = .ok (.getfield 13, 3) := by decide +kernel
theorem d_M_push_80 : decode b_M_push 80 = .ok (.iload 4, 2) := by decide +kernel
theorem d_M_push_82 : decode b_M_push 82 = .ok (.iaload, 1) := by decide +kernel
theorem d_M_push_83 : decode b_M_push 83 = .ok (.goto 10, 3) := by decide +kernel
theorem d_M_push_86 : decode b_M_push 86 = .ok (.aload_n 0, 1) := by decide +kernel
theorem d_M_push_87 : decode b_M_push 87 = .ok (.getfield 7, 3) := by decide +kernel
theorem d_M_push_90 : decode b_M_push 90 = .ok (.iload 4, 2) := by decide +kernel
theorem d_M_push_92 : decode b_M_push 92 = .ok (.iaload, 1) := by decide +kernel
theorem d_M_push_93 : decode b_M_push 93 = .ok (.istore_n 3, 1) := by decide +kernel
theorem d_M_push_94 : decode b_M_push 94 = .ok (.goto (-92), 3) := by decide +kernel
theorem d_M_push_97 : decode b_M_push 97 = .ok (.return_, 1) := by decide +kernel
theorem d_M_flow_0 : decode b_M_flow 0 = .ok (.iconst 0, 1) := by decide +kernel
theorem d_M_flow_1 : decode b_M_flow 1 = .ok (.istore_n 3, 1) := by decide +kernel
theorem d_M_flow_2 : decode b_M_flow 2 = .ok (.iload_n 3, 1) := by decide +kernel
theorem d_M_flow_3 : decode b_M_flow 3 = .ok (.aload_n 0, 1) := by decide +kernel
theorem d_M_flow_4 : decode b_M_flow 4 = .ok (.getfield 40, 3) := by decide +kernel
theorem d_M_flow_7 : decode b_M_flow 7 = .ok (.if_icmp .ge 16, 3) := by decide +kernel
theorem d_M_flow_10 : decode b_M_flow 10 = .ok (.aload_n 0, 1) := by decide +kernel
theorem d_M_flow_11 : decode b_M_flow 11 = .ok (.getfield 26, 3) := by decide +kernel
theorem d_M_flow_14 : decode b_M_flow 14 = .ok (.iload_n 3, 1) := by decide +kernel
theorem d_M_flow_15 : decode b_M_flow 15 = .ok (.iconst 0, 1) := by decide +kernel
theorem d_M_flow_16 : decode b_M_flow 16 = .ok (.iastore, 1) := by decide +kernel
theorem d_M_flow_17 : decode b_M_flow 17 = .ok (.iinc 3 1, 3) := by decide +kernel
theorem d_M_flow_20 : decode b_M_flow 20 = .ok (.goto (-18), 3) := by decide +kernel
theorem d_M_flow_23 : decode b_M_flow 23 = .ok (.iconst 0, 1) := by decide +kernel
theorem d_M_flow_24 : decode b_M_flow 24 = .ok (.istore_n 3, 1) := by decide +kernel
theorem d_M_flow_25 : decode b_M_flow 25 = .ok (.aload_n 0, 1) := by decide +kernel
theorem d_M_flow_26 : decode b_M_flow 26 = .ok (.iload_n 1, 1) := by decide +kernel
theorem d_M_flow_27 : decode b_M_flow 27 = .ok (.invokevirtual 62, 3) := by decide +kernel
theorem d_M_flow_30 : decode b_M_flow 30 = .ok (.aload_n 0, 1) := by decide +kernel
theorem d_M_flow_31 : decode b_M_flow 31 = .ok (.getfield 29, 3) := by decide +kernel
theorem d_M_flow_34 : decode b_M_flow 34 = .ok (.iload_n 2, 1) := by decide +kernel
theorem d_M_flow_35 : decode b_M_flow 35 = .ok (.iaload, 1) := by decide +kernel
theorem d_M_flow_36 : decode b_M_flow 36 = .ok (.ifCond .le 20, 3) := by decide +kernel
theorem d_M_flow_39 : decode b_M_flow 39 = .ok (.aload_n 0, 1) := by decide +kernel
theorem d_M_flow_40 : decode b_M_flow 40 = .ok (.iload_n 1, 1) := by decide +kernel
theorem d_M_flow_41 : decode b_M_flow 41 = .ok (.iload_n 2, 1) := by decide +kernel
theorem d_M_flow_42 : decode b_M_flow 42 = .ok (.invokevirtual 66, 3) := by decide +kernel
theorem d_M_flow_45 : decode b_M_flow 45 = .ok (.iinc 3 1, 3) := by decide +kernel
theorem d_M_flow_48 : decode b_M_flow 48 = .ok (.aload_n 0, 1) := by decide +kernel
theorem d_M_flow_49 : decode b_M_flow 49 = .ok (.iload_n 1, 1) := by decide +kernel
theorem d_M_flow_50 : decode b_M_flow 50 = .ok (.invokevirtual 62, 3) := by decide +kernel
theorem d_M_flow_53 : decode b_M_flow 53 = .ok (.goto (-23), 3) := by decide +kernel
theorem d_M_flow_56 : decode b_M_flow 56 = .ok (.iload_n 3, 1) := by decide +kernel
theorem d_M_flow_57 : decode b_M_flow 57 = .ok (.ireturn, 1) := by decide +kernel
theorem d_M_areUnlike_0 : decode b_M_areUnlike 0 = .ok (.iload_n 0, 1) := by decide +kernel
theorem d_M_areUnlike_1 : decode b_M_areUnlike 1 = .ok (.invokestatic 43, 3) := by decide +kernel
theorem d_M_areUnlike_4 : decode b_M_areUnlike 4 = .ok (.ifCond .eq 19, 3) := by decide +kernel
theorem d_M_areUnlike_7 : decode b_M_areUnlike 7 = .ok (.iload_n 1, 1) := by decide +kernel
theorem d_M_areUnlike_8 : decode b_M_areUnlike 8 = .ok (.invokestatic 43, 3) := by decide +kernel
theorem d_M_areUnlike_11 : decode b_M_areUnlike 11 = .ok (.ifCond .eq 12, 3) := by decide +kernel
theorem d_M_areUnlike_14 : decode b_M_areUnlike 14 = .ok (.iload_n 0, 1) := by decide +kernel
theorem d_M_areUnlike_15 : decode b_M_areUnlike 15 = .ok (.iload_n 1, 1) := by decide +kernel
theorem d_M_areUnlike_16 : decode b_M_areUnlike 16 = .ok (.if_icmp .eq 7, 3) := by decide +kernel
theorem d_M_areUnlike_19 : decode b_M_areUnlike 19 = .ok (.iconst 1, 1) := by decide +kernel
theorem d_M_areUnlike_20 : decode b_M_areUnlike 20 = .ok (.goto 4, 3) := by decide +kernel
theorem d_M_areUnlike_23 : decode b_M_areUnlike 23 = .ok (.iconst 0, 1) := by decide +kernel
theorem d_M_areUnlike_24 : decode b_M_areUnlike 24 = .ok (.ireturn, 1) := by decide +kernel
theorem d_M_cut_0 : decode b_M_cut 0 = .ok (.aload_n 0, 1) := by decide +kernel
theorem d_M_cut_1 : decode b_M_cut 1 = .ok (.iload_n 1, 1) := by decide +kernel
theorem d_M_cut_2 : decode b_M_cut 2 = .ok (.iload_n 2, 1) := by decide +kernel
theorem d_M_cut_3 : decode b_M_cut 3 = .ok (.invokestatic 69, 3) := by decide +kernel
theorem d_M_cut_6 : decode b_M_cut 6 = .ok (.ifCond .ne 7, 3) := by decide +kernel
theorem d_M_cut_9 : decode b_M_cut 9 = .ok (.iconst 1, 1) := by decide +kernel
theorem d_M_cut_10 : decode b_M_cut 10 = .ok (.goto 4, 3) := by decide +kernel
theorem d_M_cut_13 : decode b_M_cut 13 = .ok (.iconst 0, 1) := by decide +kernel
theorem d_M_cut_14 : decode b_M_cut 14 = .ok (.iconst 0, 1) := by decide +kernel
theorem d_M_cut_15 : decode b_M_cut 15 = .ok (.invokevirtual 47, 3) := by decide +kernel
theorem d_M_cut_18 : decode b_M_cut 18 = .ok (.ifCond .eq 7, 3) := by decide +kernel
theorem d_M_cut_21 : decode b_M_cut 21 = .ok (.iconst 0, 1) := by decide +kernel
theorem d_M_cut_22 : decode b_M_cut 22 = .ok (.goto 9, 3) := by decide +kernel
theorem d_M_cut_25 : decode b_M_cut 25 = .ok (.aload_n 0, 1) := by decide +kernel
theorem d_M_cut_26 : decode b_M_cut 26 = .ok (.iload_n 1, 1) := by decide +kernel
theorem d_M_cut_27 : decode b_M_cut 27 = .ok (.iload_n 2, 1) := by decide +kernel
theorem d_M_cut_28 : decode b_M_cut 28 = .ok (.invokevirtual 73, 3) := by decide +kernel
theorem d_M_cut_31 : decode b_M_cut 31 = .ok (.ireturn, 1) := by decide +kernel
theorem d_M_left_0 : decode b_M_left 0 = .ok (.aload_n 0, 1) := by decide +kernel
theorem d_M_left_1 : decode b_M_left 1 = .ok (.iload_n 1, 1) := by decide +kernel
theorem d_M_left_2 : decode b_M_left 2 = .ok (.iload_n 2, 1) := by decide +kernel
theorem d_M_left_3 : decode b_M_left 3 = .ok (.invokestatic 69, 3) := by decide +kernel
theorem d_M_left_6 : decode b_M_left 6 = .ok (.ifCond .ne 7, 3) := by decide +kernel
theorem d_M_left_9 : decode b_M_left 9 = .ok (.iconst 1, 1) := by decide +kernel
theorem d_M_left_10 : decode b_M_left 10 = .ok (.goto 4, 3) := by decide +kernel
theorem d_M_left_13 : decode b_M_left 13 = .ok (.iconst 0, 1) := by decide +kernel
theorem d_M_left_14 : decode b_M_left 14 = .ok (.iconst 0, 1) := by decide +kernel
theorem d_M_left_15 : decode b_M_left 15 = .ok (.invokevirtual 47, 3) := by decide +kernel
theorem d_M_left_18 : decode b_M_left 18 = .ok (.ifCond .eq 5, 3) := by decide +kernel
theorem d_M_left_21 : decode b_M_left 21 = .ok (.iconst 0, 1) := by decide +kernel
theorem d_M_left_22 : decode b_M_left 22 = .ok (.ireturn, 1) := by decide +kernel
theorem d_M_left_23 : decode b_M_left 23 = .ok (.aload_n 0, 1) := by decide +kernel
theorem d_M_left_24 : decode b_M_left 24 = .ok (.iload_n 1, 1) := by decide +kernel
theorem d_M_left_25 : decode b_M_left 25 = .ok (.iload_n 2, 1) := by decide +kernel
theorem d_M_left_26 : decode b_M_left 26 = .ok (.invokevirtual 73, 3) := by decide +kernel
theorem d_M_left_29 : decode b_M_left 29 = .ok (.pop, 1) := by decide +kernel
theorem d_M_left_30 : decode b_M_left 30 = .ok (.iconst 0, 1) := by decide +kernel
theorem d_M_left_31 : decode b_M_left 31 = .ok (.istore_n 3, 1) := by decide +kernel
theorem d_M_left_32 : decode b_M_left 32 = .ok (.iconst 0, 1) := by decide +kernel
theorem d_M_left_33 : decode b_M_left 33 = .ok (.istore 4, 2) := by decide +kernel
theorem d_M_left_35 : decode b_M_left 35 = .ok (.iload 4, 2) := by decide +kernel
theorem d_M_left_37 : decode b_M_left 37 = .ok (.bipush 28, 2) := by decide +kernel
theorem d_M_left_39 : decode b_M_left 39 = .ok (.if_icmp .ge 30, 3) := by decide +kernel
theorem d_M_left_42 : decode b_M_left 42 = .ok (.aload_n 0, 1) := by decide +kernel
theorem d_M_left_43 : decode b_M_left 43 = .ok (.getfield 29, 3) := by decide +kernel
theorem d_M_left_46 : decode b_M_left 46 = .ok (.iload 4, 2) := by decide +kernel
theorem d_M_left_48 : decode b_M_left 48 = .ok (.iaload, 1) := by decide +kernel
theorem d_M_left_49 : decode b_M_left 49 = .ok (.ifCond .le 12, 3) := by decide +kernel
theorem d_M_left_52 : decode b_M_left 52 = .ok (.iload_n 3, 1) := by decide +kernel
theorem d_M_left_53 : decode b_M_left 53 = .ok (.iconst 1, 1) := by decide +kernel
theorem d_M_left_54 : decode b_M_left 54 = .ok (.iload 4, 2) := by decide +kernel
theorem d_M_left_56 : decode b_M_left 56 = .ok (.ishl, 1) := by decide +kernel
theorem d_M_left_57 : decode b_M_left 57 = .ok (.ior, 1) := by decide +kernel
theorem d_M_left_58 : decode b_M_left 58 = .ok (.goto 4, 3) := by decide +kernel
theorem d_M_left_61 : decode b_M_left 61 = .ok (.iload_n 3, 1) := by decide +kernel
theorem d_M_left_62 : decode b_M_left 62 = .ok (.istore_n 3, 1) := by decide +kernel
theorem d_M_left_63 : decode b_M_left 63 = .ok (.iinc 4 1, 3) := by decide +kernel
theorem d_M_left_66 : decode b_M_left 66 = .ok (.goto (-31), 3) := by decide +kernel
theorem d_M_left_69 : decode b_M_left 69 = .ok (.iload_n 3, 1) := by decide +kernel
theorem d_M_left_70 : decode b_M_left 70 = .ok (.ireturn, 1) := by decide +kernel
theorem d_M_cutRule_0 : decode b_M_cutRule 0 = .ok (.aload_n 0, 1) := by decide +kernel
theorem d_M_cutRule_1 : decode b_M_cutRule 1 = .ok (.iload_n 1, 1) := by decide +kernel
theorem d_M_cutRule_2 : decode b_M_cutRule 2 = .ok (.iload_n 2, 1) := by decide +kernel
theorem d_M_cutRule_3 : decode b_M_cutRule 3 = .ok (.invokestatic 69, 3) := by decide +kernel
theorem d_M_cutRule_6 : decode b_M_cutRule 6 = .ok (.ifCond .eq 7, 3) := by decide +kernel
theorem d_M_cutRule_9 : decode b_M_cutRule 9 = .ok (.iload_n 3, 1) := by decide +kernel
theorem d_M_cutRule_10 : decode b_M_cutRule 10 = .ok (.ifCond .ge 7, 3) := by decide +kernel
theorem d_M_cutRule_13 : decode b_M_cutRule 13 = .ok (.iconst 1, 1) := by decide +kernel
theorem d_M_cutRule_14 : decode b_M_cutRule 14 = .ok (.goto 4, 3) := by decide +kernel
theorem d_M_cutRule_17 : decode b_M_cutRule 17 = .ok (.iconst 0, 1) := by decide +kernel
theorem d_M_cutRule_18 : decode b_M_cutRule 18 = .ok (.iconst 0, 1) := by decide +kernel
theorem d_M_cutRule_19 : decode b_M_cutRule 19 = .ok (.invokevirtual 47, 3) := by decide +kernel
theorem d_M_cutRule_22 : decode b_M_cutRule 22 = .ok (.ifCond .eq 5, 3) := by decide +kernel
theorem d_M_cutRule_25 : decode b_M_cutRule 25 = .ok (.iconst 0, 1) := by decide +kernel
theorem d_M_cutRule_26 : decode b_M_cutRule 26 = .ok (.ireturn, 1) := by decide +kernel
theorem d_M_cutRule_27 : decode b_M_cutRule 27 = .ok (.aload_n 0, 1) := by decide +kernel
theorem d_M_cutRule_28 : decode b_M_cutRule 28 = .ok (.iload_n 1, 1) := by decide +kernel
theorem d_M_cutRule_29 : decode b_M_cutRule 29 = .ok (.iload_n 2, 1) := by decide +kernel
theorem d_M_cutRule_30 : decode b_M_cutRule 30 = .ok (.invokevirtual 73, 3) := by decide +kernel
theorem d_M_cutRule_33 : decode b_M_cutRule 33 = .ok (.pop, 1) := by decide +kernel
theorem d_M_cutRule_34 : decode b_M_cutRule 34 = .ok (.iconst 0, 1) := by decide +kernel
theorem d_M_cutRule_35 : decode b_M_cutRule 35 = .ok (.istore 4, 2) := by decide +kernel
theorem d_M_cutRule_37 : decode b_M_cutRule 37 = .ok (.iconst 0, 1) := by decide +kernel
theorem d_M_cutRule_38 : decode b_M_cutRule 38 = .ok (.istore 5, 2) := by decide +kernel
theorem d_M_cutRule_40 : decode b_M_cutRule 40 = .ok (.iload 5, 2) := by decide +kernel
theorem d_M_cutRule_42 : decode b_M_cutRule 42 = .ok (.aload_n 0, 1) := by decide +kernel
theorem d_M_cutRule_43 : decode b_M_cutRule 43 = .ok (.getfield 40, 3) := by decide +kernel
theorem d_M_cutRule_46 : decode b_M_cutRule 46 = .ok (.if_icmp .ge 61, 3) := by decide +kernel
theorem d_M_cutRule_49 : decode b_M_cutRule 49 = .ok (.aload_n 0, 1) := by decide +kernel
theorem d_M_cutRule_50 : decode b_M_cutRule 50 = .ok (.getfield 19, 3) := by decide +kernel
theorem d_M_cutRule_53 : decode b_M_cutRule 53 = .ok (.iload 5, 2) := by decide +kernel
theorem d_M_cutRule_55 : decode b_M_cutRule 55 = .ok (.baload, 1) := by decide +kernel
theorem d_M_cutRule_56 : decode b_M_cutRule 56 = .ok (.ifCond .eq 45, 3) := by decide +kernel
theorem d_M_cutRule_59 : decode b_M_cutRule 59 = .ok (.aload_n 0, 1) := by decide +kernel
theorem d_M_cutRule_60 : decode b_M_cutRule 60 = .ok (.getfield 29, 3) := by decide +kernel
theorem d_M_cutRule_63 : decode b_M_cutRule 63 = .ok (.aload_n 0, 1) := by decide +kernel
theorem d_M_cutRule_64 : decode b_M_cutRule 64 = .ok (.getfield 7, 3) := by decide +kernel
theorem d_M_cutRule_67 : decode b_M_cutRule 67 = .ok (.iload 5, 2) := by decide +kernel
theorem d_M_cutRule_69 : decode b_M_cutRule 69 = .ok (.iaload, 1) := by decide +kernel
theorem d_M_cutRule_70 : decode b_M_cutRule 70 = .ok (.iaload, 1) := by decide +kernel
theorem d_M_cutRule_71 : decode b_M_cutRule 71 = .ok (.ifCond .le 30, 3) := by decide +kernel
theorem d_M_cutRule_74 : decode b_M_cutRule 74 = .ok (.aload_n 0, 1) := by decide +kernel
theorem d_M_cutRule_75 : decode b_M_cutRule 75 = .ok (.getfield 29, 3) := by decide +kernel
theorem d_M_cutRule_78 : decode b_M_cutRule 78 = .ok (.aload_n 0, 1) := by decide +kernel
theorem d_M_cutRule_79 : decode b_M_cutRule 79 = .ok (.getfield 13, 3) := by decide +kernel
theorem d_M_cutRule_82 : decode b_M_cutRule 82 = .ok (.iload 5, 2) := by decide +kernel
theorem d_M_cutRule_84 : decode b_M_cutRule 84 = .ok (.iaload, 1) := by decide +kernel
theorem d_M_cutRule_85 : decode b_M_cutRule 85 = .ok (.iaload, 1) := by decide +kernel
theorem d_M_cutRule_86 : decode b_M_cutRule 86 = .ok (.ifCond .ne 15, 3) := by decide +kernel
theorem d_M_cutRule_89 : decode b_M_cutRule 89 = .ok (.iload 4, 2) := by decide +kernel
theorem d_M_cutRule_91 : decode b_M_cutRule 91 = .ok (.iload_n 3, 1) := by decide +kernel
theorem d_M_cutRule_92 : decode b_M_cutRule 92 = .ok (.if_icmp .ne 6, 3) := by decide +kernel
theorem d_M_cutRule_95 : decode b_M_cutRule 95 = .ok (.iload 5, 2) := by decide +kernel
theorem d_M_cutRule_97 : decode b_M_cutRule 97 = .ok (.ireturn, 1) := by decide +kernel
theorem d_M_cutRule_98 : decode b_M_cutRule 98 = .ok (.iinc 4 1, 3) := by decide +kernel
theorem d_M_cutRule_101 : decode b_M_cutRule 101 = .ok (.iinc 5 1, 3) := by decide +kernel
theorem d_M_cutRule_104 : decode b_M_cutRule 104 = .ok (.goto (-64), 3) := by decide +kernel
theorem d_M_cutRule_107 : decode b_M_cutRule 107 = .ok (.iconst (-1), 1) := by decide +kernel
theorem d_M_cutRule_108 : decode b_M_cutRule 108 = .ok (.ireturn, 1) := by decide +kernel
