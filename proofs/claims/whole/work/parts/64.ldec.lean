/-! Decode rows. -/
theorem d_L_rule_0 : decode b_L_rule 0 = .ok (.aload 4, 2) := by decide +kernel
theorem d_L_rule_2 : decode b_L_rule 2 = .ok (.iconst 0, 1) := by decide +kernel
theorem d_L_rule_3 : decode b_L_rule 3 = .ok (.aload_n 0, 1) := by decide +kernel
theorem d_L_rule_4 : decode b_L_rule 4 = .ok (.iload_n 1, 1) := by decide +kernel
theorem d_L_rule_5 : decode b_L_rule 5 = .ok (.iload_n 2, 1) := by decide +kernel
theorem d_L_rule_6 : decode b_L_rule 6 = .ok (.iload_n 3, 1) := by decide +kernel
theorem d_L_rule_7 : decode b_L_rule 7 = .ok (.invokevirtual 7, 3) := by decide +kernel
theorem d_L_rule_10 : decode b_L_rule 10 = .ok (.i2l, 1) := by decide +kernel
theorem d_L_rule_11 : decode b_L_rule 11 = .ok (.lastore, 1) := by decide +kernel
theorem d_L_rule_12 : decode b_L_rule 12 = .ok (.goto 11, 3) := by decide +kernel
theorem d_L_rule_15 : decode b_L_rule 15 = .ok (.astore 5, 2) := by decide +kernel
theorem d_L_rule_17 : decode b_L_rule 17 = .ok (.iconst 1, 1) := by decide +kernel
theorem d_L_rule_18 : decode b_L_rule 18 = .ok (.ireturn, 1) := by decide +kernel
theorem d_L_rule_19 : decode b_L_rule 19 = .ok (.astore 5, 2) := by decide +kernel
theorem d_L_rule_21 : decode b_L_rule 21 = .ok (.iconst 2, 1) := by decide +kernel
theorem d_L_rule_22 : decode b_L_rule 22 = .ok (.ireturn, 1) := by decide +kernel
theorem d_L_rule_23 : decode b_L_rule 23 = .ok (.iconst 0, 1) := by decide +kernel
theorem d_L_rule_24 : decode b_L_rule 24 = .ok (.ireturn, 1) := by decide +kernel
theorem d_L_turn_0 : decode b_L_turn 0 = .ok (.aload_n 3, 1) := by decide +kernel
theorem d_L_turn_1 : decode b_L_turn 1 = .ok (.iconst 0, 1) := by decide +kernel
theorem d_L_turn_2 : decode b_L_turn 2 = .ok (.aload_n 0, 1) := by decide +kernel
theorem d_L_turn_3 : decode b_L_turn 3 = .ok (.iload_n 1, 1) := by decide +kernel
theorem d_L_turn_4 : decode b_L_turn 4 = .ok (.iload_n 2, 1) := by decide +kernel
theorem d_L_turn_5 : decode b_L_turn 5 = .ok (.invokevirtual 17, 3) := by decide +kernel
theorem d_L_turn_8 : decode b_L_turn 8 = .ok (.ifCond .eq 7, 3) := by decide +kernel
theorem d_L_turn_11 : decode b_L_turn 11 = .ok (.lconst 1, 1) := by decide +kernel
theorem d_L_turn_12 : decode b_L_turn 12 = .ok (.goto 4, 3) := by decide +kernel
theorem d_L_turn_15 : decode b_L_turn 15 = .ok (.lconst 0, 1) := by decide +kernel
theorem d_L_turn_16 : decode b_L_turn 16 = .ok (.lastore, 1) := by decide +kernel
theorem d_L_turn_17 : decode b_L_turn 17 = .ok (.goto 7, 3) := by decide +kernel
theorem d_L_turn_20 : decode b_L_turn 20 = .ok (.astore 4, 2) := by decide +kernel
theorem d_L_turn_22 : decode b_L_turn 22 = .ok (.iconst 1, 1) := by decide +kernel
theorem d_L_turn_23 : decode b_L_turn 23 = .ok (.ireturn, 1) := by decide +kernel
theorem d_L_turn_24 : decode b_L_turn 24 = .ok (.iconst 0, 1) := by decide +kernel
theorem d_L_turn_25 : decode b_L_turn 25 = .ok (.ireturn, 1) := by decide +kernel
theorem d_L_length_0 : decode b_L_length 0 = .ok (.aload_n 3, 1) := by decide +kernel
theorem d_L_length_1 : decode b_L_length 1 = .ok (.iconst 0, 1) := by decide +kernel
theorem d_L_length_2 : decode b_L_length 2 = .ok (.aload_n 0, 1) := by decide +kernel
theorem d_L_length_3 : decode b_L_length 3 = .ok (.iload_n 1, 1) := by decide +kernel
theorem d_L_length_4 : decode b_L_length 4 = .ok (.iload_n 2, 1) := by decide +kernel
theorem d_L_length_5 : decode b_L_length 5 = .ok (.invokevirtual 23, 3) := by decide +kernel
theorem d_L_length_8 : decode b_L_length 8 = .ok (.i2l, 1) := by decide +kernel
theorem d_L_length_9 : decode b_L_length 9 = .ok (.lastore, 1) := by decide +kernel
theorem d_L_length_10 : decode b_L_length 10 = .ok (.goto 7, 3) := by decide +kernel
theorem d_L_length_13 : decode b_L_length 13 = .ok (.astore 4, 2) := by decide +kernel
theorem d_L_length_15 : decode b_L_length 15 = .ok (.iconst 1, 1) := by decide +kernel
theorem d_L_length_16 : decode b_L_length 16 = .ok (.ireturn, 1) := by decide +kernel
theorem d_L_length_17 : decode b_L_length 17 = .ok (.iconst 0, 1) := by decide +kernel
theorem d_L_length_18 : decode b_L_length 18 = .ok (.ireturn, 1) := by decide +kernel
theorem d_L_step_0 : decode b_L_step 0 = .ok (.aload 4, 2) := by decide +kernel
theorem d_L_step_2 : decode b_L_step 2 = .ok (.iconst 0, 1) := by decide +kernel
theorem d_L_step_3 : decode b_L_step 3 = .ok (.aload_n 0, 1) := by decide +kernel
theorem d_L_step_4 : decode b_L_step 4 = .ok (.iload_n 1, 1) := by decide +kernel
theorem d_L_step_5 : decode b_L_step 5 = .ok (.iload_n 2, 1) := by decide +kernel
theorem d_L_step_6 : decode b_L_step 6 = .ok (.iload_n 3, 1) := by decide +kernel
theorem d_L_step_7 : decode b_L_step 7 = .ok (.invokevirtual 27, 3) := by decide +kernel
theorem d_L_step_10 : decode b_L_step 10 = .ok (.i2l, 1) := by decide +kernel
theorem d_L_step_11 : decode b_L_step 11 = .ok (.lastore, 1) := by decide +kernel
theorem d_L_step_12 : decode b_L_step 12 = .ok (.goto 11, 3) := by decide +kernel
theorem d_L_step_15 : decode b_L_step 15 = .ok (.astore 5, 2) := by decide +kernel
theorem d_L_step_17 : decode b_L_step 17 = .ok (.iconst 1, 1) := by decide +kernel
theorem d_L_step_18 : decode b_L_step 18 = .ok (.ireturn, 1) := by decide +kernel
theorem d_L_step_19 : decode b_L_step 19 = .ok (.astore 5, 2) := by decide +kernel
theorem d_L_step_21 : decode b_L_step 21 = .ok (.iconst 2, 1) := by decide +kernel
theorem d_L_step_22 : decode b_L_step 22 = .ok (.ireturn, 1) := by decide +kernel
theorem d_L_step_23 : decode b_L_step 23 = .ok (.iconst 0, 1) := by decide +kernel
theorem d_L_step_24 : decode b_L_step 24 = .ok (.ireturn, 1) := by decide +kernel
theorem d_L_passed_0 : decode b_L_passed 0 = .ok (.aload_n 3, 1) := by decide +kernel
theorem d_L_passed_1 : decode b_L_passed 1 = .ok (.iconst 0, 1) := by decide +kernel
theorem d_L_passed_2 : decode b_L_passed 2 = .ok (.aload_n 0, 1) := by decide +kernel
theorem d_L_passed_3 : decode b_L_passed 3 = .ok (.iload_n 1, 1) := by decide +kernel
theorem d_L_passed_4 : decode b_L_passed 4 = .ok (.iload_n 2, 1) := by decide +kernel
theorem d_L_passed_5 : decode b_L_passed 5 = .ok (.invokevirtual 30, 3) := by decide +kernel
theorem d_L_passed_8 : decode b_L_passed 8 = .ok (.i2l, 1) := by decide +kernel
theorem d_L_passed_9 : decode b_L_passed 9 = .ok (.lastore, 1) := by decide +kernel
theorem d_L_passed_10 : decode b_L_passed 10 = .ok (.goto 7, 3) := by decide +kernel
theorem d_L_passed_13 : decode b_L_passed 13 = .ok (.astore 4, 2) := by decide +kernel
theorem d_L_passed_15 : decode b_L_passed 15 = .ok (.iconst 1, 1) := by decide +kernel
theorem d_L_passed_16 : decode b_L_passed 16 = .ok (.ireturn, 1) := by decide +kernel
theorem d_L_passed_17 : decode b_L_passed 17 = .ok (.iconst 0, 1) := by decide +kernel
theorem d_L_passed_18 : decode b_L_passed 18 = .ok (.ireturn, 1) := by decide +kernel
theorem d_L_circle_0 : decode b_L_circle 0 = .ok (.aload_n 2, 1) := by decide +kernel
theorem d_L_circle_1 : decode b_L_circle 1 = .ok (.iconst 0, 1) := by decide +kernel
theorem d_L_circle_2 : decode b_L_circle 2 = .ok (.aload_n 0, 1) := by decide +kernel
theorem d_L_circle_3 : decode b_L_circle 3 = .ok (.iload_n 1, 1) := by decide +kernel
theorem d_L_circle_4 : decode b_L_circle 4 = .ok (.invokevirtual 33, 3) := by decide +kernel
theorem d_L_circle_7 : decode b_L_circle 7 = .ok (.i2l, 1) := by decide +kernel
theorem d_L_circle_8 : decode b_L_circle 8 = .ok (.lastore, 1) := by decide +kernel
theorem d_L_circle_9 : decode b_L_circle 9 = .ok (.goto 6, 3) := by decide +kernel
theorem d_L_circle_12 : decode b_L_circle 12 = .ok (.astore_n 3, 1) := by decide +kernel
theorem d_L_circle_13 : decode b_L_circle 13 = .ok (.iconst 1, 1) := by decide +kernel
theorem d_L_circle_14 : decode b_L_circle 14 = .ok (.ireturn, 1) := by decide +kernel
theorem d_L_circle_15 : decode b_L_circle 15 = .ok (.iconst 0, 1) := by decide +kernel
theorem d_L_circle_16 : decode b_L_circle 16 = .ok (.ireturn, 1) := by decide +kernel
theorem d_L_cut_0 : decode b_L_cut 0 = .ok (.aload_n 3, 1) := by decide +kernel
theorem d_L_cut_1 : decode b_L_cut 1 = .ok (.iconst 0, 1) := by decide +kernel
theorem d_L_cut_2 : decode b_L_cut 2 = .ok (.aload_n 0, 1) := by decide +kernel
theorem d_L_cut_3 : decode b_L_cut 3 = .ok (.iload_n 1, 1) := by decide +kernel
theorem d_L_cut_4 : decode b_L_cut 4 = .ok (.iload_n 2, 1) := by decide +kernel
theorem d_L_cut_5 : decode b_L_cut 5 = .ok (.invokevirtual 37, 3) := by decide +kernel
theorem d_L_cut_8 : decode b_L_cut 8 = .ok (.i2l, 1) := by decide +kernel
theorem d_L_cut_9 : decode b_L_cut 9 = .ok (.lastore, 1) := by decide +kernel
theorem d_L_cut_10 : decode b_L_cut 10 = .ok (.goto 7, 3) := by decide +kernel
theorem d_L_cut_13 : decode b_L_cut 13 = .ok (.astore 4, 2) := by decide +kernel
theorem d_L_cut_15 : decode b_L_cut 15 = .ok (.iconst 1, 1) := by decide +kernel
theorem d_L_cut_16 : decode b_L_cut 16 = .ok (.ireturn, 1) := by decide +kernel
theorem d_L_cut_17 : decode b_L_cut 17 = .ok (.iconst 0, 1) := by decide +kernel
theorem d_L_cut_18 : decode b_L_cut 18 = .ok (.ireturn, 1) := by decide +kernel
theorem d_L_cutRule_0 : decode b_L_cutRule 0 = .ok (.aload 4, 2) := by decide +kernel
theorem d_L_cutRule_2 : decode b_L_cutRule 2 = .ok (.iconst 0, 1) := by decide +kernel
theorem d_L_cutRule_3 : decode b_L_cutRule 3 = .ok (.aload_n 0, 1) := by decide +kernel
theorem d_L_cutRule_4 : decode b_L_cutRule 4 = .ok (.iload_n 1, 1) := by decide +kernel
theorem d_L_cutRule_5 : decode b_L_cutRule 5 = .ok (.iload_n 2, 1) := by decide +kernel
theorem d_L_cutRule_6 : decode b_L_cutRule 6 = .ok (.iload_n 3, 1) := by decide +kernel
theorem d_L_cutRule_7 : decode b_L_cutRule 7 = .ok (.invokevirtual 40, 3) := by decide +kernel
theorem d_L_cutRule_10 : decode b_L_cutRule 10 = .ok (.i2l, 1) := by decide +kernel
theorem d_L_cutRule_11 : decode b_L_cutRule 11 = .ok (.lastore, 1) := by decide +kernel
theorem d_L_cutRule_12 : decode b_L_cutRule 12 = .ok (.goto 7, 3) := by decide +kernel
theorem d_L_cutRule_15 : decode b_L_cutRule 15 = .ok (.astore 5, 2) := by decide +kernel
theorem d_L_cutRule_17 : decode b_L_cutRule 17 = .ok (.iconst 1, 1) := by decide +kernel
theorem d_L_cutRule_18 : decode b_L_cutRule 18 = .ok (.ireturn, 1) := by decide +kernel
theorem d_L_cutRule_19 : decode b_L_cutRule 19 = .ok (.iconst 0, 1) := by decide +kernel
theorem d_L_cutRule_20 : decode b_L_cutRule 20 = .ok (.ireturn, 1) := by decide +kernel
theorem d_L_left_0 : decode b_L_left 0 = .ok (.aload_n 3, 1) := by decide +kernel
theorem d_L_left_1 : decode b_L_left 1 = .ok (.iconst 0, 1) := by decide +kernel
theorem d_L_left_2 : decode b_L_left 2 = .ok (.aload_n 0, 1) := by decide +kernel
theorem d_L_left_3 : decode b_L_left 3 = .ok (.iload_n 1, 1) := by decide +kernel
theorem d_L_left_4 : decode b_L_left 4 = .ok (.iload_n 2, 1) := by decide +kernel
theorem d_L_left_5 : decode b_L_left 5 = .ok (.invokevirtual 43, 3) := by decide +kernel
theorem d_L_left_8 : decode b_L_left 8 = .ok (.i2l, 1) := by decide +kernel
theorem d_L_left_9 : decode b_L_left 9 = .ok (.lastore, 1) := by decide +kernel
theorem d_L_left_10 : decode b_L_left 10 = .ok (.goto 7, 3) := by decide +kernel
theorem d_L_left_13 : decode b_L_left 13 = .ok (.astore 4, 2) := by decide +kernel
theorem d_L_left_15 : decode b_L_left 15 = .ok (.iconst 1, 1) := by decide +kernel
theorem d_L_left_16 : decode b_L_left 16 = .ok (.ireturn, 1) := by decide +kernel
theorem d_L_left_17 : decode b_L_left 17 = .ok (.iconst 0, 1) := by decide +kernel
theorem d_L_left_18 : decode b_L_left 18 = .ok (.ireturn, 1) := by decide +kernel
