theorem dL_part_0 : decode cL_part 0 = .ok (.iload_n 0, 1) := by decide +kernel
theorem dL_part_1 : decode cL_part 1 = .ok (.ldc 7, 2) := by decide +kernel
theorem dL_part_3 : decode cL_part 3 = .ok (.iand, 1) := by decide +kernel
theorem dL_part_4 : decode cL_part 4 = .ok (.iload_n 1, 1) := by decide +kernel
theorem dL_part_5 : decode cL_part 5 = .ok (.irem, 1) := by decide +kernel
theorem dL_part_6 : decode cL_part 6 = .ok (.ireturn, 1) := by decide +kernel
theorem dL_take_0 : decode cL_take 0 = .ok (.aload_n 0, 1) := by decide +kernel
theorem dL_take_1 : decode cL_take 1 = .ok (.arraylength, 1) := by decide +kernel
theorem dL_take_2 : decode cL_take 2 = .ok (.ifCond .ne 13, 3) := by decide +kernel
theorem dL_take_5 : decode cL_take 5 = .ok (.sipush 7919, 3) := by decide +kernel
theorem dL_take_8 : decode cL_take 8 = .ok (.iload_n 1, 1) := by decide +kernel
theorem dL_take_9 : decode cL_take 9 = .ok (.imul, 1) := by decide +kernel
theorem dL_take_10 : decode cL_take 10 = .ok (.iconst 3, 1) := by decide +kernel
theorem dL_take_11 : decode cL_take 11 = .ok (.iadd, 1) := by decide +kernel
theorem dL_take_12 : decode cL_take 12 = .ok (.goto 27, 3) := by decide +kernel
theorem dL_take_15 : decode cL_take 15 = .ok (.aload_n 0, 1) := by decide +kernel
theorem dL_take_16 : decode cL_take 16 = .ok (.iload_n 1, 1) := by decide +kernel
theorem dL_take_17 : decode cL_take 17 = .ok (.aload_n 0, 1) := by decide +kernel
theorem dL_take_18 : decode cL_take 18 = .ok (.arraylength, 1) := by decide +kernel
theorem dL_take_19 : decode cL_take 19 = .ok (.irem, 1) := by decide +kernel
theorem dL_take_20 : decode cL_take 20 = .ok (.iaload, 1) := by decide +kernel
theorem dL_take_21 : decode cL_take 21 = .ok (.iload_n 1, 1) := by decide +kernel
theorem dL_take_22 : decode cL_take 22 = .ok (.bipush 7, 2) := by decide +kernel
theorem dL_take_24 : decode cL_take 24 = .ok (.irem, 1) := by decide +kernel
theorem dL_take_25 : decode cL_take 25 = .ok (.ishr, 1) := by decide +kernel
theorem dL_take_26 : decode cL_take 26 = .ok (.iload_n 1, 1) := by decide +kernel
theorem dL_take_27 : decode cL_take 27 = .ok (.aload_n 0, 1) := by decide +kernel
theorem dL_take_28 : decode cL_take 28 = .ok (.arraylength, 1) := by decide +kernel
theorem dL_take_29 : decode cL_take 29 = .ok (.idiv, 1) := by decide +kernel
theorem dL_take_30 : decode cL_take 30 = .ok (.bipush 31, 2) := by decide +kernel
theorem dL_take_32 : decode cL_take 32 = .ok (.imul, 1) := by decide +kernel
theorem dL_take_33 : decode cL_take 33 = .ok (.ixor, 1) := by decide +kernel
theorem dL_take_34 : decode cL_take 34 = .ok (.iload_n 1, 1) := by decide +kernel
theorem dL_take_35 : decode cL_take 35 = .ok (.ldc 8, 2) := by decide +kernel
theorem dL_take_37 : decode cL_take 37 = .ok (.imul, 1) := by decide +kernel
theorem dL_take_38 : decode cL_take 38 = .ok (.ixor, 1) := by decide +kernel
theorem dL_take_39 : decode cL_take 39 = .ok (.ireturn, 1) := by decide +kernel
theorem dL_beginning_0 : decode cL_beginning 0 = .ok (.aload_n 0, 1) := by decide +kernel
theorem dL_beginning_1 : decode cL_beginning 1 = .ok (.iload_n 1, 1) := by decide +kernel
theorem dL_beginning_2 : decode cL_beginning 2 = .ok (.iload_n 2, 1) := by decide +kernel
theorem dL_beginning_3 : decode cL_beginning 3 = .ok (.invokevirtual 9, 3) := by decide +kernel
theorem dL_beginning_6 : decode cL_beginning 6 = .ok (.ireturn, 1) := by decide +kernel
theorem dL_beginning_7 : decode cL_beginning 7 = .ok (.astore_n 3, 1) := by decide +kernel
theorem dL_beginning_8 : decode cL_beginning 8 = .ok (.sipush (-3002), 3) := by decide +kernel
theorem dL_beginning_11 : decode cL_beginning 11 = .ok (.ireturn, 1) := by decide +kernel
theorem dL_painting_0 : decode cL_painting 0 = .ok (.aload_n 0, 1) := by decide +kernel
theorem dL_painting_1 : decode cL_painting 1 = .ok (.iload_n 1, 1) := by decide +kernel
theorem dL_painting_2 : decode cL_painting 2 = .ok (.iload_n 2, 1) := by decide +kernel
theorem dL_painting_3 : decode cL_painting 3 = .ok (.iload_n 3, 1) := by decide +kernel
theorem dL_painting_4 : decode cL_painting 4 = .ok (.iload 4, 2) := by decide +kernel
theorem dL_painting_6 : decode cL_painting 6 = .ok (.iload 5, 2) := by decide +kernel
theorem dL_painting_8 : decode cL_painting 8 = .ok (.invokevirtual 17, 3) := by decide +kernel
theorem dL_painting_11 : decode cL_painting 11 = .ok (.ireturn, 1) := by decide +kernel
theorem dL_painting_12 : decode cL_painting 12 = .ok (.astore 6, 2) := by decide +kernel
theorem dL_painting_14 : decode cL_painting 14 = .ok (.sipush (-3001), 3) := by decide +kernel
theorem dL_painting_17 : decode cL_painting 17 = .ok (.ireturn, 1) := by decide +kernel
theorem dL_painting_18 : decode cL_painting 18 = .ok (.astore 6, 2) := by decide +kernel
theorem dL_painting_20 : decode cL_painting 20 = .ok (.sipush (-3002), 3) := by decide +kernel
theorem dL_painting_23 : decode cL_painting 23 = .ok (.ireturn, 1) := by decide +kernel
theorem dL_adding_0 : decode cL_adding 0 = .ok (.aload_n 0, 1) := by decide +kernel
theorem dL_adding_1 : decode cL_adding 1 = .ok (.iload_n 1, 1) := by decide +kernel
theorem dL_adding_2 : decode cL_adding 2 = .ok (.iload_n 2, 1) := by decide +kernel
theorem dL_adding_3 : decode cL_adding 3 = .ok (.invokevirtual 23, 3) := by decide +kernel
theorem dL_adding_6 : decode cL_adding 6 = .ok (.ireturn, 1) := by decide +kernel
theorem dL_adding_7 : decode cL_adding 7 = .ok (.astore_n 3, 1) := by decide +kernel
theorem dL_adding_8 : decode cL_adding 8 = .ok (.sipush (-3002), 3) := by decide +kernel
theorem dL_adding_11 : decode cL_adding 11 = .ok (.ireturn, 1) := by decide +kernel
theorem dL_adding_12 : decode cL_adding 12 = .ok (.astore_n 3, 1) := by decide +kernel
theorem dL_adding_13 : decode cL_adding 13 = .ok (.sipush (-3003), 3) := by decide +kernel
theorem dL_adding_16 : decode cL_adding 16 = .ok (.ireturn, 1) := by decide +kernel
theorem dL_cornering_0 : decode cL_cornering 0 = .ok (.aload_n 0, 1) := by decide +kernel
theorem dL_cornering_1 : decode cL_cornering 1 = .ok (.iload_n 1, 1) := by decide +kernel
theorem dL_cornering_2 : decode cL_cornering 2 = .ok (.iload_n 2, 1) := by decide +kernel
theorem dL_cornering_3 : decode cL_cornering 3 = .ok (.iload_n 3, 1) := by decide +kernel
theorem dL_cornering_4 : decode cL_cornering 4 = .ok (.iload 4, 2) := by decide +kernel
theorem dL_cornering_6 : decode cL_cornering 6 = .ok (.invokevirtual 28, 3) := by decide +kernel
theorem dL_cornering_9 : decode cL_cornering 9 = .ok (.ireturn, 1) := by decide +kernel
theorem dL_cornering_10 : decode cL_cornering 10 = .ok (.astore 5, 2) := by decide +kernel
theorem dL_cornering_12 : decode cL_cornering 12 = .ok (.sipush (-3001), 3) := by decide +kernel
theorem dL_cornering_15 : decode cL_cornering 15 = .ok (.ireturn, 1) := by decide +kernel
theorem dL_cornering_16 : decode cL_cornering 16 = .ok (.astore 5, 2) := by decide +kernel
theorem dL_cornering_18 : decode cL_cornering 18 = .ok (.sipush (-3002), 3) := by decide +kernel
theorem dL_cornering_21 : decode cL_cornering 21 = .ok (.ireturn, 1) := by decide +kernel
theorem dL_squaring_0 : decode cL_squaring 0 = .ok (.aload_n 0, 1) := by decide +kernel
theorem dL_squaring_1 : decode cL_squaring 1 = .ok (.iload_n 1, 1) := by decide +kernel
theorem dL_squaring_2 : decode cL_squaring 2 = .ok (.iload_n 2, 1) := by decide +kernel
theorem dL_squaring_3 : decode cL_squaring 3 = .ok (.iload_n 3, 1) := by decide +kernel
theorem dL_squaring_4 : decode cL_squaring 4 = .ok (.iload 4, 2) := by decide +kernel
theorem dL_squaring_6 : decode cL_squaring 6 = .ok (.iload 5, 2) := by decide +kernel
theorem dL_squaring_8 : decode cL_squaring 8 = .ok (.invokevirtual 32, 3) := by decide +kernel
theorem dL_squaring_11 : decode cL_squaring 11 = .ok (.ireturn, 1) := by decide +kernel
theorem dL_squaring_12 : decode cL_squaring 12 = .ok (.astore 6, 2) := by decide +kernel
theorem dL_squaring_14 : decode cL_squaring 14 = .ok (.sipush (-3001), 3) := by decide +kernel
theorem dL_squaring_17 : decode cL_squaring 17 = .ok (.ireturn, 1) := by decide +kernel
theorem dL_squaring_18 : decode cL_squaring 18 = .ok (.astore 6, 2) := by decide +kernel
theorem dL_squaring_20 : decode cL_squaring 20 = .ok (.sipush (-3002), 3) := by decide +kernel
theorem dL_squaring_23 : decode cL_squaring 23 = .ok (.ireturn, 1) := by decide +kernel
theorem dL_setting_0 : decode cL_setting 0 = .ok (.aload_n 0, 1) := by decide +kernel
theorem dL_setting_1 : decode cL_setting 1 = .ok (.iload_n 1, 1) := by decide +kernel
theorem dL_setting_2 : decode cL_setting 2 = .ok (.iload_n 2, 1) := by decide +kernel
theorem dL_setting_3 : decode cL_setting 3 = .ok (.iload_n 3, 1) := by decide +kernel
theorem dL_setting_4 : decode cL_setting 4 = .ok (.invokevirtual 35, 3) := by decide +kernel
theorem dL_setting_7 : decode cL_setting 7 = .ok (.ireturn, 1) := by decide +kernel
theorem dL_setting_8 : decode cL_setting 8 = .ok (.astore 4, 2) := by decide +kernel
theorem dL_setting_10 : decode cL_setting 10 = .ok (.sipush (-3001), 3) := by decide +kernel
theorem dL_setting_13 : decode cL_setting 13 = .ok (.ireturn, 1) := by decide +kernel
theorem dL_setting_14 : decode cL_setting 14 = .ok (.astore 4, 2) := by decide +kernel
theorem dL_setting_16 : decode cL_setting 16 = .ok (.sipush (-3002), 3) := by decide +kernel
theorem dL_setting_19 : decode cL_setting 19 = .ok (.ireturn, 1) := by decide +kernel
theorem dL_working_0 : decode cL_working 0 = .ok (.aload_n 0, 1) := by decide +kernel
theorem dL_working_1 : decode cL_working 1 = .ok (.iload_n 1, 1) := by decide +kernel
theorem dL_working_2 : decode cL_working 2 = .ok (.iload_n 2, 1) := by decide +kernel
theorem dL_working_3 : decode cL_working 3 = .ok (.invokevirtual 39, 3) := by decide +kernel
theorem dL_working_6 : decode cL_working 6 = .ok (.ireturn, 1) := by decide +kernel
theorem dL_working_7 : decode cL_working 7 = .ok (.astore_n 3, 1) := by decide +kernel
theorem dL_working_8 : decode cL_working 8 = .ok (.sipush (-3001), 3) := by decide +kernel
theorem dL_working_11 : decode cL_working 11 = .ok (.ireturn, 1) := by decide +kernel
theorem dL_shifting_0 : decode cL_shifting 0 = .ok (.aload_n 0, 1) := by decide +kernel
theorem dL_shifting_1 : decode cL_shifting 1 = .ok (.iload_n 1, 1) := by decide +kernel
theorem dL_shifting_2 : decode cL_shifting 2 = .ok (.iload_n 2, 1) := by decide +kernel
theorem dL_shifting_3 : decode cL_shifting 3 = .ok (.invokevirtual 43, 3) := by decide +kernel
theorem dL_shifting_6 : decode cL_shifting 6 = .ok (.ireturn, 1) := by decide +kernel
theorem dL_shifting_7 : decode cL_shifting 7 = .ok (.astore_n 3, 1) := by decide +kernel
theorem dL_shifting_8 : decode cL_shifting 8 = .ok (.sipush (-3002), 3) := by decide +kernel
theorem dL_shifting_11 : decode cL_shifting 11 = .ok (.ireturn, 1) := by decide +kernel
theorem dL_burning_0 : decode cL_burning 0 = .ok (.aload_n 0, 1) := by decide +kernel
theorem dL_burning_1 : decode cL_burning 1 = .ok (.iload_n 1, 1) := by decide +kernel
theorem dL_burning_2 : decode cL_burning 2 = .ok (.invokevirtual 46, 3) := by decide +kernel
theorem dL_burning_5 : decode cL_burning 5 = .ok (.ireturn, 1) := by decide +kernel
theorem dL_burning_6 : decode cL_burning 6 = .ok (.astore_n 2, 1) := by decide +kernel
theorem dL_burning_7 : decode cL_burning 7 = .ok (.sipush (-3002), 3) := by decide +kernel
theorem dL_burning_10 : decode cL_burning 10 = .ok (.ireturn, 1) := by decide +kernel
theorem dL_placing_0 : decode cL_placing 0 = .ok (.aload_n 0, 1) := by decide +kernel
theorem dL_placing_1 : decode cL_placing 1 = .ok (.iload_n 1, 1) := by decide +kernel
theorem dL_placing_2 : decode cL_placing 2 = .ok (.iload_n 2, 1) := by decide +kernel
theorem dL_placing_3 : decode cL_placing 3 = .ok (.iload_n 3, 1) := by decide +kernel
theorem dL_placing_4 : decode cL_placing 4 = .ok (.invokevirtual 50, 3) := by decide +kernel
theorem dL_placing_7 : decode cL_placing 7 = .ok (.ireturn, 1) := by decide +kernel
theorem dL_placing_8 : decode cL_placing 8 = .ok (.astore 4, 2) := by decide +kernel
theorem dL_placing_10 : decode cL_placing 10 = .ok (.sipush (-3001), 3) := by decide +kernel
theorem dL_placing_13 : decode cL_placing 13 = .ok (.ireturn, 1) := by decide +kernel
theorem dL_placing_14 : decode cL_placing 14 = .ok (.astore 4, 2) := by decide +kernel
theorem dL_placing_16 : decode cL_placing 16 = .ok (.sipush (-3002), 3) := by decide +kernel
theorem dL_placing_19 : decode cL_placing 19 = .ok (.ireturn, 1) := by decide +kernel
theorem dL_lighting_0 : decode cL_lighting 0 = .ok (.aload_n 0, 1) := by decide +kernel
theorem dL_lighting_1 : decode cL_lighting 1 = .ok (.iload_n 1, 1) := by decide +kernel
theorem dL_lighting_2 : decode cL_lighting 2 = .ok (.iload_n 2, 1) := by decide +kernel
theorem dL_lighting_3 : decode cL_lighting 3 = .ok (.iload_n 3, 1) := by decide +kernel
theorem dL_lighting_4 : decode cL_lighting 4 = .ok (.invokevirtual 53, 3) := by decide +kernel
theorem dL_lighting_7 : decode cL_lighting 7 = .ok (.ireturn, 1) := by decide +kernel
theorem dL_lighting_8 : decode cL_lighting 8 = .ok (.astore 4, 2) := by decide +kernel
theorem dL_lighting_10 : decode cL_lighting 10 = .ok (.sipush (-3001), 3) := by decide +kernel
theorem dL_lighting_13 : decode cL_lighting 13 = .ok (.ireturn, 1) := by decide +kernel
theorem dL_weighing_0 : decode cL_weighing 0 = .ok (.aload_n 0, 1) := by decide +kernel
theorem dL_weighing_1 : decode cL_weighing 1 = .ok (.iload_n 1, 1) := by decide +kernel
theorem dL_weighing_2 : decode cL_weighing 2 = .ok (.iload_n 2, 1) := by decide +kernel
theorem dL_weighing_3 : decode cL_weighing 3 = .ok (.iload_n 3, 1) := by decide +kernel
theorem dL_weighing_4 : decode cL_weighing 4 = .ok (.invokevirtual 56, 3) := by decide +kernel
theorem dL_weighing_7 : decode cL_weighing 7 = .ok (.ireturn, 1) := by decide +kernel
theorem dL_weighing_8 : decode cL_weighing 8 = .ok (.astore 4, 2) := by decide +kernel
theorem dL_weighing_10 : decode cL_weighing 10 = .ok (.sipush (-3001), 3) := by decide +kernel
theorem dL_weighing_13 : decode cL_weighing 13 = .ok (.ireturn, 1) := by decide +kernel
theorem dL_lamping_0 : decode cL_lamping 0 = .ok (.aload_n 0, 1) := by decide +kernel
theorem dL_lamping_1 : decode cL_lamping 1 = .ok (.iload_n 1, 1) := by decide +kernel
theorem dL_lamping_2 : decode cL_lamping 2 = .ok (.iload_n 2, 1) := by decide +kernel
theorem dL_lamping_3 : decode cL_lamping 3 = .ok (.invokevirtual 59, 3) := by decide +kernel
theorem dL_lamping_6 : decode cL_lamping 6 = .ok (.ireturn, 1) := by decide +kernel
theorem dL_lamping_7 : decode cL_lamping 7 = .ok (.astore_n 3, 1) := by decide +kernel
theorem dL_lamping_8 : decode cL_lamping 8 = .ok (.sipush (-3001), 3) := by decide +kernel
theorem dL_lamping_11 : decode cL_lamping 11 = .ok (.ireturn, 1) := by decide +kernel
theorem dL_lamping_12 : decode cL_lamping 12 = .ok (.astore_n 3, 1) := by decide +kernel
theorem dL_lamping_13 : decode cL_lamping 13 = .ok (.sipush (-3002), 3) := by decide +kernel
theorem dL_lamping_16 : decode cL_lamping 16 = .ok (.ireturn, 1) := by decide +kernel
theorem dL_cornerAt_0 : decode cL_cornerAt 0 = .ok (.aload_n 0, 1) := by decide +kernel
theorem dL_cornerAt_1 : decode cL_cornerAt 1 = .ok (.iload_n 1, 1) := by decide +kernel
theorem dL_cornerAt_2 : decode cL_cornerAt 2 = .ok (.iload_n 2, 1) := by decide +kernel
theorem dL_cornerAt_3 : decode cL_cornerAt 3 = .ok (.iload_n 3, 1) := by decide +kernel
theorem dL_cornerAt_4 : decode cL_cornerAt 4 = .ok (.invokevirtual 62, 3) := by decide +kernel
theorem dL_cornerAt_7 : decode cL_cornerAt 7 = .ok (.ireturn, 1) := by decide +kernel
theorem dL_cornerAt_8 : decode cL_cornerAt 8 = .ok (.astore 4, 2) := by decide +kernel
theorem dL_cornerAt_10 : decode cL_cornerAt 10 = .ok (.sipush (-3001), 3) := by decide +kernel
theorem dL_cornerAt_13 : decode cL_cornerAt 13 = .ok (.ireturn, 1) := by decide +kernel
theorem dL_cornerAt_14 : decode cL_cornerAt 14 = .ok (.astore 4, 2) := by decide +kernel
theorem dL_cornerAt_16 : decode cL_cornerAt 16 = .ok (.sipush (-3002), 3) := by decide +kernel
theorem dL_cornerAt_19 : decode cL_cornerAt 19 = .ok (.ireturn, 1) := by decide +kernel
theorem dL_all_0 : decode cL_all 0 = .ok (.aload_n 0, 1) := by decide +kernel
theorem dL_all_1 : decode cL_all 1 = .ok (.iload_n 1, 1) := by decide +kernel
theorem dL_all_2 : decode cL_all 2 = .ok (.invokevirtual 65, 3) := by decide +kernel
theorem dL_all_5 : decode cL_all 5 = .ok (.ireturn, 1) := by decide +kernel
theorem dL_all_6 : decode cL_all 6 = .ok (.astore_n 2, 1) := by decide +kernel
theorem dL_all_7 : decode cL_all 7 = .ok (.sipush (-3002), 3) := by decide +kernel
theorem dL_all_10 : decode cL_all 10 = .ok (.ireturn, 1) := by decide +kernel
theorem dL_wrongAt_0 : decode cL_wrongAt 0 = .ok (.aload_n 0, 1) := by decide +kernel
theorem dL_wrongAt_1 : decode cL_wrongAt 1 = .ok (.iload_n 1, 1) := by decide +kernel
theorem dL_wrongAt_2 : decode cL_wrongAt 2 = .ok (.invokevirtual 68, 3) := by decide +kernel
theorem dL_wrongAt_5 : decode cL_wrongAt 5 = .ok (.ireturn, 1) := by decide +kernel
theorem dL_wrongAt_6 : decode cL_wrongAt 6 = .ok (.astore_n 2, 1) := by decide +kernel
theorem dL_wrongAt_7 : decode cL_wrongAt 7 = .ok (.sipush (-3002), 3) := by decide +kernel
theorem dL_wrongAt_10 : decode cL_wrongAt 10 = .ok (.ireturn, 1) := by decide +kernel
theorem dL_wrongBut_0 : decode cL_wrongBut 0 = .ok (.aload_n 0, 1) := by decide +kernel
theorem dL_wrongBut_1 : decode cL_wrongBut 1 = .ok (.iload_n 1, 1) := by decide +kernel
theorem dL_wrongBut_2 : decode cL_wrongBut 2 = .ok (.invokevirtual 71, 3) := by decide +kernel
theorem dL_wrongBut_5 : decode cL_wrongBut 5 = .ok (.ireturn, 1) := by decide +kernel
theorem dL_wrongBut_6 : decode cL_wrongBut 6 = .ok (.astore_n 2, 1) := by decide +kernel
theorem dL_wrongBut_7 : decode cL_wrongBut 7 = .ok (.sipush (-3001), 3) := by decide +kernel
theorem dL_wrongBut_10 : decode cL_wrongBut 10 = .ok (.ireturn, 1) := by decide +kernel
theorem dL_wrongBy_0 : decode cL_wrongBy 0 = .ok (.aload_n 0, 1) := by decide +kernel
theorem dL_wrongBy_1 : decode cL_wrongBy 1 = .ok (.iload_n 1, 1) := by decide +kernel
theorem dL_wrongBy_2 : decode cL_wrongBy 2 = .ok (.iload_n 2, 1) := by decide +kernel
theorem dL_wrongBy_3 : decode cL_wrongBy 3 = .ok (.invokevirtual 74, 3) := by decide +kernel
theorem dL_wrongBy_6 : decode cL_wrongBy 6 = .ok (.ireturn, 1) := by decide +kernel
theorem dL_wrongBy_7 : decode cL_wrongBy 7 = .ok (.astore_n 3, 1) := by decide +kernel
theorem dL_wrongBy_8 : decode cL_wrongBy 8 = .ok (.sipush (-3002), 3) := by decide +kernel
theorem dL_wrongBy_11 : decode cL_wrongBy 11 = .ok (.ireturn, 1) := by decide +kernel
theorem dL_besting_0 : decode cL_besting 0 = .ok (.aload_n 0, 1) := by decide +kernel
theorem dL_besting_1 : decode cL_besting 1 = .ok (.iload_n 1, 1) := by decide +kernel
theorem dL_besting_2 : decode cL_besting 2 = .ok (.invokevirtual 77, 3) := by decide +kernel
theorem dL_besting_5 : decode cL_besting 5 = .ok (.ireturn, 1) := by decide +kernel
theorem dL_besting_6 : decode cL_besting 6 = .ok (.astore_n 2, 1) := by decide +kernel
theorem dL_besting_7 : decode cL_besting 7 = .ok (.sipush (-3002), 3) := by decide +kernel
theorem dL_besting_10 : decode cL_besting 10 = .ok (.ireturn, 1) := by decide +kernel
theorem dL_needing_0 : decode cL_needing 0 = .ok (.aload_n 0, 1) := by decide +kernel
theorem dL_needing_1 : decode cL_needing 1 = .ok (.iload_n 1, 1) := by decide +kernel
theorem dL_needing_2 : decode cL_needing 2 = .ok (.invokevirtual 80, 3) := by decide +kernel
theorem dL_needing_5 : decode cL_needing 5 = .ok (.ireturn, 1) := by decide +kernel
theorem dL_needing_6 : decode cL_needing 6 = .ok (.astore_n 2, 1) := by decide +kernel
theorem dL_needing_7 : decode cL_needing 7 = .ok (.sipush (-3001), 3) := by decide +kernel
theorem dL_needing_10 : decode cL_needing 10 = .ok (.ireturn, 1) := by decide +kernel
theorem dL_typing_0 : decode cL_typing 0 = .ok (.aload_n 0, 1) := by decide +kernel
theorem dL_typing_1 : decode cL_typing 1 = .ok (.iload_n 1, 1) := by decide +kernel
theorem dL_typing_2 : decode cL_typing 2 = .ok (.invokevirtual 83, 3) := by decide +kernel
theorem dL_typing_5 : decode cL_typing 5 = .ok (.ireturn, 1) := by decide +kernel
theorem dL_typing_6 : decode cL_typing 6 = .ok (.astore_n 2, 1) := by decide +kernel
theorem dL_typing_7 : decode cL_typing 7 = .ok (.sipush (-3002), 3) := by decide +kernel
theorem dL_typing_10 : decode cL_typing 10 = .ok (.ireturn, 1) := by decide +kernel
theorem dL_typing_11 : decode cL_typing 11 = .ok (.astore_n 2, 1) := by decide +kernel
theorem dL_typing_12 : decode cL_typing 12 = .ok (.sipush (-3003), 3) := by decide +kernel
theorem dL_typing_15 : decode cL_typing 15 = .ok (.ireturn, 1) := by decide +kernel
theorem dL_undoing_0 : decode cL_undoing 0 = .ok (.aload_n 0, 1) := by decide +kernel
theorem dL_undoing_1 : decode cL_undoing 1 = .ok (.invokevirtual 86, 3) := by decide +kernel
theorem dL_undoing_4 : decode cL_undoing 4 = .ok (.ireturn, 1) := by decide +kernel
theorem dL_undoing_5 : decode cL_undoing 5 = .ok (.astore_n 1, 1) := by decide +kernel
theorem dL_undoing_6 : decode cL_undoing 6 = .ok (.sipush (-3003), 3) := by decide +kernel
theorem dL_undoing_9 : decode cL_undoing 9 = .ok (.ireturn, 1) := by decide +kernel
theorem dL_mixed_0 : decode cL_mixed 0 = .ok (.ldc2_w 90, 3) := by decide +kernel
theorem dL_mixed_3 : decode cL_mixed 3 = .ok (.lload_n 0, 1) := by decide +kernel
theorem dL_mixed_4 : decode cL_mixed 4 = .ok (.lmul, 1) := by decide +kernel
theorem dL_mixed_5 : decode cL_mixed 5 = .ok (.lload_n 2, 1) := by decide +kernel
theorem dL_mixed_6 : decode cL_mixed 6 = .ok (.ladd, 1) := by decide +kernel
theorem dL_mixed_7 : decode cL_mixed 7 = .ok (.lreturn, 1) := by decide +kernel
theorem dL_lampsOf_0 : decode cL_lampsOf 0 = .ok (.lload_n 1, 1) := by decide +kernel
theorem dL_lampsOf_1 : decode cL_lampsOf 1 = .ok (.lstore_n 3, 1) := by decide +kernel
theorem dL_lampsOf_2 : decode cL_lampsOf 2 = .ok (.iconst 0, 1) := by decide +kernel
theorem dL_lampsOf_3 : decode cL_lampsOf 3 = .ok (.istore 5, 2) := by decide +kernel
theorem dL_lampsOf_5 : decode cL_lampsOf 5 = .ok (.iload 5, 2) := by decide +kernel
theorem dL_lampsOf_7 : decode cL_lampsOf 7 = .ok (.aload_n 0, 1) := by decide +kernel
theorem dL_lampsOf_8 : decode cL_lampsOf 8 = .ok (.iconst 4, 1) := by decide +kernel
theorem dL_lampsOf_9 : decode cL_lampsOf 9 = .ok (.invokestatic 92, 3) := by decide +kernel
theorem dL_lampsOf_12 : decode cL_lampsOf 12 = .ok (.if_icmp .ge 75, 3) := by decide +kernel
theorem dL_lampsOf_15 : decode cL_lampsOf 15 = .ok (.iconst 0, 1) := by decide +kernel
theorem dL_lampsOf_16 : decode cL_lampsOf 16 = .ok (.istore 6, 2) := by decide +kernel
theorem dL_lampsOf_18 : decode cL_lampsOf 18 = .ok (.iload 6, 2) := by decide +kernel
theorem dL_lampsOf_20 : decode cL_lampsOf 20 = .ok (.bipush 12, 2) := by decide +kernel
theorem dL_lampsOf_22 : decode cL_lampsOf 22 = .ok (.if_icmp .ge 23, 3) := by decide +kernel
theorem dL_lampsOf_25 : decode cL_lampsOf 25 = .ok (.lload_n 3, 1) := by decide +kernel
theorem dL_lampsOf_26 : decode cL_lampsOf 26 = .ok (.aload_n 0, 1) := by decide +kernel
theorem dL_lampsOf_27 : decode cL_lampsOf 27 = .ok (.iload 5, 2) := by decide +kernel
theorem dL_lampsOf_29 : decode cL_lampsOf 29 = .ok (.iload 6, 2) := by decide +kernel
theorem dL_lampsOf_31 : decode cL_lampsOf 31 = .ok (.invokestatic 98, 3) := by decide +kernel
theorem dL_lampsOf_34 : decode cL_lampsOf 34 = .ok (.i2l, 1) := by decide +kernel
theorem dL_lampsOf_35 : decode cL_lampsOf 35 = .ok (.invokestatic 102, 3) := by decide +kernel
theorem dL_lampsOf_38 : decode cL_lampsOf 38 = .ok (.lstore_n 3, 1) := by decide +kernel
theorem dL_lampsOf_39 : decode cL_lampsOf 39 = .ok (.iinc 6 1, 3) := by decide +kernel
theorem dL_lampsOf_42 : decode cL_lampsOf 42 = .ok (.goto (-24), 3) := by decide +kernel
theorem dL_lampsOf_45 : decode cL_lampsOf 45 = .ok (.iconst 0, 1) := by decide +kernel
theorem dL_lampsOf_46 : decode cL_lampsOf 46 = .ok (.istore 6, 2) := by decide +kernel
theorem dL_lampsOf_48 : decode cL_lampsOf 48 = .ok (.iload 6, 2) := by decide +kernel
theorem dL_lampsOf_50 : decode cL_lampsOf 50 = .ok (.bipush 8, 2) := by decide +kernel
theorem dL_lampsOf_52 : decode cL_lampsOf 52 = .ok (.if_icmp .ge 29, 3) := by decide +kernel
theorem dL_lampsOf_55 : decode cL_lampsOf 55 = .ok (.lload_n 3, 1) := by decide +kernel
theorem dL_lampsOf_56 : decode cL_lampsOf 56 = .ok (.aload_n 0, 1) := by decide +kernel
theorem dL_lampsOf_57 : decode cL_lampsOf 57 = .ok (.iload 5, 2) := by decide +kernel
theorem dL_lampsOf_59 : decode cL_lampsOf 59 = .ok (.iload 6, 2) := by decide +kernel
theorem dL_lampsOf_61 : decode cL_lampsOf 61 = .ok (.iconst 2, 1) := by decide +kernel
theorem dL_lampsOf_62 : decode cL_lampsOf 62 = .ok (.idiv, 1) := by decide +kernel
theorem dL_lampsOf_63 : decode cL_lampsOf 63 = .ok (.iload 6, 2) := by decide +kernel
theorem dL_lampsOf_65 : decode cL_lampsOf 65 = .ok (.iconst 2, 1) := by decide +kernel
theorem dL_lampsOf_66 : decode cL_lampsOf 66 = .ok (.irem, 1) := by decide +kernel
theorem dL_lampsOf_67 : decode cL_lampsOf 67 = .ok (.invokestatic 106, 3) := by decide +kernel
theorem dL_lampsOf_70 : decode cL_lampsOf 70 = .ok (.i2l, 1) := by decide +kernel
theorem dL_lampsOf_71 : decode cL_lampsOf 71 = .ok (.invokestatic 102, 3) := by decide +kernel
theorem dL_lampsOf_74 : decode cL_lampsOf 74 = .ok (.lstore_n 3, 1) := by decide +kernel
theorem dL_lampsOf_75 : decode cL_lampsOf 75 = .ok (.iinc 6 1, 3) := by decide +kernel
theorem dL_lampsOf_78 : decode cL_lampsOf 78 = .ok (.goto (-30), 3) := by decide +kernel
theorem dL_lampsOf_81 : decode cL_lampsOf 81 = .ok (.iinc 5 1, 3) := by decide +kernel
theorem dL_lampsOf_84 : decode cL_lampsOf 84 = .ok (.goto (-79), 3) := by decide +kernel
theorem dL_lampsOf_87 : decode cL_lampsOf 87 = .ok (.lload_n 3, 1) := by decide +kernel
theorem dL_lampsOf_88 : decode cL_lampsOf 88 = .ok (.lreturn, 1) := by decide +kernel
theorem dL_placesOf_0 : decode cL_placesOf 0 = .ok (.lload_n 1, 1) := by decide +kernel
theorem dL_placesOf_1 : decode cL_placesOf 1 = .ok (.lstore_n 3, 1) := by decide +kernel
theorem dL_placesOf_2 : decode cL_placesOf 2 = .ok (.iconst 0, 1) := by decide +kernel
theorem dL_placesOf_3 : decode cL_placesOf 3 = .ok (.istore 5, 2) := by decide +kernel
theorem dL_placesOf_5 : decode cL_placesOf 5 = .ok (.iload 5, 2) := by decide +kernel
theorem dL_placesOf_7 : decode cL_placesOf 7 = .ok (.aload_n 0, 1) := by decide +kernel
theorem dL_placesOf_8 : decode cL_placesOf 8 = .ok (.iconst 0, 1) := by decide +kernel
theorem dL_placesOf_9 : decode cL_placesOf 9 = .ok (.invokestatic 92, 3) := by decide +kernel
theorem dL_placesOf_12 : decode cL_placesOf 12 = .ok (.aload_n 0, 1) := by decide +kernel
theorem dL_placesOf_13 : decode cL_placesOf 13 = .ok (.iconst 1, 1) := by decide +kernel
theorem dL_placesOf_14 : decode cL_placesOf 14 = .ok (.invokestatic 92, 3) := by decide +kernel
theorem dL_placesOf_17 : decode cL_placesOf 17 = .ok (.imul, 1) := by decide +kernel
theorem dL_placesOf_18 : decode cL_placesOf 18 = .ok (.if_icmp .ge 100, 3) := by decide +kernel
theorem dL_placesOf_21 : decode cL_placesOf 21 = .ok (.iconst 0, 1) := by decide +kernel
theorem dL_placesOf_22 : decode cL_placesOf 22 = .ok (.istore 6, 2) := by decide +kernel
theorem dL_placesOf_24 : decode cL_placesOf 24 = .ok (.iload 6, 2) := by decide +kernel
theorem dL_placesOf_26 : decode cL_placesOf 26 = .ok (.bipush 6, 2) := by decide +kernel
theorem dL_placesOf_28 : decode cL_placesOf 28 = .ok (.if_icmp .ge 37, 3) := by decide +kernel
theorem dL_placesOf_31 : decode cL_placesOf 31 = .ok (.lload_n 3, 1) := by decide +kernel
theorem dL_placesOf_32 : decode cL_placesOf 32 = .ok (.aload_n 0, 1) := by decide +kernel
theorem dL_placesOf_33 : decode cL_placesOf 33 = .ok (.iload 5, 2) := by decide +kernel
theorem dL_placesOf_35 : decode cL_placesOf 35 = .ok (.aload_n 0, 1) := by decide +kernel
theorem dL_placesOf_36 : decode cL_placesOf 36 = .ok (.iconst 0, 1) := by decide +kernel
theorem dL_placesOf_37 : decode cL_placesOf 37 = .ok (.invokestatic 92, 3) := by decide +kernel
theorem dL_placesOf_40 : decode cL_placesOf 40 = .ok (.irem, 1) := by decide +kernel
theorem dL_placesOf_41 : decode cL_placesOf 41 = .ok (.iload 5, 2) := by decide +kernel
theorem dL_placesOf_43 : decode cL_placesOf 43 = .ok (.aload_n 0, 1) := by decide +kernel
theorem dL_placesOf_44 : decode cL_placesOf 44 = .ok (.iconst 0, 1) := by decide +kernel
theorem dL_placesOf_45 : decode cL_placesOf 45 = .ok (.invokestatic 92, 3) := by decide +kernel
theorem dL_placesOf_48 : decode cL_placesOf 48 = .ok (.idiv, 1) := by decide +kernel
theorem dL_placesOf_49 : decode cL_placesOf 49 = .ok (.iload 6, 2) := by decide +kernel
theorem dL_placesOf_51 : decode cL_placesOf 51 = .ok (.invokestatic 110, 3) := by decide +kernel
theorem dL_placesOf_54 : decode cL_placesOf 54 = .ok (.i2l, 1) := by decide +kernel
theorem dL_placesOf_55 : decode cL_placesOf 55 = .ok (.invokestatic 102, 3) := by decide +kernel
theorem dL_placesOf_58 : decode cL_placesOf 58 = .ok (.lstore_n 3, 1) := by decide +kernel
theorem dL_placesOf_59 : decode cL_placesOf 59 = .ok (.iinc 6 1, 3) := by decide +kernel
theorem dL_placesOf_62 : decode cL_placesOf 62 = .ok (.goto (-38), 3) := by decide +kernel
theorem dL_placesOf_65 : decode cL_placesOf 65 = .ok (.iconst 0, 1) := by decide +kernel
theorem dL_placesOf_66 : decode cL_placesOf 66 = .ok (.istore 6, 2) := by decide +kernel
theorem dL_placesOf_68 : decode cL_placesOf 68 = .ok (.iload 6, 2) := by decide +kernel
theorem dL_placesOf_70 : decode cL_placesOf 70 = .ok (.aload_n 0, 1) := by decide +kernel
theorem dL_placesOf_71 : decode cL_placesOf 71 = .ok (.iconst 4, 1) := by decide +kernel
theorem dL_placesOf_72 : decode cL_placesOf 72 = .ok (.invokestatic 92, 3) := by decide +kernel
theorem dL_placesOf_75 : decode cL_placesOf 75 = .ok (.if_icmp .ge 37, 3) := by decide +kernel
theorem dL_placesOf_78 : decode cL_placesOf 78 = .ok (.lload_n 3, 1) := by decide +kernel
theorem dL_placesOf_79 : decode cL_placesOf 79 = .ok (.aload_n 0, 1) := by decide +kernel
theorem dL_placesOf_80 : decode cL_placesOf 80 = .ok (.iload 6, 2) := by decide +kernel
theorem dL_placesOf_82 : decode cL_placesOf 82 = .ok (.iload 5, 2) := by decide +kernel
theorem dL_placesOf_84 : decode cL_placesOf 84 = .ok (.aload_n 0, 1) := by decide +kernel
theorem dL_placesOf_85 : decode cL_placesOf 85 = .ok (.iconst 0, 1) := by decide +kernel
theorem dL_placesOf_86 : decode cL_placesOf 86 = .ok (.invokestatic 92, 3) := by decide +kernel
theorem dL_placesOf_89 : decode cL_placesOf 89 = .ok (.irem, 1) := by decide +kernel
theorem dL_placesOf_90 : decode cL_placesOf 90 = .ok (.iload 5, 2) := by decide +kernel
theorem dL_placesOf_92 : decode cL_placesOf 92 = .ok (.aload_n 0, 1) := by decide +kernel
theorem dL_placesOf_93 : decode cL_placesOf 93 = .ok (.iconst 0, 1) := by decide +kernel
theorem dL_placesOf_94 : decode cL_placesOf 94 = .ok (.invokestatic 92, 3) := by decide +kernel
theorem dL_placesOf_97 : decode cL_placesOf 97 = .ok (.idiv, 1) := by decide +kernel
theorem dL_placesOf_98 : decode cL_placesOf 98 = .ok (.invokestatic 113, 3) := by decide +kernel
theorem dL_placesOf_101 : decode cL_placesOf 101 = .ok (.i2l, 1) := by decide +kernel
theorem dL_placesOf_102 : decode cL_placesOf 102 = .ok (.invokestatic 102, 3) := by decide +kernel
theorem dL_placesOf_105 : decode cL_placesOf 105 = .ok (.lstore_n 3, 1) := by decide +kernel
theorem dL_placesOf_106 : decode cL_placesOf 106 = .ok (.iinc 6 1, 3) := by decide +kernel
theorem dL_placesOf_109 : decode cL_placesOf 109 = .ok (.goto (-41), 3) := by decide +kernel
theorem dL_placesOf_112 : decode cL_placesOf 112 = .ok (.iinc 5 1, 3) := by decide +kernel
theorem dL_placesOf_115 : decode cL_placesOf 115 = .ok (.goto (-110), 3) := by decide +kernel
theorem dL_placesOf_118 : decode cL_placesOf 118 = .ok (.lload_n 3, 1) := by decide +kernel
theorem dL_placesOf_119 : decode cL_placesOf 119 = .ok (.lreturn, 1) := by decide +kernel
theorem dL_seen_0 : decode cL_seen 0 = .ok (.ldc2_w 116, 3) := by decide +kernel
theorem dL_seen_3 : decode cL_seen 3 = .ok (.lstore_n 1, 1) := by decide +kernel
theorem dL_seen_4 : decode cL_seen 4 = .ok (.iconst 0, 1) := by decide +kernel
theorem dL_seen_5 : decode cL_seen 5 = .ok (.istore_n 3, 1) := by decide +kernel
theorem dL_seen_6 : decode cL_seen 6 = .ok (.iload_n 3, 1) := by decide +kernel
theorem dL_seen_7 : decode cL_seen 7 = .ok (.bipush 14, 2) := by decide +kernel
theorem dL_seen_9 : decode cL_seen 9 = .ok (.if_icmp .ge 20, 3) := by decide +kernel
theorem dL_seen_12 : decode cL_seen 12 = .ok (.lload_n 1, 1) := by decide +kernel
theorem dL_seen_13 : decode cL_seen 13 = .ok (.aload_n 0, 1) := by decide +kernel
theorem dL_seen_14 : decode cL_seen 14 = .ok (.iload_n 3, 1) := by decide +kernel
theorem dL_seen_15 : decode cL_seen 15 = .ok (.invokestatic 92, 3) := by decide +kernel
theorem dL_seen_18 : decode cL_seen 18 = .ok (.i2l, 1) := by decide +kernel
theorem dL_seen_19 : decode cL_seen 19 = .ok (.invokestatic 102, 3) := by decide +kernel
theorem dL_seen_22 : decode cL_seen 22 = .ok (.lstore_n 1, 1) := by decide +kernel
theorem dL_seen_23 : decode cL_seen 23 = .ok (.iinc 3 1, 3) := by decide +kernel
theorem dL_seen_26 : decode cL_seen 26 = .ok (.goto (-20), 3) := by decide +kernel
theorem dL_seen_29 : decode cL_seen 29 = .ok (.aload_n 0, 1) := by decide +kernel
theorem dL_seen_30 : decode cL_seen 30 = .ok (.aload_n 0, 1) := by decide +kernel
theorem dL_seen_31 : decode cL_seen 31 = .ok (.lload_n 1, 1) := by decide +kernel
theorem dL_seen_32 : decode cL_seen 32 = .ok (.invokestatic 118, 3) := by decide +kernel
theorem dL_seen_35 : decode cL_seen 35 = .ok (.invokestatic 122, 3) := by decide +kernel
theorem dL_seen_38 : decode cL_seen 38 = .ok (.lreturn, 1) := by decide +kernel
theorem dL_isDigest_0 : decode cL_isDigest 0 = .ok (.ldc2_w 125, 3) := by decide +kernel
theorem dL_isDigest_3 : decode cL_isDigest 3 = .ok (.iload_n 1, 1) := by decide +kernel
theorem dL_isDigest_4 : decode cL_isDigest 4 = .ok (.i2l, 1) := by decide +kernel
theorem dL_isDigest_5 : decode cL_isDigest 5 = .ok (.invokestatic 102, 3) := by decide +kernel
theorem dL_isDigest_8 : decode cL_isDigest 8 = .ok (.lstore_n 2, 1) := by decide +kernel
theorem dL_isDigest_9 : decode cL_isDigest 9 = .ok (.iconst 0, 1) := by decide +kernel
theorem dL_isDigest_10 : decode cL_isDigest 10 = .ok (.istore 4, 2) := by decide +kernel
theorem dL_isDigest_12 : decode cL_isDigest 12 = .ok (.iload 4, 2) := by decide +kernel
theorem dL_isDigest_14 : decode cL_isDigest 14 = .ok (.bipush 15, 2) := by decide +kernel
theorem dL_isDigest_16 : decode cL_isDigest 16 = .ok (.if_icmp .ge 21, 3) := by decide +kernel
theorem dL_isDigest_19 : decode cL_isDigest 19 = .ok (.lload_n 2, 1) := by decide +kernel
theorem dL_isDigest_20 : decode cL_isDigest 20 = .ok (.aload_n 0, 1) := by decide +kernel
theorem dL_isDigest_21 : decode cL_isDigest 21 = .ok (.iload 4, 2) := by decide +kernel
theorem dL_isDigest_23 : decode cL_isDigest 23 = .ok (.invokestatic 92, 3) := by decide +kernel
theorem dL_isDigest_26 : decode cL_isDigest 26 = .ok (.i2l, 1) := by decide +kernel
theorem dL_isDigest_27 : decode cL_isDigest 27 = .ok (.invokestatic 102, 3) := by decide +kernel
theorem dL_isDigest_30 : decode cL_isDigest 30 = .ok (.lstore_n 2, 1) := by decide +kernel
theorem dL_isDigest_31 : decode cL_isDigest 31 = .ok (.iinc 4 1, 3) := by decide +kernel
theorem dL_isDigest_34 : decode cL_isDigest 34 = .ok (.goto (-22), 3) := by decide +kernel
theorem dL_isDigest_37 : decode cL_isDigest 37 = .ok (.aload_n 0, 1) := by decide +kernel
theorem dL_isDigest_38 : decode cL_isDigest 38 = .ok (.aload_n 0, 1) := by decide +kernel
theorem dL_isDigest_39 : decode cL_isDigest 39 = .ok (.lload_n 2, 1) := by decide +kernel
theorem dL_isDigest_40 : decode cL_isDigest 40 = .ok (.invokestatic 118, 3) := by decide +kernel
theorem dL_isDigest_43 : decode cL_isDigest 43 = .ok (.invokestatic 122, 3) := by decide +kernel
theorem dL_isDigest_46 : decode cL_isDigest 46 = .ok (.aload_n 0, 1) := by decide +kernel
theorem dL_isDigest_47 : decode cL_isDigest 47 = .ok (.invokevirtual 127, 3) := by decide +kernel
theorem dL_isDigest_50 : decode cL_isDigest 50 = .ok (.lcmp, 1) := by decide +kernel
theorem dL_isDigest_51 : decode cL_isDigest 51 = .ok (.ifCond .ne 7, 3) := by decide +kernel
theorem dL_isDigest_54 : decode cL_isDigest 54 = .ok (.iconst 1, 1) := by decide +kernel
theorem dL_isDigest_55 : decode cL_isDigest 55 = .ok (.goto 4, 3) := by decide +kernel
theorem dL_isDigest_58 : decode cL_isDigest 58 = .ok (.iconst 0, 1) := by decide +kernel
theorem dL_isDigest_59 : decode cL_isDigest 59 = .ok (.ireturn, 1) := by decide +kernel
theorem dL_types_0 : decode cL_types 0 = .ok (.bipush 7, 2) := by decide +kernel
theorem dL_types_2 : decode cL_types 2 = .ok (.istore_n 3, 1) := by decide +kernel
theorem dL_types_3 : decode cL_types 3 = .ok (.iload_n 3, 1) := by decide +kernel
theorem dL_types_4 : decode cL_types 4 = .ok (.ifCond .lt 37, 3) := by decide +kernel
theorem dL_types_7 : decode cL_types 7 = .ok (.lload_n 1, 1) := by decide +kernel
theorem dL_types_8 : decode cL_types 8 = .ok (.bipush 8, 2) := by decide +kernel
theorem dL_types_10 : decode cL_types 10 = .ok (.iload_n 3, 1) := by decide +kernel
theorem dL_types_11 : decode cL_types 11 = .ok (.imul, 1) := by decide +kernel
theorem dL_types_12 : decode cL_types 12 = .ok (.lshr, 1) := by decide +kernel
theorem dL_types_13 : decode cL_types 13 = .ok (.ldc2_w 189, 3) := by decide +kernel
theorem dL_types_16 : decode cL_types 16 = .ok (.land, 1) := by decide +kernel
theorem dL_types_17 : decode cL_types 17 = .ok (.l2i, 1) := by decide +kernel
theorem dL_types_18 : decode cL_types 18 = .ok (.istore 4, 2) := by decide +kernel
theorem dL_types_20 : decode cL_types 20 = .ok (.iload 4, 2) := by decide +kernel
theorem dL_types_22 : decode cL_types 22 = .ok (.ifCond .eq 13, 3) := by decide +kernel
theorem dL_types_25 : decode cL_types 25 = .ok (.aload_n 0, 1) := by decide +kernel
theorem dL_types_26 : decode cL_types 26 = .ok (.iload 4, 2) := by decide +kernel
theorem dL_types_28 : decode cL_types 28 = .ok (.invokestatic 183, 3) := by decide +kernel
theorem dL_types_31 : decode cL_types 31 = .ok (.ifCond .ge 4, 3) := by decide +kernel
theorem dL_types_34 : decode cL_types 34 = .ok (.return_, 1) := by decide +kernel
theorem dL_types_35 : decode cL_types 35 = .ok (.iinc 3 (-1), 3) := by decide +kernel
theorem dL_types_38 : decode cL_types 38 = .ok (.goto (-35), 3) := by decide +kernel
theorem dL_types_41 : decode cL_types 41 = .ok (.return_, 1) := by decide +kernel
theorem dL_told_0 : decode cL_told 0 = .ok (.new 10, 3) := by decide +kernel
theorem dL_told_3 : decode cL_told 3 = .ok (.dup, 1) := by decide +kernel
theorem dL_told_4 : decode cL_told 4 = .ok (.invokespecial 191, 3) := by decide +kernel
theorem dL_told_7 : decode cL_told 7 = .ok (.astore 6, 2) := by decide +kernel
theorem dL_told_9 : decode cL_told 9 = .ok (.aload 6, 2) := by decide +kernel
theorem dL_told_11 : decode cL_told 11 = .ok (.lload_n 0, 1) := by decide +kernel
theorem dL_told_12 : decode cL_told 12 = .ok (.invokestatic 192, 3) := by decide +kernel
theorem dL_told_15 : decode cL_told 15 = .ok (.aload 6, 2) := by decide +kernel
theorem dL_told_17 : decode cL_told 17 = .ok (.lload_n 2, 1) := by decide +kernel
theorem dL_told_18 : decode cL_told 18 = .ok (.invokestatic 192, 3) := by decide +kernel
theorem dL_told_21 : decode cL_told 21 = .ok (.aload 6, 2) := by decide +kernel
theorem dL_told_23 : decode cL_told 23 = .ok (.lload 4, 2) := by decide +kernel
theorem dL_told_25 : decode cL_told 25 = .ok (.invokestatic 192, 3) := by decide +kernel
theorem dL_told_28 : decode cL_told 28 = .ok (.aload 6, 2) := by decide +kernel
theorem dL_told_30 : decode cL_told 30 = .ok (.invokevirtual 127, 3) := by decide +kernel
theorem dL_told_33 : decode cL_told 33 = .ok (.lstore 7, 2) := by decide +kernel
theorem dL_told_35 : decode cL_told 35 = .ok (.aload 6, 2) := by decide +kernel
theorem dL_told_37 : decode cL_told 37 = .ok (.invokevirtual 196, 3) := by decide +kernel
theorem dL_told_40 : decode cL_told 40 = .ok (.istore 9, 2) := by decide +kernel
theorem dL_told_42 : decode cL_told 42 = .ok (.iload 9, 2) := by decide +kernel
theorem dL_told_44 : decode cL_told 44 = .ok (.ifCond .ge 34, 3) := by decide +kernel
theorem dL_told_47 : decode cL_told 47 = .ok (.aload 6, 2) := by decide +kernel
theorem dL_told_49 : decode cL_told 49 = .ok (.invokevirtual 127, 3) := by decide +kernel
theorem dL_told_52 : decode cL_told 52 = .ok (.lload 7, 2) := by decide +kernel
theorem dL_told_54 : decode cL_told 54 = .ok (.lcmp, 1) := by decide +kernel
theorem dL_told_55 : decode cL_told 55 = .ok (.ifCond .ne 19, 3) := by decide +kernel
theorem dL_told_58 : decode cL_told 58 = .ok (.aload 6, 2) := by decide +kernel
theorem dL_told_60 : decode cL_told 60 = .ok (.invokestatic 199, 3) := by decide +kernel
theorem dL_told_63 : decode cL_told 63 = .ok (.sipush (-3003), 3) := by decide +kernel
theorem dL_told_66 : decode cL_told 66 = .ok (.if_icmp .ne 8, 3) := by decide +kernel
theorem dL_told_69 : decode cL_told 69 = .ok (.iload 9, 2) := by decide +kernel
theorem dL_told_71 : decode cL_told 71 = .ok (.goto 6, 3) := by decide +kernel
theorem dL_told_74 : decode cL_told 74 = .ok (.sipush (-5000), 3) := by decide +kernel
theorem dL_told_77 : decode cL_told 77 = .ok (.ireturn, 1) := by decide +kernel
theorem dL_told_78 : decode cL_told 78 = .ok (.aload 6, 2) := by decide +kernel
theorem dL_told_80 : decode cL_told 80 = .ok (.invokestatic 199, 3) := by decide +kernel
theorem dL_told_83 : decode cL_told 83 = .ok (.ifCond .ne 19, 3) := by decide +kernel
theorem dL_told_86 : decode cL_told 86 = .ok (.aload 6, 2) := by decide +kernel
theorem dL_told_88 : decode cL_told 88 = .ok (.invokevirtual 127, 3) := by decide +kernel
theorem dL_told_91 : decode cL_told 91 = .ok (.lload 7, 2) := by decide +kernel
theorem dL_told_93 : decode cL_told 93 = .ok (.lcmp, 1) := by decide +kernel
theorem dL_told_94 : decode cL_told 94 = .ok (.ifCond .ne 8, 3) := by decide +kernel
theorem dL_told_97 : decode cL_told 97 = .ok (.iload 9, 2) := by decide +kernel
theorem dL_told_99 : decode cL_told 99 = .ok (.goto 6, 3) := by decide +kernel
theorem dL_told_102 : decode cL_told 102 = .ok (.sipush (-5001), 3) := by decide +kernel
theorem dL_told_105 : decode cL_told 105 = .ok (.ireturn, 1) := by decide +kernel
