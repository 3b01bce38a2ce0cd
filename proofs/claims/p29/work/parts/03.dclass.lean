theorem dX0_init_0 : decode cX0_init 0 = .ok (.aload_n 0, 1) := by decide +kernel
theorem dX0_init_1 : decode cX0_init 1 = .ok (.invokespecial 3, 3) := by decide +kernel
theorem dX0_init_4 : decode cX0_init 4 = .ok (.aload_n 0, 1) := by decide +kernel
theorem dX0_init_5 : decode cX0_init 5 = .ok (.new 9, 3) := by decide +kernel
theorem dX0_init_8 : decode cX0_init 8 = .ok (.dup, 1) := by decide +kernel
theorem dX0_init_9 : decode cX0_init 9 = .ok (.sipush 150, 3) := by decide +kernel
theorem dX0_init_12 : decode cX0_init 12 = .ok (.invokespecial 11, 3) := by decide +kernel
theorem dX0_init_15 : decode cX0_init 15 = .ok (.putfield 14, 3) := by decide +kernel
theorem dX0_init_18 : decode cX0_init 18 = .ok (.aload_n 0, 1) := by decide +kernel
theorem dX0_init_19 : decode cX0_init 19 = .ok (.new 9, 3) := by decide +kernel
theorem dX0_init_22 : decode cX0_init 22 = .ok (.dup, 1) := by decide +kernel
theorem dX0_init_23 : decode cX0_init 23 = .ok (.iconst 5, 1) := by decide +kernel
theorem dX0_init_24 : decode cX0_init 24 = .ok (.invokespecial 11, 3) := by decide +kernel
theorem dX0_init_27 : decode cX0_init 27 = .ok (.putfield 20, 3) := by decide +kernel
theorem dX0_init_30 : decode cX0_init 30 = .ok (.aload_n 0, 1) := by decide +kernel
theorem dX0_init_31 : decode cX0_init 31 = .ok (.sipush (-1000), 3) := by decide +kernel
theorem dX0_init_34 : decode cX0_init 34 = .ok (.putfield 23, 3) := by decide +kernel
theorem dX0_init_37 : decode cX0_init 37 = .ok (.aload_n 0, 1) := by decide +kernel
theorem dX0_init_38 : decode cX0_init 38 = .ok (.iconst 0, 1) := by decide +kernel
theorem dX0_init_39 : decode cX0_init 39 = .ok (.putfield 27, 3) := by decide +kernel
theorem dX0_init_42 : decode cX0_init 42 = .ok (.return_, 1) := by decide +kernel
theorem dX0_append_0 : decode cX0_append 0 = .ok (.aload_n 0, 1) := by decide +kernel
theorem dX0_append_1 : decode cX0_append 1 = .ok (.getfield 14, 3) := by decide +kernel
theorem dX0_append_4 : decode cX0_append 4 = .ok (.aload_n 0, 1) := by decide +kernel
theorem dX0_append_5 : decode cX0_append 5 = .ok (.getfield 30, 3) := by decide +kernel
theorem dX0_append_8 : decode cX0_append 8 = .ok (.iload_n 1, 1) := by decide +kernel
theorem dX0_append_9 : decode cX0_append 9 = .ok (.invokevirtual 33, 3) := by decide +kernel
theorem dX0_append_12 : decode cX0_append 12 = .ok (.aload_n 0, 1) := by decide +kernel
theorem dX0_append_13 : decode cX0_append 13 = .ok (.dup, 1) := by decide +kernel
theorem dX0_append_14 : decode cX0_append 14 = .ok (.getfield 30, 3) := by decide +kernel
theorem dX0_append_17 : decode cX0_append 17 = .ok (.iconst 1, 1) := by decide +kernel
theorem dX0_append_18 : decode cX0_append 18 = .ok (.iadd, 1) := by decide +kernel
theorem dX0_append_19 : decode cX0_append 19 = .ok (.putfield 30, 3) := by decide +kernel
theorem dX0_append_22 : decode cX0_append 22 = .ok (.aload_n 0, 1) := by decide +kernel
theorem dX0_append_23 : decode cX0_append 23 = .ok (.getfield 30, 3) := by decide +kernel
theorem dX0_append_26 : decode cX0_append 26 = .ok (.ireturn, 1) := by decide +kernel
theorem dX0_empty_0 : decode cX0_empty 0 = .ok (.aload_n 0, 1) := by decide +kernel
theorem dX0_empty_1 : decode cX0_empty 1 = .ok (.getfield 30, 3) := by decide +kernel
theorem dX0_empty_4 : decode cX0_empty 4 = .ok (.istore_n 1, 1) := by decide +kernel
theorem dX0_empty_5 : decode cX0_empty 5 = .ok (.aload_n 0, 1) := by decide +kernel
theorem dX0_empty_6 : decode cX0_empty 6 = .ok (.iconst 0, 1) := by decide +kernel
theorem dX0_empty_7 : decode cX0_empty 7 = .ok (.putfield 30, 3) := by decide +kernel
theorem dX0_empty_10 : decode cX0_empty 10 = .ok (.aload_n 0, 1) := by decide +kernel
theorem dX0_empty_11 : decode cX0_empty 11 = .ok (.getfield 14, 3) := by decide +kernel
theorem dX0_empty_14 : decode cX0_empty 14 = .ok (.invokevirtual 37, 3) := by decide +kernel
theorem dX0_empty_17 : decode cX0_empty 17 = .ok (.iload_n 1, 1) := by decide +kernel
theorem dX0_empty_18 : decode cX0_empty 18 = .ok (.ireturn, 1) := by decide +kernel
theorem dX0_rewind_0 : decode cX0_rewind 0 = .ok (.aload_n 0, 1) := by decide +kernel
theorem dX0_rewind_1 : decode cX0_rewind 1 = .ok (.iconst 0, 1) := by decide +kernel
theorem dX0_rewind_2 : decode cX0_rewind 2 = .ok (.putfield 40, 3) := by decide +kernel
theorem dX0_rewind_5 : decode cX0_rewind 5 = .ok (.aload_n 0, 1) := by decide +kernel
theorem dX0_rewind_6 : decode cX0_rewind 6 = .ok (.sipush (-1000), 3) := by decide +kernel
theorem dX0_rewind_9 : decode cX0_rewind 9 = .ok (.putfield 23, 3) := by decide +kernel
theorem dX0_rewind_12 : decode cX0_rewind 12 = .ok (.return_, 1) := by decide +kernel
theorem dX0_findFault_0 : decode cX0_findFault 0 = .ok (.aload_n 0, 1) := by decide +kernel
theorem dX0_findFault_1 : decode cX0_findFault 1 = .ok (.invokevirtual 43, 3) := by decide +kernel
theorem dX0_findFault_4 : decode cX0_findFault 4 = .ok (.iconst 0, 1) := by decide +kernel
theorem dX0_findFault_5 : decode cX0_findFault 5 = .ok (.istore_n 1, 1) := by decide +kernel
theorem dX0_findFault_6 : decode cX0_findFault 6 = .ok (.iload_n 1, 1) := by decide +kernel
theorem dX0_findFault_7 : decode cX0_findFault 7 = .ok (.sipush 150, 3) := by decide +kernel
theorem dX0_findFault_10 : decode cX0_findFault 10 = .ok (.if_icmp .ge 19, 3) := by decide +kernel
theorem dX0_findFault_13 : decode cX0_findFault 13 = .ok (.aload_n 0, 1) := by decide +kernel
theorem dX0_findFault_14 : decode cX0_findFault 14 = .ok (.invokevirtual 46, 3) := by decide +kernel
theorem dX0_findFault_17 : decode cX0_findFault 17 = .ok (.ifCond .ne 6, 3) := by decide +kernel
theorem dX0_findFault_20 : decode cX0_findFault 20 = .ok (.goto 9, 3) := by decide +kernel
theorem dX0_findFault_23 : decode cX0_findFault 23 = .ok (.iinc 1 1, 3) := by decide +kernel
theorem dX0_findFault_26 : decode cX0_findFault 26 = .ok (.goto (-20), 3) := by decide +kernel
theorem dX0_findFault_29 : decode cX0_findFault 29 = .ok (.aload_n 0, 1) := by decide +kernel
theorem dX0_findFault_30 : decode cX0_findFault 30 = .ok (.getfield 23, 3) := by decide +kernel
theorem dX0_findFault_33 : decode cX0_findFault 33 = .ok (.ireturn, 1) := by decide +kernel
theorem dX0_readCommand_0 : decode cX0_readCommand 0 = .ok (.aload_n 0, 1) := by decide +kernel
theorem dX0_readCommand_1 : decode cX0_readCommand 1 = .ok (.invokevirtual 50, 3) := by decide +kernel
theorem dX0_readCommand_4 : decode cX0_readCommand 4 = .ok (.aload_n 0, 1) := by decide +kernel
theorem dX0_readCommand_5 : decode cX0_readCommand 5 = .ok (.getfield 40, 3) := by decide +kernel
theorem dX0_readCommand_8 : decode cX0_readCommand 8 = .ok (.aload_n 0, 1) := by decide +kernel
theorem dX0_readCommand_9 : decode cX0_readCommand 9 = .ok (.getfield 30, 3) := by decide +kernel
theorem dX0_readCommand_12 : decode cX0_readCommand 12 = .ok (.if_icmp .ge 10, 3) := by decide +kernel
theorem dX0_readCommand_15 : decode cX0_readCommand 15 = .ok (.aload_n 0, 1) := by decide +kernel
theorem dX0_readCommand_16 : decode cX0_readCommand 16 = .ok (.invokevirtual 53, 3) := by decide +kernel
theorem dX0_readCommand_19 : decode cX0_readCommand 19 = .ok (.ifCond .ne 5, 3) := by decide +kernel
theorem dX0_readCommand_22 : decode cX0_readCommand 22 = .ok (.iconst 0, 1) := by decide +kernel
theorem dX0_readCommand_23 : decode cX0_readCommand 23 = .ok (.ireturn, 1) := by decide +kernel
theorem dX0_readCommand_24 : decode cX0_readCommand 24 = .ok (.aload_n 0, 1) := by decide +kernel
theorem dX0_readCommand_25 : decode cX0_readCommand 25 = .ok (.getfield 20, 3) := by decide +kernel
theorem dX0_readCommand_28 : decode cX0_readCommand 28 = .ok (.invokevirtual 37, 3) := by decide +kernel
theorem dX0_readCommand_31 : decode cX0_readCommand 31 = .ok (.iconst 0, 1) := by decide +kernel
theorem dX0_readCommand_32 : decode cX0_readCommand 32 = .ok (.istore_n 1, 1) := by decide +kernel
theorem dX0_readCommand_33 : decode cX0_readCommand 33 = .ok (.iload_n 1, 1) := by decide +kernel
theorem dX0_readCommand_34 : decode cX0_readCommand 34 = .ok (.aload_n 0, 1) := by decide +kernel
theorem dX0_readCommand_35 : decode cX0_readCommand 35 = .ok (.getfield 27, 3) := by decide +kernel
theorem dX0_readCommand_38 : decode cX0_readCommand 38 = .ok (.invokestatic 56, 3) := by decide +kernel
theorem dX0_readCommand_41 : decode cX0_readCommand 41 = .ok (.if_icmp .ge 19, 3) := by decide +kernel
theorem dX0_readCommand_44 : decode cX0_readCommand 44 = .ok (.aload_n 0, 1) := by decide +kernel
theorem dX0_readCommand_45 : decode cX0_readCommand 45 = .ok (.iload_n 1, 1) := by decide +kernel
theorem dX0_readCommand_46 : decode cX0_readCommand 46 = .ok (.invokevirtual 60, 3) := by decide +kernel
theorem dX0_readCommand_49 : decode cX0_readCommand 49 = .ok (.ifCond .ne 5, 3) := by decide +kernel
theorem dX0_readCommand_52 : decode cX0_readCommand 52 = .ok (.iconst 0, 1) := by decide +kernel
theorem dX0_readCommand_53 : decode cX0_readCommand 53 = .ok (.ireturn, 1) := by decide +kernel
theorem dX0_readCommand_54 : decode cX0_readCommand 54 = .ok (.iinc 1 1, 3) := by decide +kernel
theorem dX0_readCommand_57 : decode cX0_readCommand 57 = .ok (.goto (-24), 3) := by decide +kernel
theorem dX0_readCommand_60 : decode cX0_readCommand 60 = .ok (.aload_n 0, 1) := by decide +kernel
theorem dX0_readCommand_61 : decode cX0_readCommand 61 = .ok (.invokevirtual 50, 3) := by decide +kernel
theorem dX0_readCommand_64 : decode cX0_readCommand 64 = .ok (.aload_n 0, 1) := by decide +kernel
theorem dX0_readCommand_65 : decode cX0_readCommand 65 = .ok (.getfield 14, 3) := by decide +kernel
theorem dX0_readCommand_68 : decode cX0_readCommand 68 = .ok (.aload_n 0, 1) := by decide +kernel
theorem dX0_readCommand_69 : decode cX0_readCommand 69 = .ok (.getfield 40, 3) := by decide +kernel
theorem dX0_readCommand_72 : decode cX0_readCommand 72 = .ok (.invokevirtual 64, 3) := by decide +kernel
theorem dX0_readCommand_75 : decode cX0_readCommand 75 = .ok (.bipush 59, 2) := by decide +kernel
theorem dX0_readCommand_77 : decode cX0_readCommand 77 = .ok (.if_icmp .eq 12, 3) := by decide +kernel
theorem dX0_readCommand_80 : decode cX0_readCommand 80 = .ok (.aload_n 0, 1) := by decide +kernel
theorem dX0_readCommand_81 : decode cX0_readCommand 81 = .ok (.aload_n 0, 1) := by decide +kernel
theorem dX0_readCommand_82 : decode cX0_readCommand 82 = .ok (.getfield 40, 3) := by decide +kernel
theorem dX0_readCommand_85 : decode cX0_readCommand 85 = .ok (.invokevirtual 67, 3) := by decide +kernel
theorem dX0_readCommand_88 : decode cX0_readCommand 88 = .ok (.ireturn, 1) := by decide +kernel
theorem dX0_readCommand_89 : decode cX0_readCommand 89 = .ok (.aload_n 0, 1) := by decide +kernel
theorem dX0_readCommand_90 : decode cX0_readCommand 90 = .ok (.dup, 1) := by decide +kernel
theorem dX0_readCommand_91 : decode cX0_readCommand 91 = .ok (.getfield 40, 3) := by decide +kernel
theorem dX0_readCommand_94 : decode cX0_readCommand 94 = .ok (.iconst 1, 1) := by decide +kernel
theorem dX0_readCommand_95 : decode cX0_readCommand 95 = .ok (.iadd, 1) := by decide +kernel
theorem dX0_readCommand_96 : decode cX0_readCommand 96 = .ok (.putfield 40, 3) := by decide +kernel
theorem dX0_readCommand_99 : decode cX0_readCommand 99 = .ok (.iconst 1, 1) := by decide +kernel
theorem dX0_readCommand_100 : decode cX0_readCommand 100 = .ok (.ireturn, 1) := by decide +kernel
theorem dX0_number_0 : decode cX0_number 0 = .ok (.aload_n 0, 1) := by decide +kernel
theorem dX0_number_1 : decode cX0_number 1 = .ok (.getfield 20, 3) := by decide +kernel
theorem dX0_number_4 : decode cX0_number 4 = .ok (.iload_n 1, 1) := by decide +kernel
theorem dX0_number_5 : decode cX0_number 5 = .ok (.invokevirtual 64, 3) := by decide +kernel
theorem dX0_number_8 : decode cX0_number 8 = .ok (.ireturn, 1) := by decide +kernel
theorem dX0_readWord_0 : decode cX0_readWord 0 = .ok (.aload_n 0, 1) := by decide +kernel
theorem dX0_readWord_1 : decode cX0_readWord 1 = .ok (.getfield 40, 3) := by decide +kernel
theorem dX0_readWord_4 : decode cX0_readWord 4 = .ok (.istore_n 1, 1) := by decide +kernel
theorem dX0_readWord_5 : decode cX0_readWord 5 = .ok (.aload_n 0, 1) := by decide +kernel
theorem dX0_readWord_6 : decode cX0_readWord 6 = .ok (.getfield 40, 3) := by decide +kernel
theorem dX0_readWord_9 : decode cX0_readWord 9 = .ok (.aload_n 0, 1) := by decide +kernel
theorem dX0_readWord_10 : decode cX0_readWord 10 = .ok (.getfield 30, 3) := by decide +kernel
theorem dX0_readWord_13 : decode cX0_readWord 13 = .ok (.if_icmp .ge 37, 3) := by decide +kernel
theorem dX0_readWord_16 : decode cX0_readWord 16 = .ok (.aload_n 0, 1) := by decide +kernel
theorem dX0_readWord_17 : decode cX0_readWord 17 = .ok (.getfield 14, 3) := by decide +kernel
theorem dX0_readWord_20 : decode cX0_readWord 20 = .ok (.aload_n 0, 1) := by decide +kernel
theorem dX0_readWord_21 : decode cX0_readWord 21 = .ok (.getfield 40, 3) := by decide +kernel
theorem dX0_readWord_24 : decode cX0_readWord 24 = .ok (.invokevirtual 64, 3) := by decide +kernel
theorem dX0_readWord_27 : decode cX0_readWord 27 = .ok (.bipush 97, 2) := by decide +kernel
theorem dX0_readWord_29 : decode cX0_readWord 29 = .ok (.bipush 122, 2) := by decide +kernel
theorem dX0_readWord_31 : decode cX0_readWord 31 = .ok (.invokestatic 70, 3) := by decide +kernel
theorem dX0_readWord_34 : decode cX0_readWord 34 = .ok (.ifCond .eq 16, 3) := by decide +kernel
theorem dX0_readWord_37 : decode cX0_readWord 37 = .ok (.aload_n 0, 1) := by decide +kernel
theorem dX0_readWord_38 : decode cX0_readWord 38 = .ok (.dup, 1) := by decide +kernel
theorem dX0_readWord_39 : decode cX0_readWord 39 = .ok (.getfield 40, 3) := by decide +kernel
theorem dX0_readWord_42 : decode cX0_readWord 42 = .ok (.iconst 1, 1) := by decide +kernel
theorem dX0_readWord_43 : decode cX0_readWord 43 = .ok (.iadd, 1) := by decide +kernel
theorem dX0_readWord_44 : decode cX0_readWord 44 = .ok (.putfield 40, 3) := by decide +kernel
theorem dX0_readWord_47 : decode cX0_readWord 47 = .ok (.goto (-42), 3) := by decide +kernel
theorem dX0_readWord_50 : decode cX0_readWord 50 = .ok (.aload_n 0, 1) := by decide +kernel
theorem dX0_readWord_51 : decode cX0_readWord 51 = .ok (.aload_n 0, 1) := by decide +kernel
theorem dX0_readWord_52 : decode cX0_readWord 52 = .ok (.iload_n 1, 1) := by decide +kernel
theorem dX0_readWord_53 : decode cX0_readWord 53 = .ok (.aload_n 0, 1) := by decide +kernel
theorem dX0_readWord_54 : decode cX0_readWord 54 = .ok (.getfield 40, 3) := by decide +kernel
theorem dX0_readWord_57 : decode cX0_readWord 57 = .ok (.invokevirtual 74, 3) := by decide +kernel
theorem dX0_readWord_60 : decode cX0_readWord 60 = .ok (.putfield 27, 3) := by decide +kernel
theorem dX0_readWord_63 : decode cX0_readWord 63 = .ok (.aload_n 0, 1) := by decide +kernel
theorem dX0_readWord_64 : decode cX0_readWord 64 = .ok (.getfield 27, 3) := by decide +kernel
theorem dX0_readWord_67 : decode cX0_readWord 67 = .ok (.ifCond .ne 11, 3) := by decide +kernel
theorem dX0_readWord_70 : decode cX0_readWord 70 = .ok (.aload_n 0, 1) := by decide +kernel
theorem dX0_readWord_71 : decode cX0_readWord 71 = .ok (.iload_n 1, 1) := by decide +kernel
theorem dX0_readWord_72 : decode cX0_readWord 72 = .ok (.invokevirtual 67, 3) := by decide +kernel
theorem dX0_readWord_75 : decode cX0_readWord 75 = .ok (.ifCond .eq 7, 3) := by decide +kernel
theorem dX0_readWord_78 : decode cX0_readWord 78 = .ok (.iconst 1, 1) := by decide +kernel
theorem dX0_readWord_79 : decode cX0_readWord 79 = .ok (.goto 4, 3) := by decide +kernel
theorem dX0_readWord_82 : decode cX0_readWord 82 = .ok (.iconst 0, 1) := by decide +kernel
theorem dX0_readWord_83 : decode cX0_readWord 83 = .ok (.ireturn, 1) := by decide +kernel
theorem dX0_readNumber_0 : decode cX0_readNumber 0 = .ok (.aload_n 0, 1) := by decide +kernel
theorem dX0_readNumber_1 : decode cX0_readNumber 1 = .ok (.getfield 14, 3) := by decide +kernel
theorem dX0_readNumber_4 : decode cX0_readNumber 4 = .ok (.aload_n 0, 1) := by decide +kernel
theorem dX0_readNumber_5 : decode cX0_readNumber 5 = .ok (.getfield 40, 3) := by decide +kernel
theorem dX0_readNumber_8 : decode cX0_readNumber 8 = .ok (.invokevirtual 64, 3) := by decide +kernel
theorem dX0_readNumber_11 : decode cX0_readNumber 11 = .ok (.bipush 32, 2) := by decide +kernel
theorem dX0_readNumber_13 : decode cX0_readNumber 13 = .ok (.if_icmp .eq 12, 3) := by decide +kernel
theorem dX0_readNumber_16 : decode cX0_readNumber 16 = .ok (.aload_n 0, 1) := by decide +kernel
theorem dX0_readNumber_17 : decode cX0_readNumber 17 = .ok (.aload_n 0, 1) := by decide +kernel
theorem dX0_readNumber_18 : decode cX0_readNumber 18 = .ok (.getfield 40, 3) := by decide +kernel
theorem dX0_readNumber_21 : decode cX0_readNumber 21 = .ok (.invokevirtual 67, 3) := by decide +kernel
theorem dX0_readNumber_24 : decode cX0_readNumber 24 = .ok (.ireturn, 1) := by decide +kernel
theorem dX0_readNumber_25 : decode cX0_readNumber 25 = .ok (.aload_n 0, 1) := by decide +kernel
theorem dX0_readNumber_26 : decode cX0_readNumber 26 = .ok (.invokevirtual 50, 3) := by decide +kernel
theorem dX0_readNumber_29 : decode cX0_readNumber 29 = .ok (.aload_n 0, 1) := by decide +kernel
theorem dX0_readNumber_30 : decode cX0_readNumber 30 = .ok (.getfield 14, 3) := by decide +kernel
theorem dX0_readNumber_33 : decode cX0_readNumber 33 = .ok (.aload_n 0, 1) := by decide +kernel
theorem dX0_readNumber_34 : decode cX0_readNumber 34 = .ok (.getfield 40, 3) := by decide +kernel
theorem dX0_readNumber_37 : decode cX0_readNumber 37 = .ok (.invokevirtual 64, 3) := by decide +kernel
theorem dX0_readNumber_40 : decode cX0_readNumber 40 = .ok (.bipush 45, 2) := by decide +kernel
theorem dX0_readNumber_42 : decode cX0_readNumber 42 = .ok (.if_icmp .ne 7, 3) := by decide +kernel
theorem dX0_readNumber_45 : decode cX0_readNumber 45 = .ok (.iconst 1, 1) := by decide +kernel
theorem dX0_readNumber_46 : decode cX0_readNumber 46 = .ok (.goto 4, 3) := by decide +kernel
theorem dX0_readNumber_49 : decode cX0_readNumber 49 = .ok (.iconst 0, 1) := by decide +kernel
theorem dX0_readNumber_50 : decode cX0_readNumber 50 = .ok (.istore_n 2, 1) := by decide +kernel
theorem dX0_readNumber_51 : decode cX0_readNumber 51 = .ok (.iload_n 2, 1) := by decide +kernel
theorem dX0_readNumber_52 : decode cX0_readNumber 52 = .ok (.ifCond .eq 13, 3) := by decide +kernel
theorem dX0_readNumber_55 : decode cX0_readNumber 55 = .ok (.aload_n 0, 1) := by decide +kernel
theorem dX0_readNumber_56 : decode cX0_readNumber 56 = .ok (.dup, 1) := by decide +kernel
theorem dX0_readNumber_57 : decode cX0_readNumber 57 = .ok (.getfield 40, 3) := by decide +kernel
theorem dX0_readNumber_60 : decode cX0_readNumber 60 = .ok (.iconst 1, 1) := by decide +kernel
theorem dX0_readNumber_61 : decode cX0_readNumber 61 = .ok (.iadd, 1) := by decide +kernel
theorem dX0_readNumber_62 : decode cX0_readNumber 62 = .ok (.putfield 40, 3) := by decide +kernel
theorem dX0_readNumber_65 : decode cX0_readNumber 65 = .ok (.aload_n 0, 1) := by decide +kernel
theorem dX0_readNumber_66 : decode cX0_readNumber 66 = .ok (.getfield 14, 3) := by decide +kernel
theorem dX0_readNumber_69 : decode cX0_readNumber 69 = .ok (.aload_n 0, 1) := by decide +kernel
theorem dX0_readNumber_70 : decode cX0_readNumber 70 = .ok (.getfield 40, 3) := by decide +kernel
theorem dX0_readNumber_73 : decode cX0_readNumber 73 = .ok (.invokevirtual 64, 3) := by decide +kernel
theorem dX0_readNumber_76 : decode cX0_readNumber 76 = .ok (.invokestatic 78, 3) := by decide +kernel
theorem dX0_readNumber_79 : decode cX0_readNumber 79 = .ok (.ifCond .ne 12, 3) := by decide +kernel
theorem dX0_readNumber_82 : decode cX0_readNumber 82 = .ok (.aload_n 0, 1) := by decide +kernel
theorem dX0_readNumber_83 : decode cX0_readNumber 83 = .ok (.aload_n 0, 1) := by decide +kernel
theorem dX0_readNumber_84 : decode cX0_readNumber 84 = .ok (.getfield 40, 3) := by decide +kernel
theorem dX0_readNumber_87 : decode cX0_readNumber 87 = .ok (.invokevirtual 67, 3) := by decide +kernel
theorem dX0_readNumber_90 : decode cX0_readNumber 90 = .ok (.ireturn, 1) := by decide +kernel
theorem dX0_readNumber_91 : decode cX0_readNumber 91 = .ok (.iconst 0, 1) := by decide +kernel
theorem dX0_readNumber_92 : decode cX0_readNumber 92 = .ok (.istore_n 3, 1) := by decide +kernel
theorem dX0_readNumber_93 : decode cX0_readNumber 93 = .ok (.iconst 0, 1) := by decide +kernel
theorem dX0_readNumber_94 : decode cX0_readNumber 94 = .ok (.istore 4, 2) := by decide +kernel
theorem dX0_readNumber_96 : decode cX0_readNumber 96 = .ok (.iload 4, 2) := by decide +kernel
theorem dX0_readNumber_98 : decode cX0_readNumber 98 = .ok (.iconst 4, 1) := by decide +kernel
theorem dX0_readNumber_99 : decode cX0_readNumber 99 = .ok (.if_icmp .ge 56, 3) := by decide +kernel
theorem dX0_readNumber_102 : decode cX0_readNumber 102 = .ok (.aload_n 0, 1) := by decide +kernel
theorem dX0_readNumber_103 : decode cX0_readNumber 103 = .ok (.getfield 14, 3) := by decide +kernel
theorem dX0_readNumber_106 : decode cX0_readNumber 106 = .ok (.aload_n 0, 1) := by decide +kernel
theorem dX0_readNumber_107 : decode cX0_readNumber 107 = .ok (.getfield 40, 3) := by decide +kernel
theorem dX0_readNumber_110 : decode cX0_readNumber 110 = .ok (.invokevirtual 64, 3) := by decide +kernel
theorem dX0_readNumber_113 : decode cX0_readNumber 113 = .ok (.invokestatic 78, 3) := by decide +kernel
theorem dX0_readNumber_116 : decode cX0_readNumber 116 = .ok (.ifCond .eq 39, 3) := by decide +kernel
theorem dX0_readNumber_119 : decode cX0_readNumber 119 = .ok (.bipush 10, 2) := by decide +kernel
theorem dX0_readNumber_121 : decode cX0_readNumber 121 = .ok (.iload_n 3, 1) := by decide +kernel
theorem dX0_readNumber_122 : decode cX0_readNumber 122 = .ok (.imul, 1) := by decide +kernel
theorem dX0_readNumber_123 : decode cX0_readNumber 123 = .ok (.aload_n 0, 1) := by decide +kernel
theorem dX0_readNumber_124 : decode cX0_readNumber 124 = .ok (.getfield 14, 3) := by decide +kernel
theorem dX0_readNumber_127 : decode cX0_readNumber 127 = .ok (.aload_n 0, 1) := by decide +kernel
theorem dX0_readNumber_128 : decode cX0_readNumber 128 = .ok (.getfield 40, 3) := by decide +kernel
theorem dX0_readNumber_131 : decode cX0_readNumber 131 = .ok (.invokevirtual 64, 3) := by decide +kernel
theorem dX0_readNumber_134 : decode cX0_readNumber 134 = .ok (.iadd, 1) := by decide +kernel
theorem dX0_readNumber_135 : decode cX0_readNumber 135 = .ok (.bipush 48, 2) := by decide +kernel
theorem dX0_readNumber_137 : decode cX0_readNumber 137 = .ok (.isub, 1) := by decide +kernel
theorem dX0_readNumber_138 : decode cX0_readNumber 138 = .ok (.istore_n 3, 1) := by decide +kernel
theorem dX0_readNumber_139 : decode cX0_readNumber 139 = .ok (.aload_n 0, 1) := by decide +kernel
theorem dX0_readNumber_140 : decode cX0_readNumber 140 = .ok (.dup, 1) := by decide +kernel
theorem dX0_readNumber_141 : decode cX0_readNumber 141 = .ok (.getfield 40, 3) := by decide +kernel
theorem dX0_readNumber_144 : decode cX0_readNumber 144 = .ok (.iconst 1, 1) := by decide +kernel
theorem dX0_readNumber_145 : decode cX0_readNumber 145 = .ok (.iadd, 1) := by decide +kernel
theorem dX0_readNumber_146 : decode cX0_readNumber 146 = .ok (.putfield 40, 3) := by decide +kernel
theorem dX0_readNumber_149 : decode cX0_readNumber 149 = .ok (.iinc 4 1, 3) := by decide +kernel
theorem dX0_readNumber_152 : decode cX0_readNumber 152 = .ok (.goto (-56), 3) := by decide +kernel
theorem dX0_readNumber_155 : decode cX0_readNumber 155 = .ok (.aload_n 0, 1) := by decide +kernel
theorem dX0_readNumber_156 : decode cX0_readNumber 156 = .ok (.getfield 20, 3) := by decide +kernel
theorem dX0_readNumber_159 : decode cX0_readNumber 159 = .ok (.iload_n 1, 1) := by decide +kernel
theorem dX0_readNumber_160 : decode cX0_readNumber 160 = .ok (.iload_n 2, 1) := by decide +kernel
theorem dX0_readNumber_161 : decode cX0_readNumber 161 = .ok (.ifCond .eq 8, 3) := by decide +kernel
theorem dX0_readNumber_164 : decode cX0_readNumber 164 = .ok (.iload_n 3, 1) := by decide +kernel
theorem dX0_readNumber_165 : decode cX0_readNumber 165 = .ok (.ineg, 1) := by decide +kernel
theorem dX0_readNumber_166 : decode cX0_readNumber 166 = .ok (.goto 4, 3) := by decide +kernel
theorem dX0_readNumber_169 : decode cX0_readNumber 169 = .ok (.iload_n 3, 1) := by decide +kernel
theorem dX0_readNumber_170 : decode cX0_readNumber 170 = .ok (.invokevirtual 33, 3) := by decide +kernel
theorem dX0_readNumber_173 : decode cX0_readNumber 173 = .ok (.iconst 1, 1) := by decide +kernel
theorem dX0_readNumber_174 : decode cX0_readNumber 174 = .ok (.ireturn, 1) := by decide +kernel
theorem dX0_skipSpaces_0 : decode cX0_skipSpaces 0 = .ok (.aload_n 0, 1) := by decide +kernel
theorem dX0_skipSpaces_1 : decode cX0_skipSpaces 1 = .ok (.getfield 40, 3) := by decide +kernel
theorem dX0_skipSpaces_4 : decode cX0_skipSpaces 4 = .ok (.aload_n 0, 1) := by decide +kernel
theorem dX0_skipSpaces_5 : decode cX0_skipSpaces 5 = .ok (.getfield 30, 3) := by decide +kernel
theorem dX0_skipSpaces_8 : decode cX0_skipSpaces 8 = .ok (.if_icmp .ge 32, 3) := by decide +kernel
theorem dX0_skipSpaces_11 : decode cX0_skipSpaces 11 = .ok (.aload_n 0, 1) := by decide +kernel
theorem dX0_skipSpaces_12 : decode cX0_skipSpaces 12 = .ok (.getfield 14, 3) := by decide +kernel
theorem dX0_skipSpaces_15 : decode cX0_skipSpaces 15 = .ok (.aload_n 0, 1) := by decide +kernel
theorem dX0_skipSpaces_16 : decode cX0_skipSpaces 16 = .ok (.getfield 40, 3) := by decide +kernel
theorem dX0_skipSpaces_19 : decode cX0_skipSpaces 19 = .ok (.invokevirtual 64, 3) := by decide +kernel
theorem dX0_skipSpaces_22 : decode cX0_skipSpaces 22 = .ok (.bipush 32, 2) := by decide +kernel
theorem dX0_skipSpaces_24 : decode cX0_skipSpaces 24 = .ok (.if_icmp .ne 16, 3) := by decide +kernel
theorem dX0_skipSpaces_27 : decode cX0_skipSpaces 27 = .ok (.aload_n 0, 1) := by decide +kernel
theorem dX0_skipSpaces_28 : decode cX0_skipSpaces 28 = .ok (.dup, 1) := by decide +kernel
theorem dX0_skipSpaces_29 : decode cX0_skipSpaces 29 = .ok (.getfield 40, 3) := by decide +kernel
theorem dX0_skipSpaces_32 : decode cX0_skipSpaces 32 = .ok (.iconst 1, 1) := by decide +kernel
theorem dX0_skipSpaces_33 : decode cX0_skipSpaces 33 = .ok (.iadd, 1) := by decide +kernel
theorem dX0_skipSpaces_34 : decode cX0_skipSpaces 34 = .ok (.putfield 40, 3) := by decide +kernel
theorem dX0_skipSpaces_37 : decode cX0_skipSpaces 37 = .ok (.goto (-37), 3) := by decide +kernel
theorem dX0_skipSpaces_40 : decode cX0_skipSpaces 40 = .ok (.return_, 1) := by decide +kernel
theorem dX0_failAt_0 : decode cX0_failAt 0 = .ok (.aload_n 0, 1) := by decide +kernel
theorem dX0_failAt_1 : decode cX0_failAt 1 = .ok (.iload_n 1, 1) := by decide +kernel
theorem dX0_failAt_2 : decode cX0_failAt 2 = .ok (.putfield 23, 3) := by decide +kernel
theorem dX0_failAt_5 : decode cX0_failAt 5 = .ok (.iconst 0, 1) := by decide +kernel
theorem dX0_failAt_6 : decode cX0_failAt 6 = .ok (.ireturn, 1) := by decide +kernel
theorem dX0_isDigit_0 : decode cX0_isDigit 0 = .ok (.iload_n 0, 1) := by decide +kernel
theorem dX0_isDigit_1 : decode cX0_isDigit 1 = .ok (.bipush 48, 2) := by decide +kernel
theorem dX0_isDigit_3 : decode cX0_isDigit 3 = .ok (.bipush 57, 2) := by decide +kernel
theorem dX0_isDigit_5 : decode cX0_isDigit 5 = .ok (.invokestatic 70, 3) := by decide +kernel
theorem dX0_isDigit_8 : decode cX0_isDigit 8 = .ok (.ireturn, 1) := by decide +kernel
theorem dX0_wordBetween_0 : decode cX0_wordBetween 0 = .ok (.aload_n 0, 1) := by decide +kernel
theorem dX0_wordBetween_1 : decode cX0_wordBetween 1 = .ok (.ldc 81, 2) := by decide +kernel
theorem dX0_wordBetween_3 : decode cX0_wordBetween 3 = .ok (.iload_n 1, 1) := by decide +kernel
theorem dX0_wordBetween_4 : decode cX0_wordBetween 4 = .ok (.iload_n 2, 1) := by decide +kernel
theorem dX0_wordBetween_5 : decode cX0_wordBetween 5 = .ok (.invokevirtual 83, 3) := by decide +kernel
theorem dX0_wordBetween_8 : decode cX0_wordBetween 8 = .ok (.ifCond .eq 5, 3) := by decide +kernel
theorem dX0_wordBetween_11 : decode cX0_wordBetween 11 = .ok (.iconst 1, 1) := by decide +kernel
theorem dX0_wordBetween_12 : decode cX0_wordBetween 12 = .ok (.ireturn, 1) := by decide +kernel
theorem dX0_wordBetween_13 : decode cX0_wordBetween 13 = .ok (.aload_n 0, 1) := by decide +kernel
theorem dX0_wordBetween_14 : decode cX0_wordBetween 14 = .ok (.ldc 87, 2) := by decide +kernel
theorem dX0_wordBetween_16 : decode cX0_wordBetween 16 = .ok (.iload_n 1, 1) := by decide +kernel
theorem dX0_wordBetween_17 : decode cX0_wordBetween 17 = .ok (.iload_n 2, 1) := by decide +kernel
theorem dX0_wordBetween_18 : decode cX0_wordBetween 18 = .ok (.invokevirtual 83, 3) := by decide +kernel
theorem dX0_wordBetween_21 : decode cX0_wordBetween 21 = .ok (.ifCond .eq 5, 3) := by decide +kernel
theorem dX0_wordBetween_24 : decode cX0_wordBetween 24 = .ok (.iconst 2, 1) := by decide +kernel
theorem dX0_wordBetween_25 : decode cX0_wordBetween 25 = .ok (.ireturn, 1) := by decide +kernel
theorem dX0_wordBetween_26 : decode cX0_wordBetween 26 = .ok (.aload_n 0, 1) := by decide +kernel
theorem dX0_wordBetween_27 : decode cX0_wordBetween 27 = .ok (.ldc 89, 2) := by decide +kernel
theorem dX0_wordBetween_29 : decode cX0_wordBetween 29 = .ok (.iload_n 1, 1) := by decide +kernel
theorem dX0_wordBetween_30 : decode cX0_wordBetween 30 = .ok (.iload_n 2, 1) := by decide +kernel
theorem dX0_wordBetween_31 : decode cX0_wordBetween 31 = .ok (.invokevirtual 83, 3) := by decide +kernel
theorem dX0_wordBetween_34 : decode cX0_wordBetween 34 = .ok (.ifCond .eq 5, 3) := by decide +kernel
theorem dX0_wordBetween_37 : decode cX0_wordBetween 37 = .ok (.iconst 3, 1) := by decide +kernel
theorem dX0_wordBetween_38 : decode cX0_wordBetween 38 = .ok (.ireturn, 1) := by decide +kernel
theorem dX0_wordBetween_39 : decode cX0_wordBetween 39 = .ok (.aload_n 0, 1) := by decide +kernel
theorem dX0_wordBetween_40 : decode cX0_wordBetween 40 = .ok (.ldc 91, 2) := by decide +kernel
theorem dX0_wordBetween_42 : decode cX0_wordBetween 42 = .ok (.iload_n 1, 1) := by decide +kernel
theorem dX0_wordBetween_43 : decode cX0_wordBetween 43 = .ok (.iload_n 2, 1) := by decide +kernel
theorem dX0_wordBetween_44 : decode cX0_wordBetween 44 = .ok (.invokevirtual 83, 3) := by decide +kernel
theorem dX0_wordBetween_47 : decode cX0_wordBetween 47 = .ok (.ifCond .eq 5, 3) := by decide +kernel
theorem dX0_wordBetween_50 : decode cX0_wordBetween 50 = .ok (.iconst 4, 1) := by decide +kernel
theorem dX0_wordBetween_51 : decode cX0_wordBetween 51 = .ok (.ireturn, 1) := by decide +kernel
theorem dX0_wordBetween_52 : decode cX0_wordBetween 52 = .ok (.aload_n 0, 1) := by decide +kernel
theorem dX0_wordBetween_53 : decode cX0_wordBetween 53 = .ok (.ldc 93, 2) := by decide +kernel
theorem dX0_wordBetween_55 : decode cX0_wordBetween 55 = .ok (.iload_n 1, 1) := by decide +kernel
theorem dX0_wordBetween_56 : decode cX0_wordBetween 56 = .ok (.iload_n 2, 1) := by decide +kernel
theorem dX0_wordBetween_57 : decode cX0_wordBetween 57 = .ok (.invokevirtual 83, 3) := by decide +kernel
theorem dX0_wordBetween_60 : decode cX0_wordBetween 60 = .ok (.ifCond .eq 5, 3) := by decide +kernel
theorem dX0_wordBetween_63 : decode cX0_wordBetween 63 = .ok (.iconst 5, 1) := by decide +kernel
theorem dX0_wordBetween_64 : decode cX0_wordBetween 64 = .ok (.ireturn, 1) := by decide +kernel
theorem dX0_wordBetween_65 : decode cX0_wordBetween 65 = .ok (.aload_n 0, 1) := by decide +kernel
theorem dX0_wordBetween_66 : decode cX0_wordBetween 66 = .ok (.ldc 95, 2) := by decide +kernel
theorem dX0_wordBetween_68 : decode cX0_wordBetween 68 = .ok (.iload_n 1, 1) := by decide +kernel
theorem dX0_wordBetween_69 : decode cX0_wordBetween 69 = .ok (.iload_n 2, 1) := by decide +kernel
theorem dX0_wordBetween_70 : decode cX0_wordBetween 70 = .ok (.invokevirtual 83, 3) := by decide +kernel
theorem dX0_wordBetween_73 : decode cX0_wordBetween 73 = .ok (.ifCond .eq 6, 3) := by decide +kernel
theorem dX0_wordBetween_76 : decode cX0_wordBetween 76 = .ok (.bipush 6, 2) := by decide +kernel
theorem dX0_wordBetween_78 : decode cX0_wordBetween 78 = .ok (.ireturn, 1) := by decide +kernel
theorem dX0_wordBetween_79 : decode cX0_wordBetween 79 = .ok (.aload_n 0, 1) := by decide +kernel
theorem dX0_wordBetween_80 : decode cX0_wordBetween 80 = .ok (.ldc 97, 2) := by decide +kernel
theorem dX0_wordBetween_82 : decode cX0_wordBetween 82 = .ok (.iload_n 1, 1) := by decide +kernel
theorem dX0_wordBetween_83 : decode cX0_wordBetween 83 = .ok (.iload_n 2, 1) := by decide +kernel
theorem dX0_wordBetween_84 : decode cX0_wordBetween 84 = .ok (.invokevirtual 83, 3) := by decide +kernel
theorem dX0_wordBetween_87 : decode cX0_wordBetween 87 = .ok (.ifCond .eq 6, 3) := by decide +kernel
theorem dX0_wordBetween_90 : decode cX0_wordBetween 90 = .ok (.bipush 7, 2) := by decide +kernel
theorem dX0_wordBetween_92 : decode cX0_wordBetween 92 = .ok (.ireturn, 1) := by decide +kernel
theorem dX0_wordBetween_93 : decode cX0_wordBetween 93 = .ok (.aload_n 0, 1) := by decide +kernel
theorem dX0_wordBetween_94 : decode cX0_wordBetween 94 = .ok (.ldc 99, 2) := by decide +kernel
theorem dX0_wordBetween_96 : decode cX0_wordBetween 96 = .ok (.iload_n 1, 1) := by decide +kernel
theorem dX0_wordBetween_97 : decode cX0_wordBetween 97 = .ok (.iload_n 2, 1) := by decide +kernel
theorem dX0_wordBetween_98 : decode cX0_wordBetween 98 = .ok (.invokevirtual 83, 3) := by decide +kernel
theorem dX0_wordBetween_101 : decode cX0_wordBetween 101 = .ok (.ifCond .eq 8, 3) := by decide +kernel
theorem dX0_wordBetween_104 : decode cX0_wordBetween 104 = .ok (.bipush 8, 2) := by decide +kernel
theorem dX0_wordBetween_106 : decode cX0_wordBetween 106 = .ok (.goto 4, 3) := by decide +kernel
theorem dX0_wordBetween_109 : decode cX0_wordBetween 109 = .ok (.iconst 0, 1) := by decide +kernel
theorem dX0_wordBetween_110 : decode cX0_wordBetween 110 = .ok (.ireturn, 1) := by decide +kernel
theorem dX0_isWord_0 : decode cX0_isWord 0 = .ok (.aload_n 1, 1) := by decide +kernel
theorem dX0_isWord_1 : decode cX0_isWord 1 = .ok (.ifnull 13, 3) := by decide +kernel
theorem dX0_isWord_4 : decode cX0_isWord 4 = .ok (.aload_n 1, 1) := by decide +kernel
theorem dX0_isWord_5 : decode cX0_isWord 5 = .ok (.invokevirtual 101, 3) := by decide +kernel
theorem dX0_isWord_8 : decode cX0_isWord 8 = .ok (.iload_n 3, 1) := by decide +kernel
theorem dX0_isWord_9 : decode cX0_isWord 9 = .ok (.iload_n 2, 1) := by decide +kernel
theorem dX0_isWord_10 : decode cX0_isWord 10 = .ok (.isub, 1) := by decide +kernel
theorem dX0_isWord_11 : decode cX0_isWord 11 = .ok (.if_icmp .eq 5, 3) := by decide +kernel
theorem dX0_isWord_14 : decode cX0_isWord 14 = .ok (.iconst 0, 1) := by decide +kernel
theorem dX0_isWord_15 : decode cX0_isWord 15 = .ok (.ireturn, 1) := by decide +kernel
theorem dX0_isWord_16 : decode cX0_isWord 16 = .ok (.iconst 0, 1) := by decide +kernel
theorem dX0_isWord_17 : decode cX0_isWord 17 = .ok (.istore 4, 2) := by decide +kernel
theorem dX0_isWord_19 : decode cX0_isWord 19 = .ok (.iload 4, 2) := by decide +kernel
theorem dX0_isWord_21 : decode cX0_isWord 21 = .ok (.aload_n 1, 1) := by decide +kernel
theorem dX0_isWord_22 : decode cX0_isWord 22 = .ok (.invokevirtual 101, 3) := by decide +kernel
theorem dX0_isWord_25 : decode cX0_isWord 25 = .ok (.if_icmp .ge 31, 3) := by decide +kernel
theorem dX0_isWord_28 : decode cX0_isWord 28 = .ok (.aload_n 0, 1) := by decide +kernel
theorem dX0_isWord_29 : decode cX0_isWord 29 = .ok (.getfield 14, 3) := by decide +kernel
theorem dX0_isWord_32 : decode cX0_isWord 32 = .ok (.iload_n 2, 1) := by decide +kernel
theorem dX0_isWord_33 : decode cX0_isWord 33 = .ok (.iload 4, 2) := by decide +kernel
theorem dX0_isWord_35 : decode cX0_isWord 35 = .ok (.iadd, 1) := by decide +kernel
theorem dX0_isWord_36 : decode cX0_isWord 36 = .ok (.invokevirtual 64, 3) := by decide +kernel
theorem dX0_isWord_39 : decode cX0_isWord 39 = .ok (.aload_n 1, 1) := by decide +kernel
theorem dX0_isWord_40 : decode cX0_isWord 40 = .ok (.iload 4, 2) := by decide +kernel
theorem dX0_isWord_42 : decode cX0_isWord 42 = .ok (.invokevirtual 106, 3) := by decide +kernel
theorem dX0_isWord_45 : decode cX0_isWord 45 = .ok (.if_icmp .eq 5, 3) := by decide +kernel
theorem dX0_isWord_48 : decode cX0_isWord 48 = .ok (.iconst 0, 1) := by decide +kernel
theorem dX0_isWord_49 : decode cX0_isWord 49 = .ok (.ireturn, 1) := by decide +kernel
theorem dX0_isWord_50 : decode cX0_isWord 50 = .ok (.iinc 4 1, 3) := by decide +kernel
theorem dX0_isWord_53 : decode cX0_isWord 53 = .ok (.goto (-34), 3) := by decide +kernel
theorem dX0_isWord_56 : decode cX0_isWord 56 = .ok (.iconst 1, 1) := by decide +kernel
theorem dX0_isWord_57 : decode cX0_isWord 57 = .ok (.ireturn, 1) := by decide +kernel
theorem dX0_numbersOf_0 : decode cX0_numbersOf 0 = .ok (.iload_n 0, 1) := by decide +kernel
theorem dX0_numbersOf_1 : decode cX0_numbersOf 1 = .ok (.tableswitch 41 1 5 #[39, 35, 39, 37, 39], 35) := by decide +kernel
theorem dX0_numbersOf_36 : decode cX0_numbersOf 36 = .ok (.iconst 5, 1) := by decide +kernel
theorem dX0_numbersOf_37 : decode cX0_numbersOf 37 = .ok (.ireturn, 1) := by decide +kernel
theorem dX0_numbersOf_38 : decode cX0_numbersOf 38 = .ok (.iconst 4, 1) := by decide +kernel
theorem dX0_numbersOf_39 : decode cX0_numbersOf 39 = .ok (.ireturn, 1) := by decide +kernel
theorem dX0_numbersOf_40 : decode cX0_numbersOf 40 = .ok (.iconst 2, 1) := by decide +kernel
theorem dX0_numbersOf_41 : decode cX0_numbersOf 41 = .ok (.ireturn, 1) := by decide +kernel
theorem dX0_numbersOf_42 : decode cX0_numbersOf 42 = .ok (.iconst 1, 1) := by decide +kernel
theorem dX0_numbersOf_43 : decode cX0_numbersOf 43 = .ok (.ireturn, 1) := by decide +kernel
theorem dX1_init_0 : decode cX1_init 0 = .ok (.aload_n 0, 1) := by decide +kernel
theorem dX1_init_1 : decode cX1_init 1 = .ok (.invokespecial 3, 3) := by decide +kernel
theorem dX1_init_4 : decode cX1_init 4 = .ok (.aload_n 0, 1) := by decide +kernel
theorem dX1_init_5 : decode cX1_init 5 = .ok (.new 9, 3) := by decide +kernel
theorem dX1_init_8 : decode cX1_init 8 = .ok (.dup, 1) := by decide +kernel
theorem dX1_init_9 : decode cX1_init 9 = .ok (.bipush 8, 2) := by decide +kernel
theorem dX1_init_11 : decode cX1_init 11 = .ok (.invokespecial 11, 3) := by decide +kernel
theorem dX1_init_14 : decode cX1_init 14 = .ok (.putfield 14, 3) := by decide +kernel
theorem dX1_init_17 : decode cX1_init 17 = .ok (.aload_n 0, 1) := by decide +kernel
theorem dX1_init_18 : decode cX1_init 18 = .ok (.new 9, 3) := by decide +kernel
theorem dX1_init_21 : decode cX1_init 21 = .ok (.dup, 1) := by decide +kernel
theorem dX1_init_22 : decode cX1_init 22 = .ok (.bipush 8, 2) := by decide +kernel
theorem dX1_init_24 : decode cX1_init 24 = .ok (.invokespecial 11, 3) := by decide +kernel
theorem dX1_init_27 : decode cX1_init 27 = .ok (.putfield 20, 3) := by decide +kernel
theorem dX1_init_30 : decode cX1_init 30 = .ok (.aload_n 0, 1) := by decide +kernel
theorem dX1_init_31 : decode cX1_init 31 = .ok (.new 9, 3) := by decide +kernel
theorem dX1_init_34 : decode cX1_init 34 = .ok (.dup, 1) := by decide +kernel
theorem dX1_init_35 : decode cX1_init 35 = .ok (.bipush 8, 2) := by decide +kernel
theorem dX1_init_37 : decode cX1_init 37 = .ok (.invokespecial 11, 3) := by decide +kernel
theorem dX1_init_40 : decode cX1_init 40 = .ok (.putfield 23, 3) := by decide +kernel
theorem dX1_init_43 : decode cX1_init 43 = .ok (.aload_n 0, 1) := by decide +kernel
theorem dX1_init_44 : decode cX1_init 44 = .ok (.new 9, 3) := by decide +kernel
theorem dX1_init_47 : decode cX1_init 47 = .ok (.dup, 1) := by decide +kernel
theorem dX1_init_48 : decode cX1_init 48 = .ok (.bipush 8, 2) := by decide +kernel
theorem dX1_init_50 : decode cX1_init 50 = .ok (.invokespecial 11, 3) := by decide +kernel
theorem dX1_init_53 : decode cX1_init 53 = .ok (.putfield 26, 3) := by decide +kernel
theorem dX1_init_56 : decode cX1_init 56 = .ok (.return_, 1) := by decide +kernel
theorem dX1_prepare_0 : decode cX1_prepare 0 = .ok (.aload_n 0, 1) := by decide +kernel
theorem dX1_prepare_1 : decode cX1_prepare 1 = .ok (.iload_n 2, 1) := by decide +kernel
theorem dX1_prepare_2 : decode cX1_prepare 2 = .ok (.putfield 29, 3) := by decide +kernel
theorem dX1_prepare_5 : decode cX1_prepare 5 = .ok (.iconst 0, 1) := by decide +kernel
theorem dX1_prepare_6 : decode cX1_prepare 6 = .ok (.istore_n 3, 1) := by decide +kernel
theorem dX1_prepare_7 : decode cX1_prepare 7 = .ok (.iload_n 3, 1) := by decide +kernel
theorem dX1_prepare_8 : decode cX1_prepare 8 = .ok (.bipush 8, 2) := by decide +kernel
theorem dX1_prepare_10 : decode cX1_prepare 10 = .ok (.if_icmp .ge 39, 3) := by decide +kernel
theorem dX1_prepare_13 : decode cX1_prepare 13 = .ok (.aload_n 1, 1) := by decide +kernel
theorem dX1_prepare_14 : decode cX1_prepare 14 = .ok (.ifnull 35, 3) := by decide +kernel
theorem dX1_prepare_17 : decode cX1_prepare 17 = .ok (.aload_n 0, 1) := by decide +kernel
theorem dX1_prepare_18 : decode cX1_prepare 18 = .ok (.getfield 14, 3) := by decide +kernel
theorem dX1_prepare_21 : decode cX1_prepare 21 = .ok (.iload_n 3, 1) := by decide +kernel
theorem dX1_prepare_22 : decode cX1_prepare 22 = .ok (.aload_n 1, 1) := by decide +kernel
theorem dX1_prepare_23 : decode cX1_prepare 23 = .ok (.iload_n 3, 1) := by decide +kernel
theorem dX1_prepare_24 : decode cX1_prepare 24 = .ok (.invokevirtual 33, 3) := by decide +kernel
theorem dX1_prepare_27 : decode cX1_prepare 27 = .ok (.invokevirtual 39, 3) := by decide +kernel
theorem dX1_prepare_30 : decode cX1_prepare 30 = .ok (.aload_n 0, 1) := by decide +kernel
theorem dX1_prepare_31 : decode cX1_prepare 31 = .ok (.getfield 20, 3) := by decide +kernel
theorem dX1_prepare_34 : decode cX1_prepare 34 = .ok (.iload_n 3, 1) := by decide +kernel
theorem dX1_prepare_35 : decode cX1_prepare 35 = .ok (.aload_n 1, 1) := by decide +kernel
theorem dX1_prepare_36 : decode cX1_prepare 36 = .ok (.iload_n 3, 1) := by decide +kernel
theorem dX1_prepare_37 : decode cX1_prepare 37 = .ok (.invokevirtual 43, 3) := by decide +kernel
theorem dX1_prepare_40 : decode cX1_prepare 40 = .ok (.invokevirtual 39, 3) := by decide +kernel
theorem dX1_prepare_43 : decode cX1_prepare 43 = .ok (.iinc 3 1, 3) := by decide +kernel
theorem dX1_prepare_46 : decode cX1_prepare 46 = .ok (.goto (-39), 3) := by decide +kernel
theorem dX1_prepare_49 : decode cX1_prepare 49 = .ok (.return_, 1) := by decide +kernel
theorem dX1_countWrong_0 : decode cX1_countWrong 0 = .ok (.aload_n 1, 1) := by decide +kernel
theorem dX1_countWrong_1 : decode cX1_countWrong 1 = .ok (.ifnonnull 5, 3) := by decide +kernel
theorem dX1_countWrong_4 : decode cX1_countWrong 4 = .ok (.iconst 0, 1) := by decide +kernel
theorem dX1_countWrong_5 : decode cX1_countWrong 5 = .ok (.ireturn, 1) := by decide +kernel
theorem dX1_countWrong_6 : decode cX1_countWrong 6 = .ok (.aload_n 0, 1) := by decide +kernel
theorem dX1_countWrong_7 : decode cX1_countWrong 7 = .ok (.aload_n 1, 1) := by decide +kernel
theorem dX1_countWrong_8 : decode cX1_countWrong 8 = .ok (.iload_n 2, 1) := by decide +kernel
theorem dX1_countWrong_9 : decode cX1_countWrong 9 = .ok (.invokevirtual 46, 3) := by decide +kernel
theorem dX1_countWrong_12 : decode cX1_countWrong 12 = .ok (.iconst 0, 1) := by decide +kernel
theorem dX1_countWrong_13 : decode cX1_countWrong 13 = .ok (.istore 5, 2) := by decide +kernel
theorem dX1_countWrong_15 : decode cX1_countWrong 15 = .ok (.iconst 0, 1) := by decide +kernel
theorem dX1_countWrong_16 : decode cX1_countWrong 16 = .ok (.istore 6, 2) := by decide +kernel
theorem dX1_countWrong_18 : decode cX1_countWrong 18 = .ok (.iload 6, 2) := by decide +kernel
theorem dX1_countWrong_20 : decode cX1_countWrong 20 = .ok (.aload_n 1, 1) := by decide +kernel
theorem dX1_countWrong_21 : decode cX1_countWrong 21 = .ok (.getfield 50, 3) := by decide +kernel
theorem dX1_countWrong_24 : decode cX1_countWrong 24 = .ok (.if_icmp .ge 78, 3) := by decide +kernel
theorem dX1_countWrong_27 : decode cX1_countWrong 27 = .ok (.iconst 0, 1) := by decide +kernel
theorem dX1_countWrong_28 : decode cX1_countWrong 28 = .ok (.istore 7, 2) := by decide +kernel
theorem dX1_countWrong_30 : decode cX1_countWrong 30 = .ok (.iload 7, 2) := by decide +kernel
theorem dX1_countWrong_32 : decode cX1_countWrong 32 = .ok (.aload_n 1, 1) := by decide +kernel
theorem dX1_countWrong_33 : decode cX1_countWrong 33 = .ok (.getfield 53, 3) := by decide +kernel
theorem dX1_countWrong_36 : decode cX1_countWrong 36 = .ok (.if_icmp .ge 60, 3) := by decide +kernel
theorem dX1_countWrong_39 : decode cX1_countWrong 39 = .ok (.aload_n 1, 1) := by decide +kernel
theorem dX1_countWrong_40 : decode cX1_countWrong 40 = .ok (.aload_n 1, 1) := by decide +kernel
theorem dX1_countWrong_41 : decode cX1_countWrong 41 = .ok (.iload 7, 2) := by decide +kernel
theorem dX1_countWrong_43 : decode cX1_countWrong 43 = .ok (.iload 6, 2) := by decide +kernel
theorem dX1_countWrong_45 : decode cX1_countWrong 45 = .ok (.invokevirtual 56, 3) := by decide +kernel
theorem dX1_countWrong_48 : decode cX1_countWrong 48 = .ok (.invokevirtual 60, 3) := by decide +kernel
theorem dX1_countWrong_51 : decode cX1_countWrong 51 = .ok (.istore 8, 2) := by decide +kernel
theorem dX1_countWrong_53 : decode cX1_countWrong 53 = .ok (.aload_n 0, 1) := by decide +kernel
theorem dX1_countWrong_54 : decode cX1_countWrong 54 = .ok (.aload_n 1, 1) := by decide +kernel
theorem dX1_countWrong_55 : decode cX1_countWrong 55 = .ok (.iload 7, 2) := by decide +kernel
theorem dX1_countWrong_57 : decode cX1_countWrong 57 = .ok (.iload_n 3, 1) := by decide +kernel
theorem dX1_countWrong_58 : decode cX1_countWrong 58 = .ok (.invokestatic 63, 3) := by decide +kernel
theorem dX1_countWrong_61 : decode cX1_countWrong 61 = .ok (.iload 6, 2) := by decide +kernel
theorem dX1_countWrong_63 : decode cX1_countWrong 63 = .ok (.iload 4, 2) := by decide +kernel
theorem dX1_countWrong_65 : decode cX1_countWrong 65 = .ok (.invokestatic 63, 3) := by decide +kernel
theorem dX1_countWrong_68 : decode cX1_countWrong 68 = .ok (.iload 8, 2) := by decide +kernel
theorem dX1_countWrong_70 : decode cX1_countWrong 70 = .ok (.invokevirtual 66, 3) := by decide +kernel
theorem dX1_countWrong_73 : decode cX1_countWrong 73 = .ok (.iload 5, 2) := by decide +kernel
theorem dX1_countWrong_75 : decode cX1_countWrong 75 = .ok (.aload_n 0, 1) := by decide +kernel
theorem dX1_countWrong_76 : decode cX1_countWrong 76 = .ok (.getfield 70, 3) := by decide +kernel
theorem dX1_countWrong_79 : decode cX1_countWrong 79 = .ok (.ifCond .ne 7, 3) := by decide +kernel
theorem dX1_countWrong_82 : decode cX1_countWrong 82 = .ok (.iconst 0, 1) := by decide +kernel
theorem dX1_countWrong_83 : decode cX1_countWrong 83 = .ok (.goto 4, 3) := by decide +kernel
theorem dX1_countWrong_86 : decode cX1_countWrong 86 = .ok (.iconst 1, 1) := by decide +kernel
theorem dX1_countWrong_87 : decode cX1_countWrong 87 = .ok (.iadd, 1) := by decide +kernel
theorem dX1_countWrong_88 : decode cX1_countWrong 88 = .ok (.istore 5, 2) := by decide +kernel
theorem dX1_countWrong_90 : decode cX1_countWrong 90 = .ok (.iinc 7 1, 3) := by decide +kernel
theorem dX1_countWrong_93 : decode cX1_countWrong 93 = .ok (.goto (-63), 3) := by decide +kernel
theorem dX1_countWrong_96 : decode cX1_countWrong 96 = .ok (.iinc 6 1, 3) := by decide +kernel
theorem dX1_countWrong_99 : decode cX1_countWrong 99 = .ok (.goto (-81), 3) := by decide +kernel
theorem dX1_countWrong_102 : decode cX1_countWrong 102 = .ok (.iload 5, 2) := by decide +kernel
theorem dX1_countWrong_104 : decode cX1_countWrong 104 = .ok (.ireturn, 1) := by decide +kernel
theorem dX1_dimPoint_0 : decode cX1_dimPoint 0 = .ok (.aload_n 0, 1) := by decide +kernel
theorem dX1_dimPoint_1 : decode cX1_dimPoint 1 = .ok (.iconst 0, 1) := by decide +kernel
theorem dX1_dimPoint_2 : decode cX1_dimPoint 2 = .ok (.putfield 73, 3) := by decide +kernel
theorem dX1_dimPoint_5 : decode cX1_dimPoint 5 = .ok (.iconst 0, 1) := by decide +kernel
theorem dX1_dimPoint_6 : decode cX1_dimPoint 6 = .ok (.istore 5, 2) := by decide +kernel
theorem dX1_dimPoint_8 : decode cX1_dimPoint 8 = .ok (.iload 5, 2) := by decide +kernel
theorem dX1_dimPoint_10 : decode cX1_dimPoint 10 = .ok (.bipush 8, 2) := by decide +kernel
theorem dX1_dimPoint_12 : decode cX1_dimPoint 12 = .ok (.if_icmp .ge 82, 3) := by decide +kernel
theorem dX1_dimPoint_15 : decode cX1_dimPoint 15 = .ok (.aload_n 1, 1) := by decide +kernel
theorem dX1_dimPoint_16 : decode cX1_dimPoint 16 = .ok (.ifnull 26, 3) := by decide +kernel
theorem dX1_dimPoint_19 : decode cX1_dimPoint 19 = .ok (.iload 5, 2) := by decide +kernel
theorem dX1_dimPoint_21 : decode cX1_dimPoint 21 = .ok (.aload_n 0, 1) := by decide +kernel
theorem dX1_dimPoint_22 : decode cX1_dimPoint 22 = .ok (.getfield 29, 3) := by decide +kernel
theorem dX1_dimPoint_25 : decode cX1_dimPoint 25 = .ok (.invokestatic 76, 3) := by decide +kernel
theorem dX1_dimPoint_28 : decode cX1_dimPoint 28 = .ok (.ifCond .eq 14, 3) := by decide +kernel
theorem dX1_dimPoint_31 : decode cX1_dimPoint 31 = .ok (.aload_n 1, 1) := by decide +kernel
theorem dX1_dimPoint_32 : decode cX1_dimPoint 32 = .ok (.iload 5, 2) := by decide +kernel
theorem dX1_dimPoint_34 : decode cX1_dimPoint 34 = .ok (.iload_n 2, 1) := by decide +kernel
theorem dX1_dimPoint_35 : decode cX1_dimPoint 35 = .ok (.iload_n 3, 1) := by decide +kernel
theorem dX1_dimPoint_36 : decode cX1_dimPoint 36 = .ok (.invokevirtual 80, 3) := by decide +kernel
theorem dX1_dimPoint_39 : decode cX1_dimPoint 39 = .ok (.goto 4, 3) := by decide +kernel
theorem dX1_dimPoint_42 : decode cX1_dimPoint 42 = .ok (.iconst 0, 1) := by decide +kernel
theorem dX1_dimPoint_43 : decode cX1_dimPoint 43 = .ok (.istore 6, 2) := by decide +kernel
theorem dX1_dimPoint_45 : decode cX1_dimPoint 45 = .ok (.aload_n 0, 1) := by decide +kernel
theorem dX1_dimPoint_46 : decode cX1_dimPoint 46 = .ok (.getfield 23, 3) := by decide +kernel
theorem dX1_dimPoint_49 : decode cX1_dimPoint 49 = .ok (.iload 5, 2) := by decide +kernel
theorem dX1_dimPoint_51 : decode cX1_dimPoint 51 = .ok (.iload 6, 2) := by decide +kernel
theorem dX1_dimPoint_53 : decode cX1_dimPoint 53 = .ok (.invokevirtual 39, 3) := by decide +kernel
theorem dX1_dimPoint_56 : decode cX1_dimPoint 56 = .ok (.aload_n 0, 1) := by decide +kernel
theorem dX1_dimPoint_57 : decode cX1_dimPoint 57 = .ok (.getfield 26, 3) := by decide +kernel
theorem dX1_dimPoint_60 : decode cX1_dimPoint 60 = .ok (.iload 5, 2) := by decide +kernel
theorem dX1_dimPoint_62 : decode cX1_dimPoint 62 = .ok (.iconst 0, 1) := by decide +kernel
theorem dX1_dimPoint_63 : decode cX1_dimPoint 63 = .ok (.invokevirtual 39, 3) := by decide +kernel
theorem dX1_dimPoint_66 : decode cX1_dimPoint 66 = .ok (.aload_n 0, 1) := by decide +kernel
theorem dX1_dimPoint_67 : decode cX1_dimPoint 67 = .ok (.dup, 1) := by decide +kernel
theorem dX1_dimPoint_68 : decode cX1_dimPoint 68 = .ok (.getfield 73, 3) := by decide +kernel
theorem dX1_dimPoint_71 : decode cX1_dimPoint 71 = .ok (.iload 6, 2) := by decide +kernel
theorem dX1_dimPoint_73 : decode cX1_dimPoint 73 = .ok (.ifCond .le 10, 3) := by decide +kernel
theorem dX1_dimPoint_76 : decode cX1_dimPoint 76 = .ok (.iconst 1, 1) := by decide +kernel
theorem dX1_dimPoint_77 : decode cX1_dimPoint 77 = .ok (.iload 5, 2) := by decide +kernel
theorem dX1_dimPoint_79 : decode cX1_dimPoint 79 = .ok (.ishl, 1) := by decide +kernel
theorem dX1_dimPoint_80 : decode cX1_dimPoint 80 = .ok (.goto 4, 3) := by decide +kernel
theorem dX1_dimPoint_83 : decode cX1_dimPoint 83 = .ok (.iconst 0, 1) := by decide +kernel
theorem dX1_dimPoint_84 : decode cX1_dimPoint 84 = .ok (.ior, 1) := by decide +kernel
theorem dX1_dimPoint_85 : decode cX1_dimPoint 85 = .ok (.putfield 73, 3) := by decide +kernel
theorem dX1_dimPoint_88 : decode cX1_dimPoint 88 = .ok (.iinc 5 1, 3) := by decide +kernel
theorem dX1_dimPoint_91 : decode cX1_dimPoint 91 = .ok (.goto (-83), 3) := by decide +kernel
theorem dX1_dimPoint_94 : decode cX1_dimPoint 94 = .ok (.aload_n 0, 1) := by decide +kernel
theorem dX1_dimPoint_95 : decode cX1_dimPoint 95 = .ok (.iload 4, 2) := by decide +kernel
theorem dX1_dimPoint_97 : decode cX1_dimPoint 97 = .ok (.invokevirtual 84, 3) := by decide +kernel
theorem dX1_dimPoint_100 : decode cX1_dimPoint 100 = .ok (.aload_n 0, 1) := by decide +kernel
theorem dX1_dimPoint_101 : decode cX1_dimPoint 101 = .ok (.invokevirtual 87, 3) := by decide +kernel
theorem dX1_dimPoint_104 : decode cX1_dimPoint 104 = .ok (.aload_n 0, 1) := by decide +kernel
theorem dX1_dimPoint_105 : decode cX1_dimPoint 105 = .ok (.iload 4, 2) := by decide +kernel
theorem dX1_dimPoint_107 : decode cX1_dimPoint 107 = .ok (.invokevirtual 90, 3) := by decide +kernel
theorem dX1_dimPoint_110 : decode cX1_dimPoint 110 = .ok (.aload_n 0, 1) := by decide +kernel
theorem dX1_dimPoint_111 : decode cX1_dimPoint 111 = .ok (.aload_n 0, 1) := by decide +kernel
theorem dX1_dimPoint_112 : decode cX1_dimPoint 112 = .ok (.iload 4, 2) := by decide +kernel
theorem dX1_dimPoint_114 : decode cX1_dimPoint 114 = .ok (.invokevirtual 93, 3) := by decide +kernel
theorem dX1_dimPoint_117 : decode cX1_dimPoint 117 = .ok (.putfield 70, 3) := by decide +kernel
theorem dX1_dimPoint_120 : decode cX1_dimPoint 120 = .ok (.return_, 1) := by decide +kernel
theorem dX1_shareOut_0 : decode cX1_shareOut 0 = .ok (.iconst 0, 1) := by decide +kernel
theorem dX1_shareOut_1 : decode cX1_shareOut 1 = .ok (.istore_n 2, 1) := by decide +kernel
theorem dX1_shareOut_2 : decode cX1_shareOut 2 = .ok (.iconst 0, 1) := by decide +kernel
theorem dX1_shareOut_3 : decode cX1_shareOut 3 = .ok (.istore_n 3, 1) := by decide +kernel
theorem dX1_shareOut_4 : decode cX1_shareOut 4 = .ok (.iconst 0, 1) := by decide +kernel
theorem dX1_shareOut_5 : decode cX1_shareOut 5 = .ok (.istore 4, 2) := by decide +kernel
theorem dX1_shareOut_7 : decode cX1_shareOut 7 = .ok (.iload 4, 2) := by decide +kernel
theorem dX1_shareOut_9 : decode cX1_shareOut 9 = .ok (.bipush 8, 2) := by decide +kernel
theorem dX1_shareOut_11 : decode cX1_shareOut 11 = .ok (.if_icmp .ge 48, 3) := by decide +kernel
theorem dX1_shareOut_14 : decode cX1_shareOut 14 = .ok (.iload_n 2, 1) := by decide +kernel
theorem dX1_shareOut_15 : decode cX1_shareOut 15 = .ok (.aload_n 0, 1) := by decide +kernel
theorem dX1_shareOut_16 : decode cX1_shareOut 16 = .ok (.getfield 23, 3) := by decide +kernel
theorem dX1_shareOut_19 : decode cX1_shareOut 19 = .ok (.iload 4, 2) := by decide +kernel
theorem dX1_shareOut_21 : decode cX1_shareOut 21 = .ok (.invokevirtual 96, 3) := by decide +kernel
theorem dX1_shareOut_24 : decode cX1_shareOut 24 = .ok (.iadd, 1) := by decide +kernel
theorem dX1_shareOut_25 : decode cX1_shareOut 25 = .ok (.istore_n 2, 1) := by decide +kernel
theorem dX1_shareOut_26 : decode cX1_shareOut 26 = .ok (.aload_n 0, 1) := by decide +kernel
theorem dX1_shareOut_27 : decode cX1_shareOut 27 = .ok (.getfield 23, 3) := by decide +kernel
theorem dX1_shareOut_30 : decode cX1_shareOut 30 = .ok (.iload 4, 2) := by decide +kernel
theorem dX1_shareOut_32 : decode cX1_shareOut 32 = .ok (.invokevirtual 96, 3) := by decide +kernel
theorem dX1_shareOut_35 : decode cX1_shareOut 35 = .ok (.aload_n 0, 1) := by decide +kernel
theorem dX1_shareOut_36 : decode cX1_shareOut 36 = .ok (.getfield 23, 3) := by decide +kernel
theorem dX1_shareOut_39 : decode cX1_shareOut 39 = .ok (.iload_n 3, 1) := by decide +kernel
theorem dX1_shareOut_40 : decode cX1_shareOut 40 = .ok (.invokevirtual 96, 3) := by decide +kernel
theorem dX1_shareOut_43 : decode cX1_shareOut 43 = .ok (.if_icmp .le 8, 3) := by decide +kernel
theorem dX1_shareOut_46 : decode cX1_shareOut 46 = .ok (.iload 4, 2) := by decide +kernel
theorem dX1_shareOut_48 : decode cX1_shareOut 48 = .ok (.goto 4, 3) := by decide +kernel
theorem dX1_shareOut_51 : decode cX1_shareOut 51 = .ok (.iload_n 3, 1) := by decide +kernel
theorem dX1_shareOut_52 : decode cX1_shareOut 52 = .ok (.istore_n 3, 1) := by decide +kernel
theorem dX1_shareOut_53 : decode cX1_shareOut 53 = .ok (.iinc 4 1, 3) := by decide +kernel
theorem dX1_shareOut_56 : decode cX1_shareOut 56 = .ok (.goto (-49), 3) := by decide +kernel
theorem dX1_shareOut_59 : decode cX1_shareOut 59 = .ok (.iload_n 2, 1) := by decide +kernel
theorem dX1_shareOut_60 : decode cX1_shareOut 60 = .ok (.ifCond .gt 4, 3) := by decide +kernel
theorem dX1_shareOut_63 : decode cX1_shareOut 63 = .ok (.return_, 1) := by decide +kernel
theorem dX1_shareOut_64 : decode cX1_shareOut 64 = .ok (.iload_n 1, 1) := by decide +kernel
theorem dX1_shareOut_65 : decode cX1_shareOut 65 = .ok (.istore 4, 2) := by decide +kernel
theorem dX1_shareOut_67 : decode cX1_shareOut 67 = .ok (.iconst 0, 1) := by decide +kernel
theorem dX1_shareOut_68 : decode cX1_shareOut 68 = .ok (.istore 5, 2) := by decide +kernel
theorem dX1_shareOut_70 : decode cX1_shareOut 70 = .ok (.iload 5, 2) := by decide +kernel
theorem dX1_shareOut_72 : decode cX1_shareOut 72 = .ok (.bipush 8, 2) := by decide +kernel
theorem dX1_shareOut_74 : decode cX1_shareOut 74 = .ok (.if_icmp .ge 42, 3) := by decide +kernel
theorem dX1_shareOut_77 : decode cX1_shareOut 77 = .ok (.iload_n 1, 1) := by decide +kernel
theorem dX1_shareOut_78 : decode cX1_shareOut 78 = .ok (.aload_n 0, 1) := by decide +kernel
theorem dX1_shareOut_79 : decode cX1_shareOut 79 = .ok (.getfield 23, 3) := by decide +kernel
theorem dX1_shareOut_82 : decode cX1_shareOut 82 = .ok (.iload 5, 2) := by decide +kernel
theorem dX1_shareOut_84 : decode cX1_shareOut 84 = .ok (.invokevirtual 96, 3) := by decide +kernel
theorem dX1_shareOut_87 : decode cX1_shareOut 87 = .ok (.imul, 1) := by decide +kernel
theorem dX1_shareOut_88 : decode cX1_shareOut 88 = .ok (.iload_n 2, 1) := by decide +kernel
theorem dX1_shareOut_89 : decode cX1_shareOut 89 = .ok (.idiv, 1) := by decide +kernel
theorem dX1_shareOut_90 : decode cX1_shareOut 90 = .ok (.istore 6, 2) := by decide +kernel
theorem dX1_shareOut_92 : decode cX1_shareOut 92 = .ok (.aload_n 0, 1) := by decide +kernel
theorem dX1_shareOut_93 : decode cX1_shareOut 93 = .ok (.getfield 26, 3) := by decide +kernel
theorem dX1_shareOut_96 : decode cX1_shareOut 96 = .ok (.iload 5, 2) := by decide +kernel
theorem dX1_shareOut_98 : decode cX1_shareOut 98 = .ok (.iload 6, 2) := by decide +kernel
theorem dX1_shareOut_100 : decode cX1_shareOut 100 = .ok (.invokevirtual 39, 3) := by decide +kernel
theorem dX1_shareOut_103 : decode cX1_shareOut 103 = .ok (.iload 4, 2) := by decide +kernel
theorem dX1_shareOut_105 : decode cX1_shareOut 105 = .ok (.iload 6, 2) := by decide +kernel
theorem dX1_shareOut_107 : decode cX1_shareOut 107 = .ok (.isub, 1) := by decide +kernel
theorem dX1_shareOut_108 : decode cX1_shareOut 108 = .ok (.istore 4, 2) := by decide +kernel
theorem dX1_shareOut_110 : decode cX1_shareOut 110 = .ok (.iinc 5 1, 3) := by decide +kernel
theorem dX1_shareOut_113 : decode cX1_shareOut 113 = .ok (.goto (-43), 3) := by decide +kernel
theorem dX1_shareOut_116 : decode cX1_shareOut 116 = .ok (.aload_n 0, 1) := by decide +kernel
theorem dX1_shareOut_117 : decode cX1_shareOut 117 = .ok (.getfield 26, 3) := by decide +kernel
theorem dX1_shareOut_120 : decode cX1_shareOut 120 = .ok (.iload_n 3, 1) := by decide +kernel
theorem dX1_shareOut_121 : decode cX1_shareOut 121 = .ok (.aload_n 0, 1) := by decide +kernel
theorem dX1_shareOut_122 : decode cX1_shareOut 122 = .ok (.getfield 26, 3) := by decide +kernel
theorem dX1_shareOut_125 : decode cX1_shareOut 125 = .ok (.iload_n 3, 1) := by decide +kernel
theorem dX1_shareOut_126 : decode cX1_shareOut 126 = .ok (.invokevirtual 96, 3) := by decide +kernel
theorem dX1_shareOut_129 : decode cX1_shareOut 129 = .ok (.iload 4, 2) := by decide +kernel
theorem dX1_shareOut_131 : decode cX1_shareOut 131 = .ok (.iadd, 1) := by decide +kernel
theorem dX1_shareOut_132 : decode cX1_shareOut 132 = .ok (.invokevirtual 39, 3) := by decide +kernel
theorem dX1_shareOut_135 : decode cX1_shareOut 135 = .ok (.return_, 1) := by decide +kernel
theorem dX1_keepToLimits_0 : decode cX1_keepToLimits 0 = .ok (.iconst 0, 1) := by decide +kernel
theorem dX1_keepToLimits_1 : decode cX1_keepToLimits 1 = .ok (.istore_n 1, 1) := by decide +kernel
theorem dX1_keepToLimits_2 : decode cX1_keepToLimits 2 = .ok (.iload_n 1, 1) := by decide +kernel
theorem dX1_keepToLimits_3 : decode cX1_keepToLimits 3 = .ok (.bipush 8, 2) := by decide +kernel
theorem dX1_keepToLimits_5 : decode cX1_keepToLimits 5 = .ok (.if_icmp .ge 58, 3) := by decide +kernel
theorem dX1_keepToLimits_8 : decode cX1_keepToLimits 8 = .ok (.iload_n 1, 1) := by decide +kernel
theorem dX1_keepToLimits_9 : decode cX1_keepToLimits 9 = .ok (.aload_n 0, 1) := by decide +kernel
theorem dX1_keepToLimits_10 : decode cX1_keepToLimits 10 = .ok (.getfield 73, 3) := by decide +kernel
theorem dX1_keepToLimits_13 : decode cX1_keepToLimits 13 = .ok (.invokestatic 76, 3) := by decide +kernel
theorem dX1_keepToLimits_16 : decode cX1_keepToLimits 16 = .ok (.ifCond .eq 41, 3) := by decide +kernel
theorem dX1_keepToLimits_19 : decode cX1_keepToLimits 19 = .ok (.aload_n 0, 1) := by decide +kernel
theorem dX1_keepToLimits_20 : decode cX1_keepToLimits 20 = .ok (.getfield 26, 3) := by decide +kernel
theorem dX1_keepToLimits_23 : decode cX1_keepToLimits 23 = .ok (.iload_n 1, 1) := by decide +kernel
theorem dX1_keepToLimits_24 : decode cX1_keepToLimits 24 = .ok (.aload_n 0, 1) := by decide +kernel
theorem dX1_keepToLimits_25 : decode cX1_keepToLimits 25 = .ok (.getfield 20, 3) := by decide +kernel
theorem dX1_keepToLimits_28 : decode cX1_keepToLimits 28 = .ok (.iload_n 1, 1) := by decide +kernel
theorem dX1_keepToLimits_29 : decode cX1_keepToLimits 29 = .ok (.invokevirtual 96, 3) := by decide +kernel
theorem dX1_keepToLimits_32 : decode cX1_keepToLimits 32 = .ok (.aload_n 0, 1) := by decide +kernel
theorem dX1_keepToLimits_33 : decode cX1_keepToLimits 33 = .ok (.getfield 14, 3) := by decide +kernel
theorem dX1_keepToLimits_36 : decode cX1_keepToLimits 36 = .ok (.iload_n 1, 1) := by decide +kernel
theorem dX1_keepToLimits_37 : decode cX1_keepToLimits 37 = .ok (.invokevirtual 96, 3) := by decide +kernel
theorem dX1_keepToLimits_40 : decode cX1_keepToLimits 40 = .ok (.aload_n 0, 1) := by decide +kernel
theorem dX1_keepToLimits_41 : decode cX1_keepToLimits 41 = .ok (.getfield 26, 3) := by decide +kernel
theorem dX1_keepToLimits_44 : decode cX1_keepToLimits 44 = .ok (.iload_n 1, 1) := by decide +kernel
theorem dX1_keepToLimits_45 : decode cX1_keepToLimits 45 = .ok (.invokevirtual 96, 3) := by decide +kernel
theorem dX1_keepToLimits_48 : decode cX1_keepToLimits 48 = .ok (.invokestatic 99, 3) := by decide +kernel
theorem dX1_keepToLimits_51 : decode cX1_keepToLimits 51 = .ok (.invokestatic 104, 3) := by decide +kernel
theorem dX1_keepToLimits_54 : decode cX1_keepToLimits 54 = .ok (.invokevirtual 39, 3) := by decide +kernel
theorem dX1_keepToLimits_57 : decode cX1_keepToLimits 57 = .ok (.iinc 1 1, 3) := by decide +kernel
theorem dX1_keepToLimits_60 : decode cX1_keepToLimits 60 = .ok (.goto (-58), 3) := by decide +kernel
theorem dX1_keepToLimits_63 : decode cX1_keepToLimits 63 = .ok (.return_, 1) := by decide +kernel
theorem dX1_balance_0 : decode cX1_balance 0 = .ok (.iload_n 1, 1) := by decide +kernel
theorem dX1_balance_1 : decode cX1_balance 1 = .ok (.istore_n 2, 1) := by decide +kernel
theorem dX1_balance_2 : decode cX1_balance 2 = .ok (.iconst 0, 1) := by decide +kernel
theorem dX1_balance_3 : decode cX1_balance 3 = .ok (.istore_n 3, 1) := by decide +kernel
theorem dX1_balance_4 : decode cX1_balance 4 = .ok (.iload_n 3, 1) := by decide +kernel
theorem dX1_balance_5 : decode cX1_balance 5 = .ok (.bipush 8, 2) := by decide +kernel
theorem dX1_balance_7 : decode cX1_balance 7 = .ok (.if_icmp .ge 20, 3) := by decide +kernel
theorem dX1_balance_10 : decode cX1_balance 10 = .ok (.iload_n 2, 1) := by decide +kernel
theorem dX1_balance_11 : decode cX1_balance 11 = .ok (.aload_n 0, 1) := by decide +kernel
theorem dX1_balance_12 : decode cX1_balance 12 = .ok (.getfield 26, 3) := by decide +kernel
theorem dX1_balance_15 : decode cX1_balance 15 = .ok (.iload_n 3, 1) := by decide +kernel
theorem dX1_balance_16 : decode cX1_balance 16 = .ok (.invokevirtual 96, 3) := by decide +kernel
theorem dX1_balance_19 : decode cX1_balance 19 = .ok (.isub, 1) := by decide +kernel
theorem dX1_balance_20 : decode cX1_balance 20 = .ok (.istore_n 2, 1) := by decide +kernel
theorem dX1_balance_21 : decode cX1_balance 21 = .ok (.iinc 3 1, 3) := by decide +kernel
theorem dX1_balance_24 : decode cX1_balance 24 = .ok (.goto (-20), 3) := by decide +kernel
theorem dX1_balance_27 : decode cX1_balance 27 = .ok (.iconst 0, 1) := by decide +kernel
theorem dX1_balance_28 : decode cX1_balance 28 = .ok (.istore_n 3, 1) := by decide +kernel
theorem dX1_balance_29 : decode cX1_balance 29 = .ok (.iload_n 3, 1) := by decide +kernel
theorem dX1_balance_30 : decode cX1_balance 30 = .ok (.bipush 8, 2) := by decide +kernel
theorem dX1_balance_32 : decode cX1_balance 32 = .ok (.if_icmp .ge 87, 3) := by decide +kernel
theorem dX1_balance_35 : decode cX1_balance 35 = .ok (.iload_n 3, 1) := by decide +kernel
theorem dX1_balance_36 : decode cX1_balance 36 = .ok (.aload_n 0, 1) := by decide +kernel
theorem dX1_balance_37 : decode cX1_balance 37 = .ok (.getfield 73, 3) := by decide +kernel
theorem dX1_balance_40 : decode cX1_balance 40 = .ok (.invokestatic 76, 3) := by decide +kernel
theorem dX1_balance_43 : decode cX1_balance 43 = .ok (.ifCond .eq 70, 3) := by decide +kernel
theorem dX1_balance_46 : decode cX1_balance 46 = .ok (.aload_n 0, 1) := by decide +kernel
theorem dX1_balance_47 : decode cX1_balance 47 = .ok (.getfield 26, 3) := by decide +kernel
theorem dX1_balance_50 : decode cX1_balance 50 = .ok (.iload_n 3, 1) := by decide +kernel
theorem dX1_balance_51 : decode cX1_balance 51 = .ok (.invokevirtual 96, 3) := by decide +kernel
theorem dX1_balance_54 : decode cX1_balance 54 = .ok (.istore 4, 2) := by decide +kernel
theorem dX1_balance_56 : decode cX1_balance 56 = .ok (.iload_n 2, 1) := by decide +kernel
theorem dX1_balance_57 : decode cX1_balance 57 = .ok (.ifCond .le 21, 3) := by decide +kernel
theorem dX1_balance_60 : decode cX1_balance 60 = .ok (.iload_n 2, 1) := by decide +kernel
theorem dX1_balance_61 : decode cX1_balance 61 = .ok (.aload_n 0, 1) := by decide +kernel
theorem dX1_balance_62 : decode cX1_balance 62 = .ok (.getfield 14, 3) := by decide +kernel
theorem dX1_balance_65 : decode cX1_balance 65 = .ok (.iload_n 3, 1) := by decide +kernel
theorem dX1_balance_66 : decode cX1_balance 66 = .ok (.invokevirtual 96, 3) := by decide +kernel
theorem dX1_balance_69 : decode cX1_balance 69 = .ok (.iload 4, 2) := by decide +kernel
theorem dX1_balance_71 : decode cX1_balance 71 = .ok (.isub, 1) := by decide +kernel
theorem dX1_balance_72 : decode cX1_balance 72 = .ok (.invokestatic 99, 3) := by decide +kernel
theorem dX1_balance_75 : decode cX1_balance 75 = .ok (.goto 18, 3) := by decide +kernel
theorem dX1_balance_78 : decode cX1_balance 78 = .ok (.iload_n 2, 1) := by decide +kernel
theorem dX1_balance_79 : decode cX1_balance 79 = .ok (.aload_n 0, 1) := by decide +kernel
theorem dX1_balance_80 : decode cX1_balance 80 = .ok (.getfield 20, 3) := by decide +kernel
theorem dX1_balance_83 : decode cX1_balance 83 = .ok (.iload_n 3, 1) := by decide +kernel
theorem dX1_balance_84 : decode cX1_balance 84 = .ok (.invokevirtual 96, 3) := by decide +kernel
theorem dX1_balance_87 : decode cX1_balance 87 = .ok (.iload 4, 2) := by decide +kernel
theorem dX1_balance_89 : decode cX1_balance 89 = .ok (.isub, 1) := by decide +kernel
theorem dX1_balance_90 : decode cX1_balance 90 = .ok (.invokestatic 104, 3) := by decide +kernel
theorem dX1_balance_93 : decode cX1_balance 93 = .ok (.istore 5, 2) := by decide +kernel
theorem dX1_balance_95 : decode cX1_balance 95 = .ok (.aload_n 0, 1) := by decide +kernel
theorem dX1_balance_96 : decode cX1_balance 96 = .ok (.getfield 26, 3) := by decide +kernel
theorem dX1_balance_99 : decode cX1_balance 99 = .ok (.iload_n 3, 1) := by decide +kernel
theorem dX1_balance_100 : decode cX1_balance 100 = .ok (.iload 4, 2) := by decide +kernel
theorem dX1_balance_102 : decode cX1_balance 102 = .ok (.iload 5, 2) := by decide +kernel
theorem dX1_balance_104 : decode cX1_balance 104 = .ok (.iadd, 1) := by decide +kernel
theorem dX1_balance_105 : decode cX1_balance 105 = .ok (.invokevirtual 39, 3) := by decide +kernel
theorem dX1_balance_108 : decode cX1_balance 108 = .ok (.iload_n 2, 1) := by decide +kernel
theorem dX1_balance_109 : decode cX1_balance 109 = .ok (.iload 5, 2) := by decide +kernel
theorem dX1_balance_111 : decode cX1_balance 111 = .ok (.isub, 1) := by decide +kernel
theorem dX1_balance_112 : decode cX1_balance 112 = .ok (.istore_n 2, 1) := by decide +kernel
theorem dX1_balance_113 : decode cX1_balance 113 = .ok (.iinc 3 1, 3) := by decide +kernel
theorem dX1_balance_116 : decode cX1_balance 116 = .ok (.goto (-87), 3) := by decide +kernel
theorem dX1_balance_119 : decode cX1_balance 119 = .ok (.aload_n 0, 1) := by decide +kernel
theorem dX1_balance_120 : decode cX1_balance 120 = .ok (.iload_n 1, 1) := by decide +kernel
theorem dX1_balance_121 : decode cX1_balance 121 = .ok (.iload_n 2, 1) := by decide +kernel
theorem dX1_balance_122 : decode cX1_balance 122 = .ok (.isub, 1) := by decide +kernel
theorem dX1_balance_123 : decode cX1_balance 123 = .ok (.putfield 107, 3) := by decide +kernel
theorem dX1_balance_126 : decode cX1_balance 126 = .ok (.return_, 1) := by decide +kernel
theorem dX1_stateFor_0 : decode cX1_stateFor 0 = .ok (.aload_n 0, 1) := by decide +kernel
theorem dX1_stateFor_1 : decode cX1_stateFor 1 = .ok (.getfield 107, 3) := by decide +kernel
theorem dX1_stateFor_4 : decode cX1_stateFor 4 = .ok (.iload_n 1, 1) := by decide +kernel
theorem dX1_stateFor_5 : decode cX1_stateFor 5 = .ok (.if_icmp .ne 5, 3) := by decide +kernel
theorem dX1_stateFor_8 : decode cX1_stateFor 8 = .ok (.iconst 0, 1) := by decide +kernel
theorem dX1_stateFor_9 : decode cX1_stateFor 9 = .ok (.ireturn, 1) := by decide +kernel
theorem dX1_stateFor_10 : decode cX1_stateFor 10 = .ok (.aload_n 0, 1) := by decide +kernel
theorem dX1_stateFor_11 : decode cX1_stateFor 11 = .ok (.getfield 73, 3) := by decide +kernel
theorem dX1_stateFor_14 : decode cX1_stateFor 14 = .ok (.ifCond .ne 5, 3) := by decide +kernel
theorem dX1_stateFor_17 : decode cX1_stateFor 17 = .ok (.iconst 1, 1) := by decide +kernel
theorem dX1_stateFor_18 : decode cX1_stateFor 18 = .ok (.ireturn, 1) := by decide +kernel
theorem dX1_stateFor_19 : decode cX1_stateFor 19 = .ok (.aload_n 0, 1) := by decide +kernel
theorem dX1_stateFor_20 : decode cX1_stateFor 20 = .ok (.getfield 107, 3) := by decide +kernel
theorem dX1_stateFor_23 : decode cX1_stateFor 23 = .ok (.iload_n 1, 1) := by decide +kernel
theorem dX1_stateFor_24 : decode cX1_stateFor 24 = .ok (.if_icmp .ge 7, 3) := by decide +kernel
theorem dX1_stateFor_27 : decode cX1_stateFor 27 = .ok (.iconst 2, 1) := by decide +kernel
theorem dX1_stateFor_28 : decode cX1_stateFor 28 = .ok (.goto 4, 3) := by decide +kernel
theorem dX1_stateFor_31 : decode cX1_stateFor 31 = .ok (.iconst 3, 1) := by decide +kernel
theorem dX1_stateFor_32 : decode cX1_stateFor 32 = .ok (.ireturn, 1) := by decide +kernel
theorem dX2_init_0 : decode cX2_init 0 = .ok (.aload_n 0, 1) := by decide +kernel
theorem dX2_init_1 : decode cX2_init 1 = .ok (.invokespecial 3, 3) := by decide +kernel
theorem dX2_init_4 : decode cX2_init 4 = .ok (.aload_n 0, 1) := by decide +kernel
theorem dX2_init_5 : decode cX2_init 5 = .ok (.iconst 4, 1) := by decide +kernel
theorem dX2_init_6 : decode cX2_init 6 = .ok (.anewarray 9, 3) := by decide +kernel
theorem dX2_init_9 : decode cX2_init 9 = .ok (.putfield 11, 3) := by decide +kernel
theorem dX2_init_12 : decode cX2_init 12 = .ok (.iconst 0, 1) := by decide +kernel
theorem dX2_init_13 : decode cX2_init 13 = .ok (.istore_n 1, 1) := by decide +kernel
theorem dX2_init_14 : decode cX2_init 14 = .ok (.iload_n 1, 1) := by decide +kernel
theorem dX2_init_15 : decode cX2_init 15 = .ok (.aload_n 0, 1) := by decide +kernel
theorem dX2_init_16 : decode cX2_init 16 = .ok (.getfield 11, 3) := by decide +kernel
theorem dX2_init_19 : decode cX2_init 19 = .ok (.arraylength, 1) := by decide +kernel
theorem dX2_init_20 : decode cX2_init 20 = .ok (.if_icmp .ge 22, 3) := by decide +kernel
theorem dX2_init_23 : decode cX2_init 23 = .ok (.aload_n 0, 1) := by decide +kernel
theorem dX2_init_24 : decode cX2_init 24 = .ok (.getfield 11, 3) := by decide +kernel
theorem dX2_init_27 : decode cX2_init 27 = .ok (.iload_n 1, 1) := by decide +kernel
theorem dX2_init_28 : decode cX2_init 28 = .ok (.new 9, 3) := by decide +kernel
theorem dX2_init_31 : decode cX2_init 31 = .ok (.dup, 1) := by decide +kernel
theorem dX2_init_32 : decode cX2_init 32 = .ok (.invokespecial 17, 3) := by decide +kernel
theorem dX2_init_35 : decode cX2_init 35 = .ok (.aastore, 1) := by decide +kernel
theorem dX2_init_36 : decode cX2_init 36 = .ok (.iinc 1 1, 3) := by decide +kernel
theorem dX2_init_39 : decode cX2_init 39 = .ok (.goto (-25), 3) := by decide +kernel
theorem dX2_init_42 : decode cX2_init 42 = .ok (.return_, 1) := by decide +kernel
theorem dX2_save_0 : decode cX2_save 0 = .ok (.aload_n 0, 1) := by decide +kernel
theorem dX2_save_1 : decode cX2_save 1 = .ok (.aload_n 0, 1) := by decide +kernel
theorem dX2_save_2 : decode cX2_save 2 = .ok (.getfield 18, 3) := by decide +kernel
theorem dX2_save_5 : decode cX2_save 5 = .ok (.iconst 1, 1) := by decide +kernel
theorem dX2_save_6 : decode cX2_save 6 = .ok (.iadd, 1) := by decide +kernel
theorem dX2_save_7 : decode cX2_save 7 = .ok (.iconst 4, 1) := by decide +kernel
theorem dX2_save_8 : decode cX2_save 8 = .ok (.irem, 1) := by decide +kernel
theorem dX2_save_9 : decode cX2_save 9 = .ok (.putfield 18, 3) := by decide +kernel
theorem dX2_save_12 : decode cX2_save 12 = .ok (.aload_n 0, 1) := by decide +kernel
theorem dX2_save_13 : decode cX2_save 13 = .ok (.invokevirtual 22, 3) := by decide +kernel
theorem dX2_save_16 : decode cX2_save 16 = .ok (.astore_n 2, 1) := by decide +kernel
theorem dX2_save_17 : decode cX2_save 17 = .ok (.aload_n 2, 1) := by decide +kernel
theorem dX2_save_18 : decode cX2_save 18 = .ok (.ifnull 8, 3) := by decide +kernel
theorem dX2_save_21 : decode cX2_save 21 = .ok (.aload_n 2, 1) := by decide +kernel
theorem dX2_save_22 : decode cX2_save 22 = .ok (.aload_n 1, 1) := by decide +kernel
theorem dX2_save_23 : decode cX2_save 23 = .ok (.invokevirtual 26, 3) := by decide +kernel
theorem dX2_save_26 : decode cX2_save 26 = .ok (.aload_n 0, 1) := by decide +kernel
theorem dX2_save_27 : decode cX2_save 27 = .ok (.aload_n 0, 1) := by decide +kernel
theorem dX2_save_28 : decode cX2_save 28 = .ok (.getfield 30, 3) := by decide +kernel
theorem dX2_save_31 : decode cX2_save 31 = .ok (.iconst 1, 1) := by decide +kernel
theorem dX2_save_32 : decode cX2_save 32 = .ok (.iadd, 1) := by decide +kernel
theorem dX2_save_33 : decode cX2_save 33 = .ok (.iconst 4, 1) := by decide +kernel
theorem dX2_save_34 : decode cX2_save 34 = .ok (.invokestatic 33, 3) := by decide +kernel
theorem dX2_save_37 : decode cX2_save 37 = .ok (.putfield 30, 3) := by decide +kernel
theorem dX2_save_40 : decode cX2_save 40 = .ok (.return_, 1) := by decide +kernel
theorem dX2_restore_0 : decode cX2_restore 0 = .ok (.aload_n 1, 1) := by decide +kernel
theorem dX2_restore_1 : decode cX2_restore 1 = .ok (.ifnull 10, 3) := by decide +kernel
theorem dX2_restore_4 : decode cX2_restore 4 = .ok (.aload_n 0, 1) := by decide +kernel
theorem dX2_restore_5 : decode cX2_restore 5 = .ok (.getfield 30, 3) := by decide +kernel
theorem dX2_restore_8 : decode cX2_restore 8 = .ok (.ifCond .gt 4, 3) := by decide +kernel
theorem dX2_restore_11 : decode cX2_restore 11 = .ok (.return_, 1) := by decide +kernel
theorem dX2_restore_12 : decode cX2_restore 12 = .ok (.aload_n 1, 1) := by decide +kernel
theorem dX2_restore_13 : decode cX2_restore 13 = .ok (.aload_n 0, 1) := by decide +kernel
theorem dX2_restore_14 : decode cX2_restore 14 = .ok (.invokevirtual 22, 3) := by decide +kernel
theorem dX2_restore_17 : decode cX2_restore 17 = .ok (.invokevirtual 26, 3) := by decide +kernel
theorem dX2_restore_20 : decode cX2_restore 20 = .ok (.aload_n 0, 1) := by decide +kernel
theorem dX2_restore_21 : decode cX2_restore 21 = .ok (.aload_n 0, 1) := by decide +kernel
theorem dX2_restore_22 : decode cX2_restore 22 = .ok (.getfield 18, 3) := by decide +kernel
theorem dX2_restore_25 : decode cX2_restore 25 = .ok (.iconst 4, 1) := by decide +kernel
theorem dX2_restore_26 : decode cX2_restore 26 = .ok (.iadd, 1) := by decide +kernel
theorem dX2_restore_27 : decode cX2_restore 27 = .ok (.iconst 1, 1) := by decide +kernel
theorem dX2_restore_28 : decode cX2_restore 28 = .ok (.isub, 1) := by decide +kernel
theorem dX2_restore_29 : decode cX2_restore 29 = .ok (.iconst 4, 1) := by decide +kernel
theorem dX2_restore_30 : decode cX2_restore 30 = .ok (.irem, 1) := by decide +kernel
theorem dX2_restore_31 : decode cX2_restore 31 = .ok (.putfield 18, 3) := by decide +kernel
theorem dX2_restore_34 : decode cX2_restore 34 = .ok (.aload_n 0, 1) := by decide +kernel
theorem dX2_restore_35 : decode cX2_restore 35 = .ok (.dup, 1) := by decide +kernel
theorem dX2_restore_36 : decode cX2_restore 36 = .ok (.getfield 30, 3) := by decide +kernel
theorem dX2_restore_39 : decode cX2_restore 39 = .ok (.iconst 1, 1) := by decide +kernel
theorem dX2_restore_40 : decode cX2_restore 40 = .ok (.isub, 1) := by decide +kernel
theorem dX2_restore_41 : decode cX2_restore 41 = .ok (.putfield 30, 3) := by decide +kernel
theorem dX2_restore_44 : decode cX2_restore 44 = .ok (.return_, 1) := by decide +kernel
theorem dX2_latestSlot_0 : decode cX2_latestSlot 0 = .ok (.aload_n 0, 1) := by decide +kernel
theorem dX2_latestSlot_1 : decode cX2_latestSlot 1 = .ok (.getfield 18, 3) := by decide +kernel
theorem dX2_latestSlot_4 : decode cX2_latestSlot 4 = .ok (.ifCond .lt 27, 3) := by decide +kernel
theorem dX2_latestSlot_7 : decode cX2_latestSlot 7 = .ok (.aload_n 0, 1) := by decide +kernel
theorem dX2_latestSlot_8 : decode cX2_latestSlot 8 = .ok (.getfield 18, 3) := by decide +kernel
theorem dX2_latestSlot_11 : decode cX2_latestSlot 11 = .ok (.aload_n 0, 1) := by decide +kernel
theorem dX2_latestSlot_12 : decode cX2_latestSlot 12 = .ok (.getfield 11, 3) := by decide +kernel
theorem dX2_latestSlot_15 : decode cX2_latestSlot 15 = .ok (.arraylength, 1) := by decide +kernel
theorem dX2_latestSlot_16 : decode cX2_latestSlot 16 = .ok (.if_icmp .ge 15, 3) := by decide +kernel
theorem dX2_latestSlot_19 : decode cX2_latestSlot 19 = .ok (.aload_n 0, 1) := by decide +kernel
theorem dX2_latestSlot_20 : decode cX2_latestSlot 20 = .ok (.getfield 11, 3) := by decide +kernel
theorem dX2_latestSlot_23 : decode cX2_latestSlot 23 = .ok (.aload_n 0, 1) := by decide +kernel
theorem dX2_latestSlot_24 : decode cX2_latestSlot 24 = .ok (.getfield 18, 3) := by decide +kernel
theorem dX2_latestSlot_27 : decode cX2_latestSlot 27 = .ok (.aaload, 1) := by decide +kernel
theorem dX2_latestSlot_28 : decode cX2_latestSlot 28 = .ok (.goto 4, 3) := by decide +kernel
theorem dX2_latestSlot_31 : decode cX2_latestSlot 31 = .ok (.aconst_null, 1) := by decide +kernel
theorem dX2_latestSlot_32 : decode cX2_latestSlot 32 = .ok (.areturn, 1) := by decide +kernel
theorem dX3_init_0 : decode cX3_init 0 = .ok (.aload_n 0, 1) := by decide +kernel
theorem dX3_init_1 : decode cX3_init 1 = .ok (.invokespecial 1, 3) := by decide +kernel
theorem dX3_init_4 : decode cX3_init 4 = .ok (.aload_n 0, 1) := by decide +kernel
theorem dX3_init_5 : decode cX3_init 5 = .ok (.iload_n 1, 1) := by decide +kernel
theorem dX3_init_6 : decode cX3_init 6 = .ok (.ifCond .ge 7, 3) := by decide +kernel
theorem dX3_init_9 : decode cX3_init 9 = .ok (.iconst 0, 1) := by decide +kernel
theorem dX3_init_10 : decode cX3_init 10 = .ok (.goto 4, 3) := by decide +kernel
theorem dX3_init_13 : decode cX3_init 13 = .ok (.iload_n 1, 1) := by decide +kernel
theorem dX3_init_14 : decode cX3_init 14 = .ok (.newarray .int, 2) := by decide +kernel
theorem dX3_init_16 : decode cX3_init 16 = .ok (.putfield 7, 3) := by decide +kernel
theorem dX3_init_19 : decode cX3_init 19 = .ok (.return_, 1) := by decide +kernel
theorem dX3_get_0 : decode cX3_get 0 = .ok (.iload_n 1, 1) := by decide +kernel
theorem dX3_get_1 : decode cX3_get 1 = .ok (.ifCond .lt 21, 3) := by decide +kernel
theorem dX3_get_4 : decode cX3_get 4 = .ok (.iload_n 1, 1) := by decide +kernel
theorem dX3_get_5 : decode cX3_get 5 = .ok (.aload_n 0, 1) := by decide +kernel
theorem dX3_get_6 : decode cX3_get 6 = .ok (.getfield 7, 3) := by decide +kernel
theorem dX3_get_9 : decode cX3_get 9 = .ok (.arraylength, 1) := by decide +kernel
theorem dX3_get_10 : decode cX3_get 10 = .ok (.if_icmp .ge 12, 3) := by decide +kernel
theorem dX3_get_13 : decode cX3_get 13 = .ok (.aload_n 0, 1) := by decide +kernel
theorem dX3_get_14 : decode cX3_get 14 = .ok (.getfield 7, 3) := by decide +kernel
theorem dX3_get_17 : decode cX3_get 17 = .ok (.iload_n 1, 1) := by decide +kernel
theorem dX3_get_18 : decode cX3_get 18 = .ok (.iaload, 1) := by decide +kernel
theorem dX3_get_19 : decode cX3_get 19 = .ok (.goto 4, 3) := by decide +kernel
theorem dX3_get_22 : decode cX3_get 22 = .ok (.iconst 0, 1) := by decide +kernel
theorem dX3_get_23 : decode cX3_get 23 = .ok (.ireturn, 1) := by decide +kernel
theorem dX3_set_0 : decode cX3_set 0 = .ok (.iload_n 1, 1) := by decide +kernel
theorem dX3_set_1 : decode cX3_set 1 = .ok (.ifCond .lt 19, 3) := by decide +kernel
theorem dX3_set_4 : decode cX3_set 4 = .ok (.iload_n 1, 1) := by decide +kernel
theorem dX3_set_5 : decode cX3_set 5 = .ok (.aload_n 0, 1) := by decide +kernel
theorem dX3_set_6 : decode cX3_set 6 = .ok (.getfield 7, 3) := by decide +kernel
theorem dX3_set_9 : decode cX3_set 9 = .ok (.arraylength, 1) := by decide +kernel
theorem dX3_set_10 : decode cX3_set 10 = .ok (.if_icmp .ge 10, 3) := by decide +kernel
theorem dX3_set_13 : decode cX3_set 13 = .ok (.aload_n 0, 1) := by decide +kernel
theorem dX3_set_14 : decode cX3_set 14 = .ok (.getfield 7, 3) := by decide +kernel
theorem dX3_set_17 : decode cX3_set 17 = .ok (.iload_n 1, 1) := by decide +kernel
theorem dX3_set_18 : decode cX3_set 18 = .ok (.iload_n 2, 1) := by decide +kernel
theorem dX3_set_19 : decode cX3_set 19 = .ok (.iastore, 1) := by decide +kernel
theorem dX3_set_20 : decode cX3_set 20 = .ok (.return_, 1) := by decide +kernel
theorem dX3_clear_0 : decode cX3_clear 0 = .ok (.iconst 0, 1) := by decide +kernel
theorem dX3_clear_1 : decode cX3_clear 1 = .ok (.istore_n 1, 1) := by decide +kernel
theorem dX3_clear_2 : decode cX3_clear 2 = .ok (.iload_n 1, 1) := by decide +kernel
theorem dX3_clear_3 : decode cX3_clear 3 = .ok (.aload_n 0, 1) := by decide +kernel
theorem dX3_clear_4 : decode cX3_clear 4 = .ok (.getfield 7, 3) := by decide +kernel
theorem dX3_clear_7 : decode cX3_clear 7 = .ok (.arraylength, 1) := by decide +kernel
theorem dX3_clear_8 : decode cX3_clear 8 = .ok (.if_icmp .ge 16, 3) := by decide +kernel
theorem dX3_clear_11 : decode cX3_clear 11 = .ok (.aload_n 0, 1) := by decide +kernel
theorem dX3_clear_12 : decode cX3_clear 12 = .ok (.getfield 7, 3) := by decide +kernel
theorem dX3_clear_15 : decode cX3_clear 15 = .ok (.iload_n 1, 1) := by decide +kernel
theorem dX3_clear_16 : decode cX3_clear 16 = .ok (.iconst 0, 1) := by decide +kernel
theorem dX3_clear_17 : decode cX3_clear 17 = .ok (.iastore, 1) := by decide +kernel
theorem dX3_clear_18 : decode cX3_clear 18 = .ok (.iinc 1 1, 3) := by decide +kernel
theorem dX3_clear_21 : decode cX3_clear 21 = .ok (.goto (-19), 3) := by decide +kernel
theorem dX3_clear_24 : decode cX3_clear 24 = .ok (.return_, 1) := by decide +kernel
theorem dX3_copyFrom_0 : decode cX3_copyFrom 0 = .ok (.aload_n 1, 1) := by decide +kernel
theorem dX3_copyFrom_1 : decode cX3_copyFrom 1 = .ok (.ifnull 41, 3) := by decide +kernel
theorem dX3_copyFrom_4 : decode cX3_copyFrom 4 = .ok (.iconst 0, 1) := by decide +kernel
theorem dX3_copyFrom_5 : decode cX3_copyFrom 5 = .ok (.istore_n 2, 1) := by decide +kernel
theorem dX3_copyFrom_6 : decode cX3_copyFrom 6 = .ok (.iload_n 2, 1) := by decide +kernel
theorem dX3_copyFrom_7 : decode cX3_copyFrom 7 = .ok (.aload_n 0, 1) := by decide +kernel
theorem dX3_copyFrom_8 : decode cX3_copyFrom 8 = .ok (.getfield 7, 3) := by decide +kernel
theorem dX3_copyFrom_11 : decode cX3_copyFrom 11 = .ok (.arraylength, 1) := by decide +kernel
theorem dX3_copyFrom_12 : decode cX3_copyFrom 12 = .ok (.if_icmp .ge 30, 3) := by decide +kernel
theorem dX3_copyFrom_15 : decode cX3_copyFrom 15 = .ok (.iload_n 2, 1) := by decide +kernel
theorem dX3_copyFrom_16 : decode cX3_copyFrom 16 = .ok (.aload_n 1, 1) := by decide +kernel
theorem dX3_copyFrom_17 : decode cX3_copyFrom 17 = .ok (.getfield 7, 3) := by decide +kernel
theorem dX3_copyFrom_20 : decode cX3_copyFrom 20 = .ok (.arraylength, 1) := by decide +kernel
theorem dX3_copyFrom_21 : decode cX3_copyFrom 21 = .ok (.if_icmp .ge 21, 3) := by decide +kernel
theorem dX3_copyFrom_24 : decode cX3_copyFrom 24 = .ok (.aload_n 0, 1) := by decide +kernel
theorem dX3_copyFrom_25 : decode cX3_copyFrom 25 = .ok (.getfield 7, 3) := by decide +kernel
theorem dX3_copyFrom_28 : decode cX3_copyFrom 28 = .ok (.iload_n 2, 1) := by decide +kernel
theorem dX3_copyFrom_29 : decode cX3_copyFrom 29 = .ok (.aload_n 1, 1) := by decide +kernel
theorem dX3_copyFrom_30 : decode cX3_copyFrom 30 = .ok (.getfield 7, 3) := by decide +kernel
theorem dX3_copyFrom_33 : decode cX3_copyFrom 33 = .ok (.iload_n 2, 1) := by decide +kernel
theorem dX3_copyFrom_34 : decode cX3_copyFrom 34 = .ok (.iaload, 1) := by decide +kernel
theorem dX3_copyFrom_35 : decode cX3_copyFrom 35 = .ok (.iastore, 1) := by decide +kernel
theorem dX3_copyFrom_36 : decode cX3_copyFrom 36 = .ok (.iinc 2 1, 3) := by decide +kernel
theorem dX3_copyFrom_39 : decode cX3_copyFrom 39 = .ok (.goto (-33), 3) := by decide +kernel
theorem dX3_copyFrom_42 : decode cX3_copyFrom 42 = .ok (.return_, 1) := by decide +kernel
theorem dX4_init_0 : decode cX4_init 0 = .ok (.aload_n 0, 1) := by decide +kernel
theorem dX4_init_1 : decode cX4_init 1 = .ok (.invokespecial 3, 3) := by decide +kernel
theorem dX4_init_4 : decode cX4_init 4 = .ok (.aload_n 0, 1) := by decide +kernel
theorem dX4_init_5 : decode cX4_init 5 = .ok (.bipush 12, 2) := by decide +kernel
theorem dX4_init_7 : decode cX4_init 7 = .ok (.putfield 9, 3) := by decide +kernel
theorem dX4_init_10 : decode cX4_init 10 = .ok (.aload_n 0, 1) := by decide +kernel
theorem dX4_init_11 : decode cX4_init 11 = .ok (.bipush 8, 2) := by decide +kernel
theorem dX4_init_13 : decode cX4_init 13 = .ok (.putfield 15, 3) := by decide +kernel
theorem dX4_init_16 : decode cX4_init 16 = .ok (.aload_n 0, 1) := by decide +kernel
theorem dX4_init_17 : decode cX4_init 17 = .ok (.iconst 1, 1) := by decide +kernel
theorem dX4_init_18 : decode cX4_init 18 = .ok (.putfield 18, 3) := by decide +kernel
theorem dX4_init_21 : decode cX4_init 21 = .ok (.aload_n 0, 1) := by decide +kernel
theorem dX4_init_22 : decode cX4_init 22 = .ok (.new 22, 3) := by decide +kernel
theorem dX4_init_25 : decode cX4_init 25 = .ok (.dup, 1) := by decide +kernel
theorem dX4_init_26 : decode cX4_init 26 = .ok (.sipush 384, 3) := by decide +kernel
theorem dX4_init_29 : decode cX4_init 29 = .ok (.invokespecial 24, 3) := by decide +kernel
theorem dX4_init_32 : decode cX4_init 32 = .ok (.putfield 27, 3) := by decide +kernel
theorem dX4_init_35 : decode cX4_init 35 = .ok (.aload_n 0, 1) := by decide +kernel
theorem dX4_init_36 : decode cX4_init 36 = .ok (.new 22, 3) := by decide +kernel
theorem dX4_init_39 : decode cX4_init 39 = .ok (.dup, 1) := by decide +kernel
theorem dX4_init_40 : decode cX4_init 40 = .ok (.bipush 8, 2) := by decide +kernel
theorem dX4_init_42 : decode cX4_init 42 = .ok (.invokespecial 24, 3) := by decide +kernel
theorem dX4_init_45 : decode cX4_init 45 = .ok (.putfield 31, 3) := by decide +kernel
theorem dX4_init_48 : decode cX4_init 48 = .ok (.aload_n 0, 1) := by decide +kernel
theorem dX4_init_49 : decode cX4_init 49 = .ok (.new 22, 3) := by decide +kernel
theorem dX4_init_52 : decode cX4_init 52 = .ok (.dup, 1) := by decide +kernel
theorem dX4_init_53 : decode cX4_init 53 = .ok (.bipush 8, 2) := by decide +kernel
theorem dX4_init_55 : decode cX4_init 55 = .ok (.invokespecial 24, 3) := by decide +kernel
theorem dX4_init_58 : decode cX4_init 58 = .ok (.putfield 34, 3) := by decide +kernel
theorem dX4_init_61 : decode cX4_init 61 = .ok (.aload_n 0, 1) := by decide +kernel
theorem dX4_init_62 : decode cX4_init 62 = .ok (.new 22, 3) := by decide +kernel
theorem dX4_init_65 : decode cX4_init 65 = .ok (.dup, 1) := by decide +kernel
theorem dX4_init_66 : decode cX4_init 66 = .ok (.bipush 8, 2) := by decide +kernel
theorem dX4_init_68 : decode cX4_init 68 = .ok (.invokespecial 24, 3) := by decide +kernel
theorem dX4_init_71 : decode cX4_init 71 = .ok (.putfield 37, 3) := by decide +kernel
theorem dX4_init_74 : decode cX4_init 74 = .ok (.aload_n 0, 1) := by decide +kernel
theorem dX4_init_75 : decode cX4_init 75 = .ok (.new 22, 3) := by decide +kernel
theorem dX4_init_78 : decode cX4_init 78 = .ok (.dup, 1) := by decide +kernel
theorem dX4_init_79 : decode cX4_init 79 = .ok (.bipush 8, 2) := by decide +kernel
theorem dX4_init_81 : decode cX4_init 81 = .ok (.invokespecial 24, 3) := by decide +kernel
theorem dX4_init_84 : decode cX4_init 84 = .ok (.putfield 40, 3) := by decide +kernel
theorem dX4_init_87 : decode cX4_init 87 = .ok (.aload_n 0, 1) := by decide +kernel
theorem dX4_init_88 : decode cX4_init 88 = .ok (.new 22, 3) := by decide +kernel
theorem dX4_init_91 : decode cX4_init 91 = .ok (.dup, 1) := by decide +kernel
theorem dX4_init_92 : decode cX4_init 92 = .ok (.bipush 32, 2) := by decide +kernel
theorem dX4_init_94 : decode cX4_init 94 = .ok (.invokespecial 24, 3) := by decide +kernel
theorem dX4_init_97 : decode cX4_init 97 = .ok (.putfield 43, 3) := by decide +kernel
theorem dX4_init_100 : decode cX4_init 100 = .ok (.aload_n 0, 1) := by decide +kernel
theorem dX4_init_101 : decode cX4_init 101 = .ok (.new 22, 3) := by decide +kernel
theorem dX4_init_104 : decode cX4_init 104 = .ok (.dup, 1) := by decide +kernel
theorem dX4_init_105 : decode cX4_init 105 = .ok (.bipush 32, 2) := by decide +kernel
theorem dX4_init_107 : decode cX4_init 107 = .ok (.invokespecial 24, 3) := by decide +kernel
theorem dX4_init_110 : decode cX4_init 110 = .ok (.putfield 46, 3) := by decide +kernel
theorem dX4_init_113 : decode cX4_init 113 = .ok (.return_, 1) := by decide +kernel
theorem dX4_copyFrom_0 : decode cX4_copyFrom 0 = .ok (.aload_n 1, 1) := by decide +kernel
theorem dX4_copyFrom_1 : decode cX4_copyFrom 1 = .ok (.ifnonnull 4, 3) := by decide +kernel
theorem dX4_copyFrom_4 : decode cX4_copyFrom 4 = .ok (.return_, 1) := by decide +kernel
theorem dX4_copyFrom_5 : decode cX4_copyFrom 5 = .ok (.aload_n 0, 1) := by decide +kernel
theorem dX4_copyFrom_6 : decode cX4_copyFrom 6 = .ok (.aload_n 1, 1) := by decide +kernel
theorem dX4_copyFrom_7 : decode cX4_copyFrom 7 = .ok (.getfield 9, 3) := by decide +kernel
theorem dX4_copyFrom_10 : decode cX4_copyFrom 10 = .ok (.putfield 9, 3) := by decide +kernel
theorem dX4_copyFrom_13 : decode cX4_copyFrom 13 = .ok (.aload_n 0, 1) := by decide +kernel
theorem dX4_copyFrom_14 : decode cX4_copyFrom 14 = .ok (.aload_n 1, 1) := by decide +kernel
theorem dX4_copyFrom_15 : decode cX4_copyFrom 15 = .ok (.getfield 15, 3) := by decide +kernel
theorem dX4_copyFrom_18 : decode cX4_copyFrom 18 = .ok (.putfield 15, 3) := by decide +kernel
theorem dX4_copyFrom_21 : decode cX4_copyFrom 21 = .ok (.aload_n 0, 1) := by decide +kernel
theorem dX4_copyFrom_22 : decode cX4_copyFrom 22 = .ok (.aload_n 1, 1) := by decide +kernel
theorem dX4_copyFrom_23 : decode cX4_copyFrom 23 = .ok (.getfield 49, 3) := by decide +kernel
theorem dX4_copyFrom_26 : decode cX4_copyFrom 26 = .ok (.putfield 49, 3) := by decide +kernel
theorem dX4_copyFrom_29 : decode cX4_copyFrom 29 = .ok (.aload_n 0, 1) := by decide +kernel
theorem dX4_copyFrom_30 : decode cX4_copyFrom 30 = .ok (.aload_n 1, 1) := by decide +kernel
theorem dX4_copyFrom_31 : decode cX4_copyFrom 31 = .ok (.getfield 52, 3) := by decide +kernel
theorem dX4_copyFrom_34 : decode cX4_copyFrom 34 = .ok (.putfield 52, 3) := by decide +kernel
theorem dX4_copyFrom_37 : decode cX4_copyFrom 37 = .ok (.aload_n 0, 1) := by decide +kernel
theorem dX4_copyFrom_38 : decode cX4_copyFrom 38 = .ok (.aload_n 1, 1) := by decide +kernel
theorem dX4_copyFrom_39 : decode cX4_copyFrom 39 = .ok (.getfield 55, 3) := by decide +kernel
theorem dX4_copyFrom_42 : decode cX4_copyFrom 42 = .ok (.putfield 55, 3) := by decide +kernel
theorem dX4_copyFrom_45 : decode cX4_copyFrom 45 = .ok (.aload_n 0, 1) := by decide +kernel
theorem dX4_copyFrom_46 : decode cX4_copyFrom 46 = .ok (.aload_n 1, 1) := by decide +kernel
theorem dX4_copyFrom_47 : decode cX4_copyFrom 47 = .ok (.getfield 58, 3) := by decide +kernel
theorem dX4_copyFrom_50 : decode cX4_copyFrom 50 = .ok (.putfield 58, 3) := by decide +kernel
theorem dX4_copyFrom_53 : decode cX4_copyFrom 53 = .ok (.aload_n 0, 1) := by decide +kernel
theorem dX4_copyFrom_54 : decode cX4_copyFrom 54 = .ok (.getfield 27, 3) := by decide +kernel
theorem dX4_copyFrom_57 : decode cX4_copyFrom 57 = .ok (.aload_n 1, 1) := by decide +kernel
theorem dX4_copyFrom_58 : decode cX4_copyFrom 58 = .ok (.getfield 27, 3) := by decide +kernel
theorem dX4_copyFrom_61 : decode cX4_copyFrom 61 = .ok (.invokevirtual 61, 3) := by decide +kernel
theorem dX4_copyFrom_64 : decode cX4_copyFrom 64 = .ok (.aload_n 0, 1) := by decide +kernel
theorem dX4_copyFrom_65 : decode cX4_copyFrom 65 = .ok (.getfield 31, 3) := by decide +kernel
theorem dX4_copyFrom_68 : decode cX4_copyFrom 68 = .ok (.aload_n 1, 1) := by decide +kernel
theorem dX4_copyFrom_69 : decode cX4_copyFrom 69 = .ok (.getfield 31, 3) := by decide +kernel
theorem dX4_copyFrom_72 : decode cX4_copyFrom 72 = .ok (.invokevirtual 61, 3) := by decide +kernel
theorem dX4_copyFrom_75 : decode cX4_copyFrom 75 = .ok (.aload_n 0, 1) := by decide +kernel
theorem dX4_copyFrom_76 : decode cX4_copyFrom 76 = .ok (.getfield 34, 3) := by decide +kernel
theorem dX4_copyFrom_79 : decode cX4_copyFrom 79 = .ok (.aload_n 1, 1) := by decide +kernel
theorem dX4_copyFrom_80 : decode cX4_copyFrom 80 = .ok (.getfield 34, 3) := by decide +kernel
theorem dX4_copyFrom_83 : decode cX4_copyFrom 83 = .ok (.invokevirtual 61, 3) := by decide +kernel
theorem dX4_copyFrom_86 : decode cX4_copyFrom 86 = .ok (.aload_n 0, 1) := by decide +kernel
theorem dX4_copyFrom_87 : decode cX4_copyFrom 87 = .ok (.getfield 37, 3) := by decide +kernel
theorem dX4_copyFrom_90 : decode cX4_copyFrom 90 = .ok (.aload_n 1, 1) := by decide +kernel
theorem dX4_copyFrom_91 : decode cX4_copyFrom 91 = .ok (.getfield 37, 3) := by decide +kernel
theorem dX4_copyFrom_94 : decode cX4_copyFrom 94 = .ok (.invokevirtual 61, 3) := by decide +kernel
theorem dX4_copyFrom_97 : decode cX4_copyFrom 97 = .ok (.aload_n 0, 1) := by decide +kernel
theorem dX4_copyFrom_98 : decode cX4_copyFrom 98 = .ok (.getfield 40, 3) := by decide +kernel
theorem dX4_copyFrom_101 : decode cX4_copyFrom 101 = .ok (.aload_n 1, 1) := by decide +kernel
theorem dX4_copyFrom_102 : decode cX4_copyFrom 102 = .ok (.getfield 40, 3) := by decide +kernel
theorem dX4_copyFrom_105 : decode cX4_copyFrom 105 = .ok (.invokevirtual 61, 3) := by decide +kernel
theorem dX4_copyFrom_108 : decode cX4_copyFrom 108 = .ok (.aload_n 0, 1) := by decide +kernel
theorem dX4_copyFrom_109 : decode cX4_copyFrom 109 = .ok (.getfield 43, 3) := by decide +kernel
theorem dX4_copyFrom_112 : decode cX4_copyFrom 112 = .ok (.aload_n 1, 1) := by decide +kernel
theorem dX4_copyFrom_113 : decode cX4_copyFrom 113 = .ok (.getfield 43, 3) := by decide +kernel
theorem dX4_copyFrom_116 : decode cX4_copyFrom 116 = .ok (.invokevirtual 61, 3) := by decide +kernel
theorem dX4_copyFrom_119 : decode cX4_copyFrom 119 = .ok (.aload_n 0, 1) := by decide +kernel
theorem dX4_copyFrom_120 : decode cX4_copyFrom 120 = .ok (.getfield 46, 3) := by decide +kernel
theorem dX4_copyFrom_123 : decode cX4_copyFrom 123 = .ok (.aload_n 1, 1) := by decide +kernel
theorem dX4_copyFrom_124 : decode cX4_copyFrom 124 = .ok (.getfield 46, 3) := by decide +kernel
theorem dX4_copyFrom_127 : decode cX4_copyFrom 127 = .ok (.invokevirtual 61, 3) := by decide +kernel
theorem dX4_copyFrom_130 : decode cX4_copyFrom 130 = .ok (.aload_n 0, 1) := by decide +kernel
theorem dX4_copyFrom_131 : decode cX4_copyFrom 131 = .ok (.iconst 1, 1) := by decide +kernel
theorem dX4_copyFrom_132 : decode cX4_copyFrom 132 = .ok (.putfield 18, 3) := by decide +kernel
theorem dX4_copyFrom_135 : decode cX4_copyFrom 135 = .ok (.return_, 1) := by decide +kernel
theorem dX4_startWall_0 : decode cX4_startWall 0 = .ok (.aload_n 0, 1) := by decide +kernel
theorem dX4_startWall_1 : decode cX4_startWall 1 = .ok (.iload_n 1, 1) := by decide +kernel
theorem dX4_startWall_2 : decode cX4_startWall 2 = .ok (.putfield 9, 3) := by decide +kernel
theorem dX4_startWall_5 : decode cX4_startWall 5 = .ok (.aload_n 0, 1) := by decide +kernel
theorem dX4_startWall_6 : decode cX4_startWall 6 = .ok (.iload_n 2, 1) := by decide +kernel
theorem dX4_startWall_7 : decode cX4_startWall 7 = .ok (.putfield 15, 3) := by decide +kernel
theorem dX4_startWall_10 : decode cX4_startWall 10 = .ok (.aload_n 0, 1) := by decide +kernel
theorem dX4_startWall_11 : decode cX4_startWall 11 = .ok (.iconst 0, 1) := by decide +kernel
theorem dX4_startWall_12 : decode cX4_startWall 12 = .ok (.putfield 49, 3) := by decide +kernel
theorem dX4_startWall_15 : decode cX4_startWall 15 = .ok (.aload_n 0, 1) := by decide +kernel
theorem dX4_startWall_16 : decode cX4_startWall 16 = .ok (.iconst 0, 1) := by decide +kernel
theorem dX4_startWall_17 : decode cX4_startWall 17 = .ok (.putfield 52, 3) := by decide +kernel
theorem dX4_startWall_20 : decode cX4_startWall 20 = .ok (.aload_n 0, 1) := by decide +kernel
theorem dX4_startWall_21 : decode cX4_startWall 21 = .ok (.getfield 27, 3) := by decide +kernel
theorem dX4_startWall_24 : decode cX4_startWall 24 = .ok (.invokevirtual 65, 3) := by decide +kernel
theorem dX4_startWall_27 : decode cX4_startWall 27 = .ok (.aload_n 0, 1) := by decide +kernel
theorem dX4_startWall_28 : decode cX4_startWall 28 = .ok (.iconst 1, 1) := by decide +kernel
theorem dX4_startWall_29 : decode cX4_startWall 29 = .ok (.putfield 18, 3) := by decide +kernel
theorem dX4_startWall_32 : decode cX4_startWall 32 = .ok (.return_, 1) := by decide +kernel
theorem dX4_setTargets_0 : decode cX4_setTargets 0 = .ok (.iconst 0, 1) := by decide +kernel
theorem dX4_setTargets_1 : decode cX4_setTargets 1 = .ok (.istore 6, 2) := by decide +kernel
theorem dX4_setTargets_3 : decode cX4_setTargets 3 = .ok (.iload_n 2, 1) := by decide +kernel
theorem dX4_setTargets_4 : decode cX4_setTargets 4 = .ok (.istore 7, 2) := by decide +kernel
theorem dX4_setTargets_6 : decode cX4_setTargets 6 = .ok (.iload 7, 2) := by decide +kernel
theorem dX4_setTargets_8 : decode cX4_setTargets 8 = .ok (.iload 4, 2) := by decide +kernel
theorem dX4_setTargets_10 : decode cX4_setTargets 10 = .ok (.if_icmp .gt 76, 3) := by decide +kernel
theorem dX4_setTargets_13 : decode cX4_setTargets 13 = .ok (.iload 7, 2) := by decide +kernel
theorem dX4_setTargets_15 : decode cX4_setTargets 15 = .ok (.bipush 16, 2) := by decide +kernel
theorem dX4_setTargets_17 : decode cX4_setTargets 17 = .ok (.if_icmp .ge 69, 3) := by decide +kernel
theorem dX4_setTargets_20 : decode cX4_setTargets 20 = .ok (.iload_n 1, 1) := by decide +kernel
theorem dX4_setTargets_21 : decode cX4_setTargets 21 = .ok (.istore 8, 2) := by decide +kernel
theorem dX4_setTargets_23 : decode cX4_setTargets 23 = .ok (.iload 8, 2) := by decide +kernel
theorem dX4_setTargets_25 : decode cX4_setTargets 25 = .ok (.iload_n 3, 1) := by decide +kernel
theorem dX4_setTargets_26 : decode cX4_setTargets 26 = .ok (.if_icmp .gt 54, 3) := by decide +kernel
theorem dX4_setTargets_29 : decode cX4_setTargets 29 = .ok (.iload 8, 2) := by decide +kernel
theorem dX4_setTargets_31 : decode cX4_setTargets 31 = .ok (.bipush 24, 2) := by decide +kernel
theorem dX4_setTargets_33 : decode cX4_setTargets 33 = .ok (.if_icmp .ge 47, 3) := by decide +kernel
theorem dX4_setTargets_36 : decode cX4_setTargets 36 = .ok (.aload_n 0, 1) := by decide +kernel
theorem dX4_setTargets_37 : decode cX4_setTargets 37 = .ok (.iload 8, 2) := by decide +kernel
theorem dX4_setTargets_39 : decode cX4_setTargets 39 = .ok (.iload 7, 2) := by decide +kernel
theorem dX4_setTargets_41 : decode cX4_setTargets 41 = .ok (.invokevirtual 68, 3) := by decide +kernel
theorem dX4_setTargets_44 : decode cX4_setTargets 44 = .ok (.istore 9, 2) := by decide +kernel
theorem dX4_setTargets_46 : decode cX4_setTargets 46 = .ok (.aload_n 0, 1) := by decide +kernel
theorem dX4_setTargets_47 : decode cX4_setTargets 47 = .ok (.getfield 27, 3) := by decide +kernel
theorem dX4_setTargets_50 : decode cX4_setTargets 50 = .ok (.iload 9, 2) := by decide +kernel
theorem dX4_setTargets_52 : decode cX4_setTargets 52 = .ok (.invokevirtual 72, 3) := by decide +kernel
theorem dX4_setTargets_55 : decode cX4_setTargets 55 = .ok (.iload 5, 2) := by decide +kernel
theorem dX4_setTargets_57 : decode cX4_setTargets 57 = .ok (.if_icmp .eq 6, 3) := by decide +kernel
theorem dX4_setTargets_60 : decode cX4_setTargets 60 = .ok (.iinc 6 1, 3) := by decide +kernel
theorem dX4_setTargets_63 : decode cX4_setTargets 63 = .ok (.aload_n 0, 1) := by decide +kernel
theorem dX4_setTargets_64 : decode cX4_setTargets 64 = .ok (.getfield 27, 3) := by decide +kernel
theorem dX4_setTargets_67 : decode cX4_setTargets 67 = .ok (.iload 9, 2) := by decide +kernel
theorem dX4_setTargets_69 : decode cX4_setTargets 69 = .ok (.iload 5, 2) := by decide +kernel
theorem dX4_setTargets_71 : decode cX4_setTargets 71 = .ok (.invokevirtual 76, 3) := by decide +kernel
theorem dX4_setTargets_74 : decode cX4_setTargets 74 = .ok (.iinc 8 1, 3) := by decide +kernel
theorem dX4_setTargets_77 : decode cX4_setTargets 77 = .ok (.goto (-54), 3) := by decide +kernel
theorem dX4_setTargets_80 : decode cX4_setTargets 80 = .ok (.iinc 7 1, 3) := by decide +kernel
theorem dX4_setTargets_83 : decode cX4_setTargets 83 = .ok (.goto (-77), 3) := by decide +kernel
theorem dX4_setTargets_86 : decode cX4_setTargets 86 = .ok (.aload_n 0, 1) := by decide +kernel
theorem dX4_setTargets_87 : decode cX4_setTargets 87 = .ok (.iconst 1, 1) := by decide +kernel
theorem dX4_setTargets_88 : decode cX4_setTargets 88 = .ok (.putfield 18, 3) := by decide +kernel
theorem dX4_setTargets_91 : decode cX4_setTargets 91 = .ok (.iload 6, 2) := by decide +kernel
theorem dX4_setTargets_93 : decode cX4_setTargets 93 = .ok (.ireturn, 1) := by decide +kernel
theorem dX4_hangLamp_0 : decode cX4_hangLamp 0 = .ok (.aload_n 0, 1) := by decide +kernel
theorem dX4_hangLamp_1 : decode cX4_hangLamp 1 = .ok (.getfield 58, 3) := by decide +kernel
theorem dX4_hangLamp_4 : decode cX4_hangLamp 4 = .ok (.istore_n 3, 1) := by decide +kernel
theorem dX4_hangLamp_5 : decode cX4_hangLamp 5 = .ok (.aload_n 0, 1) := by decide +kernel
theorem dX4_hangLamp_6 : decode cX4_hangLamp 6 = .ok (.dup, 1) := by decide +kernel
theorem dX4_hangLamp_7 : decode cX4_hangLamp 7 = .ok (.getfield 58, 3) := by decide +kernel
theorem dX4_hangLamp_10 : decode cX4_hangLamp 10 = .ok (.iconst 1, 1) := by decide +kernel
theorem dX4_hangLamp_11 : decode cX4_hangLamp 11 = .ok (.iadd, 1) := by decide +kernel
theorem dX4_hangLamp_12 : decode cX4_hangLamp 12 = .ok (.putfield 58, 3) := by decide +kernel
theorem dX4_hangLamp_15 : decode cX4_hangLamp 15 = .ok (.aload_n 0, 1) := by decide +kernel
theorem dX4_hangLamp_16 : decode cX4_hangLamp 16 = .ok (.getfield 31, 3) := by decide +kernel
theorem dX4_hangLamp_19 : decode cX4_hangLamp 19 = .ok (.iload_n 3, 1) := by decide +kernel
theorem dX4_hangLamp_20 : decode cX4_hangLamp 20 = .ok (.iload_n 1, 1) := by decide +kernel
theorem dX4_hangLamp_21 : decode cX4_hangLamp 21 = .ok (.invokevirtual 76, 3) := by decide +kernel
theorem dX4_hangLamp_24 : decode cX4_hangLamp 24 = .ok (.aload_n 0, 1) := by decide +kernel
theorem dX4_hangLamp_25 : decode cX4_hangLamp 25 = .ok (.getfield 34, 3) := by decide +kernel
theorem dX4_hangLamp_28 : decode cX4_hangLamp 28 = .ok (.iload_n 3, 1) := by decide +kernel
theorem dX4_hangLamp_29 : decode cX4_hangLamp 29 = .ok (.iload_n 2, 1) := by decide +kernel
theorem dX4_hangLamp_30 : decode cX4_hangLamp 30 = .ok (.invokevirtual 76, 3) := by decide +kernel
theorem dX4_hangLamp_33 : decode cX4_hangLamp 33 = .ok (.aload_n 0, 1) := by decide +kernel
theorem dX4_hangLamp_34 : decode cX4_hangLamp 34 = .ok (.getfield 37, 3) := by decide +kernel
theorem dX4_hangLamp_37 : decode cX4_hangLamp 37 = .ok (.iload_n 3, 1) := by decide +kernel
theorem dX4_hangLamp_38 : decode cX4_hangLamp 38 = .ok (.iconst 0, 1) := by decide +kernel
theorem dX4_hangLamp_39 : decode cX4_hangLamp 39 = .ok (.invokevirtual 76, 3) := by decide +kernel
theorem dX4_hangLamp_42 : decode cX4_hangLamp 42 = .ok (.aload_n 0, 1) := by decide +kernel
theorem dX4_hangLamp_43 : decode cX4_hangLamp 43 = .ok (.getfield 40, 3) := by decide +kernel
theorem dX4_hangLamp_46 : decode cX4_hangLamp 46 = .ok (.iload_n 3, 1) := by decide +kernel
theorem dX4_hangLamp_47 : decode cX4_hangLamp 47 = .ok (.iconst 1, 1) := by decide +kernel
theorem dX4_hangLamp_48 : decode cX4_hangLamp 48 = .ok (.invokevirtual 76, 3) := by decide +kernel
theorem dX4_hangLamp_51 : decode cX4_hangLamp 51 = .ok (.iconst 0, 1) := by decide +kernel
theorem dX4_hangLamp_52 : decode cX4_hangLamp 52 = .ok (.istore 4, 2) := by decide +kernel
theorem dX4_hangLamp_54 : decode cX4_hangLamp 54 = .ok (.iload 4, 2) := by decide +kernel
theorem dX4_hangLamp_56 : decode cX4_hangLamp 56 = .ok (.iconst 4, 1) := by decide +kernel
theorem dX4_hangLamp_57 : decode cX4_hangLamp 57 = .ok (.if_icmp .ge 18, 3) := by decide +kernel
theorem dX4_hangLamp_60 : decode cX4_hangLamp 60 = .ok (.aload_n 0, 1) := by decide +kernel
theorem dX4_hangLamp_61 : decode cX4_hangLamp 61 = .ok (.iload_n 3, 1) := by decide +kernel
theorem dX4_hangLamp_62 : decode cX4_hangLamp 62 = .ok (.iload 4, 2) := by decide +kernel
theorem dX4_hangLamp_64 : decode cX4_hangLamp 64 = .ok (.iconst 0, 1) := by decide +kernel
theorem dX4_hangLamp_65 : decode cX4_hangLamp 65 = .ok (.iconst 0, 1) := by decide +kernel
theorem dX4_hangLamp_66 : decode cX4_hangLamp 66 = .ok (.invokevirtual 80, 3) := by decide +kernel
theorem dX4_hangLamp_69 : decode cX4_hangLamp 69 = .ok (.iinc 4 1, 3) := by decide +kernel
theorem dX4_hangLamp_72 : decode cX4_hangLamp 72 = .ok (.goto (-18), 3) := by decide +kernel
theorem dX4_hangLamp_75 : decode cX4_hangLamp 75 = .ok (.aload_n 0, 1) := by decide +kernel
theorem dX4_hangLamp_76 : decode cX4_hangLamp 76 = .ok (.iconst 1, 1) := by decide +kernel
theorem dX4_hangLamp_77 : decode cX4_hangLamp 77 = .ok (.putfield 18, 3) := by decide +kernel
theorem dX4_hangLamp_80 : decode cX4_hangLamp 80 = .ok (.iload_n 3, 1) := by decide +kernel
theorem dX4_hangLamp_81 : decode cX4_hangLamp 81 = .ok (.ireturn, 1) := by decide +kernel
theorem dX4_moveCorner_0 : decode cX4_moveCorner 0 = .ok (.aload_n 0, 1) := by decide +kernel
theorem dX4_moveCorner_1 : decode cX4_moveCorner 1 = .ok (.getfield 43, 3) := by decide +kernel
theorem dX4_moveCorner_4 : decode cX4_moveCorner 4 = .ok (.iconst 4, 1) := by decide +kernel
theorem dX4_moveCorner_5 : decode cX4_moveCorner 5 = .ok (.iload_n 1, 1) := by decide +kernel
theorem dX4_moveCorner_6 : decode cX4_moveCorner 6 = .ok (.imul, 1) := by decide +kernel
theorem dX4_moveCorner_7 : decode cX4_moveCorner 7 = .ok (.iload_n 2, 1) := by decide +kernel
theorem dX4_moveCorner_8 : decode cX4_moveCorner 8 = .ok (.iadd, 1) := by decide +kernel
theorem dX4_moveCorner_9 : decode cX4_moveCorner 9 = .ok (.iload_n 3, 1) := by decide +kernel
theorem dX4_moveCorner_10 : decode cX4_moveCorner 10 = .ok (.invokevirtual 76, 3) := by decide +kernel
theorem dX4_moveCorner_13 : decode cX4_moveCorner 13 = .ok (.aload_n 0, 1) := by decide +kernel
theorem dX4_moveCorner_14 : decode cX4_moveCorner 14 = .ok (.getfield 46, 3) := by decide +kernel
theorem dX4_moveCorner_17 : decode cX4_moveCorner 17 = .ok (.iconst 4, 1) := by decide +kernel
theorem dX4_moveCorner_18 : decode cX4_moveCorner 18 = .ok (.iload_n 1, 1) := by decide +kernel
theorem dX4_moveCorner_19 : decode cX4_moveCorner 19 = .ok (.imul, 1) := by decide +kernel
theorem dX4_moveCorner_20 : decode cX4_moveCorner 20 = .ok (.iload_n 2, 1) := by decide +kernel
theorem dX4_moveCorner_21 : decode cX4_moveCorner 21 = .ok (.iadd, 1) := by decide +kernel
theorem dX4_moveCorner_22 : decode cX4_moveCorner 22 = .ok (.iload 4, 2) := by decide +kernel
theorem dX4_moveCorner_24 : decode cX4_moveCorner 24 = .ok (.invokevirtual 76, 3) := by decide +kernel
theorem dX4_moveCorner_27 : decode cX4_moveCorner 27 = .ok (.aload_n 0, 1) := by decide +kernel
theorem dX4_moveCorner_28 : decode cX4_moveCorner 28 = .ok (.iconst 1, 1) := by decide +kernel
theorem dX4_moveCorner_29 : decode cX4_moveCorner 29 = .ok (.putfield 18, 3) := by decide +kernel
theorem dX4_moveCorner_32 : decode cX4_moveCorner 32 = .ok (.return_, 1) := by decide +kernel
theorem dX4_setLampValue_0 : decode cX4_setLampValue 0 = .ok (.iload_n 2, 1) := by decide +kernel
theorem dX4_setLampValue_1 : decode cX4_setLampValue 1 = .ok (.ifCond .ne 15, 3) := by decide +kernel
theorem dX4_setLampValue_4 : decode cX4_setLampValue 4 = .ok (.aload_n 0, 1) := by decide +kernel
theorem dX4_setLampValue_5 : decode cX4_setLampValue 5 = .ok (.getfield 31, 3) := by decide +kernel
theorem dX4_setLampValue_8 : decode cX4_setLampValue 8 = .ok (.iload_n 1, 1) := by decide +kernel
theorem dX4_setLampValue_9 : decode cX4_setLampValue 9 = .ok (.iload_n 3, 1) := by decide +kernel
theorem dX4_setLampValue_10 : decode cX4_setLampValue 10 = .ok (.invokevirtual 76, 3) := by decide +kernel
theorem dX4_setLampValue_13 : decode cX4_setLampValue 13 = .ok (.goto 29, 3) := by decide +kernel
theorem dX4_setLampValue_16 : decode cX4_setLampValue 16 = .ok (.iload_n 2, 1) := by decide +kernel
theorem dX4_setLampValue_17 : decode cX4_setLampValue 17 = .ok (.iconst 1, 1) := by decide +kernel
theorem dX4_setLampValue_18 : decode cX4_setLampValue 18 = .ok (.if_icmp .ne 15, 3) := by decide +kernel
theorem dX4_setLampValue_21 : decode cX4_setLampValue 21 = .ok (.aload_n 0, 1) := by decide +kernel
theorem dX4_setLampValue_22 : decode cX4_setLampValue 22 = .ok (.getfield 34, 3) := by decide +kernel
theorem dX4_setLampValue_25 : decode cX4_setLampValue 25 = .ok (.iload_n 1, 1) := by decide +kernel
theorem dX4_setLampValue_26 : decode cX4_setLampValue 26 = .ok (.iload_n 3, 1) := by decide +kernel
theorem dX4_setLampValue_27 : decode cX4_setLampValue 27 = .ok (.invokevirtual 76, 3) := by decide +kernel
theorem dX4_setLampValue_30 : decode cX4_setLampValue 30 = .ok (.goto 12, 3) := by decide +kernel
theorem dX4_setLampValue_33 : decode cX4_setLampValue 33 = .ok (.aload_n 0, 1) := by decide +kernel
theorem dX4_setLampValue_34 : decode cX4_setLampValue 34 = .ok (.getfield 37, 3) := by decide +kernel
theorem dX4_setLampValue_37 : decode cX4_setLampValue 37 = .ok (.iload_n 1, 1) := by decide +kernel
theorem dX4_setLampValue_38 : decode cX4_setLampValue 38 = .ok (.iload_n 3, 1) := by decide +kernel
theorem dX4_setLampValue_39 : decode cX4_setLampValue 39 = .ok (.invokevirtual 76, 3) := by decide +kernel
theorem dX4_setLampValue_42 : decode cX4_setLampValue 42 = .ok (.aload_n 0, 1) := by decide +kernel
theorem dX4_setLampValue_43 : decode cX4_setLampValue 43 = .ok (.iconst 1, 1) := by decide +kernel
theorem dX4_setLampValue_44 : decode cX4_setLampValue 44 = .ok (.putfield 18, 3) := by decide +kernel
theorem dX4_setLampValue_47 : decode cX4_setLampValue 47 = .ok (.return_, 1) := by decide +kernel
theorem dX4_switchLamp_0 : decode cX4_switchLamp 0 = .ok (.aload_n 0, 1) := by decide +kernel
theorem dX4_switchLamp_1 : decode cX4_switchLamp 1 = .ok (.getfield 40, 3) := by decide +kernel
theorem dX4_switchLamp_4 : decode cX4_switchLamp 4 = .ok (.iload_n 1, 1) := by decide +kernel
theorem dX4_switchLamp_5 : decode cX4_switchLamp 5 = .ok (.iload_n 2, 1) := by decide +kernel
theorem dX4_switchLamp_6 : decode cX4_switchLamp 6 = .ok (.ifCond .eq 7, 3) := by decide +kernel
theorem dX4_switchLamp_9 : decode cX4_switchLamp 9 = .ok (.iconst 1, 1) := by decide +kernel
theorem dX4_switchLamp_10 : decode cX4_switchLamp 10 = .ok (.goto 4, 3) := by decide +kernel
theorem dX4_switchLamp_13 : decode cX4_switchLamp 13 = .ok (.iconst 0, 1) := by decide +kernel
theorem dX4_switchLamp_14 : decode cX4_switchLamp 14 = .ok (.invokevirtual 76, 3) := by decide +kernel
theorem dX4_switchLamp_17 : decode cX4_switchLamp 17 = .ok (.aload_n 0, 1) := by decide +kernel
theorem dX4_switchLamp_18 : decode cX4_switchLamp 18 = .ok (.iconst 1, 1) := by decide +kernel
theorem dX4_switchLamp_19 : decode cX4_switchLamp 19 = .ok (.putfield 18, 3) := by decide +kernel
theorem dX4_switchLamp_22 : decode cX4_switchLamp 22 = .ok (.return_, 1) := by decide +kernel
theorem dX4_moveWall_0 : decode cX4_moveWall 0 = .ok (.aload_n 0, 1) := by decide +kernel
theorem dX4_moveWall_1 : decode cX4_moveWall 1 = .ok (.iload_n 1, 1) := by decide +kernel
theorem dX4_moveWall_2 : decode cX4_moveWall 2 = .ok (.putfield 49, 3) := by decide +kernel
theorem dX4_moveWall_5 : decode cX4_moveWall 5 = .ok (.aload_n 0, 1) := by decide +kernel
theorem dX4_moveWall_6 : decode cX4_moveWall 6 = .ok (.iload_n 2, 1) := by decide +kernel
theorem dX4_moveWall_7 : decode cX4_moveWall 7 = .ok (.putfield 52, 3) := by decide +kernel
theorem dX4_moveWall_10 : decode cX4_moveWall 10 = .ok (.aload_n 0, 1) := by decide +kernel
theorem dX4_moveWall_11 : decode cX4_moveWall 11 = .ok (.iconst 1, 1) := by decide +kernel
theorem dX4_moveWall_12 : decode cX4_moveWall 12 = .ok (.putfield 18, 3) := by decide +kernel
theorem dX4_moveWall_15 : decode cX4_moveWall 15 = .ok (.return_, 1) := by decide +kernel
theorem dX4_wearOut_0 : decode cX4_wearOut 0 = .ok (.aload_n 0, 1) := by decide +kernel
theorem dX4_wearOut_1 : decode cX4_wearOut 1 = .ok (.getfield 37, 3) := by decide +kernel
theorem dX4_wearOut_4 : decode cX4_wearOut 4 = .ok (.iload_n 1, 1) := by decide +kernel
theorem dX4_wearOut_5 : decode cX4_wearOut 5 = .ok (.sipush 900, 3) := by decide +kernel
theorem dX4_wearOut_8 : decode cX4_wearOut 8 = .ok (.aload_n 0, 1) := by decide +kernel
theorem dX4_wearOut_9 : decode cX4_wearOut 9 = .ok (.getfield 37, 3) := by decide +kernel
theorem dX4_wearOut_12 : decode cX4_wearOut 12 = .ok (.iload_n 1, 1) := by decide +kernel
theorem dX4_wearOut_13 : decode cX4_wearOut 13 = .ok (.invokevirtual 72, 3) := by decide +kernel
theorem dX4_wearOut_16 : decode cX4_wearOut 16 = .ok (.iload_n 2, 1) := by decide +kernel
theorem dX4_wearOut_17 : decode cX4_wearOut 17 = .ok (.iadd, 1) := by decide +kernel
theorem dX4_wearOut_18 : decode cX4_wearOut 18 = .ok (.invokestatic 84, 3) := by decide +kernel
theorem dX4_wearOut_21 : decode cX4_wearOut 21 = .ok (.invokevirtual 76, 3) := by decide +kernel
theorem dX4_wearOut_24 : decode cX4_wearOut 24 = .ok (.aload_n 0, 1) := by decide +kernel
theorem dX4_wearOut_25 : decode cX4_wearOut 25 = .ok (.iconst 1, 1) := by decide +kernel
theorem dX4_wearOut_26 : decode cX4_wearOut 26 = .ok (.putfield 18, 3) := by decide +kernel
theorem dX4_wearOut_29 : decode cX4_wearOut 29 = .ok (.return_, 1) := by decide +kernel
theorem dX4_countHours_0 : decode cX4_countHours 0 = .ok (.aload_n 0, 1) := by decide +kernel
theorem dX4_countHours_1 : decode cX4_countHours 1 = .ok (.dup, 1) := by decide +kernel
theorem dX4_countHours_2 : decode cX4_countHours 2 = .ok (.getfield 55, 3) := by decide +kernel
theorem dX4_countHours_5 : decode cX4_countHours 5 = .ok (.iload_n 1, 1) := by decide +kernel
theorem dX4_countHours_6 : decode cX4_countHours 6 = .ok (.iadd, 1) := by decide +kernel
theorem dX4_countHours_7 : decode cX4_countHours 7 = .ok (.putfield 55, 3) := by decide +kernel
theorem dX4_countHours_10 : decode cX4_countHours 10 = .ok (.return_, 1) := by decide +kernel
theorem dX4_hasPlace_0 : decode cX4_hasPlace 0 = .ok (.iload_n 1, 1) := by decide +kernel
theorem dX4_hasPlace_1 : decode cX4_hasPlace 1 = .ok (.ifCond .lt 27, 3) := by decide +kernel
theorem dX4_hasPlace_4 : decode cX4_hasPlace 4 = .ok (.iload_n 1, 1) := by decide +kernel
theorem dX4_hasPlace_5 : decode cX4_hasPlace 5 = .ok (.aload_n 0, 1) := by decide +kernel
theorem dX4_hasPlace_6 : decode cX4_hasPlace 6 = .ok (.getfield 9, 3) := by decide +kernel
theorem dX4_hasPlace_9 : decode cX4_hasPlace 9 = .ok (.if_icmp .ge 19, 3) := by decide +kernel
theorem dX4_hasPlace_12 : decode cX4_hasPlace 12 = .ok (.iload_n 2, 1) := by decide +kernel
theorem dX4_hasPlace_13 : decode cX4_hasPlace 13 = .ok (.ifCond .lt 15, 3) := by decide +kernel
theorem dX4_hasPlace_16 : decode cX4_hasPlace 16 = .ok (.iload_n 2, 1) := by decide +kernel
theorem dX4_hasPlace_17 : decode cX4_hasPlace 17 = .ok (.aload_n 0, 1) := by decide +kernel
theorem dX4_hasPlace_18 : decode cX4_hasPlace 18 = .ok (.getfield 15, 3) := by decide +kernel
theorem dX4_hasPlace_21 : decode cX4_hasPlace 21 = .ok (.if_icmp .ge 7, 3) := by decide +kernel
theorem dX4_hasPlace_24 : decode cX4_hasPlace 24 = .ok (.iconst 1, 1) := by decide +kernel
theorem dX4_hasPlace_25 : decode cX4_hasPlace 25 = .ok (.goto 4, 3) := by decide +kernel
theorem dX4_hasPlace_28 : decode cX4_hasPlace 28 = .ok (.iconst 0, 1) := by decide +kernel
theorem dX4_hasPlace_29 : decode cX4_hasPlace 29 = .ok (.ireturn, 1) := by decide +kernel
theorem dX4_hasLamp_0 : decode cX4_hasLamp 0 = .ok (.iload_n 1, 1) := by decide +kernel
theorem dX4_hasLamp_1 : decode cX4_hasLamp 1 = .ok (.ifCond .lt 15, 3) := by decide +kernel
theorem dX4_hasLamp_4 : decode cX4_hasLamp 4 = .ok (.iload_n 1, 1) := by decide +kernel
theorem dX4_hasLamp_5 : decode cX4_hasLamp 5 = .ok (.aload_n 0, 1) := by decide +kernel
theorem dX4_hasLamp_6 : decode cX4_hasLamp 6 = .ok (.getfield 58, 3) := by decide +kernel
theorem dX4_hasLamp_9 : decode cX4_hasLamp 9 = .ok (.if_icmp .ge 7, 3) := by decide +kernel
theorem dX4_hasLamp_12 : decode cX4_hasLamp 12 = .ok (.iconst 1, 1) := by decide +kernel
theorem dX4_hasLamp_13 : decode cX4_hasLamp 13 = .ok (.goto 4, 3) := by decide +kernel
theorem dX4_hasLamp_16 : decode cX4_hasLamp 16 = .ok (.iconst 0, 1) := by decide +kernel
theorem dX4_hasLamp_17 : decode cX4_hasLamp 17 = .ok (.ireturn, 1) := by decide +kernel
theorem dX4_placeCount_0 : decode cX4_placeCount 0 = .ok (.aload_n 0, 1) := by decide +kernel
theorem dX4_placeCount_1 : decode cX4_placeCount 1 = .ok (.getfield 9, 3) := by decide +kernel
theorem dX4_placeCount_4 : decode cX4_placeCount 4 = .ok (.aload_n 0, 1) := by decide +kernel
theorem dX4_placeCount_5 : decode cX4_placeCount 5 = .ok (.getfield 15, 3) := by decide +kernel
theorem dX4_placeCount_8 : decode cX4_placeCount 8 = .ok (.imul, 1) := by decide +kernel
theorem dX4_placeCount_9 : decode cX4_placeCount 9 = .ok (.ireturn, 1) := by decide +kernel
theorem dX4_indexOfPlace_0 : decode cX4_indexOfPlace 0 = .ok (.iload_n 2, 1) := by decide +kernel
theorem dX4_indexOfPlace_1 : decode cX4_indexOfPlace 1 = .ok (.aload_n 0, 1) := by decide +kernel
theorem dX4_indexOfPlace_2 : decode cX4_indexOfPlace 2 = .ok (.getfield 9, 3) := by decide +kernel
theorem dX4_indexOfPlace_5 : decode cX4_indexOfPlace 5 = .ok (.imul, 1) := by decide +kernel
theorem dX4_indexOfPlace_6 : decode cX4_indexOfPlace 6 = .ok (.iload_n 1, 1) := by decide +kernel
theorem dX4_indexOfPlace_7 : decode cX4_indexOfPlace 7 = .ok (.iadd, 1) := by decide +kernel
theorem dX4_indexOfPlace_8 : decode cX4_indexOfPlace 8 = .ok (.ireturn, 1) := by decide +kernel
theorem dX4_targetAt_0 : decode cX4_targetAt 0 = .ok (.aload_n 0, 1) := by decide +kernel
theorem dX4_targetAt_1 : decode cX4_targetAt 1 = .ok (.getfield 27, 3) := by decide +kernel
theorem dX4_targetAt_4 : decode cX4_targetAt 4 = .ok (.iload_n 1, 1) := by decide +kernel
theorem dX4_targetAt_5 : decode cX4_targetAt 5 = .ok (.invokevirtual 72, 3) := by decide +kernel
theorem dX4_targetAt_8 : decode cX4_targetAt 8 = .ok (.ireturn, 1) := by decide +kernel
theorem dX4_sumOfTargets_0 : decode cX4_sumOfTargets 0 = .ok (.iconst 0, 1) := by decide +kernel
theorem dX4_sumOfTargets_1 : decode cX4_sumOfTargets 1 = .ok (.istore_n 1, 1) := by decide +kernel
theorem dX4_sumOfTargets_2 : decode cX4_sumOfTargets 2 = .ok (.iconst 0, 1) := by decide +kernel
theorem dX4_sumOfTargets_3 : decode cX4_sumOfTargets 3 = .ok (.istore_n 2, 1) := by decide +kernel
theorem dX4_sumOfTargets_4 : decode cX4_sumOfTargets 4 = .ok (.iload_n 2, 1) := by decide +kernel
theorem dX4_sumOfTargets_5 : decode cX4_sumOfTargets 5 = .ok (.aload_n 0, 1) := by decide +kernel
theorem dX4_sumOfTargets_6 : decode cX4_sumOfTargets 6 = .ok (.getfield 9, 3) := by decide +kernel
theorem dX4_sumOfTargets_9 : decode cX4_sumOfTargets 9 = .ok (.aload_n 0, 1) := by decide +kernel
theorem dX4_sumOfTargets_10 : decode cX4_sumOfTargets 10 = .ok (.getfield 15, 3) := by decide +kernel
theorem dX4_sumOfTargets_13 : decode cX4_sumOfTargets 13 = .ok (.imul, 1) := by decide +kernel
theorem dX4_sumOfTargets_14 : decode cX4_sumOfTargets 14 = .ok (.if_icmp .ge 20, 3) := by decide +kernel
theorem dX4_sumOfTargets_17 : decode cX4_sumOfTargets 17 = .ok (.iload_n 1, 1) := by decide +kernel
theorem dX4_sumOfTargets_18 : decode cX4_sumOfTargets 18 = .ok (.aload_n 0, 1) := by decide +kernel
theorem dX4_sumOfTargets_19 : decode cX4_sumOfTargets 19 = .ok (.getfield 27, 3) := by decide +kernel
theorem dX4_sumOfTargets_22 : decode cX4_sumOfTargets 22 = .ok (.iload_n 2, 1) := by decide +kernel
theorem dX4_sumOfTargets_23 : decode cX4_sumOfTargets 23 = .ok (.invokevirtual 72, 3) := by decide +kernel
theorem dX4_sumOfTargets_26 : decode cX4_sumOfTargets 26 = .ok (.iadd, 1) := by decide +kernel
theorem dX4_sumOfTargets_27 : decode cX4_sumOfTargets 27 = .ok (.istore_n 1, 1) := by decide +kernel
theorem dX4_sumOfTargets_28 : decode cX4_sumOfTargets 28 = .ok (.iinc 2 1, 3) := by decide +kernel
theorem dX4_sumOfTargets_31 : decode cX4_sumOfTargets 31 = .ok (.goto (-27), 3) := by decide +kernel
theorem dX4_sumOfTargets_34 : decode cX4_sumOfTargets 34 = .ok (.iload_n 1, 1) := by decide +kernel
theorem dX4_sumOfTargets_35 : decode cX4_sumOfTargets 35 = .ok (.ireturn, 1) := by decide +kernel
theorem dX4_cornerValue_0 : decode cX4_cornerValue 0 = .ok (.iload_n 3, 1) := by decide +kernel
theorem dX4_cornerValue_1 : decode cX4_cornerValue 1 = .ok (.ifCond .ne 18, 3) := by decide +kernel
theorem dX4_cornerValue_4 : decode cX4_cornerValue 4 = .ok (.aload_n 0, 1) := by decide +kernel
theorem dX4_cornerValue_5 : decode cX4_cornerValue 5 = .ok (.getfield 43, 3) := by decide +kernel
theorem dX4_cornerValue_8 : decode cX4_cornerValue 8 = .ok (.iconst 4, 1) := by decide +kernel
theorem dX4_cornerValue_9 : decode cX4_cornerValue 9 = .ok (.iload_n 1, 1) := by decide +kernel
theorem dX4_cornerValue_10 : decode cX4_cornerValue 10 = .ok (.imul, 1) := by decide +kernel
theorem dX4_cornerValue_11 : decode cX4_cornerValue 11 = .ok (.iload_n 2, 1) := by decide +kernel
theorem dX4_cornerValue_12 : decode cX4_cornerValue 12 = .ok (.iadd, 1) := by decide +kernel
theorem dX4_cornerValue_13 : decode cX4_cornerValue 13 = .ok (.invokevirtual 72, 3) := by decide +kernel
theorem dX4_cornerValue_16 : decode cX4_cornerValue 16 = .ok (.goto 15, 3) := by decide +kernel
theorem dX4_cornerValue_19 : decode cX4_cornerValue 19 = .ok (.aload_n 0, 1) := by decide +kernel
theorem dX4_cornerValue_20 : decode cX4_cornerValue 20 = .ok (.getfield 46, 3) := by decide +kernel
theorem dX4_cornerValue_23 : decode cX4_cornerValue 23 = .ok (.iconst 4, 1) := by decide +kernel
theorem dX4_cornerValue_24 : decode cX4_cornerValue 24 = .ok (.iload_n 1, 1) := by decide +kernel
theorem dX4_cornerValue_25 : decode cX4_cornerValue 25 = .ok (.imul, 1) := by decide +kernel
theorem dX4_cornerValue_26 : decode cX4_cornerValue 26 = .ok (.iload_n 2, 1) := by decide +kernel
theorem dX4_cornerValue_27 : decode cX4_cornerValue 27 = .ok (.iadd, 1) := by decide +kernel
theorem dX4_cornerValue_28 : decode cX4_cornerValue 28 = .ok (.invokevirtual 72, 3) := by decide +kernel
theorem dX4_cornerValue_31 : decode cX4_cornerValue 31 = .ok (.ireturn, 1) := by decide +kernel
theorem dX4_isWorking_0 : decode cX4_isWorking 0 = .ok (.aload_n 0, 1) := by decide +kernel
theorem dX4_isWorking_1 : decode cX4_isWorking 1 = .ok (.getfield 40, 3) := by decide +kernel
theorem dX4_isWorking_4 : decode cX4_isWorking 4 = .ok (.iload_n 1, 1) := by decide +kernel
theorem dX4_isWorking_5 : decode cX4_isWorking 5 = .ok (.invokevirtual 72, 3) := by decide +kernel
theorem dX4_isWorking_8 : decode cX4_isWorking 8 = .ok (.iconst 1, 1) := by decide +kernel
theorem dX4_isWorking_9 : decode cX4_isWorking 9 = .ok (.if_icmp .ne 7, 3) := by decide +kernel
theorem dX4_isWorking_12 : decode cX4_isWorking 12 = .ok (.iconst 1, 1) := by decide +kernel
theorem dX4_isWorking_13 : decode cX4_isWorking 13 = .ok (.goto 4, 3) := by decide +kernel
theorem dX4_isWorking_16 : decode cX4_isWorking 16 = .ok (.iconst 0, 1) := by decide +kernel
theorem dX4_isWorking_17 : decode cX4_isWorking 17 = .ok (.ireturn, 1) := by decide +kernel
theorem dX4_workingLamps_0 : decode cX4_workingLamps 0 = .ok (.iconst 0, 1) := by decide +kernel
theorem dX4_workingLamps_1 : decode cX4_workingLamps 1 = .ok (.istore_n 1, 1) := by decide +kernel
theorem dX4_workingLamps_2 : decode cX4_workingLamps 2 = .ok (.iconst 0, 1) := by decide +kernel
theorem dX4_workingLamps_3 : decode cX4_workingLamps 3 = .ok (.istore_n 2, 1) := by decide +kernel
theorem dX4_workingLamps_4 : decode cX4_workingLamps 4 = .ok (.iload_n 2, 1) := by decide +kernel
theorem dX4_workingLamps_5 : decode cX4_workingLamps 5 = .ok (.aload_n 0, 1) := by decide +kernel
theorem dX4_workingLamps_6 : decode cX4_workingLamps 6 = .ok (.getfield 58, 3) := by decide +kernel
theorem dX4_workingLamps_9 : decode cX4_workingLamps 9 = .ok (.if_icmp .ge 20, 3) := by decide +kernel
theorem dX4_workingLamps_12 : decode cX4_workingLamps 12 = .ok (.iload_n 1, 1) := by decide +kernel
theorem dX4_workingLamps_13 : decode cX4_workingLamps 13 = .ok (.aload_n 0, 1) := by decide +kernel
theorem dX4_workingLamps_14 : decode cX4_workingLamps 14 = .ok (.getfield 40, 3) := by decide +kernel
theorem dX4_workingLamps_17 : decode cX4_workingLamps 17 = .ok (.iload_n 2, 1) := by decide +kernel
theorem dX4_workingLamps_18 : decode cX4_workingLamps 18 = .ok (.invokevirtual 72, 3) := by decide +kernel
theorem dX4_workingLamps_21 : decode cX4_workingLamps 21 = .ok (.iadd, 1) := by decide +kernel
theorem dX4_workingLamps_22 : decode cX4_workingLamps 22 = .ok (.istore_n 1, 1) := by decide +kernel
theorem dX4_workingLamps_23 : decode cX4_workingLamps 23 = .ok (.iinc 2 1, 3) := by decide +kernel
theorem dX4_workingLamps_26 : decode cX4_workingLamps 26 = .ok (.goto (-22), 3) := by decide +kernel
theorem dX4_workingLamps_29 : decode cX4_workingLamps 29 = .ok (.iload_n 1, 1) := by decide +kernel
theorem dX4_workingLamps_30 : decode cX4_workingLamps 30 = .ok (.ireturn, 1) := by decide +kernel
theorem dX4_greatestWear_0 : decode cX4_greatestWear 0 = .ok (.iconst 0, 1) := by decide +kernel
theorem dX4_greatestWear_1 : decode cX4_greatestWear 1 = .ok (.istore_n 1, 1) := by decide +kernel
theorem dX4_greatestWear_2 : decode cX4_greatestWear 2 = .ok (.iconst 0, 1) := by decide +kernel
theorem dX4_greatestWear_3 : decode cX4_greatestWear 3 = .ok (.istore_n 2, 1) := by decide +kernel
theorem dX4_greatestWear_4 : decode cX4_greatestWear 4 = .ok (.iload_n 2, 1) := by decide +kernel
theorem dX4_greatestWear_5 : decode cX4_greatestWear 5 = .ok (.aload_n 0, 1) := by decide +kernel
theorem dX4_greatestWear_6 : decode cX4_greatestWear 6 = .ok (.getfield 58, 3) := by decide +kernel
theorem dX4_greatestWear_9 : decode cX4_greatestWear 9 = .ok (.if_icmp .ge 22, 3) := by decide +kernel
theorem dX4_greatestWear_12 : decode cX4_greatestWear 12 = .ok (.iload_n 1, 1) := by decide +kernel
theorem dX4_greatestWear_13 : decode cX4_greatestWear 13 = .ok (.aload_n 0, 1) := by decide +kernel
theorem dX4_greatestWear_14 : decode cX4_greatestWear 14 = .ok (.getfield 37, 3) := by decide +kernel
theorem dX4_greatestWear_17 : decode cX4_greatestWear 17 = .ok (.iload_n 2, 1) := by decide +kernel
theorem dX4_greatestWear_18 : decode cX4_greatestWear 18 = .ok (.invokevirtual 72, 3) := by decide +kernel
theorem dX4_greatestWear_21 : decode cX4_greatestWear 21 = .ok (.invokestatic 89, 3) := by decide +kernel
theorem dX4_greatestWear_24 : decode cX4_greatestWear 24 = .ok (.istore_n 1, 1) := by decide +kernel
theorem dX4_greatestWear_25 : decode cX4_greatestWear 25 = .ok (.iinc 2 1, 3) := by decide +kernel
theorem dX4_greatestWear_28 : decode cX4_greatestWear 28 = .ok (.goto (-24), 3) := by decide +kernel
theorem dX4_greatestWear_31 : decode cX4_greatestWear 31 = .ok (.iload_n 1, 1) := by decide +kernel
theorem dX4_greatestWear_32 : decode cX4_greatestWear 32 = .ok (.ireturn, 1) := by decide +kernel
theorem dX4_limitOf_0 : decode cX4_limitOf 0 = .ok (.aload_n 0, 1) := by decide +kernel
theorem dX4_limitOf_1 : decode cX4_limitOf 1 = .ok (.getfield 31, 3) := by decide +kernel
theorem dX4_limitOf_4 : decode cX4_limitOf 4 = .ok (.iload_n 1, 1) := by decide +kernel
theorem dX4_limitOf_5 : decode cX4_limitOf 5 = .ok (.invokevirtual 72, 3) := by decide +kernel
theorem dX4_limitOf_8 : decode cX4_limitOf 8 = .ok (.sipush 1000, 3) := by decide +kernel
theorem dX4_limitOf_11 : decode cX4_limitOf 11 = .ok (.aload_n 0, 1) := by decide +kernel
theorem dX4_limitOf_12 : decode cX4_limitOf 12 = .ok (.getfield 37, 3) := by decide +kernel
theorem dX4_limitOf_15 : decode cX4_limitOf 15 = .ok (.iload_n 1, 1) := by decide +kernel
theorem dX4_limitOf_16 : decode cX4_limitOf 16 = .ok (.invokevirtual 72, 3) := by decide +kernel
theorem dX4_limitOf_19 : decode cX4_limitOf 19 = .ok (.isub, 1) := by decide +kernel
theorem dX4_limitOf_20 : decode cX4_limitOf 20 = .ok (.imul, 1) := by decide +kernel
theorem dX4_limitOf_21 : decode cX4_limitOf 21 = .ok (.sipush 1000, 3) := by decide +kernel
theorem dX4_limitOf_24 : decode cX4_limitOf 24 = .ok (.idiv, 1) := by decide +kernel
theorem dX4_limitOf_25 : decode cX4_limitOf 25 = .ok (.ireturn, 1) := by decide +kernel
theorem dX4_floorOf_0 : decode cX4_floorOf 0 = .ok (.aload_n 0, 1) := by decide +kernel
theorem dX4_floorOf_1 : decode cX4_floorOf 1 = .ok (.getfield 34, 3) := by decide +kernel
theorem dX4_floorOf_4 : decode cX4_floorOf 4 = .ok (.iload_n 1, 1) := by decide +kernel
theorem dX4_floorOf_5 : decode cX4_floorOf 5 = .ok (.invokevirtual 72, 3) := by decide +kernel
theorem dX4_floorOf_8 : decode cX4_floorOf 8 = .ok (.aload_n 0, 1) := by decide +kernel
theorem dX4_floorOf_9 : decode cX4_floorOf 9 = .ok (.iload_n 1, 1) := by decide +kernel
theorem dX4_floorOf_10 : decode cX4_floorOf 10 = .ok (.invokevirtual 92, 3) := by decide +kernel
theorem dX4_floorOf_13 : decode cX4_floorOf 13 = .ok (.invokestatic 84, 3) := by decide +kernel
theorem dX4_floorOf_16 : decode cX4_floorOf 16 = .ok (.ireturn, 1) := by decide +kernel
theorem dX4_sumOfLimits_0 : decode cX4_sumOfLimits 0 = .ok (.iconst 0, 1) := by decide +kernel
theorem dX4_sumOfLimits_1 : decode cX4_sumOfLimits 1 = .ok (.istore_n 2, 1) := by decide +kernel
theorem dX4_sumOfLimits_2 : decode cX4_sumOfLimits 2 = .ok (.iconst 0, 1) := by decide +kernel
theorem dX4_sumOfLimits_3 : decode cX4_sumOfLimits 3 = .ok (.istore_n 3, 1) := by decide +kernel
theorem dX4_sumOfLimits_4 : decode cX4_sumOfLimits 4 = .ok (.iload_n 3, 1) := by decide +kernel
theorem dX4_sumOfLimits_5 : decode cX4_sumOfLimits 5 = .ok (.aload_n 0, 1) := by decide +kernel
theorem dX4_sumOfLimits_6 : decode cX4_sumOfLimits 6 = .ok (.getfield 58, 3) := by decide +kernel
theorem dX4_sumOfLimits_9 : decode cX4_sumOfLimits 9 = .ok (.if_icmp .ge 29, 3) := by decide +kernel
theorem dX4_sumOfLimits_12 : decode cX4_sumOfLimits 12 = .ok (.iload_n 2, 1) := by decide +kernel
theorem dX4_sumOfLimits_13 : decode cX4_sumOfLimits 13 = .ok (.iload_n 3, 1) := by decide +kernel
theorem dX4_sumOfLimits_14 : decode cX4_sumOfLimits 14 = .ok (.iload_n 1, 1) := by decide +kernel
theorem dX4_sumOfLimits_15 : decode cX4_sumOfLimits 15 = .ok (.invokestatic 95, 3) := by decide +kernel
theorem dX4_sumOfLimits_18 : decode cX4_sumOfLimits 18 = .ok (.ifCond .eq 11, 3) := by decide +kernel
theorem dX4_sumOfLimits_21 : decode cX4_sumOfLimits 21 = .ok (.aload_n 0, 1) := by decide +kernel
theorem dX4_sumOfLimits_22 : decode cX4_sumOfLimits 22 = .ok (.iload_n 3, 1) := by decide +kernel
theorem dX4_sumOfLimits_23 : decode cX4_sumOfLimits 23 = .ok (.invokevirtual 92, 3) := by decide +kernel
theorem dX4_sumOfLimits_26 : decode cX4_sumOfLimits 26 = .ok (.goto 4, 3) := by decide +kernel
theorem dX4_sumOfLimits_29 : decode cX4_sumOfLimits 29 = .ok (.iconst 0, 1) := by decide +kernel
theorem dX4_sumOfLimits_30 : decode cX4_sumOfLimits 30 = .ok (.iadd, 1) := by decide +kernel
theorem dX4_sumOfLimits_31 : decode cX4_sumOfLimits 31 = .ok (.istore_n 2, 1) := by decide +kernel
theorem dX4_sumOfLimits_32 : decode cX4_sumOfLimits 32 = .ok (.iinc 3 1, 3) := by decide +kernel
theorem dX4_sumOfLimits_35 : decode cX4_sumOfLimits 35 = .ok (.goto (-31), 3) := by decide +kernel
theorem dX4_sumOfLimits_38 : decode cX4_sumOfLimits 38 = .ok (.iload_n 2, 1) := by decide +kernel
theorem dX4_sumOfLimits_39 : decode cX4_sumOfLimits 39 = .ok (.ireturn, 1) := by decide +kernel
theorem dX4_sumOfFloors_0 : decode cX4_sumOfFloors 0 = .ok (.iconst 0, 1) := by decide +kernel
theorem dX4_sumOfFloors_1 : decode cX4_sumOfFloors 1 = .ok (.istore_n 2, 1) := by decide +kernel
theorem dX4_sumOfFloors_2 : decode cX4_sumOfFloors 2 = .ok (.iconst 0, 1) := by decide +kernel
theorem dX4_sumOfFloors_3 : decode cX4_sumOfFloors 3 = .ok (.istore_n 3, 1) := by decide +kernel
theorem dX4_sumOfFloors_4 : decode cX4_sumOfFloors 4 = .ok (.iload_n 3, 1) := by decide +kernel
theorem dX4_sumOfFloors_5 : decode cX4_sumOfFloors 5 = .ok (.aload_n 0, 1) := by decide +kernel
theorem dX4_sumOfFloors_6 : decode cX4_sumOfFloors 6 = .ok (.getfield 58, 3) := by decide +kernel
theorem dX4_sumOfFloors_9 : decode cX4_sumOfFloors 9 = .ok (.if_icmp .ge 29, 3) := by decide +kernel
theorem dX4_sumOfFloors_12 : decode cX4_sumOfFloors 12 = .ok (.iload_n 2, 1) := by decide +kernel
theorem dX4_sumOfFloors_13 : decode cX4_sumOfFloors 13 = .ok (.iload_n 3, 1) := by decide +kernel
theorem dX4_sumOfFloors_14 : decode cX4_sumOfFloors 14 = .ok (.iload_n 1, 1) := by decide +kernel
theorem dX4_sumOfFloors_15 : decode cX4_sumOfFloors 15 = .ok (.invokestatic 95, 3) := by decide +kernel
theorem dX4_sumOfFloors_18 : decode cX4_sumOfFloors 18 = .ok (.ifCond .eq 11, 3) := by decide +kernel
theorem dX4_sumOfFloors_21 : decode cX4_sumOfFloors 21 = .ok (.aload_n 0, 1) := by decide +kernel
theorem dX4_sumOfFloors_22 : decode cX4_sumOfFloors 22 = .ok (.iload_n 3, 1) := by decide +kernel
theorem dX4_sumOfFloors_23 : decode cX4_sumOfFloors 23 = .ok (.invokevirtual 99, 3) := by decide +kernel
theorem dX4_sumOfFloors_26 : decode cX4_sumOfFloors 26 = .ok (.goto 4, 3) := by decide +kernel
theorem dX4_sumOfFloors_29 : decode cX4_sumOfFloors 29 = .ok (.iconst 0, 1) := by decide +kernel
theorem dX4_sumOfFloors_30 : decode cX4_sumOfFloors 30 = .ok (.iadd, 1) := by decide +kernel
theorem dX4_sumOfFloors_31 : decode cX4_sumOfFloors 31 = .ok (.istore_n 2, 1) := by decide +kernel
theorem dX4_sumOfFloors_32 : decode cX4_sumOfFloors 32 = .ok (.iinc 3 1, 3) := by decide +kernel
theorem dX4_sumOfFloors_35 : decode cX4_sumOfFloors 35 = .ok (.goto (-31), 3) := by decide +kernel
theorem dX4_sumOfFloors_38 : decode cX4_sumOfFloors 38 = .ok (.iload_n 2, 1) := by decide +kernel
theorem dX4_sumOfFloors_39 : decode cX4_sumOfFloors 39 = .ok (.ireturn, 1) := by decide +kernel
theorem dX4_isGood_0 : decode cX4_isGood 0 = .ok (.iconst 0, 1) := by decide +kernel
theorem dX4_isGood_1 : decode cX4_isGood 1 = .ok (.istore_n 2, 1) := by decide +kernel
theorem dX4_isGood_2 : decode cX4_isGood 2 = .ok (.iconst 0, 1) := by decide +kernel
theorem dX4_isGood_3 : decode cX4_isGood 3 = .ok (.istore_n 3, 1) := by decide +kernel
theorem dX4_isGood_4 : decode cX4_isGood 4 = .ok (.iload_n 3, 1) := by decide +kernel
theorem dX4_isGood_5 : decode cX4_isGood 5 = .ok (.iconst 4, 1) := by decide +kernel
theorem dX4_isGood_6 : decode cX4_isGood 6 = .ok (.if_icmp .ge 148, 3) := by decide +kernel
theorem dX4_isGood_9 : decode cX4_isGood 9 = .ok (.iconst 4, 1) := by decide +kernel
theorem dX4_isGood_10 : decode cX4_isGood 10 = .ok (.iload_n 1, 1) := by decide +kernel
theorem dX4_isGood_11 : decode cX4_isGood 11 = .ok (.imul, 1) := by decide +kernel
theorem dX4_isGood_12 : decode cX4_isGood 12 = .ok (.iload_n 3, 1) := by decide +kernel
theorem dX4_isGood_13 : decode cX4_isGood 13 = .ok (.iadd, 1) := by decide +kernel
theorem dX4_isGood_14 : decode cX4_isGood 14 = .ok (.istore 4, 2) := by decide +kernel
theorem dX4_isGood_16 : decode cX4_isGood 16 = .ok (.iconst 4, 1) := by decide +kernel
theorem dX4_isGood_17 : decode cX4_isGood 17 = .ok (.iload_n 1, 1) := by decide +kernel
theorem dX4_isGood_18 : decode cX4_isGood 18 = .ok (.imul, 1) := by decide +kernel
theorem dX4_isGood_19 : decode cX4_isGood 19 = .ok (.iload_n 3, 1) := by decide +kernel
theorem dX4_isGood_20 : decode cX4_isGood 20 = .ok (.iconst 1, 1) := by decide +kernel
theorem dX4_isGood_21 : decode cX4_isGood 21 = .ok (.iadd, 1) := by decide +kernel
theorem dX4_isGood_22 : decode cX4_isGood 22 = .ok (.iconst 4, 1) := by decide +kernel
theorem dX4_isGood_23 : decode cX4_isGood 23 = .ok (.irem, 1) := by decide +kernel
theorem dX4_isGood_24 : decode cX4_isGood 24 = .ok (.iadd, 1) := by decide +kernel
theorem dX4_isGood_25 : decode cX4_isGood 25 = .ok (.istore 5, 2) := by decide +kernel
theorem dX4_isGood_27 : decode cX4_isGood 27 = .ok (.iconst 4, 1) := by decide +kernel
theorem dX4_isGood_28 : decode cX4_isGood 28 = .ok (.iload_n 1, 1) := by decide +kernel
theorem dX4_isGood_29 : decode cX4_isGood 29 = .ok (.imul, 1) := by decide +kernel
theorem dX4_isGood_30 : decode cX4_isGood 30 = .ok (.iload_n 3, 1) := by decide +kernel
theorem dX4_isGood_31 : decode cX4_isGood 31 = .ok (.iconst 2, 1) := by decide +kernel
theorem dX4_isGood_32 : decode cX4_isGood 32 = .ok (.iadd, 1) := by decide +kernel
theorem dX4_isGood_33 : decode cX4_isGood 33 = .ok (.iconst 4, 1) := by decide +kernel
theorem dX4_isGood_34 : decode cX4_isGood 34 = .ok (.irem, 1) := by decide +kernel
theorem dX4_isGood_35 : decode cX4_isGood 35 = .ok (.iadd, 1) := by decide +kernel
theorem dX4_isGood_36 : decode cX4_isGood 36 = .ok (.istore 6, 2) := by decide +kernel
theorem dX4_isGood_38 : decode cX4_isGood 38 = .ok (.aload_n 0, 1) := by decide +kernel
theorem dX4_isGood_39 : decode cX4_isGood 39 = .ok (.getfield 43, 3) := by decide +kernel
theorem dX4_isGood_42 : decode cX4_isGood 42 = .ok (.iload 5, 2) := by decide +kernel
theorem dX4_isGood_44 : decode cX4_isGood 44 = .ok (.invokevirtual 72, 3) := by decide +kernel
theorem dX4_isGood_47 : decode cX4_isGood 47 = .ok (.istore 7, 2) := by decide +kernel
theorem dX4_isGood_49 : decode cX4_isGood 49 = .ok (.aload_n 0, 1) := by decide +kernel
theorem dX4_isGood_50 : decode cX4_isGood 50 = .ok (.getfield 46, 3) := by decide +kernel
theorem dX4_isGood_53 : decode cX4_isGood 53 = .ok (.iload 5, 2) := by decide +kernel
theorem dX4_isGood_55 : decode cX4_isGood 55 = .ok (.invokevirtual 72, 3) := by decide +kernel
theorem dX4_isGood_58 : decode cX4_isGood 58 = .ok (.istore 8, 2) := by decide +kernel
theorem dX4_isGood_60 : decode cX4_isGood 60 = .ok (.iload 7, 2) := by decide +kernel
theorem dX4_isGood_62 : decode cX4_isGood 62 = .ok (.aload_n 0, 1) := by decide +kernel
theorem dX4_isGood_63 : decode cX4_isGood 63 = .ok (.getfield 43, 3) := by decide +kernel
theorem dX4_isGood_66 : decode cX4_isGood 66 = .ok (.iload 4, 2) := by decide +kernel
theorem dX4_isGood_68 : decode cX4_isGood 68 = .ok (.invokevirtual 72, 3) := by decide +kernel
theorem dX4_isGood_71 : decode cX4_isGood 71 = .ok (.isub, 1) := by decide +kernel
theorem dX4_isGood_72 : decode cX4_isGood 72 = .ok (.iload 8, 2) := by decide +kernel
theorem dX4_isGood_74 : decode cX4_isGood 74 = .ok (.aload_n 0, 1) := by decide +kernel
theorem dX4_isGood_75 : decode cX4_isGood 75 = .ok (.getfield 46, 3) := by decide +kernel
theorem dX4_isGood_78 : decode cX4_isGood 78 = .ok (.iload 4, 2) := by decide +kernel
theorem dX4_isGood_80 : decode cX4_isGood 80 = .ok (.invokevirtual 72, 3) := by decide +kernel
theorem dX4_isGood_83 : decode cX4_isGood 83 = .ok (.isub, 1) := by decide +kernel
theorem dX4_isGood_84 : decode cX4_isGood 84 = .ok (.aload_n 0, 1) := by decide +kernel
theorem dX4_isGood_85 : decode cX4_isGood 85 = .ok (.getfield 43, 3) := by decide +kernel
theorem dX4_isGood_88 : decode cX4_isGood 88 = .ok (.iload 6, 2) := by decide +kernel
theorem dX4_isGood_90 : decode cX4_isGood 90 = .ok (.invokevirtual 72, 3) := by decide +kernel
theorem dX4_isGood_93 : decode cX4_isGood 93 = .ok (.iload 7, 2) := by decide +kernel
theorem dX4_isGood_95 : decode cX4_isGood 95 = .ok (.isub, 1) := by decide +kernel
theorem dX4_isGood_96 : decode cX4_isGood 96 = .ok (.aload_n 0, 1) := by decide +kernel
theorem dX4_isGood_97 : decode cX4_isGood 97 = .ok (.getfield 46, 3) := by decide +kernel
theorem dX4_isGood_100 : decode cX4_isGood 100 = .ok (.iload 6, 2) := by decide +kernel
theorem dX4_isGood_102 : decode cX4_isGood 102 = .ok (.invokevirtual 72, 3) := by decide +kernel
theorem dX4_isGood_105 : decode cX4_isGood 105 = .ok (.iload 8, 2) := by decide +kernel
theorem dX4_isGood_107 : decode cX4_isGood 107 = .ok (.isub, 1) := by decide +kernel
theorem dX4_isGood_108 : decode cX4_isGood 108 = .ok (.invokestatic 102, 3) := by decide +kernel
theorem dX4_isGood_111 : decode cX4_isGood 111 = .ok (.istore 9, 2) := by decide +kernel
theorem dX4_isGood_113 : decode cX4_isGood 113 = .ok (.iload 9, 2) := by decide +kernel
theorem dX4_isGood_115 : decode cX4_isGood 115 = .ok (.ifCond .ge 5, 3) := by decide +kernel
theorem dX4_isGood_118 : decode cX4_isGood 118 = .ok (.iconst 0, 1) := by decide +kernel
theorem dX4_isGood_119 : decode cX4_isGood 119 = .ok (.ireturn, 1) := by decide +kernel
theorem dX4_isGood_120 : decode cX4_isGood 120 = .ok (.iload_n 2, 1) := by decide +kernel
theorem dX4_isGood_121 : decode cX4_isGood 121 = .ok (.aload_n 0, 1) := by decide +kernel
theorem dX4_isGood_122 : decode cX4_isGood 122 = .ok (.getfield 43, 3) := by decide +kernel
theorem dX4_isGood_125 : decode cX4_isGood 125 = .ok (.iload 4, 2) := by decide +kernel
theorem dX4_isGood_127 : decode cX4_isGood 127 = .ok (.invokevirtual 72, 3) := by decide +kernel
theorem dX4_isGood_130 : decode cX4_isGood 130 = .ok (.aload_n 0, 1) := by decide +kernel
theorem dX4_isGood_131 : decode cX4_isGood 131 = .ok (.getfield 46, 3) := by decide +kernel
theorem dX4_isGood_134 : decode cX4_isGood 134 = .ok (.iload 4, 2) := by decide +kernel
theorem dX4_isGood_136 : decode cX4_isGood 136 = .ok (.invokevirtual 72, 3) := by decide +kernel
theorem dX4_isGood_139 : decode cX4_isGood 139 = .ok (.iload 7, 2) := by decide +kernel
theorem dX4_isGood_141 : decode cX4_isGood 141 = .ok (.iload 8, 2) := by decide +kernel
theorem dX4_isGood_143 : decode cX4_isGood 143 = .ok (.invokestatic 102, 3) := by decide +kernel
theorem dX4_isGood_146 : decode cX4_isGood 146 = .ok (.iadd, 1) := by decide +kernel
theorem dX4_isGood_147 : decode cX4_isGood 147 = .ok (.istore_n 2, 1) := by decide +kernel
theorem dX4_isGood_148 : decode cX4_isGood 148 = .ok (.iinc 3 1, 3) := by decide +kernel
theorem dX4_isGood_151 : decode cX4_isGood 151 = .ok (.goto (-147), 3) := by decide +kernel
theorem dX4_isGood_154 : decode cX4_isGood 154 = .ok (.iload_n 2, 1) := by decide +kernel
theorem dX4_isGood_155 : decode cX4_isGood 155 = .ok (.ifCond .le 7, 3) := by decide +kernel
theorem dX4_isGood_158 : decode cX4_isGood 158 = .ok (.iconst 1, 1) := by decide +kernel
theorem dX4_isGood_159 : decode cX4_isGood 159 = .ok (.goto 4, 3) := by decide +kernel
theorem dX4_isGood_162 : decode cX4_isGood 162 = .ok (.iconst 0, 1) := by decide +kernel
theorem dX4_isGood_163 : decode cX4_isGood 163 = .ok (.ireturn, 1) := by decide +kernel
theorem dX4_shiningLamps_0 : decode cX4_shiningLamps 0 = .ok (.iconst 0, 1) := by decide +kernel
theorem dX4_shiningLamps_1 : decode cX4_shiningLamps 1 = .ok (.istore_n 1, 1) := by decide +kernel
theorem dX4_shiningLamps_2 : decode cX4_shiningLamps 2 = .ok (.iconst 0, 1) := by decide +kernel
theorem dX4_shiningLamps_3 : decode cX4_shiningLamps 3 = .ok (.istore_n 2, 1) := by decide +kernel
theorem dX4_shiningLamps_4 : decode cX4_shiningLamps 4 = .ok (.iload_n 2, 1) := by decide +kernel
theorem dX4_shiningLamps_5 : decode cX4_shiningLamps 5 = .ok (.aload_n 0, 1) := by decide +kernel
theorem dX4_shiningLamps_6 : decode cX4_shiningLamps 6 = .ok (.getfield 58, 3) := by decide +kernel
theorem dX4_shiningLamps_9 : decode cX4_shiningLamps 9 = .ok (.if_icmp .ge 31, 3) := by decide +kernel
theorem dX4_shiningLamps_12 : decode cX4_shiningLamps 12 = .ok (.aload_n 0, 1) := by decide +kernel
theorem dX4_shiningLamps_13 : decode cX4_shiningLamps 13 = .ok (.iload_n 2, 1) := by decide +kernel
theorem dX4_shiningLamps_14 : decode cX4_shiningLamps 14 = .ok (.invokevirtual 106, 3) := by decide +kernel
theorem dX4_shiningLamps_17 : decode cX4_shiningLamps 17 = .ok (.ifCond .eq 17, 3) := by decide +kernel
theorem dX4_shiningLamps_20 : decode cX4_shiningLamps 20 = .ok (.aload_n 0, 1) := by decide +kernel
theorem dX4_shiningLamps_21 : decode cX4_shiningLamps 21 = .ok (.iload_n 2, 1) := by decide +kernel
theorem dX4_shiningLamps_22 : decode cX4_shiningLamps 22 = .ok (.invokevirtual 110, 3) := by decide +kernel
theorem dX4_shiningLamps_25 : decode cX4_shiningLamps 25 = .ok (.ifCond .eq 9, 3) := by decide +kernel
theorem dX4_shiningLamps_28 : decode cX4_shiningLamps 28 = .ok (.iload_n 1, 1) := by decide +kernel
theorem dX4_shiningLamps_29 : decode cX4_shiningLamps 29 = .ok (.iconst 1, 1) := by decide +kernel
theorem dX4_shiningLamps_30 : decode cX4_shiningLamps 30 = .ok (.iload_n 2, 1) := by decide +kernel
theorem dX4_shiningLamps_31 : decode cX4_shiningLamps 31 = .ok (.ishl, 1) := by decide +kernel
theorem dX4_shiningLamps_32 : decode cX4_shiningLamps 32 = .ok (.ior, 1) := by decide +kernel
theorem dX4_shiningLamps_33 : decode cX4_shiningLamps 33 = .ok (.istore_n 1, 1) := by decide +kernel
theorem dX4_shiningLamps_34 : decode cX4_shiningLamps 34 = .ok (.iinc 2 1, 3) := by decide +kernel
theorem dX4_shiningLamps_37 : decode cX4_shiningLamps 37 = .ok (.goto (-33), 3) := by decide +kernel
theorem dX4_shiningLamps_40 : decode cX4_shiningLamps 40 = .ok (.iload_n 1, 1) := by decide +kernel
theorem dX4_shiningLamps_41 : decode cX4_shiningLamps 41 = .ok (.ireturn, 1) := by decide +kernel
theorem dX4_weightAt_0 : decode cX4_weightAt 0 = .ok (.iconst (-1), 1) := by decide +kernel
theorem dX4_weightAt_1 : decode cX4_weightAt 1 = .ok (.istore 4, 2) := by decide +kernel
theorem dX4_weightAt_3 : decode cX4_weightAt 3 = .ok (.iconst 0, 1) := by decide +kernel
theorem dX4_weightAt_4 : decode cX4_weightAt 4 = .ok (.istore 5, 2) := by decide +kernel
theorem dX4_weightAt_6 : decode cX4_weightAt 6 = .ok (.iload 5, 2) := by decide +kernel
theorem dX4_weightAt_8 : decode cX4_weightAt 8 = .ok (.iconst 4, 1) := by decide +kernel
theorem dX4_weightAt_9 : decode cX4_weightAt 9 = .ok (.if_icmp .ge 161, 3) := by decide +kernel
theorem dX4_weightAt_12 : decode cX4_weightAt 12 = .ok (.iconst 4, 1) := by decide +kernel
theorem dX4_weightAt_13 : decode cX4_weightAt 13 = .ok (.iload_n 1, 1) := by decide +kernel
theorem dX4_weightAt_14 : decode cX4_weightAt 14 = .ok (.imul, 1) := by decide +kernel
theorem dX4_weightAt_15 : decode cX4_weightAt 15 = .ok (.iload 5, 2) := by decide +kernel
theorem dX4_weightAt_17 : decode cX4_weightAt 17 = .ok (.iadd, 1) := by decide +kernel
theorem dX4_weightAt_18 : decode cX4_weightAt 18 = .ok (.istore 6, 2) := by decide +kernel
theorem dX4_weightAt_20 : decode cX4_weightAt 20 = .ok (.iconst 4, 1) := by decide +kernel
theorem dX4_weightAt_21 : decode cX4_weightAt 21 = .ok (.iload_n 1, 1) := by decide +kernel
theorem dX4_weightAt_22 : decode cX4_weightAt 22 = .ok (.imul, 1) := by decide +kernel
theorem dX4_weightAt_23 : decode cX4_weightAt 23 = .ok (.iload 5, 2) := by decide +kernel
theorem dX4_weightAt_25 : decode cX4_weightAt 25 = .ok (.iconst 1, 1) := by decide +kernel
theorem dX4_weightAt_26 : decode cX4_weightAt 26 = .ok (.iadd, 1) := by decide +kernel
theorem dX4_weightAt_27 : decode cX4_weightAt 27 = .ok (.iconst 4, 1) := by decide +kernel
theorem dX4_weightAt_28 : decode cX4_weightAt 28 = .ok (.irem, 1) := by decide +kernel
theorem dX4_weightAt_29 : decode cX4_weightAt 29 = .ok (.iadd, 1) := by decide +kernel
theorem dX4_weightAt_30 : decode cX4_weightAt 30 = .ok (.istore 7, 2) := by decide +kernel
theorem dX4_weightAt_32 : decode cX4_weightAt 32 = .ok (.iconst 2, 1) := by decide +kernel
theorem dX4_weightAt_33 : decode cX4_weightAt 33 = .ok (.aload_n 0, 1) := by decide +kernel
theorem dX4_weightAt_34 : decode cX4_weightAt 34 = .ok (.getfield 43, 3) := by decide +kernel
theorem dX4_weightAt_37 : decode cX4_weightAt 37 = .ok (.iload 7, 2) := by decide +kernel
theorem dX4_weightAt_39 : decode cX4_weightAt 39 = .ok (.invokevirtual 72, 3) := by decide +kernel
theorem dX4_weightAt_42 : decode cX4_weightAt 42 = .ok (.aload_n 0, 1) := by decide +kernel
theorem dX4_weightAt_43 : decode cX4_weightAt 43 = .ok (.getfield 43, 3) := by decide +kernel
theorem dX4_weightAt_46 : decode cX4_weightAt 46 = .ok (.iload 6, 2) := by decide +kernel
theorem dX4_weightAt_48 : decode cX4_weightAt 48 = .ok (.invokevirtual 72, 3) := by decide +kernel
theorem dX4_weightAt_51 : decode cX4_weightAt 51 = .ok (.isub, 1) := by decide +kernel
theorem dX4_weightAt_52 : decode cX4_weightAt 52 = .ok (.imul, 1) := by decide +kernel
theorem dX4_weightAt_53 : decode cX4_weightAt 53 = .ok (.istore 8, 2) := by decide +kernel
theorem dX4_weightAt_55 : decode cX4_weightAt 55 = .ok (.iconst 2, 1) := by decide +kernel
theorem dX4_weightAt_56 : decode cX4_weightAt 56 = .ok (.aload_n 0, 1) := by decide +kernel
theorem dX4_weightAt_57 : decode cX4_weightAt 57 = .ok (.getfield 46, 3) := by decide +kernel
theorem dX4_weightAt_60 : decode cX4_weightAt 60 = .ok (.iload 7, 2) := by decide +kernel
theorem dX4_weightAt_62 : decode cX4_weightAt 62 = .ok (.invokevirtual 72, 3) := by decide +kernel
theorem dX4_weightAt_65 : decode cX4_weightAt 65 = .ok (.aload_n 0, 1) := by decide +kernel
theorem dX4_weightAt_66 : decode cX4_weightAt 66 = .ok (.getfield 46, 3) := by decide +kernel
theorem dX4_weightAt_69 : decode cX4_weightAt 69 = .ok (.iload 6, 2) := by decide +kernel
theorem dX4_weightAt_71 : decode cX4_weightAt 71 = .ok (.invokevirtual 72, 3) := by decide +kernel
theorem dX4_weightAt_74 : decode cX4_weightAt 74 = .ok (.isub, 1) := by decide +kernel
theorem dX4_weightAt_75 : decode cX4_weightAt 75 = .ok (.imul, 1) := by decide +kernel
theorem dX4_weightAt_76 : decode cX4_weightAt 76 = .ok (.istore 9, 2) := by decide +kernel
theorem dX4_weightAt_78 : decode cX4_weightAt 78 = .ok (.iload 8, 2) := by decide +kernel
theorem dX4_weightAt_80 : decode cX4_weightAt 80 = .ok (.iload 9, 2) := by decide +kernel
theorem dX4_weightAt_82 : decode cX4_weightAt 82 = .ok (.iload_n 2, 1) := by decide +kernel
theorem dX4_weightAt_83 : decode cX4_weightAt 83 = .ok (.iconst 2, 1) := by decide +kernel
theorem dX4_weightAt_84 : decode cX4_weightAt 84 = .ok (.aload_n 0, 1) := by decide +kernel
theorem dX4_weightAt_85 : decode cX4_weightAt 85 = .ok (.getfield 43, 3) := by decide +kernel
theorem dX4_weightAt_88 : decode cX4_weightAt 88 = .ok (.iload 6, 2) := by decide +kernel
theorem dX4_weightAt_90 : decode cX4_weightAt 90 = .ok (.invokevirtual 72, 3) := by decide +kernel
theorem dX4_weightAt_93 : decode cX4_weightAt 93 = .ok (.imul, 1) := by decide +kernel
theorem dX4_weightAt_94 : decode cX4_weightAt 94 = .ok (.isub, 1) := by decide +kernel
theorem dX4_weightAt_95 : decode cX4_weightAt 95 = .ok (.iload_n 3, 1) := by decide +kernel
theorem dX4_weightAt_96 : decode cX4_weightAt 96 = .ok (.iconst 2, 1) := by decide +kernel
theorem dX4_weightAt_97 : decode cX4_weightAt 97 = .ok (.aload_n 0, 1) := by decide +kernel
theorem dX4_weightAt_98 : decode cX4_weightAt 98 = .ok (.getfield 46, 3) := by decide +kernel
theorem dX4_weightAt_101 : decode cX4_weightAt 101 = .ok (.iload 6, 2) := by decide +kernel
theorem dX4_weightAt_103 : decode cX4_weightAt 103 = .ok (.invokevirtual 72, 3) := by decide +kernel
theorem dX4_weightAt_106 : decode cX4_weightAt 106 = .ok (.imul, 1) := by decide +kernel
theorem dX4_weightAt_107 : decode cX4_weightAt 107 = .ok (.isub, 1) := by decide +kernel
theorem dX4_weightAt_108 : decode cX4_weightAt 108 = .ok (.invokestatic 102, 3) := by decide +kernel
theorem dX4_weightAt_111 : decode cX4_weightAt 111 = .ok (.istore 10, 2) := by decide +kernel
theorem dX4_weightAt_113 : decode cX4_weightAt 113 = .ok (.iload 10, 2) := by decide +kernel
theorem dX4_weightAt_115 : decode cX4_weightAt 115 = .ok (.ifCond .ge 5, 3) := by decide +kernel
theorem dX4_weightAt_118 : decode cX4_weightAt 118 = .ok (.iconst 0, 1) := by decide +kernel
theorem dX4_weightAt_119 : decode cX4_weightAt 119 = .ok (.ireturn, 1) := by decide +kernel
theorem dX4_weightAt_120 : decode cX4_weightAt 120 = .ok (.iload 8, 2) := by decide +kernel
theorem dX4_weightAt_122 : decode cX4_weightAt 122 = .ok (.invokestatic 113, 3) := by decide +kernel
theorem dX4_weightAt_125 : decode cX4_weightAt 125 = .ok (.iload 9, 2) := by decide +kernel
theorem dX4_weightAt_127 : decode cX4_weightAt 127 = .ok (.invokestatic 113, 3) := by decide +kernel
theorem dX4_weightAt_130 : decode cX4_weightAt 130 = .ok (.iadd, 1) := by decide +kernel
theorem dX4_weightAt_131 : decode cX4_weightAt 131 = .ok (.istore 11, 2) := by decide +kernel
theorem dX4_weightAt_133 : decode cX4_weightAt 133 = .ok (.iload 11, 2) := by decide +kernel
theorem dX4_weightAt_135 : decode cX4_weightAt 135 = .ok (.ifCond .le 29, 3) := by decide +kernel
theorem dX4_weightAt_138 : decode cX4_weightAt 138 = .ok (.iload 10, 2) := by decide +kernel
theorem dX4_weightAt_140 : decode cX4_weightAt 140 = .ok (.iload 11, 2) := by decide +kernel
theorem dX4_weightAt_142 : decode cX4_weightAt 142 = .ok (.idiv, 1) := by decide +kernel
theorem dX4_weightAt_143 : decode cX4_weightAt 143 = .ok (.istore 12, 2) := by decide +kernel
theorem dX4_weightAt_145 : decode cX4_weightAt 145 = .ok (.iload 4, 2) := by decide +kernel
theorem dX4_weightAt_147 : decode cX4_weightAt 147 = .ok (.ifCond .ge 8, 3) := by decide +kernel
theorem dX4_weightAt_150 : decode cX4_weightAt 150 = .ok (.iload 12, 2) := by decide +kernel
theorem dX4_weightAt_152 : decode cX4_weightAt 152 = .ok (.goto 10, 3) := by decide +kernel
theorem dX4_weightAt_155 : decode cX4_weightAt 155 = .ok (.iload 4, 2) := by decide +kernel
theorem dX4_weightAt_157 : decode cX4_weightAt 157 = .ok (.iload 12, 2) := by decide +kernel
theorem dX4_weightAt_159 : decode cX4_weightAt 159 = .ok (.invokestatic 84, 3) := by decide +kernel
theorem dX4_weightAt_162 : decode cX4_weightAt 162 = .ok (.istore 4, 2) := by decide +kernel
theorem dX4_weightAt_164 : decode cX4_weightAt 164 = .ok (.iinc 5 1, 3) := by decide +kernel
theorem dX4_weightAt_167 : decode cX4_weightAt 167 = .ok (.goto (-161), 3) := by decide +kernel
theorem dX4_weightAt_170 : decode cX4_weightAt 170 = .ok (.iconst 1, 1) := by decide +kernel
theorem dX4_weightAt_171 : decode cX4_weightAt 171 = .ok (.iload 4, 2) := by decide +kernel
theorem dX4_weightAt_173 : decode cX4_weightAt 173 = .ok (.iadd, 1) := by decide +kernel
theorem dX4_weightAt_174 : decode cX4_weightAt 174 = .ok (.ireturn, 1) := by decide +kernel
theorem dX5_init_0 : decode cX5_init 0 = .ok (.aload_n 0, 1) := by decide +kernel
theorem dX5_init_1 : decode cX5_init 1 = .ok (.invokespecial 3, 3) := by decide +kernel
theorem dX5_init_4 : decode cX5_init 4 = .ok (.aload_n 0, 1) := by decide +kernel
theorem dX5_init_5 : decode cX5_init 5 = .ok (.new 9, 3) := by decide +kernel
theorem dX5_init_8 : decode cX5_init 8 = .ok (.dup, 1) := by decide +kernel
theorem dX5_init_9 : decode cX5_init 9 = .ok (.invokespecial 11, 3) := by decide +kernel
theorem dX5_init_12 : decode cX5_init 12 = .ok (.putfield 12, 3) := by decide +kernel
theorem dX5_init_15 : decode cX5_init 15 = .ok (.aload_n 0, 1) := by decide +kernel
theorem dX5_init_16 : decode cX5_init 16 = .ok (.new 18, 3) := by decide +kernel
theorem dX5_init_19 : decode cX5_init 19 = .ok (.dup, 1) := by decide +kernel
theorem dX5_init_20 : decode cX5_init 20 = .ok (.sipush 3072, 3) := by decide +kernel
theorem dX5_init_23 : decode cX5_init 23 = .ok (.invokespecial 20, 3) := by decide +kernel
theorem dX5_init_26 : decode cX5_init 26 = .ok (.putfield 23, 3) := by decide +kernel
theorem dX5_init_29 : decode cX5_init 29 = .ok (.aload_n 0, 1) := by decide +kernel
theorem dX5_init_30 : decode cX5_init 30 = .ok (.new 18, 3) := by decide +kernel
theorem dX5_init_33 : decode cX5_init 33 = .ok (.dup, 1) := by decide +kernel
theorem dX5_init_34 : decode cX5_init 34 = .ok (.sipush 384, 3) := by decide +kernel
theorem dX5_init_37 : decode cX5_init 37 = .ok (.invokespecial 20, 3) := by decide +kernel
theorem dX5_init_40 : decode cX5_init 40 = .ok (.putfield 27, 3) := by decide +kernel
theorem dX5_init_43 : decode cX5_init 43 = .ok (.aload_n 0, 1) := by decide +kernel
theorem dX5_init_44 : decode cX5_init 44 = .ok (.new 18, 3) := by decide +kernel
theorem dX5_init_47 : decode cX5_init 47 = .ok (.dup, 1) := by decide +kernel
theorem dX5_init_48 : decode cX5_init 48 = .ok (.sipush 384, 3) := by decide +kernel
theorem dX5_init_51 : decode cX5_init 51 = .ok (.invokespecial 20, 3) := by decide +kernel
theorem dX5_init_54 : decode cX5_init 54 = .ok (.putfield 30, 3) := by decide +kernel
theorem dX5_init_57 : decode cX5_init 57 = .ok (.aload_n 0, 1) := by decide +kernel
theorem dX5_init_58 : decode cX5_init 58 = .ok (.new 18, 3) := by decide +kernel
theorem dX5_init_61 : decode cX5_init 61 = .ok (.dup, 1) := by decide +kernel
theorem dX5_init_62 : decode cX5_init 62 = .ok (.sipush 384, 3) := by decide +kernel
theorem dX5_init_65 : decode cX5_init 65 = .ok (.invokespecial 20, 3) := by decide +kernel
theorem dX5_init_68 : decode cX5_init 68 = .ok (.putfield 33, 3) := by decide +kernel
theorem dX5_init_71 : decode cX5_init 71 = .ok (.return_, 1) := by decide +kernel
theorem dX5_refresh_0 : decode cX5_refresh 0 = .ok (.aload_n 1, 1) := by decide +kernel
theorem dX5_refresh_1 : decode cX5_refresh 1 = .ok (.ifnull 10, 3) := by decide +kernel
theorem dX5_refresh_4 : decode cX5_refresh 4 = .ok (.aload_n 1, 1) := by decide +kernel
theorem dX5_refresh_5 : decode cX5_refresh 5 = .ok (.getfield 36, 3) := by decide +kernel
theorem dX5_refresh_8 : decode cX5_refresh 8 = .ok (.ifCond .ne 4, 3) := by decide +kernel
theorem dX5_refresh_11 : decode cX5_refresh 11 = .ok (.return_, 1) := by decide +kernel
theorem dX5_refresh_12 : decode cX5_refresh 12 = .ok (.aload_n 0, 1) := by decide +kernel
theorem dX5_refresh_13 : decode cX5_refresh 13 = .ok (.getfield 12, 3) := by decide +kernel
theorem dX5_refresh_16 : decode cX5_refresh 16 = .ok (.aload_n 1, 1) := by decide +kernel
theorem dX5_refresh_17 : decode cX5_refresh 17 = .ok (.aload_n 1, 1) := by decide +kernel
theorem dX5_refresh_18 : decode cX5_refresh 18 = .ok (.invokevirtual 42, 3) := by decide +kernel
theorem dX5_refresh_21 : decode cX5_refresh 21 = .ok (.invokevirtual 46, 3) := by decide +kernel
theorem dX5_refresh_24 : decode cX5_refresh 24 = .ok (.aload_n 0, 1) := by decide +kernel
theorem dX5_refresh_25 : decode cX5_refresh 25 = .ok (.iconst 0, 1) := by decide +kernel
theorem dX5_refresh_26 : decode cX5_refresh 26 = .ok (.putfield 50, 3) := by decide +kernel
theorem dX5_refresh_29 : decode cX5_refresh 29 = .ok (.iconst 0, 1) := by decide +kernel
theorem dX5_refresh_30 : decode cX5_refresh 30 = .ok (.istore_n 2, 1) := by decide +kernel
theorem dX5_refresh_31 : decode cX5_refresh 31 = .ok (.iload_n 2, 1) := by decide +kernel
theorem dX5_refresh_32 : decode cX5_refresh 32 = .ok (.aload_n 1, 1) := by decide +kernel
theorem dX5_refresh_33 : decode cX5_refresh 33 = .ok (.getfield 54, 3) := by decide +kernel
theorem dX5_refresh_36 : decode cX5_refresh 36 = .ok (.if_icmp .ge 61, 3) := by decide +kernel
theorem dX5_refresh_39 : decode cX5_refresh 39 = .ok (.iconst 0, 1) := by decide +kernel
theorem dX5_refresh_40 : decode cX5_refresh 40 = .ok (.istore_n 3, 1) := by decide +kernel
theorem dX5_refresh_41 : decode cX5_refresh 41 = .ok (.iload_n 3, 1) := by decide +kernel
theorem dX5_refresh_42 : decode cX5_refresh 42 = .ok (.aload_n 1, 1) := by decide +kernel
theorem dX5_refresh_43 : decode cX5_refresh 43 = .ok (.getfield 57, 3) := by decide +kernel
theorem dX5_refresh_46 : decode cX5_refresh 46 = .ok (.if_icmp .ge 45, 3) := by decide +kernel
theorem dX5_refresh_49 : decode cX5_refresh 49 = .ok (.aload_n 0, 1) := by decide +kernel
theorem dX5_refresh_50 : decode cX5_refresh 50 = .ok (.getfield 12, 3) := by decide +kernel
theorem dX5_refresh_53 : decode cX5_refresh 53 = .ok (.aload_n 1, 1) := by decide +kernel
theorem dX5_refresh_54 : decode cX5_refresh 54 = .ok (.iload_n 3, 1) := by decide +kernel
theorem dX5_refresh_55 : decode cX5_refresh 55 = .ok (.aload_n 1, 1) := by decide +kernel
theorem dX5_refresh_56 : decode cX5_refresh 56 = .ok (.getfield 60, 3) := by decide +kernel
theorem dX5_refresh_59 : decode cX5_refresh 59 = .ok (.invokestatic 63, 3) := by decide +kernel
theorem dX5_refresh_62 : decode cX5_refresh 62 = .ok (.iload_n 2, 1) := by decide +kernel
theorem dX5_refresh_63 : decode cX5_refresh 63 = .ok (.aload_n 1, 1) := by decide +kernel
theorem dX5_refresh_64 : decode cX5_refresh 64 = .ok (.getfield 67, 3) := by decide +kernel
theorem dX5_refresh_67 : decode cX5_refresh 67 = .ok (.invokestatic 63, 3) := by decide +kernel
theorem dX5_refresh_70 : decode cX5_refresh 70 = .ok (.aload_n 1, 1) := by decide +kernel
theorem dX5_refresh_71 : decode cX5_refresh 71 = .ok (.aload_n 0, 1) := by decide +kernel
theorem dX5_refresh_72 : decode cX5_refresh 72 = .ok (.getfield 50, 3) := by decide +kernel
theorem dX5_refresh_75 : decode cX5_refresh 75 = .ok (.invokevirtual 70, 3) := by decide +kernel
theorem dX5_refresh_78 : decode cX5_refresh 78 = .ok (.invokevirtual 74, 3) := by decide +kernel
theorem dX5_refresh_81 : decode cX5_refresh 81 = .ok (.aload_n 0, 1) := by decide +kernel
theorem dX5_refresh_82 : decode cX5_refresh 82 = .ok (.invokevirtual 78, 3) := by decide +kernel
theorem dX5_refresh_85 : decode cX5_refresh 85 = .ok (.iinc 3 1, 3) := by decide +kernel
theorem dX5_refresh_88 : decode cX5_refresh 88 = .ok (.goto (-47), 3) := by decide +kernel
theorem dX5_refresh_91 : decode cX5_refresh 91 = .ok (.iinc 2 1, 3) := by decide +kernel
theorem dX5_refresh_94 : decode cX5_refresh 94 = .ok (.goto (-63), 3) := by decide +kernel
theorem dX5_refresh_97 : decode cX5_refresh 97 = .ok (.aload_n 1, 1) := by decide +kernel
theorem dX5_refresh_98 : decode cX5_refresh 98 = .ok (.iconst 0, 1) := by decide +kernel
theorem dX5_refresh_99 : decode cX5_refresh 99 = .ok (.putfield 36, 3) := by decide +kernel
theorem dX5_refresh_102 : decode cX5_refresh 102 = .ok (.return_, 1) := by decide +kernel
theorem dX5_keepPlace_0 : decode cX5_keepPlace 0 = .ok (.aload_n 0, 1) := by decide +kernel
theorem dX5_keepPlace_1 : decode cX5_keepPlace 1 = .ok (.getfield 27, 3) := by decide +kernel
theorem dX5_keepPlace_4 : decode cX5_keepPlace 4 = .ok (.aload_n 0, 1) := by decide +kernel
theorem dX5_keepPlace_5 : decode cX5_keepPlace 5 = .ok (.getfield 50, 3) := by decide +kernel
theorem dX5_keepPlace_8 : decode cX5_keepPlace 8 = .ok (.aload_n 0, 1) := by decide +kernel
theorem dX5_keepPlace_9 : decode cX5_keepPlace 9 = .ok (.getfield 12, 3) := by decide +kernel
theorem dX5_keepPlace_12 : decode cX5_keepPlace 12 = .ok (.getfield 81, 3) := by decide +kernel
theorem dX5_keepPlace_15 : decode cX5_keepPlace 15 = .ok (.invokevirtual 83, 3) := by decide +kernel
theorem dX5_keepPlace_18 : decode cX5_keepPlace 18 = .ok (.aload_n 0, 1) := by decide +kernel
theorem dX5_keepPlace_19 : decode cX5_keepPlace 19 = .ok (.getfield 30, 3) := by decide +kernel
theorem dX5_keepPlace_22 : decode cX5_keepPlace 22 = .ok (.aload_n 0, 1) := by decide +kernel
theorem dX5_keepPlace_23 : decode cX5_keepPlace 23 = .ok (.getfield 50, 3) := by decide +kernel
theorem dX5_keepPlace_26 : decode cX5_keepPlace 26 = .ok (.aload_n 0, 1) := by decide +kernel
theorem dX5_keepPlace_27 : decode cX5_keepPlace 27 = .ok (.getfield 12, 3) := by decide +kernel
theorem dX5_keepPlace_30 : decode cX5_keepPlace 30 = .ok (.getfield 87, 3) := by decide +kernel
theorem dX5_keepPlace_33 : decode cX5_keepPlace 33 = .ok (.invokevirtual 83, 3) := by decide +kernel
theorem dX5_keepPlace_36 : decode cX5_keepPlace 36 = .ok (.aload_n 0, 1) := by decide +kernel
theorem dX5_keepPlace_37 : decode cX5_keepPlace 37 = .ok (.getfield 33, 3) := by decide +kernel
theorem dX5_keepPlace_40 : decode cX5_keepPlace 40 = .ok (.aload_n 0, 1) := by decide +kernel
theorem dX5_keepPlace_41 : decode cX5_keepPlace 41 = .ok (.getfield 50, 3) := by decide +kernel
theorem dX5_keepPlace_44 : decode cX5_keepPlace 44 = .ok (.aload_n 0, 1) := by decide +kernel
theorem dX5_keepPlace_45 : decode cX5_keepPlace 45 = .ok (.getfield 12, 3) := by decide +kernel
theorem dX5_keepPlace_48 : decode cX5_keepPlace 48 = .ok (.getfield 89, 3) := by decide +kernel
theorem dX5_keepPlace_51 : decode cX5_keepPlace 51 = .ok (.invokevirtual 83, 3) := by decide +kernel
theorem dX5_keepPlace_54 : decode cX5_keepPlace 54 = .ok (.iconst 0, 1) := by decide +kernel
theorem dX5_keepPlace_55 : decode cX5_keepPlace 55 = .ok (.istore_n 1, 1) := by decide +kernel
theorem dX5_keepPlace_56 : decode cX5_keepPlace 56 = .ok (.iload_n 1, 1) := by decide +kernel
theorem dX5_keepPlace_57 : decode cX5_keepPlace 57 = .ok (.bipush 8, 2) := by decide +kernel
theorem dX5_keepPlace_59 : decode cX5_keepPlace 59 = .ok (.if_icmp .ge 37, 3) := by decide +kernel
theorem dX5_keepPlace_62 : decode cX5_keepPlace 62 = .ok (.aload_n 0, 1) := by decide +kernel
theorem dX5_keepPlace_63 : decode cX5_keepPlace 63 = .ok (.getfield 23, 3) := by decide +kernel
theorem dX5_keepPlace_66 : decode cX5_keepPlace 66 = .ok (.sipush 384, 3) := by decide +kernel
theorem dX5_keepPlace_69 : decode cX5_keepPlace 69 = .ok (.iload_n 1, 1) := by decide +kernel
theorem dX5_keepPlace_70 : decode cX5_keepPlace 70 = .ok (.imul, 1) := by decide +kernel
theorem dX5_keepPlace_71 : decode cX5_keepPlace 71 = .ok (.aload_n 0, 1) := by decide +kernel
theorem dX5_keepPlace_72 : decode cX5_keepPlace 72 = .ok (.getfield 50, 3) := by decide +kernel
theorem dX5_keepPlace_75 : decode cX5_keepPlace 75 = .ok (.iadd, 1) := by decide +kernel
theorem dX5_keepPlace_76 : decode cX5_keepPlace 76 = .ok (.aload_n 0, 1) := by decide +kernel
theorem dX5_keepPlace_77 : decode cX5_keepPlace 77 = .ok (.getfield 12, 3) := by decide +kernel
theorem dX5_keepPlace_80 : decode cX5_keepPlace 80 = .ok (.getfield 92, 3) := by decide +kernel
theorem dX5_keepPlace_83 : decode cX5_keepPlace 83 = .ok (.iload_n 1, 1) := by decide +kernel
theorem dX5_keepPlace_84 : decode cX5_keepPlace 84 = .ok (.invokevirtual 93, 3) := by decide +kernel
theorem dX5_keepPlace_87 : decode cX5_keepPlace 87 = .ok (.invokevirtual 83, 3) := by decide +kernel
theorem dX5_keepPlace_90 : decode cX5_keepPlace 90 = .ok (.iinc 1 1, 3) := by decide +kernel
theorem dX5_keepPlace_93 : decode cX5_keepPlace 93 = .ok (.goto (-37), 3) := by decide +kernel
theorem dX5_keepPlace_96 : decode cX5_keepPlace 96 = .ok (.aload_n 0, 1) := by decide +kernel
theorem dX5_keepPlace_97 : decode cX5_keepPlace 97 = .ok (.dup, 1) := by decide +kernel
theorem dX5_keepPlace_98 : decode cX5_keepPlace 98 = .ok (.getfield 50, 3) := by decide +kernel
theorem dX5_keepPlace_101 : decode cX5_keepPlace 101 = .ok (.iconst 1, 1) := by decide +kernel
theorem dX5_keepPlace_102 : decode cX5_keepPlace 102 = .ok (.iadd, 1) := by decide +kernel
theorem dX5_keepPlace_103 : decode cX5_keepPlace 103 = .ok (.putfield 50, 3) := by decide +kernel
theorem dX5_keepPlace_106 : decode cX5_keepPlace 106 = .ok (.return_, 1) := by decide +kernel
theorem dX5_coveringAt_0 : decode cX5_coveringAt 0 = .ok (.aload_n 0, 1) := by decide +kernel
theorem dX5_coveringAt_1 : decode cX5_coveringAt 1 = .ok (.getfield 27, 3) := by decide +kernel
theorem dX5_coveringAt_4 : decode cX5_coveringAt 4 = .ok (.iload_n 1, 1) := by decide +kernel
theorem dX5_coveringAt_5 : decode cX5_coveringAt 5 = .ok (.invokevirtual 93, 3) := by decide +kernel
theorem dX5_coveringAt_8 : decode cX5_coveringAt 8 = .ok (.ireturn, 1) := by decide +kernel
theorem dX5_brightnessAt_0 : decode cX5_brightnessAt 0 = .ok (.aload_n 0, 1) := by decide +kernel
theorem dX5_brightnessAt_1 : decode cX5_brightnessAt 1 = .ok (.getfield 30, 3) := by decide +kernel
theorem dX5_brightnessAt_4 : decode cX5_brightnessAt 4 = .ok (.iload_n 1, 1) := by decide +kernel
theorem dX5_brightnessAt_5 : decode cX5_brightnessAt 5 = .ok (.invokevirtual 93, 3) := by decide +kernel
theorem dX5_brightnessAt_8 : decode cX5_brightnessAt 8 = .ok (.ireturn, 1) := by decide +kernel
theorem dX5_stateAt_0 : decode cX5_stateAt 0 = .ok (.aload_n 0, 1) := by decide +kernel
theorem dX5_stateAt_1 : decode cX5_stateAt 1 = .ok (.getfield 33, 3) := by decide +kernel
theorem dX5_stateAt_4 : decode cX5_stateAt 4 = .ok (.iload_n 1, 1) := by decide +kernel
theorem dX5_stateAt_5 : decode cX5_stateAt 5 = .ok (.invokevirtual 93, 3) := by decide +kernel
theorem dX5_stateAt_8 : decode cX5_stateAt 8 = .ok (.ireturn, 1) := by decide +kernel
theorem dX5_isCovered_0 : decode cX5_isCovered 0 = .ok (.iload_n 1, 1) := by decide +kernel
theorem dX5_isCovered_1 : decode cX5_isCovered 1 = .ok (.aload_n 0, 1) := by decide +kernel
theorem dX5_isCovered_2 : decode cX5_isCovered 2 = .ok (.getfield 27, 3) := by decide +kernel
theorem dX5_isCovered_5 : decode cX5_isCovered 5 = .ok (.iload_n 2, 1) := by decide +kernel
theorem dX5_isCovered_6 : decode cX5_isCovered 6 = .ok (.invokevirtual 93, 3) := by decide +kernel
theorem dX5_isCovered_9 : decode cX5_isCovered 9 = .ok (.invokestatic 96, 3) := by decide +kernel
theorem dX5_isCovered_12 : decode cX5_isCovered 12 = .ok (.ireturn, 1) := by decide +kernel
theorem dX5_lightOf_0 : decode cX5_lightOf 0 = .ok (.aload_n 0, 1) := by decide +kernel
theorem dX5_lightOf_1 : decode cX5_lightOf 1 = .ok (.iload_n 1, 1) := by decide +kernel
theorem dX5_lightOf_2 : decode cX5_lightOf 2 = .ok (.iload_n 2, 1) := by decide +kernel
theorem dX5_lightOf_3 : decode cX5_lightOf 3 = .ok (.invokevirtual 100, 3) := by decide +kernel
theorem dX5_lightOf_6 : decode cX5_lightOf 6 = .ok (.ifCond .eq 20, 3) := by decide +kernel
theorem dX5_lightOf_9 : decode cX5_lightOf 9 = .ok (.aload_n 0, 1) := by decide +kernel
theorem dX5_lightOf_10 : decode cX5_lightOf 10 = .ok (.getfield 23, 3) := by decide +kernel
theorem dX5_lightOf_13 : decode cX5_lightOf 13 = .ok (.sipush 384, 3) := by decide +kernel
theorem dX5_lightOf_16 : decode cX5_lightOf 16 = .ok (.iload_n 1, 1) := by decide +kernel
theorem dX5_lightOf_17 : decode cX5_lightOf 17 = .ok (.imul, 1) := by decide +kernel
theorem dX5_lightOf_18 : decode cX5_lightOf 18 = .ok (.iload_n 2, 1) := by decide +kernel
theorem dX5_lightOf_19 : decode cX5_lightOf 19 = .ok (.iadd, 1) := by decide +kernel
theorem dX5_lightOf_20 : decode cX5_lightOf 20 = .ok (.invokevirtual 93, 3) := by decide +kernel
theorem dX5_lightOf_23 : decode cX5_lightOf 23 = .ok (.goto 6, 3) := by decide +kernel
theorem dX5_lightOf_26 : decode cX5_lightOf 26 = .ok (.sipush (-1000), 3) := by decide +kernel
theorem dX5_lightOf_29 : decode cX5_lightOf 29 = .ok (.ireturn, 1) := by decide +kernel
theorem dX5_placesOf_0 : decode cX5_placesOf 0 = .ok (.iconst 0, 1) := by decide +kernel
theorem dX5_placesOf_1 : decode cX5_placesOf 1 = .ok (.istore_n 2, 1) := by decide +kernel
theorem dX5_placesOf_2 : decode cX5_placesOf 2 = .ok (.iconst 0, 1) := by decide +kernel
theorem dX5_placesOf_3 : decode cX5_placesOf 3 = .ok (.istore_n 3, 1) := by decide +kernel
theorem dX5_placesOf_4 : decode cX5_placesOf 4 = .ok (.iload_n 3, 1) := by decide +kernel
theorem dX5_placesOf_5 : decode cX5_placesOf 5 = .ok (.aload_n 0, 1) := by decide +kernel
theorem dX5_placesOf_6 : decode cX5_placesOf 6 = .ok (.getfield 50, 3) := by decide +kernel
theorem dX5_placesOf_9 : decode cX5_placesOf 9 = .ok (.if_icmp .ge 26, 3) := by decide +kernel
theorem dX5_placesOf_12 : decode cX5_placesOf 12 = .ok (.iload_n 2, 1) := by decide +kernel
theorem dX5_placesOf_13 : decode cX5_placesOf 13 = .ok (.aload_n 0, 1) := by decide +kernel
theorem dX5_placesOf_14 : decode cX5_placesOf 14 = .ok (.iload_n 1, 1) := by decide +kernel
theorem dX5_placesOf_15 : decode cX5_placesOf 15 = .ok (.iload_n 3, 1) := by decide +kernel
theorem dX5_placesOf_16 : decode cX5_placesOf 16 = .ok (.invokevirtual 100, 3) := by decide +kernel
theorem dX5_placesOf_19 : decode cX5_placesOf 19 = .ok (.ifCond .eq 7, 3) := by decide +kernel
theorem dX5_placesOf_22 : decode cX5_placesOf 22 = .ok (.iconst 1, 1) := by decide +kernel
theorem dX5_placesOf_23 : decode cX5_placesOf 23 = .ok (.goto 4, 3) := by decide +kernel
theorem dX5_placesOf_26 : decode cX5_placesOf 26 = .ok (.iconst 0, 1) := by decide +kernel
theorem dX5_placesOf_27 : decode cX5_placesOf 27 = .ok (.iadd, 1) := by decide +kernel
theorem dX5_placesOf_28 : decode cX5_placesOf 28 = .ok (.istore_n 2, 1) := by decide +kernel
theorem dX5_placesOf_29 : decode cX5_placesOf 29 = .ok (.iinc 3 1, 3) := by decide +kernel
theorem dX5_placesOf_32 : decode cX5_placesOf 32 = .ok (.goto (-28), 3) := by decide +kernel
theorem dX5_placesOf_35 : decode cX5_placesOf 35 = .ok (.iload_n 2, 1) := by decide +kernel
theorem dX5_placesOf_36 : decode cX5_placesOf 36 = .ok (.ireturn, 1) := by decide +kernel
theorem dX5_placesOnlyOf_0 : decode cX5_placesOnlyOf 0 = .ok (.iconst 0, 1) := by decide +kernel
theorem dX5_placesOnlyOf_1 : decode cX5_placesOnlyOf 1 = .ok (.istore_n 2, 1) := by decide +kernel
theorem dX5_placesOnlyOf_2 : decode cX5_placesOnlyOf 2 = .ok (.iconst 0, 1) := by decide +kernel
theorem dX5_placesOnlyOf_3 : decode cX5_placesOnlyOf 3 = .ok (.istore_n 3, 1) := by decide +kernel
theorem dX5_placesOnlyOf_4 : decode cX5_placesOnlyOf 4 = .ok (.iload_n 3, 1) := by decide +kernel
theorem dX5_placesOnlyOf_5 : decode cX5_placesOnlyOf 5 = .ok (.aload_n 0, 1) := by decide +kernel
theorem dX5_placesOnlyOf_6 : decode cX5_placesOnlyOf 6 = .ok (.getfield 50, 3) := by decide +kernel
theorem dX5_placesOnlyOf_9 : decode cX5_placesOnlyOf 9 = .ok (.if_icmp .ge 31, 3) := by decide +kernel
theorem dX5_placesOnlyOf_12 : decode cX5_placesOnlyOf 12 = .ok (.iload_n 2, 1) := by decide +kernel
theorem dX5_placesOnlyOf_13 : decode cX5_placesOnlyOf 13 = .ok (.aload_n 0, 1) := by decide +kernel
theorem dX5_placesOnlyOf_14 : decode cX5_placesOnlyOf 14 = .ok (.getfield 27, 3) := by decide +kernel
theorem dX5_placesOnlyOf_17 : decode cX5_placesOnlyOf 17 = .ok (.iload_n 3, 1) := by decide +kernel
theorem dX5_placesOnlyOf_18 : decode cX5_placesOnlyOf 18 = .ok (.invokevirtual 93, 3) := by decide +kernel
theorem dX5_placesOnlyOf_21 : decode cX5_placesOnlyOf 21 = .ok (.iconst 1, 1) := by decide +kernel
theorem dX5_placesOnlyOf_22 : decode cX5_placesOnlyOf 22 = .ok (.iload_n 1, 1) := by decide +kernel
theorem dX5_placesOnlyOf_23 : decode cX5_placesOnlyOf 23 = .ok (.ishl, 1) := by decide +kernel
theorem dX5_placesOnlyOf_24 : decode cX5_placesOnlyOf 24 = .ok (.if_icmp .ne 7, 3) := by decide +kernel
theorem dX5_placesOnlyOf_27 : decode cX5_placesOnlyOf 27 = .ok (.iconst 1, 1) := by decide +kernel
theorem dX5_placesOnlyOf_28 : decode cX5_placesOnlyOf 28 = .ok (.goto 4, 3) := by decide +kernel
theorem dX5_placesOnlyOf_31 : decode cX5_placesOnlyOf 31 = .ok (.iconst 0, 1) := by decide +kernel
theorem dX5_placesOnlyOf_32 : decode cX5_placesOnlyOf 32 = .ok (.iadd, 1) := by decide +kernel
theorem dX5_placesOnlyOf_33 : decode cX5_placesOnlyOf 33 = .ok (.istore_n 2, 1) := by decide +kernel
theorem dX5_placesOnlyOf_34 : decode cX5_placesOnlyOf 34 = .ok (.iinc 3 1, 3) := by decide +kernel
theorem dX5_placesOnlyOf_37 : decode cX5_placesOnlyOf 37 = .ok (.goto (-33), 3) := by decide +kernel
theorem dX5_placesOnlyOf_40 : decode cX5_placesOnlyOf 40 = .ok (.iload_n 2, 1) := by decide +kernel
theorem dX5_placesOnlyOf_41 : decode cX5_placesOnlyOf 41 = .ok (.ireturn, 1) := by decide +kernel
theorem dX5_placesOfSeveral_0 : decode cX5_placesOfSeveral 0 = .ok (.iconst 0, 1) := by decide +kernel
theorem dX5_placesOfSeveral_1 : decode cX5_placesOfSeveral 1 = .ok (.istore_n 1, 1) := by decide +kernel
theorem dX5_placesOfSeveral_2 : decode cX5_placesOfSeveral 2 = .ok (.iconst 0, 1) := by decide +kernel
theorem dX5_placesOfSeveral_3 : decode cX5_placesOfSeveral 3 = .ok (.istore_n 2, 1) := by decide +kernel
theorem dX5_placesOfSeveral_4 : decode cX5_placesOfSeveral 4 = .ok (.iload_n 2, 1) := by decide +kernel
theorem dX5_placesOfSeveral_5 : decode cX5_placesOfSeveral 5 = .ok (.aload_n 0, 1) := by decide +kernel
theorem dX5_placesOfSeveral_6 : decode cX5_placesOfSeveral 6 = .ok (.getfield 50, 3) := by decide +kernel
theorem dX5_placesOfSeveral_9 : decode cX5_placesOfSeveral 9 = .ok (.if_icmp .ge 32, 3) := by decide +kernel
theorem dX5_placesOfSeveral_12 : decode cX5_placesOfSeveral 12 = .ok (.iload_n 1, 1) := by decide +kernel
theorem dX5_placesOfSeveral_13 : decode cX5_placesOfSeveral 13 = .ok (.aload_n 0, 1) := by decide +kernel
theorem dX5_placesOfSeveral_14 : decode cX5_placesOfSeveral 14 = .ok (.getfield 27, 3) := by decide +kernel
theorem dX5_placesOfSeveral_17 : decode cX5_placesOfSeveral 17 = .ok (.iload_n 2, 1) := by decide +kernel
theorem dX5_placesOfSeveral_18 : decode cX5_placesOfSeveral 18 = .ok (.invokevirtual 93, 3) := by decide +kernel
theorem dX5_placesOfSeveral_21 : decode cX5_placesOfSeveral 21 = .ok (.invokestatic 103, 3) := by decide +kernel
theorem dX5_placesOfSeveral_24 : decode cX5_placesOfSeveral 24 = .ok (.iconst 2, 1) := by decide +kernel
theorem dX5_placesOfSeveral_25 : decode cX5_placesOfSeveral 25 = .ok (.if_icmp .lt 7, 3) := by decide +kernel
theorem dX5_placesOfSeveral_28 : decode cX5_placesOfSeveral 28 = .ok (.iconst 1, 1) := by decide +kernel
theorem dX5_placesOfSeveral_29 : decode cX5_placesOfSeveral 29 = .ok (.goto 4, 3) := by decide +kernel
theorem dX5_placesOfSeveral_32 : decode cX5_placesOfSeveral 32 = .ok (.iconst 0, 1) := by decide +kernel
theorem dX5_placesOfSeveral_33 : decode cX5_placesOfSeveral 33 = .ok (.iadd, 1) := by decide +kernel
theorem dX5_placesOfSeveral_34 : decode cX5_placesOfSeveral 34 = .ok (.istore_n 1, 1) := by decide +kernel
theorem dX5_placesOfSeveral_35 : decode cX5_placesOfSeveral 35 = .ok (.iinc 2 1, 3) := by decide +kernel
theorem dX5_placesOfSeveral_38 : decode cX5_placesOfSeveral 38 = .ok (.goto (-34), 3) := by decide +kernel
theorem dX5_placesOfSeveral_41 : decode cX5_placesOfSeveral 41 = .ok (.iload_n 1, 1) := by decide +kernel
theorem dX5_placesOfSeveral_42 : decode cX5_placesOfSeveral 42 = .ok (.ireturn, 1) := by decide +kernel
theorem dX5_placesInState_0 : decode cX5_placesInState 0 = .ok (.iconst 0, 1) := by decide +kernel
theorem dX5_placesInState_1 : decode cX5_placesInState 1 = .ok (.istore_n 2, 1) := by decide +kernel
theorem dX5_placesInState_2 : decode cX5_placesInState 2 = .ok (.iconst 0, 1) := by decide +kernel
theorem dX5_placesInState_3 : decode cX5_placesInState 3 = .ok (.istore_n 3, 1) := by decide +kernel
theorem dX5_placesInState_4 : decode cX5_placesInState 4 = .ok (.iload_n 3, 1) := by decide +kernel
theorem dX5_placesInState_5 : decode cX5_placesInState 5 = .ok (.aload_n 0, 1) := by decide +kernel
theorem dX5_placesInState_6 : decode cX5_placesInState 6 = .ok (.getfield 50, 3) := by decide +kernel
theorem dX5_placesInState_9 : decode cX5_placesInState 9 = .ok (.if_icmp .ge 29, 3) := by decide +kernel
theorem dX5_placesInState_12 : decode cX5_placesInState 12 = .ok (.iload_n 2, 1) := by decide +kernel
theorem dX5_placesInState_13 : decode cX5_placesInState 13 = .ok (.aload_n 0, 1) := by decide +kernel
theorem dX5_placesInState_14 : decode cX5_placesInState 14 = .ok (.getfield 33, 3) := by decide +kernel
theorem dX5_placesInState_17 : decode cX5_placesInState 17 = .ok (.iload_n 3, 1) := by decide +kernel
theorem dX5_placesInState_18 : decode cX5_placesInState 18 = .ok (.invokevirtual 93, 3) := by decide +kernel
theorem dX5_placesInState_21 : decode cX5_placesInState 21 = .ok (.iload_n 1, 1) := by decide +kernel
theorem dX5_placesInState_22 : decode cX5_placesInState 22 = .ok (.if_icmp .ne 7, 3) := by decide +kernel
theorem dX5_placesInState_25 : decode cX5_placesInState 25 = .ok (.iconst 1, 1) := by decide +kernel
theorem dX5_placesInState_26 : decode cX5_placesInState 26 = .ok (.goto 4, 3) := by decide +kernel
theorem dX5_placesInState_29 : decode cX5_placesInState 29 = .ok (.iconst 0, 1) := by decide +kernel
theorem dX5_placesInState_30 : decode cX5_placesInState 30 = .ok (.iadd, 1) := by decide +kernel
theorem dX5_placesInState_31 : decode cX5_placesInState 31 = .ok (.istore_n 2, 1) := by decide +kernel
theorem dX5_placesInState_32 : decode cX5_placesInState 32 = .ok (.iinc 3 1, 3) := by decide +kernel
theorem dX5_placesInState_35 : decode cX5_placesInState 35 = .ok (.goto (-31), 3) := by decide +kernel
theorem dX5_placesInState_38 : decode cX5_placesInState 38 = .ok (.iload_n 2, 1) := by decide +kernel
theorem dX5_placesInState_39 : decode cX5_placesInState 39 = .ok (.ireturn, 1) := by decide +kernel
theorem dX5_wrongPlaces_0 : decode cX5_wrongPlaces 0 = .ok (.aload_n 0, 1) := by decide +kernel
theorem dX5_wrongPlaces_1 : decode cX5_wrongPlaces 1 = .ok (.getfield 50, 3) := by decide +kernel
theorem dX5_wrongPlaces_4 : decode cX5_wrongPlaces 4 = .ok (.aload_n 0, 1) := by decide +kernel
theorem dX5_wrongPlaces_5 : decode cX5_wrongPlaces 5 = .ok (.iconst 0, 1) := by decide +kernel
theorem dX5_wrongPlaces_6 : decode cX5_wrongPlaces 6 = .ok (.invokevirtual 108, 3) := by decide +kernel
theorem dX5_wrongPlaces_9 : decode cX5_wrongPlaces 9 = .ok (.isub, 1) := by decide +kernel
theorem dX5_wrongPlaces_10 : decode cX5_wrongPlaces 10 = .ok (.ireturn, 1) := by decide +kernel
theorem dX5_sumOfBrightness_0 : decode cX5_sumOfBrightness 0 = .ok (.iconst 0, 1) := by decide +kernel
theorem dX5_sumOfBrightness_1 : decode cX5_sumOfBrightness 1 = .ok (.istore_n 1, 1) := by decide +kernel
theorem dX5_sumOfBrightness_2 : decode cX5_sumOfBrightness 2 = .ok (.iconst 0, 1) := by decide +kernel
theorem dX5_sumOfBrightness_3 : decode cX5_sumOfBrightness 3 = .ok (.istore_n 2, 1) := by decide +kernel
theorem dX5_sumOfBrightness_4 : decode cX5_sumOfBrightness 4 = .ok (.iload_n 2, 1) := by decide +kernel
theorem dX5_sumOfBrightness_5 : decode cX5_sumOfBrightness 5 = .ok (.aload_n 0, 1) := by decide +kernel
theorem dX5_sumOfBrightness_6 : decode cX5_sumOfBrightness 6 = .ok (.getfield 50, 3) := by decide +kernel
theorem dX5_sumOfBrightness_9 : decode cX5_sumOfBrightness 9 = .ok (.if_icmp .ge 20, 3) := by decide +kernel
theorem dX5_sumOfBrightness_12 : decode cX5_sumOfBrightness 12 = .ok (.iload_n 1, 1) := by decide +kernel
theorem dX5_sumOfBrightness_13 : decode cX5_sumOfBrightness 13 = .ok (.aload_n 0, 1) := by decide +kernel
theorem dX5_sumOfBrightness_14 : decode cX5_sumOfBrightness 14 = .ok (.getfield 30, 3) := by decide +kernel
theorem dX5_sumOfBrightness_17 : decode cX5_sumOfBrightness 17 = .ok (.iload_n 2, 1) := by decide +kernel
theorem dX5_sumOfBrightness_18 : decode cX5_sumOfBrightness 18 = .ok (.invokevirtual 93, 3) := by decide +kernel
theorem dX5_sumOfBrightness_21 : decode cX5_sumOfBrightness 21 = .ok (.iadd, 1) := by decide +kernel
theorem dX5_sumOfBrightness_22 : decode cX5_sumOfBrightness 22 = .ok (.istore_n 1, 1) := by decide +kernel
theorem dX5_sumOfBrightness_23 : decode cX5_sumOfBrightness 23 = .ok (.iinc 2 1, 3) := by decide +kernel
theorem dX5_sumOfBrightness_26 : decode cX5_sumOfBrightness 26 = .ok (.goto (-22), 3) := by decide +kernel
theorem dX5_sumOfBrightness_29 : decode cX5_sumOfBrightness 29 = .ok (.iload_n 1, 1) := by decide +kernel
theorem dX5_sumOfBrightness_30 : decode cX5_sumOfBrightness 30 = .ok (.ireturn, 1) := by decide +kernel
theorem dX5_sumOfLights_0 : decode cX5_sumOfLights 0 = .ok (.iconst 0, 1) := by decide +kernel
theorem dX5_sumOfLights_1 : decode cX5_sumOfLights 1 = .ok (.istore_n 2, 1) := by decide +kernel
theorem dX5_sumOfLights_2 : decode cX5_sumOfLights 2 = .ok (.iconst 0, 1) := by decide +kernel
theorem dX5_sumOfLights_3 : decode cX5_sumOfLights 3 = .ok (.istore_n 3, 1) := by decide +kernel
theorem dX5_sumOfLights_4 : decode cX5_sumOfLights 4 = .ok (.iload_n 3, 1) := by decide +kernel
theorem dX5_sumOfLights_5 : decode cX5_sumOfLights 5 = .ok (.aload_n 0, 1) := by decide +kernel
theorem dX5_sumOfLights_6 : decode cX5_sumOfLights 6 = .ok (.getfield 50, 3) := by decide +kernel
theorem dX5_sumOfLights_9 : decode cX5_sumOfLights 9 = .ok (.if_icmp .ge 39, 3) := by decide +kernel
theorem dX5_sumOfLights_12 : decode cX5_sumOfLights 12 = .ok (.iload_n 2, 1) := by decide +kernel
theorem dX5_sumOfLights_13 : decode cX5_sumOfLights 13 = .ok (.aload_n 0, 1) := by decide +kernel
theorem dX5_sumOfLights_14 : decode cX5_sumOfLights 14 = .ok (.iload_n 1, 1) := by decide +kernel
theorem dX5_sumOfLights_15 : decode cX5_sumOfLights 15 = .ok (.iload_n 3, 1) := by decide +kernel
theorem dX5_sumOfLights_16 : decode cX5_sumOfLights 16 = .ok (.invokevirtual 100, 3) := by decide +kernel
theorem dX5_sumOfLights_19 : decode cX5_sumOfLights 19 = .ok (.ifCond .eq 20, 3) := by decide +kernel
theorem dX5_sumOfLights_22 : decode cX5_sumOfLights 22 = .ok (.aload_n 0, 1) := by decide +kernel
theorem dX5_sumOfLights_23 : decode cX5_sumOfLights 23 = .ok (.getfield 23, 3) := by decide +kernel
theorem dX5_sumOfLights_26 : decode cX5_sumOfLights 26 = .ok (.sipush 384, 3) := by decide +kernel
theorem dX5_sumOfLights_29 : decode cX5_sumOfLights 29 = .ok (.iload_n 1, 1) := by decide +kernel
theorem dX5_sumOfLights_30 : decode cX5_sumOfLights 30 = .ok (.imul, 1) := by decide +kernel
theorem dX5_sumOfLights_31 : decode cX5_sumOfLights 31 = .ok (.iload_n 3, 1) := by decide +kernel
theorem dX5_sumOfLights_32 : decode cX5_sumOfLights 32 = .ok (.iadd, 1) := by decide +kernel
theorem dX5_sumOfLights_33 : decode cX5_sumOfLights 33 = .ok (.invokevirtual 93, 3) := by decide +kernel
theorem dX5_sumOfLights_36 : decode cX5_sumOfLights 36 = .ok (.goto 4, 3) := by decide +kernel
theorem dX5_sumOfLights_39 : decode cX5_sumOfLights 39 = .ok (.iconst 0, 1) := by decide +kernel
theorem dX5_sumOfLights_40 : decode cX5_sumOfLights 40 = .ok (.iadd, 1) := by decide +kernel
theorem dX5_sumOfLights_41 : decode cX5_sumOfLights 41 = .ok (.istore_n 2, 1) := by decide +kernel
theorem dX5_sumOfLights_42 : decode cX5_sumOfLights 42 = .ok (.iinc 3 1, 3) := by decide +kernel
theorem dX5_sumOfLights_45 : decode cX5_sumOfLights 45 = .ok (.goto (-41), 3) := by decide +kernel
theorem dX5_sumOfLights_48 : decode cX5_sumOfLights 48 = .ok (.iload_n 2, 1) := by decide +kernel
theorem dX5_sumOfLights_49 : decode cX5_sumOfLights 49 = .ok (.ireturn, 1) := by decide +kernel
theorem dX5_greatestLightOf_0 : decode cX5_greatestLightOf 0 = .ok (.iconst 0, 1) := by decide +kernel
theorem dX5_greatestLightOf_1 : decode cX5_greatestLightOf 1 = .ok (.istore_n 2, 1) := by decide +kernel
theorem dX5_greatestLightOf_2 : decode cX5_greatestLightOf 2 = .ok (.iconst 0, 1) := by decide +kernel
theorem dX5_greatestLightOf_3 : decode cX5_greatestLightOf 3 = .ok (.istore_n 3, 1) := by decide +kernel
theorem dX5_greatestLightOf_4 : decode cX5_greatestLightOf 4 = .ok (.iload_n 3, 1) := by decide +kernel
theorem dX5_greatestLightOf_5 : decode cX5_greatestLightOf 5 = .ok (.aload_n 0, 1) := by decide +kernel
theorem dX5_greatestLightOf_6 : decode cX5_greatestLightOf 6 = .ok (.getfield 50, 3) := by decide +kernel
theorem dX5_greatestLightOf_9 : decode cX5_greatestLightOf 9 = .ok (.if_icmp .ge 41, 3) := by decide +kernel
theorem dX5_greatestLightOf_12 : decode cX5_greatestLightOf 12 = .ok (.aload_n 0, 1) := by decide +kernel
theorem dX5_greatestLightOf_13 : decode cX5_greatestLightOf 13 = .ok (.iload_n 1, 1) := by decide +kernel
theorem dX5_greatestLightOf_14 : decode cX5_greatestLightOf 14 = .ok (.iload_n 3, 1) := by decide +kernel
theorem dX5_greatestLightOf_15 : decode cX5_greatestLightOf 15 = .ok (.invokevirtual 100, 3) := by decide +kernel
theorem dX5_greatestLightOf_18 : decode cX5_greatestLightOf 18 = .ok (.ifCond .eq 24, 3) := by decide +kernel
theorem dX5_greatestLightOf_21 : decode cX5_greatestLightOf 21 = .ok (.iload_n 2, 1) := by decide +kernel
theorem dX5_greatestLightOf_22 : decode cX5_greatestLightOf 22 = .ok (.aload_n 0, 1) := by decide +kernel
theorem dX5_greatestLightOf_23 : decode cX5_greatestLightOf 23 = .ok (.getfield 23, 3) := by decide +kernel
theorem dX5_greatestLightOf_26 : decode cX5_greatestLightOf 26 = .ok (.sipush 384, 3) := by decide +kernel
theorem dX5_greatestLightOf_29 : decode cX5_greatestLightOf 29 = .ok (.iload_n 1, 1) := by decide +kernel
theorem dX5_greatestLightOf_30 : decode cX5_greatestLightOf 30 = .ok (.imul, 1) := by decide +kernel
theorem dX5_greatestLightOf_31 : decode cX5_greatestLightOf 31 = .ok (.iload_n 3, 1) := by decide +kernel
theorem dX5_greatestLightOf_32 : decode cX5_greatestLightOf 32 = .ok (.iadd, 1) := by decide +kernel
theorem dX5_greatestLightOf_33 : decode cX5_greatestLightOf 33 = .ok (.invokevirtual 93, 3) := by decide +kernel
theorem dX5_greatestLightOf_36 : decode cX5_greatestLightOf 36 = .ok (.invokestatic 111, 3) := by decide +kernel
theorem dX5_greatestLightOf_39 : decode cX5_greatestLightOf 39 = .ok (.goto 4, 3) := by decide +kernel
theorem dX5_greatestLightOf_42 : decode cX5_greatestLightOf 42 = .ok (.iload_n 2, 1) := by decide +kernel
theorem dX5_greatestLightOf_43 : decode cX5_greatestLightOf 43 = .ok (.istore_n 2, 1) := by decide +kernel
theorem dX5_greatestLightOf_44 : decode cX5_greatestLightOf 44 = .ok (.iinc 3 1, 3) := by decide +kernel
theorem dX5_greatestLightOf_47 : decode cX5_greatestLightOf 47 = .ok (.goto (-43), 3) := by decide +kernel
theorem dX5_greatestLightOf_50 : decode cX5_greatestLightOf 50 = .ok (.iload_n 2, 1) := by decide +kernel
theorem dX5_greatestLightOf_51 : decode cX5_greatestLightOf 51 = .ok (.ireturn, 1) := by decide +kernel
theorem dX5_loadOf_0 : decode cX5_loadOf 0 = .ok (.aload_n 0, 1) := by decide +kernel
theorem dX5_loadOf_1 : decode cX5_loadOf 1 = .ok (.iload_n 1, 1) := by decide +kernel
theorem dX5_loadOf_2 : decode cX5_loadOf 2 = .ok (.invokevirtual 116, 3) := by decide +kernel
theorem dX5_loadOf_5 : decode cX5_loadOf 5 = .ok (.iload_n 2, 1) := by decide +kernel
theorem dX5_loadOf_6 : decode cX5_loadOf 6 = .ok (.imul, 1) := by decide +kernel
theorem dX5_loadOf_7 : decode cX5_loadOf 7 = .ok (.istore_n 3, 1) := by decide +kernel
theorem dX5_loadOf_8 : decode cX5_loadOf 8 = .ok (.iload_n 3, 1) := by decide +kernel
theorem dX5_loadOf_9 : decode cX5_loadOf 9 = .ok (.ifCond .le 16, 3) := by decide +kernel
theorem dX5_loadOf_12 : decode cX5_loadOf 12 = .ok (.bipush 100, 2) := by decide +kernel
theorem dX5_loadOf_14 : decode cX5_loadOf 14 = .ok (.aload_n 0, 1) := by decide +kernel
theorem dX5_loadOf_15 : decode cX5_loadOf 15 = .ok (.iload_n 1, 1) := by decide +kernel
theorem dX5_loadOf_16 : decode cX5_loadOf 16 = .ok (.invokevirtual 119, 3) := by decide +kernel
theorem dX5_loadOf_19 : decode cX5_loadOf 19 = .ok (.imul, 1) := by decide +kernel
theorem dX5_loadOf_20 : decode cX5_loadOf 20 = .ok (.iload_n 3, 1) := by decide +kernel
theorem dX5_loadOf_21 : decode cX5_loadOf 21 = .ok (.idiv, 1) := by decide +kernel
theorem dX5_loadOf_22 : decode cX5_loadOf 22 = .ok (.goto 4, 3) := by decide +kernel
theorem dX5_loadOf_25 : decode cX5_loadOf 25 = .ok (.iconst 0, 1) := by decide +kernel
theorem dX5_loadOf_26 : decode cX5_loadOf 26 = .ok (.ireturn, 1) := by decide +kernel
theorem dX6_init_0 : decode cX6_init 0 = .ok (.aload_n 0, 1) := by decide +kernel
theorem dX6_init_1 : decode cX6_init 1 = .ok (.invokespecial 3, 3) := by decide +kernel
theorem dX6_init_4 : decode cX6_init 4 = .ok (.aload_n 0, 1) := by decide +kernel
theorem dX6_init_5 : decode cX6_init 5 = .ok (.new 9, 3) := by decide +kernel
theorem dX6_init_8 : decode cX6_init 8 = .ok (.dup, 1) := by decide +kernel
theorem dX6_init_9 : decode cX6_init 9 = .ok (.invokespecial 11, 3) := by decide +kernel
theorem dX6_init_12 : decode cX6_init 12 = .ok (.putfield 12, 3) := by decide +kernel
theorem dX6_init_15 : decode cX6_init 15 = .ok (.aload_n 0, 1) := by decide +kernel
theorem dX6_init_16 : decode cX6_init 16 = .ok (.new 16, 3) := by decide +kernel
theorem dX6_init_19 : decode cX6_init 19 = .ok (.dup, 1) := by decide +kernel
theorem dX6_init_20 : decode cX6_init 20 = .ok (.invokespecial 18, 3) := by decide +kernel
theorem dX6_init_23 : decode cX6_init 23 = .ok (.putfield 19, 3) := by decide +kernel
theorem dX6_init_26 : decode cX6_init 26 = .ok (.aload_n 0, 1) := by decide +kernel
theorem dX6_init_27 : decode cX6_init 27 = .ok (.new 23, 3) := by decide +kernel
theorem dX6_init_30 : decode cX6_init 30 = .ok (.dup, 1) := by decide +kernel
theorem dX6_init_31 : decode cX6_init 31 = .ok (.invokespecial 25, 3) := by decide +kernel
theorem dX6_init_34 : decode cX6_init 34 = .ok (.putfield 26, 3) := by decide +kernel
theorem dX6_init_37 : decode cX6_init 37 = .ok (.aload_n 0, 1) := by decide +kernel
theorem dX6_init_38 : decode cX6_init 38 = .ok (.new 30, 3) := by decide +kernel
theorem dX6_init_41 : decode cX6_init 41 = .ok (.dup, 1) := by decide +kernel
theorem dX6_init_42 : decode cX6_init 42 = .ok (.invokespecial 32, 3) := by decide +kernel
theorem dX6_init_45 : decode cX6_init 45 = .ok (.putfield 33, 3) := by decide +kernel
theorem dX6_init_48 : decode cX6_init 48 = .ok (.aload_n 0, 1) := by decide +kernel
theorem dX6_init_49 : decode cX6_init 49 = .ok (.new 37, 3) := by decide +kernel
theorem dX6_init_52 : decode cX6_init 52 = .ok (.dup, 1) := by decide +kernel
theorem dX6_init_53 : decode cX6_init 53 = .ok (.invokespecial 39, 3) := by decide +kernel
theorem dX6_init_56 : decode cX6_init 56 = .ok (.putfield 40, 3) := by decide +kernel
theorem dX6_init_59 : decode cX6_init 59 = .ok (.return_, 1) := by decide +kernel
theorem dX6_begin_0 : decode cX6_begin 0 = .ok (.iload_n 1, 1) := by decide +kernel
theorem dX6_begin_1 : decode cX6_begin 1 = .ok (.iload_n 2, 1) := by decide +kernel
theorem dX6_begin_2 : decode cX6_begin 2 = .ok (.invokestatic 44, 3) := by decide +kernel
theorem dX6_begin_5 : decode cX6_begin 5 = .ok (.invokestatic 48, 3) := by decide +kernel
theorem dX6_begin_8 : decode cX6_begin 8 = .ok (.aload_n 0, 1) := by decide +kernel
theorem dX6_begin_9 : decode cX6_begin 9 = .ok (.getfield 33, 3) := by decide +kernel
theorem dX6_begin_12 : decode cX6_begin 12 = .ok (.aload_n 0, 1) := by decide +kernel
theorem dX6_begin_13 : decode cX6_begin 13 = .ok (.getfield 12, 3) := by decide +kernel
theorem dX6_begin_16 : decode cX6_begin 16 = .ok (.invokevirtual 52, 3) := by decide +kernel
theorem dX6_begin_19 : decode cX6_begin 19 = .ok (.aload_n 0, 1) := by decide +kernel
theorem dX6_begin_20 : decode cX6_begin 20 = .ok (.getfield 12, 3) := by decide +kernel
theorem dX6_begin_23 : decode cX6_begin 23 = .ok (.invokevirtual 56, 3) := by decide +kernel
theorem dX6_begin_26 : decode cX6_begin 26 = .ok (.istore_n 3, 1) := by decide +kernel
theorem dX6_begin_27 : decode cX6_begin 27 = .ok (.aload_n 0, 1) := by decide +kernel
theorem dX6_begin_28 : decode cX6_begin 28 = .ok (.getfield 12, 3) := by decide +kernel
theorem dX6_begin_31 : decode cX6_begin 31 = .ok (.iload_n 1, 1) := by decide +kernel
theorem dX6_begin_32 : decode cX6_begin 32 = .ok (.iload_n 2, 1) := by decide +kernel
theorem dX6_begin_33 : decode cX6_begin 33 = .ok (.invokevirtual 60, 3) := by decide +kernel
theorem dX6_begin_36 : decode cX6_begin 36 = .ok (.iload_n 3, 1) := by decide +kernel
theorem dX6_begin_37 : decode cX6_begin 37 = .ok (.ireturn, 1) := by decide +kernel
theorem dX6_paint_0 : decode cX6_paint 0 = .ok (.aload_n 0, 1) := by decide +kernel
theorem dX6_paint_1 : decode cX6_paint 1 = .ok (.iload_n 1, 1) := by decide +kernel
theorem dX6_paint_2 : decode cX6_paint 2 = .ok (.iload_n 2, 1) := by decide +kernel
theorem dX6_paint_3 : decode cX6_paint 3 = .ok (.iload_n 3, 1) := by decide +kernel
theorem dX6_paint_4 : decode cX6_paint 4 = .ok (.iload 4, 2) := by decide +kernel
theorem dX6_paint_6 : decode cX6_paint 6 = .ok (.iload 5, 2) := by decide +kernel
theorem dX6_paint_8 : decode cX6_paint 8 = .ok (.invokevirtual 64, 3) := by decide +kernel
theorem dX6_paint_11 : decode cX6_paint 11 = .ok (.istore 6, 2) := by decide +kernel
theorem dX6_paint_13 : decode cX6_paint 13 = .ok (.iload 6, 2) := by decide +kernel
theorem dX6_paint_15 : decode cX6_paint 15 = .ok (.invokestatic 68, 3) := by decide +kernel
theorem dX6_paint_18 : decode cX6_paint 18 = .ok (.iload 6, 2) := by decide +kernel
theorem dX6_paint_20 : decode cX6_paint 20 = .ok (.invokestatic 48, 3) := by decide +kernel
theorem dX6_paint_23 : decode cX6_paint 23 = .ok (.aload_n 0, 1) := by decide +kernel
theorem dX6_paint_24 : decode cX6_paint 24 = .ok (.getfield 33, 3) := by decide +kernel
theorem dX6_paint_27 : decode cX6_paint 27 = .ok (.aload_n 0, 1) := by decide +kernel
theorem dX6_paint_28 : decode cX6_paint 28 = .ok (.getfield 12, 3) := by decide +kernel
theorem dX6_paint_31 : decode cX6_paint 31 = .ok (.invokevirtual 52, 3) := by decide +kernel
theorem dX6_paint_34 : decode cX6_paint 34 = .ok (.aload_n 0, 1) := by decide +kernel
theorem dX6_paint_35 : decode cX6_paint 35 = .ok (.getfield 12, 3) := by decide +kernel
theorem dX6_paint_38 : decode cX6_paint 38 = .ok (.iload_n 1, 1) := by decide +kernel
theorem dX6_paint_39 : decode cX6_paint 39 = .ok (.iload_n 2, 1) := by decide +kernel
theorem dX6_paint_40 : decode cX6_paint 40 = .ok (.iload_n 3, 1) := by decide +kernel
theorem dX6_paint_41 : decode cX6_paint 41 = .ok (.iload 4, 2) := by decide +kernel
theorem dX6_paint_43 : decode cX6_paint 43 = .ok (.iload 5, 2) := by decide +kernel
theorem dX6_paint_45 : decode cX6_paint 45 = .ok (.invokevirtual 71, 3) := by decide +kernel
theorem dX6_paint_48 : decode cX6_paint 48 = .ok (.ireturn, 1) := by decide +kernel
theorem dX6_addLamp_0 : decode cX6_addLamp 0 = .ok (.aload_n 0, 1) := by decide +kernel
theorem dX6_addLamp_1 : decode cX6_addLamp 1 = .ok (.iload_n 1, 1) := by decide +kernel
theorem dX6_addLamp_2 : decode cX6_addLamp 2 = .ok (.iload_n 2, 1) := by decide +kernel
theorem dX6_addLamp_3 : decode cX6_addLamp 3 = .ok (.invokevirtual 74, 3) := by decide +kernel
theorem dX6_addLamp_6 : decode cX6_addLamp 6 = .ok (.istore_n 3, 1) := by decide +kernel
theorem dX6_addLamp_7 : decode cX6_addLamp 7 = .ok (.iload_n 3, 1) := by decide +kernel
theorem dX6_addLamp_8 : decode cX6_addLamp 8 = .ok (.invokestatic 48, 3) := by decide +kernel
theorem dX6_addLamp_11 : decode cX6_addLamp 11 = .ok (.iload_n 3, 1) := by decide +kernel
theorem dX6_addLamp_12 : decode cX6_addLamp 12 = .ok (.invokestatic 77, 3) := by decide +kernel
theorem dX6_addLamp_15 : decode cX6_addLamp 15 = .ok (.aload_n 0, 1) := by decide +kernel
theorem dX6_addLamp_16 : decode cX6_addLamp 16 = .ok (.getfield 33, 3) := by decide +kernel
theorem dX6_addLamp_19 : decode cX6_addLamp 19 = .ok (.aload_n 0, 1) := by decide +kernel
theorem dX6_addLamp_20 : decode cX6_addLamp 20 = .ok (.getfield 12, 3) := by decide +kernel
theorem dX6_addLamp_23 : decode cX6_addLamp 23 = .ok (.invokevirtual 52, 3) := by decide +kernel
theorem dX6_addLamp_26 : decode cX6_addLamp 26 = .ok (.aload_n 0, 1) := by decide +kernel
theorem dX6_addLamp_27 : decode cX6_addLamp 27 = .ok (.getfield 12, 3) := by decide +kernel
theorem dX6_addLamp_30 : decode cX6_addLamp 30 = .ok (.iload_n 1, 1) := by decide +kernel
theorem dX6_addLamp_31 : decode cX6_addLamp 31 = .ok (.iload_n 2, 1) := by decide +kernel
theorem dX6_addLamp_32 : decode cX6_addLamp 32 = .ok (.invokevirtual 80, 3) := by decide +kernel
theorem dX6_addLamp_35 : decode cX6_addLamp 35 = .ok (.ireturn, 1) := by decide +kernel
theorem dX6_setCorner_0 : decode cX6_setCorner 0 = .ok (.aload_n 0, 1) := by decide +kernel
theorem dX6_setCorner_1 : decode cX6_setCorner 1 = .ok (.iload_n 1, 1) := by decide +kernel
theorem dX6_setCorner_2 : decode cX6_setCorner 2 = .ok (.iload_n 2, 1) := by decide +kernel
theorem dX6_setCorner_3 : decode cX6_setCorner 3 = .ok (.iload_n 3, 1) := by decide +kernel
theorem dX6_setCorner_4 : decode cX6_setCorner 4 = .ok (.iload 4, 2) := by decide +kernel
theorem dX6_setCorner_6 : decode cX6_setCorner 6 = .ok (.invokevirtual 83, 3) := by decide +kernel
theorem dX6_setCorner_9 : decode cX6_setCorner 9 = .ok (.istore 5, 2) := by decide +kernel
theorem dX6_setCorner_11 : decode cX6_setCorner 11 = .ok (.iload 5, 2) := by decide +kernel
theorem dX6_setCorner_13 : decode cX6_setCorner 13 = .ok (.invokestatic 68, 3) := by decide +kernel
theorem dX6_setCorner_16 : decode cX6_setCorner 16 = .ok (.iload 5, 2) := by decide +kernel
theorem dX6_setCorner_18 : decode cX6_setCorner 18 = .ok (.invokestatic 48, 3) := by decide +kernel
theorem dX6_setCorner_21 : decode cX6_setCorner 21 = .ok (.aload_n 0, 1) := by decide +kernel
theorem dX6_setCorner_22 : decode cX6_setCorner 22 = .ok (.getfield 33, 3) := by decide +kernel
theorem dX6_setCorner_25 : decode cX6_setCorner 25 = .ok (.aload_n 0, 1) := by decide +kernel
theorem dX6_setCorner_26 : decode cX6_setCorner 26 = .ok (.getfield 12, 3) := by decide +kernel
theorem dX6_setCorner_29 : decode cX6_setCorner 29 = .ok (.invokevirtual 52, 3) := by decide +kernel
theorem dX6_setCorner_32 : decode cX6_setCorner 32 = .ok (.aload_n 0, 1) := by decide +kernel
theorem dX6_setCorner_33 : decode cX6_setCorner 33 = .ok (.getfield 12, 3) := by decide +kernel
theorem dX6_setCorner_36 : decode cX6_setCorner 36 = .ok (.iload_n 1, 1) := by decide +kernel
theorem dX6_setCorner_37 : decode cX6_setCorner 37 = .ok (.iload_n 2, 1) := by decide +kernel
theorem dX6_setCorner_38 : decode cX6_setCorner 38 = .ok (.iload_n 3, 1) := by decide +kernel
theorem dX6_setCorner_39 : decode cX6_setCorner 39 = .ok (.iload 4, 2) := by decide +kernel
theorem dX6_setCorner_41 : decode cX6_setCorner 41 = .ok (.invokevirtual 87, 3) := by decide +kernel
theorem dX6_setCorner_44 : decode cX6_setCorner 44 = .ok (.aload_n 0, 1) := by decide +kernel
theorem dX6_setCorner_45 : decode cX6_setCorner 45 = .ok (.getfield 12, 3) := by decide +kernel
theorem dX6_setCorner_48 : decode cX6_setCorner 48 = .ok (.iload_n 1, 1) := by decide +kernel
theorem dX6_setCorner_49 : decode cX6_setCorner 49 = .ok (.invokevirtual 91, 3) := by decide +kernel
theorem dX6_setCorner_52 : decode cX6_setCorner 52 = .ok (.ifCond .eq 7, 3) := by decide +kernel
theorem dX6_setCorner_55 : decode cX6_setCorner 55 = .ok (.iconst 1, 1) := by decide +kernel
theorem dX6_setCorner_56 : decode cX6_setCorner 56 = .ok (.goto 4, 3) := by decide +kernel
theorem dX6_setCorner_59 : decode cX6_setCorner 59 = .ok (.iconst 0, 1) := by decide +kernel
theorem dX6_setCorner_60 : decode cX6_setCorner 60 = .ok (.ireturn, 1) := by decide +kernel
theorem dX6_setRectangle_0 : decode cX6_setRectangle 0 = .ok (.aload_n 0, 1) := by decide +kernel
theorem dX6_setRectangle_1 : decode cX6_setRectangle 1 = .ok (.iload_n 1, 1) := by decide +kernel
theorem dX6_setRectangle_2 : decode cX6_setRectangle 2 = .ok (.iload_n 2, 1) := by decide +kernel
theorem dX6_setRectangle_3 : decode cX6_setRectangle 3 = .ok (.iload_n 3, 1) := by decide +kernel
theorem dX6_setRectangle_4 : decode cX6_setRectangle 4 = .ok (.iload 4, 2) := by decide +kernel
theorem dX6_setRectangle_6 : decode cX6_setRectangle 6 = .ok (.iload 5, 2) := by decide +kernel
theorem dX6_setRectangle_8 : decode cX6_setRectangle 8 = .ok (.invokevirtual 95, 3) := by decide +kernel
theorem dX6_setRectangle_11 : decode cX6_setRectangle 11 = .ok (.istore 6, 2) := by decide +kernel
theorem dX6_setRectangle_13 : decode cX6_setRectangle 13 = .ok (.iload 6, 2) := by decide +kernel
theorem dX6_setRectangle_15 : decode cX6_setRectangle 15 = .ok (.invokestatic 68, 3) := by decide +kernel
theorem dX6_setRectangle_18 : decode cX6_setRectangle 18 = .ok (.iload 6, 2) := by decide +kernel
theorem dX6_setRectangle_20 : decode cX6_setRectangle 20 = .ok (.invokestatic 48, 3) := by decide +kernel
theorem dX6_setRectangle_23 : decode cX6_setRectangle 23 = .ok (.aload_n 0, 1) := by decide +kernel
theorem dX6_setRectangle_24 : decode cX6_setRectangle 24 = .ok (.getfield 33, 3) := by decide +kernel
theorem dX6_setRectangle_27 : decode cX6_setRectangle 27 = .ok (.aload_n 0, 1) := by decide +kernel
theorem dX6_setRectangle_28 : decode cX6_setRectangle 28 = .ok (.getfield 12, 3) := by decide +kernel
theorem dX6_setRectangle_31 : decode cX6_setRectangle 31 = .ok (.invokevirtual 52, 3) := by decide +kernel
theorem dX6_setRectangle_34 : decode cX6_setRectangle 34 = .ok (.aload_n 0, 1) := by decide +kernel
theorem dX6_setRectangle_35 : decode cX6_setRectangle 35 = .ok (.getfield 12, 3) := by decide +kernel
theorem dX6_setRectangle_38 : decode cX6_setRectangle 38 = .ok (.iload_n 1, 1) := by decide +kernel
theorem dX6_setRectangle_39 : decode cX6_setRectangle 39 = .ok (.iconst 0, 1) := by decide +kernel
theorem dX6_setRectangle_40 : decode cX6_setRectangle 40 = .ok (.iload_n 2, 1) := by decide +kernel
theorem dX6_setRectangle_41 : decode cX6_setRectangle 41 = .ok (.iload_n 3, 1) := by decide +kernel
theorem dX6_setRectangle_42 : decode cX6_setRectangle 42 = .ok (.invokevirtual 87, 3) := by decide +kernel
theorem dX6_setRectangle_45 : decode cX6_setRectangle 45 = .ok (.aload_n 0, 1) := by decide +kernel
theorem dX6_setRectangle_46 : decode cX6_setRectangle 46 = .ok (.getfield 12, 3) := by decide +kernel
theorem dX6_setRectangle_49 : decode cX6_setRectangle 49 = .ok (.iload_n 1, 1) := by decide +kernel
theorem dX6_setRectangle_50 : decode cX6_setRectangle 50 = .ok (.iconst 1, 1) := by decide +kernel
theorem dX6_setRectangle_51 : decode cX6_setRectangle 51 = .ok (.iload 4, 2) := by decide +kernel
theorem dX6_setRectangle_53 : decode cX6_setRectangle 53 = .ok (.iload_n 3, 1) := by decide +kernel
theorem dX6_setRectangle_54 : decode cX6_setRectangle 54 = .ok (.invokevirtual 87, 3) := by decide +kernel
theorem dX6_setRectangle_57 : decode cX6_setRectangle 57 = .ok (.aload_n 0, 1) := by decide +kernel
theorem dX6_setRectangle_58 : decode cX6_setRectangle 58 = .ok (.getfield 12, 3) := by decide +kernel
theorem dX6_setRectangle_61 : decode cX6_setRectangle 61 = .ok (.iload_n 1, 1) := by decide +kernel
theorem dX6_setRectangle_62 : decode cX6_setRectangle 62 = .ok (.iconst 2, 1) := by decide +kernel
theorem dX6_setRectangle_63 : decode cX6_setRectangle 63 = .ok (.iload 4, 2) := by decide +kernel
theorem dX6_setRectangle_65 : decode cX6_setRectangle 65 = .ok (.iload 5, 2) := by decide +kernel
theorem dX6_setRectangle_67 : decode cX6_setRectangle 67 = .ok (.invokevirtual 87, 3) := by decide +kernel
theorem dX6_setRectangle_70 : decode cX6_setRectangle 70 = .ok (.aload_n 0, 1) := by decide +kernel
theorem dX6_setRectangle_71 : decode cX6_setRectangle 71 = .ok (.getfield 12, 3) := by decide +kernel
theorem dX6_setRectangle_74 : decode cX6_setRectangle 74 = .ok (.iload_n 1, 1) := by decide +kernel
theorem dX6_setRectangle_75 : decode cX6_setRectangle 75 = .ok (.iconst 3, 1) := by decide +kernel
theorem dX6_setRectangle_76 : decode cX6_setRectangle 76 = .ok (.iload_n 2, 1) := by decide +kernel
theorem dX6_setRectangle_77 : decode cX6_setRectangle 77 = .ok (.iload 5, 2) := by decide +kernel
theorem dX6_setRectangle_79 : decode cX6_setRectangle 79 = .ok (.invokevirtual 87, 3) := by decide +kernel
theorem dX6_setRectangle_82 : decode cX6_setRectangle 82 = .ok (.aload_n 0, 1) := by decide +kernel
theorem dX6_setRectangle_83 : decode cX6_setRectangle 83 = .ok (.getfield 19, 3) := by decide +kernel
theorem dX6_setRectangle_86 : decode cX6_setRectangle 86 = .ok (.aload_n 0, 1) := by decide +kernel
theorem dX6_setRectangle_87 : decode cX6_setRectangle 87 = .ok (.getfield 12, 3) := by decide +kernel
theorem dX6_setRectangle_90 : decode cX6_setRectangle 90 = .ok (.invokevirtual 98, 3) := by decide +kernel
theorem dX6_setRectangle_93 : decode cX6_setRectangle 93 = .ok (.aload_n 0, 1) := by decide +kernel
theorem dX6_setRectangle_94 : decode cX6_setRectangle 94 = .ok (.getfield 19, 3) := by decide +kernel
theorem dX6_setRectangle_97 : decode cX6_setRectangle 97 = .ok (.iload_n 1, 1) := by decide +kernel
theorem dX6_setRectangle_98 : decode cX6_setRectangle 98 = .ok (.invokevirtual 101, 3) := by decide +kernel
theorem dX6_setRectangle_101 : decode cX6_setRectangle 101 = .ok (.ireturn, 1) := by decide +kernel
theorem dX6_setLamp_0 : decode cX6_setLamp 0 = .ok (.aload_n 0, 1) := by decide +kernel
theorem dX6_setLamp_1 : decode cX6_setLamp 1 = .ok (.iload_n 1, 1) := by decide +kernel
theorem dX6_setLamp_2 : decode cX6_setLamp 2 = .ok (.iload_n 2, 1) := by decide +kernel
theorem dX6_setLamp_3 : decode cX6_setLamp 3 = .ok (.iload_n 3, 1) := by decide +kernel
theorem dX6_setLamp_4 : decode cX6_setLamp 4 = .ok (.invokevirtual 105, 3) := by decide +kernel
theorem dX6_setLamp_7 : decode cX6_setLamp 7 = .ok (.istore 4, 2) := by decide +kernel
theorem dX6_setLamp_9 : decode cX6_setLamp 9 = .ok (.iload 4, 2) := by decide +kernel
theorem dX6_setLamp_11 : decode cX6_setLamp 11 = .ok (.invokestatic 68, 3) := by decide +kernel
theorem dX6_setLamp_14 : decode cX6_setLamp 14 = .ok (.iload 4, 2) := by decide +kernel
theorem dX6_setLamp_16 : decode cX6_setLamp 16 = .ok (.invokestatic 48, 3) := by decide +kernel
theorem dX6_setLamp_19 : decode cX6_setLamp 19 = .ok (.aload_n 0, 1) := by decide +kernel
theorem dX6_setLamp_20 : decode cX6_setLamp 20 = .ok (.getfield 33, 3) := by decide +kernel
theorem dX6_setLamp_23 : decode cX6_setLamp 23 = .ok (.aload_n 0, 1) := by decide +kernel
theorem dX6_setLamp_24 : decode cX6_setLamp 24 = .ok (.getfield 12, 3) := by decide +kernel
theorem dX6_setLamp_27 : decode cX6_setLamp 27 = .ok (.invokevirtual 52, 3) := by decide +kernel
theorem dX6_setLamp_30 : decode cX6_setLamp 30 = .ok (.aload_n 0, 1) := by decide +kernel
theorem dX6_setLamp_31 : decode cX6_setLamp 31 = .ok (.iload_n 1, 1) := by decide +kernel
theorem dX6_setLamp_32 : decode cX6_setLamp 32 = .ok (.iload_n 2, 1) := by decide +kernel
theorem dX6_setLamp_33 : decode cX6_setLamp 33 = .ok (.invokevirtual 109, 3) := by decide +kernel
theorem dX6_setLamp_36 : decode cX6_setLamp 36 = .ok (.istore 5, 2) := by decide +kernel
theorem dX6_setLamp_38 : decode cX6_setLamp 38 = .ok (.aload_n 0, 1) := by decide +kernel
theorem dX6_setLamp_39 : decode cX6_setLamp 39 = .ok (.getfield 12, 3) := by decide +kernel
theorem dX6_setLamp_42 : decode cX6_setLamp 42 = .ok (.iload_n 1, 1) := by decide +kernel
theorem dX6_setLamp_43 : decode cX6_setLamp 43 = .ok (.iload_n 2, 1) := by decide +kernel
theorem dX6_setLamp_44 : decode cX6_setLamp 44 = .ok (.iload_n 3, 1) := by decide +kernel
theorem dX6_setLamp_45 : decode cX6_setLamp 45 = .ok (.invokevirtual 112, 3) := by decide +kernel
theorem dX6_setLamp_48 : decode cX6_setLamp 48 = .ok (.iload 5, 2) := by decide +kernel
theorem dX6_setLamp_50 : decode cX6_setLamp 50 = .ok (.ireturn, 1) := by decide +kernel
theorem dX6_setWorks_0 : decode cX6_setWorks 0 = .ok (.aload_n 0, 1) := by decide +kernel
theorem dX6_setWorks_1 : decode cX6_setWorks 1 = .ok (.iload_n 1, 1) := by decide +kernel
theorem dX6_setWorks_2 : decode cX6_setWorks 2 = .ok (.invokevirtual 116, 3) := by decide +kernel
theorem dX6_setWorks_5 : decode cX6_setWorks 5 = .ok (.invokestatic 68, 3) := by decide +kernel
theorem dX6_setWorks_8 : decode cX6_setWorks 8 = .ok (.aload_n 0, 1) := by decide +kernel
theorem dX6_setWorks_9 : decode cX6_setWorks 9 = .ok (.getfield 33, 3) := by decide +kernel
theorem dX6_setWorks_12 : decode cX6_setWorks 12 = .ok (.aload_n 0, 1) := by decide +kernel
theorem dX6_setWorks_13 : decode cX6_setWorks 13 = .ok (.getfield 12, 3) := by decide +kernel
theorem dX6_setWorks_16 : decode cX6_setWorks 16 = .ok (.invokevirtual 52, 3) := by decide +kernel
theorem dX6_setWorks_19 : decode cX6_setWorks 19 = .ok (.aload_n 0, 1) := by decide +kernel
theorem dX6_setWorks_20 : decode cX6_setWorks 20 = .ok (.getfield 12, 3) := by decide +kernel
theorem dX6_setWorks_23 : decode cX6_setWorks 23 = .ok (.iload_n 1, 1) := by decide +kernel
theorem dX6_setWorks_24 : decode cX6_setWorks 24 = .ok (.invokevirtual 119, 3) := by decide +kernel
theorem dX6_setWorks_27 : decode cX6_setWorks 27 = .ok (.ifCond .eq 7, 3) := by decide +kernel
theorem dX6_setWorks_30 : decode cX6_setWorks 30 = .ok (.iconst 1, 1) := by decide +kernel
theorem dX6_setWorks_31 : decode cX6_setWorks 31 = .ok (.goto 4, 3) := by decide +kernel
theorem dX6_setWorks_34 : decode cX6_setWorks 34 = .ok (.iconst 0, 1) := by decide +kernel
theorem dX6_setWorks_35 : decode cX6_setWorks 35 = .ok (.istore_n 3, 1) := by decide +kernel
theorem dX6_setWorks_36 : decode cX6_setWorks 36 = .ok (.aload_n 0, 1) := by decide +kernel
theorem dX6_setWorks_37 : decode cX6_setWorks 37 = .ok (.getfield 12, 3) := by decide +kernel
theorem dX6_setWorks_40 : decode cX6_setWorks 40 = .ok (.iload_n 1, 1) := by decide +kernel
theorem dX6_setWorks_41 : decode cX6_setWorks 41 = .ok (.iload_n 2, 1) := by decide +kernel
theorem dX6_setWorks_42 : decode cX6_setWorks 42 = .ok (.invokevirtual 122, 3) := by decide +kernel
theorem dX6_setWorks_45 : decode cX6_setWorks 45 = .ok (.iload_n 3, 1) := by decide +kernel
theorem dX6_setWorks_46 : decode cX6_setWorks 46 = .ok (.ireturn, 1) := by decide +kernel
theorem dX6_shift_0 : decode cX6_shift 0 = .ok (.iload_n 1, 1) := by decide +kernel
theorem dX6_shift_1 : decode cX6_shift 1 = .ok (.iload_n 2, 1) := by decide +kernel
theorem dX6_shift_2 : decode cX6_shift 2 = .ok (.invokestatic 126, 3) := by decide +kernel
theorem dX6_shift_5 : decode cX6_shift 5 = .ok (.invokestatic 48, 3) := by decide +kernel
theorem dX6_shift_8 : decode cX6_shift 8 = .ok (.aload_n 0, 1) := by decide +kernel
theorem dX6_shift_9 : decode cX6_shift 9 = .ok (.getfield 33, 3) := by decide +kernel
theorem dX6_shift_12 : decode cX6_shift 12 = .ok (.aload_n 0, 1) := by decide +kernel
theorem dX6_shift_13 : decode cX6_shift 13 = .ok (.getfield 12, 3) := by decide +kernel
theorem dX6_shift_16 : decode cX6_shift 16 = .ok (.invokevirtual 52, 3) := by decide +kernel
theorem dX6_shift_19 : decode cX6_shift 19 = .ok (.aload_n 0, 1) := by decide +kernel
theorem dX6_shift_20 : decode cX6_shift 20 = .ok (.getfield 12, 3) := by decide +kernel
theorem dX6_shift_23 : decode cX6_shift 23 = .ok (.iload_n 1, 1) := by decide +kernel
theorem dX6_shift_24 : decode cX6_shift 24 = .ok (.iload_n 2, 1) := by decide +kernel
theorem dX6_shift_25 : decode cX6_shift 25 = .ok (.invokevirtual 129, 3) := by decide +kernel
theorem dX6_shift_28 : decode cX6_shift 28 = .ok (.aload_n 0, 1) := by decide +kernel
theorem dX6_shift_29 : decode cX6_shift 29 = .ok (.getfield 19, 3) := by decide +kernel
theorem dX6_shift_32 : decode cX6_shift 32 = .ok (.aload_n 0, 1) := by decide +kernel
theorem dX6_shift_33 : decode cX6_shift 33 = .ok (.getfield 12, 3) := by decide +kernel
theorem dX6_shift_36 : decode cX6_shift 36 = .ok (.invokevirtual 98, 3) := by decide +kernel
theorem dX6_shift_39 : decode cX6_shift 39 = .ok (.aload_n 0, 1) := by decide +kernel
theorem dX6_shift_40 : decode cX6_shift 40 = .ok (.getfield 19, 3) := by decide +kernel
theorem dX6_shift_43 : decode cX6_shift 43 = .ok (.invokevirtual 132, 3) := by decide +kernel
theorem dX6_shift_46 : decode cX6_shift 46 = .ok (.ireturn, 1) := by decide +kernel
theorem dX6_burn_0 : decode cX6_burn 0 = .ok (.iload_n 1, 1) := by decide +kernel
theorem dX6_burn_1 : decode cX6_burn 1 = .ok (.invokestatic 135, 3) := by decide +kernel
theorem dX6_burn_4 : decode cX6_burn 4 = .ok (.invokestatic 48, 3) := by decide +kernel
theorem dX6_burn_7 : decode cX6_burn 7 = .ok (.aload_n 0, 1) := by decide +kernel
theorem dX6_burn_8 : decode cX6_burn 8 = .ok (.getfield 33, 3) := by decide +kernel
theorem dX6_burn_11 : decode cX6_burn 11 = .ok (.aload_n 0, 1) := by decide +kernel
theorem dX6_burn_12 : decode cX6_burn 12 = .ok (.getfield 12, 3) := by decide +kernel
theorem dX6_burn_15 : decode cX6_burn 15 = .ok (.invokevirtual 52, 3) := by decide +kernel
theorem dX6_burn_18 : decode cX6_burn 18 = .ok (.aload_n 0, 1) := by decide +kernel
theorem dX6_burn_19 : decode cX6_burn 19 = .ok (.iload_n 1, 1) := by decide +kernel
theorem dX6_burn_20 : decode cX6_burn 20 = .ok (.invokevirtual 138, 3) := by decide +kernel
theorem dX6_burn_23 : decode cX6_burn 23 = .ok (.aload_n 0, 1) := by decide +kernel
theorem dX6_burn_24 : decode cX6_burn 24 = .ok (.getfield 12, 3) := by decide +kernel
theorem dX6_burn_27 : decode cX6_burn 27 = .ok (.invokevirtual 141, 3) := by decide +kernel
theorem dX6_burn_30 : decode cX6_burn 30 = .ok (.ireturn, 1) := by decide +kernel
theorem dX6_place_0 : decode cX6_place 0 = .ok (.aload_n 0, 1) := by decide +kernel
theorem dX6_place_1 : decode cX6_place 1 = .ok (.iload_n 1, 1) := by decide +kernel
theorem dX6_place_2 : decode cX6_place 2 = .ok (.iload_n 2, 1) := by decide +kernel
theorem dX6_place_3 : decode cX6_place 3 = .ok (.invokevirtual 144, 3) := by decide +kernel
theorem dX6_place_6 : decode cX6_place 6 = .ok (.invokestatic 68, 3) := by decide +kernel
theorem dX6_place_9 : decode cX6_place 9 = .ok (.iload_n 3, 1) := by decide +kernel
theorem dX6_place_10 : decode cX6_place 10 = .ok (.iconst 0, 1) := by decide +kernel
theorem dX6_place_11 : decode cX6_place 11 = .ok (.iconst 5, 1) := by decide +kernel
theorem dX6_place_12 : decode cX6_place 12 = .ok (.invokestatic 147, 3) := by decide +kernel
theorem dX6_place_15 : decode cX6_place 15 = .ok (.invokestatic 48, 3) := by decide +kernel
theorem dX6_place_18 : decode cX6_place 18 = .ok (.aload_n 0, 1) := by decide +kernel
theorem dX6_place_19 : decode cX6_place 19 = .ok (.aload_n 0, 1) := by decide +kernel
theorem dX6_place_20 : decode cX6_place 20 = .ok (.getfield 12, 3) := by decide +kernel
theorem dX6_place_23 : decode cX6_place 23 = .ok (.iload_n 1, 1) := by decide +kernel
theorem dX6_place_24 : decode cX6_place 24 = .ok (.iload_n 2, 1) := by decide +kernel
theorem dX6_place_25 : decode cX6_place 25 = .ok (.invokevirtual 150, 3) := by decide +kernel
theorem dX6_place_28 : decode cX6_place 28 = .ok (.iload_n 3, 1) := by decide +kernel
theorem dX6_place_29 : decode cX6_place 29 = .ok (.invokevirtual 153, 3) := by decide +kernel
theorem dX6_place_32 : decode cX6_place 32 = .ok (.ireturn, 1) := by decide +kernel
theorem dX6_light_0 : decode cX6_light 0 = .ok (.aload_n 0, 1) := by decide +kernel
theorem dX6_light_1 : decode cX6_light 1 = .ok (.iload_n 1, 1) := by decide +kernel
theorem dX6_light_2 : decode cX6_light 2 = .ok (.invokevirtual 116, 3) := by decide +kernel
theorem dX6_light_5 : decode cX6_light 5 = .ok (.invokestatic 68, 3) := by decide +kernel
theorem dX6_light_8 : decode cX6_light 8 = .ok (.aload_n 0, 1) := by decide +kernel
theorem dX6_light_9 : decode cX6_light 9 = .ok (.iload_n 2, 1) := by decide +kernel
theorem dX6_light_10 : decode cX6_light 10 = .ok (.iload_n 3, 1) := by decide +kernel
theorem dX6_light_11 : decode cX6_light 11 = .ok (.invokevirtual 144, 3) := by decide +kernel
theorem dX6_light_14 : decode cX6_light 14 = .ok (.invokestatic 68, 3) := by decide +kernel
theorem dX6_light_17 : decode cX6_light 17 = .ok (.aload_n 0, 1) := by decide +kernel
theorem dX6_light_18 : decode cX6_light 18 = .ok (.getfield 19, 3) := by decide +kernel
theorem dX6_light_21 : decode cX6_light 21 = .ok (.aload_n 0, 1) := by decide +kernel
theorem dX6_light_22 : decode cX6_light 22 = .ok (.getfield 12, 3) := by decide +kernel
theorem dX6_light_25 : decode cX6_light 25 = .ok (.invokevirtual 98, 3) := by decide +kernel
theorem dX6_light_28 : decode cX6_light 28 = .ok (.aload_n 0, 1) := by decide +kernel
theorem dX6_light_29 : decode cX6_light 29 = .ok (.getfield 19, 3) := by decide +kernel
theorem dX6_light_32 : decode cX6_light 32 = .ok (.iload_n 1, 1) := by decide +kernel
theorem dX6_light_33 : decode cX6_light 33 = .ok (.aload_n 0, 1) := by decide +kernel
theorem dX6_light_34 : decode cX6_light 34 = .ok (.getfield 12, 3) := by decide +kernel
theorem dX6_light_37 : decode cX6_light 37 = .ok (.iload_n 2, 1) := by decide +kernel
theorem dX6_light_38 : decode cX6_light 38 = .ok (.iload_n 3, 1) := by decide +kernel
theorem dX6_light_39 : decode cX6_light 39 = .ok (.invokevirtual 150, 3) := by decide +kernel
theorem dX6_light_42 : decode cX6_light 42 = .ok (.invokevirtual 156, 3) := by decide +kernel
theorem dX6_light_45 : decode cX6_light 45 = .ok (.ireturn, 1) := by decide +kernel
theorem dX6_weight_0 : decode cX6_weight 0 = .ok (.aload_n 0, 1) := by decide +kernel
theorem dX6_weight_1 : decode cX6_weight 1 = .ok (.iload_n 1, 1) := by decide +kernel
theorem dX6_weight_2 : decode cX6_weight 2 = .ok (.invokevirtual 116, 3) := by decide +kernel
theorem dX6_weight_5 : decode cX6_weight 5 = .ok (.invokestatic 68, 3) := by decide +kernel
theorem dX6_weight_8 : decode cX6_weight 8 = .ok (.aload_n 0, 1) := by decide +kernel
theorem dX6_weight_9 : decode cX6_weight 9 = .ok (.iload_n 2, 1) := by decide +kernel
theorem dX6_weight_10 : decode cX6_weight 10 = .ok (.iload_n 3, 1) := by decide +kernel
theorem dX6_weight_11 : decode cX6_weight 11 = .ok (.invokevirtual 144, 3) := by decide +kernel
theorem dX6_weight_14 : decode cX6_weight 14 = .ok (.invokestatic 68, 3) := by decide +kernel
theorem dX6_weight_17 : decode cX6_weight 17 = .ok (.aload_n 0, 1) := by decide +kernel
theorem dX6_weight_18 : decode cX6_weight 18 = .ok (.getfield 19, 3) := by decide +kernel
theorem dX6_weight_21 : decode cX6_weight 21 = .ok (.aload_n 0, 1) := by decide +kernel
theorem dX6_weight_22 : decode cX6_weight 22 = .ok (.getfield 12, 3) := by decide +kernel
theorem dX6_weight_25 : decode cX6_weight 25 = .ok (.invokevirtual 98, 3) := by decide +kernel
theorem dX6_weight_28 : decode cX6_weight 28 = .ok (.aload_n 0, 1) := by decide +kernel
theorem dX6_weight_29 : decode cX6_weight 29 = .ok (.getfield 19, 3) := by decide +kernel
theorem dX6_weight_32 : decode cX6_weight 32 = .ok (.iload_n 1, 1) := by decide +kernel
theorem dX6_weight_33 : decode cX6_weight 33 = .ok (.aload_n 0, 1) := by decide +kernel
theorem dX6_weight_34 : decode cX6_weight 34 = .ok (.getfield 12, 3) := by decide +kernel
theorem dX6_weight_37 : decode cX6_weight 37 = .ok (.iload_n 2, 1) := by decide +kernel
theorem dX6_weight_38 : decode cX6_weight 38 = .ok (.iload_n 3, 1) := by decide +kernel
theorem dX6_weight_39 : decode cX6_weight 39 = .ok (.invokevirtual 150, 3) := by decide +kernel
theorem dX6_weight_42 : decode cX6_weight 42 = .ok (.invokevirtual 159, 3) := by decide +kernel
theorem dX6_weight_45 : decode cX6_weight 45 = .ok (.ifCond .ne 7, 3) := by decide +kernel
theorem dX6_weight_48 : decode cX6_weight 48 = .ok (.sipush (-1000), 3) := by decide +kernel
theorem dX6_weight_51 : decode cX6_weight 51 = .ok (.ireturn, 1) := by decide +kernel
theorem dX6_weight_52 : decode cX6_weight 52 = .ok (.aload_n 0, 1) := by decide +kernel
theorem dX6_weight_53 : decode cX6_weight 53 = .ok (.getfield 12, 3) := by decide +kernel
theorem dX6_weight_56 : decode cX6_weight 56 = .ok (.iload_n 1, 1) := by decide +kernel
theorem dX6_weight_57 : decode cX6_weight 57 = .ok (.iload_n 2, 1) := by decide +kernel
theorem dX6_weight_58 : decode cX6_weight 58 = .ok (.aload_n 0, 1) := by decide +kernel
theorem dX6_weight_59 : decode cX6_weight 59 = .ok (.getfield 12, 3) := by decide +kernel
theorem dX6_weight_62 : decode cX6_weight 62 = .ok (.getfield 163, 3) := by decide +kernel
theorem dX6_weight_65 : decode cX6_weight 65 = .ok (.invokestatic 167, 3) := by decide +kernel
theorem dX6_weight_68 : decode cX6_weight 68 = .ok (.iload_n 3, 1) := by decide +kernel
theorem dX6_weight_69 : decode cX6_weight 69 = .ok (.aload_n 0, 1) := by decide +kernel
theorem dX6_weight_70 : decode cX6_weight 70 = .ok (.getfield 12, 3) := by decide +kernel
theorem dX6_weight_73 : decode cX6_weight 73 = .ok (.getfield 170, 3) := by decide +kernel
theorem dX6_weight_76 : decode cX6_weight 76 = .ok (.invokestatic 167, 3) := by decide +kernel
theorem dX6_weight_79 : decode cX6_weight 79 = .ok (.invokevirtual 173, 3) := by decide +kernel
theorem dX6_weight_82 : decode cX6_weight 82 = .ok (.ireturn, 1) := by decide +kernel
theorem dX6_lamp_0 : decode cX6_lamp 0 = .ok (.aload_n 0, 1) := by decide +kernel
theorem dX6_lamp_1 : decode cX6_lamp 1 = .ok (.iload_n 1, 1) := by decide +kernel
theorem dX6_lamp_2 : decode cX6_lamp 2 = .ok (.invokevirtual 116, 3) := by decide +kernel
theorem dX6_lamp_5 : decode cX6_lamp 5 = .ok (.invokestatic 68, 3) := by decide +kernel
theorem dX6_lamp_8 : decode cX6_lamp 8 = .ok (.iload_n 2, 1) := by decide +kernel
theorem dX6_lamp_9 : decode cX6_lamp 9 = .ok (.iconst 0, 1) := by decide +kernel
theorem dX6_lamp_10 : decode cX6_lamp 10 = .ok (.bipush 11, 2) := by decide +kernel
theorem dX6_lamp_12 : decode cX6_lamp 12 = .ok (.invokestatic 147, 3) := by decide +kernel
theorem dX6_lamp_15 : decode cX6_lamp 15 = .ok (.invokestatic 48, 3) := by decide +kernel
theorem dX6_lamp_18 : decode cX6_lamp 18 = .ok (.aload_n 0, 1) := by decide +kernel
theorem dX6_lamp_19 : decode cX6_lamp 19 = .ok (.iload_n 1, 1) := by decide +kernel
theorem dX6_lamp_20 : decode cX6_lamp 20 = .ok (.iload_n 2, 1) := by decide +kernel
theorem dX6_lamp_21 : decode cX6_lamp 21 = .ok (.invokevirtual 109, 3) := by decide +kernel
theorem dX6_lamp_24 : decode cX6_lamp 24 = .ok (.ireturn, 1) := by decide +kernel
theorem dX6_corner_0 : decode cX6_corner 0 = .ok (.aload_n 0, 1) := by decide +kernel
theorem dX6_corner_1 : decode cX6_corner 1 = .ok (.iload_n 1, 1) := by decide +kernel
theorem dX6_corner_2 : decode cX6_corner 2 = .ok (.invokevirtual 116, 3) := by decide +kernel
theorem dX6_corner_5 : decode cX6_corner 5 = .ok (.invokestatic 68, 3) := by decide +kernel
theorem dX6_corner_8 : decode cX6_corner 8 = .ok (.iload_n 2, 1) := by decide +kernel
theorem dX6_corner_9 : decode cX6_corner 9 = .ok (.iconst 0, 1) := by decide +kernel
theorem dX6_corner_10 : decode cX6_corner 10 = .ok (.iconst 3, 1) := by decide +kernel
theorem dX6_corner_11 : decode cX6_corner 11 = .ok (.invokestatic 176, 3) := by decide +kernel
theorem dX6_corner_14 : decode cX6_corner 14 = .ok (.ifCond .eq 7, 3) := by decide +kernel
theorem dX6_corner_17 : decode cX6_corner 17 = .ok (.iconst 0, 1) := by decide +kernel
theorem dX6_corner_18 : decode cX6_corner 18 = .ok (.goto 4, 3) := by decide +kernel
theorem dX6_corner_21 : decode cX6_corner 21 = .ok (.iconst 1, 1) := by decide +kernel
theorem dX6_corner_22 : decode cX6_corner 22 = .ok (.invokestatic 68, 3) := by decide +kernel
theorem dX6_corner_25 : decode cX6_corner 25 = .ok (.iload_n 3, 1) := by decide +kernel
theorem dX6_corner_26 : decode cX6_corner 26 = .ok (.iconst 0, 1) := by decide +kernel
theorem dX6_corner_27 : decode cX6_corner 27 = .ok (.iconst 1, 1) := by decide +kernel
theorem dX6_corner_28 : decode cX6_corner 28 = .ok (.invokestatic 147, 3) := by decide +kernel
theorem dX6_corner_31 : decode cX6_corner 31 = .ok (.invokestatic 48, 3) := by decide +kernel
theorem dX6_corner_34 : decode cX6_corner 34 = .ok (.aload_n 0, 1) := by decide +kernel
theorem dX6_corner_35 : decode cX6_corner 35 = .ok (.getfield 12, 3) := by decide +kernel
theorem dX6_corner_38 : decode cX6_corner 38 = .ok (.iload_n 1, 1) := by decide +kernel
theorem dX6_corner_39 : decode cX6_corner 39 = .ok (.iload_n 2, 1) := by decide +kernel
theorem dX6_corner_40 : decode cX6_corner 40 = .ok (.iload_n 3, 1) := by decide +kernel
theorem dX6_corner_41 : decode cX6_corner 41 = .ok (.invokevirtual 180, 3) := by decide +kernel
theorem dX6_corner_44 : decode cX6_corner 44 = .ok (.ireturn, 1) := by decide +kernel
theorem dX6_whole_0 : decode cX6_whole 0 = .ok (.iload_n 1, 1) := by decide +kernel
theorem dX6_whole_1 : decode cX6_whole 1 = .ok (.iconst 0, 1) := by decide +kernel
theorem dX6_whole_2 : decode cX6_whole 2 = .ok (.bipush 14, 2) := by decide +kernel
theorem dX6_whole_4 : decode cX6_whole 4 = .ok (.invokestatic 147, 3) := by decide +kernel
theorem dX6_whole_7 : decode cX6_whole 7 = .ok (.invokestatic 48, 3) := by decide +kernel
theorem dX6_whole_10 : decode cX6_whole 10 = .ok (.aload_n 0, 1) := by decide +kernel
theorem dX6_whole_11 : decode cX6_whole 11 = .ok (.iload_n 1, 1) := by decide +kernel
theorem dX6_whole_12 : decode cX6_whole 12 = .ok (.invokevirtual 183, 3) := by decide +kernel
theorem dX6_whole_15 : decode cX6_whole 15 = .ok (.ireturn, 1) := by decide +kernel
theorem dX6_wrong_0 : decode cX6_wrong 0 = .ok (.iload_n 1, 1) := by decide +kernel
theorem dX6_wrong_1 : decode cX6_wrong 1 = .ok (.ifCond .lt 7, 3) := by decide +kernel
theorem dX6_wrong_4 : decode cX6_wrong 4 = .ok (.iconst 0, 1) := by decide +kernel
theorem dX6_wrong_5 : decode cX6_wrong 5 = .ok (.goto 4, 3) := by decide +kernel
theorem dX6_wrong_8 : decode cX6_wrong 8 = .ok (.iconst 2, 1) := by decide +kernel
theorem dX6_wrong_9 : decode cX6_wrong 9 = .ok (.invokestatic 48, 3) := by decide +kernel
theorem dX6_wrong_12 : decode cX6_wrong 12 = .ok (.aload_n 0, 1) := by decide +kernel
theorem dX6_wrong_13 : decode cX6_wrong 13 = .ok (.getfield 19, 3) := by decide +kernel
theorem dX6_wrong_16 : decode cX6_wrong 16 = .ok (.aload_n 0, 1) := by decide +kernel
theorem dX6_wrong_17 : decode cX6_wrong 17 = .ok (.getfield 12, 3) := by decide +kernel
theorem dX6_wrong_20 : decode cX6_wrong 20 = .ok (.invokevirtual 98, 3) := by decide +kernel
theorem dX6_wrong_23 : decode cX6_wrong 23 = .ok (.iload_n 1, 1) := by decide +kernel
theorem dX6_wrong_24 : decode cX6_wrong 24 = .ok (.istore_n 2, 1) := by decide +kernel
theorem dX6_wrong_25 : decode cX6_wrong 25 = .ok (.iconst 0, 1) := by decide +kernel
theorem dX6_wrong_26 : decode cX6_wrong 26 = .ok (.istore_n 3, 1) := by decide +kernel
theorem dX6_wrong_27 : decode cX6_wrong 27 = .ok (.iload_n 3, 1) := by decide +kernel
theorem dX6_wrong_28 : decode cX6_wrong 28 = .ok (.aload_n 0, 1) := by decide +kernel
theorem dX6_wrong_29 : decode cX6_wrong 29 = .ok (.getfield 12, 3) := by decide +kernel
theorem dX6_wrong_32 : decode cX6_wrong 32 = .ok (.getfield 186, 3) := by decide +kernel
theorem dX6_wrong_35 : decode cX6_wrong 35 = .ok (.if_icmp .ge 65, 3) := by decide +kernel
theorem dX6_wrong_38 : decode cX6_wrong 38 = .ok (.iconst 0, 1) := by decide +kernel
theorem dX6_wrong_39 : decode cX6_wrong 39 = .ok (.istore 4, 2) := by decide +kernel
theorem dX6_wrong_41 : decode cX6_wrong 41 = .ok (.iload 4, 2) := by decide +kernel
theorem dX6_wrong_43 : decode cX6_wrong 43 = .ok (.aload_n 0, 1) := by decide +kernel
theorem dX6_wrong_44 : decode cX6_wrong 44 = .ok (.getfield 12, 3) := by decide +kernel
theorem dX6_wrong_47 : decode cX6_wrong 47 = .ok (.getfield 189, 3) := by decide +kernel
theorem dX6_wrong_50 : decode cX6_wrong 50 = .ok (.if_icmp .ge 44, 3) := by decide +kernel
theorem dX6_wrong_53 : decode cX6_wrong 53 = .ok (.aload_n 0, 1) := by decide +kernel
theorem dX6_wrong_54 : decode cX6_wrong 54 = .ok (.getfield 19, 3) := by decide +kernel
theorem dX6_wrong_57 : decode cX6_wrong 57 = .ok (.aload_n 0, 1) := by decide +kernel
theorem dX6_wrong_58 : decode cX6_wrong 58 = .ok (.getfield 12, 3) := by decide +kernel
theorem dX6_wrong_61 : decode cX6_wrong 61 = .ok (.iload 4, 2) := by decide +kernel
theorem dX6_wrong_63 : decode cX6_wrong 63 = .ok (.iload_n 3, 1) := by decide +kernel
theorem dX6_wrong_64 : decode cX6_wrong 64 = .ok (.invokevirtual 150, 3) := by decide +kernel
theorem dX6_wrong_67 : decode cX6_wrong 67 = .ok (.invokevirtual 192, 3) := by decide +kernel
theorem dX6_wrong_70 : decode cX6_wrong 70 = .ok (.ifCond .eq 18, 3) := by decide +kernel
theorem dX6_wrong_73 : decode cX6_wrong 73 = .ok (.iload_n 2, 1) := by decide +kernel
theorem dX6_wrong_74 : decode cX6_wrong 74 = .ok (.ifCond .ne 11, 3) := by decide +kernel
theorem dX6_wrong_77 : decode cX6_wrong 77 = .ok (.bipush 100, 2) := by decide +kernel
theorem dX6_wrong_79 : decode cX6_wrong 79 = .ok (.iload_n 3, 1) := by decide +kernel
theorem dX6_wrong_80 : decode cX6_wrong 80 = .ok (.imul, 1) := by decide +kernel
theorem dX6_wrong_81 : decode cX6_wrong 81 = .ok (.iload 4, 2) := by decide +kernel
theorem dX6_wrong_83 : decode cX6_wrong 83 = .ok (.iadd, 1) := by decide +kernel
theorem dX6_wrong_84 : decode cX6_wrong 84 = .ok (.ireturn, 1) := by decide +kernel
theorem dX6_wrong_85 : decode cX6_wrong 85 = .ok (.iinc 2 (-1), 3) := by decide +kernel
theorem dX6_wrong_88 : decode cX6_wrong 88 = .ok (.iinc 4 1, 3) := by decide +kernel
theorem dX6_wrong_91 : decode cX6_wrong 91 = .ok (.goto (-50), 3) := by decide +kernel
theorem dX6_wrong_94 : decode cX6_wrong 94 = .ok (.iinc 3 1, 3) := by decide +kernel
theorem dX6_wrong_97 : decode cX6_wrong 97 = .ok (.goto (-70), 3) := by decide +kernel
theorem dX6_wrong_100 : decode cX6_wrong 100 = .ok (.sipush (-1000), 3) := by decide +kernel
theorem dX6_wrong_103 : decode cX6_wrong 103 = .ok (.ireturn, 1) := by decide +kernel
theorem dX6_wrongWithout_0 : decode cX6_wrongWithout 0 = .ok (.aload_n 0, 1) := by decide +kernel
theorem dX6_wrongWithout_1 : decode cX6_wrongWithout 1 = .ok (.iload_n 1, 1) := by decide +kernel
theorem dX6_wrongWithout_2 : decode cX6_wrongWithout 2 = .ok (.invokevirtual 116, 3) := by decide +kernel
theorem dX6_wrongWithout_5 : decode cX6_wrongWithout 5 = .ok (.invokestatic 68, 3) := by decide +kernel
theorem dX6_wrongWithout_8 : decode cX6_wrongWithout 8 = .ok (.aload_n 0, 1) := by decide +kernel
theorem dX6_wrongWithout_9 : decode cX6_wrongWithout 9 = .ok (.iload_n 1, 1) := by decide +kernel
theorem dX6_wrongWithout_10 : decode cX6_wrongWithout 10 = .ok (.invokevirtual 195, 3) := by decide +kernel
theorem dX6_wrongWithout_13 : decode cX6_wrongWithout 13 = .ok (.ireturn, 1) := by decide +kernel
theorem dX6_dearestLamp_0 : decode cX6_dearestLamp 0 = .ok (.sipush (-1000), 3) := by decide +kernel
theorem dX6_dearestLamp_3 : decode cX6_dearestLamp 3 = .ok (.istore_n 1, 1) := by decide +kernel
theorem dX6_dearestLamp_4 : decode cX6_dearestLamp 4 = .ok (.iconst (-1), 1) := by decide +kernel
theorem dX6_dearestLamp_5 : decode cX6_dearestLamp 5 = .ok (.istore_n 2, 1) := by decide +kernel
theorem dX6_dearestLamp_6 : decode cX6_dearestLamp 6 = .ok (.iconst 0, 1) := by decide +kernel
theorem dX6_dearestLamp_7 : decode cX6_dearestLamp 7 = .ok (.istore_n 3, 1) := by decide +kernel
theorem dX6_dearestLamp_8 : decode cX6_dearestLamp 8 = .ok (.iload_n 3, 1) := by decide +kernel
theorem dX6_dearestLamp_9 : decode cX6_dearestLamp 9 = .ok (.aload_n 0, 1) := by decide +kernel
theorem dX6_dearestLamp_10 : decode cX6_dearestLamp 10 = .ok (.getfield 12, 3) := by decide +kernel
theorem dX6_dearestLamp_13 : decode cX6_dearestLamp 13 = .ok (.getfield 198, 3) := by decide +kernel
theorem dX6_dearestLamp_16 : decode cX6_dearestLamp 16 = .ok (.if_icmp .ge 27, 3) := by decide +kernel
theorem dX6_dearestLamp_19 : decode cX6_dearestLamp 19 = .ok (.aload_n 0, 1) := by decide +kernel
theorem dX6_dearestLamp_20 : decode cX6_dearestLamp 20 = .ok (.iload_n 3, 1) := by decide +kernel
theorem dX6_dearestLamp_21 : decode cX6_dearestLamp 21 = .ok (.invokevirtual 195, 3) := by decide +kernel
theorem dX6_dearestLamp_24 : decode cX6_dearestLamp 24 = .ok (.istore 4, 2) := by decide +kernel
theorem dX6_dearestLamp_26 : decode cX6_dearestLamp 26 = .ok (.iload 4, 2) := by decide +kernel
theorem dX6_dearestLamp_28 : decode cX6_dearestLamp 28 = .ok (.iload_n 2, 1) := by decide +kernel
theorem dX6_dearestLamp_29 : decode cX6_dearestLamp 29 = .ok (.if_icmp .le 8, 3) := by decide +kernel
theorem dX6_dearestLamp_32 : decode cX6_dearestLamp 32 = .ok (.iload 4, 2) := by decide +kernel
theorem dX6_dearestLamp_34 : decode cX6_dearestLamp 34 = .ok (.istore_n 2, 1) := by decide +kernel
theorem dX6_dearestLamp_35 : decode cX6_dearestLamp 35 = .ok (.iload_n 3, 1) := by decide +kernel
theorem dX6_dearestLamp_36 : decode cX6_dearestLamp 36 = .ok (.istore_n 1, 1) := by decide +kernel
theorem dX6_dearestLamp_37 : decode cX6_dearestLamp 37 = .ok (.iinc 3 1, 3) := by decide +kernel
theorem dX6_dearestLamp_40 : decode cX6_dearestLamp 40 = .ok (.goto (-32), 3) := by decide +kernel
theorem dX6_dearestLamp_43 : decode cX6_dearestLamp 43 = .ok (.iload_n 1, 1) := by decide +kernel
theorem dX6_dearestLamp_44 : decode cX6_dearestLamp 44 = .ok (.ireturn, 1) := by decide +kernel
theorem dX6_wrongShifted_0 : decode cX6_wrongShifted 0 = .ok (.iload_n 1, 1) := by decide +kernel
theorem dX6_wrongShifted_1 : decode cX6_wrongShifted 1 = .ok (.iload_n 2, 1) := by decide +kernel
theorem dX6_wrongShifted_2 : decode cX6_wrongShifted 2 = .ok (.invokestatic 126, 3) := by decide +kernel
theorem dX6_wrongShifted_5 : decode cX6_wrongShifted 5 = .ok (.invokestatic 48, 3) := by decide +kernel
theorem dX6_wrongShifted_8 : decode cX6_wrongShifted 8 = .ok (.aload_n 0, 1) := by decide +kernel
theorem dX6_wrongShifted_9 : decode cX6_wrongShifted 9 = .ok (.getfield 26, 3) := by decide +kernel
theorem dX6_wrongShifted_12 : decode cX6_wrongShifted 12 = .ok (.aload_n 0, 1) := by decide +kernel
theorem dX6_wrongShifted_13 : decode cX6_wrongShifted 13 = .ok (.getfield 12, 3) := by decide +kernel
theorem dX6_wrongShifted_16 : decode cX6_wrongShifted 16 = .ok (.aload_n 0, 1) := by decide +kernel
theorem dX6_wrongShifted_17 : decode cX6_wrongShifted 17 = .ok (.getfield 12, 3) := by decide +kernel
theorem dX6_wrongShifted_20 : decode cX6_wrongShifted 20 = .ok (.invokevirtual 201, 3) := by decide +kernel
theorem dX6_wrongShifted_23 : decode cX6_wrongShifted 23 = .ok (.iload_n 1, 1) := by decide +kernel
theorem dX6_wrongShifted_24 : decode cX6_wrongShifted 24 = .ok (.iload_n 2, 1) := by decide +kernel
theorem dX6_wrongShifted_25 : decode cX6_wrongShifted 25 = .ok (.invokevirtual 204, 3) := by decide +kernel
theorem dX6_wrongShifted_28 : decode cX6_wrongShifted 28 = .ok (.ireturn, 1) := by decide +kernel
theorem dX6_bestShift_0 : decode cX6_bestShift 0 = .ok (.iload_n 1, 1) := by decide +kernel
theorem dX6_bestShift_1 : decode cX6_bestShift 1 = .ok (.iconst 0, 1) := by decide +kernel
theorem dX6_bestShift_2 : decode cX6_bestShift 2 = .ok (.iconst 3, 1) := by decide +kernel
theorem dX6_bestShift_3 : decode cX6_bestShift 3 = .ok (.invokestatic 147, 3) := by decide +kernel
theorem dX6_bestShift_6 : decode cX6_bestShift 6 = .ok (.invokestatic 48, 3) := by decide +kernel
theorem dX6_bestShift_9 : decode cX6_bestShift 9 = .ok (.aload_n 0, 1) := by decide +kernel
theorem dX6_bestShift_10 : decode cX6_bestShift 10 = .ok (.getfield 12, 3) := by decide +kernel
theorem dX6_bestShift_13 : decode cX6_bestShift 13 = .ok (.invokevirtual 201, 3) := by decide +kernel
theorem dX6_bestShift_16 : decode cX6_bestShift 16 = .ok (.istore_n 2, 1) := by decide +kernel
theorem dX6_bestShift_17 : decode cX6_bestShift 17 = .ok (.iconst 0, 1) := by decide +kernel
theorem dX6_bestShift_18 : decode cX6_bestShift 18 = .ok (.istore_n 3, 1) := by decide +kernel
theorem dX6_bestShift_19 : decode cX6_bestShift 19 = .ok (.sipush 385, 3) := by decide +kernel
theorem dX6_bestShift_22 : decode cX6_bestShift 22 = .ok (.istore 4, 2) := by decide +kernel
theorem dX6_bestShift_24 : decode cX6_bestShift 24 = .ok (.iload_n 1, 1) := by decide +kernel
theorem dX6_bestShift_25 : decode cX6_bestShift 25 = .ok (.ineg, 1) := by decide +kernel
theorem dX6_bestShift_26 : decode cX6_bestShift 26 = .ok (.istore 5, 2) := by decide +kernel
theorem dX6_bestShift_28 : decode cX6_bestShift 28 = .ok (.iload 5, 2) := by decide +kernel
theorem dX6_bestShift_30 : decode cX6_bestShift 30 = .ok (.iload_n 1, 1) := by decide +kernel
theorem dX6_bestShift_31 : decode cX6_bestShift 31 = .ok (.if_icmp .gt 69, 3) := by decide +kernel
theorem dX6_bestShift_34 : decode cX6_bestShift 34 = .ok (.iload_n 1, 1) := by decide +kernel
theorem dX6_bestShift_35 : decode cX6_bestShift 35 = .ok (.ineg, 1) := by decide +kernel
theorem dX6_bestShift_36 : decode cX6_bestShift 36 = .ok (.istore 6, 2) := by decide +kernel
theorem dX6_bestShift_38 : decode cX6_bestShift 38 = .ok (.iload 6, 2) := by decide +kernel
theorem dX6_bestShift_40 : decode cX6_bestShift 40 = .ok (.iload_n 1, 1) := by decide +kernel
theorem dX6_bestShift_41 : decode cX6_bestShift 41 = .ok (.if_icmp .gt 53, 3) := by decide +kernel
theorem dX6_bestShift_44 : decode cX6_bestShift 44 = .ok (.aload_n 0, 1) := by decide +kernel
theorem dX6_bestShift_45 : decode cX6_bestShift 45 = .ok (.getfield 26, 3) := by decide +kernel
theorem dX6_bestShift_48 : decode cX6_bestShift 48 = .ok (.aload_n 0, 1) := by decide +kernel
theorem dX6_bestShift_49 : decode cX6_bestShift 49 = .ok (.getfield 12, 3) := by decide +kernel
theorem dX6_bestShift_52 : decode cX6_bestShift 52 = .ok (.iload_n 2, 1) := by decide +kernel
theorem dX6_bestShift_53 : decode cX6_bestShift 53 = .ok (.iload 6, 2) := by decide +kernel
theorem dX6_bestShift_55 : decode cX6_bestShift 55 = .ok (.iload 5, 2) := by decide +kernel
theorem dX6_bestShift_57 : decode cX6_bestShift 57 = .ok (.invokevirtual 204, 3) := by decide +kernel
theorem dX6_bestShift_60 : decode cX6_bestShift 60 = .ok (.istore 7, 2) := by decide +kernel
theorem dX6_bestShift_62 : decode cX6_bestShift 62 = .ok (.iload 7, 2) := by decide +kernel
theorem dX6_bestShift_64 : decode cX6_bestShift 64 = .ok (.iload 4, 2) := by decide +kernel
theorem dX6_bestShift_66 : decode cX6_bestShift 66 = .ok (.if_icmp .ge 22, 3) := by decide +kernel
theorem dX6_bestShift_69 : decode cX6_bestShift 69 = .ok (.iload 7, 2) := by decide +kernel
theorem dX6_bestShift_71 : decode cX6_bestShift 71 = .ok (.istore 4, 2) := by decide +kernel
theorem dX6_bestShift_73 : decode cX6_bestShift 73 = .ok (.bipush 100, 2) := by decide +kernel
theorem dX6_bestShift_75 : decode cX6_bestShift 75 = .ok (.iload 5, 2) := by decide +kernel
theorem dX6_bestShift_77 : decode cX6_bestShift 77 = .ok (.bipush 10, 2) := by decide +kernel
theorem dX6_bestShift_79 : decode cX6_bestShift 79 = .ok (.iadd, 1) := by decide +kernel
theorem dX6_bestShift_80 : decode cX6_bestShift 80 = .ok (.imul, 1) := by decide +kernel
theorem dX6_bestShift_81 : decode cX6_bestShift 81 = .ok (.iload 6, 2) := by decide +kernel
theorem dX6_bestShift_83 : decode cX6_bestShift 83 = .ok (.bipush 10, 2) := by decide +kernel
theorem dX6_bestShift_85 : decode cX6_bestShift 85 = .ok (.iadd, 1) := by decide +kernel
theorem dX6_bestShift_86 : decode cX6_bestShift 86 = .ok (.iadd, 1) := by decide +kernel
theorem dX6_bestShift_87 : decode cX6_bestShift 87 = .ok (.istore_n 3, 1) := by decide +kernel
theorem dX6_bestShift_88 : decode cX6_bestShift 88 = .ok (.iinc 6 1, 3) := by decide +kernel
theorem dX6_bestShift_91 : decode cX6_bestShift 91 = .ok (.goto (-53), 3) := by decide +kernel
theorem dX6_bestShift_94 : decode cX6_bestShift 94 = .ok (.iinc 5 1, 3) := by decide +kernel
theorem dX6_bestShift_97 : decode cX6_bestShift 97 = .ok (.goto (-69), 3) := by decide +kernel
theorem dX6_bestShift_100 : decode cX6_bestShift 100 = .ok (.iload_n 3, 1) := by decide +kernel
theorem dX6_bestShift_101 : decode cX6_bestShift 101 = .ok (.ireturn, 1) := by decide +kernel
theorem dX6_neededLimit_0 : decode cX6_neededLimit 0 = .ok (.aload_n 0, 1) := by decide +kernel
theorem dX6_neededLimit_1 : decode cX6_neededLimit 1 = .ok (.iload_n 1, 1) := by decide +kernel
theorem dX6_neededLimit_2 : decode cX6_neededLimit 2 = .ok (.invokevirtual 116, 3) := by decide +kernel
theorem dX6_neededLimit_5 : decode cX6_neededLimit 5 = .ok (.invokestatic 68, 3) := by decide +kernel
theorem dX6_neededLimit_8 : decode cX6_neededLimit 8 = .ok (.aload_n 0, 1) := by decide +kernel
theorem dX6_neededLimit_9 : decode cX6_neededLimit 9 = .ok (.getfield 19, 3) := by decide +kernel
theorem dX6_neededLimit_12 : decode cX6_neededLimit 12 = .ok (.aload_n 0, 1) := by decide +kernel
theorem dX6_neededLimit_13 : decode cX6_neededLimit 13 = .ok (.getfield 12, 3) := by decide +kernel
theorem dX6_neededLimit_16 : decode cX6_neededLimit 16 = .ok (.invokevirtual 98, 3) := by decide +kernel
theorem dX6_neededLimit_19 : decode cX6_neededLimit 19 = .ok (.iconst 0, 1) := by decide +kernel
theorem dX6_neededLimit_20 : decode cX6_neededLimit 20 = .ok (.istore_n 2, 1) := by decide +kernel
theorem dX6_neededLimit_21 : decode cX6_neededLimit 21 = .ok (.iconst 0, 1) := by decide +kernel
theorem dX6_neededLimit_22 : decode cX6_neededLimit 22 = .ok (.istore_n 3, 1) := by decide +kernel
theorem dX6_neededLimit_23 : decode cX6_neededLimit 23 = .ok (.iload_n 3, 1) := by decide +kernel
theorem dX6_neededLimit_24 : decode cX6_neededLimit 24 = .ok (.aload_n 0, 1) := by decide +kernel
theorem dX6_neededLimit_25 : decode cX6_neededLimit 25 = .ok (.getfield 12, 3) := by decide +kernel
theorem dX6_neededLimit_28 : decode cX6_neededLimit 28 = .ok (.invokevirtual 56, 3) := by decide +kernel
theorem dX6_neededLimit_31 : decode cX6_neededLimit 31 = .ok (.if_icmp .ge 57, 3) := by decide +kernel
theorem dX6_neededLimit_34 : decode cX6_neededLimit 34 = .ok (.aload_n 0, 1) := by decide +kernel
theorem dX6_neededLimit_35 : decode cX6_neededLimit 35 = .ok (.getfield 19, 3) := by decide +kernel
theorem dX6_neededLimit_38 : decode cX6_neededLimit 38 = .ok (.iload_n 1, 1) := by decide +kernel
theorem dX6_neededLimit_39 : decode cX6_neededLimit 39 = .ok (.iload_n 3, 1) := by decide +kernel
theorem dX6_neededLimit_40 : decode cX6_neededLimit 40 = .ok (.invokevirtual 159, 3) := by decide +kernel
theorem dX6_neededLimit_43 : decode cX6_neededLimit 43 = .ok (.ifCond .eq 39, 3) := by decide +kernel
theorem dX6_neededLimit_46 : decode cX6_neededLimit 46 = .ok (.aload_n 0, 1) := by decide +kernel
theorem dX6_neededLimit_47 : decode cX6_neededLimit 47 = .ok (.getfield 19, 3) := by decide +kernel
theorem dX6_neededLimit_50 : decode cX6_neededLimit 50 = .ok (.iload_n 1, 1) := by decide +kernel
theorem dX6_neededLimit_51 : decode cX6_neededLimit 51 = .ok (.iload_n 3, 1) := by decide +kernel
theorem dX6_neededLimit_52 : decode cX6_neededLimit 52 = .ok (.invokevirtual 156, 3) := by decide +kernel
theorem dX6_neededLimit_55 : decode cX6_neededLimit 55 = .ok (.aload_n 0, 1) := by decide +kernel
theorem dX6_neededLimit_56 : decode cX6_neededLimit 56 = .ok (.getfield 12, 3) := by decide +kernel
theorem dX6_neededLimit_59 : decode cX6_neededLimit 59 = .ok (.iload_n 3, 1) := by decide +kernel
theorem dX6_neededLimit_60 : decode cX6_neededLimit 60 = .ok (.invokevirtual 208, 3) := by decide +kernel
theorem dX6_neededLimit_63 : decode cX6_neededLimit 63 = .ok (.iadd, 1) := by decide +kernel
theorem dX6_neededLimit_64 : decode cX6_neededLimit 64 = .ok (.aload_n 0, 1) := by decide +kernel
theorem dX6_neededLimit_65 : decode cX6_neededLimit 65 = .ok (.getfield 19, 3) := by decide +kernel
theorem dX6_neededLimit_68 : decode cX6_neededLimit 68 = .ok (.iload_n 3, 1) := by decide +kernel
theorem dX6_neededLimit_69 : decode cX6_neededLimit 69 = .ok (.invokevirtual 211, 3) := by decide +kernel
theorem dX6_neededLimit_72 : decode cX6_neededLimit 72 = .ok (.isub, 1) := by decide +kernel
theorem dX6_neededLimit_73 : decode cX6_neededLimit 73 = .ok (.istore 4, 2) := by decide +kernel
theorem dX6_neededLimit_75 : decode cX6_neededLimit 75 = .ok (.iload_n 2, 1) := by decide +kernel
theorem dX6_neededLimit_76 : decode cX6_neededLimit 76 = .ok (.iload 4, 2) := by decide +kernel
theorem dX6_neededLimit_78 : decode cX6_neededLimit 78 = .ok (.invokestatic 214, 3) := by decide +kernel
theorem dX6_neededLimit_81 : decode cX6_neededLimit 81 = .ok (.istore_n 2, 1) := by decide +kernel
theorem dX6_neededLimit_82 : decode cX6_neededLimit 82 = .ok (.iinc 3 1, 3) := by decide +kernel
theorem dX6_neededLimit_85 : decode cX6_neededLimit 85 = .ok (.goto (-62), 3) := by decide +kernel
theorem dX6_neededLimit_88 : decode cX6_neededLimit 88 = .ok (.iload_n 2, 1) := by decide +kernel
theorem dX6_neededLimit_89 : decode cX6_neededLimit 89 = .ok (.ireturn, 1) := by decide +kernel
theorem dX6_type_0 : decode cX6_type 0 = .ok (.iload_n 1, 1) := by decide +kernel
theorem dX6_type_1 : decode cX6_type 1 = .ok (.iconst 0, 1) := by decide +kernel
theorem dX6_type_2 : decode cX6_type 2 = .ok (.bipush 127, 2) := by decide +kernel
theorem dX6_type_4 : decode cX6_type 4 = .ok (.invokestatic 147, 3) := by decide +kernel
theorem dX6_type_7 : decode cX6_type 7 = .ok (.invokestatic 48, 3) := by decide +kernel
theorem dX6_type_10 : decode cX6_type 10 = .ok (.aload_n 0, 1) := by decide +kernel
theorem dX6_type_11 : decode cX6_type 11 = .ok (.getfield 40, 3) := by decide +kernel
theorem dX6_type_14 : decode cX6_type 14 = .ok (.getfield 219, 3) := by decide +kernel
theorem dX6_type_17 : decode cX6_type 17 = .ok (.sipush 150, 3) := by decide +kernel
theorem dX6_type_20 : decode cX6_type 20 = .ok (.if_icmp .ge 7, 3) := by decide +kernel
theorem dX6_type_23 : decode cX6_type 23 = .ok (.iconst 0, 1) := by decide +kernel
theorem dX6_type_24 : decode cX6_type 24 = .ok (.goto 4, 3) := by decide +kernel
theorem dX6_type_27 : decode cX6_type 27 = .ok (.iconst 3, 1) := by decide +kernel
theorem dX6_type_28 : decode cX6_type 28 = .ok (.invokestatic 77, 3) := by decide +kernel
theorem dX6_type_31 : decode cX6_type 31 = .ok (.aload_n 0, 1) := by decide +kernel
theorem dX6_type_32 : decode cX6_type 32 = .ok (.getfield 40, 3) := by decide +kernel
theorem dX6_type_35 : decode cX6_type 35 = .ok (.iload_n 1, 1) := by decide +kernel
theorem dX6_type_36 : decode cX6_type 36 = .ok (.invokevirtual 222, 3) := by decide +kernel
theorem dX6_type_39 : decode cX6_type 39 = .ok (.ireturn, 1) := by decide +kernel
theorem dX6_clearCommands_0 : decode cX6_clearCommands 0 = .ok (.aload_n 0, 1) := by decide +kernel
theorem dX6_clearCommands_1 : decode cX6_clearCommands 1 = .ok (.getfield 40, 3) := by decide +kernel
theorem dX6_clearCommands_4 : decode cX6_clearCommands 4 = .ok (.invokevirtual 225, 3) := by decide +kernel
theorem dX6_clearCommands_7 : decode cX6_clearCommands 7 = .ok (.ireturn, 1) := by decide +kernel
theorem dX6_runCommands_0 : decode cX6_runCommands 0 = .ok (.aload_n 0, 1) := by decide +kernel
theorem dX6_runCommands_1 : decode cX6_runCommands 1 = .ok (.getfield 40, 3) := by decide +kernel
theorem dX6_runCommands_4 : decode cX6_runCommands 4 = .ok (.invokevirtual 228, 3) := by decide +kernel
theorem dX6_runCommands_7 : decode cX6_runCommands 7 = .ok (.istore_n 1, 1) := by decide +kernel
theorem dX6_runCommands_8 : decode cX6_runCommands 8 = .ok (.iload_n 1, 1) := by decide +kernel
theorem dX6_runCommands_9 : decode cX6_runCommands 9 = .ok (.ifCond .lt 8, 3) := by decide +kernel
theorem dX6_runCommands_12 : decode cX6_runCommands 12 = .ok (.bipush (-10), 2) := by decide +kernel
theorem dX6_runCommands_14 : decode cX6_runCommands 14 = .ok (.iload_n 1, 1) := by decide +kernel
theorem dX6_runCommands_15 : decode cX6_runCommands 15 = .ok (.isub, 1) := by decide +kernel
theorem dX6_runCommands_16 : decode cX6_runCommands 16 = .ok (.ireturn, 1) := by decide +kernel
theorem dX6_runCommands_17 : decode cX6_runCommands 17 = .ok (.aload_n 0, 1) := by decide +kernel
theorem dX6_runCommands_18 : decode cX6_runCommands 18 = .ok (.getfield 33, 3) := by decide +kernel
theorem dX6_runCommands_21 : decode cX6_runCommands 21 = .ok (.aload_n 0, 1) := by decide +kernel
theorem dX6_runCommands_22 : decode cX6_runCommands 22 = .ok (.getfield 12, 3) := by decide +kernel
theorem dX6_runCommands_25 : decode cX6_runCommands 25 = .ok (.invokevirtual 52, 3) := by decide +kernel
theorem dX6_runCommands_28 : decode cX6_runCommands 28 = .ok (.aload_n 0, 1) := by decide +kernel
theorem dX6_runCommands_29 : decode cX6_runCommands 29 = .ok (.getfield 40, 3) := by decide +kernel
theorem dX6_runCommands_32 : decode cX6_runCommands 32 = .ok (.invokevirtual 231, 3) := by decide +kernel
theorem dX6_runCommands_35 : decode cX6_runCommands 35 = .ok (.iconst 0, 1) := by decide +kernel
theorem dX6_runCommands_36 : decode cX6_runCommands 36 = .ok (.istore_n 2, 1) := by decide +kernel
theorem dX6_runCommands_37 : decode cX6_runCommands 37 = .ok (.iconst 0, 1) := by decide +kernel
theorem dX6_runCommands_38 : decode cX6_runCommands 38 = .ok (.istore_n 3, 1) := by decide +kernel
theorem dX6_runCommands_39 : decode cX6_runCommands 39 = .ok (.iload_n 3, 1) := by decide +kernel
theorem dX6_runCommands_40 : decode cX6_runCommands 40 = .ok (.sipush 150, 3) := by decide +kernel
theorem dX6_runCommands_43 : decode cX6_runCommands 43 = .ok (.if_icmp .ge 32, 3) := by decide +kernel
theorem dX6_runCommands_46 : decode cX6_runCommands 46 = .ok (.aload_n 0, 1) := by decide +kernel
theorem dX6_runCommands_47 : decode cX6_runCommands 47 = .ok (.getfield 40, 3) := by decide +kernel
theorem dX6_runCommands_50 : decode cX6_runCommands 50 = .ok (.invokevirtual 234, 3) := by decide +kernel
theorem dX6_runCommands_53 : decode cX6_runCommands 53 = .ok (.ifCond .eq 22, 3) := by decide +kernel
theorem dX6_runCommands_56 : decode cX6_runCommands 56 = .ok (.aload_n 0, 1) := by decide +kernel
theorem dX6_runCommands_57 : decode cX6_runCommands 57 = .ok (.invokevirtual 238, 3) := by decide +kernel
theorem dX6_runCommands_60 : decode cX6_runCommands 60 = .ok (.ifCond .ne 6, 3) := by decide +kernel
theorem dX6_runCommands_63 : decode cX6_runCommands 63 = .ok (.goto 12, 3) := by decide +kernel
theorem dX6_runCommands_66 : decode cX6_runCommands 66 = .ok (.iinc 2 1, 3) := by decide +kernel
theorem dX6_runCommands_69 : decode cX6_runCommands 69 = .ok (.iinc 3 1, 3) := by decide +kernel
theorem dX6_runCommands_72 : decode cX6_runCommands 72 = .ok (.goto (-33), 3) := by decide +kernel
theorem dX6_runCommands_75 : decode cX6_runCommands 75 = .ok (.iload_n 2, 1) := by decide +kernel
theorem dX6_runCommands_76 : decode cX6_runCommands 76 = .ok (.ireturn, 1) := by decide +kernel
theorem dX6_undo_0 : decode cX6_undo 0 = .ok (.aload_n 0, 1) := by decide +kernel
theorem dX6_undo_1 : decode cX6_undo 1 = .ok (.getfield 33, 3) := by decide +kernel
theorem dX6_undo_4 : decode cX6_undo 4 = .ok (.getfield 241, 3) := by decide +kernel
theorem dX6_undo_7 : decode cX6_undo 7 = .ok (.ifCond .le 7, 3) := by decide +kernel
theorem dX6_undo_10 : decode cX6_undo 10 = .ok (.iconst 0, 1) := by decide +kernel
theorem dX6_undo_11 : decode cX6_undo 11 = .ok (.goto 4, 3) := by decide +kernel
theorem dX6_undo_14 : decode cX6_undo 14 = .ok (.iconst 3, 1) := by decide +kernel
theorem dX6_undo_15 : decode cX6_undo 15 = .ok (.invokestatic 77, 3) := by decide +kernel
theorem dX6_undo_18 : decode cX6_undo 18 = .ok (.aload_n 0, 1) := by decide +kernel
theorem dX6_undo_19 : decode cX6_undo 19 = .ok (.getfield 33, 3) := by decide +kernel
theorem dX6_undo_22 : decode cX6_undo 22 = .ok (.aload_n 0, 1) := by decide +kernel
theorem dX6_undo_23 : decode cX6_undo 23 = .ok (.getfield 12, 3) := by decide +kernel
theorem dX6_undo_26 : decode cX6_undo 26 = .ok (.invokevirtual 244, 3) := by decide +kernel
theorem dX6_undo_29 : decode cX6_undo 29 = .ok (.aload_n 0, 1) := by decide +kernel
theorem dX6_undo_30 : decode cX6_undo 30 = .ok (.getfield 33, 3) := by decide +kernel
theorem dX6_undo_33 : decode cX6_undo 33 = .ok (.getfield 241, 3) := by decide +kernel
theorem dX6_undo_36 : decode cX6_undo 36 = .ok (.ireturn, 1) := by decide +kernel
theorem dX6_digest_0 : decode cX6_digest 0 = .ok (.ldc2_w 247, 3) := by decide +kernel
theorem dX6_digest_3 : decode cX6_digest 3 = .ok (.lstore_n 1, 1) := by decide +kernel
theorem dX6_digest_4 : decode cX6_digest 4 = .ok (.ldc2_w 249, 3) := by decide +kernel
theorem dX6_digest_7 : decode cX6_digest 7 = .ok (.lload_n 1, 1) := by decide +kernel
theorem dX6_digest_8 : decode cX6_digest 8 = .ok (.lmul, 1) := by decide +kernel
theorem dX6_digest_9 : decode cX6_digest 9 = .ok (.aload_n 0, 1) := by decide +kernel
theorem dX6_digest_10 : decode cX6_digest 10 = .ok (.getfield 33, 3) := by decide +kernel
theorem dX6_digest_13 : decode cX6_digest 13 = .ok (.getfield 241, 3) := by decide +kernel
theorem dX6_digest_16 : decode cX6_digest 16 = .ok (.i2l, 1) := by decide +kernel
theorem dX6_digest_17 : decode cX6_digest 17 = .ok (.ladd, 1) := by decide +kernel
theorem dX6_digest_18 : decode cX6_digest 18 = .ok (.lstore_n 1, 1) := by decide +kernel
theorem dX6_digest_19 : decode cX6_digest 19 = .ok (.iconst 0, 1) := by decide +kernel
theorem dX6_digest_20 : decode cX6_digest 20 = .ok (.istore_n 3, 1) := by decide +kernel
theorem dX6_digest_21 : decode cX6_digest 21 = .ok (.iload_n 3, 1) := by decide +kernel
theorem dX6_digest_22 : decode cX6_digest 22 = .ok (.bipush 14, 2) := by decide +kernel
theorem dX6_digest_24 : decode cX6_digest 24 = .ok (.if_icmp .gt 22, 3) := by decide +kernel
theorem dX6_digest_27 : decode cX6_digest 27 = .ok (.ldc2_w 249, 3) := by decide +kernel
theorem dX6_digest_30 : decode cX6_digest 30 = .ok (.lload_n 1, 1) := by decide +kernel
theorem dX6_digest_31 : decode cX6_digest 31 = .ok (.lmul, 1) := by decide +kernel
theorem dX6_digest_32 : decode cX6_digest 32 = .ok (.aload_n 0, 1) := by decide +kernel
theorem dX6_digest_33 : decode cX6_digest 33 = .ok (.iload_n 3, 1) := by decide +kernel
theorem dX6_digest_34 : decode cX6_digest 34 = .ok (.invokevirtual 183, 3) := by decide +kernel
theorem dX6_digest_37 : decode cX6_digest 37 = .ok (.i2l, 1) := by decide +kernel
theorem dX6_digest_38 : decode cX6_digest 38 = .ok (.ladd, 1) := by decide +kernel
theorem dX6_digest_39 : decode cX6_digest 39 = .ok (.lstore_n 1, 1) := by decide +kernel
theorem dX6_digest_40 : decode cX6_digest 40 = .ok (.iinc 3 1, 3) := by decide +kernel
theorem dX6_digest_43 : decode cX6_digest 43 = .ok (.goto (-22), 3) := by decide +kernel
theorem dX6_digest_46 : decode cX6_digest 46 = .ok (.iconst 0, 1) := by decide +kernel
theorem dX6_digest_47 : decode cX6_digest 47 = .ok (.istore_n 3, 1) := by decide +kernel
theorem dX6_digest_48 : decode cX6_digest 48 = .ok (.iload_n 3, 1) := by decide +kernel
theorem dX6_digest_49 : decode cX6_digest 49 = .ok (.aload_n 0, 1) := by decide +kernel
theorem dX6_digest_50 : decode cX6_digest 50 = .ok (.getfield 12, 3) := by decide +kernel
theorem dX6_digest_53 : decode cX6_digest 53 = .ok (.getfield 198, 3) := by decide +kernel
theorem dX6_digest_56 : decode cX6_digest 56 = .ok (.if_icmp .ge 16, 3) := by decide +kernel
theorem dX6_digest_59 : decode cX6_digest 59 = .ok (.aload_n 0, 1) := by decide +kernel
theorem dX6_digest_60 : decode cX6_digest 60 = .ok (.lload_n 1, 1) := by decide +kernel
theorem dX6_digest_61 : decode cX6_digest 61 = .ok (.iload_n 3, 1) := by decide +kernel
theorem dX6_digest_62 : decode cX6_digest 62 = .ok (.invokevirtual 251, 3) := by decide +kernel
theorem dX6_digest_65 : decode cX6_digest 65 = .ok (.lstore_n 1, 1) := by decide +kernel
theorem dX6_digest_66 : decode cX6_digest 66 = .ok (.iinc 3 1, 3) := by decide +kernel
theorem dX6_digest_69 : decode cX6_digest 69 = .ok (.goto (-21), 3) := by decide +kernel
theorem dX6_digest_72 : decode cX6_digest 72 = .ok (.iconst 0, 1) := by decide +kernel
theorem dX6_digest_73 : decode cX6_digest 73 = .ok (.istore_n 3, 1) := by decide +kernel
theorem dX6_digest_74 : decode cX6_digest 74 = .ok (.iload_n 3, 1) := by decide +kernel
theorem dX6_digest_75 : decode cX6_digest 75 = .ok (.aload_n 0, 1) := by decide +kernel
theorem dX6_digest_76 : decode cX6_digest 76 = .ok (.getfield 12, 3) := by decide +kernel
theorem dX6_digest_79 : decode cX6_digest 79 = .ok (.invokevirtual 56, 3) := by decide +kernel
theorem dX6_digest_82 : decode cX6_digest 82 = .ok (.if_icmp .ge 16, 3) := by decide +kernel
theorem dX6_digest_85 : decode cX6_digest 85 = .ok (.aload_n 0, 1) := by decide +kernel
theorem dX6_digest_86 : decode cX6_digest 86 = .ok (.lload_n 1, 1) := by decide +kernel
theorem dX6_digest_87 : decode cX6_digest 87 = .ok (.iload_n 3, 1) := by decide +kernel
theorem dX6_digest_88 : decode cX6_digest 88 = .ok (.invokevirtual 255, 3) := by decide +kernel
theorem dX6_digest_91 : decode cX6_digest 91 = .ok (.lstore_n 1, 1) := by decide +kernel
theorem dX6_digest_92 : decode cX6_digest 92 = .ok (.iinc 3 1, 3) := by decide +kernel
theorem dX6_digest_95 : decode cX6_digest 95 = .ok (.goto (-21), 3) := by decide +kernel
theorem dX6_digest_98 : decode cX6_digest 98 = .ok (.lload_n 1, 1) := by decide +kernel
theorem dX6_digest_99 : decode cX6_digest 99 = .ok (.lreturn, 1) := by decide +kernel
theorem dX6_addLampTo_0 : decode cX6_addLampTo 0 = .ok (.lload_n 1, 1) := by decide +kernel
theorem dX6_addLampTo_1 : decode cX6_addLampTo 1 = .ok (.lstore 4, 2) := by decide +kernel
theorem dX6_addLampTo_3 : decode cX6_addLampTo 3 = .ok (.iconst 0, 1) := by decide +kernel
theorem dX6_addLampTo_4 : decode cX6_addLampTo 4 = .ok (.istore 6, 2) := by decide +kernel
theorem dX6_addLampTo_6 : decode cX6_addLampTo 6 = .ok (.iload 6, 2) := by decide +kernel
theorem dX6_addLampTo_8 : decode cX6_addLampTo 8 = .ok (.bipush 11, 2) := by decide +kernel
theorem dX6_addLampTo_10 : decode cX6_addLampTo 10 = .ok (.if_icmp .gt 26, 3) := by decide +kernel
theorem dX6_addLampTo_13 : decode cX6_addLampTo 13 = .ok (.ldc2_w 249, 3) := by decide +kernel
theorem dX6_addLampTo_16 : decode cX6_addLampTo 16 = .ok (.lload 4, 2) := by decide +kernel
theorem dX6_addLampTo_18 : decode cX6_addLampTo 18 = .ok (.lmul, 1) := by decide +kernel
theorem dX6_addLampTo_19 : decode cX6_addLampTo 19 = .ok (.aload_n 0, 1) := by decide +kernel
theorem dX6_addLampTo_20 : decode cX6_addLampTo 20 = .ok (.iload_n 3, 1) := by decide +kernel
theorem dX6_addLampTo_21 : decode cX6_addLampTo 21 = .ok (.iload 6, 2) := by decide +kernel
theorem dX6_addLampTo_23 : decode cX6_addLampTo 23 = .ok (.invokevirtual 109, 3) := by decide +kernel
theorem dX6_addLampTo_26 : decode cX6_addLampTo 26 = .ok (.i2l, 1) := by decide +kernel
theorem dX6_addLampTo_27 : decode cX6_addLampTo 27 = .ok (.ladd, 1) := by decide +kernel
theorem dX6_addLampTo_28 : decode cX6_addLampTo 28 = .ok (.lstore 4, 2) := by decide +kernel
theorem dX6_addLampTo_30 : decode cX6_addLampTo 30 = .ok (.iinc 6 1, 3) := by decide +kernel
theorem dX6_addLampTo_33 : decode cX6_addLampTo 33 = .ok (.goto (-27), 3) := by decide +kernel
theorem dX6_addLampTo_36 : decode cX6_addLampTo 36 = .ok (.iconst 0, 1) := by decide +kernel
theorem dX6_addLampTo_37 : decode cX6_addLampTo 37 = .ok (.istore 6, 2) := by decide +kernel
theorem dX6_addLampTo_39 : decode cX6_addLampTo 39 = .ok (.iload 6, 2) := by decide +kernel
theorem dX6_addLampTo_41 : decode cX6_addLampTo 41 = .ok (.iconst 4, 1) := by decide +kernel
theorem dX6_addLampTo_42 : decode cX6_addLampTo 42 = .ok (.if_icmp .ge 51, 3) := by decide +kernel
theorem dX6_addLampTo_45 : decode cX6_addLampTo 45 = .ok (.ldc2_w 249, 3) := by decide +kernel
theorem dX6_addLampTo_48 : decode cX6_addLampTo 48 = .ok (.lload 4, 2) := by decide +kernel
theorem dX6_addLampTo_50 : decode cX6_addLampTo 50 = .ok (.lmul, 1) := by decide +kernel
theorem dX6_addLampTo_51 : decode cX6_addLampTo 51 = .ok (.aload_n 0, 1) := by decide +kernel
theorem dX6_addLampTo_52 : decode cX6_addLampTo 52 = .ok (.getfield 12, 3) := by decide +kernel
theorem dX6_addLampTo_55 : decode cX6_addLampTo 55 = .ok (.iload_n 3, 1) := by decide +kernel
theorem dX6_addLampTo_56 : decode cX6_addLampTo 56 = .ok (.iload 6, 2) := by decide +kernel
theorem dX6_addLampTo_58 : decode cX6_addLampTo 58 = .ok (.iconst 0, 1) := by decide +kernel
theorem dX6_addLampTo_59 : decode cX6_addLampTo 59 = .ok (.invokevirtual 180, 3) := by decide +kernel
theorem dX6_addLampTo_62 : decode cX6_addLampTo 62 = .ok (.i2l, 1) := by decide +kernel
theorem dX6_addLampTo_63 : decode cX6_addLampTo 63 = .ok (.ladd, 1) := by decide +kernel
theorem dX6_addLampTo_64 : decode cX6_addLampTo 64 = .ok (.lstore 4, 2) := by decide +kernel
theorem dX6_addLampTo_66 : decode cX6_addLampTo 66 = .ok (.ldc2_w 249, 3) := by decide +kernel
theorem dX6_addLampTo_69 : decode cX6_addLampTo 69 = .ok (.lload 4, 2) := by decide +kernel
theorem dX6_addLampTo_71 : decode cX6_addLampTo 71 = .ok (.lmul, 1) := by decide +kernel
theorem dX6_addLampTo_72 : decode cX6_addLampTo 72 = .ok (.aload_n 0, 1) := by decide +kernel
theorem dX6_addLampTo_73 : decode cX6_addLampTo 73 = .ok (.getfield 12, 3) := by decide +kernel
theorem dX6_addLampTo_76 : decode cX6_addLampTo 76 = .ok (.iload_n 3, 1) := by decide +kernel
theorem dX6_addLampTo_77 : decode cX6_addLampTo 77 = .ok (.iload 6, 2) := by decide +kernel
theorem dX6_addLampTo_79 : decode cX6_addLampTo 79 = .ok (.iconst 1, 1) := by decide +kernel
theorem dX6_addLampTo_80 : decode cX6_addLampTo 80 = .ok (.invokevirtual 180, 3) := by decide +kernel
theorem dX6_addLampTo_83 : decode cX6_addLampTo 83 = .ok (.i2l, 1) := by decide +kernel
theorem dX6_addLampTo_84 : decode cX6_addLampTo 84 = .ok (.ladd, 1) := by decide +kernel
theorem dX6_addLampTo_85 : decode cX6_addLampTo 85 = .ok (.lstore 4, 2) := by decide +kernel
theorem dX6_addLampTo_87 : decode cX6_addLampTo 87 = .ok (.iinc 6 1, 3) := by decide +kernel
theorem dX6_addLampTo_90 : decode cX6_addLampTo 90 = .ok (.goto (-51), 3) := by decide +kernel
theorem dX6_addLampTo_93 : decode cX6_addLampTo 93 = .ok (.lload 4, 2) := by decide +kernel
theorem dX6_addLampTo_95 : decode cX6_addLampTo 95 = .ok (.lreturn, 1) := by decide +kernel
theorem dX6_addPlaceTo_0 : decode cX6_addPlaceTo 0 = .ok (.lload_n 1, 1) := by decide +kernel
theorem dX6_addPlaceTo_1 : decode cX6_addPlaceTo 1 = .ok (.lstore 4, 2) := by decide +kernel
theorem dX6_addPlaceTo_3 : decode cX6_addPlaceTo 3 = .ok (.iconst 0, 1) := by decide +kernel
theorem dX6_addPlaceTo_4 : decode cX6_addPlaceTo 4 = .ok (.istore 6, 2) := by decide +kernel
theorem dX6_addPlaceTo_6 : decode cX6_addPlaceTo 6 = .ok (.iload 6, 2) := by decide +kernel
theorem dX6_addPlaceTo_8 : decode cX6_addPlaceTo 8 = .ok (.iconst 5, 1) := by decide +kernel
theorem dX6_addPlaceTo_9 : decode cX6_addPlaceTo 9 = .ok (.if_icmp .gt 26, 3) := by decide +kernel
theorem dX6_addPlaceTo_12 : decode cX6_addPlaceTo 12 = .ok (.ldc2_w 249, 3) := by decide +kernel
theorem dX6_addPlaceTo_15 : decode cX6_addPlaceTo 15 = .ok (.lload 4, 2) := by decide +kernel
theorem dX6_addPlaceTo_17 : decode cX6_addPlaceTo 17 = .ok (.lmul, 1) := by decide +kernel
theorem dX6_addPlaceTo_18 : decode cX6_addPlaceTo 18 = .ok (.aload_n 0, 1) := by decide +kernel
theorem dX6_addPlaceTo_19 : decode cX6_addPlaceTo 19 = .ok (.iload_n 3, 1) := by decide +kernel
theorem dX6_addPlaceTo_20 : decode cX6_addPlaceTo 20 = .ok (.iload 6, 2) := by decide +kernel
theorem dX6_addPlaceTo_22 : decode cX6_addPlaceTo 22 = .ok (.invokevirtual 153, 3) := by decide +kernel
theorem dX6_addPlaceTo_25 : decode cX6_addPlaceTo 25 = .ok (.i2l, 1) := by decide +kernel
theorem dX6_addPlaceTo_26 : decode cX6_addPlaceTo 26 = .ok (.ladd, 1) := by decide +kernel
theorem dX6_addPlaceTo_27 : decode cX6_addPlaceTo 27 = .ok (.lstore 4, 2) := by decide +kernel
theorem dX6_addPlaceTo_29 : decode cX6_addPlaceTo 29 = .ok (.iinc 6 1, 3) := by decide +kernel
theorem dX6_addPlaceTo_32 : decode cX6_addPlaceTo 32 = .ok (.goto (-26), 3) := by decide +kernel
theorem dX6_addPlaceTo_35 : decode cX6_addPlaceTo 35 = .ok (.iconst 0, 1) := by decide +kernel
theorem dX6_addPlaceTo_36 : decode cX6_addPlaceTo 36 = .ok (.istore 6, 2) := by decide +kernel
theorem dX6_addPlaceTo_38 : decode cX6_addPlaceTo 38 = .ok (.iload 6, 2) := by decide +kernel
theorem dX6_addPlaceTo_40 : decode cX6_addPlaceTo 40 = .ok (.aload_n 0, 1) := by decide +kernel
theorem dX6_addPlaceTo_41 : decode cX6_addPlaceTo 41 = .ok (.getfield 12, 3) := by decide +kernel
theorem dX6_addPlaceTo_44 : decode cX6_addPlaceTo 44 = .ok (.getfield 198, 3) := by decide +kernel
theorem dX6_addPlaceTo_47 : decode cX6_addPlaceTo 47 = .ok (.if_icmp .ge 29, 3) := by decide +kernel
theorem dX6_addPlaceTo_50 : decode cX6_addPlaceTo 50 = .ok (.ldc2_w 249, 3) := by decide +kernel
theorem dX6_addPlaceTo_53 : decode cX6_addPlaceTo 53 = .ok (.lload 4, 2) := by decide +kernel
theorem dX6_addPlaceTo_55 : decode cX6_addPlaceTo 55 = .ok (.lmul, 1) := by decide +kernel
theorem dX6_addPlaceTo_56 : decode cX6_addPlaceTo 56 = .ok (.aload_n 0, 1) := by decide +kernel
theorem dX6_addPlaceTo_57 : decode cX6_addPlaceTo 57 = .ok (.getfield 19, 3) := by decide +kernel
theorem dX6_addPlaceTo_60 : decode cX6_addPlaceTo 60 = .ok (.iload 6, 2) := by decide +kernel
theorem dX6_addPlaceTo_62 : decode cX6_addPlaceTo 62 = .ok (.iload_n 3, 1) := by decide +kernel
theorem dX6_addPlaceTo_63 : decode cX6_addPlaceTo 63 = .ok (.invokevirtual 156, 3) := by decide +kernel
theorem dX6_addPlaceTo_66 : decode cX6_addPlaceTo 66 = .ok (.i2l, 1) := by decide +kernel
theorem dX6_addPlaceTo_67 : decode cX6_addPlaceTo 67 = .ok (.ladd, 1) := by decide +kernel
theorem dX6_addPlaceTo_68 : decode cX6_addPlaceTo 68 = .ok (.lstore 4, 2) := by decide +kernel
theorem dX6_addPlaceTo_70 : decode cX6_addPlaceTo 70 = .ok (.iinc 6 1, 3) := by decide +kernel
theorem dX6_addPlaceTo_73 : decode cX6_addPlaceTo 73 = .ok (.goto (-35), 3) := by decide +kernel
theorem dX6_addPlaceTo_76 : decode cX6_addPlaceTo 76 = .ok (.lload 4, 2) := by decide +kernel
theorem dX6_addPlaceTo_78 : decode cX6_addPlaceTo 78 = .ok (.lreturn, 1) := by decide +kernel
theorem dX6_placeValue_0 : decode cX6_placeValue 0 = .ok (.aload_n 0, 1) := by decide +kernel
theorem dX6_placeValue_1 : decode cX6_placeValue 1 = .ok (.getfield 19, 3) := by decide +kernel
theorem dX6_placeValue_4 : decode cX6_placeValue 4 = .ok (.aload_n 0, 1) := by decide +kernel
theorem dX6_placeValue_5 : decode cX6_placeValue 5 = .ok (.getfield 12, 3) := by decide +kernel
theorem dX6_placeValue_8 : decode cX6_placeValue 8 = .ok (.invokevirtual 98, 3) := by decide +kernel
theorem dX6_placeValue_11 : decode cX6_placeValue 11 = .ok (.iload_n 2, 1) := by decide +kernel
theorem dX6_placeValue_12 : decode cX6_placeValue 12 = .ok (.tableswitch 88 0 4 #[36, 45, 54, 63, 72], 36) := by decide +kernel
theorem dX6_placeValue_48 : decode cX6_placeValue 48 = .ok (.aload_n 0, 1) := by decide +kernel
theorem dX6_placeValue_49 : decode cX6_placeValue 49 = .ok (.getfield 12, 3) := by decide +kernel
theorem dX6_placeValue_52 : decode cX6_placeValue 52 = .ok (.iload_n 1, 1) := by decide +kernel
theorem dX6_placeValue_53 : decode cX6_placeValue 53 = .ok (.invokevirtual 208, 3) := by decide +kernel
theorem dX6_placeValue_56 : decode cX6_placeValue 56 = .ok (.ireturn, 1) := by decide +kernel
theorem dX6_placeValue_57 : decode cX6_placeValue 57 = .ok (.aload_n 0, 1) := by decide +kernel
theorem dX6_placeValue_58 : decode cX6_placeValue 58 = .ok (.getfield 19, 3) := by decide +kernel
theorem dX6_placeValue_61 : decode cX6_placeValue 61 = .ok (.iload_n 1, 1) := by decide +kernel
theorem dX6_placeValue_62 : decode cX6_placeValue 62 = .ok (.invokevirtual 211, 3) := by decide +kernel
theorem dX6_placeValue_65 : decode cX6_placeValue 65 = .ok (.ireturn, 1) := by decide +kernel
theorem dX6_placeValue_66 : decode cX6_placeValue 66 = .ok (.aload_n 0, 1) := by decide +kernel
theorem dX6_placeValue_67 : decode cX6_placeValue 67 = .ok (.getfield 19, 3) := by decide +kernel
theorem dX6_placeValue_70 : decode cX6_placeValue 70 = .ok (.iload_n 1, 1) := by decide +kernel
theorem dX6_placeValue_71 : decode cX6_placeValue 71 = .ok (.invokevirtual 192, 3) := by decide +kernel
theorem dX6_placeValue_74 : decode cX6_placeValue 74 = .ok (.ireturn, 1) := by decide +kernel
theorem dX6_placeValue_75 : decode cX6_placeValue 75 = .ok (.aload_n 0, 1) := by decide +kernel
theorem dX6_placeValue_76 : decode cX6_placeValue 76 = .ok (.getfield 19, 3) := by decide +kernel
theorem dX6_placeValue_79 : decode cX6_placeValue 79 = .ok (.iload_n 1, 1) := by decide +kernel
theorem dX6_placeValue_80 : decode cX6_placeValue 80 = .ok (.invokevirtual 258, 3) := by decide +kernel
theorem dX6_placeValue_83 : decode cX6_placeValue 83 = .ok (.ireturn, 1) := by decide +kernel
theorem dX6_placeValue_84 : decode cX6_placeValue 84 = .ok (.aload_n 0, 1) := by decide +kernel
theorem dX6_placeValue_85 : decode cX6_placeValue 85 = .ok (.getfield 12, 3) := by decide +kernel
theorem dX6_placeValue_88 : decode cX6_placeValue 88 = .ok (.aload_n 0, 1) := by decide +kernel
theorem dX6_placeValue_89 : decode cX6_placeValue 89 = .ok (.getfield 19, 3) := by decide +kernel
theorem dX6_placeValue_92 : decode cX6_placeValue 92 = .ok (.iload_n 1, 1) := by decide +kernel
theorem dX6_placeValue_93 : decode cX6_placeValue 93 = .ok (.invokevirtual 258, 3) := by decide +kernel
theorem dX6_placeValue_96 : decode cX6_placeValue 96 = .ok (.invokevirtual 261, 3) := by decide +kernel
theorem dX6_placeValue_99 : decode cX6_placeValue 99 = .ok (.ireturn, 1) := by decide +kernel
theorem dX6_placeValue_100 : decode cX6_placeValue 100 = .ok (.aload_n 0, 1) := by decide +kernel
theorem dX6_placeValue_101 : decode cX6_placeValue 101 = .ok (.getfield 12, 3) := by decide +kernel
theorem dX6_placeValue_104 : decode cX6_placeValue 104 = .ok (.aload_n 0, 1) := by decide +kernel
theorem dX6_placeValue_105 : decode cX6_placeValue 105 = .ok (.getfield 19, 3) := by decide +kernel
theorem dX6_placeValue_108 : decode cX6_placeValue 108 = .ok (.iload_n 1, 1) := by decide +kernel
theorem dX6_placeValue_109 : decode cX6_placeValue 109 = .ok (.invokevirtual 258, 3) := by decide +kernel
theorem dX6_placeValue_112 : decode cX6_placeValue 112 = .ok (.invokevirtual 264, 3) := by decide +kernel
theorem dX6_placeValue_115 : decode cX6_placeValue 115 = .ok (.ireturn, 1) := by decide +kernel
theorem dX6_lampValue_0 : decode cX6_lampValue 0 = .ok (.aload_n 0, 1) := by decide +kernel
theorem dX6_lampValue_1 : decode cX6_lampValue 1 = .ok (.getfield 19, 3) := by decide +kernel
theorem dX6_lampValue_4 : decode cX6_lampValue 4 = .ok (.aload_n 0, 1) := by decide +kernel
theorem dX6_lampValue_5 : decode cX6_lampValue 5 = .ok (.getfield 12, 3) := by decide +kernel
theorem dX6_lampValue_8 : decode cX6_lampValue 8 = .ok (.invokevirtual 98, 3) := by decide +kernel
theorem dX6_lampValue_11 : decode cX6_lampValue 11 = .ok (.iload_n 2, 1) := by decide +kernel
theorem dX6_lampValue_12 : decode cX6_lampValue 12 = .ok (.tableswitch 192 0 10 #[60, 72, 84, 96, 113, 122, 131, 148, 157, 166, 183], 60) := by decide +kernel
theorem dX6_lampValue_72 : decode cX6_lampValue 72 = .ok (.aload_n 0, 1) := by decide +kernel
theorem dX6_lampValue_73 : decode cX6_lampValue 73 = .ok (.getfield 12, 3) := by decide +kernel
theorem dX6_lampValue_76 : decode cX6_lampValue 76 = .ok (.getfield 267, 3) := by decide +kernel
theorem dX6_lampValue_79 : decode cX6_lampValue 79 = .ok (.iload_n 1, 1) := by decide +kernel
theorem dX6_lampValue_80 : decode cX6_lampValue 80 = .ok (.invokevirtual 271, 3) := by decide +kernel
theorem dX6_lampValue_83 : decode cX6_lampValue 83 = .ok (.ireturn, 1) := by decide +kernel
theorem dX6_lampValue_84 : decode cX6_lampValue 84 = .ok (.aload_n 0, 1) := by decide +kernel
theorem dX6_lampValue_85 : decode cX6_lampValue 85 = .ok (.getfield 12, 3) := by decide +kernel
theorem dX6_lampValue_88 : decode cX6_lampValue 88 = .ok (.getfield 276, 3) := by decide +kernel
theorem dX6_lampValue_91 : decode cX6_lampValue 91 = .ok (.iload_n 1, 1) := by decide +kernel
theorem dX6_lampValue_92 : decode cX6_lampValue 92 = .ok (.invokevirtual 271, 3) := by decide +kernel
theorem dX6_lampValue_95 : decode cX6_lampValue 95 = .ok (.ireturn, 1) := by decide +kernel
theorem dX6_lampValue_96 : decode cX6_lampValue 96 = .ok (.aload_n 0, 1) := by decide +kernel
theorem dX6_lampValue_97 : decode cX6_lampValue 97 = .ok (.getfield 12, 3) := by decide +kernel
theorem dX6_lampValue_100 : decode cX6_lampValue 100 = .ok (.getfield 279, 3) := by decide +kernel
theorem dX6_lampValue_103 : decode cX6_lampValue 103 = .ok (.iload_n 1, 1) := by decide +kernel
theorem dX6_lampValue_104 : decode cX6_lampValue 104 = .ok (.invokevirtual 271, 3) := by decide +kernel
theorem dX6_lampValue_107 : decode cX6_lampValue 107 = .ok (.ireturn, 1) := by decide +kernel
theorem dX6_lampValue_108 : decode cX6_lampValue 108 = .ok (.aload_n 0, 1) := by decide +kernel
theorem dX6_lampValue_109 : decode cX6_lampValue 109 = .ok (.getfield 12, 3) := by decide +kernel
theorem dX6_lampValue_112 : decode cX6_lampValue 112 = .ok (.iload_n 1, 1) := by decide +kernel
theorem dX6_lampValue_113 : decode cX6_lampValue 113 = .ok (.invokevirtual 119, 3) := by decide +kernel
theorem dX6_lampValue_116 : decode cX6_lampValue 116 = .ok (.ifCond .eq 7, 3) := by decide +kernel
theorem dX6_lampValue_119 : decode cX6_lampValue 119 = .ok (.iconst 1, 1) := by decide +kernel
theorem dX6_lampValue_120 : decode cX6_lampValue 120 = .ok (.goto 4, 3) := by decide +kernel
theorem dX6_lampValue_123 : decode cX6_lampValue 123 = .ok (.iconst 0, 1) := by decide +kernel
theorem dX6_lampValue_124 : decode cX6_lampValue 124 = .ok (.ireturn, 1) := by decide +kernel
theorem dX6_lampValue_125 : decode cX6_lampValue 125 = .ok (.aload_n 0, 1) := by decide +kernel
theorem dX6_lampValue_126 : decode cX6_lampValue 126 = .ok (.getfield 12, 3) := by decide +kernel
theorem dX6_lampValue_129 : decode cX6_lampValue 129 = .ok (.iload_n 1, 1) := by decide +kernel
theorem dX6_lampValue_130 : decode cX6_lampValue 130 = .ok (.invokevirtual 282, 3) := by decide +kernel
theorem dX6_lampValue_133 : decode cX6_lampValue 133 = .ok (.ireturn, 1) := by decide +kernel
theorem dX6_lampValue_134 : decode cX6_lampValue 134 = .ok (.aload_n 0, 1) := by decide +kernel
theorem dX6_lampValue_135 : decode cX6_lampValue 135 = .ok (.getfield 12, 3) := by decide +kernel
theorem dX6_lampValue_138 : decode cX6_lampValue 138 = .ok (.iload_n 1, 1) := by decide +kernel
theorem dX6_lampValue_139 : decode cX6_lampValue 139 = .ok (.invokevirtual 285, 3) := by decide +kernel
theorem dX6_lampValue_142 : decode cX6_lampValue 142 = .ok (.ireturn, 1) := by decide +kernel
theorem dX6_lampValue_143 : decode cX6_lampValue 143 = .ok (.aload_n 0, 1) := by decide +kernel
theorem dX6_lampValue_144 : decode cX6_lampValue 144 = .ok (.getfield 12, 3) := by decide +kernel
theorem dX6_lampValue_147 : decode cX6_lampValue 147 = .ok (.iload_n 1, 1) := by decide +kernel
theorem dX6_lampValue_148 : decode cX6_lampValue 148 = .ok (.invokevirtual 91, 3) := by decide +kernel
theorem dX6_lampValue_151 : decode cX6_lampValue 151 = .ok (.ifCond .eq 7, 3) := by decide +kernel
theorem dX6_lampValue_154 : decode cX6_lampValue 154 = .ok (.iconst 1, 1) := by decide +kernel
theorem dX6_lampValue_155 : decode cX6_lampValue 155 = .ok (.goto 4, 3) := by decide +kernel
theorem dX6_lampValue_158 : decode cX6_lampValue 158 = .ok (.iconst 0, 1) := by decide +kernel
theorem dX6_lampValue_159 : decode cX6_lampValue 159 = .ok (.ireturn, 1) := by decide +kernel
theorem dX6_lampValue_160 : decode cX6_lampValue 160 = .ok (.aload_n 0, 1) := by decide +kernel
theorem dX6_lampValue_161 : decode cX6_lampValue 161 = .ok (.getfield 19, 3) := by decide +kernel
theorem dX6_lampValue_164 : decode cX6_lampValue 164 = .ok (.iload_n 1, 1) := by decide +kernel
theorem dX6_lampValue_165 : decode cX6_lampValue 165 = .ok (.invokevirtual 101, 3) := by decide +kernel
theorem dX6_lampValue_168 : decode cX6_lampValue 168 = .ok (.ireturn, 1) := by decide +kernel
theorem dX6_lampValue_169 : decode cX6_lampValue 169 = .ok (.aload_n 0, 1) := by decide +kernel
theorem dX6_lampValue_170 : decode cX6_lampValue 170 = .ok (.getfield 19, 3) := by decide +kernel
theorem dX6_lampValue_173 : decode cX6_lampValue 173 = .ok (.iload_n 1, 1) := by decide +kernel
theorem dX6_lampValue_174 : decode cX6_lampValue 174 = .ok (.invokevirtual 288, 3) := by decide +kernel
theorem dX6_lampValue_177 : decode cX6_lampValue 177 = .ok (.ireturn, 1) := by decide +kernel
theorem dX6_lampValue_178 : decode cX6_lampValue 178 = .ok (.aload_n 0, 1) := by decide +kernel
theorem dX6_lampValue_179 : decode cX6_lampValue 179 = .ok (.getfield 19, 3) := by decide +kernel
theorem dX6_lampValue_182 : decode cX6_lampValue 182 = .ok (.iload_n 1, 1) := by decide +kernel
theorem dX6_lampValue_183 : decode cX6_lampValue 183 = .ok (.aload_n 0, 1) := by decide +kernel
theorem dX6_lampValue_184 : decode cX6_lampValue 184 = .ok (.getfield 12, 3) := by decide +kernel
theorem dX6_lampValue_187 : decode cX6_lampValue 187 = .ok (.iload_n 1, 1) := by decide +kernel
theorem dX6_lampValue_188 : decode cX6_lampValue 188 = .ok (.invokevirtual 282, 3) := by decide +kernel
theorem dX6_lampValue_191 : decode cX6_lampValue 191 = .ok (.invokevirtual 291, 3) := by decide +kernel
theorem dX6_lampValue_194 : decode cX6_lampValue 194 = .ok (.ireturn, 1) := by decide +kernel
theorem dX6_lampValue_195 : decode cX6_lampValue 195 = .ok (.aload_n 0, 1) := by decide +kernel
theorem dX6_lampValue_196 : decode cX6_lampValue 196 = .ok (.getfield 19, 3) := by decide +kernel
theorem dX6_lampValue_199 : decode cX6_lampValue 199 = .ok (.iload_n 1, 1) := by decide +kernel
theorem dX6_lampValue_200 : decode cX6_lampValue 200 = .ok (.invokevirtual 294, 3) := by decide +kernel
theorem dX6_lampValue_203 : decode cX6_lampValue 203 = .ok (.ireturn, 1) := by decide +kernel
theorem dX6_lampValue_204 : decode cX6_lampValue 204 = .ok (.aload_n 0, 1) := by decide +kernel
theorem dX6_lampValue_205 : decode cX6_lampValue 205 = .ok (.getfield 19, 3) := by decide +kernel
theorem dX6_lampValue_208 : decode cX6_lampValue 208 = .ok (.iload_n 1, 1) := by decide +kernel
theorem dX6_lampValue_209 : decode cX6_lampValue 209 = .ok (.invokevirtual 297, 3) := by decide +kernel
theorem dX6_lampValue_212 : decode cX6_lampValue 212 = .ok (.ireturn, 1) := by decide +kernel
theorem dX6_wholeValue_0 : decode cX6_wholeValue 0 = .ok (.aload_n 0, 1) := by decide +kernel
theorem dX6_wholeValue_1 : decode cX6_wholeValue 1 = .ok (.getfield 19, 3) := by decide +kernel
theorem dX6_wholeValue_4 : decode cX6_wholeValue 4 = .ok (.aload_n 0, 1) := by decide +kernel
theorem dX6_wholeValue_5 : decode cX6_wholeValue 5 = .ok (.getfield 12, 3) := by decide +kernel
theorem dX6_wholeValue_8 : decode cX6_wholeValue 8 = .ok (.invokevirtual 98, 3) := by decide +kernel
theorem dX6_wholeValue_11 : decode cX6_wholeValue 11 = .ok (.iload_n 1, 1) := by decide +kernel
theorem dX6_wholeValue_12 : decode cX6_wholeValue 12 = .ok (.tableswitch 164 0 13 #[72, 80, 88, 96, 104, 112, 120, 120, 120, 120, 132, 140, 148, 156], 72) := by decide +kernel
theorem dX6_wholeValue_84 : decode cX6_wholeValue 84 = .ok (.aload_n 0, 1) := by decide +kernel
theorem dX6_wholeValue_85 : decode cX6_wholeValue 85 = .ok (.getfield 12, 3) := by decide +kernel
theorem dX6_wholeValue_88 : decode cX6_wholeValue 88 = .ok (.getfield 189, 3) := by decide +kernel
theorem dX6_wholeValue_91 : decode cX6_wholeValue 91 = .ok (.ireturn, 1) := by decide +kernel
theorem dX6_wholeValue_92 : decode cX6_wholeValue 92 = .ok (.aload_n 0, 1) := by decide +kernel
theorem dX6_wholeValue_93 : decode cX6_wholeValue 93 = .ok (.getfield 12, 3) := by decide +kernel
theorem dX6_wholeValue_96 : decode cX6_wholeValue 96 = .ok (.getfield 186, 3) := by decide +kernel
theorem dX6_wholeValue_99 : decode cX6_wholeValue 99 = .ok (.ireturn, 1) := by decide +kernel
theorem dX6_wholeValue_100 : decode cX6_wholeValue 100 = .ok (.aload_n 0, 1) := by decide +kernel
theorem dX6_wholeValue_101 : decode cX6_wholeValue 101 = .ok (.getfield 12, 3) := by decide +kernel
theorem dX6_wholeValue_104 : decode cX6_wholeValue 104 = .ok (.getfield 163, 3) := by decide +kernel
theorem dX6_wholeValue_107 : decode cX6_wholeValue 107 = .ok (.ireturn, 1) := by decide +kernel
theorem dX6_wholeValue_108 : decode cX6_wholeValue 108 = .ok (.aload_n 0, 1) := by decide +kernel
theorem dX6_wholeValue_109 : decode cX6_wholeValue 109 = .ok (.getfield 12, 3) := by decide +kernel
theorem dX6_wholeValue_112 : decode cX6_wholeValue 112 = .ok (.getfield 170, 3) := by decide +kernel
theorem dX6_wholeValue_115 : decode cX6_wholeValue 115 = .ok (.ireturn, 1) := by decide +kernel
theorem dX6_wholeValue_116 : decode cX6_wholeValue 116 = .ok (.aload_n 0, 1) := by decide +kernel
theorem dX6_wholeValue_117 : decode cX6_wholeValue 117 = .ok (.getfield 12, 3) := by decide +kernel
theorem dX6_wholeValue_120 : decode cX6_wholeValue 120 = .ok (.getfield 198, 3) := by decide +kernel
theorem dX6_wholeValue_123 : decode cX6_wholeValue 123 = .ok (.ireturn, 1) := by decide +kernel
theorem dX6_wholeValue_124 : decode cX6_wholeValue 124 = .ok (.aload_n 0, 1) := by decide +kernel
theorem dX6_wholeValue_125 : decode cX6_wholeValue 125 = .ok (.getfield 12, 3) := by decide +kernel
theorem dX6_wholeValue_128 : decode cX6_wholeValue 128 = .ok (.invokevirtual 300, 3) := by decide +kernel
theorem dX6_wholeValue_131 : decode cX6_wholeValue 131 = .ok (.ireturn, 1) := by decide +kernel
theorem dX6_wholeValue_132 : decode cX6_wholeValue 132 = .ok (.aload_n 0, 1) := by decide +kernel
theorem dX6_wholeValue_133 : decode cX6_wholeValue 133 = .ok (.getfield 19, 3) := by decide +kernel
theorem dX6_wholeValue_136 : decode cX6_wholeValue 136 = .ok (.iload_n 1, 1) := by decide +kernel
theorem dX6_wholeValue_137 : decode cX6_wholeValue 137 = .ok (.bipush 6, 2) := by decide +kernel
theorem dX6_wholeValue_139 : decode cX6_wholeValue 139 = .ok (.isub, 1) := by decide +kernel
theorem dX6_wholeValue_140 : decode cX6_wholeValue 140 = .ok (.invokevirtual 303, 3) := by decide +kernel
theorem dX6_wholeValue_143 : decode cX6_wholeValue 143 = .ok (.ireturn, 1) := by decide +kernel
theorem dX6_wholeValue_144 : decode cX6_wholeValue 144 = .ok (.aload_n 0, 1) := by decide +kernel
theorem dX6_wholeValue_145 : decode cX6_wholeValue 145 = .ok (.getfield 12, 3) := by decide +kernel
theorem dX6_wholeValue_148 : decode cX6_wholeValue 148 = .ok (.invokevirtual 306, 3) := by decide +kernel
theorem dX6_wholeValue_151 : decode cX6_wholeValue 151 = .ok (.ireturn, 1) := by decide +kernel
theorem dX6_wholeValue_152 : decode cX6_wholeValue 152 = .ok (.aload_n 0, 1) := by decide +kernel
theorem dX6_wholeValue_153 : decode cX6_wholeValue 153 = .ok (.getfield 19, 3) := by decide +kernel
theorem dX6_wholeValue_156 : decode cX6_wholeValue 156 = .ok (.invokevirtual 309, 3) := by decide +kernel
theorem dX6_wholeValue_159 : decode cX6_wholeValue 159 = .ok (.ireturn, 1) := by decide +kernel
theorem dX6_wholeValue_160 : decode cX6_wholeValue 160 = .ok (.aload_n 0, 1) := by decide +kernel
theorem dX6_wholeValue_161 : decode cX6_wholeValue 161 = .ok (.getfield 12, 3) := by decide +kernel
theorem dX6_wholeValue_164 : decode cX6_wholeValue 164 = .ok (.getfield 312, 3) := by decide +kernel
theorem dX6_wholeValue_167 : decode cX6_wholeValue 167 = .ok (.ireturn, 1) := by decide +kernel
theorem dX6_wholeValue_168 : decode cX6_wholeValue 168 = .ok (.aload_n 0, 1) := by decide +kernel
theorem dX6_wholeValue_169 : decode cX6_wholeValue 169 = .ok (.getfield 19, 3) := by decide +kernel
theorem dX6_wholeValue_172 : decode cX6_wholeValue 172 = .ok (.invokevirtual 315, 3) := by decide +kernel
theorem dX6_wholeValue_175 : decode cX6_wholeValue 175 = .ok (.ireturn, 1) := by decide +kernel
theorem dX6_wholeValue_176 : decode cX6_wholeValue 176 = .ok (.aload_n 0, 1) := by decide +kernel
theorem dX6_wholeValue_177 : decode cX6_wholeValue 177 = .ok (.getfield 40, 3) := by decide +kernel
theorem dX6_wholeValue_180 : decode cX6_wholeValue 180 = .ok (.getfield 219, 3) := by decide +kernel
theorem dX6_wholeValue_183 : decode cX6_wholeValue 183 = .ok (.ireturn, 1) := by decide +kernel
theorem dX6_wrongIfFailed_0 : decode cX6_wrongIfFailed 0 = .ok (.aload_n 0, 1) := by decide +kernel
theorem dX6_wrongIfFailed_1 : decode cX6_wrongIfFailed 1 = .ok (.getfield 12, 3) := by decide +kernel
theorem dX6_wrongIfFailed_4 : decode cX6_wrongIfFailed 4 = .ok (.invokevirtual 201, 3) := by decide +kernel
theorem dX6_wrongIfFailed_7 : decode cX6_wrongIfFailed 7 = .ok (.iconst 1, 1) := by decide +kernel
theorem dX6_wrongIfFailed_8 : decode cX6_wrongIfFailed 8 = .ok (.iload_n 1, 1) := by decide +kernel
theorem dX6_wrongIfFailed_9 : decode cX6_wrongIfFailed 9 = .ok (.ishl, 1) := by decide +kernel
theorem dX6_wrongIfFailed_10 : decode cX6_wrongIfFailed 10 = .ok (.iconst (-1), 1) := by decide +kernel
theorem dX6_wrongIfFailed_11 : decode cX6_wrongIfFailed 11 = .ok (.ixor, 1) := by decide +kernel
theorem dX6_wrongIfFailed_12 : decode cX6_wrongIfFailed 12 = .ok (.iand, 1) := by decide +kernel
theorem dX6_wrongIfFailed_13 : decode cX6_wrongIfFailed 13 = .ok (.istore_n 2, 1) := by decide +kernel
theorem dX6_wrongIfFailed_14 : decode cX6_wrongIfFailed 14 = .ok (.aload_n 0, 1) := by decide +kernel
theorem dX6_wrongIfFailed_15 : decode cX6_wrongIfFailed 15 = .ok (.getfield 26, 3) := by decide +kernel
theorem dX6_wrongIfFailed_18 : decode cX6_wrongIfFailed 18 = .ok (.aload_n 0, 1) := by decide +kernel
theorem dX6_wrongIfFailed_19 : decode cX6_wrongIfFailed 19 = .ok (.getfield 12, 3) := by decide +kernel
theorem dX6_wrongIfFailed_22 : decode cX6_wrongIfFailed 22 = .ok (.iload_n 2, 1) := by decide +kernel
theorem dX6_wrongIfFailed_23 : decode cX6_wrongIfFailed 23 = .ok (.aload_n 0, 1) := by decide +kernel
theorem dX6_wrongIfFailed_24 : decode cX6_wrongIfFailed 24 = .ok (.getfield 12, 3) := by decide +kernel
theorem dX6_wrongIfFailed_27 : decode cX6_wrongIfFailed 27 = .ok (.getfield 163, 3) := by decide +kernel
theorem dX6_wrongIfFailed_30 : decode cX6_wrongIfFailed 30 = .ok (.aload_n 0, 1) := by decide +kernel
theorem dX6_wrongIfFailed_31 : decode cX6_wrongIfFailed 31 = .ok (.getfield 12, 3) := by decide +kernel
theorem dX6_wrongIfFailed_34 : decode cX6_wrongIfFailed 34 = .ok (.getfield 170, 3) := by decide +kernel
theorem dX6_wrongIfFailed_37 : decode cX6_wrongIfFailed 37 = .ok (.invokevirtual 204, 3) := by decide +kernel
theorem dX6_wrongIfFailed_40 : decode cX6_wrongIfFailed 40 = .ok (.ireturn, 1) := by decide +kernel
theorem dX6_burnHours_0 : decode cX6_burnHours 0 = .ok (.aload_n 0, 1) := by decide +kernel
theorem dX6_burnHours_1 : decode cX6_burnHours 1 = .ok (.getfield 19, 3) := by decide +kernel
theorem dX6_burnHours_4 : decode cX6_burnHours 4 = .ok (.aload_n 0, 1) := by decide +kernel
theorem dX6_burnHours_5 : decode cX6_burnHours 5 = .ok (.getfield 12, 3) := by decide +kernel
theorem dX6_burnHours_8 : decode cX6_burnHours 8 = .ok (.invokevirtual 98, 3) := by decide +kernel
theorem dX6_burnHours_11 : decode cX6_burnHours 11 = .ok (.iconst 0, 1) := by decide +kernel
theorem dX6_burnHours_12 : decode cX6_burnHours 12 = .ok (.istore_n 2, 1) := by decide +kernel
theorem dX6_burnHours_13 : decode cX6_burnHours 13 = .ok (.iload_n 2, 1) := by decide +kernel
theorem dX6_burnHours_14 : decode cX6_burnHours 14 = .ok (.aload_n 0, 1) := by decide +kernel
theorem dX6_burnHours_15 : decode cX6_burnHours 15 = .ok (.getfield 12, 3) := by decide +kernel
theorem dX6_burnHours_18 : decode cX6_burnHours 18 = .ok (.getfield 198, 3) := by decide +kernel
theorem dX6_burnHours_21 : decode cX6_burnHours 21 = .ok (.if_icmp .ge 49, 3) := by decide +kernel
theorem dX6_burnHours_24 : decode cX6_burnHours 24 = .ok (.aload_n 0, 1) := by decide +kernel
theorem dX6_burnHours_25 : decode cX6_burnHours 25 = .ok (.getfield 12, 3) := by decide +kernel
theorem dX6_burnHours_28 : decode cX6_burnHours 28 = .ok (.iload_n 2, 1) := by decide +kernel
theorem dX6_burnHours_29 : decode cX6_burnHours 29 = .ok (.invokevirtual 119, 3) := by decide +kernel
theorem dX6_burnHours_32 : decode cX6_burnHours 32 = .ok (.ifCond .eq 32, 3) := by decide +kernel
theorem dX6_burnHours_35 : decode cX6_burnHours 35 = .ok (.aload_n 0, 1) := by decide +kernel
theorem dX6_burnHours_36 : decode cX6_burnHours 36 = .ok (.getfield 12, 3) := by decide +kernel
theorem dX6_burnHours_39 : decode cX6_burnHours 39 = .ok (.iload_n 2, 1) := by decide +kernel
theorem dX6_burnHours_40 : decode cX6_burnHours 40 = .ok (.iload_n 1, 1) := by decide +kernel
theorem dX6_burnHours_41 : decode cX6_burnHours 41 = .ok (.aload_n 0, 1) := by decide +kernel
theorem dX6_burnHours_42 : decode cX6_burnHours 42 = .ok (.getfield 19, 3) := by decide +kernel
theorem dX6_burnHours_45 : decode cX6_burnHours 45 = .ok (.iload_n 2, 1) := by decide +kernel
theorem dX6_burnHours_46 : decode cX6_burnHours 46 = .ok (.aload_n 0, 1) := by decide +kernel
theorem dX6_burnHours_47 : decode cX6_burnHours 47 = .ok (.getfield 12, 3) := by decide +kernel
theorem dX6_burnHours_50 : decode cX6_burnHours 50 = .ok (.iload_n 2, 1) := by decide +kernel
theorem dX6_burnHours_51 : decode cX6_burnHours 51 = .ok (.invokevirtual 282, 3) := by decide +kernel
theorem dX6_burnHours_54 : decode cX6_burnHours 54 = .ok (.invokevirtual 291, 3) := by decide +kernel
theorem dX6_burnHours_57 : decode cX6_burnHours 57 = .ok (.imul, 1) := by decide +kernel
theorem dX6_burnHours_58 : decode cX6_burnHours 58 = .ok (.bipush 100, 2) := by decide +kernel
theorem dX6_burnHours_60 : decode cX6_burnHours 60 = .ok (.idiv, 1) := by decide +kernel
theorem dX6_burnHours_61 : decode cX6_burnHours 61 = .ok (.invokevirtual 318, 3) := by decide +kernel
theorem dX6_burnHours_64 : decode cX6_burnHours 64 = .ok (.iinc 2 1, 3) := by decide +kernel
theorem dX6_burnHours_67 : decode cX6_burnHours 67 = .ok (.goto (-54), 3) := by decide +kernel
theorem dX6_burnHours_70 : decode cX6_burnHours 70 = .ok (.aload_n 0, 1) := by decide +kernel
theorem dX6_burnHours_71 : decode cX6_burnHours 71 = .ok (.getfield 12, 3) := by decide +kernel
theorem dX6_burnHours_74 : decode cX6_burnHours 74 = .ok (.iload_n 1, 1) := by decide +kernel
theorem dX6_burnHours_75 : decode cX6_burnHours 75 = .ok (.invokevirtual 321, 3) := by decide +kernel
theorem dX6_burnHours_78 : decode cX6_burnHours 78 = .ok (.return_, 1) := by decide +kernel
theorem dX6_carryOut_0 : decode cX6_carryOut 0 = .ok (.aload_n 0, 1) := by decide +kernel
theorem dX6_carryOut_1 : decode cX6_carryOut 1 = .ok (.getfield 40, 3) := by decide +kernel
theorem dX6_carryOut_4 : decode cX6_carryOut 4 = .ok (.iconst 0, 1) := by decide +kernel
theorem dX6_carryOut_5 : decode cX6_carryOut 5 = .ok (.invokevirtual 324, 3) := by decide +kernel
theorem dX6_carryOut_8 : decode cX6_carryOut 8 = .ok (.istore_n 1, 1) := by decide +kernel
theorem dX6_carryOut_9 : decode cX6_carryOut 9 = .ok (.aload_n 0, 1) := by decide +kernel
theorem dX6_carryOut_10 : decode cX6_carryOut 10 = .ok (.getfield 40, 3) := by decide +kernel
theorem dX6_carryOut_13 : decode cX6_carryOut 13 = .ok (.iconst 1, 1) := by decide +kernel
theorem dX6_carryOut_14 : decode cX6_carryOut 14 = .ok (.invokevirtual 324, 3) := by decide +kernel
theorem dX6_carryOut_17 : decode cX6_carryOut 17 = .ok (.istore_n 2, 1) := by decide +kernel
theorem dX6_carryOut_18 : decode cX6_carryOut 18 = .ok (.aload_n 0, 1) := by decide +kernel
theorem dX6_carryOut_19 : decode cX6_carryOut 19 = .ok (.getfield 40, 3) := by decide +kernel
theorem dX6_carryOut_22 : decode cX6_carryOut 22 = .ok (.iconst 2, 1) := by decide +kernel
theorem dX6_carryOut_23 : decode cX6_carryOut 23 = .ok (.invokevirtual 324, 3) := by decide +kernel
theorem dX6_carryOut_26 : decode cX6_carryOut 26 = .ok (.istore_n 3, 1) := by decide +kernel
theorem dX6_carryOut_27 : decode cX6_carryOut 27 = .ok (.aload_n 0, 1) := by decide +kernel
theorem dX6_carryOut_28 : decode cX6_carryOut 28 = .ok (.getfield 40, 3) := by decide +kernel
theorem dX6_carryOut_31 : decode cX6_carryOut 31 = .ok (.iconst 3, 1) := by decide +kernel
theorem dX6_carryOut_32 : decode cX6_carryOut 32 = .ok (.invokevirtual 324, 3) := by decide +kernel
theorem dX6_carryOut_35 : decode cX6_carryOut 35 = .ok (.istore 4, 2) := by decide +kernel
theorem dX6_carryOut_37 : decode cX6_carryOut 37 = .ok (.aload_n 0, 1) := by decide +kernel
theorem dX6_carryOut_38 : decode cX6_carryOut 38 = .ok (.getfield 40, 3) := by decide +kernel
theorem dX6_carryOut_41 : decode cX6_carryOut 41 = .ok (.iconst 4, 1) := by decide +kernel
theorem dX6_carryOut_42 : decode cX6_carryOut 42 = .ok (.invokevirtual 324, 3) := by decide +kernel
theorem dX6_carryOut_45 : decode cX6_carryOut 45 = .ok (.istore 5, 2) := by decide +kernel
theorem dX6_carryOut_47 : decode cX6_carryOut 47 = .ok (.aload_n 0, 1) := by decide +kernel
theorem dX6_carryOut_48 : decode cX6_carryOut 48 = .ok (.iload_n 1, 1) := by decide +kernel
theorem dX6_carryOut_49 : decode cX6_carryOut 49 = .ok (.iload_n 2, 1) := by decide +kernel
theorem dX6_carryOut_50 : decode cX6_carryOut 50 = .ok (.iload_n 3, 1) := by decide +kernel
theorem dX6_carryOut_51 : decode cX6_carryOut 51 = .ok (.iload 4, 2) := by decide +kernel
theorem dX6_carryOut_53 : decode cX6_carryOut 53 = .ok (.iload 5, 2) := by decide +kernel
theorem dX6_carryOut_55 : decode cX6_carryOut 55 = .ok (.invokevirtual 327, 3) := by decide +kernel
theorem dX6_carryOut_58 : decode cX6_carryOut 58 = .ok (.ifCond .eq 5, 3) := by decide +kernel
theorem dX6_carryOut_61 : decode cX6_carryOut 61 = .ok (.iconst 0, 1) := by decide +kernel
theorem dX6_carryOut_62 : decode cX6_carryOut 62 = .ok (.ireturn, 1) := by decide +kernel
theorem dX6_carryOut_63 : decode cX6_carryOut 63 = .ok (.aload_n 0, 1) := by decide +kernel
theorem dX6_carryOut_64 : decode cX6_carryOut 64 = .ok (.getfield 40, 3) := by decide +kernel
theorem dX6_carryOut_67 : decode cX6_carryOut 67 = .ok (.getfield 330, 3) := by decide +kernel
theorem dX6_carryOut_70 : decode cX6_carryOut 70 = .ok (.tableswitch 136 1 7 #[42, 54, 72, 85, 100, 112, 124], 42) := by decide +kernel
theorem dX6_carryOut_112 : decode cX6_carryOut 112 = .ok (.aload_n 0, 1) := by decide +kernel
theorem dX6_carryOut_113 : decode cX6_carryOut 113 = .ok (.getfield 12, 3) := by decide +kernel
theorem dX6_carryOut_116 : decode cX6_carryOut 116 = .ok (.iload_n 1, 1) := by decide +kernel
theorem dX6_carryOut_117 : decode cX6_carryOut 117 = .ok (.iload_n 2, 1) := by decide +kernel
theorem dX6_carryOut_118 : decode cX6_carryOut 118 = .ok (.invokevirtual 60, 3) := by decide +kernel
theorem dX6_carryOut_121 : decode cX6_carryOut 121 = .ok (.goto 90, 3) := by decide +kernel
theorem dX6_carryOut_124 : decode cX6_carryOut 124 = .ok (.aload_n 0, 1) := by decide +kernel
theorem dX6_carryOut_125 : decode cX6_carryOut 125 = .ok (.getfield 12, 3) := by decide +kernel
theorem dX6_carryOut_128 : decode cX6_carryOut 128 = .ok (.iload_n 1, 1) := by decide +kernel
theorem dX6_carryOut_129 : decode cX6_carryOut 129 = .ok (.iload_n 2, 1) := by decide +kernel
theorem dX6_carryOut_130 : decode cX6_carryOut 130 = .ok (.iload_n 3, 1) := by decide +kernel
theorem dX6_carryOut_131 : decode cX6_carryOut 131 = .ok (.iload 4, 2) := by decide +kernel
theorem dX6_carryOut_133 : decode cX6_carryOut 133 = .ok (.iload 5, 2) := by decide +kernel
theorem dX6_carryOut_135 : decode cX6_carryOut 135 = .ok (.invokevirtual 71, 3) := by decide +kernel
theorem dX6_carryOut_138 : decode cX6_carryOut 138 = .ok (.pop, 1) := by decide +kernel
theorem dX6_carryOut_139 : decode cX6_carryOut 139 = .ok (.goto 72, 3) := by decide +kernel
theorem dX6_carryOut_142 : decode cX6_carryOut 142 = .ok (.aload_n 0, 1) := by decide +kernel
theorem dX6_carryOut_143 : decode cX6_carryOut 143 = .ok (.getfield 12, 3) := by decide +kernel
theorem dX6_carryOut_146 : decode cX6_carryOut 146 = .ok (.iload_n 1, 1) := by decide +kernel
theorem dX6_carryOut_147 : decode cX6_carryOut 147 = .ok (.iload_n 2, 1) := by decide +kernel
theorem dX6_carryOut_148 : decode cX6_carryOut 148 = .ok (.invokevirtual 80, 3) := by decide +kernel
theorem dX6_carryOut_151 : decode cX6_carryOut 151 = .ok (.pop, 1) := by decide +kernel
theorem dX6_carryOut_152 : decode cX6_carryOut 152 = .ok (.goto 59, 3) := by decide +kernel
theorem dX6_carryOut_155 : decode cX6_carryOut 155 = .ok (.aload_n 0, 1) := by decide +kernel
theorem dX6_carryOut_156 : decode cX6_carryOut 156 = .ok (.getfield 12, 3) := by decide +kernel
theorem dX6_carryOut_159 : decode cX6_carryOut 159 = .ok (.iload_n 1, 1) := by decide +kernel
theorem dX6_carryOut_160 : decode cX6_carryOut 160 = .ok (.iload_n 2, 1) := by decide +kernel
theorem dX6_carryOut_161 : decode cX6_carryOut 161 = .ok (.iload_n 3, 1) := by decide +kernel
theorem dX6_carryOut_162 : decode cX6_carryOut 162 = .ok (.iload 4, 2) := by decide +kernel
theorem dX6_carryOut_164 : decode cX6_carryOut 164 = .ok (.invokevirtual 87, 3) := by decide +kernel
theorem dX6_carryOut_167 : decode cX6_carryOut 167 = .ok (.goto 44, 3) := by decide +kernel
theorem dX6_carryOut_170 : decode cX6_carryOut 170 = .ok (.aload_n 0, 1) := by decide +kernel
theorem dX6_carryOut_171 : decode cX6_carryOut 171 = .ok (.getfield 12, 3) := by decide +kernel
theorem dX6_carryOut_174 : decode cX6_carryOut 174 = .ok (.iload_n 1, 1) := by decide +kernel
theorem dX6_carryOut_175 : decode cX6_carryOut 175 = .ok (.iload_n 2, 1) := by decide +kernel
theorem dX6_carryOut_176 : decode cX6_carryOut 176 = .ok (.invokevirtual 129, 3) := by decide +kernel
theorem dX6_carryOut_179 : decode cX6_carryOut 179 = .ok (.goto 32, 3) := by decide +kernel
theorem dX6_carryOut_182 : decode cX6_carryOut 182 = .ok (.aload_n 0, 1) := by decide +kernel
theorem dX6_carryOut_183 : decode cX6_carryOut 183 = .ok (.getfield 12, 3) := by decide +kernel
theorem dX6_carryOut_186 : decode cX6_carryOut 186 = .ok (.iload_n 1, 1) := by decide +kernel
theorem dX6_carryOut_187 : decode cX6_carryOut 187 = .ok (.iconst 0, 1) := by decide +kernel
theorem dX6_carryOut_188 : decode cX6_carryOut 188 = .ok (.invokevirtual 122, 3) := by decide +kernel
theorem dX6_carryOut_191 : decode cX6_carryOut 191 = .ok (.goto 20, 3) := by decide +kernel
theorem dX6_carryOut_194 : decode cX6_carryOut 194 = .ok (.aload_n 0, 1) := by decide +kernel
theorem dX6_carryOut_195 : decode cX6_carryOut 195 = .ok (.getfield 12, 3) := by decide +kernel
theorem dX6_carryOut_198 : decode cX6_carryOut 198 = .ok (.iload_n 1, 1) := by decide +kernel
theorem dX6_carryOut_199 : decode cX6_carryOut 199 = .ok (.iconst 1, 1) := by decide +kernel
theorem dX6_carryOut_200 : decode cX6_carryOut 200 = .ok (.invokevirtual 122, 3) := by decide +kernel
theorem dX6_carryOut_203 : decode cX6_carryOut 203 = .ok (.goto 8, 3) := by decide +kernel
theorem dX6_carryOut_206 : decode cX6_carryOut 206 = .ok (.aload_n 0, 1) := by decide +kernel
theorem dX6_carryOut_207 : decode cX6_carryOut 207 = .ok (.iload_n 1, 1) := by decide +kernel
theorem dX6_carryOut_208 : decode cX6_carryOut 208 = .ok (.invokevirtual 138, 3) := by decide +kernel
theorem dX6_carryOut_211 : decode cX6_carryOut 211 = .ok (.iconst 1, 1) := by decide +kernel
theorem dX6_carryOut_212 : decode cX6_carryOut 212 = .ok (.ireturn, 1) := by decide +kernel
theorem dX6_faultOfCommand_0 : decode cX6_faultOfCommand 0 = .ok (.aload_n 0, 1) := by decide +kernel
theorem dX6_faultOfCommand_1 : decode cX6_faultOfCommand 1 = .ok (.getfield 40, 3) := by decide +kernel
theorem dX6_faultOfCommand_4 : decode cX6_faultOfCommand 4 = .ok (.getfield 330, 3) := by decide +kernel
theorem dX6_faultOfCommand_7 : decode cX6_faultOfCommand 7 = .ok (.tableswitch 88 1 7 #[41, 47, 59, 66, 76, 82, 82], 41) := by decide +kernel
theorem dX6_faultOfCommand_48 : decode cX6_faultOfCommand 48 = .ok (.iload_n 1, 1) := by decide +kernel
theorem dX6_faultOfCommand_49 : decode cX6_faultOfCommand 49 = .ok (.iload_n 2, 1) := by decide +kernel
theorem dX6_faultOfCommand_50 : decode cX6_faultOfCommand 50 = .ok (.invokestatic 44, 3) := by decide +kernel
theorem dX6_faultOfCommand_53 : decode cX6_faultOfCommand 53 = .ok (.ireturn, 1) := by decide +kernel
theorem dX6_faultOfCommand_54 : decode cX6_faultOfCommand 54 = .ok (.aload_n 0, 1) := by decide +kernel
theorem dX6_faultOfCommand_55 : decode cX6_faultOfCommand 55 = .ok (.iload_n 1, 1) := by decide +kernel
theorem dX6_faultOfCommand_56 : decode cX6_faultOfCommand 56 = .ok (.iload_n 2, 1) := by decide +kernel
theorem dX6_faultOfCommand_57 : decode cX6_faultOfCommand 57 = .ok (.iload_n 3, 1) := by decide +kernel
theorem dX6_faultOfCommand_58 : decode cX6_faultOfCommand 58 = .ok (.iload 4, 2) := by decide +kernel
theorem dX6_faultOfCommand_60 : decode cX6_faultOfCommand 60 = .ok (.iload 5, 2) := by decide +kernel
theorem dX6_faultOfCommand_62 : decode cX6_faultOfCommand 62 = .ok (.invokevirtual 64, 3) := by decide +kernel
theorem dX6_faultOfCommand_65 : decode cX6_faultOfCommand 65 = .ok (.ireturn, 1) := by decide +kernel
theorem dX6_faultOfCommand_66 : decode cX6_faultOfCommand 66 = .ok (.aload_n 0, 1) := by decide +kernel
theorem dX6_faultOfCommand_67 : decode cX6_faultOfCommand 67 = .ok (.iload_n 1, 1) := by decide +kernel
theorem dX6_faultOfCommand_68 : decode cX6_faultOfCommand 68 = .ok (.iload_n 2, 1) := by decide +kernel
theorem dX6_faultOfCommand_69 : decode cX6_faultOfCommand 69 = .ok (.invokevirtual 74, 3) := by decide +kernel
theorem dX6_faultOfCommand_72 : decode cX6_faultOfCommand 72 = .ok (.ireturn, 1) := by decide +kernel
theorem dX6_faultOfCommand_73 : decode cX6_faultOfCommand 73 = .ok (.aload_n 0, 1) := by decide +kernel
theorem dX6_faultOfCommand_74 : decode cX6_faultOfCommand 74 = .ok (.iload_n 1, 1) := by decide +kernel
theorem dX6_faultOfCommand_75 : decode cX6_faultOfCommand 75 = .ok (.iload_n 2, 1) := by decide +kernel
theorem dX6_faultOfCommand_76 : decode cX6_faultOfCommand 76 = .ok (.iload_n 3, 1) := by decide +kernel
theorem dX6_faultOfCommand_77 : decode cX6_faultOfCommand 77 = .ok (.iload 4, 2) := by decide +kernel
theorem dX6_faultOfCommand_79 : decode cX6_faultOfCommand 79 = .ok (.invokevirtual 83, 3) := by decide +kernel
theorem dX6_faultOfCommand_82 : decode cX6_faultOfCommand 82 = .ok (.ireturn, 1) := by decide +kernel
theorem dX6_faultOfCommand_83 : decode cX6_faultOfCommand 83 = .ok (.iload_n 1, 1) := by decide +kernel
theorem dX6_faultOfCommand_84 : decode cX6_faultOfCommand 84 = .ok (.iload_n 2, 1) := by decide +kernel
theorem dX6_faultOfCommand_85 : decode cX6_faultOfCommand 85 = .ok (.invokestatic 126, 3) := by decide +kernel
theorem dX6_faultOfCommand_88 : decode cX6_faultOfCommand 88 = .ok (.ireturn, 1) := by decide +kernel
theorem dX6_faultOfCommand_89 : decode cX6_faultOfCommand 89 = .ok (.aload_n 0, 1) := by decide +kernel
theorem dX6_faultOfCommand_90 : decode cX6_faultOfCommand 90 = .ok (.iload_n 1, 1) := by decide +kernel
theorem dX6_faultOfCommand_91 : decode cX6_faultOfCommand 91 = .ok (.invokevirtual 116, 3) := by decide +kernel
theorem dX6_faultOfCommand_94 : decode cX6_faultOfCommand 94 = .ok (.ireturn, 1) := by decide +kernel
theorem dX6_faultOfCommand_95 : decode cX6_faultOfCommand 95 = .ok (.iload_n 1, 1) := by decide +kernel
theorem dX6_faultOfCommand_96 : decode cX6_faultOfCommand 96 = .ok (.invokestatic 135, 3) := by decide +kernel
theorem dX6_faultOfCommand_99 : decode cX6_faultOfCommand 99 = .ok (.ireturn, 1) := by decide +kernel
theorem dX6_faultOfWall_0 : decode cX6_faultOfWall 0 = .ok (.iload_n 0, 1) := by decide +kernel
theorem dX6_faultOfWall_1 : decode cX6_faultOfWall 1 = .ok (.iconst 1, 1) := by decide +kernel
theorem dX6_faultOfWall_2 : decode cX6_faultOfWall 2 = .ok (.bipush 24, 2) := by decide +kernel
theorem dX6_faultOfWall_4 : decode cX6_faultOfWall 4 = .ok (.invokestatic 176, 3) := by decide +kernel
theorem dX6_faultOfWall_7 : decode cX6_faultOfWall 7 = .ok (.ifCond .eq 17, 3) := by decide +kernel
theorem dX6_faultOfWall_10 : decode cX6_faultOfWall 10 = .ok (.iload_n 1, 1) := by decide +kernel
theorem dX6_faultOfWall_11 : decode cX6_faultOfWall 11 = .ok (.iconst 1, 1) := by decide +kernel
theorem dX6_faultOfWall_12 : decode cX6_faultOfWall 12 = .ok (.bipush 16, 2) := by decide +kernel
theorem dX6_faultOfWall_14 : decode cX6_faultOfWall 14 = .ok (.invokestatic 176, 3) := by decide +kernel
theorem dX6_faultOfWall_17 : decode cX6_faultOfWall 17 = .ok (.ifCond .eq 7, 3) := by decide +kernel
theorem dX6_faultOfWall_20 : decode cX6_faultOfWall 20 = .ok (.iconst 0, 1) := by decide +kernel
theorem dX6_faultOfWall_21 : decode cX6_faultOfWall 21 = .ok (.goto 4, 3) := by decide +kernel
theorem dX6_faultOfWall_24 : decode cX6_faultOfWall 24 = .ok (.iconst 2, 1) := by decide +kernel
theorem dX6_faultOfWall_25 : decode cX6_faultOfWall 25 = .ok (.ireturn, 1) := by decide +kernel
theorem dX6_faultOfPainting_0 : decode cX6_faultOfPainting 0 = .ok (.aload_n 0, 1) := by decide +kernel
theorem dX6_faultOfPainting_1 : decode cX6_faultOfPainting 1 = .ok (.getfield 12, 3) := by decide +kernel
theorem dX6_faultOfPainting_4 : decode cX6_faultOfPainting 4 = .ok (.iload_n 1, 1) := by decide +kernel
theorem dX6_faultOfPainting_5 : decode cX6_faultOfPainting 5 = .ok (.iload_n 2, 1) := by decide +kernel
theorem dX6_faultOfPainting_6 : decode cX6_faultOfPainting 6 = .ok (.invokevirtual 333, 3) := by decide +kernel
theorem dX6_faultOfPainting_9 : decode cX6_faultOfPainting 9 = .ok (.ifCond .eq 16, 3) := by decide +kernel
theorem dX6_faultOfPainting_12 : decode cX6_faultOfPainting 12 = .ok (.aload_n 0, 1) := by decide +kernel
theorem dX6_faultOfPainting_13 : decode cX6_faultOfPainting 13 = .ok (.getfield 12, 3) := by decide +kernel
theorem dX6_faultOfPainting_16 : decode cX6_faultOfPainting 16 = .ok (.iload_n 3, 1) := by decide +kernel
theorem dX6_faultOfPainting_17 : decode cX6_faultOfPainting 17 = .ok (.iload 4, 2) := by decide +kernel
theorem dX6_faultOfPainting_19 : decode cX6_faultOfPainting 19 = .ok (.invokevirtual 333, 3) := by decide +kernel
theorem dX6_faultOfPainting_22 : decode cX6_faultOfPainting 22 = .ok (.ifCond .ne 5, 3) := by decide +kernel
theorem dX6_faultOfPainting_25 : decode cX6_faultOfPainting 25 = .ok (.iconst 1, 1) := by decide +kernel
theorem dX6_faultOfPainting_26 : decode cX6_faultOfPainting 26 = .ok (.ireturn, 1) := by decide +kernel
theorem dX6_faultOfPainting_27 : decode cX6_faultOfPainting 27 = .ok (.iload_n 3, 1) := by decide +kernel
theorem dX6_faultOfPainting_28 : decode cX6_faultOfPainting 28 = .ok (.iload_n 1, 1) := by decide +kernel
theorem dX6_faultOfPainting_29 : decode cX6_faultOfPainting 29 = .ok (.if_icmp .lt 25, 3) := by decide +kernel
theorem dX6_faultOfPainting_32 : decode cX6_faultOfPainting 32 = .ok (.iload 4, 2) := by decide +kernel
theorem dX6_faultOfPainting_34 : decode cX6_faultOfPainting 34 = .ok (.iload_n 2, 1) := by decide +kernel
theorem dX6_faultOfPainting_35 : decode cX6_faultOfPainting 35 = .ok (.if_icmp .lt 19, 3) := by decide +kernel
theorem dX6_faultOfPainting_38 : decode cX6_faultOfPainting 38 = .ok (.iload 5, 2) := by decide +kernel
theorem dX6_faultOfPainting_40 : decode cX6_faultOfPainting 40 = .ok (.iconst 0, 1) := by decide +kernel
theorem dX6_faultOfPainting_41 : decode cX6_faultOfPainting 41 = .ok (.sipush 255, 3) := by decide +kernel
theorem dX6_faultOfPainting_44 : decode cX6_faultOfPainting 44 = .ok (.invokestatic 176, 3) := by decide +kernel
theorem dX6_faultOfPainting_47 : decode cX6_faultOfPainting 47 = .ok (.ifCond .eq 7, 3) := by decide +kernel
theorem dX6_faultOfPainting_50 : decode cX6_faultOfPainting 50 = .ok (.iconst 0, 1) := by decide +kernel
theorem dX6_faultOfPainting_51 : decode cX6_faultOfPainting 51 = .ok (.goto 4, 3) := by decide +kernel
theorem dX6_faultOfPainting_54 : decode cX6_faultOfPainting 54 = .ok (.iconst 2, 1) := by decide +kernel
theorem dX6_faultOfPainting_55 : decode cX6_faultOfPainting 55 = .ok (.ireturn, 1) := by decide +kernel
theorem dX6_faultOfNewLamp_0 : decode cX6_faultOfNewLamp 0 = .ok (.iload_n 1, 1) := by decide +kernel
theorem dX6_faultOfNewLamp_1 : decode cX6_faultOfNewLamp 1 = .ok (.iconst 0, 1) := by decide +kernel
theorem dX6_faultOfNewLamp_2 : decode cX6_faultOfNewLamp 2 = .ok (.sipush 255, 3) := by decide +kernel
theorem dX6_faultOfNewLamp_5 : decode cX6_faultOfNewLamp 5 = .ok (.invokestatic 176, 3) := by decide +kernel
theorem dX6_faultOfNewLamp_8 : decode cX6_faultOfNewLamp 8 = .ok (.ifCond .eq 14, 3) := by decide +kernel
theorem dX6_faultOfNewLamp_11 : decode cX6_faultOfNewLamp 11 = .ok (.iload_n 2, 1) := by decide +kernel
theorem dX6_faultOfNewLamp_12 : decode cX6_faultOfNewLamp 12 = .ok (.iconst 0, 1) := by decide +kernel
theorem dX6_faultOfNewLamp_13 : decode cX6_faultOfNewLamp 13 = .ok (.sipush 255, 3) := by decide +kernel
theorem dX6_faultOfNewLamp_16 : decode cX6_faultOfNewLamp 16 = .ok (.invokestatic 176, 3) := by decide +kernel
theorem dX6_faultOfNewLamp_19 : decode cX6_faultOfNewLamp 19 = .ok (.ifCond .ne 5, 3) := by decide +kernel
theorem dX6_faultOfNewLamp_22 : decode cX6_faultOfNewLamp 22 = .ok (.iconst 2, 1) := by decide +kernel
theorem dX6_faultOfNewLamp_23 : decode cX6_faultOfNewLamp 23 = .ok (.ireturn, 1) := by decide +kernel
theorem dX6_faultOfNewLamp_24 : decode cX6_faultOfNewLamp 24 = .ok (.aload_n 0, 1) := by decide +kernel
theorem dX6_faultOfNewLamp_25 : decode cX6_faultOfNewLamp 25 = .ok (.getfield 12, 3) := by decide +kernel
theorem dX6_faultOfNewLamp_28 : decode cX6_faultOfNewLamp 28 = .ok (.getfield 198, 3) := by decide +kernel
theorem dX6_faultOfNewLamp_31 : decode cX6_faultOfNewLamp 31 = .ok (.bipush 8, 2) := by decide +kernel
theorem dX6_faultOfNewLamp_33 : decode cX6_faultOfNewLamp 33 = .ok (.if_icmp .ge 7, 3) := by decide +kernel
theorem dX6_faultOfNewLamp_36 : decode cX6_faultOfNewLamp 36 = .ok (.iconst 0, 1) := by decide +kernel
theorem dX6_faultOfNewLamp_37 : decode cX6_faultOfNewLamp 37 = .ok (.goto 4, 3) := by decide +kernel
theorem dX6_faultOfNewLamp_40 : decode cX6_faultOfNewLamp 40 = .ok (.iconst 3, 1) := by decide +kernel
theorem dX6_faultOfNewLamp_41 : decode cX6_faultOfNewLamp 41 = .ok (.ireturn, 1) := by decide +kernel
theorem dX6_faultOfCorner_0 : decode cX6_faultOfCorner 0 = .ok (.aload_n 0, 1) := by decide +kernel
theorem dX6_faultOfCorner_1 : decode cX6_faultOfCorner 1 = .ok (.getfield 12, 3) := by decide +kernel
theorem dX6_faultOfCorner_4 : decode cX6_faultOfCorner 4 = .ok (.iload_n 1, 1) := by decide +kernel
theorem dX6_faultOfCorner_5 : decode cX6_faultOfCorner 5 = .ok (.invokevirtual 336, 3) := by decide +kernel
theorem dX6_faultOfCorner_8 : decode cX6_faultOfCorner 8 = .ok (.ifCond .eq 12, 3) := by decide +kernel
theorem dX6_faultOfCorner_11 : decode cX6_faultOfCorner 11 = .ok (.iload_n 2, 1) := by decide +kernel
theorem dX6_faultOfCorner_12 : decode cX6_faultOfCorner 12 = .ok (.iconst 0, 1) := by decide +kernel
theorem dX6_faultOfCorner_13 : decode cX6_faultOfCorner 13 = .ok (.iconst 3, 1) := by decide +kernel
theorem dX6_faultOfCorner_14 : decode cX6_faultOfCorner 14 = .ok (.invokestatic 176, 3) := by decide +kernel
theorem dX6_faultOfCorner_17 : decode cX6_faultOfCorner 17 = .ok (.ifCond .ne 5, 3) := by decide +kernel
theorem dX6_faultOfCorner_20 : decode cX6_faultOfCorner 20 = .ok (.iconst 1, 1) := by decide +kernel
theorem dX6_faultOfCorner_21 : decode cX6_faultOfCorner 21 = .ok (.ireturn, 1) := by decide +kernel
theorem dX6_faultOfCorner_22 : decode cX6_faultOfCorner 22 = .ok (.iload_n 3, 1) := by decide +kernel
theorem dX6_faultOfCorner_23 : decode cX6_faultOfCorner 23 = .ok (.bipush (-20), 2) := by decide +kernel
theorem dX6_faultOfCorner_25 : decode cX6_faultOfCorner 25 = .ok (.bipush 40, 2) := by decide +kernel
theorem dX6_faultOfCorner_27 : decode cX6_faultOfCorner 27 = .ok (.invokestatic 176, 3) := by decide +kernel
theorem dX6_faultOfCorner_30 : decode cX6_faultOfCorner 30 = .ok (.ifCond .eq 19, 3) := by decide +kernel
theorem dX6_faultOfCorner_33 : decode cX6_faultOfCorner 33 = .ok (.iload 4, 2) := by decide +kernel
theorem dX6_faultOfCorner_35 : decode cX6_faultOfCorner 35 = .ok (.bipush (-20), 2) := by decide +kernel
theorem dX6_faultOfCorner_37 : decode cX6_faultOfCorner 37 = .ok (.bipush 40, 2) := by decide +kernel
theorem dX6_faultOfCorner_39 : decode cX6_faultOfCorner 39 = .ok (.invokestatic 176, 3) := by decide +kernel
theorem dX6_faultOfCorner_42 : decode cX6_faultOfCorner 42 = .ok (.ifCond .eq 7, 3) := by decide +kernel
theorem dX6_faultOfCorner_45 : decode cX6_faultOfCorner 45 = .ok (.iconst 1, 1) := by decide +kernel
theorem dX6_faultOfCorner_46 : decode cX6_faultOfCorner 46 = .ok (.goto 4, 3) := by decide +kernel
theorem dX6_faultOfCorner_49 : decode cX6_faultOfCorner 49 = .ok (.iconst 0, 1) := by decide +kernel
theorem dX6_faultOfCorner_50 : decode cX6_faultOfCorner 50 = .ok (.istore 5, 2) := by decide +kernel
theorem dX6_faultOfCorner_52 : decode cX6_faultOfCorner 52 = .ok (.iload 5, 2) := by decide +kernel
theorem dX6_faultOfCorner_54 : decode cX6_faultOfCorner 54 = .ok (.ifCond .eq 7, 3) := by decide +kernel
theorem dX6_faultOfCorner_57 : decode cX6_faultOfCorner 57 = .ok (.iconst 0, 1) := by decide +kernel
theorem dX6_faultOfCorner_58 : decode cX6_faultOfCorner 58 = .ok (.goto 4, 3) := by decide +kernel
theorem dX6_faultOfCorner_61 : decode cX6_faultOfCorner 61 = .ok (.iconst 2, 1) := by decide +kernel
theorem dX6_faultOfCorner_62 : decode cX6_faultOfCorner 62 = .ok (.ireturn, 1) := by decide +kernel
theorem dX6_faultOfRectangle_0 : decode cX6_faultOfRectangle 0 = .ok (.aload_n 0, 1) := by decide +kernel
theorem dX6_faultOfRectangle_1 : decode cX6_faultOfRectangle 1 = .ok (.getfield 12, 3) := by decide +kernel
theorem dX6_faultOfRectangle_4 : decode cX6_faultOfRectangle 4 = .ok (.iload_n 1, 1) := by decide +kernel
theorem dX6_faultOfRectangle_5 : decode cX6_faultOfRectangle 5 = .ok (.invokevirtual 336, 3) := by decide +kernel
theorem dX6_faultOfRectangle_8 : decode cX6_faultOfRectangle 8 = .ok (.ifCond .ne 5, 3) := by decide +kernel
theorem dX6_faultOfRectangle_11 : decode cX6_faultOfRectangle 11 = .ok (.iconst 1, 1) := by decide +kernel
theorem dX6_faultOfRectangle_12 : decode cX6_faultOfRectangle 12 = .ok (.ireturn, 1) := by decide +kernel
theorem dX6_faultOfRectangle_13 : decode cX6_faultOfRectangle 13 = .ok (.iload_n 2, 1) := by decide +kernel
theorem dX6_faultOfRectangle_14 : decode cX6_faultOfRectangle 14 = .ok (.bipush (-20), 2) := by decide +kernel
theorem dX6_faultOfRectangle_16 : decode cX6_faultOfRectangle 16 = .ok (.bipush 39, 2) := by decide +kernel
theorem dX6_faultOfRectangle_18 : decode cX6_faultOfRectangle 18 = .ok (.invokestatic 176, 3) := by decide +kernel
theorem dX6_faultOfRectangle_21 : decode cX6_faultOfRectangle 21 = .ok (.ifCond .eq 18, 3) := by decide +kernel
theorem dX6_faultOfRectangle_24 : decode cX6_faultOfRectangle 24 = .ok (.iload_n 3, 1) := by decide +kernel
theorem dX6_faultOfRectangle_25 : decode cX6_faultOfRectangle 25 = .ok (.bipush (-20), 2) := by decide +kernel
theorem dX6_faultOfRectangle_27 : decode cX6_faultOfRectangle 27 = .ok (.bipush 39, 2) := by decide +kernel
theorem dX6_faultOfRectangle_29 : decode cX6_faultOfRectangle 29 = .ok (.invokestatic 176, 3) := by decide +kernel
theorem dX6_faultOfRectangle_32 : decode cX6_faultOfRectangle 32 = .ok (.ifCond .eq 7, 3) := by decide +kernel
theorem dX6_faultOfRectangle_35 : decode cX6_faultOfRectangle 35 = .ok (.iconst 1, 1) := by decide +kernel
theorem dX6_faultOfRectangle_36 : decode cX6_faultOfRectangle 36 = .ok (.goto 4, 3) := by decide +kernel
theorem dX6_faultOfRectangle_39 : decode cX6_faultOfRectangle 39 = .ok (.iconst 0, 1) := by decide +kernel
theorem dX6_faultOfRectangle_40 : decode cX6_faultOfRectangle 40 = .ok (.istore 6, 2) := by decide +kernel
theorem dX6_faultOfRectangle_42 : decode cX6_faultOfRectangle 42 = .ok (.iload 4, 2) := by decide +kernel
theorem dX6_faultOfRectangle_44 : decode cX6_faultOfRectangle 44 = .ok (.iload_n 2, 1) := by decide +kernel
theorem dX6_faultOfRectangle_45 : decode cX6_faultOfRectangle 45 = .ok (.if_icmp .le 27, 3) := by decide +kernel
theorem dX6_faultOfRectangle_48 : decode cX6_faultOfRectangle 48 = .ok (.iload 4, 2) := by decide +kernel
theorem dX6_faultOfRectangle_50 : decode cX6_faultOfRectangle 50 = .ok (.bipush 40, 2) := by decide +kernel
theorem dX6_faultOfRectangle_52 : decode cX6_faultOfRectangle 52 = .ok (.if_icmp .gt 20, 3) := by decide +kernel
theorem dX6_faultOfRectangle_55 : decode cX6_faultOfRectangle 55 = .ok (.iload 5, 2) := by decide +kernel
theorem dX6_faultOfRectangle_57 : decode cX6_faultOfRectangle 57 = .ok (.iload_n 3, 1) := by decide +kernel
theorem dX6_faultOfRectangle_58 : decode cX6_faultOfRectangle 58 = .ok (.if_icmp .le 14, 3) := by decide +kernel
theorem dX6_faultOfRectangle_61 : decode cX6_faultOfRectangle 61 = .ok (.iload 5, 2) := by decide +kernel
theorem dX6_faultOfRectangle_63 : decode cX6_faultOfRectangle 63 = .ok (.bipush 40, 2) := by decide +kernel
theorem dX6_faultOfRectangle_65 : decode cX6_faultOfRectangle 65 = .ok (.if_icmp .gt 7, 3) := by decide +kernel
theorem dX6_faultOfRectangle_68 : decode cX6_faultOfRectangle 68 = .ok (.iconst 1, 1) := by decide +kernel
theorem dX6_faultOfRectangle_69 : decode cX6_faultOfRectangle 69 = .ok (.goto 4, 3) := by decide +kernel
theorem dX6_faultOfRectangle_72 : decode cX6_faultOfRectangle 72 = .ok (.iconst 0, 1) := by decide +kernel
theorem dX6_faultOfRectangle_73 : decode cX6_faultOfRectangle 73 = .ok (.istore 7, 2) := by decide +kernel
theorem dX6_faultOfRectangle_75 : decode cX6_faultOfRectangle 75 = .ok (.iload 6, 2) := by decide +kernel
theorem dX6_faultOfRectangle_77 : decode cX6_faultOfRectangle 77 = .ok (.ifCond .eq 12, 3) := by decide +kernel
theorem dX6_faultOfRectangle_80 : decode cX6_faultOfRectangle 80 = .ok (.iload 7, 2) := by decide +kernel
theorem dX6_faultOfRectangle_82 : decode cX6_faultOfRectangle 82 = .ok (.ifCond .eq 7, 3) := by decide +kernel
theorem dX6_faultOfRectangle_85 : decode cX6_faultOfRectangle 85 = .ok (.iconst 0, 1) := by decide +kernel
theorem dX6_faultOfRectangle_86 : decode cX6_faultOfRectangle 86 = .ok (.goto 4, 3) := by decide +kernel
theorem dX6_faultOfRectangle_89 : decode cX6_faultOfRectangle 89 = .ok (.iconst 2, 1) := by decide +kernel
theorem dX6_faultOfRectangle_90 : decode cX6_faultOfRectangle 90 = .ok (.ireturn, 1) := by decide +kernel
theorem dX6_faultOfLampValue_0 : decode cX6_faultOfLampValue 0 = .ok (.aload_n 0, 1) := by decide +kernel
theorem dX6_faultOfLampValue_1 : decode cX6_faultOfLampValue 1 = .ok (.getfield 12, 3) := by decide +kernel
theorem dX6_faultOfLampValue_4 : decode cX6_faultOfLampValue 4 = .ok (.iload_n 1, 1) := by decide +kernel
theorem dX6_faultOfLampValue_5 : decode cX6_faultOfLampValue 5 = .ok (.invokevirtual 336, 3) := by decide +kernel
theorem dX6_faultOfLampValue_8 : decode cX6_faultOfLampValue 8 = .ok (.ifCond .ne 5, 3) := by decide +kernel
theorem dX6_faultOfLampValue_11 : decode cX6_faultOfLampValue 11 = .ok (.iconst 1, 1) := by decide +kernel
theorem dX6_faultOfLampValue_12 : decode cX6_faultOfLampValue 12 = .ok (.ireturn, 1) := by decide +kernel
theorem dX6_faultOfLampValue_13 : decode cX6_faultOfLampValue 13 = .ok (.iload_n 2, 1) := by decide +kernel
theorem dX6_faultOfLampValue_14 : decode cX6_faultOfLampValue 14 = .ok (.iconst 0, 1) := by decide +kernel
theorem dX6_faultOfLampValue_15 : decode cX6_faultOfLampValue 15 = .ok (.iconst 2, 1) := by decide +kernel
theorem dX6_faultOfLampValue_16 : decode cX6_faultOfLampValue 16 = .ok (.invokestatic 176, 3) := by decide +kernel
theorem dX6_faultOfLampValue_19 : decode cX6_faultOfLampValue 19 = .ok (.ifCond .eq 29, 3) := by decide +kernel
theorem dX6_faultOfLampValue_22 : decode cX6_faultOfLampValue 22 = .ok (.iload_n 3, 1) := by decide +kernel
theorem dX6_faultOfLampValue_23 : decode cX6_faultOfLampValue 23 = .ok (.iconst 0, 1) := by decide +kernel
theorem dX6_faultOfLampValue_24 : decode cX6_faultOfLampValue 24 = .ok (.iload_n 2, 1) := by decide +kernel
theorem dX6_faultOfLampValue_25 : decode cX6_faultOfLampValue 25 = .ok (.iconst 2, 1) := by decide +kernel
theorem dX6_faultOfLampValue_26 : decode cX6_faultOfLampValue 26 = .ok (.if_icmp .ne 9, 3) := by decide +kernel
theorem dX6_faultOfLampValue_29 : decode cX6_faultOfLampValue 29 = .ok (.sipush 900, 3) := by decide +kernel
theorem dX6_faultOfLampValue_32 : decode cX6_faultOfLampValue 32 = .ok (.goto 6, 3) := by decide +kernel
theorem dX6_faultOfLampValue_35 : decode cX6_faultOfLampValue 35 = .ok (.sipush 255, 3) := by decide +kernel
theorem dX6_faultOfLampValue_38 : decode cX6_faultOfLampValue 38 = .ok (.invokestatic 176, 3) := by decide +kernel
theorem dX6_faultOfLampValue_41 : decode cX6_faultOfLampValue 41 = .ok (.ifCond .eq 7, 3) := by decide +kernel
theorem dX6_faultOfLampValue_44 : decode cX6_faultOfLampValue 44 = .ok (.iconst 0, 1) := by decide +kernel
theorem dX6_faultOfLampValue_45 : decode cX6_faultOfLampValue 45 = .ok (.goto 4, 3) := by decide +kernel
theorem dX6_faultOfLampValue_48 : decode cX6_faultOfLampValue 48 = .ok (.iconst 2, 1) := by decide +kernel
theorem dX6_faultOfLampValue_49 : decode cX6_faultOfLampValue 49 = .ok (.ireturn, 1) := by decide +kernel
theorem dX6_faultOfLamp_0 : decode cX6_faultOfLamp 0 = .ok (.aload_n 0, 1) := by decide +kernel
theorem dX6_faultOfLamp_1 : decode cX6_faultOfLamp 1 = .ok (.getfield 12, 3) := by decide +kernel
theorem dX6_faultOfLamp_4 : decode cX6_faultOfLamp 4 = .ok (.iload_n 1, 1) := by decide +kernel
theorem dX6_faultOfLamp_5 : decode cX6_faultOfLamp 5 = .ok (.invokevirtual 336, 3) := by decide +kernel
theorem dX6_faultOfLamp_8 : decode cX6_faultOfLamp 8 = .ok (.ifCond .eq 7, 3) := by decide +kernel
theorem dX6_faultOfLamp_11 : decode cX6_faultOfLamp 11 = .ok (.iconst 0, 1) := by decide +kernel
theorem dX6_faultOfLamp_12 : decode cX6_faultOfLamp 12 = .ok (.goto 4, 3) := by decide +kernel
theorem dX6_faultOfLamp_15 : decode cX6_faultOfLamp 15 = .ok (.iconst 1, 1) := by decide +kernel
theorem dX6_faultOfLamp_16 : decode cX6_faultOfLamp 16 = .ok (.ireturn, 1) := by decide +kernel
theorem dX6_faultOfPlace_0 : decode cX6_faultOfPlace 0 = .ok (.aload_n 0, 1) := by decide +kernel
theorem dX6_faultOfPlace_1 : decode cX6_faultOfPlace 1 = .ok (.getfield 12, 3) := by decide +kernel
theorem dX6_faultOfPlace_4 : decode cX6_faultOfPlace 4 = .ok (.iload_n 1, 1) := by decide +kernel
theorem dX6_faultOfPlace_5 : decode cX6_faultOfPlace 5 = .ok (.iload_n 2, 1) := by decide +kernel
theorem dX6_faultOfPlace_6 : decode cX6_faultOfPlace 6 = .ok (.invokevirtual 333, 3) := by decide +kernel
theorem dX6_faultOfPlace_9 : decode cX6_faultOfPlace 9 = .ok (.ifCond .eq 7, 3) := by decide +kernel
theorem dX6_faultOfPlace_12 : decode cX6_faultOfPlace 12 = .ok (.iconst 0, 1) := by decide +kernel
theorem dX6_faultOfPlace_13 : decode cX6_faultOfPlace 13 = .ok (.goto 4, 3) := by decide +kernel
theorem dX6_faultOfPlace_16 : decode cX6_faultOfPlace 16 = .ok (.iconst 1, 1) := by decide +kernel
theorem dX6_faultOfPlace_17 : decode cX6_faultOfPlace 17 = .ok (.ireturn, 1) := by decide +kernel
theorem dX6_faultOfShift_0 : decode cX6_faultOfShift 0 = .ok (.iload_n 0, 1) := by decide +kernel
theorem dX6_faultOfShift_1 : decode cX6_faultOfShift 1 = .ok (.bipush (-10), 2) := by decide +kernel
theorem dX6_faultOfShift_3 : decode cX6_faultOfShift 3 = .ok (.bipush 10, 2) := by decide +kernel
theorem dX6_faultOfShift_5 : decode cX6_faultOfShift 5 = .ok (.invokestatic 176, 3) := by decide +kernel
theorem dX6_faultOfShift_8 : decode cX6_faultOfShift 8 = .ok (.ifCond .eq 18, 3) := by decide +kernel
theorem dX6_faultOfShift_11 : decode cX6_faultOfShift 11 = .ok (.iload_n 1, 1) := by decide +kernel
theorem dX6_faultOfShift_12 : decode cX6_faultOfShift 12 = .ok (.bipush (-10), 2) := by decide +kernel
theorem dX6_faultOfShift_14 : decode cX6_faultOfShift 14 = .ok (.bipush 10, 2) := by decide +kernel
theorem dX6_faultOfShift_16 : decode cX6_faultOfShift 16 = .ok (.invokestatic 176, 3) := by decide +kernel
theorem dX6_faultOfShift_19 : decode cX6_faultOfShift 19 = .ok (.ifCond .eq 7, 3) := by decide +kernel
theorem dX6_faultOfShift_22 : decode cX6_faultOfShift 22 = .ok (.iconst 1, 1) := by decide +kernel
theorem dX6_faultOfShift_23 : decode cX6_faultOfShift 23 = .ok (.goto 4, 3) := by decide +kernel
theorem dX6_faultOfShift_26 : decode cX6_faultOfShift 26 = .ok (.iconst 0, 1) := by decide +kernel
theorem dX6_faultOfShift_27 : decode cX6_faultOfShift 27 = .ok (.istore_n 2, 1) := by decide +kernel
theorem dX6_faultOfShift_28 : decode cX6_faultOfShift 28 = .ok (.iload_n 2, 1) := by decide +kernel
theorem dX6_faultOfShift_29 : decode cX6_faultOfShift 29 = .ok (.ifCond .eq 7, 3) := by decide +kernel
theorem dX6_faultOfShift_32 : decode cX6_faultOfShift 32 = .ok (.iconst 0, 1) := by decide +kernel
theorem dX6_faultOfShift_33 : decode cX6_faultOfShift 33 = .ok (.goto 4, 3) := by decide +kernel
theorem dX6_faultOfShift_36 : decode cX6_faultOfShift 36 = .ok (.iconst 2, 1) := by decide +kernel
theorem dX6_faultOfShift_37 : decode cX6_faultOfShift 37 = .ok (.ireturn, 1) := by decide +kernel
theorem dX6_faultOfHours_0 : decode cX6_faultOfHours 0 = .ok (.iload_n 0, 1) := by decide +kernel
theorem dX6_faultOfHours_1 : decode cX6_faultOfHours 1 = .ok (.iconst 1, 1) := by decide +kernel
theorem dX6_faultOfHours_2 : decode cX6_faultOfHours 2 = .ok (.sipush 9999, 3) := by decide +kernel
theorem dX6_faultOfHours_5 : decode cX6_faultOfHours 5 = .ok (.invokestatic 147, 3) := by decide +kernel
theorem dX6_faultOfHours_8 : decode cX6_faultOfHours 8 = .ok (.ireturn, 1) := by decide +kernel
theorem dX6_faultOfRange_0 : decode cX6_faultOfRange 0 = .ok (.iload_n 0, 1) := by decide +kernel
theorem dX6_faultOfRange_1 : decode cX6_faultOfRange 1 = .ok (.iload_n 1, 1) := by decide +kernel
theorem dX6_faultOfRange_2 : decode cX6_faultOfRange 2 = .ok (.iload_n 2, 1) := by decide +kernel
theorem dX6_faultOfRange_3 : decode cX6_faultOfRange 3 = .ok (.invokestatic 176, 3) := by decide +kernel
theorem dX6_faultOfRange_6 : decode cX6_faultOfRange 6 = .ok (.ifCond .eq 7, 3) := by decide +kernel
theorem dX6_faultOfRange_9 : decode cX6_faultOfRange 9 = .ok (.iconst 0, 1) := by decide +kernel
theorem dX6_faultOfRange_10 : decode cX6_faultOfRange 10 = .ok (.goto 4, 3) := by decide +kernel
theorem dX6_faultOfRange_13 : decode cX6_faultOfRange 13 = .ok (.iconst 2, 1) := by decide +kernel
theorem dX6_faultOfRange_14 : decode cX6_faultOfRange 14 = .ok (.ireturn, 1) := by decide +kernel
theorem dX6_refuseIndex_0 : decode cX6_refuseIndex 0 = .ok (.iload_n 0, 1) := by decide +kernel
theorem dX6_refuseIndex_1 : decode cX6_refuseIndex 1 = .ok (.iconst 1, 1) := by decide +kernel
theorem dX6_refuseIndex_2 : decode cX6_refuseIndex 2 = .ok (.if_icmp .ne 14, 3) := by decide +kernel
theorem dX6_refuseIndex_5 : decode cX6_refuseIndex 5 = .ok (.new 339, 3) := by decide +kernel
theorem dX6_refuseIndex_8 : decode cX6_refuseIndex 8 = .ok (.dup, 1) := by decide +kernel
theorem dX6_refuseIndex_9 : decode cX6_refuseIndex 9 = .ok (.ldc_w 341, 3) := by decide +kernel
theorem dX6_refuseIndex_12 : decode cX6_refuseIndex 12 = .ok (.invokespecial 343, 3) := by decide +kernel
theorem dX6_refuseIndex_15 : decode cX6_refuseIndex 15 = .ok (.athrow, 1) := by decide +kernel
theorem dX6_refuseIndex_16 : decode cX6_refuseIndex 16 = .ok (.return_, 1) := by decide +kernel
theorem dX6_refuseArgument_0 : decode cX6_refuseArgument 0 = .ok (.iload_n 0, 1) := by decide +kernel
theorem dX6_refuseArgument_1 : decode cX6_refuseArgument 1 = .ok (.iconst 2, 1) := by decide +kernel
theorem dX6_refuseArgument_2 : decode cX6_refuseArgument 2 = .ok (.if_icmp .ne 14, 3) := by decide +kernel
theorem dX6_refuseArgument_5 : decode cX6_refuseArgument 5 = .ok (.new 346, 3) := by decide +kernel
theorem dX6_refuseArgument_8 : decode cX6_refuseArgument 8 = .ok (.dup, 1) := by decide +kernel
theorem dX6_refuseArgument_9 : decode cX6_refuseArgument 9 = .ok (.ldc_w 348, 3) := by decide +kernel
theorem dX6_refuseArgument_12 : decode cX6_refuseArgument 12 = .ok (.invokespecial 350, 3) := by decide +kernel
theorem dX6_refuseArgument_15 : decode cX6_refuseArgument 15 = .ok (.athrow, 1) := by decide +kernel
theorem dX6_refuseArgument_16 : decode cX6_refuseArgument 16 = .ok (.return_, 1) := by decide +kernel
theorem dX6_refuseState_0 : decode cX6_refuseState 0 = .ok (.iload_n 0, 1) := by decide +kernel
theorem dX6_refuseState_1 : decode cX6_refuseState 1 = .ok (.iconst 3, 1) := by decide +kernel
theorem dX6_refuseState_2 : decode cX6_refuseState 2 = .ok (.if_icmp .ne 14, 3) := by decide +kernel
theorem dX6_refuseState_5 : decode cX6_refuseState 5 = .ok (.new 351, 3) := by decide +kernel
theorem dX6_refuseState_8 : decode cX6_refuseState 8 = .ok (.dup, 1) := by decide +kernel
theorem dX6_refuseState_9 : decode cX6_refuseState 9 = .ok (.ldc_w 353, 3) := by decide +kernel
theorem dX6_refuseState_12 : decode cX6_refuseState 12 = .ok (.invokespecial 355, 3) := by decide +kernel
theorem dX6_refuseState_15 : decode cX6_refuseState 15 = .ok (.athrow, 1) := by decide +kernel
theorem dX6_refuseState_16 : decode cX6_refuseState 16 = .ok (.return_, 1) := by decide +kernel
theorem dX6_within_0 : decode cX6_within 0 = .ok (.iload_n 0, 1) := by decide +kernel
theorem dX6_within_1 : decode cX6_within 1 = .ok (.iload_n 1, 1) := by decide +kernel
theorem dX6_within_2 : decode cX6_within 2 = .ok (.if_icmp .lt 12, 3) := by decide +kernel
theorem dX6_within_5 : decode cX6_within 5 = .ok (.iload_n 0, 1) := by decide +kernel
theorem dX6_within_6 : decode cX6_within 6 = .ok (.iload_n 2, 1) := by decide +kernel
theorem dX6_within_7 : decode cX6_within 7 = .ok (.if_icmp .gt 7, 3) := by decide +kernel
theorem dX6_within_10 : decode cX6_within 10 = .ok (.iconst 1, 1) := by decide +kernel
theorem dX6_within_11 : decode cX6_within 11 = .ok (.goto 4, 3) := by decide +kernel
theorem dX6_within_14 : decode cX6_within 14 = .ok (.iconst 0, 1) := by decide +kernel
theorem dX6_within_15 : decode cX6_within 15 = .ok (.ireturn, 1) := by decide +kernel
theorem dX6_cross_0 : decode cX6_cross 0 = .ok (.iload_n 0, 1) := by decide +kernel
theorem dX6_cross_1 : decode cX6_cross 1 = .ok (.iload_n 3, 1) := by decide +kernel
theorem dX6_cross_2 : decode cX6_cross 2 = .ok (.imul, 1) := by decide +kernel
theorem dX6_cross_3 : decode cX6_cross 3 = .ok (.iload_n 1, 1) := by decide +kernel
theorem dX6_cross_4 : decode cX6_cross 4 = .ok (.iload_n 2, 1) := by decide +kernel
theorem dX6_cross_5 : decode cX6_cross 5 = .ok (.imul, 1) := by decide +kernel
theorem dX6_cross_6 : decode cX6_cross 6 = .ok (.isub, 1) := by decide +kernel
theorem dX6_cross_7 : decode cX6_cross 7 = .ok (.ireturn, 1) := by decide +kernel
theorem dX6_pointOf_0 : decode cX6_pointOf 0 = .ok (.iconst 2, 1) := by decide +kernel
theorem dX6_pointOf_1 : decode cX6_pointOf 1 = .ok (.iload_n 0, 1) := by decide +kernel
theorem dX6_pointOf_2 : decode cX6_pointOf 2 = .ok (.iload_n 1, 1) := by decide +kernel
theorem dX6_pointOf_3 : decode cX6_pointOf 3 = .ok (.iadd, 1) := by decide +kernel
theorem dX6_pointOf_4 : decode cX6_pointOf 4 = .ok (.imul, 1) := by decide +kernel
theorem dX6_pointOf_5 : decode cX6_pointOf 5 = .ok (.iconst 1, 1) := by decide +kernel
theorem dX6_pointOf_6 : decode cX6_pointOf 6 = .ok (.iadd, 1) := by decide +kernel
theorem dX6_pointOf_7 : decode cX6_pointOf 7 = .ok (.ireturn, 1) := by decide +kernel
theorem dX6_isIn_0 : decode cX6_isIn 0 = .ok (.iload_n 1, 1) := by decide +kernel
theorem dX6_isIn_1 : decode cX6_isIn 1 = .ok (.iload_n 0, 1) := by decide +kernel
theorem dX6_isIn_2 : decode cX6_isIn 2 = .ok (.ishr, 1) := by decide +kernel
theorem dX6_isIn_3 : decode cX6_isIn 3 = .ok (.iconst 1, 1) := by decide +kernel
theorem dX6_isIn_4 : decode cX6_isIn 4 = .ok (.iand, 1) := by decide +kernel
theorem dX6_isIn_5 : decode cX6_isIn 5 = .ok (.iconst 1, 1) := by decide +kernel
theorem dX6_isIn_6 : decode cX6_isIn 6 = .ok (.if_icmp .ne 7, 3) := by decide +kernel
theorem dX6_isIn_9 : decode cX6_isIn 9 = .ok (.iconst 1, 1) := by decide +kernel
theorem dX6_isIn_10 : decode cX6_isIn 10 = .ok (.goto 4, 3) := by decide +kernel
theorem dX6_isIn_13 : decode cX6_isIn 13 = .ok (.iconst 0, 1) := by decide +kernel
theorem dX6_isIn_14 : decode cX6_isIn 14 = .ok (.ireturn, 1) := by decide +kernel
theorem dJ6_bitCount_0f7a4_0 : decode cJ6_bitCount_0f7a4 0 = .ok (.iload_n 0, 1) := by decide +kernel
theorem dJ6_bitCount_0f7a4_1 : decode cJ6_bitCount_0f7a4 1 = .ok (.iload_n 0, 1) := by decide +kernel
theorem dJ6_bitCount_0f7a4_2 : decode cJ6_bitCount_0f7a4 2 = .ok (.iconst 1, 1) := by decide +kernel
theorem dJ6_bitCount_0f7a4_3 : decode cJ6_bitCount_0f7a4 3 = .ok (.iushr, 1) := by decide +kernel
theorem dJ6_bitCount_0f7a4_4 : decode cJ6_bitCount_0f7a4 4 = .ok (.ldc_w 265, 3) := by decide +kernel
theorem dJ6_bitCount_0f7a4_7 : decode cJ6_bitCount_0f7a4 7 = .ok (.iand, 1) := by decide +kernel
theorem dJ6_bitCount_0f7a4_8 : decode cJ6_bitCount_0f7a4 8 = .ok (.isub, 1) := by decide +kernel
theorem dJ6_bitCount_0f7a4_9 : decode cJ6_bitCount_0f7a4 9 = .ok (.istore_n 0, 1) := by decide +kernel
theorem dJ6_bitCount_0f7a4_10 : decode cJ6_bitCount_0f7a4 10 = .ok (.iload_n 0, 1) := by decide +kernel
theorem dJ6_bitCount_0f7a4_11 : decode cJ6_bitCount_0f7a4 11 = .ok (.ldc_w 266, 3) := by decide +kernel
theorem dJ6_bitCount_0f7a4_14 : decode cJ6_bitCount_0f7a4 14 = .ok (.iand, 1) := by decide +kernel
theorem dJ6_bitCount_0f7a4_15 : decode cJ6_bitCount_0f7a4 15 = .ok (.iload_n 0, 1) := by decide +kernel
theorem dJ6_bitCount_0f7a4_16 : decode cJ6_bitCount_0f7a4 16 = .ok (.iconst 2, 1) := by decide +kernel
theorem dJ6_bitCount_0f7a4_17 : decode cJ6_bitCount_0f7a4 17 = .ok (.iushr, 1) := by decide +kernel
theorem dJ6_bitCount_0f7a4_18 : decode cJ6_bitCount_0f7a4 18 = .ok (.ldc_w 266, 3) := by decide +kernel
theorem dJ6_bitCount_0f7a4_21 : decode cJ6_bitCount_0f7a4 21 = .ok (.iand, 1) := by decide +kernel
theorem dJ6_bitCount_0f7a4_22 : decode cJ6_bitCount_0f7a4 22 = .ok (.iadd, 1) := by decide +kernel
theorem dJ6_bitCount_0f7a4_23 : decode cJ6_bitCount_0f7a4 23 = .ok (.istore_n 0, 1) := by decide +kernel
theorem dJ6_bitCount_0f7a4_24 : decode cJ6_bitCount_0f7a4 24 = .ok (.iload_n 0, 1) := by decide +kernel
theorem dJ6_bitCount_0f7a4_25 : decode cJ6_bitCount_0f7a4 25 = .ok (.iload_n 0, 1) := by decide +kernel
theorem dJ6_bitCount_0f7a4_26 : decode cJ6_bitCount_0f7a4 26 = .ok (.iconst 4, 1) := by decide +kernel
theorem dJ6_bitCount_0f7a4_27 : decode cJ6_bitCount_0f7a4 27 = .ok (.iushr, 1) := by decide +kernel
theorem dJ6_bitCount_0f7a4_28 : decode cJ6_bitCount_0f7a4 28 = .ok (.iadd, 1) := by decide +kernel
theorem dJ6_bitCount_0f7a4_29 : decode cJ6_bitCount_0f7a4 29 = .ok (.ldc_w 267, 3) := by decide +kernel
theorem dJ6_bitCount_0f7a4_32 : decode cJ6_bitCount_0f7a4 32 = .ok (.iand, 1) := by decide +kernel
theorem dJ6_bitCount_0f7a4_33 : decode cJ6_bitCount_0f7a4 33 = .ok (.istore_n 0, 1) := by decide +kernel
theorem dJ6_bitCount_0f7a4_34 : decode cJ6_bitCount_0f7a4 34 = .ok (.iload_n 0, 1) := by decide +kernel
theorem dJ6_bitCount_0f7a4_35 : decode cJ6_bitCount_0f7a4 35 = .ok (.iload_n 0, 1) := by decide +kernel
theorem dJ6_bitCount_0f7a4_36 : decode cJ6_bitCount_0f7a4 36 = .ok (.bipush 8, 2) := by decide +kernel
theorem dJ6_bitCount_0f7a4_38 : decode cJ6_bitCount_0f7a4 38 = .ok (.iushr, 1) := by decide +kernel
theorem dJ6_bitCount_0f7a4_39 : decode cJ6_bitCount_0f7a4 39 = .ok (.iadd, 1) := by decide +kernel
theorem dJ6_bitCount_0f7a4_40 : decode cJ6_bitCount_0f7a4 40 = .ok (.istore_n 0, 1) := by decide +kernel
theorem dJ6_bitCount_0f7a4_41 : decode cJ6_bitCount_0f7a4 41 = .ok (.iload_n 0, 1) := by decide +kernel
theorem dJ6_bitCount_0f7a4_42 : decode cJ6_bitCount_0f7a4 42 = .ok (.iload_n 0, 1) := by decide +kernel
theorem dJ6_bitCount_0f7a4_43 : decode cJ6_bitCount_0f7a4 43 = .ok (.bipush 16, 2) := by decide +kernel
theorem dJ6_bitCount_0f7a4_45 : decode cJ6_bitCount_0f7a4 45 = .ok (.iushr, 1) := by decide +kernel
theorem dJ6_bitCount_0f7a4_46 : decode cJ6_bitCount_0f7a4 46 = .ok (.iadd, 1) := by decide +kernel
theorem dJ6_bitCount_0f7a4_47 : decode cJ6_bitCount_0f7a4 47 = .ok (.istore_n 0, 1) := by decide +kernel
theorem dJ6_bitCount_0f7a4_48 : decode cJ6_bitCount_0f7a4 48 = .ok (.iload_n 0, 1) := by decide +kernel
theorem dJ6_bitCount_0f7a4_49 : decode cJ6_bitCount_0f7a4 49 = .ok (.bipush 63, 2) := by decide +kernel
theorem dJ6_bitCount_0f7a4_51 : decode cJ6_bitCount_0f7a4 51 = .ok (.iand, 1) := by decide +kernel
theorem dJ6_bitCount_0f7a4_52 : decode cJ6_bitCount_0f7a4 52 = .ok (.ireturn, 1) := by decide +kernel
theorem dJ9_abs_0f7a4_0 : decode cJ9_abs_0f7a4 0 = .ok (.iload_n 0, 1) := by decide +kernel
theorem dJ9_abs_0f7a4_1 : decode cJ9_abs_0f7a4 1 = .ok (.ifCond .ge 8, 3) := by decide +kernel
theorem dJ9_abs_0f7a4_4 : decode cJ9_abs_0f7a4 4 = .ok (.iload_n 0, 1) := by decide +kernel
theorem dJ9_abs_0f7a4_5 : decode cJ9_abs_0f7a4 5 = .ok (.ineg, 1) := by decide +kernel
theorem dJ9_abs_0f7a4_6 : decode cJ9_abs_0f7a4 6 = .ok (.goto 4, 3) := by decide +kernel
theorem dJ9_abs_0f7a4_9 : decode cJ9_abs_0f7a4 9 = .ok (.iload_n 0, 1) := by decide +kernel
theorem dJ9_abs_0f7a4_10 : decode cJ9_abs_0f7a4 10 = .ok (.ireturn, 1) := by decide +kernel
theorem dJ9_max_7cf53_0 : decode cJ9_max_7cf53 0 = .ok (.iload_n 0, 1) := by decide +kernel
theorem dJ9_max_7cf53_1 : decode cJ9_max_7cf53 1 = .ok (.iload_n 1, 1) := by decide +kernel
theorem dJ9_max_7cf53_2 : decode cJ9_max_7cf53 2 = .ok (.if_icmp .lt 7, 3) := by decide +kernel
theorem dJ9_max_7cf53_5 : decode cJ9_max_7cf53 5 = .ok (.iload_n 0, 1) := by decide +kernel
theorem dJ9_max_7cf53_6 : decode cJ9_max_7cf53 6 = .ok (.goto 4, 3) := by decide +kernel
theorem dJ9_max_7cf53_9 : decode cJ9_max_7cf53 9 = .ok (.iload_n 1, 1) := by decide +kernel
theorem dJ9_max_7cf53_10 : decode cJ9_max_7cf53 10 = .ok (.ireturn, 1) := by decide +kernel
theorem dJ9_min_7cf53_0 : decode cJ9_min_7cf53 0 = .ok (.iload_n 0, 1) := by decide +kernel
theorem dJ9_min_7cf53_1 : decode cJ9_min_7cf53 1 = .ok (.iload_n 1, 1) := by decide +kernel
theorem dJ9_min_7cf53_2 : decode cJ9_min_7cf53 2 = .ok (.if_icmp .gt 7, 3) := by decide +kernel
theorem dJ9_min_7cf53_5 : decode cJ9_min_7cf53 5 = .ok (.iload_n 0, 1) := by decide +kernel
theorem dJ9_min_7cf53_6 : decode cJ9_min_7cf53 6 = .ok (.goto 4, 3) := by decide +kernel
theorem dJ9_min_7cf53_9 : decode cJ9_min_7cf53 9 = .ok (.iload_n 1, 1) := by decide +kernel
theorem dJ9_min_7cf53_10 : decode cJ9_min_7cf53 10 = .ok (.ireturn, 1) := by decide +kernel
theorem dJ0_length_8abf5_0 : decode cJ0_length_8abf5 0 = .ok (.aload_n 0, 1) := by decide +kernel
theorem dJ0_length_8abf5_1 : decode cJ0_length_8abf5 1 = .ok (.getfield 9, 3) := by decide +kernel
theorem dJ0_length_8abf5_4 : decode cJ0_length_8abf5 4 = .ok (.arraylength, 1) := by decide +kernel
theorem dJ0_length_8abf5_5 : decode cJ0_length_8abf5 5 = .ok (.aload_n 0, 1) := by decide +kernel
theorem dJ0_length_8abf5_6 : decode cJ0_length_8abf5 6 = .ok (.invokevirtual 335, 3) := by decide +kernel
theorem dJ0_length_8abf5_9 : decode cJ0_length_8abf5 9 = .ok (.ishr, 1) := by decide +kernel
theorem dJ0_length_8abf5_10 : decode cJ0_length_8abf5 10 = .ok (.ireturn, 1) := by decide +kernel
theorem dJ0_charAt_5068e_0 : decode cJ0_charAt_5068e 0 = .ok (.aload_n 0, 1) := by decide +kernel
theorem dJ0_charAt_5068e_1 : decode cJ0_charAt_5068e 1 = .ok (.invokevirtual 492, 3) := by decide +kernel
theorem dJ0_charAt_5068e_4 : decode cJ0_charAt_5068e 4 = .ok (.ifCond .eq 12, 3) := by decide +kernel
theorem dJ0_charAt_5068e_7 : decode cJ0_charAt_5068e 7 = .ok (.aload_n 0, 1) := by decide +kernel
theorem dJ0_charAt_5068e_8 : decode cJ0_charAt_5068e 8 = .ok (.getfield 9, 3) := by decide +kernel
theorem dJ0_charAt_5068e_11 : decode cJ0_charAt_5068e 11 = .ok (.iload_n 1, 1) := by decide +kernel
theorem dJ0_charAt_5068e_12 : decode cJ0_charAt_5068e 12 = .ok (.invokestatic 495, 3) := by decide +kernel
theorem dJ0_charAt_5068e_15 : decode cJ0_charAt_5068e 15 = .ok (.ireturn, 1) := by decide +kernel
theorem dJ0_charAt_5068e_16 : decode cJ0_charAt_5068e 16 = .ok (.aload_n 0, 1) := by decide +kernel
theorem dJ0_charAt_5068e_17 : decode cJ0_charAt_5068e 17 = .ok (.getfield 9, 3) := by decide +kernel
theorem dJ0_charAt_5068e_20 : decode cJ0_charAt_5068e 20 = .ok (.iload_n 1, 1) := by decide +kernel
theorem dJ0_charAt_5068e_21 : decode cJ0_charAt_5068e 21 = .ok (.invokestatic 498, 3) := by decide +kernel
theorem dJ0_charAt_5068e_24 : decode cJ0_charAt_5068e 24 = .ok (.ireturn, 1) := by decide +kernel
theorem dJ0_coder_7d493_0 : decode cJ0_coder_7d493 0 = .ok (.getstatic 38, 3) := by decide +kernel
theorem dJ0_coder_7d493_3 : decode cJ0_coder_7d493 3 = .ok (.ifCond .eq 10, 3) := by decide +kernel
theorem dJ0_coder_7d493_6 : decode cJ0_coder_7d493 6 = .ok (.aload_n 0, 1) := by decide +kernel
theorem dJ0_coder_7d493_7 : decode cJ0_coder_7d493 7 = .ok (.getfield 15, 3) := by decide +kernel
theorem dJ0_coder_7d493_10 : decode cJ0_coder_7d493 10 = .ok (.goto 4, 3) := by decide +kernel
theorem dJ0_coder_7d493_13 : decode cJ0_coder_7d493 13 = .ok (.iconst 1, 1) := by decide +kernel
theorem dJ0_coder_7d493_14 : decode cJ0_coder_7d493 14 = .ok (.ireturn, 1) := by decide +kernel
theorem dJ0_isLatin1_aae02_0 : decode cJ0_isLatin1_aae02 0 = .ok (.getstatic 38, 3) := by decide +kernel
theorem dJ0_isLatin1_aae02_3 : decode cJ0_isLatin1_aae02 3 = .ok (.ifCond .eq 14, 3) := by decide +kernel
theorem dJ0_isLatin1_aae02_6 : decode cJ0_isLatin1_aae02 6 = .ok (.aload_n 0, 1) := by decide +kernel
theorem dJ0_isLatin1_aae02_7 : decode cJ0_isLatin1_aae02 7 = .ok (.getfield 15, 3) := by decide +kernel
theorem dJ0_isLatin1_aae02_10 : decode cJ0_isLatin1_aae02 10 = .ok (.ifCond .ne 7, 3) := by decide +kernel
theorem dJ0_isLatin1_aae02_13 : decode cJ0_isLatin1_aae02 13 = .ok (.iconst 1, 1) := by decide +kernel
theorem dJ0_isLatin1_aae02_14 : decode cJ0_isLatin1_aae02 14 = .ok (.goto 4, 3) := by decide +kernel
theorem dJ0_isLatin1_aae02_17 : decode cJ0_isLatin1_aae02 17 = .ok (.iconst 0, 1) := by decide +kernel
theorem dJ0_isLatin1_aae02_18 : decode cJ0_isLatin1_aae02 18 = .ok (.ireturn, 1) := by decide +kernel
theorem dJ0_checkIndex_df160_0 : decode cJ0_checkIndex_df160 0 = .ok (.iload_n 0, 1) := by decide +kernel
theorem dJ0_checkIndex_df160_1 : decode cJ0_checkIndex_df160 1 = .ok (.iload_n 1, 1) := by decide +kernel
theorem dJ0_checkIndex_df160_2 : decode cJ0_checkIndex_df160 2 = .ok (.getstatic 1053, 3) := by decide +kernel
theorem dJ0_checkIndex_df160_5 : decode cJ0_checkIndex_df160 5 = .ok (.invokestatic 1059, 3) := by decide +kernel
theorem dJ0_checkIndex_df160_8 : decode cJ0_checkIndex_df160 8 = .ok (.pop, 1) := by decide +kernel
theorem dJ0_checkIndex_df160_9 : decode cJ0_checkIndex_df160 9 = .ok (.return_, 1) := by decide +kernel
theorem dJ1_charAt_3b067_0 : decode cJ1_charAt_3b067 0 = .ok (.iload_n 1, 1) := by decide +kernel
theorem dJ1_charAt_3b067_1 : decode cJ1_charAt_3b067 1 = .ok (.aload_n 0, 1) := by decide +kernel
theorem dJ1_charAt_3b067_2 : decode cJ1_charAt_3b067 2 = .ok (.arraylength, 1) := by decide +kernel
theorem dJ1_charAt_3b067_3 : decode cJ1_charAt_3b067 3 = .ok (.invokestatic 9, 3) := by decide +kernel
theorem dJ1_charAt_3b067_6 : decode cJ1_charAt_3b067 6 = .ok (.aload_n 0, 1) := by decide +kernel
theorem dJ1_charAt_3b067_7 : decode cJ1_charAt_3b067 7 = .ok (.iload_n 1, 1) := by decide +kernel
theorem dJ1_charAt_3b067_8 : decode cJ1_charAt_3b067 8 = .ok (.baload, 1) := by decide +kernel
theorem dJ1_charAt_3b067_9 : decode cJ1_charAt_3b067 9 = .ok (.sipush 255, 3) := by decide +kernel
theorem dJ1_charAt_3b067_12 : decode cJ1_charAt_3b067 12 = .ok (.iand, 1) := by decide +kernel
theorem dJ1_charAt_3b067_13 : decode cJ1_charAt_3b067 13 = .ok (.i2c, 1) := by decide +kernel
theorem dJ1_charAt_3b067_14 : decode cJ1_charAt_3b067 14 = .ok (.ireturn, 1) := by decide +kernel
theorem dJ2_getChar_3b067_0 : decode cJ2_getChar_3b067 0 = .ok (.getstatic 44, 3) := by decide +kernel
theorem dJ2_getChar_3b067_3 : decode cJ2_getChar_3b067 3 = .ok (.ifCond .ne 25, 3) := by decide +kernel
theorem dJ2_getChar_3b067_6 : decode cJ2_getChar_3b067 6 = .ok (.iload_n 1, 1) := by decide +kernel
theorem dJ2_getChar_3b067_7 : decode cJ2_getChar_3b067 7 = .ok (.ifCond .lt 11, 3) := by decide +kernel
theorem dJ2_getChar_3b067_10 : decode cJ2_getChar_3b067 10 = .ok (.iload_n 1, 1) := by decide +kernel
theorem dJ2_getChar_3b067_11 : decode cJ2_getChar_3b067 11 = .ok (.aload_n 0, 1) := by decide +kernel
theorem dJ2_getChar_3b067_12 : decode cJ2_getChar_3b067 12 = .ok (.invokestatic 48, 3) := by decide +kernel
theorem dJ2_getChar_3b067_15 : decode cJ2_getChar_3b067 15 = .ok (.if_icmp .lt 13, 3) := by decide +kernel
theorem dJ2_getChar_3b067_18 : decode cJ2_getChar_3b067 18 = .ok (.new 52, 3) := by decide +kernel
theorem dJ2_getChar_3b067_21 : decode cJ2_getChar_3b067 21 = .ok (.dup, 1) := by decide +kernel
theorem dJ2_getChar_3b067_22 : decode cJ2_getChar_3b067 22 = .ok (.ldc 54, 2) := by decide +kernel
theorem dJ2_getChar_3b067_24 : decode cJ2_getChar_3b067 24 = .ok (.invokespecial 56, 3) := by decide +kernel
theorem dJ2_getChar_3b067_27 : decode cJ2_getChar_3b067 27 = .ok (.athrow, 1) := by decide +kernel
theorem dJ2_getChar_3b067_28 : decode cJ2_getChar_3b067 28 = .ok (.iload_n 1, 1) := by decide +kernel
theorem dJ2_getChar_3b067_29 : decode cJ2_getChar_3b067 29 = .ok (.iconst 1, 1) := by decide +kernel
theorem dJ2_getChar_3b067_30 : decode cJ2_getChar_3b067 30 = .ok (.ishl, 1) := by decide +kernel
theorem dJ2_getChar_3b067_31 : decode cJ2_getChar_3b067 31 = .ok (.istore_n 1, 1) := by decide +kernel
theorem dJ2_getChar_3b067_32 : decode cJ2_getChar_3b067 32 = .ok (.aload_n 0, 1) := by decide +kernel
theorem dJ2_getChar_3b067_33 : decode cJ2_getChar_3b067 33 = .ok (.iload_n 1, 1) := by decide +kernel
theorem dJ2_getChar_3b067_34 : decode cJ2_getChar_3b067 34 = .ok (.iinc 1 1, 3) := by decide +kernel
theorem dJ2_getChar_3b067_37 : decode cJ2_getChar_3b067 37 = .ok (.baload, 1) := by decide +kernel
theorem dJ2_getChar_3b067_38 : decode cJ2_getChar_3b067 38 = .ok (.sipush 255, 3) := by decide +kernel
theorem dJ2_getChar_3b067_41 : decode cJ2_getChar_3b067 41 = .ok (.iand, 1) := by decide +kernel
theorem dJ2_getChar_3b067_42 : decode cJ2_getChar_3b067 42 = .ok (.getstatic 59, 3) := by decide +kernel
theorem dJ2_getChar_3b067_45 : decode cJ2_getChar_3b067 45 = .ok (.ishl, 1) := by decide +kernel
theorem dJ2_getChar_3b067_46 : decode cJ2_getChar_3b067 46 = .ok (.aload_n 0, 1) := by decide +kernel
theorem dJ2_getChar_3b067_47 : decode cJ2_getChar_3b067 47 = .ok (.iload_n 1, 1) := by decide +kernel
theorem dJ2_getChar_3b067_48 : decode cJ2_getChar_3b067 48 = .ok (.baload, 1) := by decide +kernel
theorem dJ2_getChar_3b067_49 : decode cJ2_getChar_3b067 49 = .ok (.sipush 255, 3) := by decide +kernel
theorem dJ2_getChar_3b067_52 : decode cJ2_getChar_3b067 52 = .ok (.iand, 1) := by decide +kernel
theorem dJ2_getChar_3b067_53 : decode cJ2_getChar_3b067 53 = .ok (.getstatic 63, 3) := by decide +kernel
theorem dJ2_getChar_3b067_56 : decode cJ2_getChar_3b067 56 = .ok (.ishl, 1) := by decide +kernel
theorem dJ2_getChar_3b067_57 : decode cJ2_getChar_3b067 57 = .ok (.ior, 1) := by decide +kernel
theorem dJ2_getChar_3b067_58 : decode cJ2_getChar_3b067 58 = .ok (.i2c, 1) := by decide +kernel
theorem dJ2_getChar_3b067_59 : decode cJ2_getChar_3b067 59 = .ok (.ireturn, 1) := by decide +kernel
theorem dJ2_length_9d52b_0 : decode cJ2_length_9d52b 0 = .ok (.aload_n 0, 1) := by decide +kernel
theorem dJ2_length_9d52b_1 : decode cJ2_length_9d52b 1 = .ok (.arraylength, 1) := by decide +kernel
theorem dJ2_length_9d52b_2 : decode cJ2_length_9d52b 2 = .ok (.iconst 1, 1) := by decide +kernel
theorem dJ2_length_9d52b_3 : decode cJ2_length_9d52b 3 = .ok (.ishr, 1) := by decide +kernel
theorem dJ2_length_9d52b_4 : decode cJ2_length_9d52b 4 = .ok (.ireturn, 1) := by decide +kernel
theorem dJ2_charAt_3b067_0 : decode cJ2_charAt_3b067 0 = .ok (.iload_n 1, 1) := by decide +kernel
theorem dJ2_charAt_3b067_1 : decode cJ2_charAt_3b067 1 = .ok (.aload_n 0, 1) := by decide +kernel
theorem dJ2_charAt_3b067_2 : decode cJ2_charAt_3b067 2 = .ok (.invokestatic 67, 3) := by decide +kernel
theorem dJ2_charAt_3b067_5 : decode cJ2_charAt_3b067 5 = .ok (.aload_n 0, 1) := by decide +kernel
theorem dJ2_charAt_3b067_6 : decode cJ2_charAt_3b067 6 = .ok (.iload_n 1, 1) := by decide +kernel
theorem dJ2_charAt_3b067_7 : decode cJ2_charAt_3b067 7 = .ok (.invokestatic 71, 3) := by decide +kernel
theorem dJ2_charAt_3b067_10 : decode cJ2_charAt_3b067 10 = .ok (.ireturn, 1) := by decide +kernel
theorem dJ2_checkIndex_2214a_0 : decode cJ2_checkIndex_2214a 0 = .ok (.iload_n 0, 1) := by decide +kernel
theorem dJ2_checkIndex_2214a_1 : decode cJ2_checkIndex_2214a 1 = .ok (.aload_n 1, 1) := by decide +kernel
theorem dJ2_checkIndex_2214a_2 : decode cJ2_checkIndex_2214a 2 = .ok (.invokestatic 48, 3) := by decide +kernel
theorem dJ2_checkIndex_2214a_5 : decode cJ2_checkIndex_2214a 5 = .ok (.invokestatic 414, 3) := by decide +kernel
theorem dJ2_checkIndex_2214a_8 : decode cJ2_checkIndex_2214a 8 = .ok (.return_, 1) := by decide +kernel
theorem dJ3_checkIndex_8e157_0 : decode cJ3_checkIndex_8e157 0 = .ok (.iload_n 0, 1) := by decide +kernel
theorem dJ3_checkIndex_8e157_1 : decode cJ3_checkIndex_8e157 1 = .ok (.ifCond .lt 8, 3) := by decide +kernel
theorem dJ3_checkIndex_8e157_4 : decode cJ3_checkIndex_8e157 4 = .ok (.iload_n 0, 1) := by decide +kernel
theorem dJ3_checkIndex_8e157_5 : decode cJ3_checkIndex_8e157 5 = .ok (.iload_n 1, 1) := by decide +kernel
theorem dJ3_checkIndex_8e157_6 : decode cJ3_checkIndex_8e157 6 = .ok (.if_icmp .lt 10, 3) := by decide +kernel
theorem dJ3_checkIndex_8e157_9 : decode cJ3_checkIndex_8e157 9 = .ok (.aload_n 2, 1) := by decide +kernel
theorem dJ3_checkIndex_8e157_10 : decode cJ3_checkIndex_8e157 10 = .ok (.iload_n 0, 1) := by decide +kernel
theorem dJ3_checkIndex_8e157_11 : decode cJ3_checkIndex_8e157 11 = .ok (.iload_n 1, 1) := by decide +kernel
theorem dJ3_checkIndex_8e157_12 : decode cJ3_checkIndex_8e157 12 = .ok (.invokestatic 95, 3) := by decide +kernel
theorem dJ3_checkIndex_8e157_15 : decode cJ3_checkIndex_8e157 15 = .ok (.athrow, 1) := by decide +kernel
theorem dJ3_checkIndex_8e157_16 : decode cJ3_checkIndex_8e157 16 = .ok (.iload_n 0, 1) := by decide +kernel
theorem dJ3_checkIndex_8e157_17 : decode cJ3_checkIndex_8e157 17 = .ok (.ireturn, 1) := by decide +kernel
