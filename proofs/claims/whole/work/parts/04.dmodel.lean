theorem dX7_init_0 : decode cX7_init 0 = .ok (.aload_n 0, 1) := by decide +kernel
theorem dX7_init_1 : decode cX7_init 1 = .ok (.invokespecial 1, 3) := by decide +kernel
theorem dX7_init_4 : decode cX7_init 4 = .ok (.aload_n 0, 1) := by decide +kernel
theorem dX7_init_5 : decode cX7_init 5 = .ok (.sipush 486, 3) := by decide +kernel
theorem dX7_init_8 : decode cX7_init 8 = .ok (.newarray .int, 2) := by decide +kernel
theorem dX7_init_10 : decode cX7_init 10 = .ok (.putfield 7, 3) := by decide +kernel
theorem dX7_init_13 : decode cX7_init 13 = .ok (.aload_n 0, 1) := by decide +kernel
theorem dX7_init_14 : decode cX7_init 14 = .ok (.sipush 1944, 3) := by decide +kernel
theorem dX7_init_17 : decode cX7_init 17 = .ok (.newarray .int, 2) := by decide +kernel
theorem dX7_init_19 : decode cX7_init 19 = .ok (.putfield 13, 3) := by decide +kernel
theorem dX7_init_22 : decode cX7_init 22 = .ok (.aload_n 0, 1) := by decide +kernel
theorem dX7_init_23 : decode cX7_init 23 = .ok (.sipush 486, 3) := by decide +kernel
theorem dX7_init_26 : decode cX7_init 26 = .ok (.newarray .int, 2) := by decide +kernel
theorem dX7_init_28 : decode cX7_init 28 = .ok (.putfield 16, 3) := by decide +kernel
theorem dX7_init_31 : decode cX7_init 31 = .ok (.aload_n 0, 1) := by decide +kernel
theorem dX7_init_32 : decode cX7_init 32 = .ok (.sipush 150, 3) := by decide +kernel
theorem dX7_init_35 : decode cX7_init 35 = .ok (.newarray .int, 2) := by decide +kernel
theorem dX7_init_37 : decode cX7_init 37 = .ok (.putfield 19, 3) := by decide +kernel
theorem dX7_init_40 : decode cX7_init 40 = .ok (.aload_n 0, 1) := by decide +kernel
theorem dX7_init_41 : decode cX7_init 41 = .ok (.sipush (-1000), 3) := by decide +kernel
theorem dX7_init_44 : decode cX7_init 44 = .ok (.putfield 22, 3) := by decide +kernel
theorem dX7_init_47 : decode cX7_init 47 = .ok (.aload_n 0, 1) := by decide +kernel
theorem dX7_init_48 : decode cX7_init 48 = .ok (.bipush 8, 2) := by decide +kernel
theorem dX7_init_50 : decode cX7_init 50 = .ok (.newarray .int, 2) := by decide +kernel
theorem dX7_init_52 : decode cX7_init 52 = .ok (.putfield 26, 3) := by decide +kernel
theorem dX7_init_55 : decode cX7_init 55 = .ok (.aload_n 0, 1) := by decide +kernel
theorem dX7_init_56 : decode cX7_init 56 = .ok (.bipush 8, 2) := by decide +kernel
theorem dX7_init_58 : decode cX7_init 58 = .ok (.newarray .int, 2) := by decide +kernel
theorem dX7_init_60 : decode cX7_init 60 = .ok (.putfield 29, 3) := by decide +kernel
theorem dX7_init_63 : decode cX7_init 63 = .ok (.aload_n 0, 1) := by decide +kernel
theorem dX7_init_64 : decode cX7_init 64 = .ok (.bipush 8, 2) := by decide +kernel
theorem dX7_init_66 : decode cX7_init 66 = .ok (.newarray .int, 2) := by decide +kernel
theorem dX7_init_68 : decode cX7_init 68 = .ok (.putfield 32, 3) := by decide +kernel
theorem dX7_init_71 : decode cX7_init 71 = .ok (.aload_n 0, 1) := by decide +kernel
theorem dX7_init_72 : decode cX7_init 72 = .ok (.iconst 5, 1) := by decide +kernel
theorem dX7_init_73 : decode cX7_init 73 = .ok (.newarray .int, 2) := by decide +kernel
theorem dX7_init_75 : decode cX7_init 75 = .ok (.putfield 35, 3) := by decide +kernel
theorem dX7_init_78 : decode cX7_init 78 = .ok (.aload_n 0, 1) := by decide +kernel
theorem dX7_init_79 : decode cX7_init 79 = .ok (.getfield 7, 3) := by decide +kernel
theorem dX7_init_82 : decode cX7_init 82 = .ok (.iconst 0, 1) := by decide +kernel
theorem dX7_init_83 : decode cX7_init 83 = .ok (.bipush 12, 2) := by decide +kernel
theorem dX7_init_85 : decode cX7_init 85 = .ok (.iastore, 1) := by decide +kernel
theorem dX7_init_86 : decode cX7_init 86 = .ok (.aload_n 0, 1) := by decide +kernel
theorem dX7_init_87 : decode cX7_init 87 = .ok (.getfield 7, 3) := by decide +kernel
theorem dX7_init_90 : decode cX7_init 90 = .ok (.iconst 1, 1) := by decide +kernel
theorem dX7_init_91 : decode cX7_init 91 = .ok (.bipush 8, 2) := by decide +kernel
theorem dX7_init_93 : decode cX7_init 93 = .ok (.iastore, 1) := by decide +kernel
theorem dX7_init_94 : decode cX7_init 94 = .ok (.return_, 1) := by decide +kernel
theorem dX7_thrown_0 : decode cX7_thrown 0 = .ok (.aload_n 0, 1) := by decide +kernel
theorem dX7_thrown_1 : decode cX7_thrown 1 = .ok (.getfield 38, 3) := by decide +kernel
theorem dX7_thrown_4 : decode cX7_thrown 4 = .ok (.ireturn, 1) := by decide +kernel
theorem dX7_in_0 : decode cX7_in 0 = .ok (.iload_n 0, 1) := by decide +kernel
theorem dX7_in_1 : decode cX7_in 1 = .ok (.iload_n 1, 1) := by decide +kernel
theorem dX7_in_2 : decode cX7_in 2 = .ok (.if_icmp .lt 12, 3) := by decide +kernel
theorem dX7_in_5 : decode cX7_in 5 = .ok (.iload_n 0, 1) := by decide +kernel
theorem dX7_in_6 : decode cX7_in 6 = .ok (.iload_n 2, 1) := by decide +kernel
theorem dX7_in_7 : decode cX7_in 7 = .ok (.if_icmp .gt 7, 3) := by decide +kernel
theorem dX7_in_10 : decode cX7_in 10 = .ok (.iconst 1, 1) := by decide +kernel
theorem dX7_in_11 : decode cX7_in 11 = .ok (.goto 4, 3) := by decide +kernel
theorem dX7_in_14 : decode cX7_in 14 = .ok (.iconst 0, 1) := by decide +kernel
theorem dX7_in_15 : decode cX7_in 15 = .ok (.ireturn, 1) := by decide +kernel
theorem dX7_size_0 : decode cX7_size 0 = .ok (.iload_n 0, 1) := by decide +kernel
theorem dX7_size_1 : decode cX7_size 1 = .ok (.ifCond .ge 8, 3) := by decide +kernel
theorem dX7_size_4 : decode cX7_size 4 = .ok (.iload_n 0, 1) := by decide +kernel
theorem dX7_size_5 : decode cX7_size 5 = .ok (.ineg, 1) := by decide +kernel
theorem dX7_size_6 : decode cX7_size 6 = .ok (.goto 4, 3) := by decide +kernel
theorem dX7_size_9 : decode cX7_size 9 = .ok (.iload_n 0, 1) := by decide +kernel
theorem dX7_size_10 : decode cX7_size 10 = .ok (.ireturn, 1) := by decide +kernel
theorem dX7_lesser_0 : decode cX7_lesser 0 = .ok (.iload_n 0, 1) := by decide +kernel
theorem dX7_lesser_1 : decode cX7_lesser 1 = .ok (.iload_n 1, 1) := by decide +kernel
theorem dX7_lesser_2 : decode cX7_lesser 2 = .ok (.if_icmp .ge 7, 3) := by decide +kernel
theorem dX7_lesser_5 : decode cX7_lesser 5 = .ok (.iload_n 0, 1) := by decide +kernel
theorem dX7_lesser_6 : decode cX7_lesser 6 = .ok (.goto 4, 3) := by decide +kernel
theorem dX7_lesser_9 : decode cX7_lesser 9 = .ok (.iload_n 1, 1) := by decide +kernel
theorem dX7_lesser_10 : decode cX7_lesser 10 = .ok (.ireturn, 1) := by decide +kernel
theorem dX7_fails_0 : decode cX7_fails 0 = .ok (.aload_n 0, 1) := by decide +kernel
theorem dX7_fails_1 : decode cX7_fails 1 = .ok (.iload_n 1, 1) := by decide +kernel
theorem dX7_fails_2 : decode cX7_fails 2 = .ok (.putfield 38, 3) := by decide +kernel
theorem dX7_fails_5 : decode cX7_fails 5 = .ok (.iconst 0, 1) := by decide +kernel
theorem dX7_fails_6 : decode cX7_fails 6 = .ok (.ireturn, 1) := by decide +kernel
theorem dX7_tells_0 : decode cX7_tells 0 = .ok (.aload_n 0, 1) := by decide +kernel
theorem dX7_tells_1 : decode cX7_tells 1 = .ok (.iconst 0, 1) := by decide +kernel
theorem dX7_tells_2 : decode cX7_tells 2 = .ok (.putfield 38, 3) := by decide +kernel
theorem dX7_tells_5 : decode cX7_tells 5 = .ok (.iload_n 1, 1) := by decide +kernel
theorem dX7_tells_6 : decode cX7_tells 6 = .ok (.ireturn, 1) := by decide +kernel
theorem dX7_of_0 : decode cX7_of 0 = .ok (.aload_n 0, 1) := by decide +kernel
theorem dX7_of_1 : decode cX7_of 1 = .ok (.getfield 7, 3) := by decide +kernel
theorem dX7_of_4 : decode cX7_of 4 = .ok (.sipush 390, 3) := by decide +kernel
theorem dX7_of_7 : decode cX7_of 7 = .ok (.bipush 12, 2) := by decide +kernel
theorem dX7_of_9 : decode cX7_of 9 = .ok (.iload_n 1, 1) := by decide +kernel
theorem dX7_of_10 : decode cX7_of 10 = .ok (.imul, 1) := by decide +kernel
theorem dX7_of_11 : decode cX7_of 11 = .ok (.iadd, 1) := by decide +kernel
theorem dX7_of_12 : decode cX7_of 12 = .ok (.iload_n 2, 1) := by decide +kernel
theorem dX7_of_13 : decode cX7_of 13 = .ok (.iadd, 1) := by decide +kernel
theorem dX7_of_14 : decode cX7_of 14 = .ok (.iaload, 1) := by decide +kernel
theorem dX7_of_15 : decode cX7_of 15 = .ok (.ireturn, 1) := by decide +kernel
theorem dX7_put_0 : decode cX7_put 0 = .ok (.aload_n 0, 1) := by decide +kernel
theorem dX7_put_1 : decode cX7_put 1 = .ok (.getfield 7, 3) := by decide +kernel
theorem dX7_put_4 : decode cX7_put 4 = .ok (.sipush 390, 3) := by decide +kernel
theorem dX7_put_7 : decode cX7_put 7 = .ok (.bipush 12, 2) := by decide +kernel
theorem dX7_put_9 : decode cX7_put 9 = .ok (.iload_n 1, 1) := by decide +kernel
theorem dX7_put_10 : decode cX7_put 10 = .ok (.imul, 1) := by decide +kernel
theorem dX7_put_11 : decode cX7_put 11 = .ok (.iadd, 1) := by decide +kernel
theorem dX7_put_12 : decode cX7_put 12 = .ok (.iload_n 2, 1) := by decide +kernel
theorem dX7_put_13 : decode cX7_put 13 = .ok (.iadd, 1) := by decide +kernel
theorem dX7_put_14 : decode cX7_put 14 = .ok (.iload_n 3, 1) := by decide +kernel
theorem dX7_put_15 : decode cX7_put 15 = .ok (.iastore, 1) := by decide +kernel
theorem dX7_put_16 : decode cX7_put 16 = .ok (.return_, 1) := by decide +kernel
theorem dX7_isLamp_0 : decode cX7_isLamp 0 = .ok (.iload_n 1, 1) := by decide +kernel
theorem dX7_isLamp_1 : decode cX7_isLamp 1 = .ok (.iconst 0, 1) := by decide +kernel
theorem dX7_isLamp_2 : decode cX7_isLamp 2 = .ok (.aload_n 0, 1) := by decide +kernel
theorem dX7_isLamp_3 : decode cX7_isLamp 3 = .ok (.getfield 7, 3) := by decide +kernel
theorem dX7_isLamp_6 : decode cX7_isLamp 6 = .ok (.iconst 4, 1) := by decide +kernel
theorem dX7_isLamp_7 : decode cX7_isLamp 7 = .ok (.iaload, 1) := by decide +kernel
theorem dX7_isLamp_8 : decode cX7_isLamp 8 = .ok (.iconst 1, 1) := by decide +kernel
theorem dX7_isLamp_9 : decode cX7_isLamp 9 = .ok (.isub, 1) := by decide +kernel
theorem dX7_isLamp_10 : decode cX7_isLamp 10 = .ok (.invokestatic 41, 3) := by decide +kernel
theorem dX7_isLamp_13 : decode cX7_isLamp 13 = .ok (.ireturn, 1) := by decide +kernel
theorem dX7_isPlace_0 : decode cX7_isPlace 0 = .ok (.iload_n 1, 1) := by decide +kernel
theorem dX7_isPlace_1 : decode cX7_isPlace 1 = .ok (.iconst 0, 1) := by decide +kernel
theorem dX7_isPlace_2 : decode cX7_isPlace 2 = .ok (.aload_n 0, 1) := by decide +kernel
theorem dX7_isPlace_3 : decode cX7_isPlace 3 = .ok (.getfield 7, 3) := by decide +kernel
theorem dX7_isPlace_6 : decode cX7_isPlace 6 = .ok (.iconst 0, 1) := by decide +kernel
theorem dX7_isPlace_7 : decode cX7_isPlace 7 = .ok (.iaload, 1) := by decide +kernel
theorem dX7_isPlace_8 : decode cX7_isPlace 8 = .ok (.iconst 1, 1) := by decide +kernel
theorem dX7_isPlace_9 : decode cX7_isPlace 9 = .ok (.isub, 1) := by decide +kernel
theorem dX7_isPlace_10 : decode cX7_isPlace 10 = .ok (.invokestatic 41, 3) := by decide +kernel
theorem dX7_isPlace_13 : decode cX7_isPlace 13 = .ok (.ifCond .eq 23, 3) := by decide +kernel
theorem dX7_isPlace_16 : decode cX7_isPlace 16 = .ok (.iload_n 2, 1) := by decide +kernel
theorem dX7_isPlace_17 : decode cX7_isPlace 17 = .ok (.iconst 0, 1) := by decide +kernel
theorem dX7_isPlace_18 : decode cX7_isPlace 18 = .ok (.aload_n 0, 1) := by decide +kernel
theorem dX7_isPlace_19 : decode cX7_isPlace 19 = .ok (.getfield 7, 3) := by decide +kernel
theorem dX7_isPlace_22 : decode cX7_isPlace 22 = .ok (.iconst 1, 1) := by decide +kernel
theorem dX7_isPlace_23 : decode cX7_isPlace 23 = .ok (.iaload, 1) := by decide +kernel
theorem dX7_isPlace_24 : decode cX7_isPlace 24 = .ok (.iconst 1, 1) := by decide +kernel
theorem dX7_isPlace_25 : decode cX7_isPlace 25 = .ok (.isub, 1) := by decide +kernel
theorem dX7_isPlace_26 : decode cX7_isPlace 26 = .ok (.invokestatic 41, 3) := by decide +kernel
theorem dX7_isPlace_29 : decode cX7_isPlace 29 = .ok (.ifCond .eq 7, 3) := by decide +kernel
theorem dX7_isPlace_32 : decode cX7_isPlace 32 = .ok (.iconst 1, 1) := by decide +kernel
theorem dX7_isPlace_33 : decode cX7_isPlace 33 = .ok (.goto 4, 3) := by decide +kernel
theorem dX7_isPlace_36 : decode cX7_isPlace 36 = .ok (.iconst 0, 1) := by decide +kernel
theorem dX7_isPlace_37 : decode cX7_isPlace 37 = .ok (.ireturn, 1) := by decide +kernel
theorem dX7_target_0 : decode cX7_target 0 = .ok (.aload_n 0, 1) := by decide +kernel
theorem dX7_target_1 : decode cX7_target 1 = .ok (.getfield 7, 3) := by decide +kernel
theorem dX7_target_4 : decode cX7_target 4 = .ok (.bipush 6, 2) := by decide +kernel
theorem dX7_target_6 : decode cX7_target 6 = .ok (.bipush 24, 2) := by decide +kernel
theorem dX7_target_8 : decode cX7_target 8 = .ok (.iload_n 2, 1) := by decide +kernel
theorem dX7_target_9 : decode cX7_target 9 = .ok (.imul, 1) := by decide +kernel
theorem dX7_target_10 : decode cX7_target 10 = .ok (.iadd, 1) := by decide +kernel
theorem dX7_target_11 : decode cX7_target 11 = .ok (.iload_n 1, 1) := by decide +kernel
theorem dX7_target_12 : decode cX7_target 12 = .ok (.iadd, 1) := by decide +kernel
theorem dX7_target_13 : decode cX7_target 13 = .ok (.iaload, 1) := by decide +kernel
theorem dX7_target_14 : decode cX7_target 14 = .ok (.ireturn, 1) := by decide +kernel
theorem dX7_laysAside_0 : decode cX7_laysAside 0 = .ok (.iconst 0, 1) := by decide +kernel
theorem dX7_laysAside_1 : decode cX7_laysAside 1 = .ok (.istore_n 1, 1) := by decide +kernel
theorem dX7_laysAside_2 : decode cX7_laysAside 2 = .ok (.iload_n 1, 1) := by decide +kernel
theorem dX7_laysAside_3 : decode cX7_laysAside 3 = .ok (.sipush 486, 3) := by decide +kernel
theorem dX7_laysAside_6 : decode cX7_laysAside 6 = .ok (.if_icmp .ge 21, 3) := by decide +kernel
theorem dX7_laysAside_9 : decode cX7_laysAside 9 = .ok (.aload_n 0, 1) := by decide +kernel
theorem dX7_laysAside_10 : decode cX7_laysAside 10 = .ok (.getfield 16, 3) := by decide +kernel
theorem dX7_laysAside_13 : decode cX7_laysAside 13 = .ok (.iload_n 1, 1) := by decide +kernel
theorem dX7_laysAside_14 : decode cX7_laysAside 14 = .ok (.aload_n 0, 1) := by decide +kernel
theorem dX7_laysAside_15 : decode cX7_laysAside 15 = .ok (.getfield 7, 3) := by decide +kernel
theorem dX7_laysAside_18 : decode cX7_laysAside 18 = .ok (.iload_n 1, 1) := by decide +kernel
theorem dX7_laysAside_19 : decode cX7_laysAside 19 = .ok (.iaload, 1) := by decide +kernel
theorem dX7_laysAside_20 : decode cX7_laysAside 20 = .ok (.iastore, 1) := by decide +kernel
theorem dX7_laysAside_21 : decode cX7_laysAside 21 = .ok (.iinc 1 1, 3) := by decide +kernel
theorem dX7_laysAside_24 : decode cX7_laysAside 24 = .ok (.goto (-22), 3) := by decide +kernel
theorem dX7_laysAside_27 : decode cX7_laysAside 27 = .ok (.return_, 1) := by decide +kernel
theorem dX7_bringsBack_0 : decode cX7_bringsBack 0 = .ok (.iconst 0, 1) := by decide +kernel
theorem dX7_bringsBack_1 : decode cX7_bringsBack 1 = .ok (.istore_n 1, 1) := by decide +kernel
theorem dX7_bringsBack_2 : decode cX7_bringsBack 2 = .ok (.iload_n 1, 1) := by decide +kernel
theorem dX7_bringsBack_3 : decode cX7_bringsBack 3 = .ok (.sipush 486, 3) := by decide +kernel
theorem dX7_bringsBack_6 : decode cX7_bringsBack 6 = .ok (.if_icmp .ge 21, 3) := by decide +kernel
theorem dX7_bringsBack_9 : decode cX7_bringsBack 9 = .ok (.aload_n 0, 1) := by decide +kernel
theorem dX7_bringsBack_10 : decode cX7_bringsBack 10 = .ok (.getfield 7, 3) := by decide +kernel
theorem dX7_bringsBack_13 : decode cX7_bringsBack 13 = .ok (.iload_n 1, 1) := by decide +kernel
theorem dX7_bringsBack_14 : decode cX7_bringsBack 14 = .ok (.aload_n 0, 1) := by decide +kernel
theorem dX7_bringsBack_15 : decode cX7_bringsBack 15 = .ok (.getfield 16, 3) := by decide +kernel
theorem dX7_bringsBack_18 : decode cX7_bringsBack 18 = .ok (.iload_n 1, 1) := by decide +kernel
theorem dX7_bringsBack_19 : decode cX7_bringsBack 19 = .ok (.iaload, 1) := by decide +kernel
theorem dX7_bringsBack_20 : decode cX7_bringsBack 20 = .ok (.iastore, 1) := by decide +kernel
theorem dX7_bringsBack_21 : decode cX7_bringsBack 21 = .ok (.iinc 1 1, 3) := by decide +kernel
theorem dX7_bringsBack_24 : decode cX7_bringsBack 24 = .ok (.goto (-22), 3) := by decide +kernel
theorem dX7_bringsBack_27 : decode cX7_bringsBack 27 = .ok (.return_, 1) := by decide +kernel
theorem dX7_saves_0 : decode cX7_saves 0 = .ok (.aload_n 0, 1) := by decide +kernel
theorem dX7_saves_1 : decode cX7_saves 1 = .ok (.getfield 45, 3) := by decide +kernel
theorem dX7_saves_4 : decode cX7_saves 4 = .ok (.iconst 4, 1) := by decide +kernel
theorem dX7_saves_5 : decode cX7_saves 5 = .ok (.if_icmp .ne 44, 3) := by decide +kernel
theorem dX7_saves_8 : decode cX7_saves 8 = .ok (.iconst 0, 1) := by decide +kernel
theorem dX7_saves_9 : decode cX7_saves 9 = .ok (.istore_n 1, 1) := by decide +kernel
theorem dX7_saves_10 : decode cX7_saves 10 = .ok (.iload_n 1, 1) := by decide +kernel
theorem dX7_saves_11 : decode cX7_saves 11 = .ok (.sipush 1458, 3) := by decide +kernel
theorem dX7_saves_14 : decode cX7_saves 14 = .ok (.if_icmp .ge 25, 3) := by decide +kernel
theorem dX7_saves_17 : decode cX7_saves 17 = .ok (.aload_n 0, 1) := by decide +kernel
theorem dX7_saves_18 : decode cX7_saves 18 = .ok (.getfield 13, 3) := by decide +kernel
theorem dX7_saves_21 : decode cX7_saves 21 = .ok (.iload_n 1, 1) := by decide +kernel
theorem dX7_saves_22 : decode cX7_saves 22 = .ok (.aload_n 0, 1) := by decide +kernel
theorem dX7_saves_23 : decode cX7_saves 23 = .ok (.getfield 13, 3) := by decide +kernel
theorem dX7_saves_26 : decode cX7_saves 26 = .ok (.iload_n 1, 1) := by decide +kernel
theorem dX7_saves_27 : decode cX7_saves 27 = .ok (.sipush 486, 3) := by decide +kernel
theorem dX7_saves_30 : decode cX7_saves 30 = .ok (.iadd, 1) := by decide +kernel
theorem dX7_saves_31 : decode cX7_saves 31 = .ok (.iaload, 1) := by decide +kernel
theorem dX7_saves_32 : decode cX7_saves 32 = .ok (.iastore, 1) := by decide +kernel
theorem dX7_saves_33 : decode cX7_saves 33 = .ok (.iinc 1 1, 3) := by decide +kernel
theorem dX7_saves_36 : decode cX7_saves 36 = .ok (.goto (-26), 3) := by decide +kernel
theorem dX7_saves_39 : decode cX7_saves 39 = .ok (.aload_n 0, 1) := by decide +kernel
theorem dX7_saves_40 : decode cX7_saves 40 = .ok (.dup, 1) := by decide +kernel
theorem dX7_saves_41 : decode cX7_saves 41 = .ok (.getfield 45, 3) := by decide +kernel
theorem dX7_saves_44 : decode cX7_saves 44 = .ok (.iconst 1, 1) := by decide +kernel
theorem dX7_saves_45 : decode cX7_saves 45 = .ok (.isub, 1) := by decide +kernel
theorem dX7_saves_46 : decode cX7_saves 46 = .ok (.putfield 45, 3) := by decide +kernel
theorem dX7_saves_49 : decode cX7_saves 49 = .ok (.iconst 0, 1) := by decide +kernel
theorem dX7_saves_50 : decode cX7_saves 50 = .ok (.istore_n 1, 1) := by decide +kernel
theorem dX7_saves_51 : decode cX7_saves 51 = .ok (.iload_n 1, 1) := by decide +kernel
theorem dX7_saves_52 : decode cX7_saves 52 = .ok (.sipush 486, 3) := by decide +kernel
theorem dX7_saves_55 : decode cX7_saves 55 = .ok (.if_icmp .ge 30, 3) := by decide +kernel
theorem dX7_saves_58 : decode cX7_saves 58 = .ok (.aload_n 0, 1) := by decide +kernel
theorem dX7_saves_59 : decode cX7_saves 59 = .ok (.getfield 13, 3) := by decide +kernel
theorem dX7_saves_62 : decode cX7_saves 62 = .ok (.sipush 486, 3) := by decide +kernel
theorem dX7_saves_65 : decode cX7_saves 65 = .ok (.aload_n 0, 1) := by decide +kernel
theorem dX7_saves_66 : decode cX7_saves 66 = .ok (.getfield 45, 3) := by decide +kernel
theorem dX7_saves_69 : decode cX7_saves 69 = .ok (.imul, 1) := by decide +kernel
theorem dX7_saves_70 : decode cX7_saves 70 = .ok (.iload_n 1, 1) := by decide +kernel
theorem dX7_saves_71 : decode cX7_saves 71 = .ok (.iadd, 1) := by decide +kernel
theorem dX7_saves_72 : decode cX7_saves 72 = .ok (.aload_n 0, 1) := by decide +kernel
theorem dX7_saves_73 : decode cX7_saves 73 = .ok (.getfield 16, 3) := by decide +kernel
theorem dX7_saves_76 : decode cX7_saves 76 = .ok (.iload_n 1, 1) := by decide +kernel
theorem dX7_saves_77 : decode cX7_saves 77 = .ok (.iaload, 1) := by decide +kernel
theorem dX7_saves_78 : decode cX7_saves 78 = .ok (.iastore, 1) := by decide +kernel
theorem dX7_saves_79 : decode cX7_saves 79 = .ok (.iinc 1 1, 3) := by decide +kernel
theorem dX7_saves_82 : decode cX7_saves 82 = .ok (.goto (-31), 3) := by decide +kernel
theorem dX7_saves_85 : decode cX7_saves 85 = .ok (.aload_n 0, 1) := by decide +kernel
theorem dX7_saves_86 : decode cX7_saves 86 = .ok (.dup, 1) := by decide +kernel
theorem dX7_saves_87 : decode cX7_saves 87 = .ok (.getfield 45, 3) := by decide +kernel
theorem dX7_saves_90 : decode cX7_saves 90 = .ok (.iconst 1, 1) := by decide +kernel
theorem dX7_saves_91 : decode cX7_saves 91 = .ok (.iadd, 1) := by decide +kernel
theorem dX7_saves_92 : decode cX7_saves 92 = .ok (.putfield 45, 3) := by decide +kernel
theorem dX7_saves_95 : decode cX7_saves 95 = .ok (.return_, 1) := by decide +kernel
theorem dX7_ends_0 : decode cX7_ends 0 = .ok (.iload_n 1, 1) := by decide +kernel
theorem dX7_ends_1 : decode cX7_ends 1 = .ok (.ifCond .le 9, 3) := by decide +kernel
theorem dX7_ends_4 : decode cX7_ends 4 = .ok (.aload_n 0, 1) := by decide +kernel
theorem dX7_ends_5 : decode cX7_ends 5 = .ok (.iload_n 1, 1) := by decide +kernel
theorem dX7_ends_6 : decode cX7_ends 6 = .ok (.invokevirtual 48, 3) := by decide +kernel
theorem dX7_ends_9 : decode cX7_ends 9 = .ok (.ireturn, 1) := by decide +kernel
theorem dX7_ends_10 : decode cX7_ends 10 = .ok (.aload_n 0, 1) := by decide +kernel
theorem dX7_ends_11 : decode cX7_ends 11 = .ok (.invokevirtual 52, 3) := by decide +kernel
theorem dX7_ends_14 : decode cX7_ends 14 = .ok (.aload_n 0, 1) := by decide +kernel
theorem dX7_ends_15 : decode cX7_ends 15 = .ok (.aload_n 0, 1) := by decide +kernel
theorem dX7_ends_16 : decode cX7_ends 16 = .ok (.getfield 55, 3) := by decide +kernel
theorem dX7_ends_19 : decode cX7_ends 19 = .ok (.invokevirtual 58, 3) := by decide +kernel
theorem dX7_ends_22 : decode cX7_ends 22 = .ok (.ireturn, 1) := by decide +kernel
theorem dX7_undo_0 : decode cX7_undo 0 = .ok (.aload_n 0, 1) := by decide +kernel
theorem dX7_undo_1 : decode cX7_undo 1 = .ok (.getfield 45, 3) := by decide +kernel
theorem dX7_undo_4 : decode cX7_undo 4 = .ok (.ifCond .ne 9, 3) := by decide +kernel
theorem dX7_undo_7 : decode cX7_undo 7 = .ok (.aload_n 0, 1) := by decide +kernel
theorem dX7_undo_8 : decode cX7_undo 8 = .ok (.iconst 1, 1) := by decide +kernel
theorem dX7_undo_9 : decode cX7_undo 9 = .ok (.invokevirtual 48, 3) := by decide +kernel
theorem dX7_undo_12 : decode cX7_undo 12 = .ok (.ireturn, 1) := by decide +kernel
theorem dX7_undo_13 : decode cX7_undo 13 = .ok (.aload_n 0, 1) := by decide +kernel
theorem dX7_undo_14 : decode cX7_undo 14 = .ok (.dup, 1) := by decide +kernel
theorem dX7_undo_15 : decode cX7_undo 15 = .ok (.getfield 45, 3) := by decide +kernel
theorem dX7_undo_18 : decode cX7_undo 18 = .ok (.iconst 1, 1) := by decide +kernel
theorem dX7_undo_19 : decode cX7_undo 19 = .ok (.isub, 1) := by decide +kernel
theorem dX7_undo_20 : decode cX7_undo 20 = .ok (.putfield 45, 3) := by decide +kernel
theorem dX7_undo_23 : decode cX7_undo 23 = .ok (.iconst 0, 1) := by decide +kernel
theorem dX7_undo_24 : decode cX7_undo 24 = .ok (.istore_n 1, 1) := by decide +kernel
theorem dX7_undo_25 : decode cX7_undo 25 = .ok (.iload_n 1, 1) := by decide +kernel
theorem dX7_undo_26 : decode cX7_undo 26 = .ok (.sipush 486, 3) := by decide +kernel
theorem dX7_undo_29 : decode cX7_undo 29 = .ok (.if_icmp .ge 30, 3) := by decide +kernel
theorem dX7_undo_32 : decode cX7_undo 32 = .ok (.aload_n 0, 1) := by decide +kernel
theorem dX7_undo_33 : decode cX7_undo 33 = .ok (.getfield 7, 3) := by decide +kernel
theorem dX7_undo_36 : decode cX7_undo 36 = .ok (.iload_n 1, 1) := by decide +kernel
theorem dX7_undo_37 : decode cX7_undo 37 = .ok (.aload_n 0, 1) := by decide +kernel
theorem dX7_undo_38 : decode cX7_undo 38 = .ok (.getfield 13, 3) := by decide +kernel
theorem dX7_undo_41 : decode cX7_undo 41 = .ok (.sipush 486, 3) := by decide +kernel
theorem dX7_undo_44 : decode cX7_undo 44 = .ok (.aload_n 0, 1) := by decide +kernel
theorem dX7_undo_45 : decode cX7_undo 45 = .ok (.getfield 45, 3) := by decide +kernel
theorem dX7_undo_48 : decode cX7_undo 48 = .ok (.imul, 1) := by decide +kernel
theorem dX7_undo_49 : decode cX7_undo 49 = .ok (.iload_n 1, 1) := by decide +kernel
theorem dX7_undo_50 : decode cX7_undo 50 = .ok (.iadd, 1) := by decide +kernel
theorem dX7_undo_51 : decode cX7_undo 51 = .ok (.iaload, 1) := by decide +kernel
theorem dX7_undo_52 : decode cX7_undo 52 = .ok (.iastore, 1) := by decide +kernel
theorem dX7_undo_53 : decode cX7_undo 53 = .ok (.iinc 1 1, 3) := by decide +kernel
theorem dX7_undo_56 : decode cX7_undo 56 = .ok (.goto (-31), 3) := by decide +kernel
theorem dX7_undo_59 : decode cX7_undo 59 = .ok (.aload_n 0, 1) := by decide +kernel
theorem dX7_undo_60 : decode cX7_undo 60 = .ok (.aload_n 0, 1) := by decide +kernel
theorem dX7_undo_61 : decode cX7_undo 61 = .ok (.getfield 45, 3) := by decide +kernel
theorem dX7_undo_64 : decode cX7_undo 64 = .ok (.invokevirtual 58, 3) := by decide +kernel
theorem dX7_undo_67 : decode cX7_undo 67 = .ok (.ireturn, 1) := by decide +kernel
theorem dX7_limit_0 : decode cX7_limit 0 = .ok (.aload_n 0, 1) := by decide +kernel
theorem dX7_limit_1 : decode cX7_limit 1 = .ok (.iload_n 1, 1) := by decide +kernel
theorem dX7_limit_2 : decode cX7_limit 2 = .ok (.bipush 8, 2) := by decide +kernel
theorem dX7_limit_4 : decode cX7_limit 4 = .ok (.invokevirtual 61, 3) := by decide +kernel
theorem dX7_limit_7 : decode cX7_limit 7 = .ok (.sipush 1000, 3) := by decide +kernel
theorem dX7_limit_10 : decode cX7_limit 10 = .ok (.aload_n 0, 1) := by decide +kernel
theorem dX7_limit_11 : decode cX7_limit 11 = .ok (.iload_n 1, 1) := by decide +kernel
theorem dX7_limit_12 : decode cX7_limit 12 = .ok (.bipush 10, 2) := by decide +kernel
theorem dX7_limit_14 : decode cX7_limit 14 = .ok (.invokevirtual 61, 3) := by decide +kernel
theorem dX7_limit_17 : decode cX7_limit 17 = .ok (.isub, 1) := by decide +kernel
theorem dX7_limit_18 : decode cX7_limit 18 = .ok (.imul, 1) := by decide +kernel
theorem dX7_limit_19 : decode cX7_limit 19 = .ok (.sipush 1000, 3) := by decide +kernel
theorem dX7_limit_22 : decode cX7_limit 22 = .ok (.idiv, 1) := by decide +kernel
theorem dX7_limit_23 : decode cX7_limit 23 = .ok (.ireturn, 1) := by decide +kernel
theorem dX7_floor_0 : decode cX7_floor 0 = .ok (.aload_n 0, 1) := by decide +kernel
theorem dX7_floor_1 : decode cX7_floor 1 = .ok (.iload_n 1, 1) := by decide +kernel
theorem dX7_floor_2 : decode cX7_floor 2 = .ok (.bipush 9, 2) := by decide +kernel
theorem dX7_floor_4 : decode cX7_floor 4 = .ok (.invokevirtual 61, 3) := by decide +kernel
theorem dX7_floor_7 : decode cX7_floor 7 = .ok (.aload_n 0, 1) := by decide +kernel
theorem dX7_floor_8 : decode cX7_floor 8 = .ok (.iload_n 1, 1) := by decide +kernel
theorem dX7_floor_9 : decode cX7_floor 9 = .ok (.invokevirtual 65, 3) := by decide +kernel
theorem dX7_floor_12 : decode cX7_floor 12 = .ok (.invokestatic 68, 3) := by decide +kernel
theorem dX7_floor_15 : decode cX7_floor 15 = .ok (.ireturn, 1) := by decide +kernel
theorem dX7_pointX_0 : decode cX7_pointX 0 = .ok (.iconst 2, 1) := by decide +kernel
theorem dX7_pointX_1 : decode cX7_pointX 1 = .ok (.aload_n 0, 1) := by decide +kernel
theorem dX7_pointX_2 : decode cX7_pointX 2 = .ok (.iload_n 1, 1) := by decide +kernel
theorem dX7_pointX_3 : decode cX7_pointX 3 = .ok (.iconst 0, 1) := by decide +kernel
theorem dX7_pointX_4 : decode cX7_pointX 4 = .ok (.iload_n 2, 1) := by decide +kernel
theorem dX7_pointX_5 : decode cX7_pointX 5 = .ok (.iconst 4, 1) := by decide +kernel
theorem dX7_pointX_6 : decode cX7_pointX 6 = .ok (.irem, 1) := by decide +kernel
theorem dX7_pointX_7 : decode cX7_pointX 7 = .ok (.iadd, 1) := by decide +kernel
theorem dX7_pointX_8 : decode cX7_pointX 8 = .ok (.invokevirtual 61, 3) := by decide +kernel
theorem dX7_pointX_11 : decode cX7_pointX 11 = .ok (.imul, 1) := by decide +kernel
theorem dX7_pointX_12 : decode cX7_pointX 12 = .ok (.ireturn, 1) := by decide +kernel
theorem dX7_pointY_0 : decode cX7_pointY 0 = .ok (.iconst 2, 1) := by decide +kernel
theorem dX7_pointY_1 : decode cX7_pointY 1 = .ok (.aload_n 0, 1) := by decide +kernel
theorem dX7_pointY_2 : decode cX7_pointY 2 = .ok (.iload_n 1, 1) := by decide +kernel
theorem dX7_pointY_3 : decode cX7_pointY 3 = .ok (.iconst 4, 1) := by decide +kernel
theorem dX7_pointY_4 : decode cX7_pointY 4 = .ok (.iload_n 2, 1) := by decide +kernel
theorem dX7_pointY_5 : decode cX7_pointY 5 = .ok (.iconst 4, 1) := by decide +kernel
theorem dX7_pointY_6 : decode cX7_pointY 6 = .ok (.irem, 1) := by decide +kernel
theorem dX7_pointY_7 : decode cX7_pointY 7 = .ok (.iadd, 1) := by decide +kernel
theorem dX7_pointY_8 : decode cX7_pointY 8 = .ok (.invokevirtual 61, 3) := by decide +kernel
theorem dX7_pointY_11 : decode cX7_pointY 11 = .ok (.imul, 1) := by decide +kernel
theorem dX7_pointY_12 : decode cX7_pointY 12 = .ok (.ireturn, 1) := by decide +kernel
theorem dX7_isGood_0 : decode cX7_isGood 0 = .ok (.iconst 0, 1) := by decide +kernel
theorem dX7_isGood_1 : decode cX7_isGood 1 = .ok (.istore_n 2, 1) := by decide +kernel
theorem dX7_isGood_2 : decode cX7_isGood 2 = .ok (.iconst 0, 1) := by decide +kernel
theorem dX7_isGood_3 : decode cX7_isGood 3 = .ok (.istore_n 3, 1) := by decide +kernel
theorem dX7_isGood_4 : decode cX7_isGood 4 = .ok (.iload_n 3, 1) := by decide +kernel
theorem dX7_isGood_5 : decode cX7_isGood 5 = .ok (.iconst 4, 1) := by decide +kernel
theorem dX7_isGood_6 : decode cX7_isGood 6 = .ok (.if_icmp .ge 131, 3) := by decide +kernel
theorem dX7_isGood_9 : decode cX7_isGood 9 = .ok (.aload_n 0, 1) := by decide +kernel
theorem dX7_isGood_10 : decode cX7_isGood 10 = .ok (.iload_n 1, 1) := by decide +kernel
theorem dX7_isGood_11 : decode cX7_isGood 11 = .ok (.iload_n 3, 1) := by decide +kernel
theorem dX7_isGood_12 : decode cX7_isGood 12 = .ok (.iconst 1, 1) := by decide +kernel
theorem dX7_isGood_13 : decode cX7_isGood 13 = .ok (.iadd, 1) := by decide +kernel
theorem dX7_isGood_14 : decode cX7_isGood 14 = .ok (.invokevirtual 71, 3) := by decide +kernel
theorem dX7_isGood_17 : decode cX7_isGood 17 = .ok (.aload_n 0, 1) := by decide +kernel
theorem dX7_isGood_18 : decode cX7_isGood 18 = .ok (.iload_n 1, 1) := by decide +kernel
theorem dX7_isGood_19 : decode cX7_isGood 19 = .ok (.iload_n 3, 1) := by decide +kernel
theorem dX7_isGood_20 : decode cX7_isGood 20 = .ok (.invokevirtual 71, 3) := by decide +kernel
theorem dX7_isGood_23 : decode cX7_isGood 23 = .ok (.isub, 1) := by decide +kernel
theorem dX7_isGood_24 : decode cX7_isGood 24 = .ok (.istore 4, 2) := by decide +kernel
theorem dX7_isGood_26 : decode cX7_isGood 26 = .ok (.aload_n 0, 1) := by decide +kernel
theorem dX7_isGood_27 : decode cX7_isGood 27 = .ok (.iload_n 1, 1) := by decide +kernel
theorem dX7_isGood_28 : decode cX7_isGood 28 = .ok (.iload_n 3, 1) := by decide +kernel
theorem dX7_isGood_29 : decode cX7_isGood 29 = .ok (.iconst 1, 1) := by decide +kernel
theorem dX7_isGood_30 : decode cX7_isGood 30 = .ok (.iadd, 1) := by decide +kernel
theorem dX7_isGood_31 : decode cX7_isGood 31 = .ok (.invokevirtual 74, 3) := by decide +kernel
theorem dX7_isGood_34 : decode cX7_isGood 34 = .ok (.aload_n 0, 1) := by decide +kernel
theorem dX7_isGood_35 : decode cX7_isGood 35 = .ok (.iload_n 1, 1) := by decide +kernel
theorem dX7_isGood_36 : decode cX7_isGood 36 = .ok (.iload_n 3, 1) := by decide +kernel
theorem dX7_isGood_37 : decode cX7_isGood 37 = .ok (.invokevirtual 74, 3) := by decide +kernel
theorem dX7_isGood_40 : decode cX7_isGood 40 = .ok (.isub, 1) := by decide +kernel
theorem dX7_isGood_41 : decode cX7_isGood 41 = .ok (.istore 5, 2) := by decide +kernel
theorem dX7_isGood_43 : decode cX7_isGood 43 = .ok (.aload_n 0, 1) := by decide +kernel
theorem dX7_isGood_44 : decode cX7_isGood 44 = .ok (.iload_n 1, 1) := by decide +kernel
theorem dX7_isGood_45 : decode cX7_isGood 45 = .ok (.iload_n 3, 1) := by decide +kernel
theorem dX7_isGood_46 : decode cX7_isGood 46 = .ok (.iconst 2, 1) := by decide +kernel
theorem dX7_isGood_47 : decode cX7_isGood 47 = .ok (.iadd, 1) := by decide +kernel
theorem dX7_isGood_48 : decode cX7_isGood 48 = .ok (.invokevirtual 71, 3) := by decide +kernel
theorem dX7_isGood_51 : decode cX7_isGood 51 = .ok (.aload_n 0, 1) := by decide +kernel
theorem dX7_isGood_52 : decode cX7_isGood 52 = .ok (.iload_n 1, 1) := by decide +kernel
theorem dX7_isGood_53 : decode cX7_isGood 53 = .ok (.iload_n 3, 1) := by decide +kernel
theorem dX7_isGood_54 : decode cX7_isGood 54 = .ok (.iconst 1, 1) := by decide +kernel
theorem dX7_isGood_55 : decode cX7_isGood 55 = .ok (.iadd, 1) := by decide +kernel
theorem dX7_isGood_56 : decode cX7_isGood 56 = .ok (.invokevirtual 71, 3) := by decide +kernel
theorem dX7_isGood_59 : decode cX7_isGood 59 = .ok (.isub, 1) := by decide +kernel
theorem dX7_isGood_60 : decode cX7_isGood 60 = .ok (.istore 6, 2) := by decide +kernel
theorem dX7_isGood_62 : decode cX7_isGood 62 = .ok (.aload_n 0, 1) := by decide +kernel
theorem dX7_isGood_63 : decode cX7_isGood 63 = .ok (.iload_n 1, 1) := by decide +kernel
theorem dX7_isGood_64 : decode cX7_isGood 64 = .ok (.iload_n 3, 1) := by decide +kernel
theorem dX7_isGood_65 : decode cX7_isGood 65 = .ok (.iconst 2, 1) := by decide +kernel
theorem dX7_isGood_66 : decode cX7_isGood 66 = .ok (.iadd, 1) := by decide +kernel
theorem dX7_isGood_67 : decode cX7_isGood 67 = .ok (.invokevirtual 74, 3) := by decide +kernel
theorem dX7_isGood_70 : decode cX7_isGood 70 = .ok (.aload_n 0, 1) := by decide +kernel
theorem dX7_isGood_71 : decode cX7_isGood 71 = .ok (.iload_n 1, 1) := by decide +kernel
theorem dX7_isGood_72 : decode cX7_isGood 72 = .ok (.iload_n 3, 1) := by decide +kernel
theorem dX7_isGood_73 : decode cX7_isGood 73 = .ok (.iconst 1, 1) := by decide +kernel
theorem dX7_isGood_74 : decode cX7_isGood 74 = .ok (.iadd, 1) := by decide +kernel
theorem dX7_isGood_75 : decode cX7_isGood 75 = .ok (.invokevirtual 74, 3) := by decide +kernel
theorem dX7_isGood_78 : decode cX7_isGood 78 = .ok (.isub, 1) := by decide +kernel
theorem dX7_isGood_79 : decode cX7_isGood 79 = .ok (.istore 7, 2) := by decide +kernel
theorem dX7_isGood_81 : decode cX7_isGood 81 = .ok (.iload 4, 2) := by decide +kernel
theorem dX7_isGood_83 : decode cX7_isGood 83 = .ok (.iload 7, 2) := by decide +kernel
theorem dX7_isGood_85 : decode cX7_isGood 85 = .ok (.imul, 1) := by decide +kernel
theorem dX7_isGood_86 : decode cX7_isGood 86 = .ok (.iload 5, 2) := by decide +kernel
theorem dX7_isGood_88 : decode cX7_isGood 88 = .ok (.iload 6, 2) := by decide +kernel
theorem dX7_isGood_90 : decode cX7_isGood 90 = .ok (.imul, 1) := by decide +kernel
theorem dX7_isGood_91 : decode cX7_isGood 91 = .ok (.isub, 1) := by decide +kernel
theorem dX7_isGood_92 : decode cX7_isGood 92 = .ok (.ifCond .ge 5, 3) := by decide +kernel
theorem dX7_isGood_95 : decode cX7_isGood 95 = .ok (.iconst 0, 1) := by decide +kernel
theorem dX7_isGood_96 : decode cX7_isGood 96 = .ok (.ireturn, 1) := by decide +kernel
theorem dX7_isGood_97 : decode cX7_isGood 97 = .ok (.iload_n 2, 1) := by decide +kernel
theorem dX7_isGood_98 : decode cX7_isGood 98 = .ok (.aload_n 0, 1) := by decide +kernel
theorem dX7_isGood_99 : decode cX7_isGood 99 = .ok (.iload_n 1, 1) := by decide +kernel
theorem dX7_isGood_100 : decode cX7_isGood 100 = .ok (.iload_n 3, 1) := by decide +kernel
theorem dX7_isGood_101 : decode cX7_isGood 101 = .ok (.invokevirtual 71, 3) := by decide +kernel
theorem dX7_isGood_104 : decode cX7_isGood 104 = .ok (.aload_n 0, 1) := by decide +kernel
theorem dX7_isGood_105 : decode cX7_isGood 105 = .ok (.iload_n 1, 1) := by decide +kernel
theorem dX7_isGood_106 : decode cX7_isGood 106 = .ok (.iload_n 3, 1) := by decide +kernel
theorem dX7_isGood_107 : decode cX7_isGood 107 = .ok (.iconst 1, 1) := by decide +kernel
theorem dX7_isGood_108 : decode cX7_isGood 108 = .ok (.iadd, 1) := by decide +kernel
theorem dX7_isGood_109 : decode cX7_isGood 109 = .ok (.invokevirtual 74, 3) := by decide +kernel
theorem dX7_isGood_112 : decode cX7_isGood 112 = .ok (.imul, 1) := by decide +kernel
theorem dX7_isGood_113 : decode cX7_isGood 113 = .ok (.aload_n 0, 1) := by decide +kernel
theorem dX7_isGood_114 : decode cX7_isGood 114 = .ok (.iload_n 1, 1) := by decide +kernel
theorem dX7_isGood_115 : decode cX7_isGood 115 = .ok (.iload_n 3, 1) := by decide +kernel
theorem dX7_isGood_116 : decode cX7_isGood 116 = .ok (.invokevirtual 74, 3) := by decide +kernel
theorem dX7_isGood_119 : decode cX7_isGood 119 = .ok (.aload_n 0, 1) := by decide +kernel
theorem dX7_isGood_120 : decode cX7_isGood 120 = .ok (.iload_n 1, 1) := by decide +kernel
theorem dX7_isGood_121 : decode cX7_isGood 121 = .ok (.iload_n 3, 1) := by decide +kernel
theorem dX7_isGood_122 : decode cX7_isGood 122 = .ok (.iconst 1, 1) := by decide +kernel
theorem dX7_isGood_123 : decode cX7_isGood 123 = .ok (.iadd, 1) := by decide +kernel
theorem dX7_isGood_124 : decode cX7_isGood 124 = .ok (.invokevirtual 71, 3) := by decide +kernel
theorem dX7_isGood_127 : decode cX7_isGood 127 = .ok (.imul, 1) := by decide +kernel
theorem dX7_isGood_128 : decode cX7_isGood 128 = .ok (.isub, 1) := by decide +kernel
theorem dX7_isGood_129 : decode cX7_isGood 129 = .ok (.iadd, 1) := by decide +kernel
theorem dX7_isGood_130 : decode cX7_isGood 130 = .ok (.istore_n 2, 1) := by decide +kernel
theorem dX7_isGood_131 : decode cX7_isGood 131 = .ok (.iinc 3 1, 3) := by decide +kernel
theorem dX7_isGood_134 : decode cX7_isGood 134 = .ok (.goto (-130), 3) := by decide +kernel
theorem dX7_isGood_137 : decode cX7_isGood 137 = .ok (.iload_n 2, 1) := by decide +kernel
theorem dX7_isGood_138 : decode cX7_isGood 138 = .ok (.ifCond .le 7, 3) := by decide +kernel
theorem dX7_isGood_141 : decode cX7_isGood 141 = .ok (.iconst 1, 1) := by decide +kernel
theorem dX7_isGood_142 : decode cX7_isGood 142 = .ok (.goto 4, 3) := by decide +kernel
theorem dX7_isGood_145 : decode cX7_isGood 145 = .ok (.iconst 0, 1) := by decide +kernel
theorem dX7_isGood_146 : decode cX7_isGood 146 = .ok (.ireturn, 1) := by decide +kernel
theorem dX7_weightAt_0 : decode cX7_weightAt 0 = .ok (.iconst (-1), 1) := by decide +kernel
theorem dX7_weightAt_1 : decode cX7_weightAt 1 = .ok (.istore 4, 2) := by decide +kernel
theorem dX7_weightAt_3 : decode cX7_weightAt 3 = .ok (.iconst 0, 1) := by decide +kernel
theorem dX7_weightAt_4 : decode cX7_weightAt 4 = .ok (.istore 5, 2) := by decide +kernel
theorem dX7_weightAt_6 : decode cX7_weightAt 6 = .ok (.iload 5, 2) := by decide +kernel
theorem dX7_weightAt_8 : decode cX7_weightAt 8 = .ok (.iconst 4, 1) := by decide +kernel
theorem dX7_weightAt_9 : decode cX7_weightAt 9 = .ok (.if_icmp .ge 136, 3) := by decide +kernel
theorem dX7_weightAt_12 : decode cX7_weightAt 12 = .ok (.aload_n 0, 1) := by decide +kernel
theorem dX7_weightAt_13 : decode cX7_weightAt 13 = .ok (.iload_n 1, 1) := by decide +kernel
theorem dX7_weightAt_14 : decode cX7_weightAt 14 = .ok (.iload 5, 2) := by decide +kernel
theorem dX7_weightAt_16 : decode cX7_weightAt 16 = .ok (.iconst 1, 1) := by decide +kernel
theorem dX7_weightAt_17 : decode cX7_weightAt 17 = .ok (.iadd, 1) := by decide +kernel
theorem dX7_weightAt_18 : decode cX7_weightAt 18 = .ok (.invokevirtual 71, 3) := by decide +kernel
theorem dX7_weightAt_21 : decode cX7_weightAt 21 = .ok (.aload_n 0, 1) := by decide +kernel
theorem dX7_weightAt_22 : decode cX7_weightAt 22 = .ok (.iload_n 1, 1) := by decide +kernel
theorem dX7_weightAt_23 : decode cX7_weightAt 23 = .ok (.iload 5, 2) := by decide +kernel
theorem dX7_weightAt_25 : decode cX7_weightAt 25 = .ok (.invokevirtual 71, 3) := by decide +kernel
theorem dX7_weightAt_28 : decode cX7_weightAt 28 = .ok (.isub, 1) := by decide +kernel
theorem dX7_weightAt_29 : decode cX7_weightAt 29 = .ok (.istore 6, 2) := by decide +kernel
theorem dX7_weightAt_31 : decode cX7_weightAt 31 = .ok (.aload_n 0, 1) := by decide +kernel
theorem dX7_weightAt_32 : decode cX7_weightAt 32 = .ok (.iload_n 1, 1) := by decide +kernel
theorem dX7_weightAt_33 : decode cX7_weightAt 33 = .ok (.iload 5, 2) := by decide +kernel
theorem dX7_weightAt_35 : decode cX7_weightAt 35 = .ok (.iconst 1, 1) := by decide +kernel
theorem dX7_weightAt_36 : decode cX7_weightAt 36 = .ok (.iadd, 1) := by decide +kernel
theorem dX7_weightAt_37 : decode cX7_weightAt 37 = .ok (.invokevirtual 74, 3) := by decide +kernel
theorem dX7_weightAt_40 : decode cX7_weightAt 40 = .ok (.aload_n 0, 1) := by decide +kernel
theorem dX7_weightAt_41 : decode cX7_weightAt 41 = .ok (.iload_n 1, 1) := by decide +kernel
theorem dX7_weightAt_42 : decode cX7_weightAt 42 = .ok (.iload 5, 2) := by decide +kernel
theorem dX7_weightAt_44 : decode cX7_weightAt 44 = .ok (.invokevirtual 74, 3) := by decide +kernel
theorem dX7_weightAt_47 : decode cX7_weightAt 47 = .ok (.isub, 1) := by decide +kernel
theorem dX7_weightAt_48 : decode cX7_weightAt 48 = .ok (.istore 7, 2) := by decide +kernel
theorem dX7_weightAt_50 : decode cX7_weightAt 50 = .ok (.iload 6, 2) := by decide +kernel
theorem dX7_weightAt_52 : decode cX7_weightAt 52 = .ok (.iload_n 3, 1) := by decide +kernel
theorem dX7_weightAt_53 : decode cX7_weightAt 53 = .ok (.aload_n 0, 1) := by decide +kernel
theorem dX7_weightAt_54 : decode cX7_weightAt 54 = .ok (.iload_n 1, 1) := by decide +kernel
theorem dX7_weightAt_55 : decode cX7_weightAt 55 = .ok (.iload 5, 2) := by decide +kernel
theorem dX7_weightAt_57 : decode cX7_weightAt 57 = .ok (.invokevirtual 74, 3) := by decide +kernel
theorem dX7_weightAt_60 : decode cX7_weightAt 60 = .ok (.isub, 1) := by decide +kernel
theorem dX7_weightAt_61 : decode cX7_weightAt 61 = .ok (.imul, 1) := by decide +kernel
theorem dX7_weightAt_62 : decode cX7_weightAt 62 = .ok (.iload 7, 2) := by decide +kernel
theorem dX7_weightAt_64 : decode cX7_weightAt 64 = .ok (.iload_n 2, 1) := by decide +kernel
theorem dX7_weightAt_65 : decode cX7_weightAt 65 = .ok (.aload_n 0, 1) := by decide +kernel
theorem dX7_weightAt_66 : decode cX7_weightAt 66 = .ok (.iload_n 1, 1) := by decide +kernel
theorem dX7_weightAt_67 : decode cX7_weightAt 67 = .ok (.iload 5, 2) := by decide +kernel
theorem dX7_weightAt_69 : decode cX7_weightAt 69 = .ok (.invokevirtual 71, 3) := by decide +kernel
theorem dX7_weightAt_72 : decode cX7_weightAt 72 = .ok (.isub, 1) := by decide +kernel
theorem dX7_weightAt_73 : decode cX7_weightAt 73 = .ok (.imul, 1) := by decide +kernel
theorem dX7_weightAt_74 : decode cX7_weightAt 74 = .ok (.isub, 1) := by decide +kernel
theorem dX7_weightAt_75 : decode cX7_weightAt 75 = .ok (.istore 8, 2) := by decide +kernel
theorem dX7_weightAt_77 : decode cX7_weightAt 77 = .ok (.iload 8, 2) := by decide +kernel
theorem dX7_weightAt_79 : decode cX7_weightAt 79 = .ok (.ifCond .ge 5, 3) := by decide +kernel
theorem dX7_weightAt_82 : decode cX7_weightAt 82 = .ok (.iconst 0, 1) := by decide +kernel
theorem dX7_weightAt_83 : decode cX7_weightAt 83 = .ok (.ireturn, 1) := by decide +kernel
theorem dX7_weightAt_84 : decode cX7_weightAt 84 = .ok (.iload 6, 2) := by decide +kernel
theorem dX7_weightAt_86 : decode cX7_weightAt 86 = .ok (.invokestatic 77, 3) := by decide +kernel
theorem dX7_weightAt_89 : decode cX7_weightAt 89 = .ok (.iload 7, 2) := by decide +kernel
theorem dX7_weightAt_91 : decode cX7_weightAt 91 = .ok (.invokestatic 77, 3) := by decide +kernel
theorem dX7_weightAt_94 : decode cX7_weightAt 94 = .ok (.iadd, 1) := by decide +kernel
theorem dX7_weightAt_95 : decode cX7_weightAt 95 = .ok (.istore 9, 2) := by decide +kernel
theorem dX7_weightAt_97 : decode cX7_weightAt 97 = .ok (.iload 9, 2) := by decide +kernel
theorem dX7_weightAt_99 : decode cX7_weightAt 99 = .ok (.ifCond .ne 7, 3) := by decide +kernel
theorem dX7_weightAt_102 : decode cX7_weightAt 102 = .ok (.iconst (-1), 1) := by decide +kernel
theorem dX7_weightAt_103 : decode cX7_weightAt 103 = .ok (.goto 8, 3) := by decide +kernel
theorem dX7_weightAt_106 : decode cX7_weightAt 106 = .ok (.iload 8, 2) := by decide +kernel
theorem dX7_weightAt_108 : decode cX7_weightAt 108 = .ok (.iload 9, 2) := by decide +kernel
theorem dX7_weightAt_110 : decode cX7_weightAt 110 = .ok (.idiv, 1) := by decide +kernel
theorem dX7_weightAt_111 : decode cX7_weightAt 111 = .ok (.istore 10, 2) := by decide +kernel
theorem dX7_weightAt_113 : decode cX7_weightAt 113 = .ok (.iload 10, 2) := by decide +kernel
theorem dX7_weightAt_115 : decode cX7_weightAt 115 = .ok (.ifCond .lt 20, 3) := by decide +kernel
theorem dX7_weightAt_118 : decode cX7_weightAt 118 = .ok (.iload 4, 2) := by decide +kernel
theorem dX7_weightAt_120 : decode cX7_weightAt 120 = .ok (.ifCond .lt 10, 3) := by decide +kernel
theorem dX7_weightAt_123 : decode cX7_weightAt 123 = .ok (.iload 10, 2) := by decide +kernel
theorem dX7_weightAt_125 : decode cX7_weightAt 125 = .ok (.iload 4, 2) := by decide +kernel
theorem dX7_weightAt_127 : decode cX7_weightAt 127 = .ok (.if_icmp .ge 8, 3) := by decide +kernel
theorem dX7_weightAt_130 : decode cX7_weightAt 130 = .ok (.iload 10, 2) := by decide +kernel
theorem dX7_weightAt_132 : decode cX7_weightAt 132 = .ok (.goto 5, 3) := by decide +kernel
theorem dX7_weightAt_135 : decode cX7_weightAt 135 = .ok (.iload 4, 2) := by decide +kernel
theorem dX7_weightAt_137 : decode cX7_weightAt 137 = .ok (.istore 4, 2) := by decide +kernel
theorem dX7_weightAt_139 : decode cX7_weightAt 139 = .ok (.iinc 5 1, 3) := by decide +kernel
theorem dX7_weightAt_142 : decode cX7_weightAt 142 = .ok (.goto (-136), 3) := by decide +kernel
theorem dX7_weightAt_145 : decode cX7_weightAt 145 = .ok (.iconst 1, 1) := by decide +kernel
theorem dX7_weightAt_146 : decode cX7_weightAt 146 = .ok (.iload 4, 2) := by decide +kernel
theorem dX7_weightAt_148 : decode cX7_weightAt 148 = .ok (.iadd, 1) := by decide +kernel
theorem dX7_weightAt_149 : decode cX7_weightAt 149 = .ok (.ireturn, 1) := by decide +kernel
theorem dX7_weighs_0 : decode cX7_weighs 0 = .ok (.iconst 2, 1) := by decide +kernel
theorem dX7_weighs_1 : decode cX7_weighs 1 = .ok (.iload_n 1, 1) := by decide +kernel
theorem dX7_weighs_2 : decode cX7_weighs 2 = .ok (.aload_n 0, 1) := by decide +kernel
theorem dX7_weighs_3 : decode cX7_weighs 3 = .ok (.getfield 7, 3) := by decide +kernel
theorem dX7_weighs_6 : decode cX7_weighs 6 = .ok (.iconst 2, 1) := by decide +kernel
theorem dX7_weighs_7 : decode cX7_weighs 7 = .ok (.iaload, 1) := by decide +kernel
theorem dX7_weighs_8 : decode cX7_weighs 8 = .ok (.iadd, 1) := by decide +kernel
theorem dX7_weighs_9 : decode cX7_weighs 9 = .ok (.imul, 1) := by decide +kernel
theorem dX7_weighs_10 : decode cX7_weighs 10 = .ok (.iconst 1, 1) := by decide +kernel
theorem dX7_weighs_11 : decode cX7_weighs 11 = .ok (.iadd, 1) := by decide +kernel
theorem dX7_weighs_12 : decode cX7_weighs 12 = .ok (.istore_n 3, 1) := by decide +kernel
theorem dX7_weighs_13 : decode cX7_weighs 13 = .ok (.iconst 2, 1) := by decide +kernel
theorem dX7_weighs_14 : decode cX7_weighs 14 = .ok (.iload_n 2, 1) := by decide +kernel
theorem dX7_weighs_15 : decode cX7_weighs 15 = .ok (.aload_n 0, 1) := by decide +kernel
theorem dX7_weighs_16 : decode cX7_weighs 16 = .ok (.getfield 7, 3) := by decide +kernel
theorem dX7_weighs_19 : decode cX7_weighs 19 = .ok (.iconst 3, 1) := by decide +kernel
theorem dX7_weighs_20 : decode cX7_weighs 20 = .ok (.iaload, 1) := by decide +kernel
theorem dX7_weighs_21 : decode cX7_weighs 21 = .ok (.iadd, 1) := by decide +kernel
theorem dX7_weighs_22 : decode cX7_weighs 22 = .ok (.imul, 1) := by decide +kernel
theorem dX7_weighs_23 : decode cX7_weighs 23 = .ok (.iconst 1, 1) := by decide +kernel
theorem dX7_weighs_24 : decode cX7_weighs 24 = .ok (.iadd, 1) := by decide +kernel
theorem dX7_weighs_25 : decode cX7_weighs 25 = .ok (.istore 4, 2) := by decide +kernel
theorem dX7_weighs_27 : decode cX7_weighs 27 = .ok (.aload_n 0, 1) := by decide +kernel
theorem dX7_weighs_28 : decode cX7_weighs 28 = .ok (.iconst 0, 1) := by decide +kernel
theorem dX7_weighs_29 : decode cX7_weighs 29 = .ok (.putfield 80, 3) := by decide +kernel
theorem dX7_weighs_32 : decode cX7_weighs 32 = .ok (.iconst 0, 1) := by decide +kernel
theorem dX7_weighs_33 : decode cX7_weighs 33 = .ok (.istore 5, 2) := by decide +kernel
theorem dX7_weighs_35 : decode cX7_weighs 35 = .ok (.iload 5, 2) := by decide +kernel
theorem dX7_weighs_37 : decode cX7_weighs 37 = .ok (.aload_n 0, 1) := by decide +kernel
theorem dX7_weighs_38 : decode cX7_weighs 38 = .ok (.getfield 7, 3) := by decide +kernel
theorem dX7_weighs_41 : decode cX7_weighs 41 = .ok (.iconst 4, 1) := by decide +kernel
theorem dX7_weighs_42 : decode cX7_weighs 42 = .ok (.iaload, 1) := by decide +kernel
theorem dX7_weighs_43 : decode cX7_weighs 43 = .ok (.if_icmp .ge 98, 3) := by decide +kernel
theorem dX7_weighs_46 : decode cX7_weighs 46 = .ok (.aload_n 0, 1) := by decide +kernel
theorem dX7_weighs_47 : decode cX7_weighs 47 = .ok (.iload 5, 2) := by decide +kernel
theorem dX7_weighs_49 : decode cX7_weighs 49 = .ok (.bipush 11, 2) := by decide +kernel
theorem dX7_weighs_51 : decode cX7_weighs 51 = .ok (.invokevirtual 61, 3) := by decide +kernel
theorem dX7_weighs_54 : decode cX7_weighs 54 = .ok (.iconst 1, 1) := by decide +kernel
theorem dX7_weighs_55 : decode cX7_weighs 55 = .ok (.if_icmp .ne 25, 3) := by decide +kernel
theorem dX7_weighs_58 : decode cX7_weighs 58 = .ok (.iload 5, 2) := by decide +kernel
theorem dX7_weighs_60 : decode cX7_weighs 60 = .ok (.aload_n 0, 1) := by decide +kernel
theorem dX7_weighs_61 : decode cX7_weighs 61 = .ok (.getfield 22, 3) := by decide +kernel
theorem dX7_weighs_64 : decode cX7_weighs 64 = .ok (.if_icmp .eq 16, 3) := by decide +kernel
theorem dX7_weighs_67 : decode cX7_weighs 67 = .ok (.aload_n 0, 1) := by decide +kernel
theorem dX7_weighs_68 : decode cX7_weighs 68 = .ok (.iload 5, 2) := by decide +kernel
theorem dX7_weighs_70 : decode cX7_weighs 70 = .ok (.invokevirtual 83, 3) := by decide +kernel
theorem dX7_weighs_73 : decode cX7_weighs 73 = .ok (.ifCond .eq 7, 3) := by decide +kernel
theorem dX7_weighs_76 : decode cX7_weighs 76 = .ok (.iconst 1, 1) := by decide +kernel
theorem dX7_weighs_77 : decode cX7_weighs 77 = .ok (.goto 4, 3) := by decide +kernel
theorem dX7_weighs_80 : decode cX7_weighs 80 = .ok (.iconst 0, 1) := by decide +kernel
theorem dX7_weighs_81 : decode cX7_weighs 81 = .ok (.istore 6, 2) := by decide +kernel
theorem dX7_weighs_83 : decode cX7_weighs 83 = .ok (.aload_n 0, 1) := by decide +kernel
theorem dX7_weighs_84 : decode cX7_weighs 84 = .ok (.getfield 26, 3) := by decide +kernel
theorem dX7_weighs_87 : decode cX7_weighs 87 = .ok (.iload 5, 2) := by decide +kernel
theorem dX7_weighs_89 : decode cX7_weighs 89 = .ok (.iload 6, 2) := by decide +kernel
theorem dX7_weighs_91 : decode cX7_weighs 91 = .ok (.ifCond .eq 15, 3) := by decide +kernel
theorem dX7_weighs_94 : decode cX7_weighs 94 = .ok (.aload_n 0, 1) := by decide +kernel
theorem dX7_weighs_95 : decode cX7_weighs 95 = .ok (.iload 5, 2) := by decide +kernel
theorem dX7_weighs_97 : decode cX7_weighs 97 = .ok (.iload_n 3, 1) := by decide +kernel
theorem dX7_weighs_98 : decode cX7_weighs 98 = .ok (.iload 4, 2) := by decide +kernel
theorem dX7_weighs_100 : decode cX7_weighs 100 = .ok (.invokevirtual 87, 3) := by decide +kernel
theorem dX7_weighs_103 : decode cX7_weighs 103 = .ok (.goto 4, 3) := by decide +kernel
theorem dX7_weighs_106 : decode cX7_weighs 106 = .ok (.iconst 0, 1) := by decide +kernel
theorem dX7_weighs_107 : decode cX7_weighs 107 = .ok (.iastore, 1) := by decide +kernel
theorem dX7_weighs_108 : decode cX7_weighs 108 = .ok (.aload_n 0, 1) := by decide +kernel
theorem dX7_weighs_109 : decode cX7_weighs 109 = .ok (.dup, 1) := by decide +kernel
theorem dX7_weighs_110 : decode cX7_weighs 110 = .ok (.getfield 80, 3) := by decide +kernel
theorem dX7_weighs_113 : decode cX7_weighs 113 = .ok (.aload_n 0, 1) := by decide +kernel
theorem dX7_weighs_114 : decode cX7_weighs 114 = .ok (.getfield 26, 3) := by decide +kernel
theorem dX7_weighs_117 : decode cX7_weighs 117 = .ok (.iload 5, 2) := by decide +kernel
theorem dX7_weighs_119 : decode cX7_weighs 119 = .ok (.iaload, 1) := by decide +kernel
theorem dX7_weighs_120 : decode cX7_weighs 120 = .ok (.ifCond .le 10, 3) := by decide +kernel
theorem dX7_weighs_123 : decode cX7_weighs 123 = .ok (.iconst 1, 1) := by decide +kernel
theorem dX7_weighs_124 : decode cX7_weighs 124 = .ok (.iload 5, 2) := by decide +kernel
theorem dX7_weighs_126 : decode cX7_weighs 126 = .ok (.ishl, 1) := by decide +kernel
theorem dX7_weighs_127 : decode cX7_weighs 127 = .ok (.goto 4, 3) := by decide +kernel
theorem dX7_weighs_130 : decode cX7_weighs 130 = .ok (.iconst 0, 1) := by decide +kernel
theorem dX7_weighs_131 : decode cX7_weighs 131 = .ok (.ior, 1) := by decide +kernel
theorem dX7_weighs_132 : decode cX7_weighs 132 = .ok (.putfield 80, 3) := by decide +kernel
theorem dX7_weighs_135 : decode cX7_weighs 135 = .ok (.iinc 5 1, 3) := by decide +kernel
theorem dX7_weighs_138 : decode cX7_weighs 138 = .ok (.goto (-103), 3) := by decide +kernel
theorem dX7_weighs_141 : decode cX7_weighs 141 = .ok (.return_, 1) := by decide +kernel
theorem dX7_isOn_0 : decode cX7_isOn 0 = .ok (.aload_n 0, 1) := by decide +kernel
theorem dX7_isOn_1 : decode cX7_isOn 1 = .ok (.getfield 80, 3) := by decide +kernel
theorem dX7_isOn_4 : decode cX7_isOn 4 = .ok (.iload_n 1, 1) := by decide +kernel
theorem dX7_isOn_5 : decode cX7_isOn 5 = .ok (.ishr, 1) := by decide +kernel
theorem dX7_isOn_6 : decode cX7_isOn 6 = .ok (.iconst 1, 1) := by decide +kernel
theorem dX7_isOn_7 : decode cX7_isOn 7 = .ok (.iand, 1) := by decide +kernel
theorem dX7_isOn_8 : decode cX7_isOn 8 = .ok (.iconst 1, 1) := by decide +kernel
theorem dX7_isOn_9 : decode cX7_isOn 9 = .ok (.if_icmp .ne 7, 3) := by decide +kernel
theorem dX7_isOn_12 : decode cX7_isOn 12 = .ok (.iconst 1, 1) := by decide +kernel
theorem dX7_isOn_13 : decode cX7_isOn 13 = .ok (.goto 4, 3) := by decide +kernel
theorem dX7_isOn_16 : decode cX7_isOn 16 = .ok (.iconst 0, 1) := by decide +kernel
theorem dX7_isOn_17 : decode cX7_isOn 17 = .ok (.ireturn, 1) := by decide +kernel
theorem dX7_shares_0 : decode cX7_shares 0 = .ok (.iconst 0, 1) := by decide +kernel
theorem dX7_shares_1 : decode cX7_shares 1 = .ok (.istore_n 2, 1) := by decide +kernel
theorem dX7_shares_2 : decode cX7_shares 2 = .ok (.iconst (-1), 1) := by decide +kernel
theorem dX7_shares_3 : decode cX7_shares 3 = .ok (.istore_n 3, 1) := by decide +kernel
theorem dX7_shares_4 : decode cX7_shares 4 = .ok (.iconst 0, 1) := by decide +kernel
theorem dX7_shares_5 : decode cX7_shares 5 = .ok (.istore 4, 2) := by decide +kernel
theorem dX7_shares_7 : decode cX7_shares 7 = .ok (.iload 4, 2) := by decide +kernel
theorem dX7_shares_9 : decode cX7_shares 9 = .ok (.aload_n 0, 1) := by decide +kernel
theorem dX7_shares_10 : decode cX7_shares 10 = .ok (.getfield 7, 3) := by decide +kernel
theorem dX7_shares_13 : decode cX7_shares 13 = .ok (.iconst 4, 1) := by decide +kernel
theorem dX7_shares_14 : decode cX7_shares 14 = .ok (.iaload, 1) := by decide +kernel
theorem dX7_shares_15 : decode cX7_shares 15 = .ok (.if_icmp .ge 55, 3) := by decide +kernel
theorem dX7_shares_18 : decode cX7_shares 18 = .ok (.iload_n 2, 1) := by decide +kernel
theorem dX7_shares_19 : decode cX7_shares 19 = .ok (.aload_n 0, 1) := by decide +kernel
theorem dX7_shares_20 : decode cX7_shares 20 = .ok (.getfield 26, 3) := by decide +kernel
theorem dX7_shares_23 : decode cX7_shares 23 = .ok (.iload 4, 2) := by decide +kernel
theorem dX7_shares_25 : decode cX7_shares 25 = .ok (.iaload, 1) := by decide +kernel
theorem dX7_shares_26 : decode cX7_shares 26 = .ok (.iadd, 1) := by decide +kernel
theorem dX7_shares_27 : decode cX7_shares 27 = .ok (.istore_n 2, 1) := by decide +kernel
theorem dX7_shares_28 : decode cX7_shares 28 = .ok (.aload_n 0, 1) := by decide +kernel
theorem dX7_shares_29 : decode cX7_shares 29 = .ok (.iload 4, 2) := by decide +kernel
theorem dX7_shares_31 : decode cX7_shares 31 = .ok (.invokevirtual 91, 3) := by decide +kernel
theorem dX7_shares_34 : decode cX7_shares 34 = .ok (.ifCond .eq 28, 3) := by decide +kernel
theorem dX7_shares_37 : decode cX7_shares 37 = .ok (.iload_n 3, 1) := by decide +kernel
theorem dX7_shares_38 : decode cX7_shares 38 = .ok (.ifCond .lt 19, 3) := by decide +kernel
theorem dX7_shares_41 : decode cX7_shares 41 = .ok (.aload_n 0, 1) := by decide +kernel
theorem dX7_shares_42 : decode cX7_shares 42 = .ok (.getfield 26, 3) := by decide +kernel
theorem dX7_shares_45 : decode cX7_shares 45 = .ok (.iload 4, 2) := by decide +kernel
theorem dX7_shares_47 : decode cX7_shares 47 = .ok (.iaload, 1) := by decide +kernel
theorem dX7_shares_48 : decode cX7_shares 48 = .ok (.aload_n 0, 1) := by decide +kernel
theorem dX7_shares_49 : decode cX7_shares 49 = .ok (.getfield 26, 3) := by decide +kernel
theorem dX7_shares_52 : decode cX7_shares 52 = .ok (.iload_n 3, 1) := by decide +kernel
theorem dX7_shares_53 : decode cX7_shares 53 = .ok (.iaload, 1) := by decide +kernel
theorem dX7_shares_54 : decode cX7_shares 54 = .ok (.if_icmp .le 8, 3) := by decide +kernel
theorem dX7_shares_57 : decode cX7_shares 57 = .ok (.iload 4, 2) := by decide +kernel
theorem dX7_shares_59 : decode cX7_shares 59 = .ok (.goto 4, 3) := by decide +kernel
theorem dX7_shares_62 : decode cX7_shares 62 = .ok (.iload_n 3, 1) := by decide +kernel
theorem dX7_shares_63 : decode cX7_shares 63 = .ok (.istore_n 3, 1) := by decide +kernel
theorem dX7_shares_64 : decode cX7_shares 64 = .ok (.iinc 4 1, 3) := by decide +kernel
theorem dX7_shares_67 : decode cX7_shares 67 = .ok (.goto (-60), 3) := by decide +kernel
theorem dX7_shares_70 : decode cX7_shares 70 = .ok (.iload_n 1, 1) := by decide +kernel
theorem dX7_shares_71 : decode cX7_shares 71 = .ok (.istore 4, 2) := by decide +kernel
theorem dX7_shares_73 : decode cX7_shares 73 = .ok (.iconst 0, 1) := by decide +kernel
theorem dX7_shares_74 : decode cX7_shares 74 = .ok (.istore 5, 2) := by decide +kernel
theorem dX7_shares_76 : decode cX7_shares 76 = .ok (.iload 5, 2) := by decide +kernel
theorem dX7_shares_78 : decode cX7_shares 78 = .ok (.aload_n 0, 1) := by decide +kernel
theorem dX7_shares_79 : decode cX7_shares 79 = .ok (.getfield 7, 3) := by decide +kernel
theorem dX7_shares_82 : decode cX7_shares 82 = .ok (.iconst 4, 1) := by decide +kernel
theorem dX7_shares_83 : decode cX7_shares 83 = .ok (.iaload, 1) := by decide +kernel
theorem dX7_shares_84 : decode cX7_shares 84 = .ok (.if_icmp .ge 52, 3) := by decide +kernel
theorem dX7_shares_87 : decode cX7_shares 87 = .ok (.aload_n 0, 1) := by decide +kernel
theorem dX7_shares_88 : decode cX7_shares 88 = .ok (.getfield 29, 3) := by decide +kernel
theorem dX7_shares_91 : decode cX7_shares 91 = .ok (.iload 5, 2) := by decide +kernel
theorem dX7_shares_93 : decode cX7_shares 93 = .ok (.aload_n 0, 1) := by decide +kernel
theorem dX7_shares_94 : decode cX7_shares 94 = .ok (.iload 5, 2) := by decide +kernel
theorem dX7_shares_96 : decode cX7_shares 96 = .ok (.invokevirtual 91, 3) := by decide +kernel
theorem dX7_shares_99 : decode cX7_shares 99 = .ok (.ifCond .eq 17, 3) := by decide +kernel
theorem dX7_shares_102 : decode cX7_shares 102 = .ok (.iload_n 1, 1) := by decide +kernel
theorem dX7_shares_103 : decode cX7_shares 103 = .ok (.aload_n 0, 1) := by decide +kernel
theorem dX7_shares_104 : decode cX7_shares 104 = .ok (.getfield 26, 3) := by decide +kernel
theorem dX7_shares_107 : decode cX7_shares 107 = .ok (.iload 5, 2) := by decide +kernel
theorem dX7_shares_109 : decode cX7_shares 109 = .ok (.iaload, 1) := by decide +kernel
theorem dX7_shares_110 : decode cX7_shares 110 = .ok (.imul, 1) := by decide +kernel
theorem dX7_shares_111 : decode cX7_shares 111 = .ok (.iload_n 2, 1) := by decide +kernel
theorem dX7_shares_112 : decode cX7_shares 112 = .ok (.idiv, 1) := by decide +kernel
theorem dX7_shares_113 : decode cX7_shares 113 = .ok (.goto 4, 3) := by decide +kernel
theorem dX7_shares_116 : decode cX7_shares 116 = .ok (.iconst 0, 1) := by decide +kernel
theorem dX7_shares_117 : decode cX7_shares 117 = .ok (.iastore, 1) := by decide +kernel
theorem dX7_shares_118 : decode cX7_shares 118 = .ok (.iload 4, 2) := by decide +kernel
theorem dX7_shares_120 : decode cX7_shares 120 = .ok (.aload_n 0, 1) := by decide +kernel
theorem dX7_shares_121 : decode cX7_shares 121 = .ok (.getfield 29, 3) := by decide +kernel
theorem dX7_shares_124 : decode cX7_shares 124 = .ok (.iload 5, 2) := by decide +kernel
theorem dX7_shares_126 : decode cX7_shares 126 = .ok (.iaload, 1) := by decide +kernel
theorem dX7_shares_127 : decode cX7_shares 127 = .ok (.isub, 1) := by decide +kernel
theorem dX7_shares_128 : decode cX7_shares 128 = .ok (.istore 4, 2) := by decide +kernel
theorem dX7_shares_130 : decode cX7_shares 130 = .ok (.iinc 5 1, 3) := by decide +kernel
theorem dX7_shares_133 : decode cX7_shares 133 = .ok (.goto (-57), 3) := by decide +kernel
theorem dX7_shares_136 : decode cX7_shares 136 = .ok (.iload_n 3, 1) := by decide +kernel
theorem dX7_shares_137 : decode cX7_shares 137 = .ok (.ifCond .lt 14, 3) := by decide +kernel
theorem dX7_shares_140 : decode cX7_shares 140 = .ok (.aload_n 0, 1) := by decide +kernel
theorem dX7_shares_141 : decode cX7_shares 141 = .ok (.getfield 29, 3) := by decide +kernel
theorem dX7_shares_144 : decode cX7_shares 144 = .ok (.iload_n 3, 1) := by decide +kernel
theorem dX7_shares_145 : decode cX7_shares 145 = .ok (.dup2, 1) := by decide +kernel
theorem dX7_shares_146 : decode cX7_shares 146 = .ok (.iaload, 1) := by decide +kernel
theorem dX7_shares_147 : decode cX7_shares 147 = .ok (.iload 4, 2) := by decide +kernel
theorem dX7_shares_149 : decode cX7_shares 149 = .ok (.iadd, 1) := by decide +kernel
theorem dX7_shares_150 : decode cX7_shares 150 = .ok (.iastore, 1) := by decide +kernel
theorem dX7_shares_151 : decode cX7_shares 151 = .ok (.return_, 1) := by decide +kernel
theorem dX7_sumOfLights_0 : decode cX7_sumOfLights 0 = .ok (.iconst 0, 1) := by decide +kernel
theorem dX7_sumOfLights_1 : decode cX7_sumOfLights 1 = .ok (.istore_n 1, 1) := by decide +kernel
theorem dX7_sumOfLights_2 : decode cX7_sumOfLights 2 = .ok (.iconst 0, 1) := by decide +kernel
theorem dX7_sumOfLights_3 : decode cX7_sumOfLights 3 = .ok (.istore_n 2, 1) := by decide +kernel
theorem dX7_sumOfLights_4 : decode cX7_sumOfLights 4 = .ok (.iload_n 2, 1) := by decide +kernel
theorem dX7_sumOfLights_5 : decode cX7_sumOfLights 5 = .ok (.aload_n 0, 1) := by decide +kernel
theorem dX7_sumOfLights_6 : decode cX7_sumOfLights 6 = .ok (.getfield 7, 3) := by decide +kernel
theorem dX7_sumOfLights_9 : decode cX7_sumOfLights 9 = .ok (.iconst 4, 1) := by decide +kernel
theorem dX7_sumOfLights_10 : decode cX7_sumOfLights 10 = .ok (.iaload, 1) := by decide +kernel
theorem dX7_sumOfLights_11 : decode cX7_sumOfLights 11 = .ok (.if_icmp .ge 18, 3) := by decide +kernel
theorem dX7_sumOfLights_14 : decode cX7_sumOfLights 14 = .ok (.iload_n 1, 1) := by decide +kernel
theorem dX7_sumOfLights_15 : decode cX7_sumOfLights 15 = .ok (.aload_n 0, 1) := by decide +kernel
theorem dX7_sumOfLights_16 : decode cX7_sumOfLights 16 = .ok (.getfield 29, 3) := by decide +kernel
theorem dX7_sumOfLights_19 : decode cX7_sumOfLights 19 = .ok (.iload_n 2, 1) := by decide +kernel
theorem dX7_sumOfLights_20 : decode cX7_sumOfLights 20 = .ok (.iaload, 1) := by decide +kernel
theorem dX7_sumOfLights_21 : decode cX7_sumOfLights 21 = .ok (.iadd, 1) := by decide +kernel
theorem dX7_sumOfLights_22 : decode cX7_sumOfLights 22 = .ok (.istore_n 1, 1) := by decide +kernel
theorem dX7_sumOfLights_23 : decode cX7_sumOfLights 23 = .ok (.iinc 2 1, 3) := by decide +kernel
theorem dX7_sumOfLights_26 : decode cX7_sumOfLights 26 = .ok (.goto (-22), 3) := by decide +kernel
theorem dX7_sumOfLights_29 : decode cX7_sumOfLights 29 = .ok (.iload_n 1, 1) := by decide +kernel
theorem dX7_sumOfLights_30 : decode cX7_sumOfLights 30 = .ok (.ireturn, 1) := by decide +kernel
theorem dX7_shines_0 : decode cX7_shines 0 = .ok (.aload_n 0, 1) := by decide +kernel
theorem dX7_shines_1 : decode cX7_shines 1 = .ok (.iload_n 1, 1) := by decide +kernel
theorem dX7_shines_2 : decode cX7_shines 2 = .ok (.iload_n 2, 1) := by decide +kernel
theorem dX7_shines_3 : decode cX7_shines 3 = .ok (.invokevirtual 94, 3) := by decide +kernel
theorem dX7_shines_6 : decode cX7_shines 6 = .ok (.istore_n 3, 1) := by decide +kernel
theorem dX7_shines_7 : decode cX7_shines 7 = .ok (.aload_n 0, 1) := by decide +kernel
theorem dX7_shines_8 : decode cX7_shines 8 = .ok (.iload_n 1, 1) := by decide +kernel
theorem dX7_shines_9 : decode cX7_shines 9 = .ok (.iload_n 2, 1) := by decide +kernel
theorem dX7_shines_10 : decode cX7_shines 10 = .ok (.invokevirtual 97, 3) := by decide +kernel
theorem dX7_shines_13 : decode cX7_shines 13 = .ok (.aload_n 0, 1) := by decide +kernel
theorem dX7_shines_14 : decode cX7_shines 14 = .ok (.iload_n 3, 1) := by decide +kernel
theorem dX7_shines_15 : decode cX7_shines 15 = .ok (.invokevirtual 101, 3) := by decide +kernel
theorem dX7_shines_18 : decode cX7_shines 18 = .ok (.iconst 0, 1) := by decide +kernel
theorem dX7_shines_19 : decode cX7_shines 19 = .ok (.istore 4, 2) := by decide +kernel
theorem dX7_shines_21 : decode cX7_shines 21 = .ok (.iload 4, 2) := by decide +kernel
theorem dX7_shines_23 : decode cX7_shines 23 = .ok (.aload_n 0, 1) := by decide +kernel
theorem dX7_shines_24 : decode cX7_shines 24 = .ok (.getfield 7, 3) := by decide +kernel
theorem dX7_shines_27 : decode cX7_shines 27 = .ok (.iconst 4, 1) := by decide +kernel
theorem dX7_shines_28 : decode cX7_shines 28 = .ok (.iaload, 1) := by decide +kernel
theorem dX7_shines_29 : decode cX7_shines 29 = .ok (.if_icmp .ge 81, 3) := by decide +kernel
theorem dX7_shines_32 : decode cX7_shines 32 = .ok (.aload_n 0, 1) := by decide +kernel
theorem dX7_shines_33 : decode cX7_shines 33 = .ok (.iload 4, 2) := by decide +kernel
theorem dX7_shines_35 : decode cX7_shines 35 = .ok (.invokevirtual 91, 3) := by decide +kernel
theorem dX7_shines_38 : decode cX7_shines 38 = .ok (.ifCond .eq 66, 3) := by decide +kernel
theorem dX7_shines_41 : decode cX7_shines 41 = .ok (.aload_n 0, 1) := by decide +kernel
theorem dX7_shines_42 : decode cX7_shines 42 = .ok (.getfield 29, 3) := by decide +kernel
theorem dX7_shines_45 : decode cX7_shines 45 = .ok (.iload 4, 2) := by decide +kernel
theorem dX7_shines_47 : decode cX7_shines 47 = .ok (.iaload, 1) := by decide +kernel
theorem dX7_shines_48 : decode cX7_shines 48 = .ok (.aload_n 0, 1) := by decide +kernel
theorem dX7_shines_49 : decode cX7_shines 49 = .ok (.iload 4, 2) := by decide +kernel
theorem dX7_shines_51 : decode cX7_shines 51 = .ok (.invokevirtual 65, 3) := by decide +kernel
theorem dX7_shines_54 : decode cX7_shines 54 = .ok (.if_icmp .le 12, 3) := by decide +kernel
theorem dX7_shines_57 : decode cX7_shines 57 = .ok (.aload_n 0, 1) := by decide +kernel
theorem dX7_shines_58 : decode cX7_shines 58 = .ok (.iload 4, 2) := by decide +kernel
theorem dX7_shines_60 : decode cX7_shines 60 = .ok (.invokevirtual 65, 3) := by decide +kernel
theorem dX7_shines_63 : decode cX7_shines 63 = .ok (.goto 10, 3) := by decide +kernel
theorem dX7_shines_66 : decode cX7_shines 66 = .ok (.aload_n 0, 1) := by decide +kernel
theorem dX7_shines_67 : decode cX7_shines 67 = .ok (.getfield 29, 3) := by decide +kernel
theorem dX7_shines_70 : decode cX7_shines 70 = .ok (.iload 4, 2) := by decide +kernel
theorem dX7_shines_72 : decode cX7_shines 72 = .ok (.iaload, 1) := by decide +kernel
theorem dX7_shines_73 : decode cX7_shines 73 = .ok (.istore 5, 2) := by decide +kernel
theorem dX7_shines_75 : decode cX7_shines 75 = .ok (.aload_n 0, 1) := by decide +kernel
theorem dX7_shines_76 : decode cX7_shines 76 = .ok (.getfield 29, 3) := by decide +kernel
theorem dX7_shines_79 : decode cX7_shines 79 = .ok (.iload 4, 2) := by decide +kernel
theorem dX7_shines_81 : decode cX7_shines 81 = .ok (.iload 5, 2) := by decide +kernel
theorem dX7_shines_83 : decode cX7_shines 83 = .ok (.aload_n 0, 1) := by decide +kernel
theorem dX7_shines_84 : decode cX7_shines 84 = .ok (.iload 4, 2) := by decide +kernel
theorem dX7_shines_86 : decode cX7_shines 86 = .ok (.invokevirtual 105, 3) := by decide +kernel
theorem dX7_shines_89 : decode cX7_shines 89 = .ok (.if_icmp .ge 12, 3) := by decide +kernel
theorem dX7_shines_92 : decode cX7_shines 92 = .ok (.aload_n 0, 1) := by decide +kernel
theorem dX7_shines_93 : decode cX7_shines 93 = .ok (.iload 4, 2) := by decide +kernel
theorem dX7_shines_95 : decode cX7_shines 95 = .ok (.invokevirtual 105, 3) := by decide +kernel
theorem dX7_shines_98 : decode cX7_shines 98 = .ok (.goto 5, 3) := by decide +kernel
theorem dX7_shines_101 : decode cX7_shines 101 = .ok (.iload 5, 2) := by decide +kernel
theorem dX7_shines_103 : decode cX7_shines 103 = .ok (.iastore, 1) := by decide +kernel
theorem dX7_shines_104 : decode cX7_shines 104 = .ok (.iinc 4 1, 3) := by decide +kernel
theorem dX7_shines_107 : decode cX7_shines 107 = .ok (.goto (-86), 3) := by decide +kernel
theorem dX7_shines_110 : decode cX7_shines 110 = .ok (.iload_n 3, 1) := by decide +kernel
theorem dX7_shines_111 : decode cX7_shines 111 = .ok (.aload_n 0, 1) := by decide +kernel
theorem dX7_shines_112 : decode cX7_shines 112 = .ok (.invokevirtual 108, 3) := by decide +kernel
theorem dX7_shines_115 : decode cX7_shines 115 = .ok (.isub, 1) := by decide +kernel
theorem dX7_shines_116 : decode cX7_shines 116 = .ok (.istore 4, 2) := by decide +kernel
theorem dX7_shines_118 : decode cX7_shines 118 = .ok (.iconst 0, 1) := by decide +kernel
theorem dX7_shines_119 : decode cX7_shines 119 = .ok (.istore 5, 2) := by decide +kernel
theorem dX7_shines_121 : decode cX7_shines 121 = .ok (.iload 5, 2) := by decide +kernel
theorem dX7_shines_123 : decode cX7_shines 123 = .ok (.aload_n 0, 1) := by decide +kernel
theorem dX7_shines_124 : decode cX7_shines 124 = .ok (.getfield 7, 3) := by decide +kernel
theorem dX7_shines_127 : decode cX7_shines 127 = .ok (.iconst 4, 1) := by decide +kernel
theorem dX7_shines_128 : decode cX7_shines 128 = .ok (.iaload, 1) := by decide +kernel
theorem dX7_shines_129 : decode cX7_shines 129 = .ok (.if_icmp .ge 87, 3) := by decide +kernel
theorem dX7_shines_132 : decode cX7_shines 132 = .ok (.aload_n 0, 1) := by decide +kernel
theorem dX7_shines_133 : decode cX7_shines 133 = .ok (.iload 5, 2) := by decide +kernel
theorem dX7_shines_135 : decode cX7_shines 135 = .ok (.invokevirtual 91, 3) := by decide +kernel
theorem dX7_shines_138 : decode cX7_shines 138 = .ok (.ifCond .eq 72, 3) := by decide +kernel
theorem dX7_shines_141 : decode cX7_shines 141 = .ok (.iload 4, 2) := by decide +kernel
theorem dX7_shines_143 : decode cX7_shines 143 = .ok (.ifCond .le 25, 3) := by decide +kernel
theorem dX7_shines_146 : decode cX7_shines 146 = .ok (.iload 4, 2) := by decide +kernel
theorem dX7_shines_148 : decode cX7_shines 148 = .ok (.aload_n 0, 1) := by decide +kernel
theorem dX7_shines_149 : decode cX7_shines 149 = .ok (.iload 5, 2) := by decide +kernel
theorem dX7_shines_151 : decode cX7_shines 151 = .ok (.invokevirtual 65, 3) := by decide +kernel
theorem dX7_shines_154 : decode cX7_shines 154 = .ok (.aload_n 0, 1) := by decide +kernel
theorem dX7_shines_155 : decode cX7_shines 155 = .ok (.getfield 29, 3) := by decide +kernel
theorem dX7_shines_158 : decode cX7_shines 158 = .ok (.iload 5, 2) := by decide +kernel
theorem dX7_shines_160 : decode cX7_shines 160 = .ok (.iaload, 1) := by decide +kernel
theorem dX7_shines_161 : decode cX7_shines 161 = .ok (.isub, 1) := by decide +kernel
theorem dX7_shines_162 : decode cX7_shines 162 = .ok (.invokestatic 68, 3) := by decide +kernel
theorem dX7_shines_165 : decode cX7_shines 165 = .ok (.goto 24, 3) := by decide +kernel
theorem dX7_shines_168 : decode cX7_shines 168 = .ok (.iload 4, 2) := by decide +kernel
theorem dX7_shines_170 : decode cX7_shines 170 = .ok (.ineg, 1) := by decide +kernel
theorem dX7_shines_171 : decode cX7_shines 171 = .ok (.aload_n 0, 1) := by decide +kernel
theorem dX7_shines_172 : decode cX7_shines 172 = .ok (.getfield 29, 3) := by decide +kernel
theorem dX7_shines_175 : decode cX7_shines 175 = .ok (.iload 5, 2) := by decide +kernel
theorem dX7_shines_177 : decode cX7_shines 177 = .ok (.iaload, 1) := by decide +kernel
theorem dX7_shines_178 : decode cX7_shines 178 = .ok (.aload_n 0, 1) := by decide +kernel
theorem dX7_shines_179 : decode cX7_shines 179 = .ok (.iload 5, 2) := by decide +kernel
theorem dX7_shines_181 : decode cX7_shines 181 = .ok (.invokevirtual 105, 3) := by decide +kernel
theorem dX7_shines_184 : decode cX7_shines 184 = .ok (.isub, 1) := by decide +kernel
theorem dX7_shines_185 : decode cX7_shines 185 = .ok (.invokestatic 68, 3) := by decide +kernel
theorem dX7_shines_188 : decode cX7_shines 188 = .ok (.ineg, 1) := by decide +kernel
theorem dX7_shines_189 : decode cX7_shines 189 = .ok (.istore 6, 2) := by decide +kernel
theorem dX7_shines_191 : decode cX7_shines 191 = .ok (.aload_n 0, 1) := by decide +kernel
theorem dX7_shines_192 : decode cX7_shines 192 = .ok (.getfield 29, 3) := by decide +kernel
theorem dX7_shines_195 : decode cX7_shines 195 = .ok (.iload 5, 2) := by decide +kernel
theorem dX7_shines_197 : decode cX7_shines 197 = .ok (.dup2, 1) := by decide +kernel
theorem dX7_shines_198 : decode cX7_shines 198 = .ok (.iaload, 1) := by decide +kernel
theorem dX7_shines_199 : decode cX7_shines 199 = .ok (.iload 6, 2) := by decide +kernel
theorem dX7_shines_201 : decode cX7_shines 201 = .ok (.iadd, 1) := by decide +kernel
theorem dX7_shines_202 : decode cX7_shines 202 = .ok (.iastore, 1) := by decide +kernel
theorem dX7_shines_203 : decode cX7_shines 203 = .ok (.iload 4, 2) := by decide +kernel
theorem dX7_shines_205 : decode cX7_shines 205 = .ok (.iload 6, 2) := by decide +kernel
theorem dX7_shines_207 : decode cX7_shines 207 = .ok (.isub, 1) := by decide +kernel
theorem dX7_shines_208 : decode cX7_shines 208 = .ok (.istore 4, 2) := by decide +kernel
theorem dX7_shines_210 : decode cX7_shines 210 = .ok (.iinc 5 1, 3) := by decide +kernel
theorem dX7_shines_213 : decode cX7_shines 213 = .ok (.goto (-92), 3) := by decide +kernel
theorem dX7_shines_216 : decode cX7_shines 216 = .ok (.aload_n 0, 1) := by decide +kernel
theorem dX7_shines_217 : decode cX7_shines 217 = .ok (.aload_n 0, 1) := by decide +kernel
theorem dX7_shines_218 : decode cX7_shines 218 = .ok (.invokevirtual 108, 3) := by decide +kernel
theorem dX7_shines_221 : decode cX7_shines 221 = .ok (.putfield 112, 3) := by decide +kernel
theorem dX7_shines_224 : decode cX7_shines 224 = .ok (.return_, 1) := by decide +kernel
theorem dX7_state_0 : decode cX7_state 0 = .ok (.aload_n 0, 1) := by decide +kernel
theorem dX7_state_1 : decode cX7_state 1 = .ok (.iload_n 1, 1) := by decide +kernel
theorem dX7_state_2 : decode cX7_state 2 = .ok (.iload_n 2, 1) := by decide +kernel
theorem dX7_state_3 : decode cX7_state 3 = .ok (.invokevirtual 94, 3) := by decide +kernel
theorem dX7_state_6 : decode cX7_state 6 = .ok (.istore_n 3, 1) := by decide +kernel
theorem dX7_state_7 : decode cX7_state 7 = .ok (.aload_n 0, 1) := by decide +kernel
theorem dX7_state_8 : decode cX7_state 8 = .ok (.getfield 112, 3) := by decide +kernel
theorem dX7_state_11 : decode cX7_state 11 = .ok (.iload_n 3, 1) := by decide +kernel
theorem dX7_state_12 : decode cX7_state 12 = .ok (.if_icmp .ne 7, 3) := by decide +kernel
theorem dX7_state_15 : decode cX7_state 15 = .ok (.iconst 0, 1) := by decide +kernel
theorem dX7_state_16 : decode cX7_state 16 = .ok (.goto 27, 3) := by decide +kernel
theorem dX7_state_19 : decode cX7_state 19 = .ok (.aload_n 0, 1) := by decide +kernel
theorem dX7_state_20 : decode cX7_state 20 = .ok (.getfield 80, 3) := by decide +kernel
theorem dX7_state_23 : decode cX7_state 23 = .ok (.ifCond .ne 7, 3) := by decide +kernel
theorem dX7_state_26 : decode cX7_state 26 = .ok (.iconst 1, 1) := by decide +kernel
theorem dX7_state_27 : decode cX7_state 27 = .ok (.goto 16, 3) := by decide +kernel
theorem dX7_state_30 : decode cX7_state 30 = .ok (.aload_n 0, 1) := by decide +kernel
theorem dX7_state_31 : decode cX7_state 31 = .ok (.getfield 112, 3) := by decide +kernel
theorem dX7_state_34 : decode cX7_state 34 = .ok (.iload_n 3, 1) := by decide +kernel
theorem dX7_state_35 : decode cX7_state 35 = .ok (.if_icmp .ge 7, 3) := by decide +kernel
theorem dX7_state_38 : decode cX7_state 38 = .ok (.iconst 2, 1) := by decide +kernel
theorem dX7_state_39 : decode cX7_state 39 = .ok (.goto 4, 3) := by decide +kernel
theorem dX7_state_42 : decode cX7_state 42 = .ok (.iconst 3, 1) := by decide +kernel
theorem dX7_state_43 : decode cX7_state 43 = .ok (.ireturn, 1) := by decide +kernel
theorem dX7_wrongOnes_0 : decode cX7_wrongOnes 0 = .ok (.iconst 0, 1) := by decide +kernel
theorem dX7_wrongOnes_1 : decode cX7_wrongOnes 1 = .ok (.istore_n 1, 1) := by decide +kernel
theorem dX7_wrongOnes_2 : decode cX7_wrongOnes 2 = .ok (.iconst 0, 1) := by decide +kernel
theorem dX7_wrongOnes_3 : decode cX7_wrongOnes 3 = .ok (.istore_n 2, 1) := by decide +kernel
theorem dX7_wrongOnes_4 : decode cX7_wrongOnes 4 = .ok (.iload_n 2, 1) := by decide +kernel
theorem dX7_wrongOnes_5 : decode cX7_wrongOnes 5 = .ok (.aload_n 0, 1) := by decide +kernel
theorem dX7_wrongOnes_6 : decode cX7_wrongOnes 6 = .ok (.getfield 7, 3) := by decide +kernel
theorem dX7_wrongOnes_9 : decode cX7_wrongOnes 9 = .ok (.iconst 1, 1) := by decide +kernel
theorem dX7_wrongOnes_10 : decode cX7_wrongOnes 10 = .ok (.iaload, 1) := by decide +kernel
theorem dX7_wrongOnes_11 : decode cX7_wrongOnes 11 = .ok (.if_icmp .ge 50, 3) := by decide +kernel
theorem dX7_wrongOnes_14 : decode cX7_wrongOnes 14 = .ok (.iconst 0, 1) := by decide +kernel
theorem dX7_wrongOnes_15 : decode cX7_wrongOnes 15 = .ok (.istore_n 3, 1) := by decide +kernel
theorem dX7_wrongOnes_16 : decode cX7_wrongOnes 16 = .ok (.iload_n 3, 1) := by decide +kernel
theorem dX7_wrongOnes_17 : decode cX7_wrongOnes 17 = .ok (.aload_n 0, 1) := by decide +kernel
theorem dX7_wrongOnes_18 : decode cX7_wrongOnes 18 = .ok (.getfield 7, 3) := by decide +kernel
theorem dX7_wrongOnes_21 : decode cX7_wrongOnes 21 = .ok (.iconst 0, 1) := by decide +kernel
theorem dX7_wrongOnes_22 : decode cX7_wrongOnes 22 = .ok (.iaload, 1) := by decide +kernel
theorem dX7_wrongOnes_23 : decode cX7_wrongOnes 23 = .ok (.if_icmp .ge 32, 3) := by decide +kernel
theorem dX7_wrongOnes_26 : decode cX7_wrongOnes 26 = .ok (.aload_n 0, 1) := by decide +kernel
theorem dX7_wrongOnes_27 : decode cX7_wrongOnes 27 = .ok (.iload_n 3, 1) := by decide +kernel
theorem dX7_wrongOnes_28 : decode cX7_wrongOnes 28 = .ok (.iload_n 2, 1) := by decide +kernel
theorem dX7_wrongOnes_29 : decode cX7_wrongOnes 29 = .ok (.invokevirtual 115, 3) := by decide +kernel
theorem dX7_wrongOnes_32 : decode cX7_wrongOnes 32 = .ok (.iload_n 1, 1) := by decide +kernel
theorem dX7_wrongOnes_33 : decode cX7_wrongOnes 33 = .ok (.aload_n 0, 1) := by decide +kernel
theorem dX7_wrongOnes_34 : decode cX7_wrongOnes 34 = .ok (.iload_n 3, 1) := by decide +kernel
theorem dX7_wrongOnes_35 : decode cX7_wrongOnes 35 = .ok (.iload_n 2, 1) := by decide +kernel
theorem dX7_wrongOnes_36 : decode cX7_wrongOnes 36 = .ok (.invokevirtual 118, 3) := by decide +kernel
theorem dX7_wrongOnes_39 : decode cX7_wrongOnes 39 = .ok (.ifCond .ne 7, 3) := by decide +kernel
theorem dX7_wrongOnes_42 : decode cX7_wrongOnes 42 = .ok (.iconst 0, 1) := by decide +kernel
theorem dX7_wrongOnes_43 : decode cX7_wrongOnes 43 = .ok (.goto 4, 3) := by decide +kernel
theorem dX7_wrongOnes_46 : decode cX7_wrongOnes 46 = .ok (.iconst 1, 1) := by decide +kernel
theorem dX7_wrongOnes_47 : decode cX7_wrongOnes 47 = .ok (.iadd, 1) := by decide +kernel
theorem dX7_wrongOnes_48 : decode cX7_wrongOnes 48 = .ok (.istore_n 1, 1) := by decide +kernel
theorem dX7_wrongOnes_49 : decode cX7_wrongOnes 49 = .ok (.iinc 3 1, 3) := by decide +kernel
theorem dX7_wrongOnes_52 : decode cX7_wrongOnes 52 = .ok (.goto (-36), 3) := by decide +kernel
theorem dX7_wrongOnes_55 : decode cX7_wrongOnes 55 = .ok (.iinc 2 1, 3) := by decide +kernel
theorem dX7_wrongOnes_58 : decode cX7_wrongOnes 58 = .ok (.goto (-54), 3) := by decide +kernel
theorem dX7_wrongOnes_61 : decode cX7_wrongOnes 61 = .ok (.iload_n 1, 1) := by decide +kernel
theorem dX7_wrongOnes_62 : decode cX7_wrongOnes 62 = .ok (.ireturn, 1) := by decide +kernel
theorem dX7_bits_0 : decode cX7_bits 0 = .ok (.iconst 0, 1) := by decide +kernel
theorem dX7_bits_1 : decode cX7_bits 1 = .ok (.istore_n 1, 1) := by decide +kernel
theorem dX7_bits_2 : decode cX7_bits 2 = .ok (.iload_n 0, 1) := by decide +kernel
theorem dX7_bits_3 : decode cX7_bits 3 = .ok (.istore_n 2, 1) := by decide +kernel
theorem dX7_bits_4 : decode cX7_bits 4 = .ok (.iload_n 2, 1) := by decide +kernel
theorem dX7_bits_5 : decode cX7_bits 5 = .ok (.ifCond .eq 15, 3) := by decide +kernel
theorem dX7_bits_8 : decode cX7_bits 8 = .ok (.iinc 1 1, 3) := by decide +kernel
theorem dX7_bits_11 : decode cX7_bits 11 = .ok (.iload_n 2, 1) := by decide +kernel
theorem dX7_bits_12 : decode cX7_bits 12 = .ok (.iload_n 2, 1) := by decide +kernel
theorem dX7_bits_13 : decode cX7_bits 13 = .ok (.iconst 1, 1) := by decide +kernel
theorem dX7_bits_14 : decode cX7_bits 14 = .ok (.isub, 1) := by decide +kernel
theorem dX7_bits_15 : decode cX7_bits 15 = .ok (.iand, 1) := by decide +kernel
theorem dX7_bits_16 : decode cX7_bits 16 = .ok (.istore_n 2, 1) := by decide +kernel
theorem dX7_bits_17 : decode cX7_bits 17 = .ok (.goto (-13), 3) := by decide +kernel
theorem dX7_bits_20 : decode cX7_bits 20 = .ok (.iload_n 1, 1) := by decide +kernel
theorem dX7_bits_21 : decode cX7_bits 21 = .ok (.ireturn, 1) := by decide +kernel
theorem dX7_sums_0 : decode cX7_sums 0 = .ok (.aload_n 0, 1) := by decide +kernel
theorem dX7_sums_1 : decode cX7_sums 1 = .ok (.iconst 0, 1) := by decide +kernel
theorem dX7_sums_2 : decode cX7_sums 2 = .ok (.putfield 121, 3) := by decide +kernel
theorem dX7_sums_5 : decode cX7_sums 5 = .ok (.aload_n 0, 1) := by decide +kernel
theorem dX7_sums_6 : decode cX7_sums 6 = .ok (.iconst 0, 1) := by decide +kernel
theorem dX7_sums_7 : decode cX7_sums 7 = .ok (.putfield 124, 3) := by decide +kernel
theorem dX7_sums_10 : decode cX7_sums 10 = .ok (.aload_n 0, 1) := by decide +kernel
theorem dX7_sums_11 : decode cX7_sums 11 = .ok (.iconst 0, 1) := by decide +kernel
theorem dX7_sums_12 : decode cX7_sums 12 = .ok (.putfield 127, 3) := by decide +kernel
theorem dX7_sums_15 : decode cX7_sums 15 = .ok (.aload_n 0, 1) := by decide +kernel
theorem dX7_sums_16 : decode cX7_sums 16 = .ok (.iconst 0, 1) := by decide +kernel
theorem dX7_sums_17 : decode cX7_sums 17 = .ok (.putfield 130, 3) := by decide +kernel
theorem dX7_sums_20 : decode cX7_sums 20 = .ok (.aload_n 0, 1) := by decide +kernel
theorem dX7_sums_21 : decode cX7_sums 21 = .ok (.iconst 0, 1) := by decide +kernel
theorem dX7_sums_22 : decode cX7_sums 22 = .ok (.putfield 133, 3) := by decide +kernel
theorem dX7_sums_25 : decode cX7_sums 25 = .ok (.iconst 0, 1) := by decide +kernel
theorem dX7_sums_26 : decode cX7_sums 26 = .ok (.istore_n 2, 1) := by decide +kernel
theorem dX7_sums_27 : decode cX7_sums 27 = .ok (.iload_n 2, 1) := by decide +kernel
theorem dX7_sums_28 : decode cX7_sums 28 = .ok (.aload_n 0, 1) := by decide +kernel
theorem dX7_sums_29 : decode cX7_sums 29 = .ok (.getfield 7, 3) := by decide +kernel
theorem dX7_sums_32 : decode cX7_sums 32 = .ok (.iconst 1, 1) := by decide +kernel
theorem dX7_sums_33 : decode cX7_sums 33 = .ok (.iaload, 1) := by decide +kernel
theorem dX7_sums_34 : decode cX7_sums 34 = .ok (.if_icmp .ge 163, 3) := by decide +kernel
theorem dX7_sums_37 : decode cX7_sums 37 = .ok (.iconst 0, 1) := by decide +kernel
theorem dX7_sums_38 : decode cX7_sums 38 = .ok (.istore_n 3, 1) := by decide +kernel
theorem dX7_sums_39 : decode cX7_sums 39 = .ok (.iload_n 3, 1) := by decide +kernel
theorem dX7_sums_40 : decode cX7_sums 40 = .ok (.aload_n 0, 1) := by decide +kernel
theorem dX7_sums_41 : decode cX7_sums 41 = .ok (.getfield 7, 3) := by decide +kernel
theorem dX7_sums_44 : decode cX7_sums 44 = .ok (.iconst 0, 1) := by decide +kernel
theorem dX7_sums_45 : decode cX7_sums 45 = .ok (.iaload, 1) := by decide +kernel
theorem dX7_sums_46 : decode cX7_sums 46 = .ok (.if_icmp .ge 145, 3) := by decide +kernel
theorem dX7_sums_49 : decode cX7_sums 49 = .ok (.aload_n 0, 1) := by decide +kernel
theorem dX7_sums_50 : decode cX7_sums 50 = .ok (.iload_n 3, 1) := by decide +kernel
theorem dX7_sums_51 : decode cX7_sums 51 = .ok (.iload_n 2, 1) := by decide +kernel
theorem dX7_sums_52 : decode cX7_sums 52 = .ok (.invokevirtual 115, 3) := by decide +kernel
theorem dX7_sums_55 : decode cX7_sums 55 = .ok (.aload_n 0, 1) := by decide +kernel
theorem dX7_sums_56 : decode cX7_sums 56 = .ok (.iload_n 1, 1) := by decide +kernel
theorem dX7_sums_57 : decode cX7_sums 57 = .ok (.invokevirtual 91, 3) := by decide +kernel
theorem dX7_sums_60 : decode cX7_sums 60 = .ok (.ifCond .eq 125, 3) := by decide +kernel
theorem dX7_sums_63 : decode cX7_sums 63 = .ok (.aload_n 0, 1) := by decide +kernel
theorem dX7_sums_64 : decode cX7_sums 64 = .ok (.getfield 29, 3) := by decide +kernel
theorem dX7_sums_67 : decode cX7_sums 67 = .ok (.iload_n 1, 1) := by decide +kernel
theorem dX7_sums_68 : decode cX7_sums 68 = .ok (.iaload, 1) := by decide +kernel
theorem dX7_sums_69 : decode cX7_sums 69 = .ok (.aload_n 0, 1) := by decide +kernel
theorem dX7_sums_70 : decode cX7_sums 70 = .ok (.iload_n 3, 1) := by decide +kernel
theorem dX7_sums_71 : decode cX7_sums 71 = .ok (.iload_n 2, 1) := by decide +kernel
theorem dX7_sums_72 : decode cX7_sums 72 = .ok (.invokevirtual 94, 3) := by decide +kernel
theorem dX7_sums_75 : decode cX7_sums 75 = .ok (.iadd, 1) := by decide +kernel
theorem dX7_sums_76 : decode cX7_sums 76 = .ok (.aload_n 0, 1) := by decide +kernel
theorem dX7_sums_77 : decode cX7_sums 77 = .ok (.getfield 112, 3) := by decide +kernel
theorem dX7_sums_80 : decode cX7_sums 80 = .ok (.isub, 1) := by decide +kernel
theorem dX7_sums_81 : decode cX7_sums 81 = .ok (.istore 4, 2) := by decide +kernel
theorem dX7_sums_83 : decode cX7_sums 83 = .ok (.aload_n 0, 1) := by decide +kernel
theorem dX7_sums_84 : decode cX7_sums 84 = .ok (.dup, 1) := by decide +kernel
theorem dX7_sums_85 : decode cX7_sums 85 = .ok (.getfield 121, 3) := by decide +kernel
theorem dX7_sums_88 : decode cX7_sums 88 = .ok (.iconst 1, 1) := by decide +kernel
theorem dX7_sums_89 : decode cX7_sums 89 = .ok (.iadd, 1) := by decide +kernel
theorem dX7_sums_90 : decode cX7_sums 90 = .ok (.putfield 121, 3) := by decide +kernel
theorem dX7_sums_93 : decode cX7_sums 93 = .ok (.aload_n 0, 1) := by decide +kernel
theorem dX7_sums_94 : decode cX7_sums 94 = .ok (.dup, 1) := by decide +kernel
theorem dX7_sums_95 : decode cX7_sums 95 = .ok (.getfield 124, 3) := by decide +kernel
theorem dX7_sums_98 : decode cX7_sums 98 = .ok (.aload_n 0, 1) := by decide +kernel
theorem dX7_sums_99 : decode cX7_sums 99 = .ok (.getfield 29, 3) := by decide +kernel
theorem dX7_sums_102 : decode cX7_sums 102 = .ok (.iload_n 1, 1) := by decide +kernel
theorem dX7_sums_103 : decode cX7_sums 103 = .ok (.iaload, 1) := by decide +kernel
theorem dX7_sums_104 : decode cX7_sums 104 = .ok (.iadd, 1) := by decide +kernel
theorem dX7_sums_105 : decode cX7_sums 105 = .ok (.putfield 124, 3) := by decide +kernel
theorem dX7_sums_108 : decode cX7_sums 108 = .ok (.aload_n 0, 1) := by decide +kernel
theorem dX7_sums_109 : decode cX7_sums 109 = .ok (.aload_n 0, 1) := by decide +kernel
theorem dX7_sums_110 : decode cX7_sums 110 = .ok (.getfield 29, 3) := by decide +kernel
theorem dX7_sums_113 : decode cX7_sums 113 = .ok (.iload_n 1, 1) := by decide +kernel
theorem dX7_sums_114 : decode cX7_sums 114 = .ok (.iaload, 1) := by decide +kernel
theorem dX7_sums_115 : decode cX7_sums 115 = .ok (.aload_n 0, 1) := by decide +kernel
theorem dX7_sums_116 : decode cX7_sums 116 = .ok (.getfield 127, 3) := by decide +kernel
theorem dX7_sums_119 : decode cX7_sums 119 = .ok (.if_icmp .le 12, 3) := by decide +kernel
theorem dX7_sums_122 : decode cX7_sums 122 = .ok (.aload_n 0, 1) := by decide +kernel
theorem dX7_sums_123 : decode cX7_sums 123 = .ok (.getfield 29, 3) := by decide +kernel
theorem dX7_sums_126 : decode cX7_sums 126 = .ok (.iload_n 1, 1) := by decide +kernel
theorem dX7_sums_127 : decode cX7_sums 127 = .ok (.iaload, 1) := by decide +kernel
theorem dX7_sums_128 : decode cX7_sums 128 = .ok (.goto 7, 3) := by decide +kernel
theorem dX7_sums_131 : decode cX7_sums 131 = .ok (.aload_n 0, 1) := by decide +kernel
theorem dX7_sums_132 : decode cX7_sums 132 = .ok (.getfield 127, 3) := by decide +kernel
theorem dX7_sums_135 : decode cX7_sums 135 = .ok (.putfield 127, 3) := by decide +kernel
theorem dX7_sums_138 : decode cX7_sums 138 = .ok (.aload_n 0, 1) := by decide +kernel
theorem dX7_sums_139 : decode cX7_sums 139 = .ok (.dup, 1) := by decide +kernel
theorem dX7_sums_140 : decode cX7_sums 140 = .ok (.getfield 130, 3) := by decide +kernel
theorem dX7_sums_143 : decode cX7_sums 143 = .ok (.aload_n 0, 1) := by decide +kernel
theorem dX7_sums_144 : decode cX7_sums 144 = .ok (.getfield 80, 3) := by decide +kernel
theorem dX7_sums_147 : decode cX7_sums 147 = .ok (.invokestatic 136, 3) := by decide +kernel
theorem dX7_sums_150 : decode cX7_sums 150 = .ok (.iconst 1, 1) := by decide +kernel
theorem dX7_sums_151 : decode cX7_sums 151 = .ok (.if_icmp .ne 7, 3) := by decide +kernel
theorem dX7_sums_154 : decode cX7_sums 154 = .ok (.iconst 1, 1) := by decide +kernel
theorem dX7_sums_155 : decode cX7_sums 155 = .ok (.goto 4, 3) := by decide +kernel
theorem dX7_sums_158 : decode cX7_sums 158 = .ok (.iconst 0, 1) := by decide +kernel
theorem dX7_sums_159 : decode cX7_sums 159 = .ok (.iadd, 1) := by decide +kernel
theorem dX7_sums_160 : decode cX7_sums 160 = .ok (.putfield 130, 3) := by decide +kernel
theorem dX7_sums_163 : decode cX7_sums 163 = .ok (.aload_n 0, 1) := by decide +kernel
theorem dX7_sums_164 : decode cX7_sums 164 = .ok (.iload 4, 2) := by decide +kernel
theorem dX7_sums_166 : decode cX7_sums 166 = .ok (.aload_n 0, 1) := by decide +kernel
theorem dX7_sums_167 : decode cX7_sums 167 = .ok (.getfield 133, 3) := by decide +kernel
theorem dX7_sums_170 : decode cX7_sums 170 = .ok (.if_icmp .le 8, 3) := by decide +kernel
theorem dX7_sums_173 : decode cX7_sums 173 = .ok (.iload 4, 2) := by decide +kernel
theorem dX7_sums_175 : decode cX7_sums 175 = .ok (.goto 7, 3) := by decide +kernel
theorem dX7_sums_178 : decode cX7_sums 178 = .ok (.aload_n 0, 1) := by decide +kernel
theorem dX7_sums_179 : decode cX7_sums 179 = .ok (.getfield 133, 3) := by decide +kernel
theorem dX7_sums_182 : decode cX7_sums 182 = .ok (.putfield 133, 3) := by decide +kernel
theorem dX7_sums_185 : decode cX7_sums 185 = .ok (.iinc 3 1, 3) := by decide +kernel
theorem dX7_sums_188 : decode cX7_sums 188 = .ok (.goto (-149), 3) := by decide +kernel
theorem dX7_sums_191 : decode cX7_sums 191 = .ok (.iinc 2 1, 3) := by decide +kernel
theorem dX7_sums_194 : decode cX7_sums 194 = .ok (.goto (-167), 3) := by decide +kernel
theorem dX7_sums_197 : decode cX7_sums 197 = .ok (.return_, 1) := by decide +kernel
theorem dX7_load_0 : decode cX7_load 0 = .ok (.aload_n 0, 1) := by decide +kernel
theorem dX7_load_1 : decode cX7_load 1 = .ok (.iload_n 1, 1) := by decide +kernel
theorem dX7_load_2 : decode cX7_load 2 = .ok (.invokevirtual 139, 3) := by decide +kernel
theorem dX7_load_5 : decode cX7_load 5 = .ok (.aload_n 0, 1) := by decide +kernel
theorem dX7_load_6 : decode cX7_load 6 = .ok (.getfield 121, 3) := by decide +kernel
theorem dX7_load_9 : decode cX7_load 9 = .ok (.aload_n 0, 1) := by decide +kernel
theorem dX7_load_10 : decode cX7_load 10 = .ok (.iload_n 1, 1) := by decide +kernel
theorem dX7_load_11 : decode cX7_load 11 = .ok (.invokevirtual 65, 3) := by decide +kernel
theorem dX7_load_14 : decode cX7_load 14 = .ok (.imul, 1) := by decide +kernel
theorem dX7_load_15 : decode cX7_load 15 = .ok (.istore_n 2, 1) := by decide +kernel
theorem dX7_load_16 : decode cX7_load 16 = .ok (.iload_n 2, 1) := by decide +kernel
theorem dX7_load_17 : decode cX7_load 17 = .ok (.ifCond .ne 7, 3) := by decide +kernel
theorem dX7_load_20 : decode cX7_load 20 = .ok (.iconst 0, 1) := by decide +kernel
theorem dX7_load_21 : decode cX7_load 21 = .ok (.goto 12, 3) := by decide +kernel
theorem dX7_load_24 : decode cX7_load 24 = .ok (.bipush 100, 2) := by decide +kernel
theorem dX7_load_26 : decode cX7_load 26 = .ok (.aload_n 0, 1) := by decide +kernel
theorem dX7_load_27 : decode cX7_load 27 = .ok (.getfield 124, 3) := by decide +kernel
theorem dX7_load_30 : decode cX7_load 30 = .ok (.imul, 1) := by decide +kernel
theorem dX7_load_31 : decode cX7_load 31 = .ok (.iload_n 2, 1) := by decide +kernel
theorem dX7_load_32 : decode cX7_load 32 = .ok (.idiv, 1) := by decide +kernel
theorem dX7_load_33 : decode cX7_load 33 = .ok (.ireturn, 1) := by decide +kernel
theorem dX7_begins_0 : decode cX7_begins 0 = .ok (.iload_n 1, 1) := by decide +kernel
theorem dX7_begins_1 : decode cX7_begins 1 = .ok (.iconst 1, 1) := by decide +kernel
theorem dX7_begins_2 : decode cX7_begins 2 = .ok (.bipush 24, 2) := by decide +kernel
theorem dX7_begins_4 : decode cX7_begins 4 = .ok (.invokestatic 41, 3) := by decide +kernel
theorem dX7_begins_7 : decode cX7_begins 7 = .ok (.ifCond .eq 13, 3) := by decide +kernel
theorem dX7_begins_10 : decode cX7_begins 10 = .ok (.iload_n 2, 1) := by decide +kernel
theorem dX7_begins_11 : decode cX7_begins 11 = .ok (.iconst 1, 1) := by decide +kernel
theorem dX7_begins_12 : decode cX7_begins 12 = .ok (.bipush 16, 2) := by decide +kernel
theorem dX7_begins_14 : decode cX7_begins 14 = .ok (.invokestatic 41, 3) := by decide +kernel
theorem dX7_begins_17 : decode cX7_begins 17 = .ok (.ifCond .ne 5, 3) := by decide +kernel
theorem dX7_begins_20 : decode cX7_begins 20 = .ok (.iconst 1, 1) := by decide +kernel
theorem dX7_begins_21 : decode cX7_begins 21 = .ok (.ireturn, 1) := by decide +kernel
theorem dX7_begins_22 : decode cX7_begins 22 = .ok (.aload_n 0, 1) := by decide +kernel
theorem dX7_begins_23 : decode cX7_begins 23 = .ok (.aload_n 0, 1) := by decide +kernel
theorem dX7_begins_24 : decode cX7_begins 24 = .ok (.getfield 7, 3) := by decide +kernel
theorem dX7_begins_27 : decode cX7_begins 27 = .ok (.iconst 0, 1) := by decide +kernel
theorem dX7_begins_28 : decode cX7_begins 28 = .ok (.iaload, 1) := by decide +kernel
theorem dX7_begins_29 : decode cX7_begins 29 = .ok (.aload_n 0, 1) := by decide +kernel
theorem dX7_begins_30 : decode cX7_begins 30 = .ok (.getfield 7, 3) := by decide +kernel
theorem dX7_begins_33 : decode cX7_begins 33 = .ok (.iconst 1, 1) := by decide +kernel
theorem dX7_begins_34 : decode cX7_begins 34 = .ok (.iaload, 1) := by decide +kernel
theorem dX7_begins_35 : decode cX7_begins 35 = .ok (.imul, 1) := by decide +kernel
theorem dX7_begins_36 : decode cX7_begins 36 = .ok (.putfield 55, 3) := by decide +kernel
theorem dX7_begins_39 : decode cX7_begins 39 = .ok (.aload_n 0, 1) := by decide +kernel
theorem dX7_begins_40 : decode cX7_begins 40 = .ok (.getfield 7, 3) := by decide +kernel
theorem dX7_begins_43 : decode cX7_begins 43 = .ok (.iconst 0, 1) := by decide +kernel
theorem dX7_begins_44 : decode cX7_begins 44 = .ok (.iload_n 1, 1) := by decide +kernel
theorem dX7_begins_45 : decode cX7_begins 45 = .ok (.iastore, 1) := by decide +kernel
theorem dX7_begins_46 : decode cX7_begins 46 = .ok (.aload_n 0, 1) := by decide +kernel
theorem dX7_begins_47 : decode cX7_begins 47 = .ok (.getfield 7, 3) := by decide +kernel
theorem dX7_begins_50 : decode cX7_begins 50 = .ok (.iconst 1, 1) := by decide +kernel
theorem dX7_begins_51 : decode cX7_begins 51 = .ok (.iload_n 2, 1) := by decide +kernel
theorem dX7_begins_52 : decode cX7_begins 52 = .ok (.iastore, 1) := by decide +kernel
theorem dX7_begins_53 : decode cX7_begins 53 = .ok (.aload_n 0, 1) := by decide +kernel
theorem dX7_begins_54 : decode cX7_begins 54 = .ok (.getfield 7, 3) := by decide +kernel
theorem dX7_begins_57 : decode cX7_begins 57 = .ok (.iconst 2, 1) := by decide +kernel
theorem dX7_begins_58 : decode cX7_begins 58 = .ok (.iconst 0, 1) := by decide +kernel
theorem dX7_begins_59 : decode cX7_begins 59 = .ok (.iastore, 1) := by decide +kernel
theorem dX7_begins_60 : decode cX7_begins 60 = .ok (.aload_n 0, 1) := by decide +kernel
theorem dX7_begins_61 : decode cX7_begins 61 = .ok (.getfield 7, 3) := by decide +kernel
theorem dX7_begins_64 : decode cX7_begins 64 = .ok (.iconst 3, 1) := by decide +kernel
theorem dX7_begins_65 : decode cX7_begins 65 = .ok (.iconst 0, 1) := by decide +kernel
theorem dX7_begins_66 : decode cX7_begins 66 = .ok (.iastore, 1) := by decide +kernel
theorem dX7_begins_67 : decode cX7_begins 67 = .ok (.bipush 6, 2) := by decide +kernel
theorem dX7_begins_69 : decode cX7_begins 69 = .ok (.istore_n 3, 1) := by decide +kernel
theorem dX7_begins_70 : decode cX7_begins 70 = .ok (.iload_n 3, 1) := by decide +kernel
theorem dX7_begins_71 : decode cX7_begins 71 = .ok (.sipush 390, 3) := by decide +kernel
theorem dX7_begins_74 : decode cX7_begins 74 = .ok (.if_icmp .ge 16, 3) := by decide +kernel
theorem dX7_begins_77 : decode cX7_begins 77 = .ok (.aload_n 0, 1) := by decide +kernel
theorem dX7_begins_78 : decode cX7_begins 78 = .ok (.getfield 7, 3) := by decide +kernel
theorem dX7_begins_81 : decode cX7_begins 81 = .ok (.iload_n 3, 1) := by decide +kernel
theorem dX7_begins_82 : decode cX7_begins 82 = .ok (.iconst 0, 1) := by decide +kernel
theorem dX7_begins_83 : decode cX7_begins 83 = .ok (.iastore, 1) := by decide +kernel
theorem dX7_begins_84 : decode cX7_begins 84 = .ok (.iinc 3 1, 3) := by decide +kernel
theorem dX7_begins_87 : decode cX7_begins 87 = .ok (.goto (-17), 3) := by decide +kernel
theorem dX7_begins_90 : decode cX7_begins 90 = .ok (.iconst 0, 1) := by decide +kernel
theorem dX7_begins_91 : decode cX7_begins 91 = .ok (.ireturn, 1) := by decide +kernel
theorem dX7_paints_0 : decode cX7_paints 0 = .ok (.aload_n 0, 1) := by decide +kernel
theorem dX7_paints_1 : decode cX7_paints 1 = .ok (.iload_n 1, 1) := by decide +kernel
theorem dX7_paints_2 : decode cX7_paints 2 = .ok (.iload_n 2, 1) := by decide +kernel
theorem dX7_paints_3 : decode cX7_paints 3 = .ok (.invokevirtual 142, 3) := by decide +kernel
theorem dX7_paints_6 : decode cX7_paints 6 = .ok (.ifCond .eq 13, 3) := by decide +kernel
theorem dX7_paints_9 : decode cX7_paints 9 = .ok (.aload_n 0, 1) := by decide +kernel
theorem dX7_paints_10 : decode cX7_paints 10 = .ok (.iload_n 3, 1) := by decide +kernel
theorem dX7_paints_11 : decode cX7_paints 11 = .ok (.iload 4, 2) := by decide +kernel
theorem dX7_paints_13 : decode cX7_paints 13 = .ok (.invokevirtual 142, 3) := by decide +kernel
theorem dX7_paints_16 : decode cX7_paints 16 = .ok (.ifCond .ne 5, 3) := by decide +kernel
theorem dX7_paints_19 : decode cX7_paints 19 = .ok (.iconst 1, 1) := by decide +kernel
theorem dX7_paints_20 : decode cX7_paints 20 = .ok (.ireturn, 1) := by decide +kernel
theorem dX7_paints_21 : decode cX7_paints 21 = .ok (.iload_n 3, 1) := by decide +kernel
theorem dX7_paints_22 : decode cX7_paints 22 = .ok (.iload_n 1, 1) := by decide +kernel
theorem dX7_paints_23 : decode cX7_paints 23 = .ok (.if_icmp .lt 21, 3) := by decide +kernel
theorem dX7_paints_26 : decode cX7_paints 26 = .ok (.iload 4, 2) := by decide +kernel
theorem dX7_paints_28 : decode cX7_paints 28 = .ok (.iload_n 2, 1) := by decide +kernel
theorem dX7_paints_29 : decode cX7_paints 29 = .ok (.if_icmp .lt 15, 3) := by decide +kernel
theorem dX7_paints_32 : decode cX7_paints 32 = .ok (.iload 5, 2) := by decide +kernel
theorem dX7_paints_34 : decode cX7_paints 34 = .ok (.iconst 0, 1) := by decide +kernel
theorem dX7_paints_35 : decode cX7_paints 35 = .ok (.sipush 255, 3) := by decide +kernel
theorem dX7_paints_38 : decode cX7_paints 38 = .ok (.invokestatic 41, 3) := by decide +kernel
theorem dX7_paints_41 : decode cX7_paints 41 = .ok (.ifCond .ne 5, 3) := by decide +kernel
theorem dX7_paints_44 : decode cX7_paints 44 = .ok (.iconst 2, 1) := by decide +kernel
theorem dX7_paints_45 : decode cX7_paints 45 = .ok (.ireturn, 1) := by decide +kernel
theorem dX7_paints_46 : decode cX7_paints 46 = .ok (.aload_n 0, 1) := by decide +kernel
theorem dX7_paints_47 : decode cX7_paints 47 = .ok (.iconst 0, 1) := by decide +kernel
theorem dX7_paints_48 : decode cX7_paints 48 = .ok (.putfield 55, 3) := by decide +kernel
theorem dX7_paints_51 : decode cX7_paints 51 = .ok (.iload_n 2, 1) := by decide +kernel
theorem dX7_paints_52 : decode cX7_paints 52 = .ok (.istore 6, 2) := by decide +kernel
theorem dX7_paints_54 : decode cX7_paints 54 = .ok (.iload 6, 2) := by decide +kernel
theorem dX7_paints_56 : decode cX7_paints 56 = .ok (.iload 4, 2) := by decide +kernel
theorem dX7_paints_58 : decode cX7_paints 58 = .ok (.if_icmp .gt 69, 3) := by decide +kernel
theorem dX7_paints_61 : decode cX7_paints 61 = .ok (.iload_n 1, 1) := by decide +kernel
theorem dX7_paints_62 : decode cX7_paints 62 = .ok (.istore 7, 2) := by decide +kernel
theorem dX7_paints_64 : decode cX7_paints 64 = .ok (.iload 7, 2) := by decide +kernel
theorem dX7_paints_66 : decode cX7_paints 66 = .ok (.iload_n 3, 1) := by decide +kernel
theorem dX7_paints_67 : decode cX7_paints 67 = .ok (.if_icmp .gt 54, 3) := by decide +kernel
theorem dX7_paints_70 : decode cX7_paints 70 = .ok (.aload_n 0, 1) := by decide +kernel
theorem dX7_paints_71 : decode cX7_paints 71 = .ok (.dup, 1) := by decide +kernel
theorem dX7_paints_72 : decode cX7_paints 72 = .ok (.getfield 55, 3) := by decide +kernel
theorem dX7_paints_75 : decode cX7_paints 75 = .ok (.aload_n 0, 1) := by decide +kernel
theorem dX7_paints_76 : decode cX7_paints 76 = .ok (.iload 7, 2) := by decide +kernel
theorem dX7_paints_78 : decode cX7_paints 78 = .ok (.iload 6, 2) := by decide +kernel
theorem dX7_paints_80 : decode cX7_paints 80 = .ok (.invokevirtual 94, 3) := by decide +kernel
theorem dX7_paints_83 : decode cX7_paints 83 = .ok (.iload 5, 2) := by decide +kernel
theorem dX7_paints_85 : decode cX7_paints 85 = .ok (.if_icmp .ne 7, 3) := by decide +kernel
theorem dX7_paints_88 : decode cX7_paints 88 = .ok (.iconst 0, 1) := by decide +kernel
theorem dX7_paints_89 : decode cX7_paints 89 = .ok (.goto 4, 3) := by decide +kernel
theorem dX7_paints_92 : decode cX7_paints 92 = .ok (.iconst 1, 1) := by decide +kernel
theorem dX7_paints_93 : decode cX7_paints 93 = .ok (.iadd, 1) := by decide +kernel
theorem dX7_paints_94 : decode cX7_paints 94 = .ok (.putfield 55, 3) := by decide +kernel
theorem dX7_paints_97 : decode cX7_paints 97 = .ok (.aload_n 0, 1) := by decide +kernel
theorem dX7_paints_98 : decode cX7_paints 98 = .ok (.getfield 7, 3) := by decide +kernel
theorem dX7_paints_101 : decode cX7_paints 101 = .ok (.bipush 6, 2) := by decide +kernel
theorem dX7_paints_103 : decode cX7_paints 103 = .ok (.bipush 24, 2) := by decide +kernel
theorem dX7_paints_105 : decode cX7_paints 105 = .ok (.iload 6, 2) := by decide +kernel
theorem dX7_paints_107 : decode cX7_paints 107 = .ok (.imul, 1) := by decide +kernel
theorem dX7_paints_108 : decode cX7_paints 108 = .ok (.iadd, 1) := by decide +kernel
theorem dX7_paints_109 : decode cX7_paints 109 = .ok (.iload 7, 2) := by decide +kernel
theorem dX7_paints_111 : decode cX7_paints 111 = .ok (.iadd, 1) := by decide +kernel
theorem dX7_paints_112 : decode cX7_paints 112 = .ok (.iload 5, 2) := by decide +kernel
theorem dX7_paints_114 : decode cX7_paints 114 = .ok (.iastore, 1) := by decide +kernel
theorem dX7_paints_115 : decode cX7_paints 115 = .ok (.iinc 7 1, 3) := by decide +kernel
theorem dX7_paints_118 : decode cX7_paints 118 = .ok (.goto (-54), 3) := by decide +kernel
theorem dX7_paints_121 : decode cX7_paints 121 = .ok (.iinc 6 1, 3) := by decide +kernel
theorem dX7_paints_124 : decode cX7_paints 124 = .ok (.goto (-70), 3) := by decide +kernel
theorem dX7_paints_127 : decode cX7_paints 127 = .ok (.iconst 0, 1) := by decide +kernel
theorem dX7_paints_128 : decode cX7_paints 128 = .ok (.ireturn, 1) := by decide +kernel
theorem dX7_adds_0 : decode cX7_adds 0 = .ok (.iload_n 1, 1) := by decide +kernel
theorem dX7_adds_1 : decode cX7_adds 1 = .ok (.iconst 0, 1) := by decide +kernel
theorem dX7_adds_2 : decode cX7_adds 2 = .ok (.sipush 255, 3) := by decide +kernel
theorem dX7_adds_5 : decode cX7_adds 5 = .ok (.invokestatic 41, 3) := by decide +kernel
theorem dX7_adds_8 : decode cX7_adds 8 = .ok (.ifCond .eq 14, 3) := by decide +kernel
theorem dX7_adds_11 : decode cX7_adds 11 = .ok (.iload_n 2, 1) := by decide +kernel
theorem dX7_adds_12 : decode cX7_adds 12 = .ok (.iconst 0, 1) := by decide +kernel
theorem dX7_adds_13 : decode cX7_adds 13 = .ok (.sipush 255, 3) := by decide +kernel
theorem dX7_adds_16 : decode cX7_adds 16 = .ok (.invokestatic 41, 3) := by decide +kernel
theorem dX7_adds_19 : decode cX7_adds 19 = .ok (.ifCond .ne 5, 3) := by decide +kernel
theorem dX7_adds_22 : decode cX7_adds 22 = .ok (.iconst 1, 1) := by decide +kernel
theorem dX7_adds_23 : decode cX7_adds 23 = .ok (.ireturn, 1) := by decide +kernel
theorem dX7_adds_24 : decode cX7_adds 24 = .ok (.aload_n 0, 1) := by decide +kernel
theorem dX7_adds_25 : decode cX7_adds 25 = .ok (.getfield 7, 3) := by decide +kernel
theorem dX7_adds_28 : decode cX7_adds 28 = .ok (.iconst 4, 1) := by decide +kernel
theorem dX7_adds_29 : decode cX7_adds 29 = .ok (.iaload, 1) := by decide +kernel
theorem dX7_adds_30 : decode cX7_adds 30 = .ok (.bipush 8, 2) := by decide +kernel
theorem dX7_adds_32 : decode cX7_adds 32 = .ok (.if_icmp .ne 5, 3) := by decide +kernel
theorem dX7_adds_35 : decode cX7_adds 35 = .ok (.iconst 2, 1) := by decide +kernel
theorem dX7_adds_36 : decode cX7_adds 36 = .ok (.ireturn, 1) := by decide +kernel
theorem dX7_adds_37 : decode cX7_adds 37 = .ok (.aload_n 0, 1) := by decide +kernel
theorem dX7_adds_38 : decode cX7_adds 38 = .ok (.aload_n 0, 1) := by decide +kernel
theorem dX7_adds_39 : decode cX7_adds 39 = .ok (.getfield 7, 3) := by decide +kernel
theorem dX7_adds_42 : decode cX7_adds 42 = .ok (.iconst 4, 1) := by decide +kernel
theorem dX7_adds_43 : decode cX7_adds 43 = .ok (.iaload, 1) := by decide +kernel
theorem dX7_adds_44 : decode cX7_adds 44 = .ok (.putfield 55, 3) := by decide +kernel
theorem dX7_adds_47 : decode cX7_adds 47 = .ok (.iconst 0, 1) := by decide +kernel
theorem dX7_adds_48 : decode cX7_adds 48 = .ok (.istore_n 3, 1) := by decide +kernel
theorem dX7_adds_49 : decode cX7_adds 49 = .ok (.iload_n 3, 1) := by decide +kernel
theorem dX7_adds_50 : decode cX7_adds 50 = .ok (.bipush 12, 2) := by decide +kernel
theorem dX7_adds_52 : decode cX7_adds 52 = .ok (.if_icmp .ge 19, 3) := by decide +kernel
theorem dX7_adds_55 : decode cX7_adds 55 = .ok (.aload_n 0, 1) := by decide +kernel
theorem dX7_adds_56 : decode cX7_adds 56 = .ok (.aload_n 0, 1) := by decide +kernel
theorem dX7_adds_57 : decode cX7_adds 57 = .ok (.getfield 55, 3) := by decide +kernel
theorem dX7_adds_60 : decode cX7_adds 60 = .ok (.iload_n 3, 1) := by decide +kernel
theorem dX7_adds_61 : decode cX7_adds 61 = .ok (.iconst 0, 1) := by decide +kernel
theorem dX7_adds_62 : decode cX7_adds 62 = .ok (.invokevirtual 146, 3) := by decide +kernel
theorem dX7_adds_65 : decode cX7_adds 65 = .ok (.iinc 3 1, 3) := by decide +kernel
theorem dX7_adds_68 : decode cX7_adds 68 = .ok (.goto (-19), 3) := by decide +kernel
theorem dX7_adds_71 : decode cX7_adds 71 = .ok (.aload_n 0, 1) := by decide +kernel
theorem dX7_adds_72 : decode cX7_adds 72 = .ok (.aload_n 0, 1) := by decide +kernel
theorem dX7_adds_73 : decode cX7_adds 73 = .ok (.getfield 55, 3) := by decide +kernel
theorem dX7_adds_76 : decode cX7_adds 76 = .ok (.bipush 8, 2) := by decide +kernel
theorem dX7_adds_78 : decode cX7_adds 78 = .ok (.iload_n 1, 1) := by decide +kernel
theorem dX7_adds_79 : decode cX7_adds 79 = .ok (.invokevirtual 146, 3) := by decide +kernel
theorem dX7_adds_82 : decode cX7_adds 82 = .ok (.aload_n 0, 1) := by decide +kernel
theorem dX7_adds_83 : decode cX7_adds 83 = .ok (.aload_n 0, 1) := by decide +kernel
theorem dX7_adds_84 : decode cX7_adds 84 = .ok (.getfield 55, 3) := by decide +kernel
theorem dX7_adds_87 : decode cX7_adds 87 = .ok (.bipush 9, 2) := by decide +kernel
theorem dX7_adds_89 : decode cX7_adds 89 = .ok (.iload_n 2, 1) := by decide +kernel
theorem dX7_adds_90 : decode cX7_adds 90 = .ok (.invokevirtual 146, 3) := by decide +kernel
theorem dX7_adds_93 : decode cX7_adds 93 = .ok (.aload_n 0, 1) := by decide +kernel
theorem dX7_adds_94 : decode cX7_adds 94 = .ok (.aload_n 0, 1) := by decide +kernel
theorem dX7_adds_95 : decode cX7_adds 95 = .ok (.getfield 55, 3) := by decide +kernel
theorem dX7_adds_98 : decode cX7_adds 98 = .ok (.bipush 11, 2) := by decide +kernel
theorem dX7_adds_100 : decode cX7_adds 100 = .ok (.iconst 1, 1) := by decide +kernel
theorem dX7_adds_101 : decode cX7_adds 101 = .ok (.invokevirtual 146, 3) := by decide +kernel
theorem dX7_adds_104 : decode cX7_adds 104 = .ok (.aload_n 0, 1) := by decide +kernel
theorem dX7_adds_105 : decode cX7_adds 105 = .ok (.getfield 7, 3) := by decide +kernel
theorem dX7_adds_108 : decode cX7_adds 108 = .ok (.iconst 4, 1) := by decide +kernel
theorem dX7_adds_109 : decode cX7_adds 109 = .ok (.dup2, 1) := by decide +kernel
theorem dX7_adds_110 : decode cX7_adds 110 = .ok (.iaload, 1) := by decide +kernel
theorem dX7_adds_111 : decode cX7_adds 111 = .ok (.iconst 1, 1) := by decide +kernel
theorem dX7_adds_112 : decode cX7_adds 112 = .ok (.iadd, 1) := by decide +kernel
theorem dX7_adds_113 : decode cX7_adds 113 = .ok (.iastore, 1) := by decide +kernel
theorem dX7_adds_114 : decode cX7_adds 114 = .ok (.iconst 0, 1) := by decide +kernel
theorem dX7_adds_115 : decode cX7_adds 115 = .ok (.ireturn, 1) := by decide +kernel
theorem dX7_isCorner_0 : decode cX7_isCorner 0 = .ok (.iload_n 0, 1) := by decide +kernel
theorem dX7_isCorner_1 : decode cX7_isCorner 1 = .ok (.iconst 0, 1) := by decide +kernel
theorem dX7_isCorner_2 : decode cX7_isCorner 2 = .ok (.iconst 3, 1) := by decide +kernel
theorem dX7_isCorner_3 : decode cX7_isCorner 3 = .ok (.invokestatic 41, 3) := by decide +kernel
theorem dX7_isCorner_6 : decode cX7_isCorner 6 = .ok (.ireturn, 1) := by decide +kernel
theorem dX7_corners_0 : decode cX7_corners 0 = .ok (.aload_n 0, 1) := by decide +kernel
theorem dX7_corners_1 : decode cX7_corners 1 = .ok (.iload_n 1, 1) := by decide +kernel
theorem dX7_corners_2 : decode cX7_corners 2 = .ok (.invokevirtual 150, 3) := by decide +kernel
theorem dX7_corners_5 : decode cX7_corners 5 = .ok (.ifCond .eq 10, 3) := by decide +kernel
theorem dX7_corners_8 : decode cX7_corners 8 = .ok (.iload_n 2, 1) := by decide +kernel
theorem dX7_corners_9 : decode cX7_corners 9 = .ok (.invokestatic 153, 3) := by decide +kernel
theorem dX7_corners_12 : decode cX7_corners 12 = .ok (.ifCond .ne 5, 3) := by decide +kernel
theorem dX7_corners_15 : decode cX7_corners 15 = .ok (.iconst 1, 1) := by decide +kernel
theorem dX7_corners_16 : decode cX7_corners 16 = .ok (.ireturn, 1) := by decide +kernel
theorem dX7_corners_17 : decode cX7_corners 17 = .ok (.iload_n 3, 1) := by decide +kernel
theorem dX7_corners_18 : decode cX7_corners 18 = .ok (.bipush (-20), 2) := by decide +kernel
theorem dX7_corners_20 : decode cX7_corners 20 = .ok (.bipush 40, 2) := by decide +kernel
theorem dX7_corners_22 : decode cX7_corners 22 = .ok (.invokestatic 41, 3) := by decide +kernel
theorem dX7_corners_25 : decode cX7_corners 25 = .ok (.ifCond .eq 15, 3) := by decide +kernel
theorem dX7_corners_28 : decode cX7_corners 28 = .ok (.iload 4, 2) := by decide +kernel
theorem dX7_corners_30 : decode cX7_corners 30 = .ok (.bipush (-20), 2) := by decide +kernel
theorem dX7_corners_32 : decode cX7_corners 32 = .ok (.bipush 40, 2) := by decide +kernel
theorem dX7_corners_34 : decode cX7_corners 34 = .ok (.invokestatic 41, 3) := by decide +kernel
theorem dX7_corners_37 : decode cX7_corners 37 = .ok (.ifCond .ne 5, 3) := by decide +kernel
theorem dX7_corners_40 : decode cX7_corners 40 = .ok (.iconst 2, 1) := by decide +kernel
theorem dX7_corners_41 : decode cX7_corners 41 = .ok (.ireturn, 1) := by decide +kernel
theorem dX7_corners_42 : decode cX7_corners 42 = .ok (.aload_n 0, 1) := by decide +kernel
theorem dX7_corners_43 : decode cX7_corners 43 = .ok (.iload_n 1, 1) := by decide +kernel
theorem dX7_corners_44 : decode cX7_corners 44 = .ok (.iconst 0, 1) := by decide +kernel
theorem dX7_corners_45 : decode cX7_corners 45 = .ok (.iload_n 2, 1) := by decide +kernel
theorem dX7_corners_46 : decode cX7_corners 46 = .ok (.iadd, 1) := by decide +kernel
theorem dX7_corners_47 : decode cX7_corners 47 = .ok (.iload_n 3, 1) := by decide +kernel
theorem dX7_corners_48 : decode cX7_corners 48 = .ok (.invokevirtual 146, 3) := by decide +kernel
theorem dX7_corners_51 : decode cX7_corners 51 = .ok (.aload_n 0, 1) := by decide +kernel
theorem dX7_corners_52 : decode cX7_corners 52 = .ok (.iload_n 1, 1) := by decide +kernel
theorem dX7_corners_53 : decode cX7_corners 53 = .ok (.iconst 4, 1) := by decide +kernel
theorem dX7_corners_54 : decode cX7_corners 54 = .ok (.iload_n 2, 1) := by decide +kernel
theorem dX7_corners_55 : decode cX7_corners 55 = .ok (.iadd, 1) := by decide +kernel
theorem dX7_corners_56 : decode cX7_corners 56 = .ok (.iload 4, 2) := by decide +kernel
theorem dX7_corners_58 : decode cX7_corners 58 = .ok (.invokevirtual 146, 3) := by decide +kernel
theorem dX7_corners_61 : decode cX7_corners 61 = .ok (.aload_n 0, 1) := by decide +kernel
theorem dX7_corners_62 : decode cX7_corners 62 = .ok (.aload_n 0, 1) := by decide +kernel
theorem dX7_corners_63 : decode cX7_corners 63 = .ok (.iload_n 1, 1) := by decide +kernel
theorem dX7_corners_64 : decode cX7_corners 64 = .ok (.invokevirtual 83, 3) := by decide +kernel
theorem dX7_corners_67 : decode cX7_corners 67 = .ok (.ifCond .eq 7, 3) := by decide +kernel
theorem dX7_corners_70 : decode cX7_corners 70 = .ok (.iconst 1, 1) := by decide +kernel
theorem dX7_corners_71 : decode cX7_corners 71 = .ok (.goto 4, 3) := by decide +kernel
theorem dX7_corners_74 : decode cX7_corners 74 = .ok (.iconst 0, 1) := by decide +kernel
theorem dX7_corners_75 : decode cX7_corners 75 = .ok (.putfield 55, 3) := by decide +kernel
theorem dX7_corners_78 : decode cX7_corners 78 = .ok (.iconst 0, 1) := by decide +kernel
theorem dX7_corners_79 : decode cX7_corners 79 = .ok (.ireturn, 1) := by decide +kernel
theorem dX7_shifts_0 : decode cX7_shifts 0 = .ok (.iload_n 1, 1) := by decide +kernel
theorem dX7_shifts_1 : decode cX7_shifts 1 = .ok (.bipush (-10), 2) := by decide +kernel
theorem dX7_shifts_3 : decode cX7_shifts 3 = .ok (.bipush 10, 2) := by decide +kernel
theorem dX7_shifts_5 : decode cX7_shifts 5 = .ok (.invokestatic 41, 3) := by decide +kernel
theorem dX7_shifts_8 : decode cX7_shifts 8 = .ok (.ifCond .eq 14, 3) := by decide +kernel
theorem dX7_shifts_11 : decode cX7_shifts 11 = .ok (.iload_n 2, 1) := by decide +kernel
theorem dX7_shifts_12 : decode cX7_shifts 12 = .ok (.bipush (-10), 2) := by decide +kernel
theorem dX7_shifts_14 : decode cX7_shifts 14 = .ok (.bipush 10, 2) := by decide +kernel
theorem dX7_shifts_16 : decode cX7_shifts 16 = .ok (.invokestatic 41, 3) := by decide +kernel
theorem dX7_shifts_19 : decode cX7_shifts 19 = .ok (.ifCond .ne 5, 3) := by decide +kernel
theorem dX7_shifts_22 : decode cX7_shifts 22 = .ok (.iconst 1, 1) := by decide +kernel
theorem dX7_shifts_23 : decode cX7_shifts 23 = .ok (.ireturn, 1) := by decide +kernel
theorem dX7_shifts_24 : decode cX7_shifts 24 = .ok (.aload_n 0, 1) := by decide +kernel
theorem dX7_shifts_25 : decode cX7_shifts 25 = .ok (.getfield 7, 3) := by decide +kernel
theorem dX7_shifts_28 : decode cX7_shifts 28 = .ok (.iconst 2, 1) := by decide +kernel
theorem dX7_shifts_29 : decode cX7_shifts 29 = .ok (.iload_n 1, 1) := by decide +kernel
theorem dX7_shifts_30 : decode cX7_shifts 30 = .ok (.iastore, 1) := by decide +kernel
theorem dX7_shifts_31 : decode cX7_shifts 31 = .ok (.aload_n 0, 1) := by decide +kernel
theorem dX7_shifts_32 : decode cX7_shifts 32 = .ok (.getfield 7, 3) := by decide +kernel
theorem dX7_shifts_35 : decode cX7_shifts 35 = .ok (.iconst 3, 1) := by decide +kernel
theorem dX7_shifts_36 : decode cX7_shifts 36 = .ok (.iload_n 2, 1) := by decide +kernel
theorem dX7_shifts_37 : decode cX7_shifts 37 = .ok (.iastore, 1) := by decide +kernel
theorem dX7_shifts_38 : decode cX7_shifts 38 = .ok (.aload_n 0, 1) := by decide +kernel
theorem dX7_shifts_39 : decode cX7_shifts 39 = .ok (.aload_n 0, 1) := by decide +kernel
theorem dX7_shifts_40 : decode cX7_shifts 40 = .ok (.invokevirtual 156, 3) := by decide +kernel
theorem dX7_shifts_43 : decode cX7_shifts 43 = .ok (.putfield 55, 3) := by decide +kernel
theorem dX7_shifts_46 : decode cX7_shifts 46 = .ok (.iconst 0, 1) := by decide +kernel
theorem dX7_shifts_47 : decode cX7_shifts 47 = .ok (.ireturn, 1) := by decide +kernel
theorem dX7_works_0 : decode cX7_works 0 = .ok (.aload_n 0, 1) := by decide +kernel
theorem dX7_works_1 : decode cX7_works 1 = .ok (.iload_n 1, 1) := by decide +kernel
theorem dX7_works_2 : decode cX7_works 2 = .ok (.invokevirtual 150, 3) := by decide +kernel
theorem dX7_works_5 : decode cX7_works 5 = .ok (.ifCond .ne 5, 3) := by decide +kernel
theorem dX7_works_8 : decode cX7_works 8 = .ok (.iconst 1, 1) := by decide +kernel
theorem dX7_works_9 : decode cX7_works 9 = .ok (.ireturn, 1) := by decide +kernel
theorem dX7_works_10 : decode cX7_works 10 = .ok (.aload_n 0, 1) := by decide +kernel
theorem dX7_works_11 : decode cX7_works 11 = .ok (.aload_n 0, 1) := by decide +kernel
theorem dX7_works_12 : decode cX7_works 12 = .ok (.iload_n 1, 1) := by decide +kernel
theorem dX7_works_13 : decode cX7_works 13 = .ok (.bipush 11, 2) := by decide +kernel
theorem dX7_works_15 : decode cX7_works 15 = .ok (.invokevirtual 61, 3) := by decide +kernel
theorem dX7_works_18 : decode cX7_works 18 = .ok (.putfield 55, 3) := by decide +kernel
theorem dX7_works_21 : decode cX7_works 21 = .ok (.aload_n 0, 1) := by decide +kernel
theorem dX7_works_22 : decode cX7_works 22 = .ok (.iload_n 1, 1) := by decide +kernel
theorem dX7_works_23 : decode cX7_works 23 = .ok (.bipush 11, 2) := by decide +kernel
theorem dX7_works_25 : decode cX7_works 25 = .ok (.iload_n 2, 1) := by decide +kernel
theorem dX7_works_26 : decode cX7_works 26 = .ok (.ifCond .eq 7, 3) := by decide +kernel
theorem dX7_works_29 : decode cX7_works 29 = .ok (.iconst 1, 1) := by decide +kernel
theorem dX7_works_30 : decode cX7_works 30 = .ok (.goto 4, 3) := by decide +kernel
theorem dX7_works_33 : decode cX7_works 33 = .ok (.iconst 0, 1) := by decide +kernel
theorem dX7_works_34 : decode cX7_works 34 = .ok (.invokevirtual 146, 3) := by decide +kernel
theorem dX7_works_37 : decode cX7_works 37 = .ok (.iconst 0, 1) := by decide +kernel
theorem dX7_works_38 : decode cX7_works 38 = .ok (.ireturn, 1) := by decide +kernel
theorem dX7_burns_0 : decode cX7_burns 0 = .ok (.iload_n 1, 1) := by decide +kernel
theorem dX7_burns_1 : decode cX7_burns 1 = .ok (.iconst 1, 1) := by decide +kernel
theorem dX7_burns_2 : decode cX7_burns 2 = .ok (.sipush 9999, 3) := by decide +kernel
theorem dX7_burns_5 : decode cX7_burns 5 = .ok (.invokestatic 41, 3) := by decide +kernel
theorem dX7_burns_8 : decode cX7_burns 8 = .ok (.ifCond .ne 5, 3) := by decide +kernel
theorem dX7_burns_11 : decode cX7_burns 11 = .ok (.iconst 1, 1) := by decide +kernel
theorem dX7_burns_12 : decode cX7_burns 12 = .ok (.ireturn, 1) := by decide +kernel
theorem dX7_burns_13 : decode cX7_burns 13 = .ok (.iconst 0, 1) := by decide +kernel
theorem dX7_burns_14 : decode cX7_burns 14 = .ok (.istore_n 2, 1) := by decide +kernel
theorem dX7_burns_15 : decode cX7_burns 15 = .ok (.iload_n 2, 1) := by decide +kernel
theorem dX7_burns_16 : decode cX7_burns 16 = .ok (.aload_n 0, 1) := by decide +kernel
theorem dX7_burns_17 : decode cX7_burns 17 = .ok (.getfield 7, 3) := by decide +kernel
theorem dX7_burns_20 : decode cX7_burns 20 = .ok (.iconst 4, 1) := by decide +kernel
theorem dX7_burns_21 : decode cX7_burns 21 = .ok (.iaload, 1) := by decide +kernel
theorem dX7_burns_22 : decode cX7_burns 22 = .ok (.if_icmp .ge 20, 3) := by decide +kernel
theorem dX7_burns_25 : decode cX7_burns 25 = .ok (.aload_n 0, 1) := by decide +kernel
theorem dX7_burns_26 : decode cX7_burns 26 = .ok (.getfield 32, 3) := by decide +kernel
theorem dX7_burns_29 : decode cX7_burns 29 = .ok (.iload_n 2, 1) := by decide +kernel
theorem dX7_burns_30 : decode cX7_burns 30 = .ok (.aload_n 0, 1) := by decide +kernel
theorem dX7_burns_31 : decode cX7_burns 31 = .ok (.iload_n 2, 1) := by decide +kernel
theorem dX7_burns_32 : decode cX7_burns 32 = .ok (.invokevirtual 159, 3) := by decide +kernel
theorem dX7_burns_35 : decode cX7_burns 35 = .ok (.iastore, 1) := by decide +kernel
theorem dX7_burns_36 : decode cX7_burns 36 = .ok (.iinc 2 1, 3) := by decide +kernel
theorem dX7_burns_39 : decode cX7_burns 39 = .ok (.goto (-24), 3) := by decide +kernel
theorem dX7_burns_42 : decode cX7_burns 42 = .ok (.aload_n 0, 1) := by decide +kernel
theorem dX7_burns_43 : decode cX7_burns 43 = .ok (.iconst 0, 1) := by decide +kernel
theorem dX7_burns_44 : decode cX7_burns 44 = .ok (.putfield 55, 3) := by decide +kernel
theorem dX7_burns_47 : decode cX7_burns 47 = .ok (.iconst 0, 1) := by decide +kernel
theorem dX7_burns_48 : decode cX7_burns 48 = .ok (.istore_n 2, 1) := by decide +kernel
theorem dX7_burns_49 : decode cX7_burns 49 = .ok (.iload_n 2, 1) := by decide +kernel
theorem dX7_burns_50 : decode cX7_burns 50 = .ok (.aload_n 0, 1) := by decide +kernel
theorem dX7_burns_51 : decode cX7_burns 51 = .ok (.getfield 7, 3) := by decide +kernel
theorem dX7_burns_54 : decode cX7_burns 54 = .ok (.iconst 4, 1) := by decide +kernel
theorem dX7_burns_55 : decode cX7_burns 55 = .ok (.iaload, 1) := by decide +kernel
theorem dX7_burns_56 : decode cX7_burns 56 = .ok (.if_icmp .ge 84, 3) := by decide +kernel
theorem dX7_burns_59 : decode cX7_burns 59 = .ok (.aload_n 0, 1) := by decide +kernel
theorem dX7_burns_60 : decode cX7_burns 60 = .ok (.iload_n 2, 1) := by decide +kernel
theorem dX7_burns_61 : decode cX7_burns 61 = .ok (.bipush 11, 2) := by decide +kernel
theorem dX7_burns_63 : decode cX7_burns 63 = .ok (.invokevirtual 61, 3) := by decide +kernel
theorem dX7_burns_66 : decode cX7_burns 66 = .ok (.iconst 1, 1) := by decide +kernel
theorem dX7_burns_67 : decode cX7_burns 67 = .ok (.if_icmp .ne 35, 3) := by decide +kernel
theorem dX7_burns_70 : decode cX7_burns 70 = .ok (.aload_n 0, 1) := by decide +kernel
theorem dX7_burns_71 : decode cX7_burns 71 = .ok (.iload_n 2, 1) := by decide +kernel
theorem dX7_burns_72 : decode cX7_burns 72 = .ok (.bipush 10, 2) := by decide +kernel
theorem dX7_burns_74 : decode cX7_burns 74 = .ok (.sipush 900, 3) := by decide +kernel
theorem dX7_burns_77 : decode cX7_burns 77 = .ok (.aload_n 0, 1) := by decide +kernel
theorem dX7_burns_78 : decode cX7_burns 78 = .ok (.iload_n 2, 1) := by decide +kernel
theorem dX7_burns_79 : decode cX7_burns 79 = .ok (.bipush 10, 2) := by decide +kernel
theorem dX7_burns_81 : decode cX7_burns 81 = .ok (.invokevirtual 61, 3) := by decide +kernel
theorem dX7_burns_84 : decode cX7_burns 84 = .ok (.iload_n 1, 1) := by decide +kernel
theorem dX7_burns_85 : decode cX7_burns 85 = .ok (.aload_n 0, 1) := by decide +kernel
theorem dX7_burns_86 : decode cX7_burns 86 = .ok (.getfield 32, 3) := by decide +kernel
theorem dX7_burns_89 : decode cX7_burns 89 = .ok (.iload_n 2, 1) := by decide +kernel
theorem dX7_burns_90 : decode cX7_burns 90 = .ok (.iaload, 1) := by decide +kernel
theorem dX7_burns_91 : decode cX7_burns 91 = .ok (.imul, 1) := by decide +kernel
theorem dX7_burns_92 : decode cX7_burns 92 = .ok (.bipush 100, 2) := by decide +kernel
theorem dX7_burns_94 : decode cX7_burns 94 = .ok (.idiv, 1) := by decide +kernel
theorem dX7_burns_95 : decode cX7_burns 95 = .ok (.iadd, 1) := by decide +kernel
theorem dX7_burns_96 : decode cX7_burns 96 = .ok (.invokestatic 68, 3) := by decide +kernel
theorem dX7_burns_99 : decode cX7_burns 99 = .ok (.invokevirtual 146, 3) := by decide +kernel
theorem dX7_burns_102 : decode cX7_burns 102 = .ok (.aload_n 0, 1) := by decide +kernel
theorem dX7_burns_103 : decode cX7_burns 103 = .ok (.aload_n 0, 1) := by decide +kernel
theorem dX7_burns_104 : decode cX7_burns 104 = .ok (.iload_n 2, 1) := by decide +kernel
theorem dX7_burns_105 : decode cX7_burns 105 = .ok (.bipush 10, 2) := by decide +kernel
theorem dX7_burns_107 : decode cX7_burns 107 = .ok (.invokevirtual 61, 3) := by decide +kernel
theorem dX7_burns_110 : decode cX7_burns 110 = .ok (.aload_n 0, 1) := by decide +kernel
theorem dX7_burns_111 : decode cX7_burns 111 = .ok (.getfield 55, 3) := by decide +kernel
theorem dX7_burns_114 : decode cX7_burns 114 = .ok (.if_icmp .le 13, 3) := by decide +kernel
theorem dX7_burns_117 : decode cX7_burns 117 = .ok (.aload_n 0, 1) := by decide +kernel
theorem dX7_burns_118 : decode cX7_burns 118 = .ok (.iload_n 2, 1) := by decide +kernel
theorem dX7_burns_119 : decode cX7_burns 119 = .ok (.bipush 10, 2) := by decide +kernel
theorem dX7_burns_121 : decode cX7_burns 121 = .ok (.invokevirtual 61, 3) := by decide +kernel
theorem dX7_burns_124 : decode cX7_burns 124 = .ok (.goto 7, 3) := by decide +kernel
theorem dX7_burns_127 : decode cX7_burns 127 = .ok (.aload_n 0, 1) := by decide +kernel
theorem dX7_burns_128 : decode cX7_burns 128 = .ok (.getfield 55, 3) := by decide +kernel
theorem dX7_burns_131 : decode cX7_burns 131 = .ok (.putfield 55, 3) := by decide +kernel
theorem dX7_burns_134 : decode cX7_burns 134 = .ok (.iinc 2 1, 3) := by decide +kernel
theorem dX7_burns_137 : decode cX7_burns 137 = .ok (.goto (-88), 3) := by decide +kernel
theorem dX7_burns_140 : decode cX7_burns 140 = .ok (.aload_n 0, 1) := by decide +kernel
theorem dX7_burns_141 : decode cX7_burns 141 = .ok (.getfield 7, 3) := by decide +kernel
theorem dX7_burns_144 : decode cX7_burns 144 = .ok (.iconst 5, 1) := by decide +kernel
theorem dX7_burns_145 : decode cX7_burns 145 = .ok (.dup2, 1) := by decide +kernel
theorem dX7_burns_146 : decode cX7_burns 146 = .ok (.iaload, 1) := by decide +kernel
theorem dX7_burns_147 : decode cX7_burns 147 = .ok (.iload_n 1, 1) := by decide +kernel
theorem dX7_burns_148 : decode cX7_burns 148 = .ok (.iadd, 1) := by decide +kernel
theorem dX7_burns_149 : decode cX7_burns 149 = .ok (.iastore, 1) := by decide +kernel
theorem dX7_burns_150 : decode cX7_burns 150 = .ok (.iconst 0, 1) := by decide +kernel
theorem dX7_burns_151 : decode cX7_burns 151 = .ok (.ireturn, 1) := by decide +kernel
theorem dX7_begin_0 : decode cX7_begin 0 = .ok (.aload_n 0, 1) := by decide +kernel
theorem dX7_begin_1 : decode cX7_begin 1 = .ok (.invokevirtual 162, 3) := by decide +kernel
theorem dX7_begin_4 : decode cX7_begin 4 = .ok (.aload_n 0, 1) := by decide +kernel
theorem dX7_begin_5 : decode cX7_begin 5 = .ok (.aload_n 0, 1) := by decide +kernel
theorem dX7_begin_6 : decode cX7_begin 6 = .ok (.iload_n 1, 1) := by decide +kernel
theorem dX7_begin_7 : decode cX7_begin 7 = .ok (.iload_n 2, 1) := by decide +kernel
theorem dX7_begin_8 : decode cX7_begin 8 = .ok (.invokevirtual 165, 3) := by decide +kernel
theorem dX7_begin_11 : decode cX7_begin 11 = .ok (.invokevirtual 168, 3) := by decide +kernel
theorem dX7_begin_14 : decode cX7_begin 14 = .ok (.ireturn, 1) := by decide +kernel
theorem dX7_paint_0 : decode cX7_paint 0 = .ok (.aload_n 0, 1) := by decide +kernel
theorem dX7_paint_1 : decode cX7_paint 1 = .ok (.invokevirtual 162, 3) := by decide +kernel
theorem dX7_paint_4 : decode cX7_paint 4 = .ok (.aload_n 0, 1) := by decide +kernel
theorem dX7_paint_5 : decode cX7_paint 5 = .ok (.aload_n 0, 1) := by decide +kernel
theorem dX7_paint_6 : decode cX7_paint 6 = .ok (.iload_n 1, 1) := by decide +kernel
theorem dX7_paint_7 : decode cX7_paint 7 = .ok (.iload_n 2, 1) := by decide +kernel
theorem dX7_paint_8 : decode cX7_paint 8 = .ok (.iload_n 3, 1) := by decide +kernel
theorem dX7_paint_9 : decode cX7_paint 9 = .ok (.iload 4, 2) := by decide +kernel
theorem dX7_paint_11 : decode cX7_paint 11 = .ok (.iload 5, 2) := by decide +kernel
theorem dX7_paint_13 : decode cX7_paint 13 = .ok (.invokevirtual 171, 3) := by decide +kernel
theorem dX7_paint_16 : decode cX7_paint 16 = .ok (.invokevirtual 168, 3) := by decide +kernel
theorem dX7_paint_19 : decode cX7_paint 19 = .ok (.ireturn, 1) := by decide +kernel
theorem dX7_addLamp_0 : decode cX7_addLamp 0 = .ok (.aload_n 0, 1) := by decide +kernel
theorem dX7_addLamp_1 : decode cX7_addLamp 1 = .ok (.invokevirtual 162, 3) := by decide +kernel
theorem dX7_addLamp_4 : decode cX7_addLamp 4 = .ok (.aload_n 0, 1) := by decide +kernel
theorem dX7_addLamp_5 : decode cX7_addLamp 5 = .ok (.aload_n 0, 1) := by decide +kernel
theorem dX7_addLamp_6 : decode cX7_addLamp 6 = .ok (.iload_n 1, 1) := by decide +kernel
theorem dX7_addLamp_7 : decode cX7_addLamp 7 = .ok (.iload_n 2, 1) := by decide +kernel
theorem dX7_addLamp_8 : decode cX7_addLamp 8 = .ok (.invokevirtual 175, 3) := by decide +kernel
theorem dX7_addLamp_11 : decode cX7_addLamp 11 = .ok (.invokevirtual 168, 3) := by decide +kernel
theorem dX7_addLamp_14 : decode cX7_addLamp 14 = .ok (.ireturn, 1) := by decide +kernel
theorem dX7_setCorner_0 : decode cX7_setCorner 0 = .ok (.aload_n 0, 1) := by decide +kernel
theorem dX7_setCorner_1 : decode cX7_setCorner 1 = .ok (.invokevirtual 162, 3) := by decide +kernel
theorem dX7_setCorner_4 : decode cX7_setCorner 4 = .ok (.aload_n 0, 1) := by decide +kernel
theorem dX7_setCorner_5 : decode cX7_setCorner 5 = .ok (.aload_n 0, 1) := by decide +kernel
theorem dX7_setCorner_6 : decode cX7_setCorner 6 = .ok (.iload_n 1, 1) := by decide +kernel
theorem dX7_setCorner_7 : decode cX7_setCorner 7 = .ok (.iload_n 2, 1) := by decide +kernel
theorem dX7_setCorner_8 : decode cX7_setCorner 8 = .ok (.iload_n 3, 1) := by decide +kernel
theorem dX7_setCorner_9 : decode cX7_setCorner 9 = .ok (.iload 4, 2) := by decide +kernel
theorem dX7_setCorner_11 : decode cX7_setCorner 11 = .ok (.invokevirtual 178, 3) := by decide +kernel
theorem dX7_setCorner_14 : decode cX7_setCorner 14 = .ok (.invokevirtual 168, 3) := by decide +kernel
theorem dX7_setCorner_17 : decode cX7_setCorner 17 = .ok (.ireturn, 1) := by decide +kernel
theorem dX7_setRectangle_0 : decode cX7_setRectangle 0 = .ok (.aload_n 0, 1) := by decide +kernel
theorem dX7_setRectangle_1 : decode cX7_setRectangle 1 = .ok (.iload_n 1, 1) := by decide +kernel
theorem dX7_setRectangle_2 : decode cX7_setRectangle 2 = .ok (.invokevirtual 150, 3) := by decide +kernel
theorem dX7_setRectangle_5 : decode cX7_setRectangle 5 = .ok (.ifCond .ne 9, 3) := by decide +kernel
theorem dX7_setRectangle_8 : decode cX7_setRectangle 8 = .ok (.aload_n 0, 1) := by decide +kernel
theorem dX7_setRectangle_9 : decode cX7_setRectangle 9 = .ok (.iconst 1, 1) := by decide +kernel
theorem dX7_setRectangle_10 : decode cX7_setRectangle 10 = .ok (.invokevirtual 48, 3) := by decide +kernel
theorem dX7_setRectangle_13 : decode cX7_setRectangle 13 = .ok (.ireturn, 1) := by decide +kernel
theorem dX7_setRectangle_14 : decode cX7_setRectangle 14 = .ok (.iload_n 2, 1) := by decide +kernel
theorem dX7_setRectangle_15 : decode cX7_setRectangle 15 = .ok (.bipush (-20), 2) := by decide +kernel
theorem dX7_setRectangle_17 : decode cX7_setRectangle 17 = .ok (.bipush 39, 2) := by decide +kernel
theorem dX7_setRectangle_19 : decode cX7_setRectangle 19 = .ok (.invokestatic 41, 3) := by decide +kernel
theorem dX7_setRectangle_22 : decode cX7_setRectangle 22 = .ok (.ifCond .eq 40, 3) := by decide +kernel
theorem dX7_setRectangle_25 : decode cX7_setRectangle 25 = .ok (.iload_n 3, 1) := by decide +kernel
theorem dX7_setRectangle_26 : decode cX7_setRectangle 26 = .ok (.bipush (-20), 2) := by decide +kernel
theorem dX7_setRectangle_28 : decode cX7_setRectangle 28 = .ok (.bipush 39, 2) := by decide +kernel
theorem dX7_setRectangle_30 : decode cX7_setRectangle 30 = .ok (.invokestatic 41, 3) := by decide +kernel
theorem dX7_setRectangle_33 : decode cX7_setRectangle 33 = .ok (.ifCond .eq 29, 3) := by decide +kernel
theorem dX7_setRectangle_36 : decode cX7_setRectangle 36 = .ok (.iload 4, 2) := by decide +kernel
theorem dX7_setRectangle_38 : decode cX7_setRectangle 38 = .ok (.iload_n 2, 1) := by decide +kernel
theorem dX7_setRectangle_39 : decode cX7_setRectangle 39 = .ok (.iconst 1, 1) := by decide +kernel
theorem dX7_setRectangle_40 : decode cX7_setRectangle 40 = .ok (.iadd, 1) := by decide +kernel
theorem dX7_setRectangle_41 : decode cX7_setRectangle 41 = .ok (.bipush 40, 2) := by decide +kernel
theorem dX7_setRectangle_43 : decode cX7_setRectangle 43 = .ok (.invokestatic 41, 3) := by decide +kernel
theorem dX7_setRectangle_46 : decode cX7_setRectangle 46 = .ok (.ifCond .eq 16, 3) := by decide +kernel
theorem dX7_setRectangle_49 : decode cX7_setRectangle 49 = .ok (.iload 5, 2) := by decide +kernel
theorem dX7_setRectangle_51 : decode cX7_setRectangle 51 = .ok (.iload_n 3, 1) := by decide +kernel
theorem dX7_setRectangle_52 : decode cX7_setRectangle 52 = .ok (.iconst 1, 1) := by decide +kernel
theorem dX7_setRectangle_53 : decode cX7_setRectangle 53 = .ok (.iadd, 1) := by decide +kernel
theorem dX7_setRectangle_54 : decode cX7_setRectangle 54 = .ok (.bipush 40, 2) := by decide +kernel
theorem dX7_setRectangle_56 : decode cX7_setRectangle 56 = .ok (.invokestatic 41, 3) := by decide +kernel
theorem dX7_setRectangle_59 : decode cX7_setRectangle 59 = .ok (.ifCond .ne 9, 3) := by decide +kernel
theorem dX7_setRectangle_62 : decode cX7_setRectangle 62 = .ok (.aload_n 0, 1) := by decide +kernel
theorem dX7_setRectangle_63 : decode cX7_setRectangle 63 = .ok (.iconst 2, 1) := by decide +kernel
theorem dX7_setRectangle_64 : decode cX7_setRectangle 64 = .ok (.invokevirtual 48, 3) := by decide +kernel
theorem dX7_setRectangle_67 : decode cX7_setRectangle 67 = .ok (.ireturn, 1) := by decide +kernel
theorem dX7_setRectangle_68 : decode cX7_setRectangle 68 = .ok (.aload_n 0, 1) := by decide +kernel
theorem dX7_setRectangle_69 : decode cX7_setRectangle 69 = .ok (.invokevirtual 162, 3) := by decide +kernel
theorem dX7_setRectangle_72 : decode cX7_setRectangle 72 = .ok (.iconst 0, 1) := by decide +kernel
theorem dX7_setRectangle_73 : decode cX7_setRectangle 73 = .ok (.istore 6, 2) := by decide +kernel
theorem dX7_setRectangle_75 : decode cX7_setRectangle 75 = .ok (.iload 6, 2) := by decide +kernel
theorem dX7_setRectangle_77 : decode cX7_setRectangle 77 = .ok (.iconst 4, 1) := by decide +kernel
theorem dX7_setRectangle_78 : decode cX7_setRectangle 78 = .ok (.if_icmp .ge 56, 3) := by decide +kernel
theorem dX7_setRectangle_81 : decode cX7_setRectangle 81 = .ok (.aload_n 0, 1) := by decide +kernel
theorem dX7_setRectangle_82 : decode cX7_setRectangle 82 = .ok (.iload_n 1, 1) := by decide +kernel
theorem dX7_setRectangle_83 : decode cX7_setRectangle 83 = .ok (.iconst 0, 1) := by decide +kernel
theorem dX7_setRectangle_84 : decode cX7_setRectangle 84 = .ok (.iload 6, 2) := by decide +kernel
theorem dX7_setRectangle_86 : decode cX7_setRectangle 86 = .ok (.iadd, 1) := by decide +kernel
theorem dX7_setRectangle_87 : decode cX7_setRectangle 87 = .ok (.iload 6, 2) := by decide +kernel
theorem dX7_setRectangle_89 : decode cX7_setRectangle 89 = .ok (.ifCond .eq 9, 3) := by decide +kernel
theorem dX7_setRectangle_92 : decode cX7_setRectangle 92 = .ok (.iload 6, 2) := by decide +kernel
theorem dX7_setRectangle_94 : decode cX7_setRectangle 94 = .ok (.iconst 3, 1) := by decide +kernel
theorem dX7_setRectangle_95 : decode cX7_setRectangle 95 = .ok (.if_icmp .ne 7, 3) := by decide +kernel
theorem dX7_setRectangle_98 : decode cX7_setRectangle 98 = .ok (.iload_n 2, 1) := by decide +kernel
theorem dX7_setRectangle_99 : decode cX7_setRectangle 99 = .ok (.goto 5, 3) := by decide +kernel
theorem dX7_setRectangle_102 : decode cX7_setRectangle 102 = .ok (.iload 4, 2) := by decide +kernel
theorem dX7_setRectangle_104 : decode cX7_setRectangle 104 = .ok (.invokevirtual 146, 3) := by decide +kernel
theorem dX7_setRectangle_107 : decode cX7_setRectangle 107 = .ok (.aload_n 0, 1) := by decide +kernel
theorem dX7_setRectangle_108 : decode cX7_setRectangle 108 = .ok (.iload_n 1, 1) := by decide +kernel
theorem dX7_setRectangle_109 : decode cX7_setRectangle 109 = .ok (.iconst 4, 1) := by decide +kernel
theorem dX7_setRectangle_110 : decode cX7_setRectangle 110 = .ok (.iload 6, 2) := by decide +kernel
theorem dX7_setRectangle_112 : decode cX7_setRectangle 112 = .ok (.iadd, 1) := by decide +kernel
theorem dX7_setRectangle_113 : decode cX7_setRectangle 113 = .ok (.iload 6, 2) := by decide +kernel
theorem dX7_setRectangle_115 : decode cX7_setRectangle 115 = .ok (.iconst 2, 1) := by decide +kernel
theorem dX7_setRectangle_116 : decode cX7_setRectangle 116 = .ok (.if_icmp .ge 7, 3) := by decide +kernel
theorem dX7_setRectangle_119 : decode cX7_setRectangle 119 = .ok (.iload_n 3, 1) := by decide +kernel
theorem dX7_setRectangle_120 : decode cX7_setRectangle 120 = .ok (.goto 5, 3) := by decide +kernel
theorem dX7_setRectangle_123 : decode cX7_setRectangle 123 = .ok (.iload 5, 2) := by decide +kernel
theorem dX7_setRectangle_125 : decode cX7_setRectangle 125 = .ok (.invokevirtual 146, 3) := by decide +kernel
theorem dX7_setRectangle_128 : decode cX7_setRectangle 128 = .ok (.iinc 6 1, 3) := by decide +kernel
theorem dX7_setRectangle_131 : decode cX7_setRectangle 131 = .ok (.goto (-56), 3) := by decide +kernel
theorem dX7_setRectangle_134 : decode cX7_setRectangle 134 = .ok (.aload_n 0, 1) := by decide +kernel
theorem dX7_setRectangle_135 : decode cX7_setRectangle 135 = .ok (.iload_n 1, 1) := by decide +kernel
theorem dX7_setRectangle_136 : decode cX7_setRectangle 136 = .ok (.invokevirtual 139, 3) := by decide +kernel
theorem dX7_setRectangle_139 : decode cX7_setRectangle 139 = .ok (.aload_n 0, 1) := by decide +kernel
theorem dX7_setRectangle_140 : decode cX7_setRectangle 140 = .ok (.aload_n 0, 1) := by decide +kernel
theorem dX7_setRectangle_141 : decode cX7_setRectangle 141 = .ok (.getfield 121, 3) := by decide +kernel
theorem dX7_setRectangle_144 : decode cX7_setRectangle 144 = .ok (.putfield 55, 3) := by decide +kernel
theorem dX7_setRectangle_147 : decode cX7_setRectangle 147 = .ok (.aload_n 0, 1) := by decide +kernel
theorem dX7_setRectangle_148 : decode cX7_setRectangle 148 = .ok (.iconst 0, 1) := by decide +kernel
theorem dX7_setRectangle_149 : decode cX7_setRectangle 149 = .ok (.invokevirtual 168, 3) := by decide +kernel
theorem dX7_setRectangle_152 : decode cX7_setRectangle 152 = .ok (.ireturn, 1) := by decide +kernel
theorem dX7_setLamp_0 : decode cX7_setLamp 0 = .ok (.aload_n 0, 1) := by decide +kernel
theorem dX7_setLamp_1 : decode cX7_setLamp 1 = .ok (.iload_n 1, 1) := by decide +kernel
theorem dX7_setLamp_2 : decode cX7_setLamp 2 = .ok (.invokevirtual 150, 3) := by decide +kernel
theorem dX7_setLamp_5 : decode cX7_setLamp 5 = .ok (.ifCond .ne 9, 3) := by decide +kernel
theorem dX7_setLamp_8 : decode cX7_setLamp 8 = .ok (.aload_n 0, 1) := by decide +kernel
theorem dX7_setLamp_9 : decode cX7_setLamp 9 = .ok (.iconst 1, 1) := by decide +kernel
theorem dX7_setLamp_10 : decode cX7_setLamp 10 = .ok (.invokevirtual 48, 3) := by decide +kernel
theorem dX7_setLamp_13 : decode cX7_setLamp 13 = .ok (.ireturn, 1) := by decide +kernel
theorem dX7_setLamp_14 : decode cX7_setLamp 14 = .ok (.iload_n 2, 1) := by decide +kernel
theorem dX7_setLamp_15 : decode cX7_setLamp 15 = .ok (.iconst 0, 1) := by decide +kernel
theorem dX7_setLamp_16 : decode cX7_setLamp 16 = .ok (.iconst 2, 1) := by decide +kernel
theorem dX7_setLamp_17 : decode cX7_setLamp 17 = .ok (.invokestatic 41, 3) := by decide +kernel
theorem dX7_setLamp_20 : decode cX7_setLamp 20 = .ok (.ifCond .eq 25, 3) := by decide +kernel
theorem dX7_setLamp_23 : decode cX7_setLamp 23 = .ok (.iload_n 3, 1) := by decide +kernel
theorem dX7_setLamp_24 : decode cX7_setLamp 24 = .ok (.iconst 0, 1) := by decide +kernel
theorem dX7_setLamp_25 : decode cX7_setLamp 25 = .ok (.iload_n 2, 1) := by decide +kernel
theorem dX7_setLamp_26 : decode cX7_setLamp 26 = .ok (.iconst 2, 1) := by decide +kernel
theorem dX7_setLamp_27 : decode cX7_setLamp 27 = .ok (.if_icmp .ne 9, 3) := by decide +kernel
theorem dX7_setLamp_30 : decode cX7_setLamp 30 = .ok (.sipush 900, 3) := by decide +kernel
theorem dX7_setLamp_33 : decode cX7_setLamp 33 = .ok (.goto 6, 3) := by decide +kernel
theorem dX7_setLamp_36 : decode cX7_setLamp 36 = .ok (.sipush 255, 3) := by decide +kernel
theorem dX7_setLamp_39 : decode cX7_setLamp 39 = .ok (.invokestatic 41, 3) := by decide +kernel
theorem dX7_setLamp_42 : decode cX7_setLamp 42 = .ok (.ifCond .ne 9, 3) := by decide +kernel
theorem dX7_setLamp_45 : decode cX7_setLamp 45 = .ok (.aload_n 0, 1) := by decide +kernel
theorem dX7_setLamp_46 : decode cX7_setLamp 46 = .ok (.iconst 2, 1) := by decide +kernel
theorem dX7_setLamp_47 : decode cX7_setLamp 47 = .ok (.invokevirtual 48, 3) := by decide +kernel
theorem dX7_setLamp_50 : decode cX7_setLamp 50 = .ok (.ireturn, 1) := by decide +kernel
theorem dX7_setLamp_51 : decode cX7_setLamp 51 = .ok (.aload_n 0, 1) := by decide +kernel
theorem dX7_setLamp_52 : decode cX7_setLamp 52 = .ok (.invokevirtual 162, 3) := by decide +kernel
theorem dX7_setLamp_55 : decode cX7_setLamp 55 = .ok (.aload_n 0, 1) := by decide +kernel
theorem dX7_setLamp_56 : decode cX7_setLamp 56 = .ok (.aload_n 0, 1) := by decide +kernel
theorem dX7_setLamp_57 : decode cX7_setLamp 57 = .ok (.iload_n 1, 1) := by decide +kernel
theorem dX7_setLamp_58 : decode cX7_setLamp 58 = .ok (.bipush 8, 2) := by decide +kernel
theorem dX7_setLamp_60 : decode cX7_setLamp 60 = .ok (.iload_n 2, 1) := by decide +kernel
theorem dX7_setLamp_61 : decode cX7_setLamp 61 = .ok (.iadd, 1) := by decide +kernel
theorem dX7_setLamp_62 : decode cX7_setLamp 62 = .ok (.invokevirtual 61, 3) := by decide +kernel
theorem dX7_setLamp_65 : decode cX7_setLamp 65 = .ok (.putfield 55, 3) := by decide +kernel
theorem dX7_setLamp_68 : decode cX7_setLamp 68 = .ok (.aload_n 0, 1) := by decide +kernel
theorem dX7_setLamp_69 : decode cX7_setLamp 69 = .ok (.iload_n 1, 1) := by decide +kernel
theorem dX7_setLamp_70 : decode cX7_setLamp 70 = .ok (.bipush 8, 2) := by decide +kernel
theorem dX7_setLamp_72 : decode cX7_setLamp 72 = .ok (.iload_n 2, 1) := by decide +kernel
theorem dX7_setLamp_73 : decode cX7_setLamp 73 = .ok (.iadd, 1) := by decide +kernel
theorem dX7_setLamp_74 : decode cX7_setLamp 74 = .ok (.iload_n 3, 1) := by decide +kernel
theorem dX7_setLamp_75 : decode cX7_setLamp 75 = .ok (.invokevirtual 146, 3) := by decide +kernel
theorem dX7_setLamp_78 : decode cX7_setLamp 78 = .ok (.aload_n 0, 1) := by decide +kernel
theorem dX7_setLamp_79 : decode cX7_setLamp 79 = .ok (.iconst 0, 1) := by decide +kernel
theorem dX7_setLamp_80 : decode cX7_setLamp 80 = .ok (.invokevirtual 168, 3) := by decide +kernel
theorem dX7_setLamp_83 : decode cX7_setLamp 83 = .ok (.ireturn, 1) := by decide +kernel
theorem dX7_setWorks_0 : decode cX7_setWorks 0 = .ok (.aload_n 0, 1) := by decide +kernel
theorem dX7_setWorks_1 : decode cX7_setWorks 1 = .ok (.invokevirtual 162, 3) := by decide +kernel
theorem dX7_setWorks_4 : decode cX7_setWorks 4 = .ok (.aload_n 0, 1) := by decide +kernel
theorem dX7_setWorks_5 : decode cX7_setWorks 5 = .ok (.aload_n 0, 1) := by decide +kernel
theorem dX7_setWorks_6 : decode cX7_setWorks 6 = .ok (.iload_n 1, 1) := by decide +kernel
theorem dX7_setWorks_7 : decode cX7_setWorks 7 = .ok (.iload_n 2, 1) := by decide +kernel
theorem dX7_setWorks_8 : decode cX7_setWorks 8 = .ok (.invokevirtual 182, 3) := by decide +kernel
theorem dX7_setWorks_11 : decode cX7_setWorks 11 = .ok (.invokevirtual 168, 3) := by decide +kernel
theorem dX7_setWorks_14 : decode cX7_setWorks 14 = .ok (.ireturn, 1) := by decide +kernel
theorem dX7_shift_0 : decode cX7_shift 0 = .ok (.aload_n 0, 1) := by decide +kernel
theorem dX7_shift_1 : decode cX7_shift 1 = .ok (.invokevirtual 162, 3) := by decide +kernel
theorem dX7_shift_4 : decode cX7_shift 4 = .ok (.aload_n 0, 1) := by decide +kernel
theorem dX7_shift_5 : decode cX7_shift 5 = .ok (.aload_n 0, 1) := by decide +kernel
theorem dX7_shift_6 : decode cX7_shift 6 = .ok (.iload_n 1, 1) := by decide +kernel
theorem dX7_shift_7 : decode cX7_shift 7 = .ok (.iload_n 2, 1) := by decide +kernel
theorem dX7_shift_8 : decode cX7_shift 8 = .ok (.invokevirtual 186, 3) := by decide +kernel
theorem dX7_shift_11 : decode cX7_shift 11 = .ok (.invokevirtual 168, 3) := by decide +kernel
theorem dX7_shift_14 : decode cX7_shift 14 = .ok (.ireturn, 1) := by decide +kernel
theorem dX7_burn_0 : decode cX7_burn 0 = .ok (.aload_n 0, 1) := by decide +kernel
theorem dX7_burn_1 : decode cX7_burn 1 = .ok (.invokevirtual 162, 3) := by decide +kernel
theorem dX7_burn_4 : decode cX7_burn 4 = .ok (.aload_n 0, 1) := by decide +kernel
theorem dX7_burn_5 : decode cX7_burn 5 = .ok (.aload_n 0, 1) := by decide +kernel
theorem dX7_burn_6 : decode cX7_burn 6 = .ok (.iload_n 1, 1) := by decide +kernel
theorem dX7_burn_7 : decode cX7_burn 7 = .ok (.invokevirtual 189, 3) := by decide +kernel
theorem dX7_burn_10 : decode cX7_burn 10 = .ok (.invokevirtual 168, 3) := by decide +kernel
theorem dX7_burn_13 : decode cX7_burn 13 = .ok (.ireturn, 1) := by decide +kernel
theorem dX7_limits_0 : decode cX7_limits 0 = .ok (.iconst 0, 1) := by decide +kernel
theorem dX7_limits_1 : decode cX7_limits 1 = .ok (.istore_n 2, 1) := by decide +kernel
theorem dX7_limits_2 : decode cX7_limits 2 = .ok (.iconst 0, 1) := by decide +kernel
theorem dX7_limits_3 : decode cX7_limits 3 = .ok (.istore_n 3, 1) := by decide +kernel
theorem dX7_limits_4 : decode cX7_limits 4 = .ok (.iload_n 3, 1) := by decide +kernel
theorem dX7_limits_5 : decode cX7_limits 5 = .ok (.aload_n 0, 1) := by decide +kernel
theorem dX7_limits_6 : decode cX7_limits 6 = .ok (.getfield 7, 3) := by decide +kernel
theorem dX7_limits_9 : decode cX7_limits 9 = .ok (.iconst 4, 1) := by decide +kernel
theorem dX7_limits_10 : decode cX7_limits 10 = .ok (.iaload, 1) := by decide +kernel
theorem dX7_limits_11 : decode cX7_limits 11 = .ok (.if_icmp .ge 41, 3) := by decide +kernel
theorem dX7_limits_14 : decode cX7_limits 14 = .ok (.iload_n 2, 1) := by decide +kernel
theorem dX7_limits_15 : decode cX7_limits 15 = .ok (.aload_n 0, 1) := by decide +kernel
theorem dX7_limits_16 : decode cX7_limits 16 = .ok (.iload_n 3, 1) := by decide +kernel
theorem dX7_limits_17 : decode cX7_limits 17 = .ok (.invokevirtual 91, 3) := by decide +kernel
theorem dX7_limits_20 : decode cX7_limits 20 = .ok (.ifCond .ne 7, 3) := by decide +kernel
theorem dX7_limits_23 : decode cX7_limits 23 = .ok (.iconst 0, 1) := by decide +kernel
theorem dX7_limits_24 : decode cX7_limits 24 = .ok (.goto 20, 3) := by decide +kernel
theorem dX7_limits_27 : decode cX7_limits 27 = .ok (.iload_n 1, 1) := by decide +kernel
theorem dX7_limits_28 : decode cX7_limits 28 = .ok (.ifCond .eq 11, 3) := by decide +kernel
theorem dX7_limits_31 : decode cX7_limits 31 = .ok (.aload_n 0, 1) := by decide +kernel
theorem dX7_limits_32 : decode cX7_limits 32 = .ok (.iload_n 3, 1) := by decide +kernel
theorem dX7_limits_33 : decode cX7_limits 33 = .ok (.invokevirtual 105, 3) := by decide +kernel
theorem dX7_limits_36 : decode cX7_limits 36 = .ok (.goto 8, 3) := by decide +kernel
theorem dX7_limits_39 : decode cX7_limits 39 = .ok (.aload_n 0, 1) := by decide +kernel
theorem dX7_limits_40 : decode cX7_limits 40 = .ok (.iload_n 3, 1) := by decide +kernel
theorem dX7_limits_41 : decode cX7_limits 41 = .ok (.invokevirtual 65, 3) := by decide +kernel
theorem dX7_limits_44 : decode cX7_limits 44 = .ok (.iadd, 1) := by decide +kernel
theorem dX7_limits_45 : decode cX7_limits 45 = .ok (.istore_n 2, 1) := by decide +kernel
theorem dX7_limits_46 : decode cX7_limits 46 = .ok (.iinc 3 1, 3) := by decide +kernel
theorem dX7_limits_49 : decode cX7_limits 49 = .ok (.goto (-45), 3) := by decide +kernel
theorem dX7_limits_52 : decode cX7_limits 52 = .ok (.iload_n 2, 1) := by decide +kernel
theorem dX7_limits_53 : decode cX7_limits 53 = .ok (.ireturn, 1) := by decide +kernel
theorem dX7_placeOf_0 : decode cX7_placeOf 0 = .ok (.aload_n 0, 1) := by decide +kernel
theorem dX7_placeOf_1 : decode cX7_placeOf 1 = .ok (.iload_n 1, 1) := by decide +kernel
theorem dX7_placeOf_2 : decode cX7_placeOf 2 = .ok (.iload_n 2, 1) := by decide +kernel
theorem dX7_placeOf_3 : decode cX7_placeOf 3 = .ok (.invokevirtual 115, 3) := by decide +kernel
theorem dX7_placeOf_6 : decode cX7_placeOf 6 = .ok (.iload_n 3, 1) := by decide +kernel
theorem dX7_placeOf_7 : decode cX7_placeOf 7 = .ok (.tableswitch 53 0 3 #[29, 36, 41, 48], 29) := by decide +kernel
theorem dX7_placeOf_36 : decode cX7_placeOf 36 = .ok (.aload_n 0, 1) := by decide +kernel
theorem dX7_placeOf_37 : decode cX7_placeOf 37 = .ok (.iload_n 1, 1) := by decide +kernel
theorem dX7_placeOf_38 : decode cX7_placeOf 38 = .ok (.iload_n 2, 1) := by decide +kernel
theorem dX7_placeOf_39 : decode cX7_placeOf 39 = .ok (.invokevirtual 94, 3) := by decide +kernel
theorem dX7_placeOf_42 : decode cX7_placeOf 42 = .ok (.ireturn, 1) := by decide +kernel
theorem dX7_placeOf_43 : decode cX7_placeOf 43 = .ok (.aload_n 0, 1) := by decide +kernel
theorem dX7_placeOf_44 : decode cX7_placeOf 44 = .ok (.getfield 112, 3) := by decide +kernel
theorem dX7_placeOf_47 : decode cX7_placeOf 47 = .ok (.ireturn, 1) := by decide +kernel
theorem dX7_placeOf_48 : decode cX7_placeOf 48 = .ok (.aload_n 0, 1) := by decide +kernel
theorem dX7_placeOf_49 : decode cX7_placeOf 49 = .ok (.iload_n 1, 1) := by decide +kernel
theorem dX7_placeOf_50 : decode cX7_placeOf 50 = .ok (.iload_n 2, 1) := by decide +kernel
theorem dX7_placeOf_51 : decode cX7_placeOf 51 = .ok (.invokevirtual 118, 3) := by decide +kernel
theorem dX7_placeOf_54 : decode cX7_placeOf 54 = .ok (.ireturn, 1) := by decide +kernel
theorem dX7_placeOf_55 : decode cX7_placeOf 55 = .ok (.aload_n 0, 1) := by decide +kernel
theorem dX7_placeOf_56 : decode cX7_placeOf 56 = .ok (.getfield 80, 3) := by decide +kernel
theorem dX7_placeOf_59 : decode cX7_placeOf 59 = .ok (.ireturn, 1) := by decide +kernel
theorem dX7_placeOf_60 : decode cX7_placeOf 60 = .ok (.aload_n 0, 1) := by decide +kernel
theorem dX7_placeOf_61 : decode cX7_placeOf 61 = .ok (.iload_n 3, 1) := by decide +kernel
theorem dX7_placeOf_62 : decode cX7_placeOf 62 = .ok (.iconst 5, 1) := by decide +kernel
theorem dX7_placeOf_63 : decode cX7_placeOf 63 = .ok (.if_icmp .ne 7, 3) := by decide +kernel
theorem dX7_placeOf_66 : decode cX7_placeOf 66 = .ok (.iconst 1, 1) := by decide +kernel
theorem dX7_placeOf_67 : decode cX7_placeOf 67 = .ok (.goto 4, 3) := by decide +kernel
theorem dX7_placeOf_70 : decode cX7_placeOf 70 = .ok (.iconst 0, 1) := by decide +kernel
theorem dX7_placeOf_71 : decode cX7_placeOf 71 = .ok (.invokevirtual 192, 3) := by decide +kernel
theorem dX7_placeOf_74 : decode cX7_placeOf 74 = .ok (.ireturn, 1) := by decide +kernel
theorem dX7_place_0 : decode cX7_place 0 = .ok (.aload_n 0, 1) := by decide +kernel
theorem dX7_place_1 : decode cX7_place 1 = .ok (.iload_n 1, 1) := by decide +kernel
theorem dX7_place_2 : decode cX7_place 2 = .ok (.iload_n 2, 1) := by decide +kernel
theorem dX7_place_3 : decode cX7_place 3 = .ok (.invokevirtual 142, 3) := by decide +kernel
theorem dX7_place_6 : decode cX7_place 6 = .ok (.ifCond .ne 9, 3) := by decide +kernel
theorem dX7_place_9 : decode cX7_place 9 = .ok (.aload_n 0, 1) := by decide +kernel
theorem dX7_place_10 : decode cX7_place 10 = .ok (.iconst 1, 1) := by decide +kernel
theorem dX7_place_11 : decode cX7_place 11 = .ok (.invokevirtual 48, 3) := by decide +kernel
theorem dX7_place_14 : decode cX7_place 14 = .ok (.ireturn, 1) := by decide +kernel
theorem dX7_place_15 : decode cX7_place 15 = .ok (.iload_n 3, 1) := by decide +kernel
theorem dX7_place_16 : decode cX7_place 16 = .ok (.iconst 0, 1) := by decide +kernel
theorem dX7_place_17 : decode cX7_place 17 = .ok (.iconst 5, 1) := by decide +kernel
theorem dX7_place_18 : decode cX7_place 18 = .ok (.invokestatic 41, 3) := by decide +kernel
theorem dX7_place_21 : decode cX7_place 21 = .ok (.ifCond .eq 17, 3) := by decide +kernel
theorem dX7_place_24 : decode cX7_place 24 = .ok (.aload_n 0, 1) := by decide +kernel
theorem dX7_place_25 : decode cX7_place 25 = .ok (.aload_n 0, 1) := by decide +kernel
theorem dX7_place_26 : decode cX7_place 26 = .ok (.iload_n 1, 1) := by decide +kernel
theorem dX7_place_27 : decode cX7_place 27 = .ok (.iload_n 2, 1) := by decide +kernel
theorem dX7_place_28 : decode cX7_place 28 = .ok (.iload_n 3, 1) := by decide +kernel
theorem dX7_place_29 : decode cX7_place 29 = .ok (.invokevirtual 196, 3) := by decide +kernel
theorem dX7_place_32 : decode cX7_place 32 = .ok (.invokevirtual 58, 3) := by decide +kernel
theorem dX7_place_35 : decode cX7_place 35 = .ok (.goto 8, 3) := by decide +kernel
theorem dX7_place_38 : decode cX7_place 38 = .ok (.aload_n 0, 1) := by decide +kernel
theorem dX7_place_39 : decode cX7_place 39 = .ok (.iconst 2, 1) := by decide +kernel
theorem dX7_place_40 : decode cX7_place 40 = .ok (.invokevirtual 48, 3) := by decide +kernel
theorem dX7_place_43 : decode cX7_place 43 = .ok (.ireturn, 1) := by decide +kernel
theorem dX7_lightOf_0 : decode cX7_lightOf 0 = .ok (.aload_n 0, 1) := by decide +kernel
theorem dX7_lightOf_1 : decode cX7_lightOf 1 = .ok (.iload_n 2, 1) := by decide +kernel
theorem dX7_lightOf_2 : decode cX7_lightOf 2 = .ok (.iload_n 3, 1) := by decide +kernel
theorem dX7_lightOf_3 : decode cX7_lightOf 3 = .ok (.invokevirtual 115, 3) := by decide +kernel
theorem dX7_lightOf_6 : decode cX7_lightOf 6 = .ok (.aload_n 0, 1) := by decide +kernel
theorem dX7_lightOf_7 : decode cX7_lightOf 7 = .ok (.iload_n 1, 1) := by decide +kernel
theorem dX7_lightOf_8 : decode cX7_lightOf 8 = .ok (.invokevirtual 91, 3) := by decide +kernel
theorem dX7_lightOf_11 : decode cX7_lightOf 11 = .ok (.ifCond .eq 12, 3) := by decide +kernel
theorem dX7_lightOf_14 : decode cX7_lightOf 14 = .ok (.aload_n 0, 1) := by decide +kernel
theorem dX7_lightOf_15 : decode cX7_lightOf 15 = .ok (.getfield 29, 3) := by decide +kernel
theorem dX7_lightOf_18 : decode cX7_lightOf 18 = .ok (.iload_n 1, 1) := by decide +kernel
theorem dX7_lightOf_19 : decode cX7_lightOf 19 = .ok (.iaload, 1) := by decide +kernel
theorem dX7_lightOf_20 : decode cX7_lightOf 20 = .ok (.goto 6, 3) := by decide +kernel
theorem dX7_lightOf_23 : decode cX7_lightOf 23 = .ok (.sipush (-1000), 3) := by decide +kernel
theorem dX7_lightOf_26 : decode cX7_lightOf 26 = .ok (.ireturn, 1) := by decide +kernel
theorem dX7_light_0 : decode cX7_light 0 = .ok (.aload_n 0, 1) := by decide +kernel
theorem dX7_light_1 : decode cX7_light 1 = .ok (.iload_n 1, 1) := by decide +kernel
theorem dX7_light_2 : decode cX7_light 2 = .ok (.invokevirtual 150, 3) := by decide +kernel
theorem dX7_light_5 : decode cX7_light 5 = .ok (.ifCond .eq 26, 3) := by decide +kernel
theorem dX7_light_8 : decode cX7_light 8 = .ok (.aload_n 0, 1) := by decide +kernel
theorem dX7_light_9 : decode cX7_light 9 = .ok (.iload_n 2, 1) := by decide +kernel
theorem dX7_light_10 : decode cX7_light 10 = .ok (.iload_n 3, 1) := by decide +kernel
theorem dX7_light_11 : decode cX7_light 11 = .ok (.invokevirtual 142, 3) := by decide +kernel
theorem dX7_light_14 : decode cX7_light 14 = .ok (.ifCond .eq 17, 3) := by decide +kernel
theorem dX7_light_17 : decode cX7_light 17 = .ok (.aload_n 0, 1) := by decide +kernel
theorem dX7_light_18 : decode cX7_light 18 = .ok (.aload_n 0, 1) := by decide +kernel
theorem dX7_light_19 : decode cX7_light 19 = .ok (.iload_n 1, 1) := by decide +kernel
theorem dX7_light_20 : decode cX7_light 20 = .ok (.iload_n 2, 1) := by decide +kernel
theorem dX7_light_21 : decode cX7_light 21 = .ok (.iload_n 3, 1) := by decide +kernel
theorem dX7_light_22 : decode cX7_light 22 = .ok (.invokevirtual 199, 3) := by decide +kernel
theorem dX7_light_25 : decode cX7_light 25 = .ok (.invokevirtual 58, 3) := by decide +kernel
theorem dX7_light_28 : decode cX7_light 28 = .ok (.goto 8, 3) := by decide +kernel
theorem dX7_light_31 : decode cX7_light 31 = .ok (.aload_n 0, 1) := by decide +kernel
theorem dX7_light_32 : decode cX7_light 32 = .ok (.iconst 1, 1) := by decide +kernel
theorem dX7_light_33 : decode cX7_light 33 = .ok (.invokevirtual 48, 3) := by decide +kernel
theorem dX7_light_36 : decode cX7_light 36 = .ok (.ireturn, 1) := by decide +kernel
theorem dX7_weight_0 : decode cX7_weight 0 = .ok (.aload_n 0, 1) := by decide +kernel
theorem dX7_weight_1 : decode cX7_weight 1 = .ok (.iload_n 1, 1) := by decide +kernel
theorem dX7_weight_2 : decode cX7_weight 2 = .ok (.invokevirtual 150, 3) := by decide +kernel
theorem dX7_weight_5 : decode cX7_weight 5 = .ok (.ifCond .eq 12, 3) := by decide +kernel
theorem dX7_weight_8 : decode cX7_weight 8 = .ok (.aload_n 0, 1) := by decide +kernel
theorem dX7_weight_9 : decode cX7_weight 9 = .ok (.iload_n 2, 1) := by decide +kernel
theorem dX7_weight_10 : decode cX7_weight 10 = .ok (.iload_n 3, 1) := by decide +kernel
theorem dX7_weight_11 : decode cX7_weight 11 = .ok (.invokevirtual 142, 3) := by decide +kernel
theorem dX7_weight_14 : decode cX7_weight 14 = .ok (.ifCond .ne 9, 3) := by decide +kernel
theorem dX7_weight_17 : decode cX7_weight 17 = .ok (.aload_n 0, 1) := by decide +kernel
theorem dX7_weight_18 : decode cX7_weight 18 = .ok (.iconst 1, 1) := by decide +kernel
theorem dX7_weight_19 : decode cX7_weight 19 = .ok (.invokevirtual 48, 3) := by decide +kernel
theorem dX7_weight_22 : decode cX7_weight 22 = .ok (.ireturn, 1) := by decide +kernel
theorem dX7_weight_23 : decode cX7_weight 23 = .ok (.aload_n 0, 1) := by decide +kernel
theorem dX7_weight_24 : decode cX7_weight 24 = .ok (.iload_n 2, 1) := by decide +kernel
theorem dX7_weight_25 : decode cX7_weight 25 = .ok (.iload_n 3, 1) := by decide +kernel
theorem dX7_weight_26 : decode cX7_weight 26 = .ok (.invokevirtual 97, 3) := by decide +kernel
theorem dX7_weight_29 : decode cX7_weight 29 = .ok (.aload_n 0, 1) := by decide +kernel
theorem dX7_weight_30 : decode cX7_weight 30 = .ok (.aload_n 0, 1) := by decide +kernel
theorem dX7_weight_31 : decode cX7_weight 31 = .ok (.iload_n 1, 1) := by decide +kernel
theorem dX7_weight_32 : decode cX7_weight 32 = .ok (.invokevirtual 91, 3) := by decide +kernel
theorem dX7_weight_35 : decode cX7_weight 35 = .ok (.ifCond .eq 12, 3) := by decide +kernel
theorem dX7_weight_38 : decode cX7_weight 38 = .ok (.aload_n 0, 1) := by decide +kernel
theorem dX7_weight_39 : decode cX7_weight 39 = .ok (.getfield 26, 3) := by decide +kernel
theorem dX7_weight_42 : decode cX7_weight 42 = .ok (.iload_n 1, 1) := by decide +kernel
theorem dX7_weight_43 : decode cX7_weight 43 = .ok (.iaload, 1) := by decide +kernel
theorem dX7_weight_44 : decode cX7_weight 44 = .ok (.goto 6, 3) := by decide +kernel
theorem dX7_weight_47 : decode cX7_weight 47 = .ok (.sipush (-1000), 3) := by decide +kernel
theorem dX7_weight_50 : decode cX7_weight 50 = .ok (.invokevirtual 58, 3) := by decide +kernel
theorem dX7_weight_53 : decode cX7_weight 53 = .ok (.ireturn, 1) := by decide +kernel
theorem dX7_lampOf_0 : decode cX7_lampOf 0 = .ok (.iload_n 2, 1) := by decide +kernel
theorem dX7_lampOf_1 : decode cX7_lampOf 1 = .ok (.iconst 4, 1) := by decide +kernel
theorem dX7_lampOf_2 : decode cX7_lampOf 2 = .ok (.if_icmp .ge 13, 3) := by decide +kernel
theorem dX7_lampOf_5 : decode cX7_lampOf 5 = .ok (.aload_n 0, 1) := by decide +kernel
theorem dX7_lampOf_6 : decode cX7_lampOf 6 = .ok (.iload_n 1, 1) := by decide +kernel
theorem dX7_lampOf_7 : decode cX7_lampOf 7 = .ok (.bipush 8, 2) := by decide +kernel
theorem dX7_lampOf_9 : decode cX7_lampOf 9 = .ok (.iload_n 2, 1) := by decide +kernel
theorem dX7_lampOf_10 : decode cX7_lampOf 10 = .ok (.iadd, 1) := by decide +kernel
theorem dX7_lampOf_11 : decode cX7_lampOf 11 = .ok (.invokevirtual 61, 3) := by decide +kernel
theorem dX7_lampOf_14 : decode cX7_lampOf 14 = .ok (.ireturn, 1) := by decide +kernel
theorem dX7_lampOf_15 : decode cX7_lampOf 15 = .ok (.iload_n 2, 1) := by decide +kernel
theorem dX7_lampOf_16 : decode cX7_lampOf 16 = .ok (.bipush 7, 2) := by decide +kernel
theorem dX7_lampOf_18 : decode cX7_lampOf 18 = .ok (.if_icmp .ge 43, 3) := by decide +kernel
theorem dX7_lampOf_21 : decode cX7_lampOf 21 = .ok (.iload_n 2, 1) := by decide +kernel
theorem dX7_lampOf_22 : decode cX7_lampOf 22 = .ok (.iconst 4, 1) := by decide +kernel
theorem dX7_lampOf_23 : decode cX7_lampOf 23 = .ok (.if_icmp .ne 11, 3) := by decide +kernel
theorem dX7_lampOf_26 : decode cX7_lampOf 26 = .ok (.aload_n 0, 1) := by decide +kernel
theorem dX7_lampOf_27 : decode cX7_lampOf 27 = .ok (.iload_n 1, 1) := by decide +kernel
theorem dX7_lampOf_28 : decode cX7_lampOf 28 = .ok (.invokevirtual 65, 3) := by decide +kernel
theorem dX7_lampOf_31 : decode cX7_lampOf 31 = .ok (.goto 29, 3) := by decide +kernel
theorem dX7_lampOf_34 : decode cX7_lampOf 34 = .ok (.iload_n 2, 1) := by decide +kernel
theorem dX7_lampOf_35 : decode cX7_lampOf 35 = .ok (.iconst 5, 1) := by decide +kernel
theorem dX7_lampOf_36 : decode cX7_lampOf 36 = .ok (.if_icmp .ne 11, 3) := by decide +kernel
theorem dX7_lampOf_39 : decode cX7_lampOf 39 = .ok (.aload_n 0, 1) := by decide +kernel
theorem dX7_lampOf_40 : decode cX7_lampOf 40 = .ok (.iload_n 1, 1) := by decide +kernel
theorem dX7_lampOf_41 : decode cX7_lampOf 41 = .ok (.invokevirtual 105, 3) := by decide +kernel
theorem dX7_lampOf_44 : decode cX7_lampOf 44 = .ok (.goto 16, 3) := by decide +kernel
theorem dX7_lampOf_47 : decode cX7_lampOf 47 = .ok (.aload_n 0, 1) := by decide +kernel
theorem dX7_lampOf_48 : decode cX7_lampOf 48 = .ok (.iload_n 1, 1) := by decide +kernel
theorem dX7_lampOf_49 : decode cX7_lampOf 49 = .ok (.invokevirtual 83, 3) := by decide +kernel
theorem dX7_lampOf_52 : decode cX7_lampOf 52 = .ok (.ifCond .eq 7, 3) := by decide +kernel
theorem dX7_lampOf_55 : decode cX7_lampOf 55 = .ok (.iconst 1, 1) := by decide +kernel
theorem dX7_lampOf_56 : decode cX7_lampOf 56 = .ok (.goto 4, 3) := by decide +kernel
theorem dX7_lampOf_59 : decode cX7_lampOf 59 = .ok (.iconst 0, 1) := by decide +kernel
theorem dX7_lampOf_60 : decode cX7_lampOf 60 = .ok (.ireturn, 1) := by decide +kernel
theorem dX7_lampOf_61 : decode cX7_lampOf 61 = .ok (.aload_n 0, 1) := by decide +kernel
theorem dX7_lampOf_62 : decode cX7_lampOf 62 = .ok (.iload_n 1, 1) := by decide +kernel
theorem dX7_lampOf_63 : decode cX7_lampOf 63 = .ok (.invokevirtual 159, 3) := by decide +kernel
theorem dX7_lampOf_66 : decode cX7_lampOf 66 = .ok (.istore_n 3, 1) := by decide +kernel
theorem dX7_lampOf_67 : decode cX7_lampOf 67 = .ok (.iload_n 2, 1) := by decide +kernel
theorem dX7_lampOf_68 : decode cX7_lampOf 68 = .ok (.bipush 7, 2) := by decide +kernel
theorem dX7_lampOf_70 : decode cX7_lampOf 70 = .ok (.if_icmp .ne 10, 3) := by decide +kernel
theorem dX7_lampOf_73 : decode cX7_lampOf 73 = .ok (.aload_n 0, 1) := by decide +kernel
theorem dX7_lampOf_74 : decode cX7_lampOf 74 = .ok (.getfield 121, 3) := by decide +kernel
theorem dX7_lampOf_77 : decode cX7_lampOf 77 = .ok (.goto 43, 3) := by decide +kernel
theorem dX7_lampOf_80 : decode cX7_lampOf 80 = .ok (.iload_n 2, 1) := by decide +kernel
theorem dX7_lampOf_81 : decode cX7_lampOf 81 = .ok (.bipush 8, 2) := by decide +kernel
theorem dX7_lampOf_83 : decode cX7_lampOf 83 = .ok (.if_icmp .ne 10, 3) := by decide +kernel
theorem dX7_lampOf_86 : decode cX7_lampOf 86 = .ok (.aload_n 0, 1) := by decide +kernel
theorem dX7_lampOf_87 : decode cX7_lampOf 87 = .ok (.getfield 124, 3) := by decide +kernel
theorem dX7_lampOf_90 : decode cX7_lampOf 90 = .ok (.goto 30, 3) := by decide +kernel
theorem dX7_lampOf_93 : decode cX7_lampOf 93 = .ok (.iload_n 2, 1) := by decide +kernel
theorem dX7_lampOf_94 : decode cX7_lampOf 94 = .ok (.bipush 9, 2) := by decide +kernel
theorem dX7_lampOf_96 : decode cX7_lampOf 96 = .ok (.if_icmp .ne 7, 3) := by decide +kernel
theorem dX7_lampOf_99 : decode cX7_lampOf 99 = .ok (.iload_n 3, 1) := by decide +kernel
theorem dX7_lampOf_100 : decode cX7_lampOf 100 = .ok (.goto 20, 3) := by decide +kernel
theorem dX7_lampOf_103 : decode cX7_lampOf 103 = .ok (.iload_n 2, 1) := by decide +kernel
theorem dX7_lampOf_104 : decode cX7_lampOf 104 = .ok (.bipush 10, 2) := by decide +kernel
theorem dX7_lampOf_106 : decode cX7_lampOf 106 = .ok (.if_icmp .ne 10, 3) := by decide +kernel
theorem dX7_lampOf_109 : decode cX7_lampOf 109 = .ok (.aload_n 0, 1) := by decide +kernel
theorem dX7_lampOf_110 : decode cX7_lampOf 110 = .ok (.getfield 127, 3) := by decide +kernel
theorem dX7_lampOf_113 : decode cX7_lampOf 113 = .ok (.goto 7, 3) := by decide +kernel
theorem dX7_lampOf_116 : decode cX7_lampOf 116 = .ok (.aload_n 0, 1) := by decide +kernel
theorem dX7_lampOf_117 : decode cX7_lampOf 117 = .ok (.getfield 130, 3) := by decide +kernel
theorem dX7_lampOf_120 : decode cX7_lampOf 120 = .ok (.ireturn, 1) := by decide +kernel
theorem dX7_lamp_0 : decode cX7_lamp 0 = .ok (.aload_n 0, 1) := by decide +kernel
theorem dX7_lamp_1 : decode cX7_lamp 1 = .ok (.iload_n 1, 1) := by decide +kernel
theorem dX7_lamp_2 : decode cX7_lamp 2 = .ok (.invokevirtual 150, 3) := by decide +kernel
theorem dX7_lamp_5 : decode cX7_lamp 5 = .ok (.ifCond .ne 9, 3) := by decide +kernel
theorem dX7_lamp_8 : decode cX7_lamp 8 = .ok (.aload_n 0, 1) := by decide +kernel
theorem dX7_lamp_9 : decode cX7_lamp 9 = .ok (.iconst 1, 1) := by decide +kernel
theorem dX7_lamp_10 : decode cX7_lamp 10 = .ok (.invokevirtual 48, 3) := by decide +kernel
theorem dX7_lamp_13 : decode cX7_lamp 13 = .ok (.ireturn, 1) := by decide +kernel
theorem dX7_lamp_14 : decode cX7_lamp 14 = .ok (.iload_n 2, 1) := by decide +kernel
theorem dX7_lamp_15 : decode cX7_lamp 15 = .ok (.iconst 0, 1) := by decide +kernel
theorem dX7_lamp_16 : decode cX7_lamp 16 = .ok (.bipush 11, 2) := by decide +kernel
theorem dX7_lamp_18 : decode cX7_lamp 18 = .ok (.invokestatic 41, 3) := by decide +kernel
theorem dX7_lamp_21 : decode cX7_lamp 21 = .ok (.ifCond .eq 16, 3) := by decide +kernel
theorem dX7_lamp_24 : decode cX7_lamp 24 = .ok (.aload_n 0, 1) := by decide +kernel
theorem dX7_lamp_25 : decode cX7_lamp 25 = .ok (.aload_n 0, 1) := by decide +kernel
theorem dX7_lamp_26 : decode cX7_lamp 26 = .ok (.iload_n 1, 1) := by decide +kernel
theorem dX7_lamp_27 : decode cX7_lamp 27 = .ok (.iload_n 2, 1) := by decide +kernel
theorem dX7_lamp_28 : decode cX7_lamp 28 = .ok (.invokevirtual 202, 3) := by decide +kernel
theorem dX7_lamp_31 : decode cX7_lamp 31 = .ok (.invokevirtual 58, 3) := by decide +kernel
theorem dX7_lamp_34 : decode cX7_lamp 34 = .ok (.goto 8, 3) := by decide +kernel
theorem dX7_lamp_37 : decode cX7_lamp 37 = .ok (.aload_n 0, 1) := by decide +kernel
theorem dX7_lamp_38 : decode cX7_lamp 38 = .ok (.iconst 2, 1) := by decide +kernel
theorem dX7_lamp_39 : decode cX7_lamp 39 = .ok (.invokevirtual 48, 3) := by decide +kernel
theorem dX7_lamp_42 : decode cX7_lamp 42 = .ok (.ireturn, 1) := by decide +kernel
theorem dX7_corner_0 : decode cX7_corner 0 = .ok (.aload_n 0, 1) := by decide +kernel
theorem dX7_corner_1 : decode cX7_corner 1 = .ok (.iload_n 1, 1) := by decide +kernel
theorem dX7_corner_2 : decode cX7_corner 2 = .ok (.invokevirtual 150, 3) := by decide +kernel
theorem dX7_corner_5 : decode cX7_corner 5 = .ok (.ifCond .eq 10, 3) := by decide +kernel
theorem dX7_corner_8 : decode cX7_corner 8 = .ok (.iload_n 2, 1) := by decide +kernel
theorem dX7_corner_9 : decode cX7_corner 9 = .ok (.invokestatic 153, 3) := by decide +kernel
theorem dX7_corner_12 : decode cX7_corner 12 = .ok (.ifCond .ne 9, 3) := by decide +kernel
theorem dX7_corner_15 : decode cX7_corner 15 = .ok (.aload_n 0, 1) := by decide +kernel
theorem dX7_corner_16 : decode cX7_corner 16 = .ok (.iconst 1, 1) := by decide +kernel
theorem dX7_corner_17 : decode cX7_corner 17 = .ok (.invokevirtual 48, 3) := by decide +kernel
theorem dX7_corner_20 : decode cX7_corner 20 = .ok (.ireturn, 1) := by decide +kernel
theorem dX7_corner_21 : decode cX7_corner 21 = .ok (.iload_n 3, 1) := by decide +kernel
theorem dX7_corner_22 : decode cX7_corner 22 = .ok (.iconst 0, 1) := by decide +kernel
theorem dX7_corner_23 : decode cX7_corner 23 = .ok (.iconst 1, 1) := by decide +kernel
theorem dX7_corner_24 : decode cX7_corner 24 = .ok (.invokestatic 41, 3) := by decide +kernel
theorem dX7_corner_27 : decode cX7_corner 27 = .ok (.ifCond .eq 26, 3) := by decide +kernel
theorem dX7_corner_30 : decode cX7_corner 30 = .ok (.aload_n 0, 1) := by decide +kernel
theorem dX7_corner_31 : decode cX7_corner 31 = .ok (.aload_n 0, 1) := by decide +kernel
theorem dX7_corner_32 : decode cX7_corner 32 = .ok (.iload_n 1, 1) := by decide +kernel
theorem dX7_corner_33 : decode cX7_corner 33 = .ok (.iload_n 3, 1) := by decide +kernel
theorem dX7_corner_34 : decode cX7_corner 34 = .ok (.ifCond .ne 7, 3) := by decide +kernel
theorem dX7_corner_37 : decode cX7_corner 37 = .ok (.iconst 0, 1) := by decide +kernel
theorem dX7_corner_38 : decode cX7_corner 38 = .ok (.goto 4, 3) := by decide +kernel
theorem dX7_corner_41 : decode cX7_corner 41 = .ok (.iconst 4, 1) := by decide +kernel
theorem dX7_corner_42 : decode cX7_corner 42 = .ok (.iload_n 2, 1) := by decide +kernel
theorem dX7_corner_43 : decode cX7_corner 43 = .ok (.iadd, 1) := by decide +kernel
theorem dX7_corner_44 : decode cX7_corner 44 = .ok (.invokevirtual 61, 3) := by decide +kernel
theorem dX7_corner_47 : decode cX7_corner 47 = .ok (.invokevirtual 58, 3) := by decide +kernel
theorem dX7_corner_50 : decode cX7_corner 50 = .ok (.goto 8, 3) := by decide +kernel
theorem dX7_corner_53 : decode cX7_corner 53 = .ok (.aload_n 0, 1) := by decide +kernel
theorem dX7_corner_54 : decode cX7_corner 54 = .ok (.iconst 2, 1) := by decide +kernel
theorem dX7_corner_55 : decode cX7_corner 55 = .ok (.invokevirtual 48, 3) := by decide +kernel
theorem dX7_corner_58 : decode cX7_corner 58 = .ok (.ireturn, 1) := by decide +kernel
theorem dX7_working_0 : decode cX7_working 0 = .ok (.iconst 0, 1) := by decide +kernel
theorem dX7_working_1 : decode cX7_working 1 = .ok (.istore_n 1, 1) := by decide +kernel
theorem dX7_working_2 : decode cX7_working 2 = .ok (.iconst 0, 1) := by decide +kernel
theorem dX7_working_3 : decode cX7_working 3 = .ok (.istore_n 2, 1) := by decide +kernel
theorem dX7_working_4 : decode cX7_working 4 = .ok (.iload_n 2, 1) := by decide +kernel
theorem dX7_working_5 : decode cX7_working 5 = .ok (.aload_n 0, 1) := by decide +kernel
theorem dX7_working_6 : decode cX7_working 6 = .ok (.getfield 7, 3) := by decide +kernel
theorem dX7_working_9 : decode cX7_working 9 = .ok (.iconst 4, 1) := by decide +kernel
theorem dX7_working_10 : decode cX7_working 10 = .ok (.iaload, 1) := by decide +kernel
theorem dX7_working_11 : decode cX7_working 11 = .ok (.if_icmp .ge 19, 3) := by decide +kernel
theorem dX7_working_14 : decode cX7_working 14 = .ok (.iload_n 1, 1) := by decide +kernel
theorem dX7_working_15 : decode cX7_working 15 = .ok (.aload_n 0, 1) := by decide +kernel
theorem dX7_working_16 : decode cX7_working 16 = .ok (.iload_n 2, 1) := by decide +kernel
theorem dX7_working_17 : decode cX7_working 17 = .ok (.bipush 11, 2) := by decide +kernel
theorem dX7_working_19 : decode cX7_working 19 = .ok (.invokevirtual 61, 3) := by decide +kernel
theorem dX7_working_22 : decode cX7_working 22 = .ok (.iadd, 1) := by decide +kernel
theorem dX7_working_23 : decode cX7_working 23 = .ok (.istore_n 1, 1) := by decide +kernel
theorem dX7_working_24 : decode cX7_working 24 = .ok (.iinc 2 1, 3) := by decide +kernel
theorem dX7_working_27 : decode cX7_working 27 = .ok (.goto (-23), 3) := by decide +kernel
theorem dX7_working_30 : decode cX7_working 30 = .ok (.iload_n 1, 1) := by decide +kernel
theorem dX7_working_31 : decode cX7_working 31 = .ok (.ireturn, 1) := by decide +kernel
theorem dX7_overPlaces_0 : decode cX7_overPlaces 0 = .ok (.iconst 0, 1) := by decide +kernel
theorem dX7_overPlaces_1 : decode cX7_overPlaces 1 = .ok (.istore_n 2, 1) := by decide +kernel
theorem dX7_overPlaces_2 : decode cX7_overPlaces 2 = .ok (.iconst 0, 1) := by decide +kernel
theorem dX7_overPlaces_3 : decode cX7_overPlaces 3 = .ok (.istore_n 3, 1) := by decide +kernel
theorem dX7_overPlaces_4 : decode cX7_overPlaces 4 = .ok (.iload_n 3, 1) := by decide +kernel
theorem dX7_overPlaces_5 : decode cX7_overPlaces 5 = .ok (.aload_n 0, 1) := by decide +kernel
theorem dX7_overPlaces_6 : decode cX7_overPlaces 6 = .ok (.getfield 7, 3) := by decide +kernel
theorem dX7_overPlaces_9 : decode cX7_overPlaces 9 = .ok (.iconst 1, 1) := by decide +kernel
theorem dX7_overPlaces_10 : decode cX7_overPlaces 10 = .ok (.iaload, 1) := by decide +kernel
theorem dX7_overPlaces_11 : decode cX7_overPlaces 11 = .ok (.if_icmp .ge 116, 3) := by decide +kernel
theorem dX7_overPlaces_14 : decode cX7_overPlaces 14 = .ok (.iconst 0, 1) := by decide +kernel
theorem dX7_overPlaces_15 : decode cX7_overPlaces 15 = .ok (.istore 4, 2) := by decide +kernel
theorem dX7_overPlaces_17 : decode cX7_overPlaces 17 = .ok (.iload 4, 2) := by decide +kernel
theorem dX7_overPlaces_19 : decode cX7_overPlaces 19 = .ok (.aload_n 0, 1) := by decide +kernel
theorem dX7_overPlaces_20 : decode cX7_overPlaces 20 = .ok (.getfield 7, 3) := by decide +kernel
theorem dX7_overPlaces_23 : decode cX7_overPlaces 23 = .ok (.iconst 0, 1) := by decide +kernel
theorem dX7_overPlaces_24 : decode cX7_overPlaces 24 = .ok (.iaload, 1) := by decide +kernel
theorem dX7_overPlaces_25 : decode cX7_overPlaces 25 = .ok (.if_icmp .ge 96, 3) := by decide +kernel
theorem dX7_overPlaces_28 : decode cX7_overPlaces 28 = .ok (.aload_n 0, 1) := by decide +kernel
theorem dX7_overPlaces_29 : decode cX7_overPlaces 29 = .ok (.iload 4, 2) := by decide +kernel
theorem dX7_overPlaces_31 : decode cX7_overPlaces 31 = .ok (.iload_n 3, 1) := by decide +kernel
theorem dX7_overPlaces_32 : decode cX7_overPlaces 32 = .ok (.invokevirtual 115, 3) := by decide +kernel
theorem dX7_overPlaces_35 : decode cX7_overPlaces 35 = .ok (.iload_n 1, 1) := by decide +kernel
theorem dX7_overPlaces_36 : decode cX7_overPlaces 36 = .ok (.bipush 13, 2) := by decide +kernel
theorem dX7_overPlaces_38 : decode cX7_overPlaces 38 = .ok (.if_icmp .ne 22, 3) := by decide +kernel
theorem dX7_overPlaces_41 : decode cX7_overPlaces 41 = .ok (.aload_n 0, 1) := by decide +kernel
theorem dX7_overPlaces_42 : decode cX7_overPlaces 42 = .ok (.getfield 80, 3) := by decide +kernel
theorem dX7_overPlaces_45 : decode cX7_overPlaces 45 = .ok (.invokestatic 136, 3) := by decide +kernel
theorem dX7_overPlaces_48 : decode cX7_overPlaces 48 = .ok (.iconst 1, 1) := by decide +kernel
theorem dX7_overPlaces_49 : decode cX7_overPlaces 49 = .ok (.if_icmp .le 7, 3) := by decide +kernel
theorem dX7_overPlaces_52 : decode cX7_overPlaces 52 = .ok (.iconst 1, 1) := by decide +kernel
theorem dX7_overPlaces_53 : decode cX7_overPlaces 53 = .ok (.goto 26, 3) := by decide +kernel
theorem dX7_overPlaces_56 : decode cX7_overPlaces 56 = .ok (.iconst 0, 1) := by decide +kernel
theorem dX7_overPlaces_57 : decode cX7_overPlaces 57 = .ok (.goto 22, 3) := by decide +kernel
theorem dX7_overPlaces_60 : decode cX7_overPlaces 60 = .ok (.aload_n 0, 1) := by decide +kernel
theorem dX7_overPlaces_61 : decode cX7_overPlaces 61 = .ok (.iload 4, 2) := by decide +kernel
theorem dX7_overPlaces_63 : decode cX7_overPlaces 63 = .ok (.iload_n 3, 1) := by decide +kernel
theorem dX7_overPlaces_64 : decode cX7_overPlaces 64 = .ok (.invokevirtual 118, 3) := by decide +kernel
theorem dX7_overPlaces_67 : decode cX7_overPlaces 67 = .ok (.iload_n 1, 1) := by decide +kernel
theorem dX7_overPlaces_68 : decode cX7_overPlaces 68 = .ok (.bipush 6, 2) := by decide +kernel
theorem dX7_overPlaces_70 : decode cX7_overPlaces 70 = .ok (.isub, 1) := by decide +kernel
theorem dX7_overPlaces_71 : decode cX7_overPlaces 71 = .ok (.if_icmp .ne 7, 3) := by decide +kernel
theorem dX7_overPlaces_74 : decode cX7_overPlaces 74 = .ok (.iconst 1, 1) := by decide +kernel
theorem dX7_overPlaces_75 : decode cX7_overPlaces 75 = .ok (.goto 4, 3) := by decide +kernel
theorem dX7_overPlaces_78 : decode cX7_overPlaces 78 = .ok (.iconst 0, 1) := by decide +kernel
theorem dX7_overPlaces_79 : decode cX7_overPlaces 79 = .ok (.istore 5, 2) := by decide +kernel
theorem dX7_overPlaces_81 : decode cX7_overPlaces 81 = .ok (.iload_n 2, 1) := by decide +kernel
theorem dX7_overPlaces_82 : decode cX7_overPlaces 82 = .ok (.iload_n 1, 1) := by decide +kernel
theorem dX7_overPlaces_83 : decode cX7_overPlaces 83 = .ok (.bipush 10, 2) := by decide +kernel
theorem dX7_overPlaces_85 : decode cX7_overPlaces 85 = .ok (.if_icmp .ne 13, 3) := by decide +kernel
theorem dX7_overPlaces_88 : decode cX7_overPlaces 88 = .ok (.aload_n 0, 1) := by decide +kernel
theorem dX7_overPlaces_89 : decode cX7_overPlaces 89 = .ok (.iload 4, 2) := by decide +kernel
theorem dX7_overPlaces_91 : decode cX7_overPlaces 91 = .ok (.iload_n 3, 1) := by decide +kernel
theorem dX7_overPlaces_92 : decode cX7_overPlaces 92 = .ok (.invokevirtual 94, 3) := by decide +kernel
theorem dX7_overPlaces_95 : decode cX7_overPlaces 95 = .ok (.goto 18, 3) := by decide +kernel
theorem dX7_overPlaces_98 : decode cX7_overPlaces 98 = .ok (.iload_n 1, 1) := by decide +kernel
theorem dX7_overPlaces_99 : decode cX7_overPlaces 99 = .ok (.bipush 11, 2) := by decide +kernel
theorem dX7_overPlaces_101 : decode cX7_overPlaces 101 = .ok (.if_icmp .ne 10, 3) := by decide +kernel
theorem dX7_overPlaces_104 : decode cX7_overPlaces 104 = .ok (.aload_n 0, 1) := by decide +kernel
theorem dX7_overPlaces_105 : decode cX7_overPlaces 105 = .ok (.getfield 112, 3) := by decide +kernel
theorem dX7_overPlaces_108 : decode cX7_overPlaces 108 = .ok (.goto 5, 3) := by decide +kernel
theorem dX7_overPlaces_111 : decode cX7_overPlaces 111 = .ok (.iload 5, 2) := by decide +kernel
theorem dX7_overPlaces_113 : decode cX7_overPlaces 113 = .ok (.iadd, 1) := by decide +kernel
theorem dX7_overPlaces_114 : decode cX7_overPlaces 114 = .ok (.istore_n 2, 1) := by decide +kernel
theorem dX7_overPlaces_115 : decode cX7_overPlaces 115 = .ok (.iinc 4 1, 3) := by decide +kernel
theorem dX7_overPlaces_118 : decode cX7_overPlaces 118 = .ok (.goto (-101), 3) := by decide +kernel
theorem dX7_overPlaces_121 : decode cX7_overPlaces 121 = .ok (.iinc 3 1, 3) := by decide +kernel
theorem dX7_overPlaces_124 : decode cX7_overPlaces 124 = .ok (.goto (-120), 3) := by decide +kernel
theorem dX7_overPlaces_127 : decode cX7_overPlaces 127 = .ok (.iload_n 2, 1) := by decide +kernel
theorem dX7_overPlaces_128 : decode cX7_overPlaces 128 = .ok (.ireturn, 1) := by decide +kernel
theorem dX7_wholeOf_0 : decode cX7_wholeOf 0 = .ok (.iload_n 1, 1) := by decide +kernel
theorem dX7_wholeOf_1 : decode cX7_wholeOf 1 = .ok (.lookupswitch 52 #[(5, 35), (12, 40), (14, 47)], 35) := by decide +kernel
theorem dX7_wholeOf_36 : decode cX7_wholeOf 36 = .ok (.aload_n 0, 1) := by decide +kernel
theorem dX7_wholeOf_37 : decode cX7_wholeOf 37 = .ok (.invokevirtual 205, 3) := by decide +kernel
theorem dX7_wholeOf_40 : decode cX7_wholeOf 40 = .ok (.ireturn, 1) := by decide +kernel
theorem dX7_wholeOf_41 : decode cX7_wholeOf 41 = .ok (.aload_n 0, 1) := by decide +kernel
theorem dX7_wholeOf_42 : decode cX7_wholeOf 42 = .ok (.getfield 7, 3) := by decide +kernel
theorem dX7_wholeOf_45 : decode cX7_wholeOf 45 = .ok (.iconst 5, 1) := by decide +kernel
theorem dX7_wholeOf_46 : decode cX7_wholeOf 46 = .ok (.iaload, 1) := by decide +kernel
theorem dX7_wholeOf_47 : decode cX7_wholeOf 47 = .ok (.ireturn, 1) := by decide +kernel
theorem dX7_wholeOf_48 : decode cX7_wholeOf 48 = .ok (.aload_n 0, 1) := by decide +kernel
theorem dX7_wholeOf_49 : decode cX7_wholeOf 49 = .ok (.getfield 208, 3) := by decide +kernel
theorem dX7_wholeOf_52 : decode cX7_wholeOf 52 = .ok (.ireturn, 1) := by decide +kernel
theorem dX7_wholeOf_53 : decode cX7_wholeOf 53 = .ok (.iload_n 1, 1) := by decide +kernel
theorem dX7_wholeOf_54 : decode cX7_wholeOf 54 = .ok (.iconst 5, 1) := by decide +kernel
theorem dX7_wholeOf_55 : decode cX7_wholeOf 55 = .ok (.if_icmp .ge 12, 3) := by decide +kernel
theorem dX7_wholeOf_58 : decode cX7_wholeOf 58 = .ok (.aload_n 0, 1) := by decide +kernel
theorem dX7_wholeOf_59 : decode cX7_wholeOf 59 = .ok (.getfield 7, 3) := by decide +kernel
theorem dX7_wholeOf_62 : decode cX7_wholeOf 62 = .ok (.iload_n 1, 1) := by decide +kernel
theorem dX7_wholeOf_63 : decode cX7_wholeOf 63 = .ok (.iaload, 1) := by decide +kernel
theorem dX7_wholeOf_64 : decode cX7_wholeOf 64 = .ok (.goto 8, 3) := by decide +kernel
theorem dX7_wholeOf_67 : decode cX7_wholeOf 67 = .ok (.aload_n 0, 1) := by decide +kernel
theorem dX7_wholeOf_68 : decode cX7_wholeOf 68 = .ok (.iload_n 1, 1) := by decide +kernel
theorem dX7_wholeOf_69 : decode cX7_wholeOf 69 = .ok (.invokevirtual 211, 3) := by decide +kernel
theorem dX7_wholeOf_72 : decode cX7_wholeOf 72 = .ok (.ireturn, 1) := by decide +kernel
theorem dX7_whole_0 : decode cX7_whole 0 = .ok (.iload_n 1, 1) := by decide +kernel
theorem dX7_whole_1 : decode cX7_whole 1 = .ok (.iconst 0, 1) := by decide +kernel
theorem dX7_whole_2 : decode cX7_whole 2 = .ok (.bipush 14, 2) := by decide +kernel
theorem dX7_whole_4 : decode cX7_whole 4 = .ok (.invokestatic 41, 3) := by decide +kernel
theorem dX7_whole_7 : decode cX7_whole 7 = .ok (.ifCond .eq 15, 3) := by decide +kernel
theorem dX7_whole_10 : decode cX7_whole 10 = .ok (.aload_n 0, 1) := by decide +kernel
theorem dX7_whole_11 : decode cX7_whole 11 = .ok (.aload_n 0, 1) := by decide +kernel
theorem dX7_whole_12 : decode cX7_whole 12 = .ok (.iload_n 1, 1) := by decide +kernel
theorem dX7_whole_13 : decode cX7_whole 13 = .ok (.invokevirtual 214, 3) := by decide +kernel
theorem dX7_whole_16 : decode cX7_whole 16 = .ok (.invokevirtual 58, 3) := by decide +kernel
theorem dX7_whole_19 : decode cX7_whole 19 = .ok (.goto 8, 3) := by decide +kernel
theorem dX7_whole_22 : decode cX7_whole 22 = .ok (.aload_n 0, 1) := by decide +kernel
theorem dX7_whole_23 : decode cX7_whole 23 = .ok (.iconst 1, 1) := by decide +kernel
theorem dX7_whole_24 : decode cX7_whole 24 = .ok (.invokevirtual 48, 3) := by decide +kernel
theorem dX7_whole_27 : decode cX7_whole 27 = .ok (.ireturn, 1) := by decide +kernel
theorem dX7_wrong_0 : decode cX7_wrong 0 = .ok (.iload_n 1, 1) := by decide +kernel
theorem dX7_wrong_1 : decode cX7_wrong 1 = .ok (.ifCond .ge 9, 3) := by decide +kernel
theorem dX7_wrong_4 : decode cX7_wrong 4 = .ok (.aload_n 0, 1) := by decide +kernel
theorem dX7_wrong_5 : decode cX7_wrong 5 = .ok (.iconst 1, 1) := by decide +kernel
theorem dX7_wrong_6 : decode cX7_wrong 6 = .ok (.invokevirtual 48, 3) := by decide +kernel
theorem dX7_wrong_9 : decode cX7_wrong 9 = .ok (.ireturn, 1) := by decide +kernel
theorem dX7_wrong_10 : decode cX7_wrong 10 = .ok (.iload_n 1, 1) := by decide +kernel
theorem dX7_wrong_11 : decode cX7_wrong 11 = .ok (.istore_n 2, 1) := by decide +kernel
theorem dX7_wrong_12 : decode cX7_wrong 12 = .ok (.iconst 0, 1) := by decide +kernel
theorem dX7_wrong_13 : decode cX7_wrong 13 = .ok (.istore_n 3, 1) := by decide +kernel
theorem dX7_wrong_14 : decode cX7_wrong 14 = .ok (.iload_n 3, 1) := by decide +kernel
theorem dX7_wrong_15 : decode cX7_wrong 15 = .ok (.aload_n 0, 1) := by decide +kernel
theorem dX7_wrong_16 : decode cX7_wrong 16 = .ok (.getfield 7, 3) := by decide +kernel
theorem dX7_wrong_19 : decode cX7_wrong 19 = .ok (.iconst 1, 1) := by decide +kernel
theorem dX7_wrong_20 : decode cX7_wrong 20 = .ok (.iaload, 1) := by decide +kernel
theorem dX7_wrong_21 : decode cX7_wrong 21 = .ok (.if_icmp .ge 65, 3) := by decide +kernel
theorem dX7_wrong_24 : decode cX7_wrong 24 = .ok (.iconst 0, 1) := by decide +kernel
theorem dX7_wrong_25 : decode cX7_wrong 25 = .ok (.istore 4, 2) := by decide +kernel
theorem dX7_wrong_27 : decode cX7_wrong 27 = .ok (.iload 4, 2) := by decide +kernel
theorem dX7_wrong_29 : decode cX7_wrong 29 = .ok (.aload_n 0, 1) := by decide +kernel
theorem dX7_wrong_30 : decode cX7_wrong 30 = .ok (.getfield 7, 3) := by decide +kernel
theorem dX7_wrong_33 : decode cX7_wrong 33 = .ok (.iconst 0, 1) := by decide +kernel
theorem dX7_wrong_34 : decode cX7_wrong 34 = .ok (.iaload, 1) := by decide +kernel
theorem dX7_wrong_35 : decode cX7_wrong 35 = .ok (.if_icmp .ge 45, 3) := by decide +kernel
theorem dX7_wrong_38 : decode cX7_wrong 38 = .ok (.aload_n 0, 1) := by decide +kernel
theorem dX7_wrong_39 : decode cX7_wrong 39 = .ok (.iload 4, 2) := by decide +kernel
theorem dX7_wrong_41 : decode cX7_wrong 41 = .ok (.iload_n 3, 1) := by decide +kernel
theorem dX7_wrong_42 : decode cX7_wrong 42 = .ok (.invokevirtual 115, 3) := by decide +kernel
theorem dX7_wrong_45 : decode cX7_wrong 45 = .ok (.aload_n 0, 1) := by decide +kernel
theorem dX7_wrong_46 : decode cX7_wrong 46 = .ok (.iload 4, 2) := by decide +kernel
theorem dX7_wrong_48 : decode cX7_wrong 48 = .ok (.iload_n 3, 1) := by decide +kernel
theorem dX7_wrong_49 : decode cX7_wrong 49 = .ok (.invokevirtual 118, 3) := by decide +kernel
theorem dX7_wrong_52 : decode cX7_wrong 52 = .ok (.ifCond .eq 22, 3) := by decide +kernel
theorem dX7_wrong_55 : decode cX7_wrong 55 = .ok (.iload_n 2, 1) := by decide +kernel
theorem dX7_wrong_56 : decode cX7_wrong 56 = .ok (.ifCond .ne 15, 3) := by decide +kernel
theorem dX7_wrong_59 : decode cX7_wrong 59 = .ok (.aload_n 0, 1) := by decide +kernel
theorem dX7_wrong_60 : decode cX7_wrong 60 = .ok (.bipush 100, 2) := by decide +kernel
theorem dX7_wrong_62 : decode cX7_wrong 62 = .ok (.iload_n 3, 1) := by decide +kernel
theorem dX7_wrong_63 : decode cX7_wrong 63 = .ok (.imul, 1) := by decide +kernel
theorem dX7_wrong_64 : decode cX7_wrong 64 = .ok (.iload 4, 2) := by decide +kernel
theorem dX7_wrong_66 : decode cX7_wrong 66 = .ok (.iadd, 1) := by decide +kernel
theorem dX7_wrong_67 : decode cX7_wrong 67 = .ok (.invokevirtual 58, 3) := by decide +kernel
theorem dX7_wrong_70 : decode cX7_wrong 70 = .ok (.ireturn, 1) := by decide +kernel
theorem dX7_wrong_71 : decode cX7_wrong 71 = .ok (.iinc 2 (-1), 3) := by decide +kernel
theorem dX7_wrong_74 : decode cX7_wrong 74 = .ok (.iinc 4 1, 3) := by decide +kernel
theorem dX7_wrong_77 : decode cX7_wrong 77 = .ok (.goto (-50), 3) := by decide +kernel
theorem dX7_wrong_80 : decode cX7_wrong 80 = .ok (.iinc 3 1, 3) := by decide +kernel
theorem dX7_wrong_83 : decode cX7_wrong 83 = .ok (.goto (-69), 3) := by decide +kernel
theorem dX7_wrong_86 : decode cX7_wrong 86 = .ok (.aload_n 0, 1) := by decide +kernel
theorem dX7_wrong_87 : decode cX7_wrong 87 = .ok (.sipush (-1000), 3) := by decide +kernel
theorem dX7_wrong_90 : decode cX7_wrong 90 = .ok (.invokevirtual 58, 3) := by decide +kernel
theorem dX7_wrong_93 : decode cX7_wrong 93 = .ok (.ireturn, 1) := by decide +kernel
theorem dX7_wrongBut_0 : decode cX7_wrongBut 0 = .ok (.aload_n 0, 1) := by decide +kernel
theorem dX7_wrongBut_1 : decode cX7_wrongBut 1 = .ok (.iload_n 1, 1) := by decide +kernel
theorem dX7_wrongBut_2 : decode cX7_wrongBut 2 = .ok (.putfield 22, 3) := by decide +kernel
theorem dX7_wrongBut_5 : decode cX7_wrongBut 5 = .ok (.aload_n 0, 1) := by decide +kernel
theorem dX7_wrongBut_6 : decode cX7_wrongBut 6 = .ok (.invokevirtual 156, 3) := by decide +kernel
theorem dX7_wrongBut_9 : decode cX7_wrongBut 9 = .ok (.istore_n 2, 1) := by decide +kernel
theorem dX7_wrongBut_10 : decode cX7_wrongBut 10 = .ok (.aload_n 0, 1) := by decide +kernel
theorem dX7_wrongBut_11 : decode cX7_wrongBut 11 = .ok (.sipush (-1000), 3) := by decide +kernel
theorem dX7_wrongBut_14 : decode cX7_wrongBut 14 = .ok (.putfield 22, 3) := by decide +kernel
theorem dX7_wrongBut_17 : decode cX7_wrongBut 17 = .ok (.iload_n 2, 1) := by decide +kernel
theorem dX7_wrongBut_18 : decode cX7_wrongBut 18 = .ok (.ireturn, 1) := by decide +kernel
theorem dX7_wrongWithout_0 : decode cX7_wrongWithout 0 = .ok (.aload_n 0, 1) := by decide +kernel
theorem dX7_wrongWithout_1 : decode cX7_wrongWithout 1 = .ok (.iload_n 1, 1) := by decide +kernel
theorem dX7_wrongWithout_2 : decode cX7_wrongWithout 2 = .ok (.invokevirtual 150, 3) := by decide +kernel
theorem dX7_wrongWithout_5 : decode cX7_wrongWithout 5 = .ok (.ifCond .eq 15, 3) := by decide +kernel
theorem dX7_wrongWithout_8 : decode cX7_wrongWithout 8 = .ok (.aload_n 0, 1) := by decide +kernel
theorem dX7_wrongWithout_9 : decode cX7_wrongWithout 9 = .ok (.aload_n 0, 1) := by decide +kernel
theorem dX7_wrongWithout_10 : decode cX7_wrongWithout 10 = .ok (.iload_n 1, 1) := by decide +kernel
theorem dX7_wrongWithout_11 : decode cX7_wrongWithout 11 = .ok (.invokevirtual 217, 3) := by decide +kernel
theorem dX7_wrongWithout_14 : decode cX7_wrongWithout 14 = .ok (.invokevirtual 58, 3) := by decide +kernel
theorem dX7_wrongWithout_17 : decode cX7_wrongWithout 17 = .ok (.goto 8, 3) := by decide +kernel
theorem dX7_wrongWithout_20 : decode cX7_wrongWithout 20 = .ok (.aload_n 0, 1) := by decide +kernel
theorem dX7_wrongWithout_21 : decode cX7_wrongWithout 21 = .ok (.iconst 1, 1) := by decide +kernel
theorem dX7_wrongWithout_22 : decode cX7_wrongWithout 22 = .ok (.invokevirtual 48, 3) := by decide +kernel
theorem dX7_wrongWithout_25 : decode cX7_wrongWithout 25 = .ok (.ireturn, 1) := by decide +kernel
theorem dX7_dearestLamp_0 : decode cX7_dearestLamp 0 = .ok (.sipush (-1000), 3) := by decide +kernel
theorem dX7_dearestLamp_3 : decode cX7_dearestLamp 3 = .ok (.istore_n 1, 1) := by decide +kernel
theorem dX7_dearestLamp_4 : decode cX7_dearestLamp 4 = .ok (.iconst (-1), 1) := by decide +kernel
theorem dX7_dearestLamp_5 : decode cX7_dearestLamp 5 = .ok (.istore_n 2, 1) := by decide +kernel
theorem dX7_dearestLamp_6 : decode cX7_dearestLamp 6 = .ok (.iconst 0, 1) := by decide +kernel
theorem dX7_dearestLamp_7 : decode cX7_dearestLamp 7 = .ok (.istore_n 3, 1) := by decide +kernel
theorem dX7_dearestLamp_8 : decode cX7_dearestLamp 8 = .ok (.iload_n 3, 1) := by decide +kernel
theorem dX7_dearestLamp_9 : decode cX7_dearestLamp 9 = .ok (.aload_n 0, 1) := by decide +kernel
theorem dX7_dearestLamp_10 : decode cX7_dearestLamp 10 = .ok (.getfield 7, 3) := by decide +kernel
theorem dX7_dearestLamp_13 : decode cX7_dearestLamp 13 = .ok (.iconst 4, 1) := by decide +kernel
theorem dX7_dearestLamp_14 : decode cX7_dearestLamp 14 = .ok (.iaload, 1) := by decide +kernel
theorem dX7_dearestLamp_15 : decode cX7_dearestLamp 15 = .ok (.if_icmp .ge 41, 3) := by decide +kernel
theorem dX7_dearestLamp_18 : decode cX7_dearestLamp 18 = .ok (.aload_n 0, 1) := by decide +kernel
theorem dX7_dearestLamp_19 : decode cX7_dearestLamp 19 = .ok (.iload_n 3, 1) := by decide +kernel
theorem dX7_dearestLamp_20 : decode cX7_dearestLamp 20 = .ok (.invokevirtual 217, 3) := by decide +kernel
theorem dX7_dearestLamp_23 : decode cX7_dearestLamp 23 = .ok (.istore 4, 2) := by decide +kernel
theorem dX7_dearestLamp_25 : decode cX7_dearestLamp 25 = .ok (.iload 4, 2) := by decide +kernel
theorem dX7_dearestLamp_27 : decode cX7_dearestLamp 27 = .ok (.iload_n 2, 1) := by decide +kernel
theorem dX7_dearestLamp_28 : decode cX7_dearestLamp 28 = .ok (.if_icmp .le 7, 3) := by decide +kernel
theorem dX7_dearestLamp_31 : decode cX7_dearestLamp 31 = .ok (.iload_n 3, 1) := by decide +kernel
theorem dX7_dearestLamp_32 : decode cX7_dearestLamp 32 = .ok (.goto 4, 3) := by decide +kernel
theorem dX7_dearestLamp_35 : decode cX7_dearestLamp 35 = .ok (.iload_n 1, 1) := by decide +kernel
theorem dX7_dearestLamp_36 : decode cX7_dearestLamp 36 = .ok (.istore_n 1, 1) := by decide +kernel
theorem dX7_dearestLamp_37 : decode cX7_dearestLamp 37 = .ok (.iload 4, 2) := by decide +kernel
theorem dX7_dearestLamp_39 : decode cX7_dearestLamp 39 = .ok (.iload_n 2, 1) := by decide +kernel
theorem dX7_dearestLamp_40 : decode cX7_dearestLamp 40 = .ok (.if_icmp .le 8, 3) := by decide +kernel
theorem dX7_dearestLamp_43 : decode cX7_dearestLamp 43 = .ok (.iload 4, 2) := by decide +kernel
theorem dX7_dearestLamp_45 : decode cX7_dearestLamp 45 = .ok (.goto 4, 3) := by decide +kernel
theorem dX7_dearestLamp_48 : decode cX7_dearestLamp 48 = .ok (.iload_n 2, 1) := by decide +kernel
theorem dX7_dearestLamp_49 : decode cX7_dearestLamp 49 = .ok (.istore_n 2, 1) := by decide +kernel
theorem dX7_dearestLamp_50 : decode cX7_dearestLamp 50 = .ok (.iinc 3 1, 3) := by decide +kernel
theorem dX7_dearestLamp_53 : decode cX7_dearestLamp 53 = .ok (.goto (-45), 3) := by decide +kernel
theorem dX7_dearestLamp_56 : decode cX7_dearestLamp 56 = .ok (.aload_n 0, 1) := by decide +kernel
theorem dX7_dearestLamp_57 : decode cX7_dearestLamp 57 = .ok (.iload_n 1, 1) := by decide +kernel
theorem dX7_dearestLamp_58 : decode cX7_dearestLamp 58 = .ok (.invokevirtual 58, 3) := by decide +kernel
theorem dX7_dearestLamp_61 : decode cX7_dearestLamp 61 = .ok (.ireturn, 1) := by decide +kernel
theorem dX7_wrongBy_0 : decode cX7_wrongBy 0 = .ok (.aload_n 0, 1) := by decide +kernel
theorem dX7_wrongBy_1 : decode cX7_wrongBy 1 = .ok (.invokevirtual 162, 3) := by decide +kernel
theorem dX7_wrongBy_4 : decode cX7_wrongBy 4 = .ok (.aload_n 0, 1) := by decide +kernel
theorem dX7_wrongBy_5 : decode cX7_wrongBy 5 = .ok (.getfield 7, 3) := by decide +kernel
theorem dX7_wrongBy_8 : decode cX7_wrongBy 8 = .ok (.iconst 2, 1) := by decide +kernel
theorem dX7_wrongBy_9 : decode cX7_wrongBy 9 = .ok (.iload_n 1, 1) := by decide +kernel
theorem dX7_wrongBy_10 : decode cX7_wrongBy 10 = .ok (.iastore, 1) := by decide +kernel
theorem dX7_wrongBy_11 : decode cX7_wrongBy 11 = .ok (.aload_n 0, 1) := by decide +kernel
theorem dX7_wrongBy_12 : decode cX7_wrongBy 12 = .ok (.getfield 7, 3) := by decide +kernel
theorem dX7_wrongBy_15 : decode cX7_wrongBy 15 = .ok (.iconst 3, 1) := by decide +kernel
theorem dX7_wrongBy_16 : decode cX7_wrongBy 16 = .ok (.iload_n 2, 1) := by decide +kernel
theorem dX7_wrongBy_17 : decode cX7_wrongBy 17 = .ok (.iastore, 1) := by decide +kernel
theorem dX7_wrongBy_18 : decode cX7_wrongBy 18 = .ok (.aload_n 0, 1) := by decide +kernel
theorem dX7_wrongBy_19 : decode cX7_wrongBy 19 = .ok (.invokevirtual 156, 3) := by decide +kernel
theorem dX7_wrongBy_22 : decode cX7_wrongBy 22 = .ok (.istore_n 3, 1) := by decide +kernel
theorem dX7_wrongBy_23 : decode cX7_wrongBy 23 = .ok (.aload_n 0, 1) := by decide +kernel
theorem dX7_wrongBy_24 : decode cX7_wrongBy 24 = .ok (.invokevirtual 220, 3) := by decide +kernel
theorem dX7_wrongBy_27 : decode cX7_wrongBy 27 = .ok (.iload_n 3, 1) := by decide +kernel
theorem dX7_wrongBy_28 : decode cX7_wrongBy 28 = .ok (.ireturn, 1) := by decide +kernel
theorem dX7_wrongShifted_0 : decode cX7_wrongShifted 0 = .ok (.iload_n 1, 1) := by decide +kernel
theorem dX7_wrongShifted_1 : decode cX7_wrongShifted 1 = .ok (.bipush (-10), 2) := by decide +kernel
theorem dX7_wrongShifted_3 : decode cX7_wrongShifted 3 = .ok (.bipush 10, 2) := by decide +kernel
theorem dX7_wrongShifted_5 : decode cX7_wrongShifted 5 = .ok (.invokestatic 41, 3) := by decide +kernel
theorem dX7_wrongShifted_8 : decode cX7_wrongShifted 8 = .ok (.ifCond .eq 27, 3) := by decide +kernel
theorem dX7_wrongShifted_11 : decode cX7_wrongShifted 11 = .ok (.iload_n 2, 1) := by decide +kernel
theorem dX7_wrongShifted_12 : decode cX7_wrongShifted 12 = .ok (.bipush (-10), 2) := by decide +kernel
theorem dX7_wrongShifted_14 : decode cX7_wrongShifted 14 = .ok (.bipush 10, 2) := by decide +kernel
theorem dX7_wrongShifted_16 : decode cX7_wrongShifted 16 = .ok (.invokestatic 41, 3) := by decide +kernel
theorem dX7_wrongShifted_19 : decode cX7_wrongShifted 19 = .ok (.ifCond .eq 16, 3) := by decide +kernel
theorem dX7_wrongShifted_22 : decode cX7_wrongShifted 22 = .ok (.aload_n 0, 1) := by decide +kernel
theorem dX7_wrongShifted_23 : decode cX7_wrongShifted 23 = .ok (.aload_n 0, 1) := by decide +kernel
theorem dX7_wrongShifted_24 : decode cX7_wrongShifted 24 = .ok (.iload_n 1, 1) := by decide +kernel
theorem dX7_wrongShifted_25 : decode cX7_wrongShifted 25 = .ok (.iload_n 2, 1) := by decide +kernel
theorem dX7_wrongShifted_26 : decode cX7_wrongShifted 26 = .ok (.invokevirtual 223, 3) := by decide +kernel
theorem dX7_wrongShifted_29 : decode cX7_wrongShifted 29 = .ok (.invokevirtual 58, 3) := by decide +kernel
theorem dX7_wrongShifted_32 : decode cX7_wrongShifted 32 = .ok (.goto 8, 3) := by decide +kernel
theorem dX7_wrongShifted_35 : decode cX7_wrongShifted 35 = .ok (.aload_n 0, 1) := by decide +kernel
theorem dX7_wrongShifted_36 : decode cX7_wrongShifted 36 = .ok (.iconst 1, 1) := by decide +kernel
theorem dX7_wrongShifted_37 : decode cX7_wrongShifted 37 = .ok (.invokevirtual 48, 3) := by decide +kernel
theorem dX7_wrongShifted_40 : decode cX7_wrongShifted 40 = .ok (.ireturn, 1) := by decide +kernel
theorem dX7_bestShift_0 : decode cX7_bestShift 0 = .ok (.iload_n 1, 1) := by decide +kernel
theorem dX7_bestShift_1 : decode cX7_bestShift 1 = .ok (.iconst 0, 1) := by decide +kernel
theorem dX7_bestShift_2 : decode cX7_bestShift 2 = .ok (.iconst 3, 1) := by decide +kernel
theorem dX7_bestShift_3 : decode cX7_bestShift 3 = .ok (.invokestatic 41, 3) := by decide +kernel
theorem dX7_bestShift_6 : decode cX7_bestShift 6 = .ok (.ifCond .ne 9, 3) := by decide +kernel
theorem dX7_bestShift_9 : decode cX7_bestShift 9 = .ok (.aload_n 0, 1) := by decide +kernel
theorem dX7_bestShift_10 : decode cX7_bestShift 10 = .ok (.iconst 1, 1) := by decide +kernel
theorem dX7_bestShift_11 : decode cX7_bestShift 11 = .ok (.invokevirtual 48, 3) := by decide +kernel
theorem dX7_bestShift_14 : decode cX7_bestShift 14 = .ok (.ireturn, 1) := by decide +kernel
theorem dX7_bestShift_15 : decode cX7_bestShift 15 = .ok (.sipush (-1000), 3) := by decide +kernel
theorem dX7_bestShift_18 : decode cX7_bestShift 18 = .ok (.istore_n 2, 1) := by decide +kernel
theorem dX7_bestShift_19 : decode cX7_bestShift 19 = .ok (.iconst 0, 1) := by decide +kernel
theorem dX7_bestShift_20 : decode cX7_bestShift 20 = .ok (.istore_n 3, 1) := by decide +kernel
theorem dX7_bestShift_21 : decode cX7_bestShift 21 = .ok (.iload_n 1, 1) := by decide +kernel
theorem dX7_bestShift_22 : decode cX7_bestShift 22 = .ok (.ineg, 1) := by decide +kernel
theorem dX7_bestShift_23 : decode cX7_bestShift 23 = .ok (.istore 4, 2) := by decide +kernel
theorem dX7_bestShift_25 : decode cX7_bestShift 25 = .ok (.iload 4, 2) := by decide +kernel
theorem dX7_bestShift_27 : decode cX7_bestShift 27 = .ok (.iload_n 1, 1) := by decide +kernel
theorem dX7_bestShift_28 : decode cX7_bestShift 28 = .ok (.if_icmp .gt 66, 3) := by decide +kernel
theorem dX7_bestShift_31 : decode cX7_bestShift 31 = .ok (.iload_n 1, 1) := by decide +kernel
theorem dX7_bestShift_32 : decode cX7_bestShift 32 = .ok (.ineg, 1) := by decide +kernel
theorem dX7_bestShift_33 : decode cX7_bestShift 33 = .ok (.istore 5, 2) := by decide +kernel
theorem dX7_bestShift_35 : decode cX7_bestShift 35 = .ok (.iload 5, 2) := by decide +kernel
theorem dX7_bestShift_37 : decode cX7_bestShift 37 = .ok (.iload_n 1, 1) := by decide +kernel
theorem dX7_bestShift_38 : decode cX7_bestShift 38 = .ok (.if_icmp .gt 50, 3) := by decide +kernel
theorem dX7_bestShift_41 : decode cX7_bestShift 41 = .ok (.aload_n 0, 1) := by decide +kernel
theorem dX7_bestShift_42 : decode cX7_bestShift 42 = .ok (.iload 5, 2) := by decide +kernel
theorem dX7_bestShift_44 : decode cX7_bestShift 44 = .ok (.iload 4, 2) := by decide +kernel
theorem dX7_bestShift_46 : decode cX7_bestShift 46 = .ok (.invokevirtual 223, 3) := by decide +kernel
theorem dX7_bestShift_49 : decode cX7_bestShift 49 = .ok (.istore 6, 2) := by decide +kernel
theorem dX7_bestShift_51 : decode cX7_bestShift 51 = .ok (.iload_n 2, 1) := by decide +kernel
theorem dX7_bestShift_52 : decode cX7_bestShift 52 = .ok (.sipush (-1000), 3) := by decide +kernel
theorem dX7_bestShift_55 : decode cX7_bestShift 55 = .ok (.if_icmp .eq 9, 3) := by decide +kernel
theorem dX7_bestShift_58 : decode cX7_bestShift 58 = .ok (.iload 6, 2) := by decide +kernel
theorem dX7_bestShift_60 : decode cX7_bestShift 60 = .ok (.iload_n 3, 1) := by decide +kernel
theorem dX7_bestShift_61 : decode cX7_bestShift 61 = .ok (.if_icmp .ge 21, 3) := by decide +kernel
theorem dX7_bestShift_64 : decode cX7_bestShift 64 = .ok (.bipush 100, 2) := by decide +kernel
theorem dX7_bestShift_66 : decode cX7_bestShift 66 = .ok (.iload 4, 2) := by decide +kernel
theorem dX7_bestShift_68 : decode cX7_bestShift 68 = .ok (.bipush 10, 2) := by decide +kernel
theorem dX7_bestShift_70 : decode cX7_bestShift 70 = .ok (.iadd, 1) := by decide +kernel
theorem dX7_bestShift_71 : decode cX7_bestShift 71 = .ok (.imul, 1) := by decide +kernel
theorem dX7_bestShift_72 : decode cX7_bestShift 72 = .ok (.iload 5, 2) := by decide +kernel
theorem dX7_bestShift_74 : decode cX7_bestShift 74 = .ok (.iadd, 1) := by decide +kernel
theorem dX7_bestShift_75 : decode cX7_bestShift 75 = .ok (.bipush 10, 2) := by decide +kernel
theorem dX7_bestShift_77 : decode cX7_bestShift 77 = .ok (.iadd, 1) := by decide +kernel
theorem dX7_bestShift_78 : decode cX7_bestShift 78 = .ok (.istore_n 2, 1) := by decide +kernel
theorem dX7_bestShift_79 : decode cX7_bestShift 79 = .ok (.iload 6, 2) := by decide +kernel
theorem dX7_bestShift_81 : decode cX7_bestShift 81 = .ok (.istore_n 3, 1) := by decide +kernel
theorem dX7_bestShift_82 : decode cX7_bestShift 82 = .ok (.iinc 5 1, 3) := by decide +kernel
theorem dX7_bestShift_85 : decode cX7_bestShift 85 = .ok (.goto (-50), 3) := by decide +kernel
theorem dX7_bestShift_88 : decode cX7_bestShift 88 = .ok (.iinc 4 1, 3) := by decide +kernel
theorem dX7_bestShift_91 : decode cX7_bestShift 91 = .ok (.goto (-66), 3) := by decide +kernel
theorem dX7_bestShift_94 : decode cX7_bestShift 94 = .ok (.aload_n 0, 1) := by decide +kernel
theorem dX7_bestShift_95 : decode cX7_bestShift 95 = .ok (.iload_n 2, 1) := by decide +kernel
theorem dX7_bestShift_96 : decode cX7_bestShift 96 = .ok (.invokevirtual 58, 3) := by decide +kernel
theorem dX7_bestShift_99 : decode cX7_bestShift 99 = .ok (.ireturn, 1) := by decide +kernel
theorem dX7_neededLimit_0 : decode cX7_neededLimit 0 = .ok (.aload_n 0, 1) := by decide +kernel
theorem dX7_neededLimit_1 : decode cX7_neededLimit 1 = .ok (.iload_n 1, 1) := by decide +kernel
theorem dX7_neededLimit_2 : decode cX7_neededLimit 2 = .ok (.invokevirtual 150, 3) := by decide +kernel
theorem dX7_neededLimit_5 : decode cX7_neededLimit 5 = .ok (.ifCond .ne 9, 3) := by decide +kernel
theorem dX7_neededLimit_8 : decode cX7_neededLimit 8 = .ok (.aload_n 0, 1) := by decide +kernel
theorem dX7_neededLimit_9 : decode cX7_neededLimit 9 = .ok (.iconst 1, 1) := by decide +kernel
theorem dX7_neededLimit_10 : decode cX7_neededLimit 10 = .ok (.invokevirtual 48, 3) := by decide +kernel
theorem dX7_neededLimit_13 : decode cX7_neededLimit 13 = .ok (.ireturn, 1) := by decide +kernel
theorem dX7_neededLimit_14 : decode cX7_neededLimit 14 = .ok (.aload_n 0, 1) := by decide +kernel
theorem dX7_neededLimit_15 : decode cX7_neededLimit 15 = .ok (.iload_n 1, 1) := by decide +kernel
theorem dX7_neededLimit_16 : decode cX7_neededLimit 16 = .ok (.invokevirtual 139, 3) := by decide +kernel
theorem dX7_neededLimit_19 : decode cX7_neededLimit 19 = .ok (.aload_n 0, 1) := by decide +kernel
theorem dX7_neededLimit_20 : decode cX7_neededLimit 20 = .ok (.aload_n 0, 1) := by decide +kernel
theorem dX7_neededLimit_21 : decode cX7_neededLimit 21 = .ok (.getfield 133, 3) := by decide +kernel
theorem dX7_neededLimit_24 : decode cX7_neededLimit 24 = .ok (.invokevirtual 58, 3) := by decide +kernel
theorem dX7_neededLimit_27 : decode cX7_neededLimit 27 = .ok (.ireturn, 1) := by decide +kernel
theorem dX7_type_0 : decode cX7_type 0 = .ok (.iload_n 1, 1) := by decide +kernel
theorem dX7_type_1 : decode cX7_type 1 = .ok (.iconst 0, 1) := by decide +kernel
theorem dX7_type_2 : decode cX7_type 2 = .ok (.bipush 127, 2) := by decide +kernel
theorem dX7_type_4 : decode cX7_type 4 = .ok (.invokestatic 41, 3) := by decide +kernel
theorem dX7_type_7 : decode cX7_type 7 = .ok (.ifCond .ne 9, 3) := by decide +kernel
theorem dX7_type_10 : decode cX7_type 10 = .ok (.aload_n 0, 1) := by decide +kernel
theorem dX7_type_11 : decode cX7_type 11 = .ok (.iconst 1, 1) := by decide +kernel
theorem dX7_type_12 : decode cX7_type 12 = .ok (.invokevirtual 48, 3) := by decide +kernel
theorem dX7_type_15 : decode cX7_type 15 = .ok (.ireturn, 1) := by decide +kernel
theorem dX7_type_16 : decode cX7_type 16 = .ok (.aload_n 0, 1) := by decide +kernel
theorem dX7_type_17 : decode cX7_type 17 = .ok (.getfield 208, 3) := by decide +kernel
theorem dX7_type_20 : decode cX7_type 20 = .ok (.sipush 150, 3) := by decide +kernel
theorem dX7_type_23 : decode cX7_type 23 = .ok (.if_icmp .ne 9, 3) := by decide +kernel
theorem dX7_type_26 : decode cX7_type 26 = .ok (.aload_n 0, 1) := by decide +kernel
theorem dX7_type_27 : decode cX7_type 27 = .ok (.iconst 2, 1) := by decide +kernel
theorem dX7_type_28 : decode cX7_type 28 = .ok (.invokevirtual 48, 3) := by decide +kernel
theorem dX7_type_31 : decode cX7_type 31 = .ok (.ireturn, 1) := by decide +kernel
theorem dX7_type_32 : decode cX7_type 32 = .ok (.aload_n 0, 1) := by decide +kernel
theorem dX7_type_33 : decode cX7_type 33 = .ok (.getfield 19, 3) := by decide +kernel
theorem dX7_type_36 : decode cX7_type 36 = .ok (.aload_n 0, 1) := by decide +kernel
theorem dX7_type_37 : decode cX7_type 37 = .ok (.getfield 208, 3) := by decide +kernel
theorem dX7_type_40 : decode cX7_type 40 = .ok (.iload_n 1, 1) := by decide +kernel
theorem dX7_type_41 : decode cX7_type 41 = .ok (.iastore, 1) := by decide +kernel
theorem dX7_type_42 : decode cX7_type 42 = .ok (.aload_n 0, 1) := by decide +kernel
theorem dX7_type_43 : decode cX7_type 43 = .ok (.dup, 1) := by decide +kernel
theorem dX7_type_44 : decode cX7_type 44 = .ok (.getfield 208, 3) := by decide +kernel
theorem dX7_type_47 : decode cX7_type 47 = .ok (.iconst 1, 1) := by decide +kernel
theorem dX7_type_48 : decode cX7_type 48 = .ok (.iadd, 1) := by decide +kernel
theorem dX7_type_49 : decode cX7_type 49 = .ok (.putfield 208, 3) := by decide +kernel
theorem dX7_type_52 : decode cX7_type 52 = .ok (.aload_n 0, 1) := by decide +kernel
theorem dX7_type_53 : decode cX7_type 53 = .ok (.aload_n 0, 1) := by decide +kernel
theorem dX7_type_54 : decode cX7_type 54 = .ok (.getfield 208, 3) := by decide +kernel
theorem dX7_type_57 : decode cX7_type 57 = .ok (.invokevirtual 58, 3) := by decide +kernel
theorem dX7_type_60 : decode cX7_type 60 = .ok (.ireturn, 1) := by decide +kernel
theorem dX7_clearCommands_0 : decode cX7_clearCommands 0 = .ok (.aload_n 0, 1) := by decide +kernel
theorem dX7_clearCommands_1 : decode cX7_clearCommands 1 = .ok (.getfield 208, 3) := by decide +kernel
theorem dX7_clearCommands_4 : decode cX7_clearCommands 4 = .ok (.istore_n 1, 1) := by decide +kernel
theorem dX7_clearCommands_5 : decode cX7_clearCommands 5 = .ok (.aload_n 0, 1) := by decide +kernel
theorem dX7_clearCommands_6 : decode cX7_clearCommands 6 = .ok (.iconst 0, 1) := by decide +kernel
theorem dX7_clearCommands_7 : decode cX7_clearCommands 7 = .ok (.putfield 208, 3) := by decide +kernel
theorem dX7_clearCommands_10 : decode cX7_clearCommands 10 = .ok (.aload_n 0, 1) := by decide +kernel
theorem dX7_clearCommands_11 : decode cX7_clearCommands 11 = .ok (.iload_n 1, 1) := by decide +kernel
theorem dX7_clearCommands_12 : decode cX7_clearCommands 12 = .ok (.invokevirtual 58, 3) := by decide +kernel
theorem dX7_clearCommands_15 : decode cX7_clearCommands 15 = .ok (.ireturn, 1) := by decide +kernel
theorem dX7_here_0 : decode cX7_here 0 = .ok (.aload_n 0, 1) := by decide +kernel
theorem dX7_here_1 : decode cX7_here 1 = .ok (.getfield 226, 3) := by decide +kernel
theorem dX7_here_4 : decode cX7_here 4 = .ok (.aload_n 0, 1) := by decide +kernel
theorem dX7_here_5 : decode cX7_here 5 = .ok (.getfield 208, 3) := by decide +kernel
theorem dX7_here_8 : decode cX7_here 8 = .ok (.if_icmp .ge 15, 3) := by decide +kernel
theorem dX7_here_11 : decode cX7_here 11 = .ok (.aload_n 0, 1) := by decide +kernel
theorem dX7_here_12 : decode cX7_here 12 = .ok (.getfield 19, 3) := by decide +kernel
theorem dX7_here_15 : decode cX7_here 15 = .ok (.aload_n 0, 1) := by decide +kernel
theorem dX7_here_16 : decode cX7_here 16 = .ok (.getfield 226, 3) := by decide +kernel
theorem dX7_here_19 : decode cX7_here 19 = .ok (.iaload, 1) := by decide +kernel
theorem dX7_here_20 : decode cX7_here 20 = .ok (.goto 4, 3) := by decide +kernel
theorem dX7_here_23 : decode cX7_here 23 = .ok (.iconst (-1), 1) := by decide +kernel
theorem dX7_here_24 : decode cX7_here 24 = .ok (.ireturn, 1) := by decide +kernel
theorem dX7_skips_0 : decode cX7_skips 0 = .ok (.aload_n 0, 1) := by decide +kernel
theorem dX7_skips_1 : decode cX7_skips 1 = .ok (.getfield 226, 3) := by decide +kernel
theorem dX7_skips_4 : decode cX7_skips 4 = .ok (.istore_n 1, 1) := by decide +kernel
theorem dX7_skips_5 : decode cX7_skips 5 = .ok (.aload_n 0, 1) := by decide +kernel
theorem dX7_skips_6 : decode cX7_skips 6 = .ok (.invokevirtual 229, 3) := by decide +kernel
theorem dX7_skips_9 : decode cX7_skips 9 = .ok (.bipush 32, 2) := by decide +kernel
theorem dX7_skips_11 : decode cX7_skips 11 = .ok (.if_icmp .ne 16, 3) := by decide +kernel
theorem dX7_skips_14 : decode cX7_skips 14 = .ok (.aload_n 0, 1) := by decide +kernel
theorem dX7_skips_15 : decode cX7_skips 15 = .ok (.dup, 1) := by decide +kernel
theorem dX7_skips_16 : decode cX7_skips 16 = .ok (.getfield 226, 3) := by decide +kernel
theorem dX7_skips_19 : decode cX7_skips 19 = .ok (.iconst 1, 1) := by decide +kernel
theorem dX7_skips_20 : decode cX7_skips 20 = .ok (.iadd, 1) := by decide +kernel
theorem dX7_skips_21 : decode cX7_skips 21 = .ok (.putfield 226, 3) := by decide +kernel
theorem dX7_skips_24 : decode cX7_skips 24 = .ok (.goto (-19), 3) := by decide +kernel
theorem dX7_skips_27 : decode cX7_skips 27 = .ok (.aload_n 0, 1) := by decide +kernel
theorem dX7_skips_28 : decode cX7_skips 28 = .ok (.getfield 226, 3) := by decide +kernel
theorem dX7_skips_31 : decode cX7_skips 31 = .ok (.iload_n 1, 1) := by decide +kernel
theorem dX7_skips_32 : decode cX7_skips 32 = .ok (.if_icmp .le 7, 3) := by decide +kernel
theorem dX7_skips_35 : decode cX7_skips 35 = .ok (.iconst 1, 1) := by decide +kernel
theorem dX7_skips_36 : decode cX7_skips 36 = .ok (.goto 4, 3) := by decide +kernel
theorem dX7_skips_39 : decode cX7_skips 39 = .ok (.iconst 0, 1) := by decide +kernel
theorem dX7_skips_40 : decode cX7_skips 40 = .ok (.ireturn, 1) := by decide +kernel
theorem dX7_isWord_0 : decode cX7_isWord 0 = .ok (.aload_n 0, 1) := by decide +kernel
theorem dX7_isWord_1 : decode cX7_isWord 1 = .ok (.getfield 226, 3) := by decide +kernel
theorem dX7_isWord_4 : decode cX7_isWord 4 = .ok (.iload_n 1, 1) := by decide +kernel
theorem dX7_isWord_5 : decode cX7_isWord 5 = .ok (.isub, 1) := by decide +kernel
theorem dX7_isWord_6 : decode cX7_isWord 6 = .ok (.iload_n 2, 1) := by decide +kernel
theorem dX7_isWord_7 : decode cX7_isWord 7 = .ok (.if_icmp .ne 56, 3) := by decide +kernel
theorem dX7_isWord_10 : decode cX7_isWord 10 = .ok (.aload_n 0, 1) := by decide +kernel
theorem dX7_isWord_11 : decode cX7_isWord 11 = .ok (.getfield 19, 3) := by decide +kernel
theorem dX7_isWord_14 : decode cX7_isWord 14 = .ok (.iload_n 1, 1) := by decide +kernel
theorem dX7_isWord_15 : decode cX7_isWord 15 = .ok (.iaload, 1) := by decide +kernel
theorem dX7_isWord_16 : decode cX7_isWord 16 = .ok (.iload_n 3, 1) := by decide +kernel
theorem dX7_isWord_17 : decode cX7_isWord 17 = .ok (.if_icmp .ne 46, 3) := by decide +kernel
theorem dX7_isWord_20 : decode cX7_isWord 20 = .ok (.aload_n 0, 1) := by decide +kernel
theorem dX7_isWord_21 : decode cX7_isWord 21 = .ok (.getfield 19, 3) := by decide +kernel
theorem dX7_isWord_24 : decode cX7_isWord 24 = .ok (.iload_n 1, 1) := by decide +kernel
theorem dX7_isWord_25 : decode cX7_isWord 25 = .ok (.iconst 1, 1) := by decide +kernel
theorem dX7_isWord_26 : decode cX7_isWord 26 = .ok (.iadd, 1) := by decide +kernel
theorem dX7_isWord_27 : decode cX7_isWord 27 = .ok (.iaload, 1) := by decide +kernel
theorem dX7_isWord_28 : decode cX7_isWord 28 = .ok (.iload 4, 2) := by decide +kernel
theorem dX7_isWord_30 : decode cX7_isWord 30 = .ok (.if_icmp .ne 33, 3) := by decide +kernel
theorem dX7_isWord_33 : decode cX7_isWord 33 = .ok (.aload_n 0, 1) := by decide +kernel
theorem dX7_isWord_34 : decode cX7_isWord 34 = .ok (.getfield 19, 3) := by decide +kernel
theorem dX7_isWord_37 : decode cX7_isWord 37 = .ok (.iload_n 1, 1) := by decide +kernel
theorem dX7_isWord_38 : decode cX7_isWord 38 = .ok (.iconst 2, 1) := by decide +kernel
theorem dX7_isWord_39 : decode cX7_isWord 39 = .ok (.iadd, 1) := by decide +kernel
theorem dX7_isWord_40 : decode cX7_isWord 40 = .ok (.iaload, 1) := by decide +kernel
theorem dX7_isWord_41 : decode cX7_isWord 41 = .ok (.iload 5, 2) := by decide +kernel
theorem dX7_isWord_43 : decode cX7_isWord 43 = .ok (.if_icmp .ne 20, 3) := by decide +kernel
theorem dX7_isWord_46 : decode cX7_isWord 46 = .ok (.aload_n 0, 1) := by decide +kernel
theorem dX7_isWord_47 : decode cX7_isWord 47 = .ok (.getfield 19, 3) := by decide +kernel
theorem dX7_isWord_50 : decode cX7_isWord 50 = .ok (.iload_n 1, 1) := by decide +kernel
theorem dX7_isWord_51 : decode cX7_isWord 51 = .ok (.iconst 3, 1) := by decide +kernel
theorem dX7_isWord_52 : decode cX7_isWord 52 = .ok (.iadd, 1) := by decide +kernel
theorem dX7_isWord_53 : decode cX7_isWord 53 = .ok (.iaload, 1) := by decide +kernel
theorem dX7_isWord_54 : decode cX7_isWord 54 = .ok (.iload 6, 2) := by decide +kernel
theorem dX7_isWord_56 : decode cX7_isWord 56 = .ok (.if_icmp .ne 7, 3) := by decide +kernel
theorem dX7_isWord_59 : decode cX7_isWord 59 = .ok (.iconst 1, 1) := by decide +kernel
theorem dX7_isWord_60 : decode cX7_isWord 60 = .ok (.goto 4, 3) := by decide +kernel
theorem dX7_isWord_63 : decode cX7_isWord 63 = .ok (.iconst 0, 1) := by decide +kernel
theorem dX7_isWord_64 : decode cX7_isWord 64 = .ok (.ireturn, 1) := by decide +kernel
theorem dX7_wordFrom_0 : decode cX7_wordFrom 0 = .ok (.aload_n 0, 1) := by decide +kernel
theorem dX7_wordFrom_1 : decode cX7_wordFrom 1 = .ok (.getfield 226, 3) := by decide +kernel
theorem dX7_wordFrom_4 : decode cX7_wordFrom 4 = .ok (.iload_n 1, 1) := by decide +kernel
theorem dX7_wordFrom_5 : decode cX7_wordFrom 5 = .ok (.isub, 1) := by decide +kernel
theorem dX7_wordFrom_6 : decode cX7_wordFrom 6 = .ok (.iconst 4, 1) := by decide +kernel
theorem dX7_wordFrom_7 : decode cX7_wordFrom 7 = .ok (.if_icmp .ge 5, 3) := by decide +kernel
theorem dX7_wordFrom_10 : decode cX7_wordFrom 10 = .ok (.iconst (-1), 1) := by decide +kernel
theorem dX7_wordFrom_11 : decode cX7_wordFrom 11 = .ok (.ireturn, 1) := by decide +kernel
theorem dX7_wordFrom_12 : decode cX7_wordFrom 12 = .ok (.aload_n 0, 1) := by decide +kernel
theorem dX7_wordFrom_13 : decode cX7_wordFrom 13 = .ok (.getfield 19, 3) := by decide +kernel
theorem dX7_wordFrom_16 : decode cX7_wordFrom 16 = .ok (.aload_n 0, 1) := by decide +kernel
theorem dX7_wordFrom_17 : decode cX7_wordFrom 17 = .ok (.getfield 226, 3) := by decide +kernel
theorem dX7_wordFrom_20 : decode cX7_wordFrom 20 = .ok (.iconst 1, 1) := by decide +kernel
theorem dX7_wordFrom_21 : decode cX7_wordFrom 21 = .ok (.isub, 1) := by decide +kernel
theorem dX7_wordFrom_22 : decode cX7_wordFrom 22 = .ok (.iaload, 1) := by decide +kernel
theorem dX7_wordFrom_23 : decode cX7_wordFrom 23 = .ok (.istore_n 2, 1) := by decide +kernel
theorem dX7_wordFrom_24 : decode cX7_wordFrom 24 = .ok (.aload_n 0, 1) := by decide +kernel
theorem dX7_wordFrom_25 : decode cX7_wordFrom 25 = .ok (.iload_n 1, 1) := by decide +kernel
theorem dX7_wordFrom_26 : decode cX7_wordFrom 26 = .ok (.iconst 4, 1) := by decide +kernel
theorem dX7_wordFrom_27 : decode cX7_wordFrom 27 = .ok (.bipush 119, 2) := by decide +kernel
theorem dX7_wordFrom_29 : decode cX7_wordFrom 29 = .ok (.bipush 97, 2) := by decide +kernel
theorem dX7_wordFrom_31 : decode cX7_wordFrom 31 = .ok (.bipush 108, 2) := by decide +kernel
theorem dX7_wordFrom_33 : decode cX7_wordFrom 33 = .ok (.bipush 108, 2) := by decide +kernel
theorem dX7_wordFrom_35 : decode cX7_wordFrom 35 = .ok (.invokevirtual 232, 3) := by decide +kernel
theorem dX7_wordFrom_38 : decode cX7_wordFrom 38 = .ok (.ifCond .eq 7, 3) := by decide +kernel
theorem dX7_wordFrom_41 : decode cX7_wordFrom 41 = .ok (.iconst 0, 1) := by decide +kernel
theorem dX7_wordFrom_42 : decode cX7_wordFrom 42 = .ok (.goto 185, 3) := by decide +kernel
theorem dX7_wordFrom_45 : decode cX7_wordFrom 45 = .ok (.aload_n 0, 1) := by decide +kernel
theorem dX7_wordFrom_46 : decode cX7_wordFrom 46 = .ok (.iload_n 1, 1) := by decide +kernel
theorem dX7_wordFrom_47 : decode cX7_wordFrom 47 = .ok (.iconst 5, 1) := by decide +kernel
theorem dX7_wordFrom_48 : decode cX7_wordFrom 48 = .ok (.bipush 112, 2) := by decide +kernel
theorem dX7_wordFrom_50 : decode cX7_wordFrom 50 = .ok (.bipush 97, 2) := by decide +kernel
theorem dX7_wordFrom_52 : decode cX7_wordFrom 52 = .ok (.bipush 105, 2) := by decide +kernel
theorem dX7_wordFrom_54 : decode cX7_wordFrom 54 = .ok (.bipush 110, 2) := by decide +kernel
theorem dX7_wordFrom_56 : decode cX7_wordFrom 56 = .ok (.invokevirtual 232, 3) := by decide +kernel
theorem dX7_wordFrom_59 : decode cX7_wordFrom 59 = .ok (.ifCond .eq 13, 3) := by decide +kernel
theorem dX7_wordFrom_62 : decode cX7_wordFrom 62 = .ok (.iload_n 2, 1) := by decide +kernel
theorem dX7_wordFrom_63 : decode cX7_wordFrom 63 = .ok (.bipush 116, 2) := by decide +kernel
theorem dX7_wordFrom_65 : decode cX7_wordFrom 65 = .ok (.if_icmp .ne 7, 3) := by decide +kernel
theorem dX7_wordFrom_68 : decode cX7_wordFrom 68 = .ok (.iconst 1, 1) := by decide +kernel
theorem dX7_wordFrom_69 : decode cX7_wordFrom 69 = .ok (.goto 158, 3) := by decide +kernel
theorem dX7_wordFrom_72 : decode cX7_wordFrom 72 = .ok (.aload_n 0, 1) := by decide +kernel
theorem dX7_wordFrom_73 : decode cX7_wordFrom 73 = .ok (.iload_n 1, 1) := by decide +kernel
theorem dX7_wordFrom_74 : decode cX7_wordFrom 74 = .ok (.iconst 4, 1) := by decide +kernel
theorem dX7_wordFrom_75 : decode cX7_wordFrom 75 = .ok (.bipush 108, 2) := by decide +kernel
theorem dX7_wordFrom_77 : decode cX7_wordFrom 77 = .ok (.bipush 97, 2) := by decide +kernel
theorem dX7_wordFrom_79 : decode cX7_wordFrom 79 = .ok (.bipush 109, 2) := by decide +kernel
theorem dX7_wordFrom_81 : decode cX7_wordFrom 81 = .ok (.bipush 112, 2) := by decide +kernel
theorem dX7_wordFrom_83 : decode cX7_wordFrom 83 = .ok (.invokevirtual 232, 3) := by decide +kernel
theorem dX7_wordFrom_86 : decode cX7_wordFrom 86 = .ok (.ifCond .eq 7, 3) := by decide +kernel
theorem dX7_wordFrom_89 : decode cX7_wordFrom 89 = .ok (.iconst 2, 1) := by decide +kernel
theorem dX7_wordFrom_90 : decode cX7_wordFrom 90 = .ok (.goto 137, 3) := by decide +kernel
theorem dX7_wordFrom_93 : decode cX7_wordFrom 93 = .ok (.aload_n 0, 1) := by decide +kernel
theorem dX7_wordFrom_94 : decode cX7_wordFrom 94 = .ok (.iload_n 1, 1) := by decide +kernel
theorem dX7_wordFrom_95 : decode cX7_wordFrom 95 = .ok (.bipush 6, 2) := by decide +kernel
theorem dX7_wordFrom_97 : decode cX7_wordFrom 97 = .ok (.bipush 99, 2) := by decide +kernel
theorem dX7_wordFrom_99 : decode cX7_wordFrom 99 = .ok (.bipush 111, 2) := by decide +kernel
theorem dX7_wordFrom_101 : decode cX7_wordFrom 101 = .ok (.bipush 114, 2) := by decide +kernel
theorem dX7_wordFrom_103 : decode cX7_wordFrom 103 = .ok (.bipush 110, 2) := by decide +kernel
theorem dX7_wordFrom_105 : decode cX7_wordFrom 105 = .ok (.invokevirtual 232, 3) := by decide +kernel
theorem dX7_wordFrom_108 : decode cX7_wordFrom 108 = .ok (.ifCond .eq 26, 3) := by decide +kernel
theorem dX7_wordFrom_111 : decode cX7_wordFrom 111 = .ok (.aload_n 0, 1) := by decide +kernel
theorem dX7_wordFrom_112 : decode cX7_wordFrom 112 = .ok (.getfield 19, 3) := by decide +kernel
theorem dX7_wordFrom_115 : decode cX7_wordFrom 115 = .ok (.iload_n 1, 1) := by decide +kernel
theorem dX7_wordFrom_116 : decode cX7_wordFrom 116 = .ok (.iconst 4, 1) := by decide +kernel
theorem dX7_wordFrom_117 : decode cX7_wordFrom 117 = .ok (.iadd, 1) := by decide +kernel
theorem dX7_wordFrom_118 : decode cX7_wordFrom 118 = .ok (.iaload, 1) := by decide +kernel
theorem dX7_wordFrom_119 : decode cX7_wordFrom 119 = .ok (.bipush 101, 2) := by decide +kernel
theorem dX7_wordFrom_121 : decode cX7_wordFrom 121 = .ok (.if_icmp .ne 13, 3) := by decide +kernel
theorem dX7_wordFrom_124 : decode cX7_wordFrom 124 = .ok (.iload_n 2, 1) := by decide +kernel
theorem dX7_wordFrom_125 : decode cX7_wordFrom 125 = .ok (.bipush 114, 2) := by decide +kernel
theorem dX7_wordFrom_127 : decode cX7_wordFrom 127 = .ok (.if_icmp .ne 7, 3) := by decide +kernel
theorem dX7_wordFrom_130 : decode cX7_wordFrom 130 = .ok (.iconst 3, 1) := by decide +kernel
theorem dX7_wordFrom_131 : decode cX7_wordFrom 131 = .ok (.goto 96, 3) := by decide +kernel
theorem dX7_wordFrom_134 : decode cX7_wordFrom 134 = .ok (.aload_n 0, 1) := by decide +kernel
theorem dX7_wordFrom_135 : decode cX7_wordFrom 135 = .ok (.iload_n 1, 1) := by decide +kernel
theorem dX7_wordFrom_136 : decode cX7_wordFrom 136 = .ok (.iconst 5, 1) := by decide +kernel
theorem dX7_wordFrom_137 : decode cX7_wordFrom 137 = .ok (.bipush 115, 2) := by decide +kernel
theorem dX7_wordFrom_139 : decode cX7_wordFrom 139 = .ok (.bipush 104, 2) := by decide +kernel
theorem dX7_wordFrom_141 : decode cX7_wordFrom 141 = .ok (.bipush 105, 2) := by decide +kernel
theorem dX7_wordFrom_143 : decode cX7_wordFrom 143 = .ok (.bipush 102, 2) := by decide +kernel
theorem dX7_wordFrom_145 : decode cX7_wordFrom 145 = .ok (.invokevirtual 232, 3) := by decide +kernel
theorem dX7_wordFrom_148 : decode cX7_wordFrom 148 = .ok (.ifCond .eq 13, 3) := by decide +kernel
theorem dX7_wordFrom_151 : decode cX7_wordFrom 151 = .ok (.iload_n 2, 1) := by decide +kernel
theorem dX7_wordFrom_152 : decode cX7_wordFrom 152 = .ok (.bipush 116, 2) := by decide +kernel
theorem dX7_wordFrom_154 : decode cX7_wordFrom 154 = .ok (.if_icmp .ne 7, 3) := by decide +kernel
theorem dX7_wordFrom_157 : decode cX7_wordFrom 157 = .ok (.iconst 4, 1) := by decide +kernel
theorem dX7_wordFrom_158 : decode cX7_wordFrom 158 = .ok (.goto 69, 3) := by decide +kernel
theorem dX7_wordFrom_161 : decode cX7_wordFrom 161 = .ok (.aload_n 0, 1) := by decide +kernel
theorem dX7_wordFrom_162 : decode cX7_wordFrom 162 = .ok (.iload_n 1, 1) := by decide +kernel
theorem dX7_wordFrom_163 : decode cX7_wordFrom 163 = .ok (.iconst 4, 1) := by decide +kernel
theorem dX7_wordFrom_164 : decode cX7_wordFrom 164 = .ok (.bipush 102, 2) := by decide +kernel
theorem dX7_wordFrom_166 : decode cX7_wordFrom 166 = .ok (.bipush 97, 2) := by decide +kernel
theorem dX7_wordFrom_168 : decode cX7_wordFrom 168 = .ok (.bipush 105, 2) := by decide +kernel
theorem dX7_wordFrom_170 : decode cX7_wordFrom 170 = .ok (.bipush 108, 2) := by decide +kernel
theorem dX7_wordFrom_172 : decode cX7_wordFrom 172 = .ok (.invokevirtual 232, 3) := by decide +kernel
theorem dX7_wordFrom_175 : decode cX7_wordFrom 175 = .ok (.ifCond .eq 7, 3) := by decide +kernel
theorem dX7_wordFrom_178 : decode cX7_wordFrom 178 = .ok (.iconst 5, 1) := by decide +kernel
theorem dX7_wordFrom_179 : decode cX7_wordFrom 179 = .ok (.goto 48, 3) := by decide +kernel
theorem dX7_wordFrom_182 : decode cX7_wordFrom 182 = .ok (.aload_n 0, 1) := by decide +kernel
theorem dX7_wordFrom_183 : decode cX7_wordFrom 183 = .ok (.iload_n 1, 1) := by decide +kernel
theorem dX7_wordFrom_184 : decode cX7_wordFrom 184 = .ok (.iconst 4, 1) := by decide +kernel
theorem dX7_wordFrom_185 : decode cX7_wordFrom 185 = .ok (.bipush 109, 2) := by decide +kernel
theorem dX7_wordFrom_187 : decode cX7_wordFrom 187 = .ok (.bipush 101, 2) := by decide +kernel
theorem dX7_wordFrom_189 : decode cX7_wordFrom 189 = .ok (.bipush 110, 2) := by decide +kernel
theorem dX7_wordFrom_191 : decode cX7_wordFrom 191 = .ok (.bipush 100, 2) := by decide +kernel
theorem dX7_wordFrom_193 : decode cX7_wordFrom 193 = .ok (.invokevirtual 232, 3) := by decide +kernel
theorem dX7_wordFrom_196 : decode cX7_wordFrom 196 = .ok (.ifCond .eq 8, 3) := by decide +kernel
theorem dX7_wordFrom_199 : decode cX7_wordFrom 199 = .ok (.bipush 6, 2) := by decide +kernel
theorem dX7_wordFrom_201 : decode cX7_wordFrom 201 = .ok (.goto 26, 3) := by decide +kernel
theorem dX7_wordFrom_204 : decode cX7_wordFrom 204 = .ok (.aload_n 0, 1) := by decide +kernel
theorem dX7_wordFrom_205 : decode cX7_wordFrom 205 = .ok (.iload_n 1, 1) := by decide +kernel
theorem dX7_wordFrom_206 : decode cX7_wordFrom 206 = .ok (.iconst 4, 1) := by decide +kernel
theorem dX7_wordFrom_207 : decode cX7_wordFrom 207 = .ok (.bipush 98, 2) := by decide +kernel
theorem dX7_wordFrom_209 : decode cX7_wordFrom 209 = .ok (.bipush 117, 2) := by decide +kernel
theorem dX7_wordFrom_211 : decode cX7_wordFrom 211 = .ok (.bipush 114, 2) := by decide +kernel
theorem dX7_wordFrom_213 : decode cX7_wordFrom 213 = .ok (.bipush 110, 2) := by decide +kernel
theorem dX7_wordFrom_215 : decode cX7_wordFrom 215 = .ok (.invokevirtual 232, 3) := by decide +kernel
theorem dX7_wordFrom_218 : decode cX7_wordFrom 218 = .ok (.ifCond .eq 8, 3) := by decide +kernel
theorem dX7_wordFrom_221 : decode cX7_wordFrom 221 = .ok (.bipush 7, 2) := by decide +kernel
theorem dX7_wordFrom_223 : decode cX7_wordFrom 223 = .ok (.goto 4, 3) := by decide +kernel
theorem dX7_wordFrom_226 : decode cX7_wordFrom 226 = .ok (.iconst (-1), 1) := by decide +kernel
theorem dX7_wordFrom_227 : decode cX7_wordFrom 227 = .ok (.ireturn, 1) := by decide +kernel
theorem dX7_numbersOf_0 : decode cX7_numbersOf 0 = .ok (.iload_n 0, 1) := by decide +kernel
theorem dX7_numbersOf_1 : decode cX7_numbersOf 1 = .ok (.iconst 1, 1) := by decide +kernel
theorem dX7_numbersOf_2 : decode cX7_numbersOf 2 = .ok (.if_icmp .ne 7, 3) := by decide +kernel
theorem dX7_numbersOf_5 : decode cX7_numbersOf 5 = .ok (.iconst 5, 1) := by decide +kernel
theorem dX7_numbersOf_6 : decode cX7_numbersOf 6 = .ok (.goto 31, 3) := by decide +kernel
theorem dX7_numbersOf_9 : decode cX7_numbersOf 9 = .ok (.iload_n 0, 1) := by decide +kernel
theorem dX7_numbersOf_10 : decode cX7_numbersOf 10 = .ok (.iconst 3, 1) := by decide +kernel
theorem dX7_numbersOf_11 : decode cX7_numbersOf 11 = .ok (.if_icmp .ne 7, 3) := by decide +kernel
theorem dX7_numbersOf_14 : decode cX7_numbersOf 14 = .ok (.iconst 4, 1) := by decide +kernel
theorem dX7_numbersOf_15 : decode cX7_numbersOf 15 = .ok (.goto 22, 3) := by decide +kernel
theorem dX7_numbersOf_18 : decode cX7_numbersOf 18 = .ok (.iload_n 0, 1) := by decide +kernel
theorem dX7_numbersOf_19 : decode cX7_numbersOf 19 = .ok (.ifCond .eq 13, 3) := by decide +kernel
theorem dX7_numbersOf_22 : decode cX7_numbersOf 22 = .ok (.iload_n 0, 1) := by decide +kernel
theorem dX7_numbersOf_23 : decode cX7_numbersOf 23 = .ok (.iconst 2, 1) := by decide +kernel
theorem dX7_numbersOf_24 : decode cX7_numbersOf 24 = .ok (.if_icmp .eq 8, 3) := by decide +kernel
theorem dX7_numbersOf_27 : decode cX7_numbersOf 27 = .ok (.iload_n 0, 1) := by decide +kernel
theorem dX7_numbersOf_28 : decode cX7_numbersOf 28 = .ok (.iconst 4, 1) := by decide +kernel
theorem dX7_numbersOf_29 : decode cX7_numbersOf 29 = .ok (.if_icmp .ne 7, 3) := by decide +kernel
theorem dX7_numbersOf_32 : decode cX7_numbersOf 32 = .ok (.iconst 2, 1) := by decide +kernel
theorem dX7_numbersOf_33 : decode cX7_numbersOf 33 = .ok (.goto 4, 3) := by decide +kernel
theorem dX7_numbersOf_36 : decode cX7_numbersOf 36 = .ok (.iconst 1, 1) := by decide +kernel
theorem dX7_numbersOf_37 : decode cX7_numbersOf 37 = .ok (.ireturn, 1) := by decide +kernel
theorem dX7_isNumber_0 : decode cX7_isNumber 0 = .ok (.aload_n 0, 1) := by decide +kernel
theorem dX7_isNumber_1 : decode cX7_isNumber 1 = .ok (.invokevirtual 236, 3) := by decide +kernel
theorem dX7_isNumber_4 : decode cX7_isNumber 4 = .ok (.ifCond .ne 5, 3) := by decide +kernel
theorem dX7_isNumber_7 : decode cX7_isNumber 7 = .ok (.iconst 0, 1) := by decide +kernel
theorem dX7_isNumber_8 : decode cX7_isNumber 8 = .ok (.ireturn, 1) := by decide +kernel
theorem dX7_isNumber_9 : decode cX7_isNumber 9 = .ok (.aload_n 0, 1) := by decide +kernel
theorem dX7_isNumber_10 : decode cX7_isNumber 10 = .ok (.invokevirtual 229, 3) := by decide +kernel
theorem dX7_isNumber_13 : decode cX7_isNumber 13 = .ok (.bipush 45, 2) := by decide +kernel
theorem dX7_isNumber_15 : decode cX7_isNumber 15 = .ok (.if_icmp .ne 7, 3) := by decide +kernel
theorem dX7_isNumber_18 : decode cX7_isNumber 18 = .ok (.iconst (-1), 1) := by decide +kernel
theorem dX7_isNumber_19 : decode cX7_isNumber 19 = .ok (.goto 4, 3) := by decide +kernel
theorem dX7_isNumber_22 : decode cX7_isNumber 22 = .ok (.iconst 1, 1) := by decide +kernel
theorem dX7_isNumber_23 : decode cX7_isNumber 23 = .ok (.istore_n 2, 1) := by decide +kernel
theorem dX7_isNumber_24 : decode cX7_isNumber 24 = .ok (.aload_n 0, 1) := by decide +kernel
theorem dX7_isNumber_25 : decode cX7_isNumber 25 = .ok (.dup, 1) := by decide +kernel
theorem dX7_isNumber_26 : decode cX7_isNumber 26 = .ok (.getfield 226, 3) := by decide +kernel
theorem dX7_isNumber_29 : decode cX7_isNumber 29 = .ok (.iload_n 2, 1) := by decide +kernel
theorem dX7_isNumber_30 : decode cX7_isNumber 30 = .ok (.ifCond .ge 7, 3) := by decide +kernel
theorem dX7_isNumber_33 : decode cX7_isNumber 33 = .ok (.iconst 1, 1) := by decide +kernel
theorem dX7_isNumber_34 : decode cX7_isNumber 34 = .ok (.goto 4, 3) := by decide +kernel
theorem dX7_isNumber_37 : decode cX7_isNumber 37 = .ok (.iconst 0, 1) := by decide +kernel
theorem dX7_isNumber_38 : decode cX7_isNumber 38 = .ok (.iadd, 1) := by decide +kernel
theorem dX7_isNumber_39 : decode cX7_isNumber 39 = .ok (.putfield 226, 3) := by decide +kernel
theorem dX7_isNumber_42 : decode cX7_isNumber 42 = .ok (.iconst 0, 1) := by decide +kernel
theorem dX7_isNumber_43 : decode cX7_isNumber 43 = .ok (.istore_n 3, 1) := by decide +kernel
theorem dX7_isNumber_44 : decode cX7_isNumber 44 = .ok (.iconst 0, 1) := by decide +kernel
theorem dX7_isNumber_45 : decode cX7_isNumber 45 = .ok (.istore 4, 2) := by decide +kernel
theorem dX7_isNumber_47 : decode cX7_isNumber 47 = .ok (.iload_n 3, 1) := by decide +kernel
theorem dX7_isNumber_48 : decode cX7_isNumber 48 = .ok (.iconst 4, 1) := by decide +kernel
theorem dX7_isNumber_49 : decode cX7_isNumber 49 = .ok (.if_icmp .ge 48, 3) := by decide +kernel
theorem dX7_isNumber_52 : decode cX7_isNumber 52 = .ok (.aload_n 0, 1) := by decide +kernel
theorem dX7_isNumber_53 : decode cX7_isNumber 53 = .ok (.invokevirtual 229, 3) := by decide +kernel
theorem dX7_isNumber_56 : decode cX7_isNumber 56 = .ok (.bipush 48, 2) := by decide +kernel
theorem dX7_isNumber_58 : decode cX7_isNumber 58 = .ok (.bipush 57, 2) := by decide +kernel
theorem dX7_isNumber_60 : decode cX7_isNumber 60 = .ok (.invokestatic 41, 3) := by decide +kernel
theorem dX7_isNumber_63 : decode cX7_isNumber 63 = .ok (.ifCond .eq 34, 3) := by decide +kernel
theorem dX7_isNumber_66 : decode cX7_isNumber 66 = .ok (.bipush 10, 2) := by decide +kernel
theorem dX7_isNumber_68 : decode cX7_isNumber 68 = .ok (.iload 4, 2) := by decide +kernel
theorem dX7_isNumber_70 : decode cX7_isNumber 70 = .ok (.imul, 1) := by decide +kernel
theorem dX7_isNumber_71 : decode cX7_isNumber 71 = .ok (.aload_n 0, 1) := by decide +kernel
theorem dX7_isNumber_72 : decode cX7_isNumber 72 = .ok (.invokevirtual 229, 3) := by decide +kernel
theorem dX7_isNumber_75 : decode cX7_isNumber 75 = .ok (.iadd, 1) := by decide +kernel
theorem dX7_isNumber_76 : decode cX7_isNumber 76 = .ok (.bipush 48, 2) := by decide +kernel
theorem dX7_isNumber_78 : decode cX7_isNumber 78 = .ok (.isub, 1) := by decide +kernel
theorem dX7_isNumber_79 : decode cX7_isNumber 79 = .ok (.istore 4, 2) := by decide +kernel
theorem dX7_isNumber_81 : decode cX7_isNumber 81 = .ok (.iinc 3 1, 3) := by decide +kernel
theorem dX7_isNumber_84 : decode cX7_isNumber 84 = .ok (.aload_n 0, 1) := by decide +kernel
theorem dX7_isNumber_85 : decode cX7_isNumber 85 = .ok (.dup, 1) := by decide +kernel
theorem dX7_isNumber_86 : decode cX7_isNumber 86 = .ok (.getfield 226, 3) := by decide +kernel
theorem dX7_isNumber_89 : decode cX7_isNumber 89 = .ok (.iconst 1, 1) := by decide +kernel
theorem dX7_isNumber_90 : decode cX7_isNumber 90 = .ok (.iadd, 1) := by decide +kernel
theorem dX7_isNumber_91 : decode cX7_isNumber 91 = .ok (.putfield 226, 3) := by decide +kernel
theorem dX7_isNumber_94 : decode cX7_isNumber 94 = .ok (.goto (-47), 3) := by decide +kernel
theorem dX7_isNumber_97 : decode cX7_isNumber 97 = .ok (.aload_n 0, 1) := by decide +kernel
theorem dX7_isNumber_98 : decode cX7_isNumber 98 = .ok (.getfield 35, 3) := by decide +kernel
theorem dX7_isNumber_101 : decode cX7_isNumber 101 = .ok (.iload_n 1, 1) := by decide +kernel
theorem dX7_isNumber_102 : decode cX7_isNumber 102 = .ok (.iload_n 2, 1) := by decide +kernel
theorem dX7_isNumber_103 : decode cX7_isNumber 103 = .ok (.iload 4, 2) := by decide +kernel
theorem dX7_isNumber_105 : decode cX7_isNumber 105 = .ok (.imul, 1) := by decide +kernel
theorem dX7_isNumber_106 : decode cX7_isNumber 106 = .ok (.iastore, 1) := by decide +kernel
theorem dX7_isNumber_107 : decode cX7_isNumber 107 = .ok (.iload_n 3, 1) := by decide +kernel
theorem dX7_isNumber_108 : decode cX7_isNumber 108 = .ok (.ifCond .le 7, 3) := by decide +kernel
theorem dX7_isNumber_111 : decode cX7_isNumber 111 = .ok (.iconst 1, 1) := by decide +kernel
theorem dX7_isNumber_112 : decode cX7_isNumber 112 = .ok (.goto 4, 3) := by decide +kernel
theorem dX7_isNumber_115 : decode cX7_isNumber 115 = .ok (.iconst 0, 1) := by decide +kernel
theorem dX7_isNumber_116 : decode cX7_isNumber 116 = .ok (.ireturn, 1) := by decide +kernel
theorem dX7_isCommand_0 : decode cX7_isCommand 0 = .ok (.aload_n 0, 1) := by decide +kernel
theorem dX7_isCommand_1 : decode cX7_isCommand 1 = .ok (.getfield 226, 3) := by decide +kernel
theorem dX7_isCommand_4 : decode cX7_isCommand 4 = .ok (.istore_n 1, 1) := by decide +kernel
theorem dX7_isCommand_5 : decode cX7_isCommand 5 = .ok (.aload_n 0, 1) := by decide +kernel
theorem dX7_isCommand_6 : decode cX7_isCommand 6 = .ok (.invokevirtual 229, 3) := by decide +kernel
theorem dX7_isCommand_9 : decode cX7_isCommand 9 = .ok (.bipush 97, 2) := by decide +kernel
theorem dX7_isCommand_11 : decode cX7_isCommand 11 = .ok (.bipush 122, 2) := by decide +kernel
theorem dX7_isCommand_13 : decode cX7_isCommand 13 = .ok (.invokestatic 41, 3) := by decide +kernel
theorem dX7_isCommand_16 : decode cX7_isCommand 16 = .ok (.ifCond .eq 16, 3) := by decide +kernel
theorem dX7_isCommand_19 : decode cX7_isCommand 19 = .ok (.aload_n 0, 1) := by decide +kernel
theorem dX7_isCommand_20 : decode cX7_isCommand 20 = .ok (.dup, 1) := by decide +kernel
theorem dX7_isCommand_21 : decode cX7_isCommand 21 = .ok (.getfield 226, 3) := by decide +kernel
theorem dX7_isCommand_24 : decode cX7_isCommand 24 = .ok (.iconst 1, 1) := by decide +kernel
theorem dX7_isCommand_25 : decode cX7_isCommand 25 = .ok (.iadd, 1) := by decide +kernel
theorem dX7_isCommand_26 : decode cX7_isCommand 26 = .ok (.putfield 226, 3) := by decide +kernel
theorem dX7_isCommand_29 : decode cX7_isCommand 29 = .ok (.goto (-24), 3) := by decide +kernel
theorem dX7_isCommand_32 : decode cX7_isCommand 32 = .ok (.aload_n 0, 1) := by decide +kernel
theorem dX7_isCommand_33 : decode cX7_isCommand 33 = .ok (.aload_n 0, 1) := by decide +kernel
theorem dX7_isCommand_34 : decode cX7_isCommand 34 = .ok (.iload_n 1, 1) := by decide +kernel
theorem dX7_isCommand_35 : decode cX7_isCommand 35 = .ok (.invokevirtual 240, 3) := by decide +kernel
theorem dX7_isCommand_38 : decode cX7_isCommand 38 = .ok (.putfield 243, 3) := by decide +kernel
theorem dX7_isCommand_41 : decode cX7_isCommand 41 = .ok (.aload_n 0, 1) := by decide +kernel
theorem dX7_isCommand_42 : decode cX7_isCommand 42 = .ok (.getfield 243, 3) := by decide +kernel
theorem dX7_isCommand_45 : decode cX7_isCommand 45 = .ok (.ifCond .ge 10, 3) := by decide +kernel
theorem dX7_isCommand_48 : decode cX7_isCommand 48 = .ok (.aload_n 0, 1) := by decide +kernel
theorem dX7_isCommand_49 : decode cX7_isCommand 49 = .ok (.iload_n 1, 1) := by decide +kernel
theorem dX7_isCommand_50 : decode cX7_isCommand 50 = .ok (.putfield 226, 3) := by decide +kernel
theorem dX7_isCommand_53 : decode cX7_isCommand 53 = .ok (.iconst 0, 1) := by decide +kernel
theorem dX7_isCommand_54 : decode cX7_isCommand 54 = .ok (.ireturn, 1) := by decide +kernel
theorem dX7_isCommand_55 : decode cX7_isCommand 55 = .ok (.iconst 0, 1) := by decide +kernel
theorem dX7_isCommand_56 : decode cX7_isCommand 56 = .ok (.istore_n 2, 1) := by decide +kernel
theorem dX7_isCommand_57 : decode cX7_isCommand 57 = .ok (.iload_n 2, 1) := by decide +kernel
theorem dX7_isCommand_58 : decode cX7_isCommand 58 = .ok (.aload_n 0, 1) := by decide +kernel
theorem dX7_isCommand_59 : decode cX7_isCommand 59 = .ok (.getfield 243, 3) := by decide +kernel
theorem dX7_isCommand_62 : decode cX7_isCommand 62 = .ok (.invokestatic 246, 3) := by decide +kernel
theorem dX7_isCommand_65 : decode cX7_isCommand 65 = .ok (.if_icmp .ge 19, 3) := by decide +kernel
theorem dX7_isCommand_68 : decode cX7_isCommand 68 = .ok (.aload_n 0, 1) := by decide +kernel
theorem dX7_isCommand_69 : decode cX7_isCommand 69 = .ok (.iload_n 2, 1) := by decide +kernel
theorem dX7_isCommand_70 : decode cX7_isCommand 70 = .ok (.invokevirtual 249, 3) := by decide +kernel
theorem dX7_isCommand_73 : decode cX7_isCommand 73 = .ok (.ifCond .ne 5, 3) := by decide +kernel
theorem dX7_isCommand_76 : decode cX7_isCommand 76 = .ok (.iconst 0, 1) := by decide +kernel
theorem dX7_isCommand_77 : decode cX7_isCommand 77 = .ok (.ireturn, 1) := by decide +kernel
theorem dX7_isCommand_78 : decode cX7_isCommand 78 = .ok (.iinc 2 1, 3) := by decide +kernel
theorem dX7_isCommand_81 : decode cX7_isCommand 81 = .ok (.goto (-24), 3) := by decide +kernel
theorem dX7_isCommand_84 : decode cX7_isCommand 84 = .ok (.aload_n 0, 1) := by decide +kernel
theorem dX7_isCommand_85 : decode cX7_isCommand 85 = .ok (.invokevirtual 236, 3) := by decide +kernel
theorem dX7_isCommand_88 : decode cX7_isCommand 88 = .ok (.istore_n 2, 1) := by decide +kernel
theorem dX7_isCommand_89 : decode cX7_isCommand 89 = .ok (.aload_n 0, 1) := by decide +kernel
theorem dX7_isCommand_90 : decode cX7_isCommand 90 = .ok (.invokevirtual 229, 3) := by decide +kernel
theorem dX7_isCommand_93 : decode cX7_isCommand 93 = .ok (.bipush 59, 2) := by decide +kernel
theorem dX7_isCommand_95 : decode cX7_isCommand 95 = .ok (.if_icmp .eq 5, 3) := by decide +kernel
theorem dX7_isCommand_98 : decode cX7_isCommand 98 = .ok (.iconst 0, 1) := by decide +kernel
theorem dX7_isCommand_99 : decode cX7_isCommand 99 = .ok (.ireturn, 1) := by decide +kernel
theorem dX7_isCommand_100 : decode cX7_isCommand 100 = .ok (.aload_n 0, 1) := by decide +kernel
theorem dX7_isCommand_101 : decode cX7_isCommand 101 = .ok (.dup, 1) := by decide +kernel
theorem dX7_isCommand_102 : decode cX7_isCommand 102 = .ok (.getfield 226, 3) := by decide +kernel
theorem dX7_isCommand_105 : decode cX7_isCommand 105 = .ok (.iconst 1, 1) := by decide +kernel
theorem dX7_isCommand_106 : decode cX7_isCommand 106 = .ok (.iadd, 1) := by decide +kernel
theorem dX7_isCommand_107 : decode cX7_isCommand 107 = .ok (.putfield 226, 3) := by decide +kernel
theorem dX7_isCommand_110 : decode cX7_isCommand 110 = .ok (.aload_n 0, 1) := by decide +kernel
theorem dX7_isCommand_111 : decode cX7_isCommand 111 = .ok (.invokevirtual 236, 3) := by decide +kernel
theorem dX7_isCommand_114 : decode cX7_isCommand 114 = .ok (.istore_n 2, 1) := by decide +kernel
theorem dX7_isCommand_115 : decode cX7_isCommand 115 = .ok (.iconst 1, 1) := by decide +kernel
theorem dX7_isCommand_116 : decode cX7_isCommand 116 = .ok (.ireturn, 1) := by decide +kernel
theorem dX7_faultOfText_0 : decode cX7_faultOfText 0 = .ok (.aload_n 0, 1) := by decide +kernel
theorem dX7_faultOfText_1 : decode cX7_faultOfText 1 = .ok (.iconst 0, 1) := by decide +kernel
theorem dX7_faultOfText_2 : decode cX7_faultOfText 2 = .ok (.putfield 226, 3) := by decide +kernel
theorem dX7_faultOfText_5 : decode cX7_faultOfText 5 = .ok (.aload_n 0, 1) := by decide +kernel
theorem dX7_faultOfText_6 : decode cX7_faultOfText 6 = .ok (.invokevirtual 236, 3) := by decide +kernel
theorem dX7_faultOfText_9 : decode cX7_faultOfText 9 = .ok (.istore_n 1, 1) := by decide +kernel
theorem dX7_faultOfText_10 : decode cX7_faultOfText 10 = .ok (.aload_n 0, 1) := by decide +kernel
theorem dX7_faultOfText_11 : decode cX7_faultOfText 11 = .ok (.getfield 226, 3) := by decide +kernel
theorem dX7_faultOfText_14 : decode cX7_faultOfText 14 = .ok (.aload_n 0, 1) := by decide +kernel
theorem dX7_faultOfText_15 : decode cX7_faultOfText 15 = .ok (.getfield 208, 3) := by decide +kernel
theorem dX7_faultOfText_18 : decode cX7_faultOfText 18 = .ok (.if_icmp .ge 15, 3) := by decide +kernel
theorem dX7_faultOfText_21 : decode cX7_faultOfText 21 = .ok (.aload_n 0, 1) := by decide +kernel
theorem dX7_faultOfText_22 : decode cX7_faultOfText 22 = .ok (.invokevirtual 252, 3) := by decide +kernel
theorem dX7_faultOfText_25 : decode cX7_faultOfText 25 = .ok (.ifCond .ne (-15), 3) := by decide +kernel
theorem dX7_faultOfText_28 : decode cX7_faultOfText 28 = .ok (.aload_n 0, 1) := by decide +kernel
theorem dX7_faultOfText_29 : decode cX7_faultOfText 29 = .ok (.getfield 226, 3) := by decide +kernel
theorem dX7_faultOfText_32 : decode cX7_faultOfText 32 = .ok (.ireturn, 1) := by decide +kernel
theorem dX7_faultOfText_33 : decode cX7_faultOfText 33 = .ok (.sipush (-1000), 3) := by decide +kernel
theorem dX7_faultOfText_36 : decode cX7_faultOfText 36 = .ok (.ireturn, 1) := by decide +kernel
theorem dX7_does_0 : decode cX7_does 0 = .ok (.aload_n 0, 1) := by decide +kernel
theorem dX7_does_1 : decode cX7_does 1 = .ok (.getfield 243, 3) := by decide +kernel
theorem dX7_does_4 : decode cX7_does 4 = .ok (.tableswitch 174 0 7 #[48, 65, 100, 117, 146, 174, 174, 163], 48) := by decide +kernel
theorem dX7_does_52 : decode cX7_does 52 = .ok (.aload_n 0, 1) := by decide +kernel
theorem dX7_does_53 : decode cX7_does 53 = .ok (.aload_n 0, 1) := by decide +kernel
theorem dX7_does_54 : decode cX7_does 54 = .ok (.getfield 35, 3) := by decide +kernel
theorem dX7_does_57 : decode cX7_does 57 = .ok (.iconst 0, 1) := by decide +kernel
theorem dX7_does_58 : decode cX7_does 58 = .ok (.iaload, 1) := by decide +kernel
theorem dX7_does_59 : decode cX7_does 59 = .ok (.aload_n 0, 1) := by decide +kernel
theorem dX7_does_60 : decode cX7_does 60 = .ok (.getfield 35, 3) := by decide +kernel
theorem dX7_does_63 : decode cX7_does 63 = .ok (.iconst 1, 1) := by decide +kernel
theorem dX7_does_64 : decode cX7_does 64 = .ok (.iaload, 1) := by decide +kernel
theorem dX7_does_65 : decode cX7_does 65 = .ok (.invokevirtual 165, 3) := by decide +kernel
theorem dX7_does_68 : decode cX7_does 68 = .ok (.ireturn, 1) := by decide +kernel
theorem dX7_does_69 : decode cX7_does 69 = .ok (.aload_n 0, 1) := by decide +kernel
theorem dX7_does_70 : decode cX7_does 70 = .ok (.aload_n 0, 1) := by decide +kernel
theorem dX7_does_71 : decode cX7_does 71 = .ok (.getfield 35, 3) := by decide +kernel
theorem dX7_does_74 : decode cX7_does 74 = .ok (.iconst 0, 1) := by decide +kernel
theorem dX7_does_75 : decode cX7_does 75 = .ok (.iaload, 1) := by decide +kernel
theorem dX7_does_76 : decode cX7_does 76 = .ok (.aload_n 0, 1) := by decide +kernel
theorem dX7_does_77 : decode cX7_does 77 = .ok (.getfield 35, 3) := by decide +kernel
theorem dX7_does_80 : decode cX7_does 80 = .ok (.iconst 1, 1) := by decide +kernel
theorem dX7_does_81 : decode cX7_does 81 = .ok (.iaload, 1) := by decide +kernel
theorem dX7_does_82 : decode cX7_does 82 = .ok (.aload_n 0, 1) := by decide +kernel
theorem dX7_does_83 : decode cX7_does 83 = .ok (.getfield 35, 3) := by decide +kernel
theorem dX7_does_86 : decode cX7_does 86 = .ok (.iconst 2, 1) := by decide +kernel
theorem dX7_does_87 : decode cX7_does 87 = .ok (.iaload, 1) := by decide +kernel
theorem dX7_does_88 : decode cX7_does 88 = .ok (.aload_n 0, 1) := by decide +kernel
theorem dX7_does_89 : decode cX7_does 89 = .ok (.getfield 35, 3) := by decide +kernel
theorem dX7_does_92 : decode cX7_does 92 = .ok (.iconst 3, 1) := by decide +kernel
theorem dX7_does_93 : decode cX7_does 93 = .ok (.iaload, 1) := by decide +kernel
theorem dX7_does_94 : decode cX7_does 94 = .ok (.aload_n 0, 1) := by decide +kernel
theorem dX7_does_95 : decode cX7_does 95 = .ok (.getfield 35, 3) := by decide +kernel
theorem dX7_does_98 : decode cX7_does 98 = .ok (.iconst 4, 1) := by decide +kernel
theorem dX7_does_99 : decode cX7_does 99 = .ok (.iaload, 1) := by decide +kernel
theorem dX7_does_100 : decode cX7_does 100 = .ok (.invokevirtual 171, 3) := by decide +kernel
theorem dX7_does_103 : decode cX7_does 103 = .ok (.ireturn, 1) := by decide +kernel
theorem dX7_does_104 : decode cX7_does 104 = .ok (.aload_n 0, 1) := by decide +kernel
theorem dX7_does_105 : decode cX7_does 105 = .ok (.aload_n 0, 1) := by decide +kernel
theorem dX7_does_106 : decode cX7_does 106 = .ok (.getfield 35, 3) := by decide +kernel
theorem dX7_does_109 : decode cX7_does 109 = .ok (.iconst 0, 1) := by decide +kernel
theorem dX7_does_110 : decode cX7_does 110 = .ok (.iaload, 1) := by decide +kernel
theorem dX7_does_111 : decode cX7_does 111 = .ok (.aload_n 0, 1) := by decide +kernel
theorem dX7_does_112 : decode cX7_does 112 = .ok (.getfield 35, 3) := by decide +kernel
theorem dX7_does_115 : decode cX7_does 115 = .ok (.iconst 1, 1) := by decide +kernel
theorem dX7_does_116 : decode cX7_does 116 = .ok (.iaload, 1) := by decide +kernel
theorem dX7_does_117 : decode cX7_does 117 = .ok (.invokevirtual 175, 3) := by decide +kernel
theorem dX7_does_120 : decode cX7_does 120 = .ok (.ireturn, 1) := by decide +kernel
theorem dX7_does_121 : decode cX7_does 121 = .ok (.aload_n 0, 1) := by decide +kernel
theorem dX7_does_122 : decode cX7_does 122 = .ok (.aload_n 0, 1) := by decide +kernel
theorem dX7_does_123 : decode cX7_does 123 = .ok (.getfield 35, 3) := by decide +kernel
theorem dX7_does_126 : decode cX7_does 126 = .ok (.iconst 0, 1) := by decide +kernel
theorem dX7_does_127 : decode cX7_does 127 = .ok (.iaload, 1) := by decide +kernel
theorem dX7_does_128 : decode cX7_does 128 = .ok (.aload_n 0, 1) := by decide +kernel
theorem dX7_does_129 : decode cX7_does 129 = .ok (.getfield 35, 3) := by decide +kernel
theorem dX7_does_132 : decode cX7_does 132 = .ok (.iconst 1, 1) := by decide +kernel
theorem dX7_does_133 : decode cX7_does 133 = .ok (.iaload, 1) := by decide +kernel
theorem dX7_does_134 : decode cX7_does 134 = .ok (.aload_n 0, 1) := by decide +kernel
theorem dX7_does_135 : decode cX7_does 135 = .ok (.getfield 35, 3) := by decide +kernel
theorem dX7_does_138 : decode cX7_does 138 = .ok (.iconst 2, 1) := by decide +kernel
theorem dX7_does_139 : decode cX7_does 139 = .ok (.iaload, 1) := by decide +kernel
theorem dX7_does_140 : decode cX7_does 140 = .ok (.aload_n 0, 1) := by decide +kernel
theorem dX7_does_141 : decode cX7_does 141 = .ok (.getfield 35, 3) := by decide +kernel
theorem dX7_does_144 : decode cX7_does 144 = .ok (.iconst 3, 1) := by decide +kernel
theorem dX7_does_145 : decode cX7_does 145 = .ok (.iaload, 1) := by decide +kernel
theorem dX7_does_146 : decode cX7_does 146 = .ok (.invokevirtual 178, 3) := by decide +kernel
theorem dX7_does_149 : decode cX7_does 149 = .ok (.ireturn, 1) := by decide +kernel
theorem dX7_does_150 : decode cX7_does 150 = .ok (.aload_n 0, 1) := by decide +kernel
theorem dX7_does_151 : decode cX7_does 151 = .ok (.aload_n 0, 1) := by decide +kernel
theorem dX7_does_152 : decode cX7_does 152 = .ok (.getfield 35, 3) := by decide +kernel
theorem dX7_does_155 : decode cX7_does 155 = .ok (.iconst 0, 1) := by decide +kernel
theorem dX7_does_156 : decode cX7_does 156 = .ok (.iaload, 1) := by decide +kernel
theorem dX7_does_157 : decode cX7_does 157 = .ok (.aload_n 0, 1) := by decide +kernel
theorem dX7_does_158 : decode cX7_does 158 = .ok (.getfield 35, 3) := by decide +kernel
theorem dX7_does_161 : decode cX7_does 161 = .ok (.iconst 1, 1) := by decide +kernel
theorem dX7_does_162 : decode cX7_does 162 = .ok (.iaload, 1) := by decide +kernel
theorem dX7_does_163 : decode cX7_does 163 = .ok (.invokevirtual 186, 3) := by decide +kernel
theorem dX7_does_166 : decode cX7_does 166 = .ok (.ireturn, 1) := by decide +kernel
theorem dX7_does_167 : decode cX7_does 167 = .ok (.aload_n 0, 1) := by decide +kernel
theorem dX7_does_168 : decode cX7_does 168 = .ok (.aload_n 0, 1) := by decide +kernel
theorem dX7_does_169 : decode cX7_does 169 = .ok (.getfield 35, 3) := by decide +kernel
theorem dX7_does_172 : decode cX7_does 172 = .ok (.iconst 0, 1) := by decide +kernel
theorem dX7_does_173 : decode cX7_does 173 = .ok (.iaload, 1) := by decide +kernel
theorem dX7_does_174 : decode cX7_does 174 = .ok (.invokevirtual 189, 3) := by decide +kernel
theorem dX7_does_177 : decode cX7_does 177 = .ok (.ireturn, 1) := by decide +kernel
theorem dX7_does_178 : decode cX7_does 178 = .ok (.aload_n 0, 1) := by decide +kernel
theorem dX7_does_179 : decode cX7_does 179 = .ok (.aload_n 0, 1) := by decide +kernel
theorem dX7_does_180 : decode cX7_does 180 = .ok (.getfield 35, 3) := by decide +kernel
theorem dX7_does_183 : decode cX7_does 183 = .ok (.iconst 0, 1) := by decide +kernel
theorem dX7_does_184 : decode cX7_does 184 = .ok (.iaload, 1) := by decide +kernel
theorem dX7_does_185 : decode cX7_does 185 = .ok (.aload_n 0, 1) := by decide +kernel
theorem dX7_does_186 : decode cX7_does 186 = .ok (.getfield 243, 3) := by decide +kernel
theorem dX7_does_189 : decode cX7_does 189 = .ok (.bipush 6, 2) := by decide +kernel
theorem dX7_does_191 : decode cX7_does 191 = .ok (.if_icmp .ne 7, 3) := by decide +kernel
theorem dX7_does_194 : decode cX7_does 194 = .ok (.iconst 1, 1) := by decide +kernel
theorem dX7_does_195 : decode cX7_does 195 = .ok (.goto 4, 3) := by decide +kernel
theorem dX7_does_198 : decode cX7_does 198 = .ok (.iconst 0, 1) := by decide +kernel
theorem dX7_does_199 : decode cX7_does 199 = .ok (.invokevirtual 182, 3) := by decide +kernel
theorem dX7_does_202 : decode cX7_does 202 = .ok (.ireturn, 1) := by decide +kernel
theorem dX7_runCommands_0 : decode cX7_runCommands 0 = .ok (.aload_n 0, 1) := by decide +kernel
theorem dX7_runCommands_1 : decode cX7_runCommands 1 = .ok (.invokevirtual 255, 3) := by decide +kernel
theorem dX7_runCommands_4 : decode cX7_runCommands 4 = .ok (.istore_n 1, 1) := by decide +kernel
theorem dX7_runCommands_5 : decode cX7_runCommands 5 = .ok (.iload_n 1, 1) := by decide +kernel
theorem dX7_runCommands_6 : decode cX7_runCommands 6 = .ok (.sipush (-1000), 3) := by decide +kernel
theorem dX7_runCommands_9 : decode cX7_runCommands 9 = .ok (.if_icmp .eq 12, 3) := by decide +kernel
theorem dX7_runCommands_12 : decode cX7_runCommands 12 = .ok (.aload_n 0, 1) := by decide +kernel
theorem dX7_runCommands_13 : decode cX7_runCommands 13 = .ok (.bipush (-10), 2) := by decide +kernel
theorem dX7_runCommands_15 : decode cX7_runCommands 15 = .ok (.iload_n 1, 1) := by decide +kernel
theorem dX7_runCommands_16 : decode cX7_runCommands 16 = .ok (.isub, 1) := by decide +kernel
theorem dX7_runCommands_17 : decode cX7_runCommands 17 = .ok (.invokevirtual 58, 3) := by decide +kernel
theorem dX7_runCommands_20 : decode cX7_runCommands 20 = .ok (.ireturn, 1) := by decide +kernel
theorem dX7_runCommands_21 : decode cX7_runCommands 21 = .ok (.aload_n 0, 1) := by decide +kernel
theorem dX7_runCommands_22 : decode cX7_runCommands 22 = .ok (.invokevirtual 162, 3) := by decide +kernel
theorem dX7_runCommands_25 : decode cX7_runCommands 25 = .ok (.aload_n 0, 1) := by decide +kernel
theorem dX7_runCommands_26 : decode cX7_runCommands 26 = .ok (.iconst 0, 1) := by decide +kernel
theorem dX7_runCommands_27 : decode cX7_runCommands 27 = .ok (.putfield 226, 3) := by decide +kernel
theorem dX7_runCommands_30 : decode cX7_runCommands 30 = .ok (.aload_n 0, 1) := by decide +kernel
theorem dX7_runCommands_31 : decode cX7_runCommands 31 = .ok (.invokevirtual 236, 3) := by decide +kernel
theorem dX7_runCommands_34 : decode cX7_runCommands 34 = .ok (.istore_n 2, 1) := by decide +kernel
theorem dX7_runCommands_35 : decode cX7_runCommands 35 = .ok (.iconst 0, 1) := by decide +kernel
theorem dX7_runCommands_36 : decode cX7_runCommands 36 = .ok (.istore_n 3, 1) := by decide +kernel
theorem dX7_runCommands_37 : decode cX7_runCommands 37 = .ok (.iconst 1, 1) := by decide +kernel
theorem dX7_runCommands_38 : decode cX7_runCommands 38 = .ok (.istore 4, 2) := by decide +kernel
theorem dX7_runCommands_40 : decode cX7_runCommands 40 = .ok (.iload 4, 2) := by decide +kernel
theorem dX7_runCommands_42 : decode cX7_runCommands 42 = .ok (.ifCond .eq 51, 3) := by decide +kernel
theorem dX7_runCommands_45 : decode cX7_runCommands 45 = .ok (.aload_n 0, 1) := by decide +kernel
theorem dX7_runCommands_46 : decode cX7_runCommands 46 = .ok (.getfield 226, 3) := by decide +kernel
theorem dX7_runCommands_49 : decode cX7_runCommands 49 = .ok (.aload_n 0, 1) := by decide +kernel
theorem dX7_runCommands_50 : decode cX7_runCommands 50 = .ok (.getfield 208, 3) := by decide +kernel
theorem dX7_runCommands_53 : decode cX7_runCommands 53 = .ok (.if_icmp .ge 40, 3) := by decide +kernel
theorem dX7_runCommands_56 : decode cX7_runCommands 56 = .ok (.aload_n 0, 1) := by decide +kernel
theorem dX7_runCommands_57 : decode cX7_runCommands 57 = .ok (.invokevirtual 252, 3) := by decide +kernel
theorem dX7_runCommands_60 : decode cX7_runCommands 60 = .ok (.ifCond .eq 14, 3) := by decide +kernel
theorem dX7_runCommands_63 : decode cX7_runCommands 63 = .ok (.aload_n 0, 1) := by decide +kernel
theorem dX7_runCommands_64 : decode cX7_runCommands 64 = .ok (.invokevirtual 258, 3) := by decide +kernel
theorem dX7_runCommands_67 : decode cX7_runCommands 67 = .ok (.ifCond .ne 7, 3) := by decide +kernel
theorem dX7_runCommands_70 : decode cX7_runCommands 70 = .ok (.iconst 1, 1) := by decide +kernel
theorem dX7_runCommands_71 : decode cX7_runCommands 71 = .ok (.goto 4, 3) := by decide +kernel
theorem dX7_runCommands_74 : decode cX7_runCommands 74 = .ok (.iconst 0, 1) := by decide +kernel
theorem dX7_runCommands_75 : decode cX7_runCommands 75 = .ok (.istore 4, 2) := by decide +kernel
theorem dX7_runCommands_77 : decode cX7_runCommands 77 = .ok (.iload_n 3, 1) := by decide +kernel
theorem dX7_runCommands_78 : decode cX7_runCommands 78 = .ok (.iload 4, 2) := by decide +kernel
theorem dX7_runCommands_80 : decode cX7_runCommands 80 = .ok (.ifCond .eq 7, 3) := by decide +kernel
theorem dX7_runCommands_83 : decode cX7_runCommands 83 = .ok (.iconst 1, 1) := by decide +kernel
theorem dX7_runCommands_84 : decode cX7_runCommands 84 = .ok (.goto 4, 3) := by decide +kernel
theorem dX7_runCommands_87 : decode cX7_runCommands 87 = .ok (.iconst 0, 1) := by decide +kernel
theorem dX7_runCommands_88 : decode cX7_runCommands 88 = .ok (.iadd, 1) := by decide +kernel
theorem dX7_runCommands_89 : decode cX7_runCommands 89 = .ok (.istore_n 3, 1) := by decide +kernel
theorem dX7_runCommands_90 : decode cX7_runCommands 90 = .ok (.goto (-50), 3) := by decide +kernel
theorem dX7_runCommands_93 : decode cX7_runCommands 93 = .ok (.aload_n 0, 1) := by decide +kernel
theorem dX7_runCommands_94 : decode cX7_runCommands 94 = .ok (.iload_n 3, 1) := by decide +kernel
theorem dX7_runCommands_95 : decode cX7_runCommands 95 = .ok (.putfield 55, 3) := by decide +kernel
theorem dX7_runCommands_98 : decode cX7_runCommands 98 = .ok (.aload_n 0, 1) := by decide +kernel
theorem dX7_runCommands_99 : decode cX7_runCommands 99 = .ok (.iconst 0, 1) := by decide +kernel
theorem dX7_runCommands_100 : decode cX7_runCommands 100 = .ok (.invokevirtual 168, 3) := by decide +kernel
theorem dX7_runCommands_103 : decode cX7_runCommands 103 = .ok (.ireturn, 1) := by decide +kernel
theorem dX7_mix_0 : decode cX7_mix 0 = .ok (.aload_n 0, 1) := by decide +kernel
theorem dX7_mix_1 : decode cX7_mix 1 = .ok (.ldc2_w 261, 3) := by decide +kernel
theorem dX7_mix_4 : decode cX7_mix 4 = .ok (.aload_n 0, 1) := by decide +kernel
theorem dX7_mix_5 : decode cX7_mix 5 = .ok (.getfield 263, 3) := by decide +kernel
theorem dX7_mix_8 : decode cX7_mix 8 = .ok (.lmul, 1) := by decide +kernel
theorem dX7_mix_9 : decode cX7_mix 9 = .ok (.iload_n 1, 1) := by decide +kernel
theorem dX7_mix_10 : decode cX7_mix 10 = .ok (.i2l, 1) := by decide +kernel
theorem dX7_mix_11 : decode cX7_mix 11 = .ok (.ladd, 1) := by decide +kernel
theorem dX7_mix_12 : decode cX7_mix 12 = .ok (.putfield 263, 3) := by decide +kernel
theorem dX7_mix_15 : decode cX7_mix 15 = .ok (.return_, 1) := by decide +kernel
theorem dX7_mixPlace_0 : decode cX7_mixPlace 0 = .ok (.iconst 0, 1) := by decide +kernel
theorem dX7_mixPlace_1 : decode cX7_mixPlace 1 = .ok (.istore_n 3, 1) := by decide +kernel
theorem dX7_mixPlace_2 : decode cX7_mixPlace 2 = .ok (.iload_n 3, 1) := by decide +kernel
theorem dX7_mixPlace_3 : decode cX7_mixPlace 3 = .ok (.bipush 6, 2) := by decide +kernel
theorem dX7_mixPlace_5 : decode cX7_mixPlace 5 = .ok (.if_icmp .ge 20, 3) := by decide +kernel
theorem dX7_mixPlace_8 : decode cX7_mixPlace 8 = .ok (.aload_n 0, 1) := by decide +kernel
theorem dX7_mixPlace_9 : decode cX7_mixPlace 9 = .ok (.aload_n 0, 1) := by decide +kernel
theorem dX7_mixPlace_10 : decode cX7_mixPlace 10 = .ok (.iload_n 1, 1) := by decide +kernel
theorem dX7_mixPlace_11 : decode cX7_mixPlace 11 = .ok (.iload_n 2, 1) := by decide +kernel
theorem dX7_mixPlace_12 : decode cX7_mixPlace 12 = .ok (.iload_n 3, 1) := by decide +kernel
theorem dX7_mixPlace_13 : decode cX7_mixPlace 13 = .ok (.invokevirtual 196, 3) := by decide +kernel
theorem dX7_mixPlace_16 : decode cX7_mixPlace 16 = .ok (.invokevirtual 267, 3) := by decide +kernel
theorem dX7_mixPlace_19 : decode cX7_mixPlace 19 = .ok (.iinc 3 1, 3) := by decide +kernel
theorem dX7_mixPlace_22 : decode cX7_mixPlace 22 = .ok (.goto (-20), 3) := by decide +kernel
theorem dX7_mixPlace_25 : decode cX7_mixPlace 25 = .ok (.iconst 0, 1) := by decide +kernel
theorem dX7_mixPlace_26 : decode cX7_mixPlace 26 = .ok (.istore_n 3, 1) := by decide +kernel
theorem dX7_mixPlace_27 : decode cX7_mixPlace 27 = .ok (.iload_n 3, 1) := by decide +kernel
theorem dX7_mixPlace_28 : decode cX7_mixPlace 28 = .ok (.aload_n 0, 1) := by decide +kernel
theorem dX7_mixPlace_29 : decode cX7_mixPlace 29 = .ok (.getfield 7, 3) := by decide +kernel
theorem dX7_mixPlace_32 : decode cX7_mixPlace 32 = .ok (.iconst 4, 1) := by decide +kernel
theorem dX7_mixPlace_33 : decode cX7_mixPlace 33 = .ok (.iaload, 1) := by decide +kernel
theorem dX7_mixPlace_34 : decode cX7_mixPlace 34 = .ok (.if_icmp .ge 20, 3) := by decide +kernel
theorem dX7_mixPlace_37 : decode cX7_mixPlace 37 = .ok (.aload_n 0, 1) := by decide +kernel
theorem dX7_mixPlace_38 : decode cX7_mixPlace 38 = .ok (.aload_n 0, 1) := by decide +kernel
theorem dX7_mixPlace_39 : decode cX7_mixPlace 39 = .ok (.iload_n 3, 1) := by decide +kernel
theorem dX7_mixPlace_40 : decode cX7_mixPlace 40 = .ok (.iload_n 1, 1) := by decide +kernel
theorem dX7_mixPlace_41 : decode cX7_mixPlace 41 = .ok (.iload_n 2, 1) := by decide +kernel
theorem dX7_mixPlace_42 : decode cX7_mixPlace 42 = .ok (.invokevirtual 199, 3) := by decide +kernel
theorem dX7_mixPlace_45 : decode cX7_mixPlace 45 = .ok (.invokevirtual 267, 3) := by decide +kernel
theorem dX7_mixPlace_48 : decode cX7_mixPlace 48 = .ok (.iinc 3 1, 3) := by decide +kernel
theorem dX7_mixPlace_51 : decode cX7_mixPlace 51 = .ok (.goto (-24), 3) := by decide +kernel
theorem dX7_mixPlace_54 : decode cX7_mixPlace 54 = .ok (.return_, 1) := by decide +kernel
theorem dX7_digest_0 : decode cX7_digest 0 = .ok (.aload_n 0, 1) := by decide +kernel
theorem dX7_digest_1 : decode cX7_digest 1 = .ok (.iconst 0, 1) := by decide +kernel
theorem dX7_digest_2 : decode cX7_digest 2 = .ok (.putfield 38, 3) := by decide +kernel
theorem dX7_digest_5 : decode cX7_digest 5 = .ok (.aload_n 0, 1) := by decide +kernel
theorem dX7_digest_6 : decode cX7_digest 6 = .ok (.ldc2_w 270, 3) := by decide +kernel
theorem dX7_digest_9 : decode cX7_digest 9 = .ok (.putfield 263, 3) := by decide +kernel
theorem dX7_digest_12 : decode cX7_digest 12 = .ok (.aload_n 0, 1) := by decide +kernel
theorem dX7_digest_13 : decode cX7_digest 13 = .ok (.aload_n 0, 1) := by decide +kernel
theorem dX7_digest_14 : decode cX7_digest 14 = .ok (.getfield 45, 3) := by decide +kernel
theorem dX7_digest_17 : decode cX7_digest 17 = .ok (.invokevirtual 267, 3) := by decide +kernel
theorem dX7_digest_20 : decode cX7_digest 20 = .ok (.iconst 0, 1) := by decide +kernel
theorem dX7_digest_21 : decode cX7_digest 21 = .ok (.istore_n 1, 1) := by decide +kernel
theorem dX7_digest_22 : decode cX7_digest 22 = .ok (.iload_n 1, 1) := by decide +kernel
theorem dX7_digest_23 : decode cX7_digest 23 = .ok (.bipush 15, 2) := by decide +kernel
theorem dX7_digest_25 : decode cX7_digest 25 = .ok (.if_icmp .ge 18, 3) := by decide +kernel
theorem dX7_digest_28 : decode cX7_digest 28 = .ok (.aload_n 0, 1) := by decide +kernel
theorem dX7_digest_29 : decode cX7_digest 29 = .ok (.aload_n 0, 1) := by decide +kernel
theorem dX7_digest_30 : decode cX7_digest 30 = .ok (.iload_n 1, 1) := by decide +kernel
theorem dX7_digest_31 : decode cX7_digest 31 = .ok (.invokevirtual 214, 3) := by decide +kernel
theorem dX7_digest_34 : decode cX7_digest 34 = .ok (.invokevirtual 267, 3) := by decide +kernel
theorem dX7_digest_37 : decode cX7_digest 37 = .ok (.iinc 1 1, 3) := by decide +kernel
theorem dX7_digest_40 : decode cX7_digest 40 = .ok (.goto (-18), 3) := by decide +kernel
theorem dX7_digest_43 : decode cX7_digest 43 = .ok (.iconst 0, 1) := by decide +kernel
theorem dX7_digest_44 : decode cX7_digest 44 = .ok (.istore_n 1, 1) := by decide +kernel
theorem dX7_digest_45 : decode cX7_digest 45 = .ok (.iload_n 1, 1) := by decide +kernel
theorem dX7_digest_46 : decode cX7_digest 46 = .ok (.aload_n 0, 1) := by decide +kernel
theorem dX7_digest_47 : decode cX7_digest 47 = .ok (.getfield 7, 3) := by decide +kernel
theorem dX7_digest_50 : decode cX7_digest 50 = .ok (.iconst 4, 1) := by decide +kernel
theorem dX7_digest_51 : decode cX7_digest 51 = .ok (.iaload, 1) := by decide +kernel
theorem dX7_digest_52 : decode cX7_digest 52 = .ok (.if_icmp .ge 70, 3) := by decide +kernel
theorem dX7_digest_55 : decode cX7_digest 55 = .ok (.iconst 0, 1) := by decide +kernel
theorem dX7_digest_56 : decode cX7_digest 56 = .ok (.istore_n 2, 1) := by decide +kernel
theorem dX7_digest_57 : decode cX7_digest 57 = .ok (.iload_n 2, 1) := by decide +kernel
theorem dX7_digest_58 : decode cX7_digest 58 = .ok (.bipush 12, 2) := by decide +kernel
theorem dX7_digest_60 : decode cX7_digest 60 = .ok (.if_icmp .ge 19, 3) := by decide +kernel
theorem dX7_digest_63 : decode cX7_digest 63 = .ok (.aload_n 0, 1) := by decide +kernel
theorem dX7_digest_64 : decode cX7_digest 64 = .ok (.aload_n 0, 1) := by decide +kernel
theorem dX7_digest_65 : decode cX7_digest 65 = .ok (.iload_n 1, 1) := by decide +kernel
theorem dX7_digest_66 : decode cX7_digest 66 = .ok (.iload_n 2, 1) := by decide +kernel
theorem dX7_digest_67 : decode cX7_digest 67 = .ok (.invokevirtual 202, 3) := by decide +kernel
theorem dX7_digest_70 : decode cX7_digest 70 = .ok (.invokevirtual 267, 3) := by decide +kernel
theorem dX7_digest_73 : decode cX7_digest 73 = .ok (.iinc 2 1, 3) := by decide +kernel
theorem dX7_digest_76 : decode cX7_digest 76 = .ok (.goto (-19), 3) := by decide +kernel
theorem dX7_digest_79 : decode cX7_digest 79 = .ok (.iconst 0, 1) := by decide +kernel
theorem dX7_digest_80 : decode cX7_digest 80 = .ok (.istore_n 2, 1) := by decide +kernel
theorem dX7_digest_81 : decode cX7_digest 81 = .ok (.iload_n 2, 1) := by decide +kernel
theorem dX7_digest_82 : decode cX7_digest 82 = .ok (.iconst 4, 1) := by decide +kernel
theorem dX7_digest_83 : decode cX7_digest 83 = .ok (.if_icmp .ge 33, 3) := by decide +kernel
theorem dX7_digest_86 : decode cX7_digest 86 = .ok (.aload_n 0, 1) := by decide +kernel
theorem dX7_digest_87 : decode cX7_digest 87 = .ok (.aload_n 0, 1) := by decide +kernel
theorem dX7_digest_88 : decode cX7_digest 88 = .ok (.iload_n 1, 1) := by decide +kernel
theorem dX7_digest_89 : decode cX7_digest 89 = .ok (.iconst 0, 1) := by decide +kernel
theorem dX7_digest_90 : decode cX7_digest 90 = .ok (.iload_n 2, 1) := by decide +kernel
theorem dX7_digest_91 : decode cX7_digest 91 = .ok (.iadd, 1) := by decide +kernel
theorem dX7_digest_92 : decode cX7_digest 92 = .ok (.invokevirtual 61, 3) := by decide +kernel
theorem dX7_digest_95 : decode cX7_digest 95 = .ok (.invokevirtual 267, 3) := by decide +kernel
theorem dX7_digest_98 : decode cX7_digest 98 = .ok (.aload_n 0, 1) := by decide +kernel
theorem dX7_digest_99 : decode cX7_digest 99 = .ok (.aload_n 0, 1) := by decide +kernel
theorem dX7_digest_100 : decode cX7_digest 100 = .ok (.iload_n 1, 1) := by decide +kernel
theorem dX7_digest_101 : decode cX7_digest 101 = .ok (.iconst 4, 1) := by decide +kernel
theorem dX7_digest_102 : decode cX7_digest 102 = .ok (.iload_n 2, 1) := by decide +kernel
theorem dX7_digest_103 : decode cX7_digest 103 = .ok (.iadd, 1) := by decide +kernel
theorem dX7_digest_104 : decode cX7_digest 104 = .ok (.invokevirtual 61, 3) := by decide +kernel
theorem dX7_digest_107 : decode cX7_digest 107 = .ok (.invokevirtual 267, 3) := by decide +kernel
theorem dX7_digest_110 : decode cX7_digest 110 = .ok (.iinc 2 1, 3) := by decide +kernel
theorem dX7_digest_113 : decode cX7_digest 113 = .ok (.goto (-32), 3) := by decide +kernel
theorem dX7_digest_116 : decode cX7_digest 116 = .ok (.iinc 1 1, 3) := by decide +kernel
theorem dX7_digest_119 : decode cX7_digest 119 = .ok (.goto (-74), 3) := by decide +kernel
theorem dX7_digest_122 : decode cX7_digest 122 = .ok (.iconst 0, 1) := by decide +kernel
theorem dX7_digest_123 : decode cX7_digest 123 = .ok (.istore_n 1, 1) := by decide +kernel
theorem dX7_digest_124 : decode cX7_digest 124 = .ok (.iload_n 1, 1) := by decide +kernel
theorem dX7_digest_125 : decode cX7_digest 125 = .ok (.aload_n 0, 1) := by decide +kernel
theorem dX7_digest_126 : decode cX7_digest 126 = .ok (.getfield 7, 3) := by decide +kernel
theorem dX7_digest_129 : decode cX7_digest 129 = .ok (.iconst 1, 1) := by decide +kernel
theorem dX7_digest_130 : decode cX7_digest 130 = .ok (.iaload, 1) := by decide +kernel
theorem dX7_digest_131 : decode cX7_digest 131 = .ok (.if_icmp .ge 33, 3) := by decide +kernel
theorem dX7_digest_134 : decode cX7_digest 134 = .ok (.iconst 0, 1) := by decide +kernel
theorem dX7_digest_135 : decode cX7_digest 135 = .ok (.istore_n 2, 1) := by decide +kernel
theorem dX7_digest_136 : decode cX7_digest 136 = .ok (.iload_n 2, 1) := by decide +kernel
theorem dX7_digest_137 : decode cX7_digest 137 = .ok (.aload_n 0, 1) := by decide +kernel
theorem dX7_digest_138 : decode cX7_digest 138 = .ok (.getfield 7, 3) := by decide +kernel
theorem dX7_digest_141 : decode cX7_digest 141 = .ok (.iconst 0, 1) := by decide +kernel
theorem dX7_digest_142 : decode cX7_digest 142 = .ok (.iaload, 1) := by decide +kernel
theorem dX7_digest_143 : decode cX7_digest 143 = .ok (.if_icmp .ge 15, 3) := by decide +kernel
theorem dX7_digest_146 : decode cX7_digest 146 = .ok (.aload_n 0, 1) := by decide +kernel
theorem dX7_digest_147 : decode cX7_digest 147 = .ok (.iload_n 2, 1) := by decide +kernel
theorem dX7_digest_148 : decode cX7_digest 148 = .ok (.iload_n 1, 1) := by decide +kernel
theorem dX7_digest_149 : decode cX7_digest 149 = .ok (.invokevirtual 272, 3) := by decide +kernel
theorem dX7_digest_152 : decode cX7_digest 152 = .ok (.iinc 2 1, 3) := by decide +kernel
theorem dX7_digest_155 : decode cX7_digest 155 = .ok (.goto (-19), 3) := by decide +kernel
theorem dX7_digest_158 : decode cX7_digest 158 = .ok (.iinc 1 1, 3) := by decide +kernel
theorem dX7_digest_161 : decode cX7_digest 161 = .ok (.goto (-37), 3) := by decide +kernel
theorem dX7_digest_164 : decode cX7_digest 164 = .ok (.aload_n 0, 1) := by decide +kernel
theorem dX7_digest_165 : decode cX7_digest 165 = .ok (.getfield 263, 3) := by decide +kernel
theorem dX7_digest_168 : decode cX7_digest 168 = .ok (.lreturn, 1) := by decide +kernel
