theorem dX0_init_0 : decode cX0_init 0 = .ok (.aload_n 0, 1) := by decide +kernel
theorem dX0_init_1 : decode cX0_init 1 = .ok (.invokespecial 3, 3) := by decide +kernel
theorem dX0_init_4 : decode cX0_init 4 = .ok (.aload_n 0, 1) := by decide +kernel
theorem dX0_init_5 : decode cX0_init 5 = .ok (.bipush 14, 2) := by decide +kernel
theorem dX0_init_7 : decode cX0_init 7 = .ok (.anewarray 9, 3) := by decide +kernel
theorem dX0_init_10 : decode cX0_init 10 = .ok (.putfield 11, 3) := by decide +kernel
theorem dX0_init_13 : decode cX0_init 13 = .ok (.iconst 0, 1) := by decide +kernel
theorem dX0_init_14 : decode cX0_init 14 = .ok (.istore_n 1, 1) := by decide +kernel
theorem dX0_init_15 : decode cX0_init 15 = .ok (.iload_n 1, 1) := by decide +kernel
theorem dX0_init_16 : decode cX0_init 16 = .ok (.bipush 14, 2) := by decide +kernel
theorem dX0_init_18 : decode cX0_init 18 = .ok (.if_icmp .ge 22, 3) := by decide +kernel
theorem dX0_init_21 : decode cX0_init 21 = .ok (.aload_n 0, 1) := by decide +kernel
theorem dX0_init_22 : decode cX0_init 22 = .ok (.getfield 11, 3) := by decide +kernel
theorem dX0_init_25 : decode cX0_init 25 = .ok (.iload_n 1, 1) := by decide +kernel
theorem dX0_init_26 : decode cX0_init 26 = .ok (.new 9, 3) := by decide +kernel
theorem dX0_init_29 : decode cX0_init 29 = .ok (.dup, 1) := by decide +kernel
theorem dX0_init_30 : decode cX0_init 30 = .ok (.invokespecial 17, 3) := by decide +kernel
theorem dX0_init_33 : decode cX0_init 33 = .ok (.aastore, 1) := by decide +kernel
theorem dX0_init_34 : decode cX0_init 34 = .ok (.iinc 1 1, 3) := by decide +kernel
theorem dX0_init_37 : decode cX0_init 37 = .ok (.goto (-22), 3) := by decide +kernel
theorem dX0_init_40 : decode cX0_init 40 = .ok (.return_, 1) := by decide +kernel
theorem dX0_remember_0 : decode cX0_remember 0 = .ok (.aload_n 0, 1) := by decide +kernel
theorem dX0_remember_1 : decode cX0_remember 1 = .ok (.getfield 18, 3) := by decide +kernel
theorem dX0_remember_4 : decode cX0_remember 4 = .ok (.bipush 14, 2) := by decide +kernel
theorem dX0_remember_6 : decode cX0_remember 6 = .ok (.if_icmp .ne 26, 3) := by decide +kernel
theorem dX0_remember_9 : decode cX0_remember 9 = .ok (.aload_n 0, 1) := by decide +kernel
theorem dX0_remember_10 : decode cX0_remember 10 = .ok (.aload_n 0, 1) := by decide +kernel
theorem dX0_remember_11 : decode cX0_remember 11 = .ok (.getfield 22, 3) := by decide +kernel
theorem dX0_remember_14 : decode cX0_remember 14 = .ok (.iconst 1, 1) := by decide +kernel
theorem dX0_remember_15 : decode cX0_remember 15 = .ok (.iadd, 1) := by decide +kernel
theorem dX0_remember_16 : decode cX0_remember 16 = .ok (.bipush 14, 2) := by decide +kernel
theorem dX0_remember_18 : decode cX0_remember 18 = .ok (.irem, 1) := by decide +kernel
theorem dX0_remember_19 : decode cX0_remember 19 = .ok (.putfield 22, 3) := by decide +kernel
theorem dX0_remember_22 : decode cX0_remember 22 = .ok (.aload_n 0, 1) := by decide +kernel
theorem dX0_remember_23 : decode cX0_remember 23 = .ok (.dup, 1) := by decide +kernel
theorem dX0_remember_24 : decode cX0_remember 24 = .ok (.getfield 18, 3) := by decide +kernel
theorem dX0_remember_27 : decode cX0_remember 27 = .ok (.iconst 1, 1) := by decide +kernel
theorem dX0_remember_28 : decode cX0_remember 28 = .ok (.isub, 1) := by decide +kernel
theorem dX0_remember_29 : decode cX0_remember 29 = .ok (.putfield 18, 3) := by decide +kernel
theorem dX0_remember_32 : decode cX0_remember 32 = .ok (.aload_n 0, 1) := by decide +kernel
theorem dX0_remember_33 : decode cX0_remember 33 = .ok (.getfield 11, 3) := by decide +kernel
theorem dX0_remember_36 : decode cX0_remember 36 = .ok (.aload_n 0, 1) := by decide +kernel
theorem dX0_remember_37 : decode cX0_remember 37 = .ok (.getfield 22, 3) := by decide +kernel
theorem dX0_remember_40 : decode cX0_remember 40 = .ok (.aload_n 0, 1) := by decide +kernel
theorem dX0_remember_41 : decode cX0_remember 41 = .ok (.getfield 18, 3) := by decide +kernel
theorem dX0_remember_44 : decode cX0_remember 44 = .ok (.iadd, 1) := by decide +kernel
theorem dX0_remember_45 : decode cX0_remember 45 = .ok (.bipush 14, 2) := by decide +kernel
theorem dX0_remember_47 : decode cX0_remember 47 = .ok (.irem, 1) := by decide +kernel
theorem dX0_remember_48 : decode cX0_remember 48 = .ok (.aaload, 1) := by decide +kernel
theorem dX0_remember_49 : decode cX0_remember 49 = .ok (.aload_n 1, 1) := by decide +kernel
theorem dX0_remember_50 : decode cX0_remember 50 = .ok (.invokevirtual 25, 3) := by decide +kernel
theorem dX0_remember_53 : decode cX0_remember 53 = .ok (.aload_n 0, 1) := by decide +kernel
theorem dX0_remember_54 : decode cX0_remember 54 = .ok (.dup, 1) := by decide +kernel
theorem dX0_remember_55 : decode cX0_remember 55 = .ok (.getfield 18, 3) := by decide +kernel
theorem dX0_remember_58 : decode cX0_remember 58 = .ok (.iconst 1, 1) := by decide +kernel
theorem dX0_remember_59 : decode cX0_remember 59 = .ok (.iadd, 1) := by decide +kernel
theorem dX0_remember_60 : decode cX0_remember 60 = .ok (.putfield 18, 3) := by decide +kernel
theorem dX0_remember_63 : decode cX0_remember 63 = .ok (.return_, 1) := by decide +kernel
theorem dX0_takeBackInto_0 : decode cX0_takeBackInto 0 = .ok (.aload_n 0, 1) := by decide +kernel
theorem dX0_takeBackInto_1 : decode cX0_takeBackInto 1 = .ok (.getfield 18, 3) := by decide +kernel
theorem dX0_takeBackInto_4 : decode cX0_takeBackInto 4 = .ok (.ifCond .ne 5, 3) := by decide +kernel
theorem dX0_takeBackInto_7 : decode cX0_takeBackInto 7 = .ok (.iconst 0, 1) := by decide +kernel
theorem dX0_takeBackInto_8 : decode cX0_takeBackInto 8 = .ok (.ireturn, 1) := by decide +kernel
theorem dX0_takeBackInto_9 : decode cX0_takeBackInto 9 = .ok (.aload_n 0, 1) := by decide +kernel
theorem dX0_takeBackInto_10 : decode cX0_takeBackInto 10 = .ok (.dup, 1) := by decide +kernel
theorem dX0_takeBackInto_11 : decode cX0_takeBackInto 11 = .ok (.getfield 18, 3) := by decide +kernel
theorem dX0_takeBackInto_14 : decode cX0_takeBackInto 14 = .ok (.iconst 1, 1) := by decide +kernel
theorem dX0_takeBackInto_15 : decode cX0_takeBackInto 15 = .ok (.isub, 1) := by decide +kernel
theorem dX0_takeBackInto_16 : decode cX0_takeBackInto 16 = .ok (.putfield 18, 3) := by decide +kernel
theorem dX0_takeBackInto_19 : decode cX0_takeBackInto 19 = .ok (.aload_n 1, 1) := by decide +kernel
theorem dX0_takeBackInto_20 : decode cX0_takeBackInto 20 = .ok (.aload_n 0, 1) := by decide +kernel
theorem dX0_takeBackInto_21 : decode cX0_takeBackInto 21 = .ok (.getfield 11, 3) := by decide +kernel
theorem dX0_takeBackInto_24 : decode cX0_takeBackInto 24 = .ok (.aload_n 0, 1) := by decide +kernel
theorem dX0_takeBackInto_25 : decode cX0_takeBackInto 25 = .ok (.getfield 22, 3) := by decide +kernel
theorem dX0_takeBackInto_28 : decode cX0_takeBackInto 28 = .ok (.aload_n 0, 1) := by decide +kernel
theorem dX0_takeBackInto_29 : decode cX0_takeBackInto 29 = .ok (.getfield 18, 3) := by decide +kernel
theorem dX0_takeBackInto_32 : decode cX0_takeBackInto 32 = .ok (.iadd, 1) := by decide +kernel
theorem dX0_takeBackInto_33 : decode cX0_takeBackInto 33 = .ok (.bipush 14, 2) := by decide +kernel
theorem dX0_takeBackInto_35 : decode cX0_takeBackInto 35 = .ok (.irem, 1) := by decide +kernel
theorem dX0_takeBackInto_36 : decode cX0_takeBackInto 36 = .ok (.aaload, 1) := by decide +kernel
theorem dX0_takeBackInto_37 : decode cX0_takeBackInto 37 = .ok (.invokevirtual 25, 3) := by decide +kernel
theorem dX0_takeBackInto_40 : decode cX0_takeBackInto 40 = .ok (.iconst 1, 1) := by decide +kernel
theorem dX0_takeBackInto_41 : decode cX0_takeBackInto 41 = .ok (.ireturn, 1) := by decide +kernel
theorem dX0_forgetAll_0 : decode cX0_forgetAll 0 = .ok (.aload_n 0, 1) := by decide +kernel
theorem dX0_forgetAll_1 : decode cX0_forgetAll 1 = .ok (.iconst 0, 1) := by decide +kernel
theorem dX0_forgetAll_2 : decode cX0_forgetAll 2 = .ok (.putfield 18, 3) := by decide +kernel
theorem dX0_forgetAll_5 : decode cX0_forgetAll 5 = .ok (.return_, 1) := by decide +kernel
theorem dX1_init_0 : decode cX1_init 0 = .ok (.aload_n 0, 1) := by decide +kernel
theorem dX1_init_1 : decode cX1_init 1 = .ok (.invokespecial 3, 3) := by decide +kernel
theorem dX1_init_4 : decode cX1_init 4 = .ok (.aload_n 0, 1) := by decide +kernel
theorem dX1_init_5 : decode cX1_init 5 = .ok (.bipush 12, 2) := by decide +kernel
theorem dX1_init_7 : decode cX1_init 7 = .ok (.newarray .int, 2) := by decide +kernel
theorem dX1_init_9 : decode cX1_init 9 = .ok (.putfield 9, 3) := by decide +kernel
theorem dX1_init_12 : decode cX1_init 12 = .ok (.aload_n 0, 1) := by decide +kernel
theorem dX1_init_13 : decode cX1_init 13 = .ok (.bipush 12, 2) := by decide +kernel
theorem dX1_init_15 : decode cX1_init 15 = .ok (.newarray .int, 2) := by decide +kernel
theorem dX1_init_17 : decode cX1_init 17 = .ok (.putfield 15, 3) := by decide +kernel
theorem dX1_init_20 : decode cX1_init 20 = .ok (.aload_n 0, 1) := by decide +kernel
theorem dX1_init_21 : decode cX1_init 21 = .ok (.bipush 12, 2) := by decide +kernel
theorem dX1_init_23 : decode cX1_init 23 = .ok (.newarray .int, 2) := by decide +kernel
theorem dX1_init_25 : decode cX1_init 25 = .ok (.putfield 18, 3) := by decide +kernel
theorem dX1_init_28 : decode cX1_init 28 = .ok (.return_, 1) := by decide +kernel
theorem dX1_take_0 : decode cX1_take 0 = .ok (.aload_n 0, 1) := by decide +kernel
theorem dX1_take_1 : decode cX1_take 1 = .ok (.getfield 9, 3) := by decide +kernel
theorem dX1_take_4 : decode cX1_take 4 = .ok (.iconst 0, 1) := by decide +kernel
theorem dX1_take_5 : decode cX1_take 5 = .ok (.invokestatic 21, 3) := by decide +kernel
theorem dX1_take_8 : decode cX1_take 8 = .ok (.aload_n 0, 1) := by decide +kernel
theorem dX1_take_9 : decode cX1_take 9 = .ok (.getfield 15, 3) := by decide +kernel
theorem dX1_take_12 : decode cX1_take 12 = .ok (.iconst 0, 1) := by decide +kernel
theorem dX1_take_13 : decode cX1_take 13 = .ok (.invokestatic 21, 3) := by decide +kernel
theorem dX1_take_16 : decode cX1_take 16 = .ok (.iconst 0, 1) := by decide +kernel
theorem dX1_take_17 : decode cX1_take 17 = .ok (.istore_n 2, 1) := by decide +kernel
theorem dX1_take_18 : decode cX1_take 18 = .ok (.iload_n 2, 1) := by decide +kernel
theorem dX1_take_19 : decode cX1_take 19 = .ok (.aload_n 1, 1) := by decide +kernel
theorem dX1_take_20 : decode cX1_take 20 = .ok (.getfield 27, 3) := by decide +kernel
theorem dX1_take_23 : decode cX1_take 23 = .ok (.if_icmp .ge 34, 3) := by decide +kernel
theorem dX1_take_26 : decode cX1_take 26 = .ok (.aload_n 0, 1) := by decide +kernel
theorem dX1_take_27 : decode cX1_take 27 = .ok (.aload_n 1, 1) := by decide +kernel
theorem dX1_take_28 : decode cX1_take 28 = .ok (.getfield 33, 3) := by decide +kernel
theorem dX1_take_31 : decode cX1_take 31 = .ok (.iload_n 2, 1) := by decide +kernel
theorem dX1_take_32 : decode cX1_take 32 = .ok (.iaload, 1) := by decide +kernel
theorem dX1_take_33 : decode cX1_take 33 = .ok (.iload_n 2, 1) := by decide +kernel
theorem dX1_take_34 : decode cX1_take 34 = .ok (.invokevirtual 36, 3) := by decide +kernel
theorem dX1_take_37 : decode cX1_take 37 = .ok (.aload_n 0, 1) := by decide +kernel
theorem dX1_take_38 : decode cX1_take 38 = .ok (.bipush 6, 2) := by decide +kernel
theorem dX1_take_40 : decode cX1_take 40 = .ok (.aload_n 1, 1) := by decide +kernel
theorem dX1_take_41 : decode cX1_take 41 = .ok (.getfield 40, 3) := by decide +kernel
theorem dX1_take_44 : decode cX1_take 44 = .ok (.iload_n 2, 1) := by decide +kernel
theorem dX1_take_45 : decode cX1_take 45 = .ok (.iaload, 1) := by decide +kernel
theorem dX1_take_46 : decode cX1_take 46 = .ok (.iadd, 1) := by decide +kernel
theorem dX1_take_47 : decode cX1_take 47 = .ok (.iload_n 2, 1) := by decide +kernel
theorem dX1_take_48 : decode cX1_take 48 = .ok (.invokevirtual 36, 3) := by decide +kernel
theorem dX1_take_51 : decode cX1_take 51 = .ok (.iinc 2 1, 3) := by decide +kernel
theorem dX1_take_54 : decode cX1_take 54 = .ok (.goto (-36), 3) := by decide +kernel
theorem dX1_take_57 : decode cX1_take 57 = .ok (.iconst 0, 1) := by decide +kernel
theorem dX1_take_58 : decode cX1_take 58 = .ok (.istore_n 2, 1) := by decide +kernel
theorem dX1_take_59 : decode cX1_take 59 = .ok (.iload_n 2, 1) := by decide +kernel
theorem dX1_take_60 : decode cX1_take 60 = .ok (.bipush 12, 2) := by decide +kernel
theorem dX1_take_62 : decode cX1_take 62 = .ok (.if_icmp .ge 30, 3) := by decide +kernel
theorem dX1_take_65 : decode cX1_take 65 = .ok (.aload_n 0, 1) := by decide +kernel
theorem dX1_take_66 : decode cX1_take 66 = .ok (.getfield 18, 3) := by decide +kernel
theorem dX1_take_69 : decode cX1_take 69 = .ok (.iload_n 2, 1) := by decide +kernel
theorem dX1_take_70 : decode cX1_take 70 = .ok (.aload_n 0, 1) := by decide +kernel
theorem dX1_take_71 : decode cX1_take 71 = .ok (.getfield 9, 3) := by decide +kernel
theorem dX1_take_74 : decode cX1_take 74 = .ok (.iload_n 2, 1) := by decide +kernel
theorem dX1_take_75 : decode cX1_take 75 = .ok (.iaload, 1) := by decide +kernel
theorem dX1_take_76 : decode cX1_take 76 = .ok (.aload_n 0, 1) := by decide +kernel
theorem dX1_take_77 : decode cX1_take 77 = .ok (.getfield 15, 3) := by decide +kernel
theorem dX1_take_80 : decode cX1_take 80 = .ok (.iload_n 2, 1) := by decide +kernel
theorem dX1_take_81 : decode cX1_take 81 = .ok (.iaload, 1) := by decide +kernel
theorem dX1_take_82 : decode cX1_take 82 = .ok (.invokestatic 43, 3) := by decide +kernel
theorem dX1_take_85 : decode cX1_take 85 = .ok (.iastore, 1) := by decide +kernel
theorem dX1_take_86 : decode cX1_take 86 = .ok (.iinc 2 1, 3) := by decide +kernel
theorem dX1_take_89 : decode cX1_take 89 = .ok (.goto (-30), 3) := by decide +kernel
theorem dX1_take_92 : decode cX1_take 92 = .ok (.return_, 1) := by decide +kernel
theorem dX1_count_0 : decode cX1_count 0 = .ok (.aload_n 0, 1) := by decide +kernel
theorem dX1_count_1 : decode cX1_count 1 = .ok (.getfield 9, 3) := by decide +kernel
theorem dX1_count_4 : decode cX1_count 4 = .ok (.iload_n 1, 1) := by decide +kernel
theorem dX1_count_5 : decode cX1_count 5 = .ok (.dup2, 1) := by decide +kernel
theorem dX1_count_6 : decode cX1_count 6 = .ok (.iaload, 1) := by decide +kernel
theorem dX1_count_7 : decode cX1_count 7 = .ok (.iconst 1, 1) := by decide +kernel
theorem dX1_count_8 : decode cX1_count 8 = .ok (.iadd, 1) := by decide +kernel
theorem dX1_count_9 : decode cX1_count 9 = .ok (.iastore, 1) := by decide +kernel
theorem dX1_count_10 : decode cX1_count 10 = .ok (.aload_n 0, 1) := by decide +kernel
theorem dX1_count_11 : decode cX1_count 11 = .ok (.getfield 15, 3) := by decide +kernel
theorem dX1_count_14 : decode cX1_count 14 = .ok (.iload_n 1, 1) := by decide +kernel
theorem dX1_count_15 : decode cX1_count 15 = .ok (.dup2, 1) := by decide +kernel
theorem dX1_count_16 : decode cX1_count 16 = .ok (.iaload, 1) := by decide +kernel
theorem dX1_count_17 : decode cX1_count 17 = .ok (.iload_n 2, 1) := by decide +kernel
theorem dX1_count_18 : decode cX1_count 18 = .ok (.iadd, 1) := by decide +kernel
theorem dX1_count_19 : decode cX1_count 19 = .ok (.iastore, 1) := by decide +kernel
theorem dX1_count_20 : decode cX1_count 20 = .ok (.return_, 1) := by decide +kernel
theorem dX1_nearest_0 : decode cX1_nearest 0 = .ok (.iload_n 0, 1) := by decide +kernel
theorem dX1_nearest_1 : decode cX1_nearest 1 = .ok (.ifCond .ne 8, 3) := by decide +kernel
theorem dX1_nearest_4 : decode cX1_nearest 4 = .ok (.bipush (-9), 2) := by decide +kernel
theorem dX1_nearest_6 : decode cX1_nearest 6 = .ok (.goto 14, 3) := by decide +kernel
theorem dX1_nearest_9 : decode cX1_nearest 9 = .ok (.iconst 2, 1) := by decide +kernel
theorem dX1_nearest_10 : decode cX1_nearest 10 = .ok (.iload_n 1, 1) := by decide +kernel
theorem dX1_nearest_11 : decode cX1_nearest 11 = .ok (.imul, 1) := by decide +kernel
theorem dX1_nearest_12 : decode cX1_nearest 12 = .ok (.iload_n 0, 1) := by decide +kernel
theorem dX1_nearest_13 : decode cX1_nearest 13 = .ok (.iadd, 1) := by decide +kernel
theorem dX1_nearest_14 : decode cX1_nearest 14 = .ok (.iconst 1, 1) := by decide +kernel
theorem dX1_nearest_15 : decode cX1_nearest 15 = .ok (.isub, 1) := by decide +kernel
theorem dX1_nearest_16 : decode cX1_nearest 16 = .ok (.iconst 2, 1) := by decide +kernel
theorem dX1_nearest_17 : decode cX1_nearest 17 = .ok (.iload_n 0, 1) := by decide +kernel
theorem dX1_nearest_18 : decode cX1_nearest 18 = .ok (.imul, 1) := by decide +kernel
theorem dX1_nearest_19 : decode cX1_nearest 19 = .ok (.idiv, 1) := by decide +kernel
theorem dX1_nearest_20 : decode cX1_nearest 20 = .ok (.ireturn, 1) := by decide +kernel
theorem dX1_of_0 : decode cX1_of 0 = .ok (.aload_n 0, 1) := by decide +kernel
theorem dX1_of_1 : decode cX1_of 1 = .ok (.getfield 18, 3) := by decide +kernel
theorem dX1_of_4 : decode cX1_of 4 = .ok (.iload_n 1, 1) := by decide +kernel
theorem dX1_of_5 : decode cX1_of 5 = .ok (.bipush 6, 2) := by decide +kernel
theorem dX1_of_7 : decode cX1_of 7 = .ok (.imul, 1) := by decide +kernel
theorem dX1_of_8 : decode cX1_of 8 = .ok (.iload_n 2, 1) := by decide +kernel
theorem dX1_of_9 : decode cX1_of 9 = .ok (.iadd, 1) := by decide +kernel
theorem dX1_of_10 : decode cX1_of 10 = .ok (.iaload, 1) := by decide +kernel
theorem dX1_of_11 : decode cX1_of 11 = .ok (.ireturn, 1) := by decide +kernel
theorem dX1_side_0 : decode cX1_side 0 = .ok (.iconst 0, 1) := by decide +kernel
theorem dX1_side_1 : decode cX1_side 1 = .ok (.istore_n 3, 1) := by decide +kernel
theorem dX1_side_2 : decode cX1_side 2 = .ok (.iconst 0, 1) := by decide +kernel
theorem dX1_side_3 : decode cX1_side 3 = .ok (.istore 4, 2) := by decide +kernel
theorem dX1_side_5 : decode cX1_side 5 = .ok (.iload 4, 2) := by decide +kernel
theorem dX1_side_7 : decode cX1_side 7 = .ok (.aload_n 1, 1) := by decide +kernel
theorem dX1_side_8 : decode cX1_side 8 = .ok (.getfield 27, 3) := by decide +kernel
theorem dX1_side_11 : decode cX1_side 11 = .ok (.if_icmp .ge 30, 3) := by decide +kernel
theorem dX1_side_14 : decode cX1_side 14 = .ok (.iload_n 3, 1) := by decide +kernel
theorem dX1_side_15 : decode cX1_side 15 = .ok (.iload 4, 2) := by decide +kernel
theorem dX1_side_17 : decode cX1_side 17 = .ok (.aload_n 0, 1) := by decide +kernel
theorem dX1_side_18 : decode cX1_side 18 = .ok (.iload_n 2, 1) := by decide +kernel
theorem dX1_side_19 : decode cX1_side 19 = .ok (.aload_n 1, 1) := by decide +kernel
theorem dX1_side_20 : decode cX1_side 20 = .ok (.iload_n 2, 1) := by decide +kernel
theorem dX1_side_21 : decode cX1_side 21 = .ok (.iload 4, 2) := by decide +kernel
theorem dX1_side_23 : decode cX1_side 23 = .ok (.invokevirtual 47, 3) := by decide +kernel
theorem dX1_side_26 : decode cX1_side 26 = .ok (.invokevirtual 50, 3) := by decide +kernel
theorem dX1_side_29 : decode cX1_side 29 = .ok (.isub, 1) := by decide +kernel
theorem dX1_side_30 : decode cX1_side 30 = .ok (.invokestatic 53, 3) := by decide +kernel
theorem dX1_side_33 : decode cX1_side 33 = .ok (.iadd, 1) := by decide +kernel
theorem dX1_side_34 : decode cX1_side 34 = .ok (.istore_n 3, 1) := by decide +kernel
theorem dX1_side_35 : decode cX1_side 35 = .ok (.iinc 4 1, 3) := by decide +kernel
theorem dX1_side_38 : decode cX1_side 38 = .ok (.goto (-33), 3) := by decide +kernel
theorem dX1_side_41 : decode cX1_side 41 = .ok (.iload_n 3, 1) := by decide +kernel
theorem dX1_side_42 : decode cX1_side 42 = .ok (.ireturn, 1) := by decide +kernel
theorem dX2_init_0 : decode cX2_init 0 = .ok (.aload_n 0, 1) := by decide +kernel
theorem dX2_init_1 : decode cX2_init 1 = .ok (.invokespecial 3, 3) := by decide +kernel
theorem dX2_init_4 : decode cX2_init 4 = .ok (.aload_n 0, 1) := by decide +kernel
theorem dX2_init_5 : decode cX2_init 5 = .ok (.new 9, 3) := by decide +kernel
theorem dX2_init_8 : decode cX2_init 8 = .ok (.dup, 1) := by decide +kernel
theorem dX2_init_9 : decode cX2_init 9 = .ok (.invokespecial 11, 3) := by decide +kernel
theorem dX2_init_12 : decode cX2_init 12 = .ok (.putfield 12, 3) := by decide +kernel
theorem dX2_init_15 : decode cX2_init 15 = .ok (.aload_n 0, 1) := by decide +kernel
theorem dX2_init_16 : decode cX2_init 16 = .ok (.bipush 16, 2) := by decide +kernel
theorem dX2_init_18 : decode cX2_init 18 = .ok (.newarray .int, 2) := by decide +kernel
theorem dX2_init_20 : decode cX2_init 20 = .ok (.putfield 18, 3) := by decide +kernel
theorem dX2_init_23 : decode cX2_init 23 = .ok (.return_, 1) := by decide +kernel
theorem dX2_missBy_0 : decode cX2_missBy 0 = .ok (.aload_n 0, 1) := by decide +kernel
theorem dX2_missBy_1 : decode cX2_missBy 1 = .ok (.aload_n 1, 1) := by decide +kernel
theorem dX2_missBy_2 : decode cX2_missBy 2 = .ok (.iload_n 2, 1) := by decide +kernel
theorem dX2_missBy_3 : decode cX2_missBy 3 = .ok (.iload_n 3, 1) := by decide +kernel
theorem dX2_missBy_4 : decode cX2_missBy 4 = .ok (.invokevirtual 22, 3) := by decide +kernel
theorem dX2_missBy_7 : decode cX2_missBy 7 = .ok (.iconst 0, 1) := by decide +kernel
theorem dX2_missBy_8 : decode cX2_missBy 8 = .ok (.istore 4, 2) := by decide +kernel
theorem dX2_missBy_10 : decode cX2_missBy 10 = .ok (.iconst 0, 1) := by decide +kernel
theorem dX2_missBy_11 : decode cX2_missBy 11 = .ok (.istore 5, 2) := by decide +kernel
theorem dX2_missBy_13 : decode cX2_missBy 13 = .ok (.iload 5, 2) := by decide +kernel
theorem dX2_missBy_15 : decode cX2_missBy 15 = .ok (.bipush 16, 2) := by decide +kernel
theorem dX2_missBy_17 : decode cX2_missBy 17 = .ok (.if_icmp .ge 32, 3) := by decide +kernel
theorem dX2_missBy_20 : decode cX2_missBy 20 = .ok (.iload 4, 2) := by decide +kernel
theorem dX2_missBy_22 : decode cX2_missBy 22 = .ok (.aload_n 0, 1) := by decide +kernel
theorem dX2_missBy_23 : decode cX2_missBy 23 = .ok (.getfield 18, 3) := by decide +kernel
theorem dX2_missBy_26 : decode cX2_missBy 26 = .ok (.iload 5, 2) := by decide +kernel
theorem dX2_missBy_28 : decode cX2_missBy 28 = .ok (.iaload, 1) := by decide +kernel
theorem dX2_missBy_29 : decode cX2_missBy 29 = .ok (.aload_n 1, 1) := by decide +kernel
theorem dX2_missBy_30 : decode cX2_missBy 30 = .ok (.getfield 26, 3) := by decide +kernel
theorem dX2_missBy_33 : decode cX2_missBy 33 = .ok (.iload 5, 2) := by decide +kernel
theorem dX2_missBy_35 : decode cX2_missBy 35 = .ok (.iaload, 1) := by decide +kernel
theorem dX2_missBy_36 : decode cX2_missBy 36 = .ok (.isub, 1) := by decide +kernel
theorem dX2_missBy_37 : decode cX2_missBy 37 = .ok (.invokestatic 29, 3) := by decide +kernel
theorem dX2_missBy_40 : decode cX2_missBy 40 = .ok (.iadd, 1) := by decide +kernel
theorem dX2_missBy_41 : decode cX2_missBy 41 = .ok (.istore 4, 2) := by decide +kernel
theorem dX2_missBy_43 : decode cX2_missBy 43 = .ok (.iinc 5 1, 3) := by decide +kernel
theorem dX2_missBy_46 : decode cX2_missBy 46 = .ok (.goto (-33), 3) := by decide +kernel
theorem dX2_missBy_49 : decode cX2_missBy 49 = .ok (.iload 4, 2) := by decide +kernel
theorem dX2_missBy_51 : decode cX2_missBy 51 = .ok (.ireturn, 1) := by decide +kernel
theorem dX2_send_0 : decode cX2_send 0 = .ok (.aload_n 0, 1) := by decide +kernel
theorem dX2_send_1 : decode cX2_send 1 = .ok (.getfield 12, 3) := by decide +kernel
theorem dX2_send_4 : decode cX2_send 4 = .ok (.aload_n 1, 1) := by decide +kernel
theorem dX2_send_5 : decode cX2_send 5 = .ok (.invokevirtual 33, 3) := by decide +kernel
theorem dX2_send_8 : decode cX2_send 8 = .ok (.aload_n 0, 1) := by decide +kernel
theorem dX2_send_9 : decode cX2_send 9 = .ok (.iconst 0, 1) := by decide +kernel
theorem dX2_send_10 : decode cX2_send 10 = .ok (.putfield 37, 3) := by decide +kernel
theorem dX2_send_13 : decode cX2_send 13 = .ok (.iconst 0, 1) := by decide +kernel
theorem dX2_send_14 : decode cX2_send 14 = .ok (.istore 4, 2) := by decide +kernel
theorem dX2_send_16 : decode cX2_send 16 = .ok (.iload 4, 2) := by decide +kernel
theorem dX2_send_18 : decode cX2_send 18 = .ok (.iconst 4, 1) := by decide +kernel
theorem dX2_send_19 : decode cX2_send 19 = .ok (.if_icmp .ge 68, 3) := by decide +kernel
theorem dX2_send_22 : decode cX2_send 22 = .ok (.iload_n 3, 1) := by decide +kernel
theorem dX2_send_23 : decode cX2_send 23 = .ok (.iload 4, 2) := by decide +kernel
theorem dX2_send_25 : decode cX2_send 25 = .ok (.invokestatic 41, 3) := by decide +kernel
theorem dX2_send_28 : decode cX2_send 28 = .ok (.istore 5, 2) := by decide +kernel
theorem dX2_send_30 : decode cX2_send 30 = .ok (.iload_n 3, 1) := by decide +kernel
theorem dX2_send_31 : decode cX2_send 31 = .ok (.iload 4, 2) := by decide +kernel
theorem dX2_send_33 : decode cX2_send 33 = .ok (.iconst 4, 1) := by decide +kernel
theorem dX2_send_34 : decode cX2_send 34 = .ok (.iadd, 1) := by decide +kernel
theorem dX2_send_35 : decode cX2_send 35 = .ok (.iload_n 2, 1) := by decide +kernel
theorem dX2_send_36 : decode cX2_send 36 = .ok (.isub, 1) := by decide +kernel
theorem dX2_send_37 : decode cX2_send 37 = .ok (.iconst 4, 1) := by decide +kernel
theorem dX2_send_38 : decode cX2_send 38 = .ok (.irem, 1) := by decide +kernel
theorem dX2_send_39 : decode cX2_send 39 = .ok (.invokestatic 41, 3) := by decide +kernel
theorem dX2_send_42 : decode cX2_send 42 = .ok (.istore 6, 2) := by decide +kernel
theorem dX2_send_44 : decode cX2_send 44 = .ok (.iload 5, 2) := by decide +kernel
theorem dX2_send_46 : decode cX2_send 46 = .ok (.ifCond .ne 8, 3) := by decide +kernel
theorem dX2_send_49 : decode cX2_send 49 = .ok (.iload 6, 2) := by decide +kernel
theorem dX2_send_51 : decode cX2_send 51 = .ok (.ifCond .eq 17, 3) := by decide +kernel
theorem dX2_send_54 : decode cX2_send 54 = .ok (.aload_n 0, 1) := by decide +kernel
theorem dX2_send_55 : decode cX2_send 55 = .ok (.aload_n 1, 1) := by decide +kernel
theorem dX2_send_56 : decode cX2_send 56 = .ok (.iload 4, 2) := by decide +kernel
theorem dX2_send_58 : decode cX2_send 58 = .ok (.iload 5, 2) := by decide +kernel
theorem dX2_send_60 : decode cX2_send 60 = .ok (.iload 6, 2) := by decide +kernel
theorem dX2_send_62 : decode cX2_send 62 = .ok (.invokevirtual 45, 3) := by decide +kernel
theorem dX2_send_65 : decode cX2_send 65 = .ok (.goto 16, 3) := by decide +kernel
theorem dX2_send_68 : decode cX2_send 68 = .ok (.aload_n 0, 1) := by decide +kernel
theorem dX2_send_69 : decode cX2_send 69 = .ok (.dup, 1) := by decide +kernel
theorem dX2_send_70 : decode cX2_send 70 = .ok (.getfield 37, 3) := by decide +kernel
theorem dX2_send_73 : decode cX2_send 73 = .ok (.iconst 1, 1) := by decide +kernel
theorem dX2_send_74 : decode cX2_send 74 = .ok (.iload 4, 2) := by decide +kernel
theorem dX2_send_76 : decode cX2_send 76 = .ok (.ishl, 1) := by decide +kernel
theorem dX2_send_77 : decode cX2_send 77 = .ok (.ior, 1) := by decide +kernel
theorem dX2_send_78 : decode cX2_send 78 = .ok (.putfield 37, 3) := by decide +kernel
theorem dX2_send_81 : decode cX2_send 81 = .ok (.iinc 4 1, 3) := by decide +kernel
theorem dX2_send_84 : decode cX2_send 84 = .ok (.goto (-68), 3) := by decide +kernel
theorem dX2_send_87 : decode cX2_send 87 = .ok (.iconst 0, 1) := by decide +kernel
theorem dX2_send_88 : decode cX2_send 88 = .ok (.istore 4, 2) := by decide +kernel
theorem dX2_send_90 : decode cX2_send 90 = .ok (.iload 4, 2) := by decide +kernel
theorem dX2_send_92 : decode cX2_send 92 = .ok (.iconst 4, 1) := by decide +kernel
theorem dX2_send_93 : decode cX2_send 93 = .ok (.if_icmp .ge 24, 3) := by decide +kernel
theorem dX2_send_96 : decode cX2_send 96 = .ok (.aload_n 0, 1) := by decide +kernel
theorem dX2_send_97 : decode cX2_send 97 = .ok (.iload 4, 2) := by decide +kernel
theorem dX2_send_99 : decode cX2_send 99 = .ok (.invokevirtual 49, 3) := by decide +kernel
theorem dX2_send_102 : decode cX2_send 102 = .ok (.ifCond .eq 9, 3) := by decide +kernel
theorem dX2_send_105 : decode cX2_send 105 = .ok (.aload_n 0, 1) := by decide +kernel
theorem dX2_send_106 : decode cX2_send 106 = .ok (.iload 4, 2) := by decide +kernel
theorem dX2_send_108 : decode cX2_send 108 = .ok (.invokevirtual 53, 3) := by decide +kernel
theorem dX2_send_111 : decode cX2_send 111 = .ok (.iinc 4 1, 3) := by decide +kernel
theorem dX2_send_114 : decode cX2_send 114 = .ok (.goto (-24), 3) := by decide +kernel
theorem dX2_send_117 : decode cX2_send 117 = .ok (.return_, 1) := by decide +kernel
theorem dX2_came_0 : decode cX2_came 0 = .ok (.iload_n 0, 1) := by decide +kernel
theorem dX2_came_1 : decode cX2_came 1 = .ok (.iload_n 1, 1) := by decide +kernel
theorem dX2_came_2 : decode cX2_came 2 = .ok (.ishr, 1) := by decide +kernel
theorem dX2_came_3 : decode cX2_came 3 = .ok (.iconst 1, 1) := by decide +kernel
theorem dX2_came_4 : decode cX2_came 4 = .ok (.iand, 1) := by decide +kernel
theorem dX2_came_5 : decode cX2_came 5 = .ok (.ifCond .ne 7, 3) := by decide +kernel
theorem dX2_came_8 : decode cX2_came 8 = .ok (.iconst 1, 1) := by decide +kernel
theorem dX2_came_9 : decode cX2_came 9 = .ok (.goto 4, 3) := by decide +kernel
theorem dX2_came_12 : decode cX2_came 12 = .ok (.iconst 0, 1) := by decide +kernel
theorem dX2_came_13 : decode cX2_came 13 = .ok (.ireturn, 1) := by decide +kernel
theorem dX2_isBlank_0 : decode cX2_isBlank 0 = .ok (.aload_n 0, 1) := by decide +kernel
theorem dX2_isBlank_1 : decode cX2_isBlank 1 = .ok (.getfield 37, 3) := by decide +kernel
theorem dX2_isBlank_4 : decode cX2_isBlank 4 = .ok (.iload_n 1, 1) := by decide +kernel
theorem dX2_isBlank_5 : decode cX2_isBlank 5 = .ok (.ishr, 1) := by decide +kernel
theorem dX2_isBlank_6 : decode cX2_isBlank 6 = .ok (.iconst 1, 1) := by decide +kernel
theorem dX2_isBlank_7 : decode cX2_isBlank 7 = .ok (.iand, 1) := by decide +kernel
theorem dX2_isBlank_8 : decode cX2_isBlank 8 = .ok (.iconst 1, 1) := by decide +kernel
theorem dX2_isBlank_9 : decode cX2_isBlank 9 = .ok (.if_icmp .ne 7, 3) := by decide +kernel
theorem dX2_isBlank_12 : decode cX2_isBlank 12 = .ok (.iconst 1, 1) := by decide +kernel
theorem dX2_isBlank_13 : decode cX2_isBlank 13 = .ok (.goto 4, 3) := by decide +kernel
theorem dX2_isBlank_16 : decode cX2_isBlank 16 = .ok (.iconst 0, 1) := by decide +kernel
theorem dX2_isBlank_17 : decode cX2_isBlank 17 = .ok (.ireturn, 1) := by decide +kernel
theorem dX2_fill_0 : decode cX2_fill 0 = .ok (.iload_n 2, 1) := by decide +kernel
theorem dX2_fill_1 : decode cX2_fill 1 = .ok (.iconst 4, 1) := by decide +kernel
theorem dX2_fill_2 : decode cX2_fill 2 = .ok (.imul, 1) := by decide +kernel
theorem dX2_fill_3 : decode cX2_fill 3 = .ok (.istore 5, 2) := by decide +kernel
theorem dX2_fill_5 : decode cX2_fill 5 = .ok (.iload 5, 2) := by decide +kernel
theorem dX2_fill_7 : decode cX2_fill 7 = .ok (.iload_n 2, 1) := by decide +kernel
theorem dX2_fill_8 : decode cX2_fill 8 = .ok (.iconst 1, 1) := by decide +kernel
theorem dX2_fill_9 : decode cX2_fill 9 = .ok (.iadd, 1) := by decide +kernel
theorem dX2_fill_10 : decode cX2_fill 10 = .ok (.iconst 4, 1) := by decide +kernel
theorem dX2_fill_11 : decode cX2_fill 11 = .ok (.imul, 1) := by decide +kernel
theorem dX2_fill_12 : decode cX2_fill 12 = .ok (.if_icmp .ge 110, 3) := by decide +kernel
theorem dX2_fill_15 : decode cX2_fill 15 = .ok (.aload_n 1, 1) := by decide +kernel
theorem dX2_fill_16 : decode cX2_fill 16 = .ok (.getfield 26, 3) := by decide +kernel
theorem dX2_fill_19 : decode cX2_fill 19 = .ok (.iload 5, 2) := by decide +kernel
theorem dX2_fill_21 : decode cX2_fill 21 = .ok (.iaload, 1) := by decide +kernel
theorem dX2_fill_22 : decode cX2_fill 22 = .ok (.istore 6, 2) := by decide +kernel
theorem dX2_fill_24 : decode cX2_fill 24 = .ok (.aload_n 1, 1) := by decide +kernel
theorem dX2_fill_25 : decode cX2_fill 25 = .ok (.iload 6, 2) := by decide +kernel
theorem dX2_fill_27 : decode cX2_fill 27 = .ok (.invokevirtual 57, 3) := by decide +kernel
theorem dX2_fill_30 : decode cX2_fill 30 = .ok (.ifCond .ne 14, 3) := by decide +kernel
theorem dX2_fill_33 : decode cX2_fill 33 = .ok (.aload_n 0, 1) := by decide +kernel
theorem dX2_fill_34 : decode cX2_fill 34 = .ok (.getfield 18, 3) := by decide +kernel
theorem dX2_fill_37 : decode cX2_fill 37 = .ok (.iload 5, 2) := by decide +kernel
theorem dX2_fill_39 : decode cX2_fill 39 = .ok (.iconst 0, 1) := by decide +kernel
theorem dX2_fill_40 : decode cX2_fill 40 = .ok (.iastore, 1) := by decide +kernel
theorem dX2_fill_41 : decode cX2_fill 41 = .ok (.goto 75, 3) := by decide +kernel
theorem dX2_fill_44 : decode cX2_fill 44 = .ok (.iload_n 3, 1) := by decide +kernel
theorem dX2_fill_45 : decode cX2_fill 45 = .ok (.ifCond .eq 20, 3) := by decide +kernel
theorem dX2_fill_48 : decode cX2_fill 48 = .ok (.iload 4, 2) := by decide +kernel
theorem dX2_fill_50 : decode cX2_fill 50 = .ok (.ifCond .eq 15, 3) := by decide +kernel
theorem dX2_fill_53 : decode cX2_fill 53 = .ok (.aload_n 0, 1) := by decide +kernel
theorem dX2_fill_54 : decode cX2_fill 54 = .ok (.getfield 18, 3) := by decide +kernel
theorem dX2_fill_57 : decode cX2_fill 57 = .ok (.iload 5, 2) := by decide +kernel
theorem dX2_fill_59 : decode cX2_fill 59 = .ok (.iload 6, 2) := by decide +kernel
theorem dX2_fill_61 : decode cX2_fill 61 = .ok (.iastore, 1) := by decide +kernel
theorem dX2_fill_62 : decode cX2_fill 62 = .ok (.goto 54, 3) := by decide +kernel
theorem dX2_fill_65 : decode cX2_fill 65 = .ok (.iload_n 3, 1) := by decide +kernel
theorem dX2_fill_66 : decode cX2_fill 66 = .ok (.ifCond .eq 28, 3) := by decide +kernel
theorem dX2_fill_69 : decode cX2_fill 69 = .ok (.aload_n 0, 1) := by decide +kernel
theorem dX2_fill_70 : decode cX2_fill 70 = .ok (.getfield 18, 3) := by decide +kernel
theorem dX2_fill_73 : decode cX2_fill 73 = .ok (.iload 5, 2) := by decide +kernel
theorem dX2_fill_75 : decode cX2_fill 75 = .ok (.aload_n 0, 1) := by decide +kernel
theorem dX2_fill_76 : decode cX2_fill 76 = .ok (.getfield 12, 3) := by decide +kernel
theorem dX2_fill_79 : decode cX2_fill 79 = .ok (.iconst 0, 1) := by decide +kernel
theorem dX2_fill_80 : decode cX2_fill 80 = .ok (.aload_n 1, 1) := by decide +kernel
theorem dX2_fill_81 : decode cX2_fill 81 = .ok (.getfield 60, 3) := by decide +kernel
theorem dX2_fill_84 : decode cX2_fill 84 = .ok (.iload 6, 2) := by decide +kernel
theorem dX2_fill_86 : decode cX2_fill 86 = .ok (.iaload, 1) := by decide +kernel
theorem dX2_fill_87 : decode cX2_fill 87 = .ok (.invokevirtual 63, 3) := by decide +kernel
theorem dX2_fill_90 : decode cX2_fill 90 = .ok (.iastore, 1) := by decide +kernel
theorem dX2_fill_91 : decode cX2_fill 91 = .ok (.goto 25, 3) := by decide +kernel
theorem dX2_fill_94 : decode cX2_fill 94 = .ok (.aload_n 0, 1) := by decide +kernel
theorem dX2_fill_95 : decode cX2_fill 95 = .ok (.getfield 18, 3) := by decide +kernel
theorem dX2_fill_98 : decode cX2_fill 98 = .ok (.iload 5, 2) := by decide +kernel
theorem dX2_fill_100 : decode cX2_fill 100 = .ok (.aload_n 0, 1) := by decide +kernel
theorem dX2_fill_101 : decode cX2_fill 101 = .ok (.getfield 12, 3) := by decide +kernel
theorem dX2_fill_104 : decode cX2_fill 104 = .ok (.iconst 1, 1) := by decide +kernel
theorem dX2_fill_105 : decode cX2_fill 105 = .ok (.aload_n 1, 1) := by decide +kernel
theorem dX2_fill_106 : decode cX2_fill 106 = .ok (.getfield 67, 3) := by decide +kernel
theorem dX2_fill_109 : decode cX2_fill 109 = .ok (.iload 6, 2) := by decide +kernel
theorem dX2_fill_111 : decode cX2_fill 111 = .ok (.iaload, 1) := by decide +kernel
theorem dX2_fill_112 : decode cX2_fill 112 = .ok (.invokevirtual 63, 3) := by decide +kernel
theorem dX2_fill_115 : decode cX2_fill 115 = .ok (.iastore, 1) := by decide +kernel
theorem dX2_fill_116 : decode cX2_fill 116 = .ok (.iinc 5 1, 3) := by decide +kernel
theorem dX2_fill_119 : decode cX2_fill 119 = .ok (.goto (-114), 3) := by decide +kernel
theorem dX2_fill_122 : decode cX2_fill 122 = .ok (.return_, 1) := by decide +kernel
theorem dX2_fillBlank_0 : decode cX2_fillBlank 0 = .ok (.iload_n 1, 1) := by decide +kernel
theorem dX2_fillBlank_1 : decode cX2_fillBlank 1 = .ok (.iconst 1, 1) := by decide +kernel
theorem dX2_fillBlank_2 : decode cX2_fillBlank 2 = .ok (.isub, 1) := by decide +kernel
theorem dX2_fillBlank_3 : decode cX2_fillBlank 3 = .ok (.istore_n 2, 1) := by decide +kernel
theorem dX2_fillBlank_4 : decode cX2_fillBlank 4 = .ok (.iload_n 2, 1) := by decide +kernel
theorem dX2_fillBlank_5 : decode cX2_fillBlank 5 = .ok (.ifCond .lt 17, 3) := by decide +kernel
theorem dX2_fillBlank_8 : decode cX2_fillBlank 8 = .ok (.aload_n 0, 1) := by decide +kernel
theorem dX2_fillBlank_9 : decode cX2_fillBlank 9 = .ok (.iload_n 2, 1) := by decide +kernel
theorem dX2_fillBlank_10 : decode cX2_fillBlank 10 = .ok (.invokevirtual 49, 3) := by decide +kernel
theorem dX2_fillBlank_13 : decode cX2_fillBlank 13 = .ok (.ifCond .eq 9, 3) := by decide +kernel
theorem dX2_fillBlank_16 : decode cX2_fillBlank 16 = .ok (.iinc 2 (-1), 3) := by decide +kernel
theorem dX2_fillBlank_19 : decode cX2_fillBlank 19 = .ok (.goto (-15), 3) := by decide +kernel
theorem dX2_fillBlank_22 : decode cX2_fillBlank 22 = .ok (.iload_n 1, 1) := by decide +kernel
theorem dX2_fillBlank_23 : decode cX2_fillBlank 23 = .ok (.iconst 1, 1) := by decide +kernel
theorem dX2_fillBlank_24 : decode cX2_fillBlank 24 = .ok (.iadd, 1) := by decide +kernel
theorem dX2_fillBlank_25 : decode cX2_fillBlank 25 = .ok (.istore_n 3, 1) := by decide +kernel
theorem dX2_fillBlank_26 : decode cX2_fillBlank 26 = .ok (.iload_n 3, 1) := by decide +kernel
theorem dX2_fillBlank_27 : decode cX2_fillBlank 27 = .ok (.iconst 4, 1) := by decide +kernel
theorem dX2_fillBlank_28 : decode cX2_fillBlank 28 = .ok (.if_icmp .ge 17, 3) := by decide +kernel
theorem dX2_fillBlank_31 : decode cX2_fillBlank 31 = .ok (.aload_n 0, 1) := by decide +kernel
theorem dX2_fillBlank_32 : decode cX2_fillBlank 32 = .ok (.iload_n 3, 1) := by decide +kernel
theorem dX2_fillBlank_33 : decode cX2_fillBlank 33 = .ok (.invokevirtual 49, 3) := by decide +kernel
theorem dX2_fillBlank_36 : decode cX2_fillBlank 36 = .ok (.ifCond .eq 9, 3) := by decide +kernel
theorem dX2_fillBlank_39 : decode cX2_fillBlank 39 = .ok (.iinc 3 1, 3) := by decide +kernel
theorem dX2_fillBlank_42 : decode cX2_fillBlank 42 = .ok (.goto (-16), 3) := by decide +kernel
theorem dX2_fillBlank_45 : decode cX2_fillBlank 45 = .ok (.iconst 0, 1) := by decide +kernel
theorem dX2_fillBlank_46 : decode cX2_fillBlank 46 = .ok (.istore 4, 2) := by decide +kernel
theorem dX2_fillBlank_48 : decode cX2_fillBlank 48 = .ok (.iload 4, 2) := by decide +kernel
theorem dX2_fillBlank_50 : decode cX2_fillBlank 50 = .ok (.iconst 4, 1) := by decide +kernel
theorem dX2_fillBlank_51 : decode cX2_fillBlank 51 = .ok (.if_icmp .ge 28, 3) := by decide +kernel
theorem dX2_fillBlank_54 : decode cX2_fillBlank 54 = .ok (.aload_n 0, 1) := by decide +kernel
theorem dX2_fillBlank_55 : decode cX2_fillBlank 55 = .ok (.getfield 18, 3) := by decide +kernel
theorem dX2_fillBlank_58 : decode cX2_fillBlank 58 = .ok (.iload_n 1, 1) := by decide +kernel
theorem dX2_fillBlank_59 : decode cX2_fillBlank 59 = .ok (.iconst 4, 1) := by decide +kernel
theorem dX2_fillBlank_60 : decode cX2_fillBlank 60 = .ok (.imul, 1) := by decide +kernel
theorem dX2_fillBlank_61 : decode cX2_fillBlank 61 = .ok (.iload 4, 2) := by decide +kernel
theorem dX2_fillBlank_63 : decode cX2_fillBlank 63 = .ok (.iadd, 1) := by decide +kernel
theorem dX2_fillBlank_64 : decode cX2_fillBlank 64 = .ok (.aload_n 0, 1) := by decide +kernel
theorem dX2_fillBlank_65 : decode cX2_fillBlank 65 = .ok (.iload_n 2, 1) := by decide +kernel
theorem dX2_fillBlank_66 : decode cX2_fillBlank 66 = .ok (.iload_n 3, 1) := by decide +kernel
theorem dX2_fillBlank_67 : decode cX2_fillBlank 67 = .ok (.iload 4, 2) := by decide +kernel
theorem dX2_fillBlank_69 : decode cX2_fillBlank 69 = .ok (.invokevirtual 70, 3) := by decide +kernel
theorem dX2_fillBlank_72 : decode cX2_fillBlank 72 = .ok (.iastore, 1) := by decide +kernel
theorem dX2_fillBlank_73 : decode cX2_fillBlank 73 = .ok (.iinc 4 1, 3) := by decide +kernel
theorem dX2_fillBlank_76 : decode cX2_fillBlank 76 = .ok (.goto (-28), 3) := by decide +kernel
theorem dX2_fillBlank_79 : decode cX2_fillBlank 79 = .ok (.return_, 1) := by decide +kernel
theorem dX2_between_0 : decode cX2_between 0 = .ok (.iload_n 1, 1) := by decide +kernel
theorem dX2_between_1 : decode cX2_between 1 = .ok (.ifCond .ge 10, 3) := by decide +kernel
theorem dX2_between_4 : decode cX2_between 4 = .ok (.iload_n 2, 1) := by decide +kernel
theorem dX2_between_5 : decode cX2_between 5 = .ok (.iconst 4, 1) := by decide +kernel
theorem dX2_between_6 : decode cX2_between 6 = .ok (.if_icmp .lt 5, 3) := by decide +kernel
theorem dX2_between_9 : decode cX2_between 9 = .ok (.iconst 0, 1) := by decide +kernel
theorem dX2_between_10 : decode cX2_between 10 = .ok (.ireturn, 1) := by decide +kernel
theorem dX2_between_11 : decode cX2_between 11 = .ok (.iload_n 1, 1) := by decide +kernel
theorem dX2_between_12 : decode cX2_between 12 = .ok (.ifCond .ge 14, 3) := by decide +kernel
theorem dX2_between_15 : decode cX2_between 15 = .ok (.aload_n 0, 1) := by decide +kernel
theorem dX2_between_16 : decode cX2_between 16 = .ok (.getfield 18, 3) := by decide +kernel
theorem dX2_between_19 : decode cX2_between 19 = .ok (.iload_n 2, 1) := by decide +kernel
theorem dX2_between_20 : decode cX2_between 20 = .ok (.iconst 4, 1) := by decide +kernel
theorem dX2_between_21 : decode cX2_between 21 = .ok (.imul, 1) := by decide +kernel
theorem dX2_between_22 : decode cX2_between 22 = .ok (.iload_n 3, 1) := by decide +kernel
theorem dX2_between_23 : decode cX2_between 23 = .ok (.iadd, 1) := by decide +kernel
theorem dX2_between_24 : decode cX2_between 24 = .ok (.iaload, 1) := by decide +kernel
theorem dX2_between_25 : decode cX2_between 25 = .ok (.ireturn, 1) := by decide +kernel
theorem dX2_between_26 : decode cX2_between 26 = .ok (.iload_n 2, 1) := by decide +kernel
theorem dX2_between_27 : decode cX2_between 27 = .ok (.iconst 4, 1) := by decide +kernel
theorem dX2_between_28 : decode cX2_between 28 = .ok (.if_icmp .lt 14, 3) := by decide +kernel
theorem dX2_between_31 : decode cX2_between 31 = .ok (.aload_n 0, 1) := by decide +kernel
theorem dX2_between_32 : decode cX2_between 32 = .ok (.getfield 18, 3) := by decide +kernel
theorem dX2_between_35 : decode cX2_between 35 = .ok (.iload_n 1, 1) := by decide +kernel
theorem dX2_between_36 : decode cX2_between 36 = .ok (.iconst 4, 1) := by decide +kernel
theorem dX2_between_37 : decode cX2_between 37 = .ok (.imul, 1) := by decide +kernel
theorem dX2_between_38 : decode cX2_between 38 = .ok (.iload_n 3, 1) := by decide +kernel
theorem dX2_between_39 : decode cX2_between 39 = .ok (.iadd, 1) := by decide +kernel
theorem dX2_between_40 : decode cX2_between 40 = .ok (.iaload, 1) := by decide +kernel
theorem dX2_between_41 : decode cX2_between 41 = .ok (.ireturn, 1) := by decide +kernel
theorem dX2_between_42 : decode cX2_between 42 = .ok (.aload_n 0, 1) := by decide +kernel
theorem dX2_between_43 : decode cX2_between 43 = .ok (.getfield 18, 3) := by decide +kernel
theorem dX2_between_46 : decode cX2_between 46 = .ok (.iload_n 1, 1) := by decide +kernel
theorem dX2_between_47 : decode cX2_between 47 = .ok (.iconst 4, 1) := by decide +kernel
theorem dX2_between_48 : decode cX2_between 48 = .ok (.imul, 1) := by decide +kernel
theorem dX2_between_49 : decode cX2_between 49 = .ok (.iload_n 3, 1) := by decide +kernel
theorem dX2_between_50 : decode cX2_between 50 = .ok (.iadd, 1) := by decide +kernel
theorem dX2_between_51 : decode cX2_between 51 = .ok (.iaload, 1) := by decide +kernel
theorem dX2_between_52 : decode cX2_between 52 = .ok (.aload_n 0, 1) := by decide +kernel
theorem dX2_between_53 : decode cX2_between 53 = .ok (.getfield 18, 3) := by decide +kernel
theorem dX2_between_56 : decode cX2_between 56 = .ok (.iload_n 2, 1) := by decide +kernel
theorem dX2_between_57 : decode cX2_between 57 = .ok (.iconst 4, 1) := by decide +kernel
theorem dX2_between_58 : decode cX2_between 58 = .ok (.imul, 1) := by decide +kernel
theorem dX2_between_59 : decode cX2_between 59 = .ok (.iload_n 3, 1) := by decide +kernel
theorem dX2_between_60 : decode cX2_between 60 = .ok (.iadd, 1) := by decide +kernel
theorem dX2_between_61 : decode cX2_between 61 = .ok (.iaload, 1) := by decide +kernel
theorem dX2_between_62 : decode cX2_between 62 = .ok (.iadd, 1) := by decide +kernel
theorem dX2_between_63 : decode cX2_between 63 = .ok (.iconst 2, 1) := by decide +kernel
theorem dX2_between_64 : decode cX2_between 64 = .ok (.idiv, 1) := by decide +kernel
theorem dX2_between_65 : decode cX2_between 65 = .ok (.ireturn, 1) := by decide +kernel
theorem dX3_init_0 : decode cX3_init 0 = .ok (.aload_n 0, 1) := by decide +kernel
theorem dX3_init_1 : decode cX3_init 1 = .ok (.invokespecial 3, 3) := by decide +kernel
theorem dX3_init_4 : decode cX3_init 4 = .ok (.aload_n 0, 1) := by decide +kernel
theorem dX3_init_5 : decode cX3_init 5 = .ok (.bipush 6, 2) := by decide +kernel
theorem dX3_init_7 : decode cX3_init 7 = .ok (.newarray .int, 2) := by decide +kernel
theorem dX3_init_9 : decode cX3_init 9 = .ok (.putfield 9, 3) := by decide +kernel
theorem dX3_init_12 : decode cX3_init 12 = .ok (.aload_n 0, 1) := by decide +kernel
theorem dX3_init_13 : decode cX3_init 13 = .ok (.bipush 6, 2) := by decide +kernel
theorem dX3_init_15 : decode cX3_init 15 = .ok (.newarray .int, 2) := by decide +kernel
theorem dX3_init_17 : decode cX3_init 17 = .ok (.putfield 15, 3) := by decide +kernel
theorem dX3_init_20 : decode cX3_init 20 = .ok (.return_, 1) := by decide +kernel
theorem dX3_add_0 : decode cX3_add 0 = .ok (.aload_n 0, 1) := by decide +kernel
theorem dX3_add_1 : decode cX3_add 1 = .ok (.getfield 18, 3) := by decide +kernel
theorem dX3_add_4 : decode cX3_add 4 = .ok (.bipush 6, 2) := by decide +kernel
theorem dX3_add_6 : decode cX3_add 6 = .ok (.if_icmp .lt 5, 3) := by decide +kernel
theorem dX3_add_9 : decode cX3_add 9 = .ok (.iconst 0, 1) := by decide +kernel
theorem dX3_add_10 : decode cX3_add 10 = .ok (.ireturn, 1) := by decide +kernel
theorem dX3_add_11 : decode cX3_add 11 = .ok (.aload_n 0, 1) := by decide +kernel
theorem dX3_add_12 : decode cX3_add 12 = .ok (.getfield 9, 3) := by decide +kernel
theorem dX3_add_15 : decode cX3_add 15 = .ok (.aload_n 0, 1) := by decide +kernel
theorem dX3_add_16 : decode cX3_add 16 = .ok (.getfield 18, 3) := by decide +kernel
theorem dX3_add_19 : decode cX3_add 19 = .ok (.iload_n 1, 1) := by decide +kernel
theorem dX3_add_20 : decode cX3_add 20 = .ok (.iastore, 1) := by decide +kernel
theorem dX3_add_21 : decode cX3_add 21 = .ok (.aload_n 0, 1) := by decide +kernel
theorem dX3_add_22 : decode cX3_add 22 = .ok (.getfield 15, 3) := by decide +kernel
theorem dX3_add_25 : decode cX3_add 25 = .ok (.aload_n 0, 1) := by decide +kernel
theorem dX3_add_26 : decode cX3_add 26 = .ok (.getfield 18, 3) := by decide +kernel
theorem dX3_add_29 : decode cX3_add 29 = .ok (.iload_n 2, 1) := by decide +kernel
theorem dX3_add_30 : decode cX3_add 30 = .ok (.iastore, 1) := by decide +kernel
theorem dX3_add_31 : decode cX3_add 31 = .ok (.aload_n 0, 1) := by decide +kernel
theorem dX3_add_32 : decode cX3_add 32 = .ok (.dup, 1) := by decide +kernel
theorem dX3_add_33 : decode cX3_add 33 = .ok (.getfield 18, 3) := by decide +kernel
theorem dX3_add_36 : decode cX3_add 36 = .ok (.iconst 1, 1) := by decide +kernel
theorem dX3_add_37 : decode cX3_add 37 = .ok (.iadd, 1) := by decide +kernel
theorem dX3_add_38 : decode cX3_add 38 = .ok (.putfield 18, 3) := by decide +kernel
theorem dX3_add_41 : decode cX3_add 41 = .ok (.iconst 1, 1) := by decide +kernel
theorem dX3_add_42 : decode cX3_add 42 = .ok (.ireturn, 1) := by decide +kernel
theorem dX3_isSo_0 : decode cX3_isSo 0 = .ok (.iconst 0, 1) := by decide +kernel
theorem dX3_isSo_1 : decode cX3_isSo 1 = .ok (.istore_n 2, 1) := by decide +kernel
theorem dX3_isSo_2 : decode cX3_isSo 2 = .ok (.iload_n 2, 1) := by decide +kernel
theorem dX3_isSo_3 : decode cX3_isSo 3 = .ok (.aload_n 0, 1) := by decide +kernel
theorem dX3_isSo_4 : decode cX3_isSo 4 = .ok (.getfield 18, 3) := by decide +kernel
theorem dX3_isSo_7 : decode cX3_isSo 7 = .ok (.if_icmp .ge 31, 3) := by decide +kernel
theorem dX3_isSo_10 : decode cX3_isSo 10 = .ok (.aload_n 1, 1) := by decide +kernel
theorem dX3_isSo_11 : decode cX3_isSo 11 = .ok (.getfield 22, 3) := by decide +kernel
theorem dX3_isSo_14 : decode cX3_isSo 14 = .ok (.aload_n 0, 1) := by decide +kernel
theorem dX3_isSo_15 : decode cX3_isSo 15 = .ok (.getfield 9, 3) := by decide +kernel
theorem dX3_isSo_18 : decode cX3_isSo 18 = .ok (.iload_n 2, 1) := by decide +kernel
theorem dX3_isSo_19 : decode cX3_isSo 19 = .ok (.iaload, 1) := by decide +kernel
theorem dX3_isSo_20 : decode cX3_isSo 20 = .ok (.iaload, 1) := by decide +kernel
theorem dX3_isSo_21 : decode cX3_isSo 21 = .ok (.aload_n 0, 1) := by decide +kernel
theorem dX3_isSo_22 : decode cX3_isSo 22 = .ok (.getfield 15, 3) := by decide +kernel
theorem dX3_isSo_25 : decode cX3_isSo 25 = .ok (.iload_n 2, 1) := by decide +kernel
theorem dX3_isSo_26 : decode cX3_isSo 26 = .ok (.iaload, 1) := by decide +kernel
theorem dX3_isSo_27 : decode cX3_isSo 27 = .ok (.if_icmp .eq 5, 3) := by decide +kernel
theorem dX3_isSo_30 : decode cX3_isSo 30 = .ok (.iconst 0, 1) := by decide +kernel
theorem dX3_isSo_31 : decode cX3_isSo 31 = .ok (.ireturn, 1) := by decide +kernel
theorem dX3_isSo_32 : decode cX3_isSo 32 = .ok (.iinc 2 1, 3) := by decide +kernel
theorem dX3_isSo_35 : decode cX3_isSo 35 = .ok (.goto (-33), 3) := by decide +kernel
theorem dX3_isSo_38 : decode cX3_isSo 38 = .ok (.iconst 1, 1) := by decide +kernel
theorem dX3_isSo_39 : decode cX3_isSo 39 = .ok (.ireturn, 1) := by decide +kernel
theorem dX4_init_0 : decode cX4_init 0 = .ok (.aload_n 0, 1) := by decide +kernel
theorem dX4_init_1 : decode cX4_init 1 = .ok (.invokespecial 3, 3) := by decide +kernel
theorem dX4_init_4 : decode cX4_init 4 = .ok (.aload_n 0, 1) := by decide +kernel
theorem dX4_init_5 : decode cX4_init 5 = .ok (.iconst 2, 1) := by decide +kernel
theorem dX4_init_6 : decode cX4_init 6 = .ok (.anewarray 9, 3) := by decide +kernel
theorem dX4_init_9 : decode cX4_init 9 = .ok (.putfield 11, 3) := by decide +kernel
theorem dX4_init_12 : decode cX4_init 12 = .ok (.iconst 0, 1) := by decide +kernel
theorem dX4_init_13 : decode cX4_init 13 = .ok (.istore_n 1, 1) := by decide +kernel
theorem dX4_init_14 : decode cX4_init 14 = .ok (.iload_n 1, 1) := by decide +kernel
theorem dX4_init_15 : decode cX4_init 15 = .ok (.iconst 2, 1) := by decide +kernel
theorem dX4_init_16 : decode cX4_init 16 = .ok (.if_icmp .ge 22, 3) := by decide +kernel
theorem dX4_init_19 : decode cX4_init 19 = .ok (.aload_n 0, 1) := by decide +kernel
theorem dX4_init_20 : decode cX4_init 20 = .ok (.getfield 11, 3) := by decide +kernel
theorem dX4_init_23 : decode cX4_init 23 = .ok (.iload_n 1, 1) := by decide +kernel
theorem dX4_init_24 : decode cX4_init 24 = .ok (.new 9, 3) := by decide +kernel
theorem dX4_init_27 : decode cX4_init 27 = .ok (.dup, 1) := by decide +kernel
theorem dX4_init_28 : decode cX4_init 28 = .ok (.invokespecial 17, 3) := by decide +kernel
theorem dX4_init_31 : decode cX4_init 31 = .ok (.aastore, 1) := by decide +kernel
theorem dX4_init_32 : decode cX4_init 32 = .ok (.iinc 1 1, 3) := by decide +kernel
theorem dX4_init_35 : decode cX4_init 35 = .ok (.goto (-21), 3) := by decide +kernel
theorem dX4_init_38 : decode cX4_init 38 = .ok (.return_, 1) := by decide +kernel
theorem dX4_put_0 : decode cX4_put 0 = .ok (.aload_n 0, 1) := by decide +kernel
theorem dX4_put_1 : decode cX4_put 1 = .ok (.getfield 11, 3) := by decide +kernel
theorem dX4_put_4 : decode cX4_put 4 = .ok (.iload_n 1, 1) := by decide +kernel
theorem dX4_put_5 : decode cX4_put 5 = .ok (.aaload, 1) := by decide +kernel
theorem dX4_put_6 : decode cX4_put 6 = .ok (.aload_n 2, 1) := by decide +kernel
theorem dX4_put_7 : decode cX4_put 7 = .ok (.invokevirtual 18, 3) := by decide +kernel
theorem dX4_put_10 : decode cX4_put 10 = .ok (.aload_n 0, 1) := by decide +kernel
theorem dX4_put_11 : decode cX4_put 11 = .ok (.dup, 1) := by decide +kernel
theorem dX4_put_12 : decode cX4_put 12 = .ok (.getfield 22, 3) := by decide +kernel
theorem dX4_put_15 : decode cX4_put 15 = .ok (.iconst 1, 1) := by decide +kernel
theorem dX4_put_16 : decode cX4_put 16 = .ok (.iload_n 1, 1) := by decide +kernel
theorem dX4_put_17 : decode cX4_put 17 = .ok (.ishl, 1) := by decide +kernel
theorem dX4_put_18 : decode cX4_put 18 = .ok (.ior, 1) := by decide +kernel
theorem dX4_put_19 : decode cX4_put 19 = .ok (.putfield 22, 3) := by decide +kernel
theorem dX4_put_22 : decode cX4_put 22 = .ok (.return_, 1) := by decide +kernel
theorem dX4_takeInto_0 : decode cX4_takeInto 0 = .ok (.aload_n 0, 1) := by decide +kernel
theorem dX4_takeInto_1 : decode cX4_takeInto 1 = .ok (.getfield 22, 3) := by decide +kernel
theorem dX4_takeInto_4 : decode cX4_takeInto 4 = .ok (.iload_n 1, 1) := by decide +kernel
theorem dX4_takeInto_5 : decode cX4_takeInto 5 = .ok (.ishr, 1) := by decide +kernel
theorem dX4_takeInto_6 : decode cX4_takeInto 6 = .ok (.iconst 1, 1) := by decide +kernel
theorem dX4_takeInto_7 : decode cX4_takeInto 7 = .ok (.iand, 1) := by decide +kernel
theorem dX4_takeInto_8 : decode cX4_takeInto 8 = .ok (.ifCond .ne 5, 3) := by decide +kernel
theorem dX4_takeInto_11 : decode cX4_takeInto 11 = .ok (.iconst 0, 1) := by decide +kernel
theorem dX4_takeInto_12 : decode cX4_takeInto 12 = .ok (.ireturn, 1) := by decide +kernel
theorem dX4_takeInto_13 : decode cX4_takeInto 13 = .ok (.aload_n 2, 1) := by decide +kernel
theorem dX4_takeInto_14 : decode cX4_takeInto 14 = .ok (.aload_n 0, 1) := by decide +kernel
theorem dX4_takeInto_15 : decode cX4_takeInto 15 = .ok (.getfield 11, 3) := by decide +kernel
theorem dX4_takeInto_18 : decode cX4_takeInto 18 = .ok (.iload_n 1, 1) := by decide +kernel
theorem dX4_takeInto_19 : decode cX4_takeInto 19 = .ok (.aaload, 1) := by decide +kernel
theorem dX4_takeInto_20 : decode cX4_takeInto 20 = .ok (.invokevirtual 18, 3) := by decide +kernel
theorem dX4_takeInto_23 : decode cX4_takeInto 23 = .ok (.iconst 1, 1) := by decide +kernel
theorem dX4_takeInto_24 : decode cX4_takeInto 24 = .ok (.ireturn, 1) := by decide +kernel
theorem dX4_forgetAll_0 : decode cX4_forgetAll 0 = .ok (.aload_n 0, 1) := by decide +kernel
theorem dX4_forgetAll_1 : decode cX4_forgetAll 1 = .ok (.iconst 0, 1) := by decide +kernel
theorem dX4_forgetAll_2 : decode cX4_forgetAll 2 = .ok (.putfield 22, 3) := by decide +kernel
theorem dX4_forgetAll_5 : decode cX4_forgetAll 5 = .ok (.return_, 1) := by decide +kernel
theorem dX5_init_0 : decode cX5_init 0 = .ok (.aload_n 0, 1) := by decide +kernel
theorem dX5_init_1 : decode cX5_init 1 = .ok (.invokespecial 3, 3) := by decide +kernel
theorem dX5_init_4 : decode cX5_init 4 = .ok (.aload_n 0, 1) := by decide +kernel
theorem dX5_init_5 : decode cX5_init 5 = .ok (.iconst 1, 1) := by decide +kernel
theorem dX5_init_6 : decode cX5_init 6 = .ok (.putfield 9, 3) := by decide +kernel
theorem dX5_init_9 : decode cX5_init 9 = .ok (.aload_n 0, 1) := by decide +kernel
theorem dX5_init_10 : decode cX5_init 10 = .ok (.iconst 1, 1) := by decide +kernel
theorem dX5_init_11 : decode cX5_init 11 = .ok (.putfield 15, 3) := by decide +kernel
theorem dX5_init_14 : decode cX5_init 14 = .ok (.aload_n 0, 1) := by decide +kernel
theorem dX5_init_15 : decode cX5_init 15 = .ok (.iconst 1, 1) := by decide +kernel
theorem dX5_init_16 : decode cX5_init 16 = .ok (.putfield 18, 3) := by decide +kernel
theorem dX5_init_19 : decode cX5_init 19 = .ok (.aload_n 0, 1) := by decide +kernel
theorem dX5_init_20 : decode cX5_init 20 = .ok (.bipush 20, 2) := by decide +kernel
theorem dX5_init_22 : decode cX5_init 22 = .ok (.newarray .int, 2) := by decide +kernel
theorem dX5_init_24 : decode cX5_init 24 = .ok (.putfield 21, 3) := by decide +kernel
theorem dX5_init_27 : decode cX5_init 27 = .ok (.aload_n 0, 1) := by decide +kernel
theorem dX5_init_28 : decode cX5_init 28 = .ok (.bipush 20, 2) := by decide +kernel
theorem dX5_init_30 : decode cX5_init 30 = .ok (.newarray .int, 2) := by decide +kernel
theorem dX5_init_32 : decode cX5_init 32 = .ok (.putfield 25, 3) := by decide +kernel
theorem dX5_init_35 : decode cX5_init 35 = .ok (.aload_n 0, 1) := by decide +kernel
theorem dX5_init_36 : decode cX5_init 36 = .ok (.bipush 16, 2) := by decide +kernel
theorem dX5_init_38 : decode cX5_init 38 = .ok (.newarray .int, 2) := by decide +kernel
theorem dX5_init_40 : decode cX5_init 40 = .ok (.putfield 28, 3) := by decide +kernel
theorem dX5_init_43 : decode cX5_init 43 = .ok (.return_, 1) := by decide +kernel
theorem dX5_renew_0 : decode cX5_renew 0 = .ok (.aload_n 0, 1) := by decide +kernel
theorem dX5_renew_1 : decode cX5_renew 1 = .ok (.iconst 1, 1) := by decide +kernel
theorem dX5_renew_2 : decode cX5_renew 2 = .ok (.putfield 9, 3) := by decide +kernel
theorem dX5_renew_5 : decode cX5_renew 5 = .ok (.aload_n 0, 1) := by decide +kernel
theorem dX5_renew_6 : decode cX5_renew 6 = .ok (.iconst 1, 1) := by decide +kernel
theorem dX5_renew_7 : decode cX5_renew 7 = .ok (.putfield 15, 3) := by decide +kernel
theorem dX5_renew_10 : decode cX5_renew 10 = .ok (.aload_n 0, 1) := by decide +kernel
theorem dX5_renew_11 : decode cX5_renew 11 = .ok (.iconst 0, 1) := by decide +kernel
theorem dX5_renew_12 : decode cX5_renew 12 = .ok (.putfield 31, 3) := by decide +kernel
theorem dX5_renew_15 : decode cX5_renew 15 = .ok (.aload_n 0, 1) := by decide +kernel
theorem dX5_renew_16 : decode cX5_renew 16 = .ok (.iconst 1, 1) := by decide +kernel
theorem dX5_renew_17 : decode cX5_renew 17 = .ok (.putfield 18, 3) := by decide +kernel
theorem dX5_renew_20 : decode cX5_renew 20 = .ok (.aload_n 0, 1) := by decide +kernel
theorem dX5_renew_21 : decode cX5_renew 21 = .ok (.iconst 0, 1) := by decide +kernel
theorem dX5_renew_22 : decode cX5_renew 22 = .ok (.putfield 34, 3) := by decide +kernel
theorem dX5_renew_25 : decode cX5_renew 25 = .ok (.aload_n 0, 1) := by decide +kernel
theorem dX5_renew_26 : decode cX5_renew 26 = .ok (.getfield 28, 3) := by decide +kernel
theorem dX5_renew_29 : decode cX5_renew 29 = .ok (.iconst 0, 1) := by decide +kernel
theorem dX5_renew_30 : decode cX5_renew 30 = .ok (.invokestatic 37, 3) := by decide +kernel
theorem dX5_renew_33 : decode cX5_renew 33 = .ok (.return_, 1) := by decide +kernel
theorem dX5_copy_0 : decode cX5_copy 0 = .ok (.aload_n 0, 1) := by decide +kernel
theorem dX5_copy_1 : decode cX5_copy 1 = .ok (.aload_n 1, 1) := by decide +kernel
theorem dX5_copy_2 : decode cX5_copy 2 = .ok (.getfield 9, 3) := by decide +kernel
theorem dX5_copy_5 : decode cX5_copy 5 = .ok (.putfield 9, 3) := by decide +kernel
theorem dX5_copy_8 : decode cX5_copy 8 = .ok (.aload_n 0, 1) := by decide +kernel
theorem dX5_copy_9 : decode cX5_copy 9 = .ok (.aload_n 1, 1) := by decide +kernel
theorem dX5_copy_10 : decode cX5_copy 10 = .ok (.getfield 15, 3) := by decide +kernel
theorem dX5_copy_13 : decode cX5_copy 13 = .ok (.putfield 15, 3) := by decide +kernel
theorem dX5_copy_16 : decode cX5_copy 16 = .ok (.aload_n 0, 1) := by decide +kernel
theorem dX5_copy_17 : decode cX5_copy 17 = .ok (.aload_n 1, 1) := by decide +kernel
theorem dX5_copy_18 : decode cX5_copy 18 = .ok (.getfield 31, 3) := by decide +kernel
theorem dX5_copy_21 : decode cX5_copy 21 = .ok (.putfield 31, 3) := by decide +kernel
theorem dX5_copy_24 : decode cX5_copy 24 = .ok (.aload_n 0, 1) := by decide +kernel
theorem dX5_copy_25 : decode cX5_copy 25 = .ok (.aload_n 1, 1) := by decide +kernel
theorem dX5_copy_26 : decode cX5_copy 26 = .ok (.getfield 18, 3) := by decide +kernel
theorem dX5_copy_29 : decode cX5_copy 29 = .ok (.putfield 18, 3) := by decide +kernel
theorem dX5_copy_32 : decode cX5_copy 32 = .ok (.aload_n 0, 1) := by decide +kernel
theorem dX5_copy_33 : decode cX5_copy 33 = .ok (.aload_n 1, 1) := by decide +kernel
theorem dX5_copy_34 : decode cX5_copy 34 = .ok (.getfield 34, 3) := by decide +kernel
theorem dX5_copy_37 : decode cX5_copy 37 = .ok (.putfield 34, 3) := by decide +kernel
theorem dX5_copy_40 : decode cX5_copy 40 = .ok (.aload_n 1, 1) := by decide +kernel
theorem dX5_copy_41 : decode cX5_copy 41 = .ok (.getfield 21, 3) := by decide +kernel
theorem dX5_copy_44 : decode cX5_copy 44 = .ok (.iconst 0, 1) := by decide +kernel
theorem dX5_copy_45 : decode cX5_copy 45 = .ok (.aload_n 0, 1) := by decide +kernel
theorem dX5_copy_46 : decode cX5_copy 46 = .ok (.getfield 21, 3) := by decide +kernel
theorem dX5_copy_49 : decode cX5_copy 49 = .ok (.iconst 0, 1) := by decide +kernel
theorem dX5_copy_50 : decode cX5_copy 50 = .ok (.bipush 20, 2) := by decide +kernel
theorem dX5_copy_52 : decode cX5_copy 52 = .ok (.invokestatic 43, 3) := by decide +kernel
theorem dX5_copy_55 : decode cX5_copy 55 = .ok (.aload_n 1, 1) := by decide +kernel
theorem dX5_copy_56 : decode cX5_copy 56 = .ok (.getfield 25, 3) := by decide +kernel
theorem dX5_copy_59 : decode cX5_copy 59 = .ok (.iconst 0, 1) := by decide +kernel
theorem dX5_copy_60 : decode cX5_copy 60 = .ok (.aload_n 0, 1) := by decide +kernel
theorem dX5_copy_61 : decode cX5_copy 61 = .ok (.getfield 25, 3) := by decide +kernel
theorem dX5_copy_64 : decode cX5_copy 64 = .ok (.iconst 0, 1) := by decide +kernel
theorem dX5_copy_65 : decode cX5_copy 65 = .ok (.bipush 20, 2) := by decide +kernel
theorem dX5_copy_67 : decode cX5_copy 67 = .ok (.invokestatic 43, 3) := by decide +kernel
theorem dX5_copy_70 : decode cX5_copy 70 = .ok (.aload_n 1, 1) := by decide +kernel
theorem dX5_copy_71 : decode cX5_copy 71 = .ok (.getfield 28, 3) := by decide +kernel
theorem dX5_copy_74 : decode cX5_copy 74 = .ok (.iconst 0, 1) := by decide +kernel
theorem dX5_copy_75 : decode cX5_copy 75 = .ok (.aload_n 0, 1) := by decide +kernel
theorem dX5_copy_76 : decode cX5_copy 76 = .ok (.getfield 28, 3) := by decide +kernel
theorem dX5_copy_79 : decode cX5_copy 79 = .ok (.iconst 0, 1) := by decide +kernel
theorem dX5_copy_80 : decode cX5_copy 80 = .ok (.bipush 16, 2) := by decide +kernel
theorem dX5_copy_82 : decode cX5_copy 82 = .ok (.invokestatic 43, 3) := by decide +kernel
theorem dX5_copy_85 : decode cX5_copy 85 = .ok (.return_, 1) := by decide +kernel
theorem dX5_tellRows_0 : decode cX5_tellRows 0 = .ok (.iload_n 1, 1) := by decide +kernel
theorem dX5_tellRows_1 : decode cX5_tellRows 1 = .ok (.iconst 1, 1) := by decide +kernel
theorem dX5_tellRows_2 : decode cX5_tellRows 2 = .ok (.if_icmp .lt 9, 3) := by decide +kernel
theorem dX5_tellRows_5 : decode cX5_tellRows 5 = .ok (.iload_n 1, 1) := by decide +kernel
theorem dX5_tellRows_6 : decode cX5_tellRows 6 = .ok (.bipush 6, 2) := by decide +kernel
theorem dX5_tellRows_8 : decode cX5_tellRows 8 = .ok (.if_icmp .le 5, 3) := by decide +kernel
theorem dX5_tellRows_11 : decode cX5_tellRows 11 = .ok (.iconst 0, 1) := by decide +kernel
theorem dX5_tellRows_12 : decode cX5_tellRows 12 = .ok (.ireturn, 1) := by decide +kernel
theorem dX5_tellRows_13 : decode cX5_tellRows 13 = .ok (.aload_n 0, 1) := by decide +kernel
theorem dX5_tellRows_14 : decode cX5_tellRows 14 = .ok (.iload_n 1, 1) := by decide +kernel
theorem dX5_tellRows_15 : decode cX5_tellRows 15 = .ok (.putfield 9, 3) := by decide +kernel
theorem dX5_tellRows_18 : decode cX5_tellRows 18 = .ok (.iconst 1, 1) := by decide +kernel
theorem dX5_tellRows_19 : decode cX5_tellRows 19 = .ok (.ireturn, 1) := by decide +kernel
theorem dX5_tellColumns_0 : decode cX5_tellColumns 0 = .ok (.iload_n 1, 1) := by decide +kernel
theorem dX5_tellColumns_1 : decode cX5_tellColumns 1 = .ok (.iconst 1, 1) := by decide +kernel
theorem dX5_tellColumns_2 : decode cX5_tellColumns 2 = .ok (.if_icmp .lt 9, 3) := by decide +kernel
theorem dX5_tellColumns_5 : decode cX5_tellColumns 5 = .ok (.iload_n 1, 1) := by decide +kernel
theorem dX5_tellColumns_6 : decode cX5_tellColumns 6 = .ok (.bipush 6, 2) := by decide +kernel
theorem dX5_tellColumns_8 : decode cX5_tellColumns 8 = .ok (.if_icmp .le 5, 3) := by decide +kernel
theorem dX5_tellColumns_11 : decode cX5_tellColumns 11 = .ok (.iconst 0, 1) := by decide +kernel
theorem dX5_tellColumns_12 : decode cX5_tellColumns 12 = .ok (.ireturn, 1) := by decide +kernel
theorem dX5_tellColumns_13 : decode cX5_tellColumns 13 = .ok (.aload_n 0, 1) := by decide +kernel
theorem dX5_tellColumns_14 : decode cX5_tellColumns 14 = .ok (.iload_n 1, 1) := by decide +kernel
theorem dX5_tellColumns_15 : decode cX5_tellColumns 15 = .ok (.putfield 15, 3) := by decide +kernel
theorem dX5_tellColumns_18 : decode cX5_tellColumns 18 = .ok (.iconst 1, 1) := by decide +kernel
theorem dX5_tellColumns_19 : decode cX5_tellColumns 19 = .ok (.ireturn, 1) := by decide +kernel
theorem dX5_hasRoom_0 : decode cX5_hasRoom 0 = .ok (.aload_n 0, 1) := by decide +kernel
theorem dX5_hasRoom_1 : decode cX5_hasRoom 1 = .ok (.getfield 31, 3) := by decide +kernel
theorem dX5_hasRoom_4 : decode cX5_hasRoom 4 = .ok (.bipush 20, 2) := by decide +kernel
theorem dX5_hasRoom_6 : decode cX5_hasRoom 6 = .ok (.if_icmp .ge 23, 3) := by decide +kernel
theorem dX5_hasRoom_9 : decode cX5_hasRoom 9 = .ok (.aload_n 0, 1) := by decide +kernel
theorem dX5_hasRoom_10 : decode cX5_hasRoom 10 = .ok (.getfield 31, 3) := by decide +kernel
theorem dX5_hasRoom_13 : decode cX5_hasRoom 13 = .ok (.aload_n 0, 1) := by decide +kernel
theorem dX5_hasRoom_14 : decode cX5_hasRoom 14 = .ok (.getfield 9, 3) := by decide +kernel
theorem dX5_hasRoom_17 : decode cX5_hasRoom 17 = .ok (.aload_n 0, 1) := by decide +kernel
theorem dX5_hasRoom_18 : decode cX5_hasRoom 18 = .ok (.getfield 15, 3) := by decide +kernel
theorem dX5_hasRoom_21 : decode cX5_hasRoom 21 = .ok (.imul, 1) := by decide +kernel
theorem dX5_hasRoom_22 : decode cX5_hasRoom 22 = .ok (.if_icmp .ge 7, 3) := by decide +kernel
theorem dX5_hasRoom_25 : decode cX5_hasRoom 25 = .ok (.iconst 1, 1) := by decide +kernel
theorem dX5_hasRoom_26 : decode cX5_hasRoom 26 = .ok (.goto 4, 3) := by decide +kernel
theorem dX5_hasRoom_29 : decode cX5_hasRoom 29 = .ok (.iconst 0, 1) := by decide +kernel
theorem dX5_hasRoom_30 : decode cX5_hasRoom 30 = .ok (.ireturn, 1) := by decide +kernel
theorem dX5_tellRow_0 : decode cX5_tellRow 0 = .ok (.iload_n 1, 1) := by decide +kernel
theorem dX5_tellRow_1 : decode cX5_tellRow 1 = .ok (.ifCond .lt 30, 3) := by decide +kernel
theorem dX5_tellRow_4 : decode cX5_tellRow 4 = .ok (.iload_n 1, 1) := by decide +kernel
theorem dX5_tellRow_5 : decode cX5_tellRow 5 = .ok (.aload_n 0, 1) := by decide +kernel
theorem dX5_tellRow_6 : decode cX5_tellRow 6 = .ok (.getfield 9, 3) := by decide +kernel
theorem dX5_tellRow_9 : decode cX5_tellRow 9 = .ok (.if_icmp .ge 22, 3) := by decide +kernel
theorem dX5_tellRow_12 : decode cX5_tellRow 12 = .ok (.aload_n 0, 1) := by decide +kernel
theorem dX5_tellRow_13 : decode cX5_tellRow 13 = .ok (.invokevirtual 49, 3) := by decide +kernel
theorem dX5_tellRow_16 : decode cX5_tellRow 16 = .ok (.ifCond .eq 15, 3) := by decide +kernel
theorem dX5_tellRow_19 : decode cX5_tellRow 19 = .ok (.aload_n 0, 1) := by decide +kernel
theorem dX5_tellRow_20 : decode cX5_tellRow 20 = .ok (.iload_n 1, 1) := by decide +kernel
theorem dX5_tellRow_21 : decode cX5_tellRow 21 = .ok (.invokevirtual 53, 3) := by decide +kernel
theorem dX5_tellRow_24 : decode cX5_tellRow 24 = .ok (.aload_n 0, 1) := by decide +kernel
theorem dX5_tellRow_25 : decode cX5_tellRow 25 = .ok (.getfield 15, 3) := by decide +kernel
theorem dX5_tellRow_28 : decode cX5_tellRow 28 = .ok (.if_icmp .lt 5, 3) := by decide +kernel
theorem dX5_tellRow_31 : decode cX5_tellRow 31 = .ok (.iconst 0, 1) := by decide +kernel
theorem dX5_tellRow_32 : decode cX5_tellRow 32 = .ok (.ireturn, 1) := by decide +kernel
theorem dX5_tellRow_33 : decode cX5_tellRow 33 = .ok (.aload_n 0, 1) := by decide +kernel
theorem dX5_tellRow_34 : decode cX5_tellRow 34 = .ok (.getfield 21, 3) := by decide +kernel
theorem dX5_tellRow_37 : decode cX5_tellRow 37 = .ok (.aload_n 0, 1) := by decide +kernel
theorem dX5_tellRow_38 : decode cX5_tellRow 38 = .ok (.getfield 31, 3) := by decide +kernel
theorem dX5_tellRow_41 : decode cX5_tellRow 41 = .ok (.iload_n 1, 1) := by decide +kernel
theorem dX5_tellRow_42 : decode cX5_tellRow 42 = .ok (.iastore, 1) := by decide +kernel
theorem dX5_tellRow_43 : decode cX5_tellRow 43 = .ok (.iconst 1, 1) := by decide +kernel
theorem dX5_tellRow_44 : decode cX5_tellRow 44 = .ok (.ireturn, 1) := by decide +kernel
theorem dX5_tellColumn_0 : decode cX5_tellColumn 0 = .ok (.iload_n 1, 1) := by decide +kernel
theorem dX5_tellColumn_1 : decode cX5_tellColumn 1 = .ok (.ifCond .lt 37, 3) := by decide +kernel
theorem dX5_tellColumn_4 : decode cX5_tellColumn 4 = .ok (.iload_n 1, 1) := by decide +kernel
theorem dX5_tellColumn_5 : decode cX5_tellColumn 5 = .ok (.aload_n 0, 1) := by decide +kernel
theorem dX5_tellColumn_6 : decode cX5_tellColumn 6 = .ok (.getfield 15, 3) := by decide +kernel
theorem dX5_tellColumn_9 : decode cX5_tellColumn 9 = .ok (.if_icmp .ge 29, 3) := by decide +kernel
theorem dX5_tellColumn_12 : decode cX5_tellColumn 12 = .ok (.aload_n 0, 1) := by decide +kernel
theorem dX5_tellColumn_13 : decode cX5_tellColumn 13 = .ok (.invokevirtual 49, 3) := by decide +kernel
theorem dX5_tellColumn_16 : decode cX5_tellColumn 16 = .ok (.ifCond .eq 22, 3) := by decide +kernel
theorem dX5_tellColumn_19 : decode cX5_tellColumn 19 = .ok (.aload_n 0, 1) := by decide +kernel
theorem dX5_tellColumn_20 : decode cX5_tellColumn 20 = .ok (.aload_n 0, 1) := by decide +kernel
theorem dX5_tellColumn_21 : decode cX5_tellColumn 21 = .ok (.getfield 21, 3) := by decide +kernel
theorem dX5_tellColumn_24 : decode cX5_tellColumn 24 = .ok (.aload_n 0, 1) := by decide +kernel
theorem dX5_tellColumn_25 : decode cX5_tellColumn 25 = .ok (.getfield 31, 3) := by decide +kernel
theorem dX5_tellColumn_28 : decode cX5_tellColumn 28 = .ok (.iaload, 1) := by decide +kernel
theorem dX5_tellColumn_29 : decode cX5_tellColumn 29 = .ok (.iload_n 1, 1) := by decide +kernel
theorem dX5_tellColumn_30 : decode cX5_tellColumn 30 = .ok (.invokevirtual 57, 3) := by decide +kernel
theorem dX5_tellColumn_33 : decode cX5_tellColumn 33 = .ok (.bipush (-9), 2) := by decide +kernel
theorem dX5_tellColumn_35 : decode cX5_tellColumn 35 = .ok (.if_icmp .eq 5, 3) := by decide +kernel
theorem dX5_tellColumn_38 : decode cX5_tellColumn 38 = .ok (.iconst 0, 1) := by decide +kernel
theorem dX5_tellColumn_39 : decode cX5_tellColumn 39 = .ok (.ireturn, 1) := by decide +kernel
theorem dX5_tellColumn_40 : decode cX5_tellColumn 40 = .ok (.aload_n 0, 1) := by decide +kernel
theorem dX5_tellColumn_41 : decode cX5_tellColumn 41 = .ok (.getfield 25, 3) := by decide +kernel
theorem dX5_tellColumn_44 : decode cX5_tellColumn 44 = .ok (.aload_n 0, 1) := by decide +kernel
theorem dX5_tellColumn_45 : decode cX5_tellColumn 45 = .ok (.getfield 31, 3) := by decide +kernel
theorem dX5_tellColumn_48 : decode cX5_tellColumn 48 = .ok (.iload_n 1, 1) := by decide +kernel
theorem dX5_tellColumn_49 : decode cX5_tellColumn 49 = .ok (.iastore, 1) := by decide +kernel
theorem dX5_tellColumn_50 : decode cX5_tellColumn 50 = .ok (.aload_n 0, 1) := by decide +kernel
theorem dX5_tellColumn_51 : decode cX5_tellColumn 51 = .ok (.dup, 1) := by decide +kernel
theorem dX5_tellColumn_52 : decode cX5_tellColumn 52 = .ok (.getfield 31, 3) := by decide +kernel
theorem dX5_tellColumn_55 : decode cX5_tellColumn 55 = .ok (.iconst 1, 1) := by decide +kernel
theorem dX5_tellColumn_56 : decode cX5_tellColumn 56 = .ok (.iadd, 1) := by decide +kernel
theorem dX5_tellColumn_57 : decode cX5_tellColumn 57 = .ok (.putfield 31, 3) := by decide +kernel
theorem dX5_tellColumn_60 : decode cX5_tellColumn 60 = .ok (.iconst 1, 1) := by decide +kernel
theorem dX5_tellColumn_61 : decode cX5_tellColumn 61 = .ok (.ireturn, 1) := by decide +kernel
theorem dX5_hasShade_0 : decode cX5_hasShade 0 = .ok (.iload_n 1, 1) := by decide +kernel
theorem dX5_hasShade_1 : decode cX5_hasShade 1 = .ok (.ifCond .lt 15, 3) := by decide +kernel
theorem dX5_hasShade_4 : decode cX5_hasShade 4 = .ok (.iload_n 1, 1) := by decide +kernel
theorem dX5_hasShade_5 : decode cX5_hasShade 5 = .ok (.aload_n 0, 1) := by decide +kernel
theorem dX5_hasShade_6 : decode cX5_hasShade 6 = .ok (.getfield 31, 3) := by decide +kernel
theorem dX5_hasShade_9 : decode cX5_hasShade 9 = .ok (.if_icmp .ge 7, 3) := by decide +kernel
theorem dX5_hasShade_12 : decode cX5_hasShade 12 = .ok (.iconst 1, 1) := by decide +kernel
theorem dX5_hasShade_13 : decode cX5_hasShade 13 = .ok (.goto 4, 3) := by decide +kernel
theorem dX5_hasShade_16 : decode cX5_hasShade 16 = .ok (.iconst 0, 1) := by decide +kernel
theorem dX5_hasShade_17 : decode cX5_hasShade 17 = .ok (.ireturn, 1) := by decide +kernel
theorem dX5_hasCell_0 : decode cX5_hasCell 0 = .ok (.iload_n 1, 1) := by decide +kernel
theorem dX5_hasCell_1 : decode cX5_hasCell 1 = .ok (.ifCond .lt 27, 3) := by decide +kernel
theorem dX5_hasCell_4 : decode cX5_hasCell 4 = .ok (.iload_n 1, 1) := by decide +kernel
theorem dX5_hasCell_5 : decode cX5_hasCell 5 = .ok (.aload_n 0, 1) := by decide +kernel
theorem dX5_hasCell_6 : decode cX5_hasCell 6 = .ok (.getfield 9, 3) := by decide +kernel
theorem dX5_hasCell_9 : decode cX5_hasCell 9 = .ok (.if_icmp .ge 19, 3) := by decide +kernel
theorem dX5_hasCell_12 : decode cX5_hasCell 12 = .ok (.iload_n 2, 1) := by decide +kernel
theorem dX5_hasCell_13 : decode cX5_hasCell 13 = .ok (.ifCond .lt 15, 3) := by decide +kernel
theorem dX5_hasCell_16 : decode cX5_hasCell 16 = .ok (.iload_n 2, 1) := by decide +kernel
theorem dX5_hasCell_17 : decode cX5_hasCell 17 = .ok (.aload_n 0, 1) := by decide +kernel
theorem dX5_hasCell_18 : decode cX5_hasCell 18 = .ok (.getfield 15, 3) := by decide +kernel
theorem dX5_hasCell_21 : decode cX5_hasCell 21 = .ok (.if_icmp .ge 7, 3) := by decide +kernel
theorem dX5_hasCell_24 : decode cX5_hasCell 24 = .ok (.iconst 1, 1) := by decide +kernel
theorem dX5_hasCell_25 : decode cX5_hasCell 25 = .ok (.goto 4, 3) := by decide +kernel
theorem dX5_hasCell_28 : decode cX5_hasCell 28 = .ok (.iconst 0, 1) := by decide +kernel
theorem dX5_hasCell_29 : decode cX5_hasCell 29 = .ok (.ireturn, 1) := by decide +kernel
theorem dX5_numbersOf_0 : decode cX5_numbersOf 0 = .ok (.iload_n 1, 1) := by decide +kernel
theorem dX5_numbersOf_1 : decode cX5_numbersOf 1 = .ok (.ifCond .ne 10, 3) := by decide +kernel
theorem dX5_numbersOf_4 : decode cX5_numbersOf 4 = .ok (.aload_n 0, 1) := by decide +kernel
theorem dX5_numbersOf_5 : decode cX5_numbersOf 5 = .ok (.getfield 9, 3) := by decide +kernel
theorem dX5_numbersOf_8 : decode cX5_numbersOf 8 = .ok (.goto 7, 3) := by decide +kernel
theorem dX5_numbersOf_11 : decode cX5_numbersOf 11 = .ok (.aload_n 0, 1) := by decide +kernel
theorem dX5_numbersOf_12 : decode cX5_numbersOf 12 = .ok (.getfield 15, 3) := by decide +kernel
theorem dX5_numbersOf_15 : decode cX5_numbersOf 15 = .ok (.ireturn, 1) := by decide +kernel
theorem dX5_numberIn_0 : decode cX5_numberIn 0 = .ok (.iload_n 1, 1) := by decide +kernel
theorem dX5_numberIn_1 : decode cX5_numberIn 1 = .ok (.ifCond .ne 12, 3) := by decide +kernel
theorem dX5_numberIn_4 : decode cX5_numberIn 4 = .ok (.aload_n 0, 1) := by decide +kernel
theorem dX5_numberIn_5 : decode cX5_numberIn 5 = .ok (.getfield 21, 3) := by decide +kernel
theorem dX5_numberIn_8 : decode cX5_numberIn 8 = .ok (.iload_n 2, 1) := by decide +kernel
theorem dX5_numberIn_9 : decode cX5_numberIn 9 = .ok (.iaload, 1) := by decide +kernel
theorem dX5_numberIn_10 : decode cX5_numberIn 10 = .ok (.goto 9, 3) := by decide +kernel
theorem dX5_numberIn_13 : decode cX5_numberIn 13 = .ok (.aload_n 0, 1) := by decide +kernel
theorem dX5_numberIn_14 : decode cX5_numberIn 14 = .ok (.getfield 25, 3) := by decide +kernel
theorem dX5_numberIn_17 : decode cX5_numberIn 17 = .ok (.iload_n 2, 1) := by decide +kernel
theorem dX5_numberIn_18 : decode cX5_numberIn 18 = .ok (.iaload, 1) := by decide +kernel
theorem dX5_numberIn_19 : decode cX5_numberIn 19 = .ok (.ireturn, 1) := by decide +kernel
theorem dX5_shadeIn_0 : decode cX5_shadeIn 0 = .ok (.iconst 0, 1) := by decide +kernel
theorem dX5_shadeIn_1 : decode cX5_shadeIn 1 = .ok (.istore_n 3, 1) := by decide +kernel
theorem dX5_shadeIn_2 : decode cX5_shadeIn 2 = .ok (.iload_n 3, 1) := by decide +kernel
theorem dX5_shadeIn_3 : decode cX5_shadeIn 3 = .ok (.aload_n 0, 1) := by decide +kernel
theorem dX5_shadeIn_4 : decode cX5_shadeIn 4 = .ok (.getfield 31, 3) := by decide +kernel
theorem dX5_shadeIn_7 : decode cX5_shadeIn 7 = .ok (.if_icmp .ge 31, 3) := by decide +kernel
theorem dX5_shadeIn_10 : decode cX5_shadeIn 10 = .ok (.aload_n 0, 1) := by decide +kernel
theorem dX5_shadeIn_11 : decode cX5_shadeIn 11 = .ok (.getfield 21, 3) := by decide +kernel
theorem dX5_shadeIn_14 : decode cX5_shadeIn 14 = .ok (.iload_n 3, 1) := by decide +kernel
theorem dX5_shadeIn_15 : decode cX5_shadeIn 15 = .ok (.iaload, 1) := by decide +kernel
theorem dX5_shadeIn_16 : decode cX5_shadeIn 16 = .ok (.iload_n 1, 1) := by decide +kernel
theorem dX5_shadeIn_17 : decode cX5_shadeIn 17 = .ok (.if_icmp .ne 15, 3) := by decide +kernel
theorem dX5_shadeIn_20 : decode cX5_shadeIn 20 = .ok (.aload_n 0, 1) := by decide +kernel
theorem dX5_shadeIn_21 : decode cX5_shadeIn 21 = .ok (.getfield 25, 3) := by decide +kernel
theorem dX5_shadeIn_24 : decode cX5_shadeIn 24 = .ok (.iload_n 3, 1) := by decide +kernel
theorem dX5_shadeIn_25 : decode cX5_shadeIn 25 = .ok (.iaload, 1) := by decide +kernel
theorem dX5_shadeIn_26 : decode cX5_shadeIn 26 = .ok (.iload_n 2, 1) := by decide +kernel
theorem dX5_shadeIn_27 : decode cX5_shadeIn 27 = .ok (.if_icmp .ne 5, 3) := by decide +kernel
theorem dX5_shadeIn_30 : decode cX5_shadeIn 30 = .ok (.iload_n 3, 1) := by decide +kernel
theorem dX5_shadeIn_31 : decode cX5_shadeIn 31 = .ok (.ireturn, 1) := by decide +kernel
theorem dX5_shadeIn_32 : decode cX5_shadeIn 32 = .ok (.iinc 3 1, 3) := by decide +kernel
theorem dX5_shadeIn_35 : decode cX5_shadeIn 35 = .ok (.goto (-33), 3) := by decide +kernel
theorem dX5_shadeIn_38 : decode cX5_shadeIn 38 = .ok (.bipush (-9), 2) := by decide +kernel
theorem dX5_shadeIn_40 : decode cX5_shadeIn 40 = .ok (.ireturn, 1) := by decide +kernel
theorem dX5_shadesInRow_0 : decode cX5_shadesInRow 0 = .ok (.iconst 0, 1) := by decide +kernel
theorem dX5_shadesInRow_1 : decode cX5_shadesInRow 1 = .ok (.istore_n 2, 1) := by decide +kernel
theorem dX5_shadesInRow_2 : decode cX5_shadesInRow 2 = .ok (.iconst 0, 1) := by decide +kernel
theorem dX5_shadesInRow_3 : decode cX5_shadesInRow 3 = .ok (.istore_n 3, 1) := by decide +kernel
theorem dX5_shadesInRow_4 : decode cX5_shadesInRow 4 = .ok (.iload_n 3, 1) := by decide +kernel
theorem dX5_shadesInRow_5 : decode cX5_shadesInRow 5 = .ok (.aload_n 0, 1) := by decide +kernel
theorem dX5_shadesInRow_6 : decode cX5_shadesInRow 6 = .ok (.getfield 31, 3) := by decide +kernel
theorem dX5_shadesInRow_9 : decode cX5_shadesInRow 9 = .ok (.if_icmp .ge 22, 3) := by decide +kernel
theorem dX5_shadesInRow_12 : decode cX5_shadesInRow 12 = .ok (.aload_n 0, 1) := by decide +kernel
theorem dX5_shadesInRow_13 : decode cX5_shadesInRow 13 = .ok (.getfield 21, 3) := by decide +kernel
theorem dX5_shadesInRow_16 : decode cX5_shadesInRow 16 = .ok (.iload_n 3, 1) := by decide +kernel
theorem dX5_shadesInRow_17 : decode cX5_shadesInRow 17 = .ok (.iaload, 1) := by decide +kernel
theorem dX5_shadesInRow_18 : decode cX5_shadesInRow 18 = .ok (.iload_n 1, 1) := by decide +kernel
theorem dX5_shadesInRow_19 : decode cX5_shadesInRow 19 = .ok (.if_icmp .ne 6, 3) := by decide +kernel
theorem dX5_shadesInRow_22 : decode cX5_shadesInRow 22 = .ok (.iinc 2 1, 3) := by decide +kernel
theorem dX5_shadesInRow_25 : decode cX5_shadesInRow 25 = .ok (.iinc 3 1, 3) := by decide +kernel
theorem dX5_shadesInRow_28 : decode cX5_shadesInRow 28 = .ok (.goto (-24), 3) := by decide +kernel
theorem dX5_shadesInRow_31 : decode cX5_shadesInRow 31 = .ok (.iload_n 2, 1) := by decide +kernel
theorem dX5_shadesInRow_32 : decode cX5_shadesInRow 32 = .ok (.ireturn, 1) := by decide +kernel
theorem dX5_timesPainted_0 : decode cX5_timesPainted 0 = .ok (.iconst 0, 1) := by decide +kernel
theorem dX5_timesPainted_1 : decode cX5_timesPainted 1 = .ok (.istore_n 2, 1) := by decide +kernel
theorem dX5_timesPainted_2 : decode cX5_timesPainted 2 = .ok (.iconst 0, 1) := by decide +kernel
theorem dX5_timesPainted_3 : decode cX5_timesPainted 3 = .ok (.istore_n 3, 1) := by decide +kernel
theorem dX5_timesPainted_4 : decode cX5_timesPainted 4 = .ok (.iload_n 3, 1) := by decide +kernel
theorem dX5_timesPainted_5 : decode cX5_timesPainted 5 = .ok (.bipush 16, 2) := by decide +kernel
theorem dX5_timesPainted_7 : decode cX5_timesPainted 7 = .ok (.if_icmp .ge 22, 3) := by decide +kernel
theorem dX5_timesPainted_10 : decode cX5_timesPainted 10 = .ok (.aload_n 0, 1) := by decide +kernel
theorem dX5_timesPainted_11 : decode cX5_timesPainted 11 = .ok (.getfield 28, 3) := by decide +kernel
theorem dX5_timesPainted_14 : decode cX5_timesPainted 14 = .ok (.iload_n 3, 1) := by decide +kernel
theorem dX5_timesPainted_15 : decode cX5_timesPainted 15 = .ok (.iaload, 1) := by decide +kernel
theorem dX5_timesPainted_16 : decode cX5_timesPainted 16 = .ok (.iload_n 1, 1) := by decide +kernel
theorem dX5_timesPainted_17 : decode cX5_timesPainted 17 = .ok (.if_icmp .ne 6, 3) := by decide +kernel
theorem dX5_timesPainted_20 : decode cX5_timesPainted 20 = .ok (.iinc 2 1, 3) := by decide +kernel
theorem dX5_timesPainted_23 : decode cX5_timesPainted 23 = .ok (.iinc 3 1, 3) := by decide +kernel
theorem dX5_timesPainted_26 : decode cX5_timesPainted 26 = .ok (.goto (-22), 3) := by decide +kernel
theorem dX5_timesPainted_29 : decode cX5_timesPainted 29 = .ok (.iload_n 2, 1) := by decide +kernel
theorem dX5_timesPainted_30 : decode cX5_timesPainted 30 = .ok (.ireturn, 1) := by decide +kernel
theorem dX5_put_0 : decode cX5_put 0 = .ok (.aload_n 0, 1) := by decide +kernel
theorem dX5_put_1 : decode cX5_put 1 = .ok (.iload_n 1, 1) := by decide +kernel
theorem dX5_put_2 : decode cX5_put 2 = .ok (.invokevirtual 61, 3) := by decide +kernel
theorem dX5_put_5 : decode cX5_put 5 = .ok (.ifCond .eq 17, 3) := by decide +kernel
theorem dX5_put_8 : decode cX5_put 8 = .ok (.aload_n 0, 1) := by decide +kernel
theorem dX5_put_9 : decode cX5_put 9 = .ok (.getfield 21, 3) := by decide +kernel
theorem dX5_put_12 : decode cX5_put 12 = .ok (.iload_n 1, 1) := by decide +kernel
theorem dX5_put_13 : decode cX5_put 13 = .ok (.iload_n 2, 1) := by decide +kernel
theorem dX5_put_14 : decode cX5_put 14 = .ok (.iastore, 1) := by decide +kernel
theorem dX5_put_15 : decode cX5_put 15 = .ok (.aload_n 0, 1) := by decide +kernel
theorem dX5_put_16 : decode cX5_put 16 = .ok (.getfield 25, 3) := by decide +kernel
theorem dX5_put_19 : decode cX5_put 19 = .ok (.iload_n 1, 1) := by decide +kernel
theorem dX5_put_20 : decode cX5_put 20 = .ok (.iload_n 3, 1) := by decide +kernel
theorem dX5_put_21 : decode cX5_put 21 = .ok (.iastore, 1) := by decide +kernel
theorem dX5_put_22 : decode cX5_put 22 = .ok (.return_, 1) := by decide +kernel
theorem dX5_swap_0 : decode cX5_swap 0 = .ok (.aload_n 0, 1) := by decide +kernel
theorem dX5_swap_1 : decode cX5_swap 1 = .ok (.iload_n 1, 1) := by decide +kernel
theorem dX5_swap_2 : decode cX5_swap 2 = .ok (.invokevirtual 61, 3) := by decide +kernel
theorem dX5_swap_5 : decode cX5_swap 5 = .ok (.ifCond .eq 51, 3) := by decide +kernel
theorem dX5_swap_8 : decode cX5_swap 8 = .ok (.aload_n 0, 1) := by decide +kernel
theorem dX5_swap_9 : decode cX5_swap 9 = .ok (.iload_n 2, 1) := by decide +kernel
theorem dX5_swap_10 : decode cX5_swap 10 = .ok (.invokevirtual 61, 3) := by decide +kernel
theorem dX5_swap_13 : decode cX5_swap 13 = .ok (.ifCond .eq 43, 3) := by decide +kernel
theorem dX5_swap_16 : decode cX5_swap 16 = .ok (.aload_n 0, 1) := by decide +kernel
theorem dX5_swap_17 : decode cX5_swap 17 = .ok (.getfield 21, 3) := by decide +kernel
theorem dX5_swap_20 : decode cX5_swap 20 = .ok (.iload_n 1, 1) := by decide +kernel
theorem dX5_swap_21 : decode cX5_swap 21 = .ok (.iaload, 1) := by decide +kernel
theorem dX5_swap_22 : decode cX5_swap 22 = .ok (.istore_n 3, 1) := by decide +kernel
theorem dX5_swap_23 : decode cX5_swap 23 = .ok (.aload_n 0, 1) := by decide +kernel
theorem dX5_swap_24 : decode cX5_swap 24 = .ok (.getfield 25, 3) := by decide +kernel
theorem dX5_swap_27 : decode cX5_swap 27 = .ok (.iload_n 1, 1) := by decide +kernel
theorem dX5_swap_28 : decode cX5_swap 28 = .ok (.iaload, 1) := by decide +kernel
theorem dX5_swap_29 : decode cX5_swap 29 = .ok (.istore 4, 2) := by decide +kernel
theorem dX5_swap_31 : decode cX5_swap 31 = .ok (.aload_n 0, 1) := by decide +kernel
theorem dX5_swap_32 : decode cX5_swap 32 = .ok (.iload_n 1, 1) := by decide +kernel
theorem dX5_swap_33 : decode cX5_swap 33 = .ok (.aload_n 0, 1) := by decide +kernel
theorem dX5_swap_34 : decode cX5_swap 34 = .ok (.getfield 21, 3) := by decide +kernel
theorem dX5_swap_37 : decode cX5_swap 37 = .ok (.iload_n 2, 1) := by decide +kernel
theorem dX5_swap_38 : decode cX5_swap 38 = .ok (.iaload, 1) := by decide +kernel
theorem dX5_swap_39 : decode cX5_swap 39 = .ok (.aload_n 0, 1) := by decide +kernel
theorem dX5_swap_40 : decode cX5_swap 40 = .ok (.getfield 25, 3) := by decide +kernel
theorem dX5_swap_43 : decode cX5_swap 43 = .ok (.iload_n 2, 1) := by decide +kernel
theorem dX5_swap_44 : decode cX5_swap 44 = .ok (.iaload, 1) := by decide +kernel
theorem dX5_swap_45 : decode cX5_swap 45 = .ok (.invokevirtual 65, 3) := by decide +kernel
theorem dX5_swap_48 : decode cX5_swap 48 = .ok (.aload_n 0, 1) := by decide +kernel
theorem dX5_swap_49 : decode cX5_swap 49 = .ok (.iload_n 2, 1) := by decide +kernel
theorem dX5_swap_50 : decode cX5_swap 50 = .ok (.iload_n 3, 1) := by decide +kernel
theorem dX5_swap_51 : decode cX5_swap 51 = .ok (.iload 4, 2) := by decide +kernel
theorem dX5_swap_53 : decode cX5_swap 53 = .ok (.invokevirtual 65, 3) := by decide +kernel
theorem dX5_swap_56 : decode cX5_swap 56 = .ok (.return_, 1) := by decide +kernel
theorem dX5_cellsWithin_0 : decode cX5_cellsWithin 0 = .ok (.iconst 0, 1) := by decide +kernel
theorem dX5_cellsWithin_1 : decode cX5_cellsWithin 1 = .ok (.istore_n 2, 1) := by decide +kernel
theorem dX5_cellsWithin_2 : decode cX5_cellsWithin 2 = .ok (.iconst 0, 1) := by decide +kernel
theorem dX5_cellsWithin_3 : decode cX5_cellsWithin 3 = .ok (.istore_n 3, 1) := by decide +kernel
theorem dX5_cellsWithin_4 : decode cX5_cellsWithin 4 = .ok (.iload_n 3, 1) := by decide +kernel
theorem dX5_cellsWithin_5 : decode cX5_cellsWithin 5 = .ok (.aload_n 0, 1) := by decide +kernel
theorem dX5_cellsWithin_6 : decode cX5_cellsWithin 6 = .ok (.getfield 9, 3) := by decide +kernel
theorem dX5_cellsWithin_9 : decode cX5_cellsWithin 9 = .ok (.if_icmp .ge 41, 3) := by decide +kernel
theorem dX5_cellsWithin_12 : decode cX5_cellsWithin 12 = .ok (.iconst 0, 1) := by decide +kernel
theorem dX5_cellsWithin_13 : decode cX5_cellsWithin 13 = .ok (.istore 4, 2) := by decide +kernel
theorem dX5_cellsWithin_15 : decode cX5_cellsWithin 15 = .ok (.iload 4, 2) := by decide +kernel
theorem dX5_cellsWithin_17 : decode cX5_cellsWithin 17 = .ok (.aload_n 0, 1) := by decide +kernel
theorem dX5_cellsWithin_18 : decode cX5_cellsWithin 18 = .ok (.getfield 15, 3) := by decide +kernel
theorem dX5_cellsWithin_21 : decode cX5_cellsWithin 21 = .ok (.if_icmp .ge 23, 3) := by decide +kernel
theorem dX5_cellsWithin_24 : decode cX5_cellsWithin 24 = .ok (.iload_n 3, 1) := by decide +kernel
theorem dX5_cellsWithin_25 : decode cX5_cellsWithin 25 = .ok (.iload 4, 2) := by decide +kernel
theorem dX5_cellsWithin_27 : decode cX5_cellsWithin 27 = .ok (.isub, 1) := by decide +kernel
theorem dX5_cellsWithin_28 : decode cX5_cellsWithin 28 = .ok (.invokestatic 69, 3) := by decide +kernel
theorem dX5_cellsWithin_31 : decode cX5_cellsWithin 31 = .ok (.iload_n 1, 1) := by decide +kernel
theorem dX5_cellsWithin_32 : decode cX5_cellsWithin 32 = .ok (.if_icmp .gt 6, 3) := by decide +kernel
theorem dX5_cellsWithin_35 : decode cX5_cellsWithin 35 = .ok (.iinc 2 1, 3) := by decide +kernel
theorem dX5_cellsWithin_38 : decode cX5_cellsWithin 38 = .ok (.iinc 4 1, 3) := by decide +kernel
theorem dX5_cellsWithin_41 : decode cX5_cellsWithin 41 = .ok (.goto (-26), 3) := by decide +kernel
theorem dX5_cellsWithin_44 : decode cX5_cellsWithin 44 = .ok (.iinc 3 1, 3) := by decide +kernel
theorem dX5_cellsWithin_47 : decode cX5_cellsWithin 47 = .ok (.goto (-43), 3) := by decide +kernel
theorem dX5_cellsWithin_50 : decode cX5_cellsWithin 50 = .ok (.iload_n 2, 1) := by decide +kernel
theorem dX5_cellsWithin_51 : decode cX5_cellsWithin 51 = .ok (.ireturn, 1) := by decide +kernel
theorem dX5_layWithin_0 : decode cX5_layWithin 0 = .ok (.iconst 0, 1) := by decide +kernel
theorem dX5_layWithin_1 : decode cX5_layWithin 1 = .ok (.istore_n 2, 1) := by decide +kernel
theorem dX5_layWithin_2 : decode cX5_layWithin 2 = .ok (.iconst 0, 1) := by decide +kernel
theorem dX5_layWithin_3 : decode cX5_layWithin 3 = .ok (.istore_n 3, 1) := by decide +kernel
theorem dX5_layWithin_4 : decode cX5_layWithin 4 = .ok (.iload_n 3, 1) := by decide +kernel
theorem dX5_layWithin_5 : decode cX5_layWithin 5 = .ok (.aload_n 0, 1) := by decide +kernel
theorem dX5_layWithin_6 : decode cX5_layWithin 6 = .ok (.getfield 9, 3) := by decide +kernel
theorem dX5_layWithin_9 : decode cX5_layWithin 9 = .ok (.aload_n 0, 1) := by decide +kernel
theorem dX5_layWithin_10 : decode cX5_layWithin 10 = .ok (.getfield 15, 3) := by decide +kernel
theorem dX5_layWithin_13 : decode cX5_layWithin 13 = .ok (.iadd, 1) := by decide +kernel
theorem dX5_layWithin_14 : decode cX5_layWithin 14 = .ok (.iconst 2, 1) := by decide +kernel
theorem dX5_layWithin_15 : decode cX5_layWithin 15 = .ok (.isub, 1) := by decide +kernel
theorem dX5_layWithin_16 : decode cX5_layWithin 16 = .ok (.if_icmp .gt 68, 3) := by decide +kernel
theorem dX5_layWithin_19 : decode cX5_layWithin 19 = .ok (.iconst 0, 1) := by decide +kernel
theorem dX5_layWithin_20 : decode cX5_layWithin 20 = .ok (.istore 4, 2) := by decide +kernel
theorem dX5_layWithin_22 : decode cX5_layWithin 22 = .ok (.iload 4, 2) := by decide +kernel
theorem dX5_layWithin_24 : decode cX5_layWithin 24 = .ok (.aload_n 0, 1) := by decide +kernel
theorem dX5_layWithin_25 : decode cX5_layWithin 25 = .ok (.getfield 9, 3) := by decide +kernel
theorem dX5_layWithin_28 : decode cX5_layWithin 28 = .ok (.if_icmp .ge 50, 3) := by decide +kernel
theorem dX5_layWithin_31 : decode cX5_layWithin 31 = .ok (.iload_n 3, 1) := by decide +kernel
theorem dX5_layWithin_32 : decode cX5_layWithin 32 = .ok (.iload 4, 2) := by decide +kernel
theorem dX5_layWithin_34 : decode cX5_layWithin 34 = .ok (.isub, 1) := by decide +kernel
theorem dX5_layWithin_35 : decode cX5_layWithin 35 = .ok (.istore 5, 2) := by decide +kernel
theorem dX5_layWithin_37 : decode cX5_layWithin 37 = .ok (.aload_n 0, 1) := by decide +kernel
theorem dX5_layWithin_38 : decode cX5_layWithin 38 = .ok (.iload 4, 2) := by decide +kernel
theorem dX5_layWithin_40 : decode cX5_layWithin 40 = .ok (.iload 5, 2) := by decide +kernel
theorem dX5_layWithin_42 : decode cX5_layWithin 42 = .ok (.invokevirtual 74, 3) := by decide +kernel
theorem dX5_layWithin_45 : decode cX5_layWithin 45 = .ok (.ifCond .eq 27, 3) := by decide +kernel
theorem dX5_layWithin_48 : decode cX5_layWithin 48 = .ok (.iload 4, 2) := by decide +kernel
theorem dX5_layWithin_50 : decode cX5_layWithin 50 = .ok (.iload 5, 2) := by decide +kernel
theorem dX5_layWithin_52 : decode cX5_layWithin 52 = .ok (.isub, 1) := by decide +kernel
theorem dX5_layWithin_53 : decode cX5_layWithin 53 = .ok (.invokestatic 69, 3) := by decide +kernel
theorem dX5_layWithin_56 : decode cX5_layWithin 56 = .ok (.iload_n 1, 1) := by decide +kernel
theorem dX5_layWithin_57 : decode cX5_layWithin 57 = .ok (.if_icmp .gt 15, 3) := by decide +kernel
theorem dX5_layWithin_60 : decode cX5_layWithin 60 = .ok (.aload_n 0, 1) := by decide +kernel
theorem dX5_layWithin_61 : decode cX5_layWithin 61 = .ok (.iload_n 2, 1) := by decide +kernel
theorem dX5_layWithin_62 : decode cX5_layWithin 62 = .ok (.iload 4, 2) := by decide +kernel
theorem dX5_layWithin_64 : decode cX5_layWithin 64 = .ok (.iload 5, 2) := by decide +kernel
theorem dX5_layWithin_66 : decode cX5_layWithin 66 = .ok (.invokevirtual 65, 3) := by decide +kernel
theorem dX5_layWithin_69 : decode cX5_layWithin 69 = .ok (.iinc 2 1, 3) := by decide +kernel
theorem dX5_layWithin_72 : decode cX5_layWithin 72 = .ok (.iinc 4 1, 3) := by decide +kernel
theorem dX5_layWithin_75 : decode cX5_layWithin 75 = .ok (.goto (-53), 3) := by decide +kernel
theorem dX5_layWithin_78 : decode cX5_layWithin 78 = .ok (.iinc 3 1, 3) := by decide +kernel
theorem dX5_layWithin_81 : decode cX5_layWithin 81 = .ok (.goto (-77), 3) := by decide +kernel
theorem dX5_layWithin_84 : decode cX5_layWithin 84 = .ok (.return_, 1) := by decide +kernel
theorem dX5_loseOrFind_0 : decode cX5_loseOrFind 0 = .ok (.aload_n 0, 1) := by decide +kernel
theorem dX5_loseOrFind_1 : decode cX5_loseOrFind 1 = .ok (.dup, 1) := by decide +kernel
theorem dX5_loseOrFind_2 : decode cX5_loseOrFind 2 = .ok (.getfield 34, 3) := by decide +kernel
theorem dX5_loseOrFind_5 : decode cX5_loseOrFind 5 = .ok (.iconst 1, 1) := by decide +kernel
theorem dX5_loseOrFind_6 : decode cX5_loseOrFind 6 = .ok (.iload_n 1, 1) := by decide +kernel
theorem dX5_loseOrFind_7 : decode cX5_loseOrFind 7 = .ok (.ishl, 1) := by decide +kernel
theorem dX5_loseOrFind_8 : decode cX5_loseOrFind 8 = .ok (.ixor, 1) := by decide +kernel
theorem dX5_loseOrFind_9 : decode cX5_loseOrFind 9 = .ok (.putfield 34, 3) := by decide +kernel
theorem dX5_loseOrFind_12 : decode cX5_loseOrFind 12 = .ok (.return_, 1) := by decide +kernel
theorem dX5_paintBy_0 : decode cX5_paintBy 0 = .ok (.aload_n 0, 1) := by decide +kernel
theorem dX5_paintBy_1 : decode cX5_paintBy 1 = .ok (.getfield 31, 3) := by decide +kernel
theorem dX5_paintBy_4 : decode cX5_paintBy 4 = .ok (.ifCond .le 32, 3) := by decide +kernel
theorem dX5_paintBy_7 : decode cX5_paintBy 7 = .ok (.iload_n 1, 1) := by decide +kernel
theorem dX5_paintBy_8 : decode cX5_paintBy 8 = .ok (.ifCond .lt 28, 3) := by decide +kernel
theorem dX5_paintBy_11 : decode cX5_paintBy 11 = .ok (.aload_n 0, 1) := by decide +kernel
theorem dX5_paintBy_12 : decode cX5_paintBy 12 = .ok (.getfield 28, 3) := by decide +kernel
theorem dX5_paintBy_15 : decode cX5_paintBy 15 = .ok (.iload_n 1, 1) := by decide +kernel
theorem dX5_paintBy_16 : decode cX5_paintBy 16 = .ok (.iconst 4, 1) := by decide +kernel
theorem dX5_paintBy_17 : decode cX5_paintBy 17 = .ok (.idiv, 1) := by decide +kernel
theorem dX5_paintBy_18 : decode cX5_paintBy 18 = .ok (.iconst 4, 1) := by decide +kernel
theorem dX5_paintBy_19 : decode cX5_paintBy 19 = .ok (.irem, 1) := by decide +kernel
theorem dX5_paintBy_20 : decode cX5_paintBy 20 = .ok (.iconst 4, 1) := by decide +kernel
theorem dX5_paintBy_21 : decode cX5_paintBy 21 = .ok (.imul, 1) := by decide +kernel
theorem dX5_paintBy_22 : decode cX5_paintBy 22 = .ok (.iload_n 1, 1) := by decide +kernel
theorem dX5_paintBy_23 : decode cX5_paintBy 23 = .ok (.iconst 4, 1) := by decide +kernel
theorem dX5_paintBy_24 : decode cX5_paintBy 24 = .ok (.irem, 1) := by decide +kernel
theorem dX5_paintBy_25 : decode cX5_paintBy 25 = .ok (.iadd, 1) := by decide +kernel
theorem dX5_paintBy_26 : decode cX5_paintBy 26 = .ok (.iload_n 1, 1) := by decide +kernel
theorem dX5_paintBy_27 : decode cX5_paintBy 27 = .ok (.bipush 16, 2) := by decide +kernel
theorem dX5_paintBy_29 : decode cX5_paintBy 29 = .ok (.idiv, 1) := by decide +kernel
theorem dX5_paintBy_30 : decode cX5_paintBy 30 = .ok (.aload_n 0, 1) := by decide +kernel
theorem dX5_paintBy_31 : decode cX5_paintBy 31 = .ok (.getfield 31, 3) := by decide +kernel
theorem dX5_paintBy_34 : decode cX5_paintBy 34 = .ok (.irem, 1) := by decide +kernel
theorem dX5_paintBy_35 : decode cX5_paintBy 35 = .ok (.iastore, 1) := by decide +kernel
theorem dX5_paintBy_36 : decode cX5_paintBy 36 = .ok (.return_, 1) := by decide +kernel
theorem dX6_init_0 : decode cX6_init 0 = .ok (.aload_n 0, 1) := by decide +kernel
theorem dX6_init_1 : decode cX6_init 1 = .ok (.invokespecial 3, 3) := by decide +kernel
theorem dX6_init_4 : decode cX6_init 4 = .ok (.aload_n 0, 1) := by decide +kernel
theorem dX6_init_5 : decode cX6_init 5 = .ok (.bipush 70, 2) := by decide +kernel
theorem dX6_init_7 : decode cX6_init 7 = .ok (.newarray .int, 2) := by decide +kernel
theorem dX6_init_9 : decode cX6_init 9 = .ok (.putfield 9, 3) := by decide +kernel
theorem dX6_init_12 : decode cX6_init 12 = .ok (.return_, 1) := by decide +kernel
theorem dX6_add_0 : decode cX6_add 0 = .ok (.aload_n 0, 1) := by decide +kernel
theorem dX6_add_1 : decode cX6_add 1 = .ok (.getfield 15, 3) := by decide +kernel
theorem dX6_add_4 : decode cX6_add 4 = .ok (.bipush 70, 2) := by decide +kernel
theorem dX6_add_6 : decode cX6_add 6 = .ok (.if_icmp .lt 5, 3) := by decide +kernel
theorem dX6_add_9 : decode cX6_add 9 = .ok (.iconst 0, 1) := by decide +kernel
theorem dX6_add_10 : decode cX6_add 10 = .ok (.ireturn, 1) := by decide +kernel
theorem dX6_add_11 : decode cX6_add 11 = .ok (.aload_n 0, 1) := by decide +kernel
theorem dX6_add_12 : decode cX6_add 12 = .ok (.getfield 9, 3) := by decide +kernel
theorem dX6_add_15 : decode cX6_add 15 = .ok (.aload_n 0, 1) := by decide +kernel
theorem dX6_add_16 : decode cX6_add 16 = .ok (.getfield 15, 3) := by decide +kernel
theorem dX6_add_19 : decode cX6_add 19 = .ok (.iload_n 1, 1) := by decide +kernel
theorem dX6_add_20 : decode cX6_add 20 = .ok (.iastore, 1) := by decide +kernel
theorem dX6_add_21 : decode cX6_add 21 = .ok (.aload_n 0, 1) := by decide +kernel
theorem dX6_add_22 : decode cX6_add 22 = .ok (.dup, 1) := by decide +kernel
theorem dX6_add_23 : decode cX6_add 23 = .ok (.getfield 15, 3) := by decide +kernel
theorem dX6_add_26 : decode cX6_add 26 = .ok (.iconst 1, 1) := by decide +kernel
theorem dX6_add_27 : decode cX6_add 27 = .ok (.iadd, 1) := by decide +kernel
theorem dX6_add_28 : decode cX6_add 28 = .ok (.putfield 15, 3) := by decide +kernel
theorem dX6_add_31 : decode cX6_add 31 = .ok (.iconst 1, 1) := by decide +kernel
theorem dX6_add_32 : decode cX6_add 32 = .ok (.ireturn, 1) := by decide +kernel
theorem dX6_readInto_0 : decode cX6_readInto 0 = .ok (.aload_n 1, 1) := by decide +kernel
theorem dX6_readInto_1 : decode cX6_readInto 1 = .ok (.invokevirtual 19, 3) := by decide +kernel
theorem dX6_readInto_4 : decode cX6_readInto 4 = .ok (.iconst 0, 1) := by decide +kernel
theorem dX6_readInto_5 : decode cX6_readInto 5 = .ok (.istore_n 2, 1) := by decide +kernel
theorem dX6_readInto_6 : decode cX6_readInto 6 = .ok (.iload_n 2, 1) := by decide +kernel
theorem dX6_readInto_7 : decode cX6_readInto 7 = .ok (.aload_n 0, 1) := by decide +kernel
theorem dX6_readInto_8 : decode cX6_readInto 8 = .ok (.getfield 15, 3) := by decide +kernel
theorem dX6_readInto_11 : decode cX6_readInto 11 = .ok (.if_icmp .ge 25, 3) := by decide +kernel
theorem dX6_readInto_14 : decode cX6_readInto 14 = .ok (.aload_n 1, 1) := by decide +kernel
theorem dX6_readInto_15 : decode cX6_readInto 15 = .ok (.iload_n 2, 1) := by decide +kernel
theorem dX6_readInto_16 : decode cX6_readInto 16 = .ok (.aload_n 0, 1) := by decide +kernel
theorem dX6_readInto_17 : decode cX6_readInto 17 = .ok (.getfield 9, 3) := by decide +kernel
theorem dX6_readInto_20 : decode cX6_readInto 20 = .ok (.iload_n 2, 1) := by decide +kernel
theorem dX6_readInto_21 : decode cX6_readInto 21 = .ok (.iaload, 1) := by decide +kernel
theorem dX6_readInto_22 : decode cX6_readInto 22 = .ok (.invokestatic 24, 3) := by decide +kernel
theorem dX6_readInto_25 : decode cX6_readInto 25 = .ok (.ifCond .ne 5, 3) := by decide +kernel
theorem dX6_readInto_28 : decode cX6_readInto 28 = .ok (.iload_n 2, 1) := by decide +kernel
theorem dX6_readInto_29 : decode cX6_readInto 29 = .ok (.ireturn, 1) := by decide +kernel
theorem dX6_readInto_30 : decode cX6_readInto 30 = .ok (.iinc 2 1, 3) := by decide +kernel
theorem dX6_readInto_33 : decode cX6_readInto 33 = .ok (.goto (-27), 3) := by decide +kernel
theorem dX6_readInto_36 : decode cX6_readInto 36 = .ok (.aload_n 0, 1) := by decide +kernel
theorem dX6_readInto_37 : decode cX6_readInto 37 = .ok (.getfield 15, 3) := by decide +kernel
theorem dX6_readInto_40 : decode cX6_readInto 40 = .ok (.ifCond .le 17, 3) := by decide +kernel
theorem dX6_readInto_43 : decode cX6_readInto 43 = .ok (.aload_n 0, 1) := by decide +kernel
theorem dX6_readInto_44 : decode cX6_readInto 44 = .ok (.getfield 15, 3) := by decide +kernel
theorem dX6_readInto_47 : decode cX6_readInto 47 = .ok (.iconst 3, 1) := by decide +kernel
theorem dX6_readInto_48 : decode cX6_readInto 48 = .ok (.irem, 1) := by decide +kernel
theorem dX6_readInto_49 : decode cX6_readInto 49 = .ok (.ifCond .ne 8, 3) := by decide +kernel
theorem dX6_readInto_52 : decode cX6_readInto 52 = .ok (.bipush (-9), 2) := by decide +kernel
theorem dX6_readInto_54 : decode cX6_readInto 54 = .ok (.goto 7, 3) := by decide +kernel
theorem dX6_readInto_57 : decode cX6_readInto 57 = .ok (.aload_n 0, 1) := by decide +kernel
theorem dX6_readInto_58 : decode cX6_readInto 58 = .ok (.getfield 15, 3) := by decide +kernel
theorem dX6_readInto_61 : decode cX6_readInto 61 = .ok (.ireturn, 1) := by decide +kernel
theorem dX6_takes_0 : decode cX6_takes 0 = .ok (.iload_n 2, 1) := by decide +kernel
theorem dX6_takes_1 : decode cX6_takes 1 = .ok (.bipush 48, 2) := by decide +kernel
theorem dX6_takes_3 : decode cX6_takes 3 = .ok (.isub, 1) := by decide +kernel
theorem dX6_takes_4 : decode cX6_takes 4 = .ok (.istore_n 3, 1) := by decide +kernel
theorem dX6_takes_5 : decode cX6_takes 5 = .ok (.iload_n 1, 1) := by decide +kernel
theorem dX6_takes_6 : decode cX6_takes 6 = .ok (.tableswitch 50 0 2 #[26, 38, 44], 26) := by decide +kernel
theorem dX6_takes_32 : decode cX6_takes 32 = .ok (.iload_n 2, 1) := by decide +kernel
theorem dX6_takes_33 : decode cX6_takes 33 = .ok (.bipush 77, 2) := by decide +kernel
theorem dX6_takes_35 : decode cX6_takes 35 = .ok (.if_icmp .ne 7, 3) := by decide +kernel
theorem dX6_takes_38 : decode cX6_takes 38 = .ok (.iconst 1, 1) := by decide +kernel
theorem dX6_takes_39 : decode cX6_takes 39 = .ok (.goto 4, 3) := by decide +kernel
theorem dX6_takes_42 : decode cX6_takes 42 = .ok (.iconst 0, 1) := by decide +kernel
theorem dX6_takes_43 : decode cX6_takes 43 = .ok (.ireturn, 1) := by decide +kernel
theorem dX6_takes_44 : decode cX6_takes 44 = .ok (.aload_n 0, 1) := by decide +kernel
theorem dX6_takes_45 : decode cX6_takes 45 = .ok (.iload_n 3, 1) := by decide +kernel
theorem dX6_takes_46 : decode cX6_takes 46 = .ok (.invokevirtual 28, 3) := by decide +kernel
theorem dX6_takes_49 : decode cX6_takes 49 = .ok (.ireturn, 1) := by decide +kernel
theorem dX6_takes_50 : decode cX6_takes 50 = .ok (.aload_n 0, 1) := by decide +kernel
theorem dX6_takes_51 : decode cX6_takes 51 = .ok (.iload_n 3, 1) := by decide +kernel
theorem dX6_takes_52 : decode cX6_takes 52 = .ok (.invokevirtual 32, 3) := by decide +kernel
theorem dX6_takes_55 : decode cX6_takes 55 = .ok (.ireturn, 1) := by decide +kernel
theorem dX6_takes_56 : decode cX6_takes 56 = .ok (.iload_n 1, 1) := by decide +kernel
theorem dX6_takes_57 : decode cX6_takes 57 = .ok (.iconst 3, 1) := by decide +kernel
theorem dX6_takes_58 : decode cX6_takes 58 = .ok (.irem, 1) := by decide +kernel
theorem dX6_takes_59 : decode cX6_takes 59 = .ok (.lookupswitch 50 #[(0, 25), (1, 44)], 25) := by decide +kernel
theorem dX6_takes_84 : decode cX6_takes 84 = .ok (.iload_n 2, 1) := by decide +kernel
theorem dX6_takes_85 : decode cX6_takes 85 = .ok (.bipush 105, 2) := by decide +kernel
theorem dX6_takes_87 : decode cX6_takes 87 = .ok (.if_icmp .ne 14, 3) := by decide +kernel
theorem dX6_takes_90 : decode cX6_takes 90 = .ok (.aload_n 0, 1) := by decide +kernel
theorem dX6_takes_91 : decode cX6_takes 91 = .ok (.invokevirtual 35, 3) := by decide +kernel
theorem dX6_takes_94 : decode cX6_takes 94 = .ok (.ifCond .eq 7, 3) := by decide +kernel
theorem dX6_takes_97 : decode cX6_takes 97 = .ok (.iconst 1, 1) := by decide +kernel
theorem dX6_takes_98 : decode cX6_takes 98 = .ok (.goto 4, 3) := by decide +kernel
theorem dX6_takes_101 : decode cX6_takes 101 = .ok (.iconst 0, 1) := by decide +kernel
theorem dX6_takes_102 : decode cX6_takes 102 = .ok (.ireturn, 1) := by decide +kernel
theorem dX6_takes_103 : decode cX6_takes 103 = .ok (.aload_n 0, 1) := by decide +kernel
theorem dX6_takes_104 : decode cX6_takes 104 = .ok (.iload_n 3, 1) := by decide +kernel
theorem dX6_takes_105 : decode cX6_takes 105 = .ok (.invokevirtual 39, 3) := by decide +kernel
theorem dX6_takes_108 : decode cX6_takes 108 = .ok (.ireturn, 1) := by decide +kernel
theorem dX6_takes_109 : decode cX6_takes 109 = .ok (.aload_n 0, 1) := by decide +kernel
theorem dX6_takes_110 : decode cX6_takes 110 = .ok (.iload_n 3, 1) := by decide +kernel
theorem dX6_takes_111 : decode cX6_takes 111 = .ok (.invokevirtual 42, 3) := by decide +kernel
theorem dX6_takes_114 : decode cX6_takes 114 = .ok (.ireturn, 1) := by decide +kernel
theorem dJ6_bitCount_0f7a4_0 : decode cJ6_bitCount_0f7a4 0 = .ok (.iload_n 0, 1) := by decide +kernel
theorem dJ6_bitCount_0f7a4_1 : decode cJ6_bitCount_0f7a4 1 = .ok (.iload_n 0, 1) := by decide +kernel
theorem dJ6_bitCount_0f7a4_2 : decode cJ6_bitCount_0f7a4 2 = .ok (.iconst 1, 1) := by decide +kernel
theorem dJ6_bitCount_0f7a4_3 : decode cJ6_bitCount_0f7a4 3 = .ok (.iushr, 1) := by decide +kernel
theorem dJ6_bitCount_0f7a4_4 : decode cJ6_bitCount_0f7a4 4 = .ok (.ldc_w 265, 3) := by decide +kernel
theorem dJ6_bitCount_0f7a4_7 : decode cJ6_bitCount_0f7a4 7 = .ok (.iand, 1) := by decide +kernel
theorem dJ6_bitCount_0f7a4_8 : decode cJ6_bitCount_0f7a4 8 = .ok (.isub, 1) := by decide +kernel
theorem dJ6_bitCount_0f7a4_9 : decode cJ6_bitCount_0f7a4 9 = .ok (.istore_n 0, 1) := by decide +kernel
theorem dJ6_bitCount_0f7a4_10 : decode cJ6_bitCount_0f7a4 10 = .ok (.iload_n 0, 1) := by decide +kernel
theorem dJ6_bitCount_0f7a4_11 : decode cJ6_bitCount_0f7a4 11 = .ok (.ldc_w 266, 3) := by decide +kernel
theorem dJ6_bitCount_0f7a4_14 : decode cJ6_bitCount_0f7a4 14 = .ok (.iand, 1) := by decide +kernel
theorem dJ6_bitCount_0f7a4_15 : decode cJ6_bitCount_0f7a4 15 = .ok (.iload_n 0, 1) := by decide +kernel
theorem dJ6_bitCount_0f7a4_16 : decode cJ6_bitCount_0f7a4 16 = .ok (.iconst 2, 1) := by decide +kernel
theorem dJ6_bitCount_0f7a4_17 : decode cJ6_bitCount_0f7a4 17 = .ok (.iushr, 1) := by decide +kernel
theorem dJ6_bitCount_0f7a4_18 : decode cJ6_bitCount_0f7a4 18 = .ok (.ldc_w 266, 3) := by decide +kernel
theorem dJ6_bitCount_0f7a4_21 : decode cJ6_bitCount_0f7a4 21 = .ok (.iand, 1) := by decide +kernel
theorem dJ6_bitCount_0f7a4_22 : decode cJ6_bitCount_0f7a4 22 = .ok (.iadd, 1) := by decide +kernel
theorem dJ6_bitCount_0f7a4_23 : decode cJ6_bitCount_0f7a4 23 = .ok (.istore_n 0, 1) := by decide +kernel
theorem dJ6_bitCount_0f7a4_24 : decode cJ6_bitCount_0f7a4 24 = .ok (.iload_n 0, 1) := by decide +kernel
theorem dJ6_bitCount_0f7a4_25 : decode cJ6_bitCount_0f7a4 25 = .ok (.iload_n 0, 1) := by decide +kernel
theorem dJ6_bitCount_0f7a4_26 : decode cJ6_bitCount_0f7a4 26 = .ok (.iconst 4, 1) := by decide +kernel
theorem dJ6_bitCount_0f7a4_27 : decode cJ6_bitCount_0f7a4 27 = .ok (.iushr, 1) := by decide +kernel
theorem dJ6_bitCount_0f7a4_28 : decode cJ6_bitCount_0f7a4 28 = .ok (.iadd, 1) := by decide +kernel
theorem dJ6_bitCount_0f7a4_29 : decode cJ6_bitCount_0f7a4 29 = .ok (.ldc_w 267, 3) := by decide +kernel
theorem dJ6_bitCount_0f7a4_32 : decode cJ6_bitCount_0f7a4 32 = .ok (.iand, 1) := by decide +kernel
theorem dJ6_bitCount_0f7a4_33 : decode cJ6_bitCount_0f7a4 33 = .ok (.istore_n 0, 1) := by decide +kernel
theorem dJ6_bitCount_0f7a4_34 : decode cJ6_bitCount_0f7a4 34 = .ok (.iload_n 0, 1) := by decide +kernel
theorem dJ6_bitCount_0f7a4_35 : decode cJ6_bitCount_0f7a4 35 = .ok (.iload_n 0, 1) := by decide +kernel
theorem dJ6_bitCount_0f7a4_36 : decode cJ6_bitCount_0f7a4 36 = .ok (.bipush 8, 2) := by decide +kernel
theorem dJ6_bitCount_0f7a4_38 : decode cJ6_bitCount_0f7a4 38 = .ok (.iushr, 1) := by decide +kernel
theorem dJ6_bitCount_0f7a4_39 : decode cJ6_bitCount_0f7a4 39 = .ok (.iadd, 1) := by decide +kernel
theorem dJ6_bitCount_0f7a4_40 : decode cJ6_bitCount_0f7a4 40 = .ok (.istore_n 0, 1) := by decide +kernel
theorem dJ6_bitCount_0f7a4_41 : decode cJ6_bitCount_0f7a4 41 = .ok (.iload_n 0, 1) := by decide +kernel
theorem dJ6_bitCount_0f7a4_42 : decode cJ6_bitCount_0f7a4 42 = .ok (.iload_n 0, 1) := by decide +kernel
theorem dJ6_bitCount_0f7a4_43 : decode cJ6_bitCount_0f7a4 43 = .ok (.bipush 16, 2) := by decide +kernel
theorem dJ6_bitCount_0f7a4_45 : decode cJ6_bitCount_0f7a4 45 = .ok (.iushr, 1) := by decide +kernel
theorem dJ6_bitCount_0f7a4_46 : decode cJ6_bitCount_0f7a4 46 = .ok (.iadd, 1) := by decide +kernel
theorem dJ6_bitCount_0f7a4_47 : decode cJ6_bitCount_0f7a4 47 = .ok (.istore_n 0, 1) := by decide +kernel
theorem dJ6_bitCount_0f7a4_48 : decode cJ6_bitCount_0f7a4 48 = .ok (.iload_n 0, 1) := by decide +kernel
theorem dJ6_bitCount_0f7a4_49 : decode cJ6_bitCount_0f7a4 49 = .ok (.bipush 63, 2) := by decide +kernel
theorem dJ6_bitCount_0f7a4_51 : decode cJ6_bitCount_0f7a4 51 = .ok (.iand, 1) := by decide +kernel
theorem dJ6_bitCount_0f7a4_52 : decode cJ6_bitCount_0f7a4 52 = .ok (.ireturn, 1) := by decide +kernel
theorem dJ9_abs_0f7a4_0 : decode cJ9_abs_0f7a4 0 = .ok (.iload_n 0, 1) := by decide +kernel
theorem dJ9_abs_0f7a4_1 : decode cJ9_abs_0f7a4 1 = .ok (.ifCond .ge 8, 3) := by decide +kernel
theorem dJ9_abs_0f7a4_4 : decode cJ9_abs_0f7a4 4 = .ok (.iload_n 0, 1) := by decide +kernel
theorem dJ9_abs_0f7a4_5 : decode cJ9_abs_0f7a4 5 = .ok (.ineg, 1) := by decide +kernel
theorem dJ9_abs_0f7a4_6 : decode cJ9_abs_0f7a4 6 = .ok (.goto 4, 3) := by decide +kernel
theorem dJ9_abs_0f7a4_9 : decode cJ9_abs_0f7a4 9 = .ok (.iload_n 0, 1) := by decide +kernel
theorem dJ9_abs_0f7a4_10 : decode cJ9_abs_0f7a4 10 = .ok (.ireturn, 1) := by decide +kernel
theorem dJ9_max_7cf53_0 : decode cJ9_max_7cf53 0 = .ok (.iload_n 0, 1) := by decide +kernel
theorem dJ9_max_7cf53_1 : decode cJ9_max_7cf53 1 = .ok (.iload_n 1, 1) := by decide +kernel
theorem dJ9_max_7cf53_2 : decode cJ9_max_7cf53 2 = .ok (.if_icmp .lt 7, 3) := by decide +kernel
theorem dJ9_max_7cf53_5 : decode cJ9_max_7cf53 5 = .ok (.iload_n 0, 1) := by decide +kernel
theorem dJ9_max_7cf53_6 : decode cJ9_max_7cf53 6 = .ok (.goto 4, 3) := by decide +kernel
theorem dJ9_max_7cf53_9 : decode cJ9_max_7cf53 9 = .ok (.iload_n 1, 1) := by decide +kernel
theorem dJ9_max_7cf53_10 : decode cJ9_max_7cf53 10 = .ok (.ireturn, 1) := by decide +kernel
theorem dJ7_fill_53178_0 : decode cJ7_fill_53178 0 = .ok (.iconst 0, 1) := by decide +kernel
theorem dJ7_fill_53178_1 : decode cJ7_fill_53178 1 = .ok (.istore_n 2, 1) := by decide +kernel
theorem dJ7_fill_53178_2 : decode cJ7_fill_53178 2 = .ok (.aload_n 0, 1) := by decide +kernel
theorem dJ7_fill_53178_3 : decode cJ7_fill_53178 3 = .ok (.arraylength, 1) := by decide +kernel
theorem dJ7_fill_53178_4 : decode cJ7_fill_53178 4 = .ok (.istore_n 3, 1) := by decide +kernel
theorem dJ7_fill_53178_5 : decode cJ7_fill_53178 5 = .ok (.iload_n 2, 1) := by decide +kernel
theorem dJ7_fill_53178_6 : decode cJ7_fill_53178 6 = .ok (.iload_n 3, 1) := by decide +kernel
theorem dJ7_fill_53178_7 : decode cJ7_fill_53178 7 = .ok (.if_icmp .ge 13, 3) := by decide +kernel
theorem dJ7_fill_53178_10 : decode cJ7_fill_53178 10 = .ok (.aload_n 0, 1) := by decide +kernel
theorem dJ7_fill_53178_11 : decode cJ7_fill_53178 11 = .ok (.iload_n 2, 1) := by decide +kernel
theorem dJ7_fill_53178_12 : decode cJ7_fill_53178 12 = .ok (.iload_n 1, 1) := by decide +kernel
theorem dJ7_fill_53178_13 : decode cJ7_fill_53178 13 = .ok (.iastore, 1) := by decide +kernel
theorem dJ7_fill_53178_14 : decode cJ7_fill_53178 14 = .ok (.iinc 2 1, 3) := by decide +kernel
theorem dJ7_fill_53178_17 : decode cJ7_fill_53178 17 = .ok (.goto (-12), 3) := by decide +kernel
theorem dJ7_fill_53178_20 : decode cJ7_fill_53178 20 = .ok (.return_, 1) := by decide +kernel
