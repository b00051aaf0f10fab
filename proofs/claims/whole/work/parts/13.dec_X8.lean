theorem dX8_init_0 : decode cX8_init 0 = .ok (.aload_n 0, 1) := by decide +kernel
theorem dX8_init_1 : decode cX8_init 1 = .ok (.invokespecial 1, 3) := by decide +kernel
theorem dX8_init_4 : decode cX8_init 4 = .ok (.aload_n 0, 1) := by decide +kernel
theorem dX8_init_5 : decode cX8_init 5 = .ok (.bipush 70, 2) := by decide +kernel
theorem dX8_init_7 : decode cX8_init 7 = .ok (.newarray .int, 2) := by decide +kernel
theorem dX8_init_9 : decode cX8_init 9 = .ok (.putfield 7, 3) := by decide +kernel
theorem dX8_init_12 : decode cX8_init 12 = .ok (.aload_n 0, 1) := by decide +kernel
theorem dX8_init_13 : decode cX8_init 13 = .ok (.bipush 38, 2) := by decide +kernel
theorem dX8_init_15 : decode cX8_init 15 = .ok (.newarray .int, 2) := by decide +kernel
theorem dX8_init_17 : decode cX8_init 17 = .ok (.putfield 13, 3) := by decide +kernel
theorem dX8_init_20 : decode cX8_init 20 = .ok (.aload_n 0, 1) := by decide +kernel
theorem dX8_init_21 : decode cX8_init 21 = .ok (.bipush 38, 2) := by decide +kernel
theorem dX8_init_23 : decode cX8_init 23 = .ok (.newarray .int, 2) := by decide +kernel
theorem dX8_init_25 : decode cX8_init 25 = .ok (.putfield 16, 3) := by decide +kernel
theorem dX8_init_28 : decode cX8_init 28 = .ok (.aload_n 0, 1) := by decide +kernel
theorem dX8_init_29 : decode cX8_init 29 = .ok (.sipush 532, 3) := by decide +kernel
theorem dX8_init_32 : decode cX8_init 32 = .ok (.newarray .int, 2) := by decide +kernel
theorem dX8_init_34 : decode cX8_init 34 = .ok (.putfield 19, 3) := by decide +kernel
theorem dX8_init_37 : decode cX8_init 37 = .ok (.aload_n 0, 1) := by decide +kernel
theorem dX8_init_38 : decode cX8_init 38 = .ok (.bipush 76, 2) := by decide +kernel
theorem dX8_init_40 : decode cX8_init 40 = .ok (.newarray .int, 2) := by decide +kernel
theorem dX8_init_42 : decode cX8_init 42 = .ok (.putfield 22, 3) := by decide +kernel
theorem dX8_init_45 : decode cX8_init 45 = .ok (.aload_n 0, 1) := by decide +kernel
theorem dX8_init_46 : decode cX8_init 46 = .ok (.iconst 2, 1) := by decide +kernel
theorem dX8_init_47 : decode cX8_init 47 = .ok (.newarray .boolean, 2) := by decide +kernel
theorem dX8_init_49 : decode cX8_init 49 = .ok (.putfield 25, 3) := by decide +kernel
theorem dX8_init_52 : decode cX8_init 52 = .ok (.aload_n 0, 1) := by decide +kernel
theorem dX8_init_53 : decode cX8_init 53 = .ok (.bipush 6, 2) := by decide +kernel
theorem dX8_init_55 : decode cX8_init 55 = .ok (.newarray .int, 2) := by decide +kernel
theorem dX8_init_57 : decode cX8_init 57 = .ok (.putfield 29, 3) := by decide +kernel
theorem dX8_init_60 : decode cX8_init 60 = .ok (.aload_n 0, 1) := by decide +kernel
theorem dX8_init_61 : decode cX8_init 61 = .ok (.bipush 6, 2) := by decide +kernel
theorem dX8_init_63 : decode cX8_init 63 = .ok (.newarray .int, 2) := by decide +kernel
theorem dX8_init_65 : decode cX8_init 65 = .ok (.putfield 32, 3) := by decide +kernel
theorem dX8_init_68 : decode cX8_init 68 = .ok (.aload_n 0, 1) := by decide +kernel
theorem dX8_init_69 : decode cX8_init 69 = .ok (.bipush 16, 2) := by decide +kernel
theorem dX8_init_71 : decode cX8_init 71 = .ok (.newarray .int, 2) := by decide +kernel
theorem dX8_init_73 : decode cX8_init 73 = .ok (.putfield 35, 3) := by decide +kernel
theorem dX8_init_76 : decode cX8_init 76 = .ok (.aload_n 0, 1) := by decide +kernel
theorem dX8_init_77 : decode cX8_init 77 = .ok (.iconst 4, 1) := by decide +kernel
theorem dX8_init_78 : decode cX8_init 78 = .ok (.newarray .boolean, 2) := by decide +kernel
theorem dX8_init_80 : decode cX8_init 80 = .ok (.putfield 38, 3) := by decide +kernel
theorem dX8_init_83 : decode cX8_init 83 = .ok (.aload_n 0, 1) := by decide +kernel
theorem dX8_init_84 : decode cX8_init 84 = .ok (.bipush 16, 2) := by decide +kernel
theorem dX8_init_86 : decode cX8_init 86 = .ok (.newarray .int, 2) := by decide +kernel
theorem dX8_init_88 : decode cX8_init 88 = .ok (.putfield 41, 3) := by decide +kernel
theorem dX8_init_91 : decode cX8_init 91 = .ok (.aload_n 0, 1) := by decide +kernel
theorem dX8_init_92 : decode cX8_init 92 = .ok (.bipush 20, 2) := by decide +kernel
theorem dX8_init_94 : decode cX8_init 94 = .ok (.newarray .int, 2) := by decide +kernel
theorem dX8_init_96 : decode cX8_init 96 = .ok (.putfield 44, 3) := by decide +kernel
theorem dX8_init_99 : decode cX8_init 99 = .ok (.aload_n 0, 1) := by decide +kernel
theorem dX8_init_100 : decode cX8_init 100 = .ok (.iconst 1, 1) := by decide +kernel
theorem dX8_init_101 : decode cX8_init 101 = .ok (.putfield 47, 3) := by decide +kernel
theorem dX8_init_104 : decode cX8_init 104 = .ok (.aload_n 0, 1) := by decide +kernel
theorem dX8_init_105 : decode cX8_init 105 = .ok (.iconst 1, 1) := by decide +kernel
theorem dX8_init_106 : decode cX8_init 106 = .ok (.putfield 51, 3) := by decide +kernel
theorem dX8_init_109 : decode cX8_init 109 = .ok (.aload_n 0, 1) := by decide +kernel
theorem dX8_init_110 : decode cX8_init 110 = .ok (.getfield 13, 3) := by decide +kernel
theorem dX8_init_113 : decode cX8_init 113 = .ok (.bipush 36, 2) := by decide +kernel
theorem dX8_init_115 : decode cX8_init 115 = .ok (.iconst 1, 1) := by decide +kernel
theorem dX8_init_116 : decode cX8_init 116 = .ok (.iastore, 1) := by decide +kernel
theorem dX8_init_117 : decode cX8_init 117 = .ok (.return_, 1) := by decide +kernel
theorem dX8_copy_0 : decode cX8_copy 0 = .ok (.iconst 0, 1) := by decide +kernel
theorem dX8_copy_1 : decode cX8_copy 1 = .ok (.istore_n 2, 1) := by decide +kernel
theorem dX8_copy_2 : decode cX8_copy 2 = .ok (.iload_n 2, 1) := by decide +kernel
theorem dX8_copy_3 : decode cX8_copy 3 = .ok (.bipush 38, 2) := by decide +kernel
theorem dX8_copy_5 : decode cX8_copy 5 = .ok (.if_icmp .ge 15, 3) := by decide +kernel
theorem dX8_copy_8 : decode cX8_copy 8 = .ok (.aload_n 1, 1) := by decide +kernel
theorem dX8_copy_9 : decode cX8_copy 9 = .ok (.iload_n 2, 1) := by decide +kernel
theorem dX8_copy_10 : decode cX8_copy 10 = .ok (.aload_n 0, 1) := by decide +kernel
theorem dX8_copy_11 : decode cX8_copy 11 = .ok (.iload_n 2, 1) := by decide +kernel
theorem dX8_copy_12 : decode cX8_copy 12 = .ok (.iaload, 1) := by decide +kernel
theorem dX8_copy_13 : decode cX8_copy 13 = .ok (.iastore, 1) := by decide +kernel
theorem dX8_copy_14 : decode cX8_copy 14 = .ok (.iinc 2 1, 3) := by decide +kernel
theorem dX8_copy_17 : decode cX8_copy 17 = .ok (.goto (-15), 3) := by decide +kernel
theorem dX8_copy_20 : decode cX8_copy 20 = .ok (.return_, 1) := by decide +kernel
theorem dX8_in_0 : decode cX8_in 0 = .ok (.lload_n 0, 1) := by decide +kernel
theorem dX8_in_1 : decode cX8_in 1 = .ok (.lload_n 2, 1) := by decide +kernel
theorem dX8_in_2 : decode cX8_in 2 = .ok (.lcmp, 1) := by decide +kernel
theorem dX8_in_3 : decode cX8_in 3 = .ok (.ifCond .lt 14, 3) := by decide +kernel
theorem dX8_in_6 : decode cX8_in 6 = .ok (.lload_n 0, 1) := by decide +kernel
theorem dX8_in_7 : decode cX8_in 7 = .ok (.lload 4, 2) := by decide +kernel
theorem dX8_in_9 : decode cX8_in 9 = .ok (.lcmp, 1) := by decide +kernel
theorem dX8_in_10 : decode cX8_in 10 = .ok (.ifCond .gt 7, 3) := by decide +kernel
theorem dX8_in_13 : decode cX8_in 13 = .ok (.iconst 1, 1) := by decide +kernel
theorem dX8_in_14 : decode cX8_in 14 = .ok (.goto 4, 3) := by decide +kernel
theorem dX8_in_17 : decode cX8_in 17 = .ok (.iconst 0, 1) := by decide +kernel
theorem dX8_in_18 : decode cX8_in 18 = .ok (.ireturn, 1) := by decide +kernel
theorem dX8_has_0 : decode cX8_has 0 = .ok (.iload_n 0, 1) := by decide +kernel
theorem dX8_has_1 : decode cX8_has 1 = .ok (.iload_n 1, 1) := by decide +kernel
theorem dX8_has_2 : decode cX8_has 2 = .ok (.ishr, 1) := by decide +kernel
theorem dX8_has_3 : decode cX8_has 3 = .ok (.iconst 1, 1) := by decide +kernel
theorem dX8_has_4 : decode cX8_has 4 = .ok (.iand, 1) := by decide +kernel
theorem dX8_has_5 : decode cX8_has 5 = .ok (.iconst 1, 1) := by decide +kernel
theorem dX8_has_6 : decode cX8_has 6 = .ok (.if_icmp .ne 7, 3) := by decide +kernel
theorem dX8_has_9 : decode cX8_has 9 = .ok (.iconst 1, 1) := by decide +kernel
theorem dX8_has_10 : decode cX8_has 10 = .ok (.goto 4, 3) := by decide +kernel
theorem dX8_has_13 : decode cX8_has 13 = .ok (.iconst 0, 1) := by decide +kernel
theorem dX8_has_14 : decode cX8_has 14 = .ok (.ireturn, 1) := by decide +kernel
theorem dX8_ones_0 : decode cX8_ones 0 = .ok (.iconst 0, 1) := by decide +kernel
theorem dX8_ones_1 : decode cX8_ones 1 = .ok (.istore_n 1, 1) := by decide +kernel
theorem dX8_ones_2 : decode cX8_ones 2 = .ok (.iconst 0, 1) := by decide +kernel
theorem dX8_ones_3 : decode cX8_ones 3 = .ok (.istore_n 2, 1) := by decide +kernel
theorem dX8_ones_4 : decode cX8_ones 4 = .ok (.iload_n 2, 1) := by decide +kernel
theorem dX8_ones_5 : decode cX8_ones 5 = .ok (.iconst 4, 1) := by decide +kernel
theorem dX8_ones_6 : decode cX8_ones 6 = .ok (.if_icmp .ge 17, 3) := by decide +kernel
theorem dX8_ones_9 : decode cX8_ones 9 = .ok (.iload_n 1, 1) := by decide +kernel
theorem dX8_ones_10 : decode cX8_ones 10 = .ok (.iload_n 0, 1) := by decide +kernel
theorem dX8_ones_11 : decode cX8_ones 11 = .ok (.iload_n 2, 1) := by decide +kernel
theorem dX8_ones_12 : decode cX8_ones 12 = .ok (.ishr, 1) := by decide +kernel
theorem dX8_ones_13 : decode cX8_ones 13 = .ok (.iconst 1, 1) := by decide +kernel
theorem dX8_ones_14 : decode cX8_ones 14 = .ok (.iand, 1) := by decide +kernel
theorem dX8_ones_15 : decode cX8_ones 15 = .ok (.iadd, 1) := by decide +kernel
theorem dX8_ones_16 : decode cX8_ones 16 = .ok (.istore_n 1, 1) := by decide +kernel
theorem dX8_ones_17 : decode cX8_ones 17 = .ok (.iinc 2 1, 3) := by decide +kernel
theorem dX8_ones_20 : decode cX8_ones 20 = .ok (.goto (-16), 3) := by decide +kernel
theorem dX8_ones_23 : decode cX8_ones 23 = .ok (.iload_n 1, 1) := by decide +kernel
theorem dX8_ones_24 : decode cX8_ones 24 = .ok (.ireturn, 1) := by decide +kernel
theorem dX8_power_0 : decode cX8_power 0 = .ok (.iconst 1, 1) := by decide +kernel
theorem dX8_power_1 : decode cX8_power 1 = .ok (.istore_n 2, 1) := by decide +kernel
theorem dX8_power_2 : decode cX8_power 2 = .ok (.iconst 0, 1) := by decide +kernel
theorem dX8_power_3 : decode cX8_power 3 = .ok (.istore_n 3, 1) := by decide +kernel
theorem dX8_power_4 : decode cX8_power 4 = .ok (.iload_n 3, 1) := by decide +kernel
theorem dX8_power_5 : decode cX8_power 5 = .ok (.iload_n 1, 1) := by decide +kernel
theorem dX8_power_6 : decode cX8_power 6 = .ok (.if_icmp .ge 13, 3) := by decide +kernel
theorem dX8_power_9 : decode cX8_power 9 = .ok (.iload_n 2, 1) := by decide +kernel
theorem dX8_power_10 : decode cX8_power 10 = .ok (.iload_n 0, 1) := by decide +kernel
theorem dX8_power_11 : decode cX8_power 11 = .ok (.imul, 1) := by decide +kernel
theorem dX8_power_12 : decode cX8_power 12 = .ok (.istore_n 2, 1) := by decide +kernel
theorem dX8_power_13 : decode cX8_power 13 = .ok (.iinc 3 1, 3) := by decide +kernel
theorem dX8_power_16 : decode cX8_power 16 = .ok (.goto (-12), 3) := by decide +kernel
theorem dX8_power_19 : decode cX8_power 19 = .ok (.iload_n 2, 1) := by decide +kernel
theorem dX8_power_20 : decode cX8_power 20 = .ok (.ireturn, 1) := by decide +kernel
theorem dX8_factorial_0 : decode cX8_factorial 0 = .ok (.iconst 1, 1) := by decide +kernel
theorem dX8_factorial_1 : decode cX8_factorial 1 = .ok (.istore_n 1, 1) := by decide +kernel
theorem dX8_factorial_2 : decode cX8_factorial 2 = .ok (.iconst 2, 1) := by decide +kernel
theorem dX8_factorial_3 : decode cX8_factorial 3 = .ok (.istore_n 2, 1) := by decide +kernel
theorem dX8_factorial_4 : decode cX8_factorial 4 = .ok (.iload_n 2, 1) := by decide +kernel
theorem dX8_factorial_5 : decode cX8_factorial 5 = .ok (.iload_n 0, 1) := by decide +kernel
theorem dX8_factorial_6 : decode cX8_factorial 6 = .ok (.if_icmp .gt 13, 3) := by decide +kernel
theorem dX8_factorial_9 : decode cX8_factorial 9 = .ok (.iload_n 1, 1) := by decide +kernel
theorem dX8_factorial_10 : decode cX8_factorial 10 = .ok (.iload_n 2, 1) := by decide +kernel
theorem dX8_factorial_11 : decode cX8_factorial 11 = .ok (.imul, 1) := by decide +kernel
theorem dX8_factorial_12 : decode cX8_factorial 12 = .ok (.istore_n 1, 1) := by decide +kernel
theorem dX8_factorial_13 : decode cX8_factorial 13 = .ok (.iinc 2 1, 3) := by decide +kernel
theorem dX8_factorial_16 : decode cX8_factorial 16 = .ok (.goto (-12), 3) := by decide +kernel
theorem dX8_factorial_19 : decode cX8_factorial 19 = .ok (.iload_n 1, 1) := by decide +kernel
theorem dX8_factorial_20 : decode cX8_factorial 20 = .ok (.ireturn, 1) := by decide +kernel
theorem dX8_fraction_0 : decode cX8_fraction 0 = .ok (.iload_n 0, 1) := by decide +kernel
theorem dX8_fraction_1 : decode cX8_fraction 1 = .ok (.ifCond .ge 8, 3) := by decide +kernel
theorem dX8_fraction_4 : decode cX8_fraction 4 = .ok (.iload_n 0, 1) := by decide +kernel
theorem dX8_fraction_5 : decode cX8_fraction 5 = .ok (.ineg, 1) := by decide +kernel
theorem dX8_fraction_6 : decode cX8_fraction 6 = .ok (.goto 4, 3) := by decide +kernel
theorem dX8_fraction_9 : decode cX8_fraction 9 = .ok (.iload_n 0, 1) := by decide +kernel
theorem dX8_fraction_10 : decode cX8_fraction 10 = .ok (.istore_n 3, 1) := by decide +kernel
theorem dX8_fraction_11 : decode cX8_fraction 11 = .ok (.iload_n 1, 1) := by decide +kernel
theorem dX8_fraction_12 : decode cX8_fraction 12 = .ok (.istore 4, 2) := by decide +kernel
theorem dX8_fraction_14 : decode cX8_fraction 14 = .ok (.iload 4, 2) := by decide +kernel
theorem dX8_fraction_16 : decode cX8_fraction 16 = .ok (.ifCond .eq 19, 3) := by decide +kernel
theorem dX8_fraction_19 : decode cX8_fraction 19 = .ok (.iload_n 3, 1) := by decide +kernel
theorem dX8_fraction_20 : decode cX8_fraction 20 = .ok (.iload 4, 2) := by decide +kernel
theorem dX8_fraction_22 : decode cX8_fraction 22 = .ok (.irem, 1) := by decide +kernel
theorem dX8_fraction_23 : decode cX8_fraction 23 = .ok (.istore 5, 2) := by decide +kernel
theorem dX8_fraction_25 : decode cX8_fraction 25 = .ok (.iload 4, 2) := by decide +kernel
theorem dX8_fraction_27 : decode cX8_fraction 27 = .ok (.istore_n 3, 1) := by decide +kernel
theorem dX8_fraction_28 : decode cX8_fraction 28 = .ok (.iload 5, 2) := by decide +kernel
theorem dX8_fraction_30 : decode cX8_fraction 30 = .ok (.istore 4, 2) := by decide +kernel
theorem dX8_fraction_32 : decode cX8_fraction 32 = .ok (.goto (-18), 3) := by decide +kernel
theorem dX8_fraction_35 : decode cX8_fraction 35 = .ok (.iload_n 2, 1) := by decide +kernel
theorem dX8_fraction_36 : decode cX8_fraction 36 = .ok (.ifCond .eq 9, 3) := by decide +kernel
theorem dX8_fraction_39 : decode cX8_fraction 39 = .ok (.iload_n 0, 1) := by decide +kernel
theorem dX8_fraction_40 : decode cX8_fraction 40 = .ok (.iload_n 3, 1) := by decide +kernel
theorem dX8_fraction_41 : decode cX8_fraction 41 = .ok (.idiv, 1) := by decide +kernel
theorem dX8_fraction_42 : decode cX8_fraction 42 = .ok (.goto 6, 3) := by decide +kernel
theorem dX8_fraction_45 : decode cX8_fraction 45 = .ok (.iload_n 1, 1) := by decide +kernel
theorem dX8_fraction_46 : decode cX8_fraction 46 = .ok (.iload_n 3, 1) := by decide +kernel
theorem dX8_fraction_47 : decode cX8_fraction 47 = .ok (.idiv, 1) := by decide +kernel
theorem dX8_fraction_48 : decode cX8_fraction 48 = .ok (.ireturn, 1) := by decide +kernel
theorem dX8_isShade_0 : decode cX8_isShade 0 = .ok (.iload_n 1, 1) := by decide +kernel
theorem dX8_isShade_1 : decode cX8_isShade 1 = .ok (.i2l, 1) := by decide +kernel
theorem dX8_isShade_2 : decode cX8_isShade 2 = .ok (.lconst 0, 1) := by decide +kernel
theorem dX8_isShade_3 : decode cX8_isShade 3 = .ok (.aload_n 0, 1) := by decide +kernel
theorem dX8_isShade_4 : decode cX8_isShade 4 = .ok (.getfield 54, 3) := by decide +kernel
theorem dX8_isShade_7 : decode cX8_isShade 7 = .ok (.iconst 1, 1) := by decide +kernel
theorem dX8_isShade_8 : decode cX8_isShade 8 = .ok (.isub, 1) := by decide +kernel
theorem dX8_isShade_9 : decode cX8_isShade 9 = .ok (.i2l, 1) := by decide +kernel
theorem dX8_isShade_10 : decode cX8_isShade 10 = .ok (.invokestatic 57, 3) := by decide +kernel
theorem dX8_isShade_13 : decode cX8_isShade 13 = .ok (.ireturn, 1) := by decide +kernel
theorem dX8_isFour_0 : decode cX8_isFour 0 = .ok (.iload_n 0, 1) := by decide +kernel
theorem dX8_isFour_1 : decode cX8_isFour 1 = .ok (.i2l, 1) := by decide +kernel
theorem dX8_isFour_2 : decode cX8_isFour 2 = .ok (.lconst 0, 1) := by decide +kernel
theorem dX8_isFour_3 : decode cX8_isFour 3 = .ok (.ldc2_w 61, 3) := by decide +kernel
theorem dX8_isFour_6 : decode cX8_isFour 6 = .ok (.invokestatic 57, 3) := by decide +kernel
theorem dX8_isFour_9 : decode cX8_isFour 9 = .ok (.ireturn, 1) := by decide +kernel
theorem dX8_write_0 : decode cX8_write 0 = .ok (.iload_n 1, 1) := by decide +kernel
theorem dX8_write_1 : decode cX8_write 1 = .ok (.i2l, 1) := by decide +kernel
theorem dX8_write_2 : decode cX8_write 2 = .ok (.lconst 0, 1) := by decide +kernel
theorem dX8_write_3 : decode cX8_write 3 = .ok (.ldc2_w 63, 3) := by decide +kernel
theorem dX8_write_6 : decode cX8_write 6 = .ok (.invokestatic 57, 3) := by decide +kernel
theorem dX8_write_9 : decode cX8_write 9 = .ok (.ifCond .ne 6, 3) := by decide +kernel
theorem dX8_write_12 : decode cX8_write 12 = .ok (.bipush (-2), 2) := by decide +kernel
theorem dX8_write_14 : decode cX8_write 14 = .ok (.ireturn, 1) := by decide +kernel
theorem dX8_write_15 : decode cX8_write 15 = .ok (.aload_n 0, 1) := by decide +kernel
theorem dX8_write_16 : decode cX8_write 16 = .ok (.getfield 65, 3) := by decide +kernel
theorem dX8_write_19 : decode cX8_write 19 = .ok (.bipush 70, 2) := by decide +kernel
theorem dX8_write_21 : decode cX8_write 21 = .ok (.if_icmp .ne 6, 3) := by decide +kernel
theorem dX8_write_24 : decode cX8_write 24 = .ok (.bipush (-4), 2) := by decide +kernel
theorem dX8_write_26 : decode cX8_write 26 = .ok (.ireturn, 1) := by decide +kernel
theorem dX8_write_27 : decode cX8_write 27 = .ok (.aload_n 0, 1) := by decide +kernel
theorem dX8_write_28 : decode cX8_write 28 = .ok (.getfield 7, 3) := by decide +kernel
theorem dX8_write_31 : decode cX8_write 31 = .ok (.aload_n 0, 1) := by decide +kernel
theorem dX8_write_32 : decode cX8_write 32 = .ok (.getfield 65, 3) := by decide +kernel
theorem dX8_write_35 : decode cX8_write 35 = .ok (.iload_n 1, 1) := by decide +kernel
theorem dX8_write_36 : decode cX8_write 36 = .ok (.iastore, 1) := by decide +kernel
theorem dX8_write_37 : decode cX8_write 37 = .ok (.aload_n 0, 1) := by decide +kernel
theorem dX8_write_38 : decode cX8_write 38 = .ok (.dup, 1) := by decide +kernel
theorem dX8_write_39 : decode cX8_write 39 = .ok (.getfield 65, 3) := by decide +kernel
theorem dX8_write_42 : decode cX8_write 42 = .ok (.iconst 1, 1) := by decide +kernel
theorem dX8_write_43 : decode cX8_write 43 = .ok (.iadd, 1) := by decide +kernel
theorem dX8_write_44 : decode cX8_write 44 = .ok (.putfield 65, 3) := by decide +kernel
theorem dX8_write_47 : decode cX8_write 47 = .ok (.aload_n 0, 1) := by decide +kernel
theorem dX8_write_48 : decode cX8_write 48 = .ok (.getfield 65, 3) := by decide +kernel
theorem dX8_write_51 : decode cX8_write 51 = .ok (.ireturn, 1) := by decide +kernel
theorem dX8_wipe_0 : decode cX8_wipe 0 = .ok (.aload_n 0, 1) := by decide +kernel
theorem dX8_wipe_1 : decode cX8_wipe 1 = .ok (.getfield 65, 3) := by decide +kernel
theorem dX8_wipe_4 : decode cX8_wipe 4 = .ok (.istore_n 1, 1) := by decide +kernel
theorem dX8_wipe_5 : decode cX8_wipe 5 = .ok (.aload_n 0, 1) := by decide +kernel
theorem dX8_wipe_6 : decode cX8_wipe 6 = .ok (.iconst 0, 1) := by decide +kernel
theorem dX8_wipe_7 : decode cX8_wipe 7 = .ok (.putfield 65, 3) := by decide +kernel
theorem dX8_wipe_10 : decode cX8_wipe 10 = .ok (.iload_n 1, 1) := by decide +kernel
theorem dX8_wipe_11 : decode cX8_wipe 11 = .ok (.ireturn, 1) := by decide +kernel
theorem dX8_isEmptyAsRead_0 : decode cX8_isEmptyAsRead 0 = .ok (.iconst 1, 1) := by decide +kernel
theorem dX8_isEmptyAsRead_1 : decode cX8_isEmptyAsRead 1 = .ok (.istore_n 2, 1) := by decide +kernel
theorem dX8_isEmptyAsRead_2 : decode cX8_isEmptyAsRead 2 = .ok (.iconst 0, 1) := by decide +kernel
theorem dX8_isEmptyAsRead_3 : decode cX8_isEmptyAsRead 3 = .ok (.istore_n 3, 1) := by decide +kernel
theorem dX8_isEmptyAsRead_4 : decode cX8_isEmptyAsRead 4 = .ok (.iload_n 3, 1) := by decide +kernel
theorem dX8_isEmptyAsRead_5 : decode cX8_isEmptyAsRead 5 = .ok (.aload_n 0, 1) := by decide +kernel
theorem dX8_isEmptyAsRead_6 : decode cX8_isEmptyAsRead 6 = .ok (.getfield 68, 3) := by decide +kernel
theorem dX8_isEmptyAsRead_9 : decode cX8_isEmptyAsRead 9 = .ok (.if_icmp .ge 29, 3) := by decide +kernel
theorem dX8_isEmptyAsRead_12 : decode cX8_isEmptyAsRead 12 = .ok (.iload_n 2, 1) := by decide +kernel
theorem dX8_isEmptyAsRead_13 : decode cX8_isEmptyAsRead 13 = .ok (.ifCond .eq 17, 3) := by decide +kernel
theorem dX8_isEmptyAsRead_16 : decode cX8_isEmptyAsRead 16 = .ok (.aload_n 0, 1) := by decide +kernel
theorem dX8_isEmptyAsRead_17 : decode cX8_isEmptyAsRead 17 = .ok (.getfield 44, 3) := by decide +kernel
theorem dX8_isEmptyAsRead_20 : decode cX8_isEmptyAsRead 20 = .ok (.iload_n 3, 1) := by decide +kernel
theorem dX8_isEmptyAsRead_21 : decode cX8_isEmptyAsRead 21 = .ok (.iaload, 1) := by decide +kernel
theorem dX8_isEmptyAsRead_22 : decode cX8_isEmptyAsRead 22 = .ok (.iload_n 1, 1) := by decide +kernel
theorem dX8_isEmptyAsRead_23 : decode cX8_isEmptyAsRead 23 = .ok (.if_icmp .eq 7, 3) := by decide +kernel
theorem dX8_isEmptyAsRead_26 : decode cX8_isEmptyAsRead 26 = .ok (.iconst 1, 1) := by decide +kernel
theorem dX8_isEmptyAsRead_27 : decode cX8_isEmptyAsRead 27 = .ok (.goto 4, 3) := by decide +kernel
theorem dX8_isEmptyAsRead_30 : decode cX8_isEmptyAsRead 30 = .ok (.iconst 0, 1) := by decide +kernel
theorem dX8_isEmptyAsRead_31 : decode cX8_isEmptyAsRead 31 = .ok (.istore_n 2, 1) := by decide +kernel
theorem dX8_isEmptyAsRead_32 : decode cX8_isEmptyAsRead 32 = .ok (.iinc 3 1, 3) := by decide +kernel
theorem dX8_isEmptyAsRead_35 : decode cX8_isEmptyAsRead 35 = .ok (.goto (-31), 3) := by decide +kernel
theorem dX8_isEmptyAsRead_38 : decode cX8_isEmptyAsRead 38 = .ok (.iload_n 2, 1) := by decide +kernel
theorem dX8_isEmptyAsRead_39 : decode cX8_isEmptyAsRead 39 = .ok (.ireturn, 1) := by decide +kernel
theorem dX8_hasRoomAsRead_0 : decode cX8_hasRoomAsRead 0 = .ok (.iconst 0, 1) := by decide +kernel
theorem dX8_hasRoomAsRead_1 : decode cX8_hasRoomAsRead 1 = .ok (.istore_n 2, 1) := by decide +kernel
theorem dX8_hasRoomAsRead_2 : decode cX8_hasRoomAsRead 2 = .ok (.iconst 0, 1) := by decide +kernel
theorem dX8_hasRoomAsRead_3 : decode cX8_hasRoomAsRead 3 = .ok (.istore_n 3, 1) := by decide +kernel
theorem dX8_hasRoomAsRead_4 : decode cX8_hasRoomAsRead 4 = .ok (.iload_n 3, 1) := by decide +kernel
theorem dX8_hasRoomAsRead_5 : decode cX8_hasRoomAsRead 5 = .ok (.aload_n 0, 1) := by decide +kernel
theorem dX8_hasRoomAsRead_6 : decode cX8_hasRoomAsRead 6 = .ok (.getfield 71, 3) := by decide +kernel
theorem dX8_hasRoomAsRead_9 : decode cX8_hasRoomAsRead 9 = .ok (.if_icmp .ge 32, 3) := by decide +kernel
theorem dX8_hasRoomAsRead_12 : decode cX8_hasRoomAsRead 12 = .ok (.iload_n 2, 1) := by decide +kernel
theorem dX8_hasRoomAsRead_13 : decode cX8_hasRoomAsRead 13 = .ok (.ifCond .ne 16, 3) := by decide +kernel
theorem dX8_hasRoomAsRead_16 : decode cX8_hasRoomAsRead 16 = .ok (.aload_n 0, 1) := by decide +kernel
theorem dX8_hasRoomAsRead_17 : decode cX8_hasRoomAsRead 17 = .ok (.bipush 6, 2) := by decide +kernel
theorem dX8_hasRoomAsRead_19 : decode cX8_hasRoomAsRead 19 = .ok (.iload_n 1, 1) := by decide +kernel
theorem dX8_hasRoomAsRead_20 : decode cX8_hasRoomAsRead 20 = .ok (.imul, 1) := by decide +kernel
theorem dX8_hasRoomAsRead_21 : decode cX8_hasRoomAsRead 21 = .ok (.iload_n 3, 1) := by decide +kernel
theorem dX8_hasRoomAsRead_22 : decode cX8_hasRoomAsRead 22 = .ok (.iadd, 1) := by decide +kernel
theorem dX8_hasRoomAsRead_23 : decode cX8_hasRoomAsRead 23 = .ok (.invokevirtual 74, 3) := by decide +kernel
theorem dX8_hasRoomAsRead_26 : decode cX8_hasRoomAsRead 26 = .ok (.ifCond .eq 7, 3) := by decide +kernel
theorem dX8_hasRoomAsRead_29 : decode cX8_hasRoomAsRead 29 = .ok (.iconst 1, 1) := by decide +kernel
theorem dX8_hasRoomAsRead_30 : decode cX8_hasRoomAsRead 30 = .ok (.goto 4, 3) := by decide +kernel
theorem dX8_hasRoomAsRead_33 : decode cX8_hasRoomAsRead 33 = .ok (.iconst 0, 1) := by decide +kernel
theorem dX8_hasRoomAsRead_34 : decode cX8_hasRoomAsRead 34 = .ok (.istore_n 2, 1) := by decide +kernel
theorem dX8_hasRoomAsRead_35 : decode cX8_hasRoomAsRead 35 = .ok (.iinc 3 1, 3) := by decide +kernel
theorem dX8_hasRoomAsRead_38 : decode cX8_hasRoomAsRead 38 = .ok (.goto (-34), 3) := by decide +kernel
theorem dX8_hasRoomAsRead_41 : decode cX8_hasRoomAsRead 41 = .ok (.iload_n 2, 1) := by decide +kernel
theorem dX8_hasRoomAsRead_42 : decode cX8_hasRoomAsRead 42 = .ok (.ireturn, 1) := by decide +kernel
theorem dX8_take_0 : decode cX8_take 0 = .ok (.iload_n 1, 1) := by decide +kernel
theorem dX8_take_1 : decode cX8_take 1 = .ok (.bipush 48, 2) := by decide +kernel
theorem dX8_take_3 : decode cX8_take 3 = .ok (.isub, 1) := by decide +kernel
theorem dX8_take_4 : decode cX8_take 4 = .ok (.istore_n 2, 1) := by decide +kernel
theorem dX8_take_5 : decode cX8_take 5 = .ok (.aload_n 0, 1) := by decide +kernel
theorem dX8_take_6 : decode cX8_take 6 = .ok (.getfield 78, 3) := by decide +kernel
theorem dX8_take_9 : decode cX8_take 9 = .ok (.tableswitch 180 1 4 #[31, 51, 71, 111], 31) := by decide +kernel
theorem dX8_take_40 : decode cX8_take 40 = .ok (.aload_n 0, 1) := by decide +kernel
theorem dX8_take_41 : decode cX8_take 41 = .ok (.iload_n 2, 1) := by decide +kernel
theorem dX8_take_42 : decode cX8_take 42 = .ok (.putfield 81, 3) := by decide +kernel
theorem dX8_take_45 : decode cX8_take 45 = .ok (.aload_n 0, 1) := by decide +kernel
theorem dX8_take_46 : decode cX8_take 46 = .ok (.iconst 2, 1) := by decide +kernel
theorem dX8_take_47 : decode cX8_take 47 = .ok (.putfield 78, 3) := by decide +kernel
theorem dX8_take_50 : decode cX8_take 50 = .ok (.iload_n 2, 1) := by decide +kernel
theorem dX8_take_51 : decode cX8_take 51 = .ok (.i2l, 1) := by decide +kernel
theorem dX8_take_52 : decode cX8_take 52 = .ok (.lconst 1, 1) := by decide +kernel
theorem dX8_take_53 : decode cX8_take 53 = .ok (.ldc2_w 84, 3) := by decide +kernel
theorem dX8_take_56 : decode cX8_take 56 = .ok (.invokestatic 57, 3) := by decide +kernel
theorem dX8_take_59 : decode cX8_take 59 = .ok (.ireturn, 1) := by decide +kernel
theorem dX8_take_60 : decode cX8_take 60 = .ok (.aload_n 0, 1) := by decide +kernel
theorem dX8_take_61 : decode cX8_take 61 = .ok (.iload_n 2, 1) := by decide +kernel
theorem dX8_take_62 : decode cX8_take 62 = .ok (.putfield 71, 3) := by decide +kernel
theorem dX8_take_65 : decode cX8_take 65 = .ok (.aload_n 0, 1) := by decide +kernel
theorem dX8_take_66 : decode cX8_take 66 = .ok (.iconst 0, 1) := by decide +kernel
theorem dX8_take_67 : decode cX8_take 67 = .ok (.putfield 78, 3) := by decide +kernel
theorem dX8_take_70 : decode cX8_take 70 = .ok (.iload_n 2, 1) := by decide +kernel
theorem dX8_take_71 : decode cX8_take 71 = .ok (.i2l, 1) := by decide +kernel
theorem dX8_take_72 : decode cX8_take 72 = .ok (.lconst 1, 1) := by decide +kernel
theorem dX8_take_73 : decode cX8_take 73 = .ok (.ldc2_w 84, 3) := by decide +kernel
theorem dX8_take_76 : decode cX8_take 76 = .ok (.invokestatic 57, 3) := by decide +kernel
theorem dX8_take_79 : decode cX8_take 79 = .ok (.ireturn, 1) := by decide +kernel
theorem dX8_take_80 : decode cX8_take 80 = .ok (.aload_n 0, 1) := by decide +kernel
theorem dX8_take_81 : decode cX8_take 81 = .ok (.iload_n 2, 1) := by decide +kernel
theorem dX8_take_82 : decode cX8_take 82 = .ok (.putfield 86, 3) := by decide +kernel
theorem dX8_take_85 : decode cX8_take 85 = .ok (.aload_n 0, 1) := by decide +kernel
theorem dX8_take_86 : decode cX8_take 86 = .ok (.iconst 4, 1) := by decide +kernel
theorem dX8_take_87 : decode cX8_take 87 = .ok (.putfield 78, 3) := by decide +kernel
theorem dX8_take_90 : decode cX8_take 90 = .ok (.iload_n 2, 1) := by decide +kernel
theorem dX8_take_91 : decode cX8_take 91 = .ok (.i2l, 1) := by decide +kernel
theorem dX8_take_92 : decode cX8_take 92 = .ok (.lconst 0, 1) := by decide +kernel
theorem dX8_take_93 : decode cX8_take 93 = .ok (.aload_n 0, 1) := by decide +kernel
theorem dX8_take_94 : decode cX8_take 94 = .ok (.getfield 81, 3) := by decide +kernel
theorem dX8_take_97 : decode cX8_take 97 = .ok (.iconst 1, 1) := by decide +kernel
theorem dX8_take_98 : decode cX8_take 98 = .ok (.isub, 1) := by decide +kernel
theorem dX8_take_99 : decode cX8_take 99 = .ok (.i2l, 1) := by decide +kernel
theorem dX8_take_100 : decode cX8_take 100 = .ok (.invokestatic 57, 3) := by decide +kernel
theorem dX8_take_103 : decode cX8_take 103 = .ok (.ifCond .eq 15, 3) := by decide +kernel
theorem dX8_take_106 : decode cX8_take 106 = .ok (.aload_n 0, 1) := by decide +kernel
theorem dX8_take_107 : decode cX8_take 107 = .ok (.iload_n 2, 1) := by decide +kernel
theorem dX8_take_108 : decode cX8_take 108 = .ok (.invokevirtual 89, 3) := by decide +kernel
theorem dX8_take_111 : decode cX8_take 111 = .ok (.ifCond .eq 7, 3) := by decide +kernel
theorem dX8_take_114 : decode cX8_take 114 = .ok (.iconst 1, 1) := by decide +kernel
theorem dX8_take_115 : decode cX8_take 115 = .ok (.goto 4, 3) := by decide +kernel
theorem dX8_take_118 : decode cX8_take 118 = .ok (.iconst 0, 1) := by decide +kernel
theorem dX8_take_119 : decode cX8_take 119 = .ok (.ireturn, 1) := by decide +kernel
theorem dX8_take_120 : decode cX8_take 120 = .ok (.iload_n 2, 1) := by decide +kernel
theorem dX8_take_121 : decode cX8_take 121 = .ok (.i2l, 1) := by decide +kernel
theorem dX8_take_122 : decode cX8_take 122 = .ok (.lconst 0, 1) := by decide +kernel
theorem dX8_take_123 : decode cX8_take 123 = .ok (.aload_n 0, 1) := by decide +kernel
theorem dX8_take_124 : decode cX8_take 124 = .ok (.getfield 71, 3) := by decide +kernel
theorem dX8_take_127 : decode cX8_take 127 = .ok (.iconst 1, 1) := by decide +kernel
theorem dX8_take_128 : decode cX8_take 128 = .ok (.isub, 1) := by decide +kernel
theorem dX8_take_129 : decode cX8_take 129 = .ok (.i2l, 1) := by decide +kernel
theorem dX8_take_130 : decode cX8_take 130 = .ok (.invokestatic 57, 3) := by decide +kernel
theorem dX8_take_133 : decode cX8_take 133 = .ok (.ifCond .eq 19, 3) := by decide +kernel
theorem dX8_take_136 : decode cX8_take 136 = .ok (.aload_n 0, 1) := by decide +kernel
theorem dX8_take_137 : decode cX8_take 137 = .ok (.bipush 6, 2) := by decide +kernel
theorem dX8_take_139 : decode cX8_take 139 = .ok (.aload_n 0, 1) := by decide +kernel
theorem dX8_take_140 : decode cX8_take 140 = .ok (.getfield 86, 3) := by decide +kernel
theorem dX8_take_143 : decode cX8_take 143 = .ok (.imul, 1) := by decide +kernel
theorem dX8_take_144 : decode cX8_take 144 = .ok (.iload_n 2, 1) := by decide +kernel
theorem dX8_take_145 : decode cX8_take 145 = .ok (.iadd, 1) := by decide +kernel
theorem dX8_take_146 : decode cX8_take 146 = .ok (.invokevirtual 74, 3) := by decide +kernel
theorem dX8_take_149 : decode cX8_take 149 = .ok (.ifCond .ne 5, 3) := by decide +kernel
theorem dX8_take_152 : decode cX8_take 152 = .ok (.iconst 0, 1) := by decide +kernel
theorem dX8_take_153 : decode cX8_take 153 = .ok (.ireturn, 1) := by decide +kernel
theorem dX8_take_154 : decode cX8_take 154 = .ok (.aload_n 0, 1) := by decide +kernel
theorem dX8_take_155 : decode cX8_take 155 = .ok (.getfield 44, 3) := by decide +kernel
theorem dX8_take_158 : decode cX8_take 158 = .ok (.aload_n 0, 1) := by decide +kernel
theorem dX8_take_159 : decode cX8_take 159 = .ok (.getfield 68, 3) := by decide +kernel
theorem dX8_take_162 : decode cX8_take 162 = .ok (.bipush 6, 2) := by decide +kernel
theorem dX8_take_164 : decode cX8_take 164 = .ok (.aload_n 0, 1) := by decide +kernel
theorem dX8_take_165 : decode cX8_take 165 = .ok (.getfield 86, 3) := by decide +kernel
theorem dX8_take_168 : decode cX8_take 168 = .ok (.imul, 1) := by decide +kernel
theorem dX8_take_169 : decode cX8_take 169 = .ok (.iload_n 2, 1) := by decide +kernel
theorem dX8_take_170 : decode cX8_take 170 = .ok (.iadd, 1) := by decide +kernel
theorem dX8_take_171 : decode cX8_take 171 = .ok (.iastore, 1) := by decide +kernel
theorem dX8_take_172 : decode cX8_take 172 = .ok (.aload_n 0, 1) := by decide +kernel
theorem dX8_take_173 : decode cX8_take 173 = .ok (.dup, 1) := by decide +kernel
theorem dX8_take_174 : decode cX8_take 174 = .ok (.getfield 68, 3) := by decide +kernel
theorem dX8_take_177 : decode cX8_take 177 = .ok (.iconst 1, 1) := by decide +kernel
theorem dX8_take_178 : decode cX8_take 178 = .ok (.iadd, 1) := by decide +kernel
theorem dX8_take_179 : decode cX8_take 179 = .ok (.putfield 68, 3) := by decide +kernel
theorem dX8_take_182 : decode cX8_take 182 = .ok (.aload_n 0, 1) := by decide +kernel
theorem dX8_take_183 : decode cX8_take 183 = .ok (.iconst 0, 1) := by decide +kernel
theorem dX8_take_184 : decode cX8_take 184 = .ok (.putfield 78, 3) := by decide +kernel
theorem dX8_take_187 : decode cX8_take 187 = .ok (.iconst 1, 1) := by decide +kernel
theorem dX8_take_188 : decode cX8_take 188 = .ok (.ireturn, 1) := by decide +kernel
theorem dX8_take_189 : decode cX8_take 189 = .ok (.aload_n 0, 1) := by decide +kernel
theorem dX8_take_190 : decode cX8_take 190 = .ok (.iconst 3, 1) := by decide +kernel
theorem dX8_take_191 : decode cX8_take 191 = .ok (.putfield 78, 3) := by decide +kernel
theorem dX8_take_194 : decode cX8_take 194 = .ok (.iload_n 1, 1) := by decide +kernel
theorem dX8_take_195 : decode cX8_take 195 = .ok (.bipush 105, 2) := by decide +kernel
theorem dX8_take_197 : decode cX8_take 197 = .ok (.if_icmp .ne 32, 3) := by decide +kernel
theorem dX8_take_200 : decode cX8_take 200 = .ok (.aload_n 0, 1) := by decide +kernel
theorem dX8_take_201 : decode cX8_take 201 = .ok (.getfield 68, 3) := by decide +kernel
theorem dX8_take_204 : decode cX8_take 204 = .ok (.bipush 20, 2) := by decide +kernel
theorem dX8_take_206 : decode cX8_take 206 = .ok (.if_icmp .ge 23, 3) := by decide +kernel
theorem dX8_take_209 : decode cX8_take 209 = .ok (.aload_n 0, 1) := by decide +kernel
theorem dX8_take_210 : decode cX8_take 210 = .ok (.getfield 68, 3) := by decide +kernel
theorem dX8_take_213 : decode cX8_take 213 = .ok (.aload_n 0, 1) := by decide +kernel
theorem dX8_take_214 : decode cX8_take 214 = .ok (.getfield 81, 3) := by decide +kernel
theorem dX8_take_217 : decode cX8_take 217 = .ok (.aload_n 0, 1) := by decide +kernel
theorem dX8_take_218 : decode cX8_take 218 = .ok (.getfield 71, 3) := by decide +kernel
theorem dX8_take_221 : decode cX8_take 221 = .ok (.imul, 1) := by decide +kernel
theorem dX8_take_222 : decode cX8_take 222 = .ok (.if_icmp .ge 7, 3) := by decide +kernel
theorem dX8_take_225 : decode cX8_take 225 = .ok (.iconst 1, 1) := by decide +kernel
theorem dX8_take_226 : decode cX8_take 226 = .ok (.goto 4, 3) := by decide +kernel
theorem dX8_take_229 : decode cX8_take 229 = .ok (.iconst 0, 1) := by decide +kernel
theorem dX8_take_230 : decode cX8_take 230 = .ok (.ireturn, 1) := by decide +kernel
theorem dX8_readText_0 : decode cX8_readText 0 = .ok (.aload_n 0, 1) := by decide +kernel
theorem dX8_readText_1 : decode cX8_readText 1 = .ok (.iconst 0, 1) := by decide +kernel
theorem dX8_readText_2 : decode cX8_readText 2 = .ok (.putfield 68, 3) := by decide +kernel
theorem dX8_readText_5 : decode cX8_readText 5 = .ok (.aload_n 0, 1) := by decide +kernel
theorem dX8_readText_6 : decode cX8_readText 6 = .ok (.iconst 1, 1) := by decide +kernel
theorem dX8_readText_7 : decode cX8_readText 7 = .ok (.putfield 78, 3) := by decide +kernel
theorem dX8_readText_10 : decode cX8_readText 10 = .ok (.aload_n 0, 1) := by decide +kernel
theorem dX8_readText_11 : decode cX8_readText 11 = .ok (.getfield 65, 3) := by decide +kernel
theorem dX8_readText_14 : decode cX8_readText 14 = .ok (.ifCond .eq 14, 3) := by decide +kernel
theorem dX8_readText_17 : decode cX8_readText 17 = .ok (.aload_n 0, 1) := by decide +kernel
theorem dX8_readText_18 : decode cX8_readText 18 = .ok (.getfield 7, 3) := by decide +kernel
theorem dX8_readText_21 : decode cX8_readText 21 = .ok (.iconst 0, 1) := by decide +kernel
theorem dX8_readText_22 : decode cX8_readText 22 = .ok (.iaload, 1) := by decide +kernel
theorem dX8_readText_23 : decode cX8_readText 23 = .ok (.bipush 77, 2) := by decide +kernel
theorem dX8_readText_25 : decode cX8_readText 25 = .ok (.if_icmp .eq 5, 3) := by decide +kernel
theorem dX8_readText_28 : decode cX8_readText 28 = .ok (.iconst 0, 1) := by decide +kernel
theorem dX8_readText_29 : decode cX8_readText 29 = .ok (.ireturn, 1) := by decide +kernel
theorem dX8_readText_30 : decode cX8_readText 30 = .ok (.iconst 1, 1) := by decide +kernel
theorem dX8_readText_31 : decode cX8_readText 31 = .ok (.istore_n 1, 1) := by decide +kernel
theorem dX8_readText_32 : decode cX8_readText 32 = .ok (.iload_n 1, 1) := by decide +kernel
theorem dX8_readText_33 : decode cX8_readText 33 = .ok (.aload_n 0, 1) := by decide +kernel
theorem dX8_readText_34 : decode cX8_readText 34 = .ok (.getfield 65, 3) := by decide +kernel
theorem dX8_readText_37 : decode cX8_readText 37 = .ok (.if_icmp .ge 24, 3) := by decide +kernel
theorem dX8_readText_40 : decode cX8_readText 40 = .ok (.aload_n 0, 1) := by decide +kernel
theorem dX8_readText_41 : decode cX8_readText 41 = .ok (.aload_n 0, 1) := by decide +kernel
theorem dX8_readText_42 : decode cX8_readText 42 = .ok (.getfield 7, 3) := by decide +kernel
theorem dX8_readText_45 : decode cX8_readText 45 = .ok (.iload_n 1, 1) := by decide +kernel
theorem dX8_readText_46 : decode cX8_readText 46 = .ok (.iaload, 1) := by decide +kernel
theorem dX8_readText_47 : decode cX8_readText 47 = .ok (.invokevirtual 92, 3) := by decide +kernel
theorem dX8_readText_50 : decode cX8_readText 50 = .ok (.ifCond .ne 5, 3) := by decide +kernel
theorem dX8_readText_53 : decode cX8_readText 53 = .ok (.iload_n 1, 1) := by decide +kernel
theorem dX8_readText_54 : decode cX8_readText 54 = .ok (.ireturn, 1) := by decide +kernel
theorem dX8_readText_55 : decode cX8_readText 55 = .ok (.iinc 1 1, 3) := by decide +kernel
theorem dX8_readText_58 : decode cX8_readText 58 = .ok (.goto (-26), 3) := by decide +kernel
theorem dX8_readText_61 : decode cX8_readText 61 = .ok (.aload_n 0, 1) := by decide +kernel
theorem dX8_readText_62 : decode cX8_readText 62 = .ok (.getfield 78, 3) := by decide +kernel
theorem dX8_readText_65 : decode cX8_readText 65 = .ok (.ifCond .ne 8, 3) := by decide +kernel
theorem dX8_readText_68 : decode cX8_readText 68 = .ok (.bipush (-9), 2) := by decide +kernel
theorem dX8_readText_70 : decode cX8_readText 70 = .ok (.goto 7, 3) := by decide +kernel
theorem dX8_readText_73 : decode cX8_readText 73 = .ok (.aload_n 0, 1) := by decide +kernel
theorem dX8_readText_74 : decode cX8_readText 74 = .ok (.getfield 65, 3) := by decide +kernel
theorem dX8_readText_77 : decode cX8_readText 77 = .ok (.ireturn, 1) := by decide +kernel
theorem dX8_fault_0 : decode cX8_fault 0 = .ok (.aload_n 0, 1) := by decide +kernel
theorem dX8_fault_1 : decode cX8_fault 1 = .ok (.invokevirtual 95, 3) := by decide +kernel
theorem dX8_fault_4 : decode cX8_fault 4 = .ok (.ireturn, 1) := by decide +kernel
theorem dX8_map_0 : decode cX8_map 0 = .ok (.aload_n 0, 1) := by decide +kernel
theorem dX8_map_1 : decode cX8_map 1 = .ok (.invokevirtual 95, 3) := by decide +kernel
theorem dX8_map_4 : decode cX8_map 4 = .ok (.bipush (-9), 2) := by decide +kernel
theorem dX8_map_6 : decode cX8_map 6 = .ok (.if_icmp .eq 6, 3) := by decide +kernel
theorem dX8_map_9 : decode cX8_map 9 = .ok (.bipush (-3), 2) := by decide +kernel
theorem dX8_map_11 : decode cX8_map 11 = .ok (.ireturn, 1) := by decide +kernel
theorem dX8_map_12 : decode cX8_map 12 = .ok (.iconst 0, 1) := by decide +kernel
theorem dX8_map_13 : decode cX8_map 13 = .ok (.istore_n 1, 1) := by decide +kernel
theorem dX8_map_14 : decode cX8_map 14 = .ok (.iload_n 1, 1) := by decide +kernel
theorem dX8_map_15 : decode cX8_map 15 = .ok (.bipush 38, 2) := by decide +kernel
theorem dX8_map_17 : decode cX8_map 17 = .ok (.if_icmp .ge 16, 3) := by decide +kernel
theorem dX8_map_20 : decode cX8_map 20 = .ok (.aload_n 0, 1) := by decide +kernel
theorem dX8_map_21 : decode cX8_map 21 = .ok (.getfield 13, 3) := by decide +kernel
theorem dX8_map_24 : decode cX8_map 24 = .ok (.iload_n 1, 1) := by decide +kernel
theorem dX8_map_25 : decode cX8_map 25 = .ok (.iconst 0, 1) := by decide +kernel
theorem dX8_map_26 : decode cX8_map 26 = .ok (.iastore, 1) := by decide +kernel
theorem dX8_map_27 : decode cX8_map 27 = .ok (.iinc 1 1, 3) := by decide +kernel
theorem dX8_map_30 : decode cX8_map 30 = .ok (.goto (-16), 3) := by decide +kernel
theorem dX8_map_33 : decode cX8_map 33 = .ok (.aload_n 0, 1) := by decide +kernel
theorem dX8_map_34 : decode cX8_map 34 = .ok (.aload_n 0, 1) := by decide +kernel
theorem dX8_map_35 : decode cX8_map 35 = .ok (.getfield 81, 3) := by decide +kernel
theorem dX8_map_38 : decode cX8_map 38 = .ok (.putfield 47, 3) := by decide +kernel
theorem dX8_map_41 : decode cX8_map 41 = .ok (.aload_n 0, 1) := by decide +kernel
theorem dX8_map_42 : decode cX8_map 42 = .ok (.aload_n 0, 1) := by decide +kernel
theorem dX8_map_43 : decode cX8_map 43 = .ok (.getfield 71, 3) := by decide +kernel
theorem dX8_map_46 : decode cX8_map 46 = .ok (.putfield 51, 3) := by decide +kernel
theorem dX8_map_49 : decode cX8_map 49 = .ok (.aload_n 0, 1) := by decide +kernel
theorem dX8_map_50 : decode cX8_map 50 = .ok (.aload_n 0, 1) := by decide +kernel
theorem dX8_map_51 : decode cX8_map 51 = .ok (.getfield 68, 3) := by decide +kernel
theorem dX8_map_54 : decode cX8_map 54 = .ok (.putfield 54, 3) := by decide +kernel
theorem dX8_map_57 : decode cX8_map 57 = .ok (.iconst 0, 1) := by decide +kernel
theorem dX8_map_58 : decode cX8_map 58 = .ok (.istore_n 1, 1) := by decide +kernel
theorem dX8_map_59 : decode cX8_map 59 = .ok (.iload_n 1, 1) := by decide +kernel
theorem dX8_map_60 : decode cX8_map 60 = .ok (.aload_n 0, 1) := by decide +kernel
theorem dX8_map_61 : decode cX8_map 61 = .ok (.getfield 54, 3) := by decide +kernel
theorem dX8_map_64 : decode cX8_map 64 = .ok (.if_icmp .ge 21, 3) := by decide +kernel
theorem dX8_map_67 : decode cX8_map 67 = .ok (.aload_n 0, 1) := by decide +kernel
theorem dX8_map_68 : decode cX8_map 68 = .ok (.getfield 13, 3) := by decide +kernel
theorem dX8_map_71 : decode cX8_map 71 = .ok (.iload_n 1, 1) := by decide +kernel
theorem dX8_map_72 : decode cX8_map 72 = .ok (.aload_n 0, 1) := by decide +kernel
theorem dX8_map_73 : decode cX8_map 73 = .ok (.getfield 44, 3) := by decide +kernel
theorem dX8_map_76 : decode cX8_map 76 = .ok (.iload_n 1, 1) := by decide +kernel
theorem dX8_map_77 : decode cX8_map 77 = .ok (.iaload, 1) := by decide +kernel
theorem dX8_map_78 : decode cX8_map 78 = .ok (.iastore, 1) := by decide +kernel
theorem dX8_map_79 : decode cX8_map 79 = .ok (.iinc 1 1, 3) := by decide +kernel
theorem dX8_map_82 : decode cX8_map 82 = .ok (.goto (-23), 3) := by decide +kernel
theorem dX8_map_85 : decode cX8_map 85 = .ok (.aload_n 0, 1) := by decide +kernel
theorem dX8_map_86 : decode cX8_map 86 = .ok (.getfield 13, 3) := by decide +kernel
theorem dX8_map_89 : decode cX8_map 89 = .ok (.bipush 36, 2) := by decide +kernel
theorem dX8_map_91 : decode cX8_map 91 = .ok (.iconst 1, 1) := by decide +kernel
theorem dX8_map_92 : decode cX8_map 92 = .ok (.iastore, 1) := by decide +kernel
theorem dX8_map_93 : decode cX8_map 93 = .ok (.aload_n 0, 1) := by decide +kernel
theorem dX8_map_94 : decode cX8_map 94 = .ok (.iconst 0, 1) := by decide +kernel
theorem dX8_map_95 : decode cX8_map 95 = .ok (.putfield 99, 3) := by decide +kernel
theorem dX8_map_98 : decode cX8_map 98 = .ok (.aload_n 0, 1) := by decide +kernel
theorem dX8_map_99 : decode cX8_map 99 = .ok (.getfield 25, 3) := by decide +kernel
theorem dX8_map_102 : decode cX8_map 102 = .ok (.iconst 0, 1) := by decide +kernel
theorem dX8_map_103 : decode cX8_map 103 = .ok (.iconst 0, 1) := by decide +kernel
theorem dX8_map_104 : decode cX8_map 104 = .ok (.bastore, 1) := by decide +kernel
theorem dX8_map_105 : decode cX8_map 105 = .ok (.aload_n 0, 1) := by decide +kernel
theorem dX8_map_106 : decode cX8_map 106 = .ok (.getfield 25, 3) := by decide +kernel
theorem dX8_map_109 : decode cX8_map 109 = .ok (.iconst 1, 1) := by decide +kernel
theorem dX8_map_110 : decode cX8_map 110 = .ok (.iconst 0, 1) := by decide +kernel
theorem dX8_map_111 : decode cX8_map 111 = .ok (.bastore, 1) := by decide +kernel
theorem dX8_map_112 : decode cX8_map 112 = .ok (.aload_n 0, 1) := by decide +kernel
theorem dX8_map_113 : decode cX8_map 113 = .ok (.getfield 54, 3) := by decide +kernel
theorem dX8_map_116 : decode cX8_map 116 = .ok (.ireturn, 1) := by decide +kernel
theorem dX8_lineOf_0 : decode cX8_lineOf 0 = .ok (.iload_n 1, 1) := by decide +kernel
theorem dX8_lineOf_1 : decode cX8_lineOf 1 = .ok (.ifCond .ne 10, 3) := by decide +kernel
theorem dX8_lineOf_4 : decode cX8_lineOf 4 = .ok (.iload_n 0, 1) := by decide +kernel
theorem dX8_lineOf_5 : decode cX8_lineOf 5 = .ok (.bipush 6, 2) := by decide +kernel
theorem dX8_lineOf_7 : decode cX8_lineOf 7 = .ok (.idiv, 1) := by decide +kernel
theorem dX8_lineOf_8 : decode cX8_lineOf 8 = .ok (.goto 7, 3) := by decide +kernel
theorem dX8_lineOf_11 : decode cX8_lineOf 11 = .ok (.iload_n 0, 1) := by decide +kernel
theorem dX8_lineOf_12 : decode cX8_lineOf 12 = .ok (.bipush 6, 2) := by decide +kernel
theorem dX8_lineOf_14 : decode cX8_lineOf 14 = .ok (.irem, 1) := by decide +kernel
theorem dX8_lineOf_15 : decode cX8_lineOf 15 = .ok (.ireturn, 1) := by decide +kernel
theorem dX8_guessOf_0 : decode cX8_guessOf 0 = .ok (.bipush (-9), 2) := by decide +kernel
theorem dX8_guessOf_2 : decode cX8_guessOf 2 = .ok (.istore 4, 2) := by decide +kernel
theorem dX8_guessOf_4 : decode cX8_guessOf 4 = .ok (.iconst 0, 1) := by decide +kernel
theorem dX8_guessOf_5 : decode cX8_guessOf 5 = .ok (.istore 5, 2) := by decide +kernel
theorem dX8_guessOf_7 : decode cX8_guessOf 7 = .ok (.iconst 0, 1) := by decide +kernel
theorem dX8_guessOf_8 : decode cX8_guessOf 8 = .ok (.istore 6, 2) := by decide +kernel
theorem dX8_guessOf_10 : decode cX8_guessOf 10 = .ok (.iload 6, 2) := by decide +kernel
theorem dX8_guessOf_12 : decode cX8_guessOf 12 = .ok (.aload_n 0, 1) := by decide +kernel
theorem dX8_guessOf_13 : decode cX8_guessOf 13 = .ok (.getfield 54, 3) := by decide +kernel
theorem dX8_guessOf_16 : decode cX8_guessOf 16 = .ok (.if_icmp .ge 91, 3) := by decide +kernel
theorem dX8_guessOf_19 : decode cX8_guessOf 19 = .ok (.iconst 0, 1) := by decide +kernel
theorem dX8_guessOf_20 : decode cX8_guessOf 20 = .ok (.istore 7, 2) := by decide +kernel
theorem dX8_guessOf_22 : decode cX8_guessOf 22 = .ok (.iconst 0, 1) := by decide +kernel
theorem dX8_guessOf_23 : decode cX8_guessOf 23 = .ok (.istore 8, 2) := by decide +kernel
theorem dX8_guessOf_25 : decode cX8_guessOf 25 = .ok (.iconst 0, 1) := by decide +kernel
theorem dX8_guessOf_26 : decode cX8_guessOf 26 = .ok (.istore 9, 2) := by decide +kernel
theorem dX8_guessOf_28 : decode cX8_guessOf 28 = .ok (.iload 9, 2) := by decide +kernel
theorem dX8_guessOf_30 : decode cX8_guessOf 30 = .ok (.aload_n 0, 1) := by decide +kernel
theorem dX8_guessOf_31 : decode cX8_guessOf 31 = .ok (.getfield 54, 3) := by decide +kernel
theorem dX8_guessOf_34 : decode cX8_guessOf 34 = .ok (.if_icmp .ge 40, 3) := by decide +kernel
theorem dX8_guessOf_37 : decode cX8_guessOf 37 = .ok (.aload_n 1, 1) := by decide +kernel
theorem dX8_guessOf_38 : decode cX8_guessOf 38 = .ok (.iload 9, 2) := by decide +kernel
theorem dX8_guessOf_40 : decode cX8_guessOf 40 = .ok (.iaload, 1) := by decide +kernel
theorem dX8_guessOf_41 : decode cX8_guessOf 41 = .ok (.iload_n 2, 1) := by decide +kernel
theorem dX8_guessOf_42 : decode cX8_guessOf 42 = .ok (.invokestatic 102, 3) := by decide +kernel
theorem dX8_guessOf_45 : decode cX8_guessOf 45 = .ok (.iload_n 3, 1) := by decide +kernel
theorem dX8_guessOf_46 : decode cX8_guessOf 46 = .ok (.if_icmp .ne 22, 3) := by decide +kernel
theorem dX8_guessOf_49 : decode cX8_guessOf 49 = .ok (.iload 7, 2) := by decide +kernel
theorem dX8_guessOf_51 : decode cX8_guessOf 51 = .ok (.iload 9, 2) := by decide +kernel
theorem dX8_guessOf_53 : decode cX8_guessOf 53 = .ok (.iload 6, 2) := by decide +kernel
theorem dX8_guessOf_55 : decode cX8_guessOf 55 = .ok (.isub, 1) := by decide +kernel
theorem dX8_guessOf_56 : decode cX8_guessOf 56 = .ok (.iload 9, 2) := by decide +kernel
theorem dX8_guessOf_58 : decode cX8_guessOf 58 = .ok (.iload 6, 2) := by decide +kernel
theorem dX8_guessOf_60 : decode cX8_guessOf 60 = .ok (.isub, 1) := by decide +kernel
theorem dX8_guessOf_61 : decode cX8_guessOf 61 = .ok (.imul, 1) := by decide +kernel
theorem dX8_guessOf_62 : decode cX8_guessOf 62 = .ok (.iadd, 1) := by decide +kernel
theorem dX8_guessOf_63 : decode cX8_guessOf 63 = .ok (.istore 7, 2) := by decide +kernel
theorem dX8_guessOf_65 : decode cX8_guessOf 65 = .ok (.iinc 8 1, 3) := by decide +kernel
theorem dX8_guessOf_68 : decode cX8_guessOf 68 = .ok (.iinc 9 1, 3) := by decide +kernel
theorem dX8_guessOf_71 : decode cX8_guessOf 71 = .ok (.goto (-43), 3) := by decide +kernel
theorem dX8_guessOf_74 : decode cX8_guessOf 74 = .ok (.iload 8, 2) := by decide +kernel
theorem dX8_guessOf_76 : decode cX8_guessOf 76 = .ok (.ifCond .le 25, 3) := by decide +kernel
theorem dX8_guessOf_79 : decode cX8_guessOf 79 = .ok (.iload 4, 2) := by decide +kernel
theorem dX8_guessOf_81 : decode cX8_guessOf 81 = .ok (.bipush (-9), 2) := by decide +kernel
theorem dX8_guessOf_83 : decode cX8_guessOf 83 = .ok (.if_icmp .eq 10, 3) := by decide +kernel
theorem dX8_guessOf_86 : decode cX8_guessOf 86 = .ok (.iload 7, 2) := by decide +kernel
theorem dX8_guessOf_88 : decode cX8_guessOf 88 = .ok (.iload 5, 2) := by decide +kernel
theorem dX8_guessOf_90 : decode cX8_guessOf 90 = .ok (.if_icmp .ge 11, 3) := by decide +kernel
theorem dX8_guessOf_93 : decode cX8_guessOf 93 = .ok (.iload 6, 2) := by decide +kernel
theorem dX8_guessOf_95 : decode cX8_guessOf 95 = .ok (.istore 4, 2) := by decide +kernel
theorem dX8_guessOf_97 : decode cX8_guessOf 97 = .ok (.iload 7, 2) := by decide +kernel
theorem dX8_guessOf_99 : decode cX8_guessOf 99 = .ok (.istore 5, 2) := by decide +kernel
theorem dX8_guessOf_101 : decode cX8_guessOf 101 = .ok (.iinc 6 1, 3) := by decide +kernel
theorem dX8_guessOf_104 : decode cX8_guessOf 104 = .ok (.goto (-94), 3) := by decide +kernel
theorem dX8_guessOf_107 : decode cX8_guessOf 107 = .ok (.iload 4, 2) := by decide +kernel
theorem dX8_guessOf_109 : decode cX8_guessOf 109 = .ok (.ireturn, 1) := by decide +kernel
theorem dX8_sideOf_0 : decode cX8_sideOf 0 = .ok (.iconst 0, 1) := by decide +kernel
theorem dX8_sideOf_1 : decode cX8_sideOf 1 = .ok (.istore_n 3, 1) := by decide +kernel
theorem dX8_sideOf_2 : decode cX8_sideOf 2 = .ok (.iconst 0, 1) := by decide +kernel
theorem dX8_sideOf_3 : decode cX8_sideOf 3 = .ok (.istore 4, 2) := by decide +kernel
theorem dX8_sideOf_5 : decode cX8_sideOf 5 = .ok (.iload 4, 2) := by decide +kernel
theorem dX8_sideOf_7 : decode cX8_sideOf 7 = .ok (.bipush 6, 2) := by decide +kernel
theorem dX8_sideOf_9 : decode cX8_sideOf 9 = .ok (.if_icmp .ge 68, 3) := by decide +kernel
theorem dX8_sideOf_12 : decode cX8_sideOf 12 = .ok (.aload_n 0, 1) := by decide +kernel
theorem dX8_sideOf_13 : decode cX8_sideOf 13 = .ok (.aload_n 1, 1) := by decide +kernel
theorem dX8_sideOf_14 : decode cX8_sideOf 14 = .ok (.iload_n 2, 1) := by decide +kernel
theorem dX8_sideOf_15 : decode cX8_sideOf 15 = .ok (.iload 4, 2) := by decide +kernel
theorem dX8_sideOf_17 : decode cX8_sideOf 17 = .ok (.invokevirtual 106, 3) := by decide +kernel
theorem dX8_sideOf_20 : decode cX8_sideOf 20 = .ok (.istore 5, 2) := by decide +kernel
theorem dX8_sideOf_22 : decode cX8_sideOf 22 = .ok (.iconst 0, 1) := by decide +kernel
theorem dX8_sideOf_23 : decode cX8_sideOf 23 = .ok (.istore 6, 2) := by decide +kernel
theorem dX8_sideOf_25 : decode cX8_sideOf 25 = .ok (.iload 6, 2) := by decide +kernel
theorem dX8_sideOf_27 : decode cX8_sideOf 27 = .ok (.aload_n 0, 1) := by decide +kernel
theorem dX8_sideOf_28 : decode cX8_sideOf 28 = .ok (.getfield 54, 3) := by decide +kernel
theorem dX8_sideOf_31 : decode cX8_sideOf 31 = .ok (.if_icmp .ge 40, 3) := by decide +kernel
theorem dX8_sideOf_34 : decode cX8_sideOf 34 = .ok (.iload_n 3, 1) := by decide +kernel
theorem dX8_sideOf_35 : decode cX8_sideOf 35 = .ok (.aload_n 1, 1) := by decide +kernel
theorem dX8_sideOf_36 : decode cX8_sideOf 36 = .ok (.iload 6, 2) := by decide +kernel
theorem dX8_sideOf_38 : decode cX8_sideOf 38 = .ok (.iaload, 1) := by decide +kernel
theorem dX8_sideOf_39 : decode cX8_sideOf 39 = .ok (.iload_n 2, 1) := by decide +kernel
theorem dX8_sideOf_40 : decode cX8_sideOf 40 = .ok (.invokestatic 102, 3) := by decide +kernel
theorem dX8_sideOf_43 : decode cX8_sideOf 43 = .ok (.iload 4, 2) := by decide +kernel
theorem dX8_sideOf_45 : decode cX8_sideOf 45 = .ok (.if_icmp .ne 17, 3) := by decide +kernel
theorem dX8_sideOf_48 : decode cX8_sideOf 48 = .ok (.iload 6, 2) := by decide +kernel
theorem dX8_sideOf_50 : decode cX8_sideOf 50 = .ok (.iload 5, 2) := by decide +kernel
theorem dX8_sideOf_52 : decode cX8_sideOf 52 = .ok (.isub, 1) := by decide +kernel
theorem dX8_sideOf_53 : decode cX8_sideOf 53 = .ok (.iload 6, 2) := by decide +kernel
theorem dX8_sideOf_55 : decode cX8_sideOf 55 = .ok (.iload 5, 2) := by decide +kernel
theorem dX8_sideOf_57 : decode cX8_sideOf 57 = .ok (.isub, 1) := by decide +kernel
theorem dX8_sideOf_58 : decode cX8_sideOf 58 = .ok (.imul, 1) := by decide +kernel
theorem dX8_sideOf_59 : decode cX8_sideOf 59 = .ok (.goto 4, 3) := by decide +kernel
theorem dX8_sideOf_62 : decode cX8_sideOf 62 = .ok (.iconst 0, 1) := by decide +kernel
theorem dX8_sideOf_63 : decode cX8_sideOf 63 = .ok (.iadd, 1) := by decide +kernel
theorem dX8_sideOf_64 : decode cX8_sideOf 64 = .ok (.istore_n 3, 1) := by decide +kernel
theorem dX8_sideOf_65 : decode cX8_sideOf 65 = .ok (.iinc 6 1, 3) := by decide +kernel
theorem dX8_sideOf_68 : decode cX8_sideOf 68 = .ok (.goto (-43), 3) := by decide +kernel
theorem dX8_sideOf_71 : decode cX8_sideOf 71 = .ok (.iinc 4 1, 3) := by decide +kernel
theorem dX8_sideOf_74 : decode cX8_sideOf 74 = .ok (.goto (-69), 3) := by decide +kernel
theorem dX8_sideOf_77 : decode cX8_sideOf 77 = .ok (.iload_n 3, 1) := by decide +kernel
theorem dX8_sideOf_78 : decode cX8_sideOf 78 = .ok (.ireturn, 1) := by decide +kernel
theorem dX8_sides_0 : decode cX8_sides 0 = .ok (.aload_n 0, 1) := by decide +kernel
theorem dX8_sides_1 : decode cX8_sides 1 = .ok (.aload_n 1, 1) := by decide +kernel
theorem dX8_sides_2 : decode cX8_sides 2 = .ok (.iconst 0, 1) := by decide +kernel
theorem dX8_sides_3 : decode cX8_sides 3 = .ok (.invokevirtual 110, 3) := by decide +kernel
theorem dX8_sides_6 : decode cX8_sides 6 = .ok (.aload_n 0, 1) := by decide +kernel
theorem dX8_sides_7 : decode cX8_sides 7 = .ok (.aload_n 1, 1) := by decide +kernel
theorem dX8_sides_8 : decode cX8_sides 8 = .ok (.iconst 1, 1) := by decide +kernel
theorem dX8_sides_9 : decode cX8_sides 9 = .ok (.invokevirtual 110, 3) := by decide +kernel
theorem dX8_sides_12 : decode cX8_sides 12 = .ok (.iadd, 1) := by decide +kernel
theorem dX8_sides_13 : decode cX8_sides 13 = .ok (.ireturn, 1) := by decide +kernel
theorem dX8_comes_0 : decode cX8_comes 0 = .ok (.aload_n 1, 1) := by decide +kernel
theorem dX8_comes_1 : decode cX8_comes 1 = .ok (.bipush 20, 2) := by decide +kernel
theorem dX8_comes_3 : decode cX8_comes 3 = .ok (.iconst 4, 1) := by decide +kernel
theorem dX8_comes_4 : decode cX8_comes 4 = .ok (.iload_n 2, 1) := by decide +kernel
theorem dX8_comes_5 : decode cX8_comes 5 = .ok (.imul, 1) := by decide +kernel
theorem dX8_comes_6 : decode cX8_comes 6 = .ok (.iadd, 1) := by decide +kernel
theorem dX8_comes_7 : decode cX8_comes 7 = .ok (.iload_n 3, 1) := by decide +kernel
theorem dX8_comes_8 : decode cX8_comes 8 = .ok (.iadd, 1) := by decide +kernel
theorem dX8_comes_9 : decode cX8_comes 9 = .ok (.iaload, 1) := by decide +kernel
theorem dX8_comes_10 : decode cX8_comes 10 = .ok (.istore 6, 2) := by decide +kernel
theorem dX8_comes_12 : decode cX8_comes 12 = .ok (.iload 4, 2) := by decide +kernel
theorem dX8_comes_14 : decode cX8_comes 14 = .ok (.ifCond .eq 8, 3) := by decide +kernel
theorem dX8_comes_17 : decode cX8_comes 17 = .ok (.iload 5, 2) := by decide +kernel
theorem dX8_comes_19 : decode cX8_comes 19 = .ok (.ifCond .ne 10, 3) := by decide +kernel
theorem dX8_comes_22 : decode cX8_comes 22 = .ok (.aload_n 0, 1) := by decide +kernel
theorem dX8_comes_23 : decode cX8_comes 23 = .ok (.getfield 54, 3) := by decide +kernel
theorem dX8_comes_26 : decode cX8_comes 26 = .ok (.ifCond .ne 17, 3) := by decide +kernel
theorem dX8_comes_29 : decode cX8_comes 29 = .ok (.aload_n 0, 1) := by decide +kernel
theorem dX8_comes_30 : decode cX8_comes 30 = .ok (.getfield 54, 3) := by decide +kernel
theorem dX8_comes_33 : decode cX8_comes 33 = .ok (.ifCond .ne 7, 3) := by decide +kernel
theorem dX8_comes_36 : decode cX8_comes 36 = .ok (.iconst 0, 1) := by decide +kernel
theorem dX8_comes_37 : decode cX8_comes 37 = .ok (.goto 5, 3) := by decide +kernel
theorem dX8_comes_40 : decode cX8_comes 40 = .ok (.iload 6, 2) := by decide +kernel
theorem dX8_comes_42 : decode cX8_comes 42 = .ok (.ireturn, 1) := by decide +kernel
theorem dX8_comes_43 : decode cX8_comes 43 = .ok (.iload 4, 2) := by decide +kernel
theorem dX8_comes_45 : decode cX8_comes 45 = .ok (.ifCond .eq 7, 3) := by decide +kernel
theorem dX8_comes_48 : decode cX8_comes 48 = .ok (.iconst 0, 1) := by decide +kernel
theorem dX8_comes_49 : decode cX8_comes 49 = .ok (.goto 4, 3) := by decide +kernel
theorem dX8_comes_52 : decode cX8_comes 52 = .ok (.iconst 1, 1) := by decide +kernel
theorem dX8_comes_53 : decode cX8_comes 53 = .ok (.istore 7, 2) := by decide +kernel
theorem dX8_comes_55 : decode cX8_comes 55 = .ok (.aload_n 0, 1) := by decide +kernel
theorem dX8_comes_56 : decode cX8_comes 56 = .ok (.aload_n 1, 1) := by decide +kernel
theorem dX8_comes_57 : decode cX8_comes 57 = .ok (.iload 7, 2) := by decide +kernel
theorem dX8_comes_59 : decode cX8_comes 59 = .ok (.aload_n 1, 1) := by decide +kernel
theorem dX8_comes_60 : decode cX8_comes 60 = .ok (.iload 6, 2) := by decide +kernel
theorem dX8_comes_62 : decode cX8_comes 62 = .ok (.iaload, 1) := by decide +kernel
theorem dX8_comes_63 : decode cX8_comes 63 = .ok (.iload 7, 2) := by decide +kernel
theorem dX8_comes_65 : decode cX8_comes 65 = .ok (.invokestatic 102, 3) := by decide +kernel
theorem dX8_comes_68 : decode cX8_comes 68 = .ok (.invokevirtual 106, 3) := by decide +kernel
theorem dX8_comes_71 : decode cX8_comes 71 = .ok (.ireturn, 1) := by decide +kernel
theorem dX8_fill_0 : decode cX8_fill 0 = .ok (.iload_n 1, 1) := by decide +kernel
theorem dX8_fill_1 : decode cX8_fill 1 = .ok (.iconst 1, 1) := by decide +kernel
theorem dX8_fill_2 : decode cX8_fill 2 = .ok (.isub, 1) := by decide +kernel
theorem dX8_fill_3 : decode cX8_fill 3 = .ok (.istore_n 2, 1) := by decide +kernel
theorem dX8_fill_4 : decode cX8_fill 4 = .ok (.iload_n 2, 1) := by decide +kernel
theorem dX8_fill_5 : decode cX8_fill 5 = .ok (.ifCond .lt 18, 3) := by decide +kernel
theorem dX8_fill_8 : decode cX8_fill 8 = .ok (.aload_n 0, 1) := by decide +kernel
theorem dX8_fill_9 : decode cX8_fill 9 = .ok (.getfield 38, 3) := by decide +kernel
theorem dX8_fill_12 : decode cX8_fill 12 = .ok (.iload_n 2, 1) := by decide +kernel
theorem dX8_fill_13 : decode cX8_fill 13 = .ok (.baload, 1) := by decide +kernel
theorem dX8_fill_14 : decode cX8_fill 14 = .ok (.ifCond .eq 9, 3) := by decide +kernel
theorem dX8_fill_17 : decode cX8_fill 17 = .ok (.iinc 2 (-1), 3) := by decide +kernel
theorem dX8_fill_20 : decode cX8_fill 20 = .ok (.goto (-16), 3) := by decide +kernel
theorem dX8_fill_23 : decode cX8_fill 23 = .ok (.iload_n 1, 1) := by decide +kernel
theorem dX8_fill_24 : decode cX8_fill 24 = .ok (.iconst 1, 1) := by decide +kernel
theorem dX8_fill_25 : decode cX8_fill 25 = .ok (.iadd, 1) := by decide +kernel
theorem dX8_fill_26 : decode cX8_fill 26 = .ok (.istore_n 3, 1) := by decide +kernel
theorem dX8_fill_27 : decode cX8_fill 27 = .ok (.iload_n 3, 1) := by decide +kernel
theorem dX8_fill_28 : decode cX8_fill 28 = .ok (.iconst 4, 1) := by decide +kernel
theorem dX8_fill_29 : decode cX8_fill 29 = .ok (.if_icmp .ge 18, 3) := by decide +kernel
theorem dX8_fill_32 : decode cX8_fill 32 = .ok (.aload_n 0, 1) := by decide +kernel
theorem dX8_fill_33 : decode cX8_fill 33 = .ok (.getfield 38, 3) := by decide +kernel
theorem dX8_fill_36 : decode cX8_fill 36 = .ok (.iload_n 3, 1) := by decide +kernel
theorem dX8_fill_37 : decode cX8_fill 37 = .ok (.baload, 1) := by decide +kernel
theorem dX8_fill_38 : decode cX8_fill 38 = .ok (.ifCond .eq 9, 3) := by decide +kernel
theorem dX8_fill_41 : decode cX8_fill 41 = .ok (.iinc 3 1, 3) := by decide +kernel
theorem dX8_fill_44 : decode cX8_fill 44 = .ok (.goto (-17), 3) := by decide +kernel
theorem dX8_fill_47 : decode cX8_fill 47 = .ok (.iconst 0, 1) := by decide +kernel
theorem dX8_fill_48 : decode cX8_fill 48 = .ok (.istore 4, 2) := by decide +kernel
theorem dX8_fill_50 : decode cX8_fill 50 = .ok (.iload 4, 2) := by decide +kernel
theorem dX8_fill_52 : decode cX8_fill 52 = .ok (.iconst 4, 1) := by decide +kernel
theorem dX8_fill_53 : decode cX8_fill 53 = .ok (.if_icmp .ge 87, 3) := by decide +kernel
theorem dX8_fill_56 : decode cX8_fill 56 = .ok (.iload_n 2, 1) := by decide +kernel
theorem dX8_fill_57 : decode cX8_fill 57 = .ok (.ifCond .lt 17, 3) := by decide +kernel
theorem dX8_fill_60 : decode cX8_fill 60 = .ok (.aload_n 0, 1) := by decide +kernel
theorem dX8_fill_61 : decode cX8_fill 61 = .ok (.getfield 35, 3) := by decide +kernel
theorem dX8_fill_64 : decode cX8_fill 64 = .ok (.iconst 4, 1) := by decide +kernel
theorem dX8_fill_65 : decode cX8_fill 65 = .ok (.iload_n 2, 1) := by decide +kernel
theorem dX8_fill_66 : decode cX8_fill 66 = .ok (.imul, 1) := by decide +kernel
theorem dX8_fill_67 : decode cX8_fill 67 = .ok (.iload 4, 2) := by decide +kernel
theorem dX8_fill_69 : decode cX8_fill 69 = .ok (.iadd, 1) := by decide +kernel
theorem dX8_fill_70 : decode cX8_fill 70 = .ok (.iaload, 1) := by decide +kernel
theorem dX8_fill_71 : decode cX8_fill 71 = .ok (.goto 4, 3) := by decide +kernel
theorem dX8_fill_74 : decode cX8_fill 74 = .ok (.iconst 0, 1) := by decide +kernel
theorem dX8_fill_75 : decode cX8_fill 75 = .ok (.istore 5, 2) := by decide +kernel
theorem dX8_fill_77 : decode cX8_fill 77 = .ok (.iload_n 3, 1) := by decide +kernel
theorem dX8_fill_78 : decode cX8_fill 78 = .ok (.iconst 4, 1) := by decide +kernel
theorem dX8_fill_79 : decode cX8_fill 79 = .ok (.if_icmp .ge 17, 3) := by decide +kernel
theorem dX8_fill_82 : decode cX8_fill 82 = .ok (.aload_n 0, 1) := by decide +kernel
theorem dX8_fill_83 : decode cX8_fill 83 = .ok (.getfield 35, 3) := by decide +kernel
theorem dX8_fill_86 : decode cX8_fill 86 = .ok (.iconst 4, 1) := by decide +kernel
theorem dX8_fill_87 : decode cX8_fill 87 = .ok (.iload_n 3, 1) := by decide +kernel
theorem dX8_fill_88 : decode cX8_fill 88 = .ok (.imul, 1) := by decide +kernel
theorem dX8_fill_89 : decode cX8_fill 89 = .ok (.iload 4, 2) := by decide +kernel
theorem dX8_fill_91 : decode cX8_fill 91 = .ok (.iadd, 1) := by decide +kernel
theorem dX8_fill_92 : decode cX8_fill 92 = .ok (.iaload, 1) := by decide +kernel
theorem dX8_fill_93 : decode cX8_fill 93 = .ok (.goto 4, 3) := by decide +kernel
theorem dX8_fill_96 : decode cX8_fill 96 = .ok (.iconst 0, 1) := by decide +kernel
theorem dX8_fill_97 : decode cX8_fill 97 = .ok (.istore 6, 2) := by decide +kernel
theorem dX8_fill_99 : decode cX8_fill 99 = .ok (.aload_n 0, 1) := by decide +kernel
theorem dX8_fill_100 : decode cX8_fill 100 = .ok (.getfield 35, 3) := by decide +kernel
theorem dX8_fill_103 : decode cX8_fill 103 = .ok (.iconst 4, 1) := by decide +kernel
theorem dX8_fill_104 : decode cX8_fill 104 = .ok (.iload_n 1, 1) := by decide +kernel
theorem dX8_fill_105 : decode cX8_fill 105 = .ok (.imul, 1) := by decide +kernel
theorem dX8_fill_106 : decode cX8_fill 106 = .ok (.iload 4, 2) := by decide +kernel
theorem dX8_fill_108 : decode cX8_fill 108 = .ok (.iadd, 1) := by decide +kernel
theorem dX8_fill_109 : decode cX8_fill 109 = .ok (.iload_n 2, 1) := by decide +kernel
theorem dX8_fill_110 : decode cX8_fill 110 = .ok (.ifCond .lt 18, 3) := by decide +kernel
theorem dX8_fill_113 : decode cX8_fill 113 = .ok (.iload_n 3, 1) := by decide +kernel
theorem dX8_fill_114 : decode cX8_fill 114 = .ok (.iconst 4, 1) := by decide +kernel
theorem dX8_fill_115 : decode cX8_fill 115 = .ok (.if_icmp .ge 13, 3) := by decide +kernel
theorem dX8_fill_118 : decode cX8_fill 118 = .ok (.iload 5, 2) := by decide +kernel
theorem dX8_fill_120 : decode cX8_fill 120 = .ok (.iload 6, 2) := by decide +kernel
theorem dX8_fill_122 : decode cX8_fill 122 = .ok (.iadd, 1) := by decide +kernel
theorem dX8_fill_123 : decode cX8_fill 123 = .ok (.iconst 2, 1) := by decide +kernel
theorem dX8_fill_124 : decode cX8_fill 124 = .ok (.idiv, 1) := by decide +kernel
theorem dX8_fill_125 : decode cX8_fill 125 = .ok (.goto 8, 3) := by decide +kernel
theorem dX8_fill_128 : decode cX8_fill 128 = .ok (.iload 5, 2) := by decide +kernel
theorem dX8_fill_130 : decode cX8_fill 130 = .ok (.iload 6, 2) := by decide +kernel
theorem dX8_fill_132 : decode cX8_fill 132 = .ok (.iadd, 1) := by decide +kernel
theorem dX8_fill_133 : decode cX8_fill 133 = .ok (.iastore, 1) := by decide +kernel
theorem dX8_fill_134 : decode cX8_fill 134 = .ok (.iinc 4 1, 3) := by decide +kernel
theorem dX8_fill_137 : decode cX8_fill 137 = .ok (.goto (-87), 3) := by decide +kernel
theorem dX8_fill_140 : decode cX8_fill 140 = .ok (.return_, 1) := by decide +kernel
theorem dX8_layOut_0 : decode cX8_layOut 0 = .ok (.iconst 0, 1) := by decide +kernel
theorem dX8_layOut_1 : decode cX8_layOut 1 = .ok (.istore_n 3, 1) := by decide +kernel
theorem dX8_layOut_2 : decode cX8_layOut 2 = .ok (.iload_n 3, 1) := by decide +kernel
theorem dX8_layOut_3 : decode cX8_layOut 3 = .ok (.iconst 4, 1) := by decide +kernel
theorem dX8_layOut_4 : decode cX8_layOut 4 = .ok (.if_icmp .ge 116, 3) := by decide +kernel
theorem dX8_layOut_7 : decode cX8_layOut 7 = .ok (.iload_n 2, 1) := by decide +kernel
theorem dX8_layOut_8 : decode cX8_layOut 8 = .ok (.iload_n 3, 1) := by decide +kernel
theorem dX8_layOut_9 : decode cX8_layOut 9 = .ok (.invokestatic 114, 3) := by decide +kernel
theorem dX8_layOut_12 : decode cX8_layOut 12 = .ok (.ifCond .ne 7, 3) := by decide +kernel
theorem dX8_layOut_15 : decode cX8_layOut 15 = .ok (.iconst 1, 1) := by decide +kernel
theorem dX8_layOut_16 : decode cX8_layOut 16 = .ok (.goto 4, 3) := by decide +kernel
theorem dX8_layOut_19 : decode cX8_layOut 19 = .ok (.iconst 0, 1) := by decide +kernel
theorem dX8_layOut_20 : decode cX8_layOut 20 = .ok (.istore 4, 2) := by decide +kernel
theorem dX8_layOut_22 : decode cX8_layOut 22 = .ok (.iload_n 2, 1) := by decide +kernel
theorem dX8_layOut_23 : decode cX8_layOut 23 = .ok (.iload_n 3, 1) := by decide +kernel
theorem dX8_layOut_24 : decode cX8_layOut 24 = .ok (.iconst 4, 1) := by decide +kernel
theorem dX8_layOut_25 : decode cX8_layOut 25 = .ok (.iadd, 1) := by decide +kernel
theorem dX8_layOut_26 : decode cX8_layOut 26 = .ok (.aload_n 1, 1) := by decide +kernel
theorem dX8_layOut_27 : decode cX8_layOut 27 = .ok (.bipush 36, 2) := by decide +kernel
theorem dX8_layOut_29 : decode cX8_layOut 29 = .ok (.iaload, 1) := by decide +kernel
theorem dX8_layOut_30 : decode cX8_layOut 30 = .ok (.isub, 1) := by decide +kernel
theorem dX8_layOut_31 : decode cX8_layOut 31 = .ok (.iconst 4, 1) := by decide +kernel
theorem dX8_layOut_32 : decode cX8_layOut 32 = .ok (.irem, 1) := by decide +kernel
theorem dX8_layOut_33 : decode cX8_layOut 33 = .ok (.invokestatic 114, 3) := by decide +kernel
theorem dX8_layOut_36 : decode cX8_layOut 36 = .ok (.ifCond .ne 7, 3) := by decide +kernel
theorem dX8_layOut_39 : decode cX8_layOut 39 = .ok (.iconst 1, 1) := by decide +kernel
theorem dX8_layOut_40 : decode cX8_layOut 40 = .ok (.goto 4, 3) := by decide +kernel
theorem dX8_layOut_43 : decode cX8_layOut 43 = .ok (.iconst 0, 1) := by decide +kernel
theorem dX8_layOut_44 : decode cX8_layOut 44 = .ok (.istore 5, 2) := by decide +kernel
theorem dX8_layOut_46 : decode cX8_layOut 46 = .ok (.aload_n 0, 1) := by decide +kernel
theorem dX8_layOut_47 : decode cX8_layOut 47 = .ok (.getfield 38, 3) := by decide +kernel
theorem dX8_layOut_50 : decode cX8_layOut 50 = .ok (.iload_n 3, 1) := by decide +kernel
theorem dX8_layOut_51 : decode cX8_layOut 51 = .ok (.iload 4, 2) := by decide +kernel
theorem dX8_layOut_53 : decode cX8_layOut 53 = .ok (.ifCond .ne 12, 3) := by decide +kernel
theorem dX8_layOut_56 : decode cX8_layOut 56 = .ok (.iload 5, 2) := by decide +kernel
theorem dX8_layOut_58 : decode cX8_layOut 58 = .ok (.ifCond .ne 7, 3) := by decide +kernel
theorem dX8_layOut_61 : decode cX8_layOut 61 = .ok (.iconst 1, 1) := by decide +kernel
theorem dX8_layOut_62 : decode cX8_layOut 62 = .ok (.goto 4, 3) := by decide +kernel
theorem dX8_layOut_65 : decode cX8_layOut 65 = .ok (.iconst 0, 1) := by decide +kernel
theorem dX8_layOut_66 : decode cX8_layOut 66 = .ok (.bastore, 1) := by decide +kernel
theorem dX8_layOut_67 : decode cX8_layOut 67 = .ok (.iconst 0, 1) := by decide +kernel
theorem dX8_layOut_68 : decode cX8_layOut 68 = .ok (.istore 6, 2) := by decide +kernel
theorem dX8_layOut_70 : decode cX8_layOut 70 = .ok (.iload 6, 2) := by decide +kernel
theorem dX8_layOut_72 : decode cX8_layOut 72 = .ok (.iconst 4, 1) := by decide +kernel
theorem dX8_layOut_73 : decode cX8_layOut 73 = .ok (.if_icmp .ge 41, 3) := by decide +kernel
theorem dX8_layOut_76 : decode cX8_layOut 76 = .ok (.aload_n 0, 1) := by decide +kernel
theorem dX8_layOut_77 : decode cX8_layOut 77 = .ok (.getfield 38, 3) := by decide +kernel
theorem dX8_layOut_80 : decode cX8_layOut 80 = .ok (.iload_n 3, 1) := by decide +kernel
theorem dX8_layOut_81 : decode cX8_layOut 81 = .ok (.baload, 1) := by decide +kernel
theorem dX8_layOut_82 : decode cX8_layOut 82 = .ok (.ifCond .ne 32, 3) := by decide +kernel
theorem dX8_layOut_85 : decode cX8_layOut 85 = .ok (.aload_n 0, 1) := by decide +kernel
theorem dX8_layOut_86 : decode cX8_layOut 86 = .ok (.getfield 35, 3) := by decide +kernel
theorem dX8_layOut_89 : decode cX8_layOut 89 = .ok (.iconst 4, 1) := by decide +kernel
theorem dX8_layOut_90 : decode cX8_layOut 90 = .ok (.iload_n 3, 1) := by decide +kernel
theorem dX8_layOut_91 : decode cX8_layOut 91 = .ok (.imul, 1) := by decide +kernel
theorem dX8_layOut_92 : decode cX8_layOut 92 = .ok (.iload 6, 2) := by decide +kernel
theorem dX8_layOut_94 : decode cX8_layOut 94 = .ok (.iadd, 1) := by decide +kernel
theorem dX8_layOut_95 : decode cX8_layOut 95 = .ok (.aload_n 0, 1) := by decide +kernel
theorem dX8_layOut_96 : decode cX8_layOut 96 = .ok (.aload_n 1, 1) := by decide +kernel
theorem dX8_layOut_97 : decode cX8_layOut 97 = .ok (.iload_n 3, 1) := by decide +kernel
theorem dX8_layOut_98 : decode cX8_layOut 98 = .ok (.iload 6, 2) := by decide +kernel
theorem dX8_layOut_100 : decode cX8_layOut 100 = .ok (.iload 4, 2) := by decide +kernel
theorem dX8_layOut_102 : decode cX8_layOut 102 = .ok (.iload 5, 2) := by decide +kernel
theorem dX8_layOut_104 : decode cX8_layOut 104 = .ok (.invokevirtual 118, 3) := by decide +kernel
theorem dX8_layOut_107 : decode cX8_layOut 107 = .ok (.iastore, 1) := by decide +kernel
theorem dX8_layOut_108 : decode cX8_layOut 108 = .ok (.iinc 6 1, 3) := by decide +kernel
theorem dX8_layOut_111 : decode cX8_layOut 111 = .ok (.goto (-41), 3) := by decide +kernel
theorem dX8_layOut_114 : decode cX8_layOut 114 = .ok (.iinc 3 1, 3) := by decide +kernel
theorem dX8_layOut_117 : decode cX8_layOut 117 = .ok (.goto (-115), 3) := by decide +kernel
theorem dX8_layOut_120 : decode cX8_layOut 120 = .ok (.iconst 0, 1) := by decide +kernel
theorem dX8_layOut_121 : decode cX8_layOut 121 = .ok (.istore_n 3, 1) := by decide +kernel
theorem dX8_layOut_122 : decode cX8_layOut 122 = .ok (.iload_n 3, 1) := by decide +kernel
theorem dX8_layOut_123 : decode cX8_layOut 123 = .ok (.iconst 4, 1) := by decide +kernel
theorem dX8_layOut_124 : decode cX8_layOut 124 = .ok (.if_icmp .ge 23, 3) := by decide +kernel
theorem dX8_layOut_127 : decode cX8_layOut 127 = .ok (.aload_n 0, 1) := by decide +kernel
theorem dX8_layOut_128 : decode cX8_layOut 128 = .ok (.getfield 38, 3) := by decide +kernel
theorem dX8_layOut_131 : decode cX8_layOut 131 = .ok (.iload_n 3, 1) := by decide +kernel
theorem dX8_layOut_132 : decode cX8_layOut 132 = .ok (.baload, 1) := by decide +kernel
theorem dX8_layOut_133 : decode cX8_layOut 133 = .ok (.ifCond .eq 8, 3) := by decide +kernel
theorem dX8_layOut_136 : decode cX8_layOut 136 = .ok (.aload_n 0, 1) := by decide +kernel
theorem dX8_layOut_137 : decode cX8_layOut 137 = .ok (.iload_n 3, 1) := by decide +kernel
theorem dX8_layOut_138 : decode cX8_layOut 138 = .ok (.invokevirtual 122, 3) := by decide +kernel
theorem dX8_layOut_141 : decode cX8_layOut 141 = .ok (.iinc 3 1, 3) := by decide +kernel
theorem dX8_layOut_144 : decode cX8_layOut 144 = .ok (.goto (-22), 3) := by decide +kernel
theorem dX8_layOut_147 : decode cX8_layOut 147 = .ok (.return_, 1) := by decide +kernel
theorem dX8_missBy_0 : decode cX8_missBy 0 = .ok (.aload_n 0, 1) := by decide +kernel
theorem dX8_missBy_1 : decode cX8_missBy 1 = .ok (.aload_n 1, 1) := by decide +kernel
theorem dX8_missBy_2 : decode cX8_missBy 2 = .ok (.iload_n 2, 1) := by decide +kernel
theorem dX8_missBy_3 : decode cX8_missBy 3 = .ok (.invokevirtual 126, 3) := by decide +kernel
theorem dX8_missBy_6 : decode cX8_missBy 6 = .ok (.iconst 0, 1) := by decide +kernel
theorem dX8_missBy_7 : decode cX8_missBy 7 = .ok (.istore_n 3, 1) := by decide +kernel
theorem dX8_missBy_8 : decode cX8_missBy 8 = .ok (.iconst 0, 1) := by decide +kernel
theorem dX8_missBy_9 : decode cX8_missBy 9 = .ok (.istore 4, 2) := by decide +kernel
theorem dX8_missBy_11 : decode cX8_missBy 11 = .ok (.iload 4, 2) := by decide +kernel
theorem dX8_missBy_13 : decode cX8_missBy 13 = .ok (.bipush 16, 2) := by decide +kernel
theorem dX8_missBy_15 : decode cX8_missBy 15 = .ok (.if_icmp .ge 34, 3) := by decide +kernel
theorem dX8_missBy_18 : decode cX8_missBy 18 = .ok (.aload_n 0, 1) := by decide +kernel
theorem dX8_missBy_19 : decode cX8_missBy 19 = .ok (.getfield 35, 3) := by decide +kernel
theorem dX8_missBy_22 : decode cX8_missBy 22 = .ok (.iload 4, 2) := by decide +kernel
theorem dX8_missBy_24 : decode cX8_missBy 24 = .ok (.iaload, 1) := by decide +kernel
theorem dX8_missBy_25 : decode cX8_missBy 25 = .ok (.aload_n 1, 1) := by decide +kernel
theorem dX8_missBy_26 : decode cX8_missBy 26 = .ok (.bipush 20, 2) := by decide +kernel
theorem dX8_missBy_28 : decode cX8_missBy 28 = .ok (.iload 4, 2) := by decide +kernel
theorem dX8_missBy_30 : decode cX8_missBy 30 = .ok (.iadd, 1) := by decide +kernel
theorem dX8_missBy_31 : decode cX8_missBy 31 = .ok (.iaload, 1) := by decide +kernel
theorem dX8_missBy_32 : decode cX8_missBy 32 = .ok (.isub, 1) := by decide +kernel
theorem dX8_missBy_33 : decode cX8_missBy 33 = .ok (.istore 5, 2) := by decide +kernel
theorem dX8_missBy_35 : decode cX8_missBy 35 = .ok (.iload_n 3, 1) := by decide +kernel
theorem dX8_missBy_36 : decode cX8_missBy 36 = .ok (.iload 5, 2) := by decide +kernel
theorem dX8_missBy_38 : decode cX8_missBy 38 = .ok (.iload 5, 2) := by decide +kernel
theorem dX8_missBy_40 : decode cX8_missBy 40 = .ok (.imul, 1) := by decide +kernel
theorem dX8_missBy_41 : decode cX8_missBy 41 = .ok (.iadd, 1) := by decide +kernel
theorem dX8_missBy_42 : decode cX8_missBy 42 = .ok (.istore_n 3, 1) := by decide +kernel
theorem dX8_missBy_43 : decode cX8_missBy 43 = .ok (.iinc 4 1, 3) := by decide +kernel
theorem dX8_missBy_46 : decode cX8_missBy 46 = .ok (.goto (-35), 3) := by decide +kernel
theorem dX8_missBy_49 : decode cX8_missBy 49 = .ok (.iload_n 3, 1) := by decide +kernel
theorem dX8_missBy_50 : decode cX8_missBy 50 = .ok (.ireturn, 1) := by decide +kernel
theorem dX8_blanks_0 : decode cX8_blanks 0 = .ok (.aload_n 0, 1) := by decide +kernel
theorem dX8_blanks_1 : decode cX8_blanks 1 = .ok (.aload_n 0, 1) := by decide +kernel
theorem dX8_blanks_2 : decode cX8_blanks 2 = .ok (.getfield 13, 3) := by decide +kernel
theorem dX8_blanks_5 : decode cX8_blanks 5 = .ok (.aload_n 0, 1) := by decide +kernel
theorem dX8_blanks_6 : decode cX8_blanks 6 = .ok (.getfield 13, 3) := by decide +kernel
theorem dX8_blanks_9 : decode cX8_blanks 9 = .ok (.bipush 37, 2) := by decide +kernel
theorem dX8_blanks_11 : decode cX8_blanks 11 = .ok (.iaload, 1) := by decide +kernel
theorem dX8_blanks_12 : decode cX8_blanks 12 = .ok (.invokevirtual 126, 3) := by decide +kernel
theorem dX8_blanks_15 : decode cX8_blanks 15 = .ok (.iconst 0, 1) := by decide +kernel
theorem dX8_blanks_16 : decode cX8_blanks 16 = .ok (.istore_n 1, 1) := by decide +kernel
theorem dX8_blanks_17 : decode cX8_blanks 17 = .ok (.iconst 0, 1) := by decide +kernel
theorem dX8_blanks_18 : decode cX8_blanks 18 = .ok (.istore_n 2, 1) := by decide +kernel
theorem dX8_blanks_19 : decode cX8_blanks 19 = .ok (.iload_n 2, 1) := by decide +kernel
theorem dX8_blanks_20 : decode cX8_blanks 20 = .ok (.iconst 4, 1) := by decide +kernel
theorem dX8_blanks_21 : decode cX8_blanks 21 = .ok (.if_icmp .ge 28, 3) := by decide +kernel
theorem dX8_blanks_24 : decode cX8_blanks 24 = .ok (.iload_n 1, 1) := by decide +kernel
theorem dX8_blanks_25 : decode cX8_blanks 25 = .ok (.aload_n 0, 1) := by decide +kernel
theorem dX8_blanks_26 : decode cX8_blanks 26 = .ok (.getfield 38, 3) := by decide +kernel
theorem dX8_blanks_29 : decode cX8_blanks 29 = .ok (.iload_n 2, 1) := by decide +kernel
theorem dX8_blanks_30 : decode cX8_blanks 30 = .ok (.baload, 1) := by decide +kernel
theorem dX8_blanks_31 : decode cX8_blanks 31 = .ok (.ifCond .eq 9, 3) := by decide +kernel
theorem dX8_blanks_34 : decode cX8_blanks 34 = .ok (.iconst 1, 1) := by decide +kernel
theorem dX8_blanks_35 : decode cX8_blanks 35 = .ok (.iload_n 2, 1) := by decide +kernel
theorem dX8_blanks_36 : decode cX8_blanks 36 = .ok (.ishl, 1) := by decide +kernel
theorem dX8_blanks_37 : decode cX8_blanks 37 = .ok (.goto 4, 3) := by decide +kernel
theorem dX8_blanks_40 : decode cX8_blanks 40 = .ok (.iconst 0, 1) := by decide +kernel
theorem dX8_blanks_41 : decode cX8_blanks 41 = .ok (.ior, 1) := by decide +kernel
theorem dX8_blanks_42 : decode cX8_blanks 42 = .ok (.istore_n 1, 1) := by decide +kernel
theorem dX8_blanks_43 : decode cX8_blanks 43 = .ok (.iinc 2 1, 3) := by decide +kernel
theorem dX8_blanks_46 : decode cX8_blanks 46 = .ok (.goto (-27), 3) := by decide +kernel
theorem dX8_blanks_49 : decode cX8_blanks 49 = .ok (.iload_n 1, 1) := by decide +kernel
theorem dX8_blanks_50 : decode cX8_blanks 50 = .ok (.ireturn, 1) := by decide +kernel
theorem dX8_changeOn_0 : decode cX8_changeOn 0 = .ok (.aload_n 0, 1) := by decide +kernel
theorem dX8_changeOn_1 : decode cX8_changeOn 1 = .ok (.iload_n 1, 1) := by decide +kernel
theorem dX8_changeOn_2 : decode cX8_changeOn 2 = .ok (.iaload, 1) := by decide +kernel
theorem dX8_changeOn_3 : decode cX8_changeOn 3 = .ok (.istore_n 3, 1) := by decide +kernel
theorem dX8_changeOn_4 : decode cX8_changeOn 4 = .ok (.aload_n 0, 1) := by decide +kernel
theorem dX8_changeOn_5 : decode cX8_changeOn 5 = .ok (.iload_n 1, 1) := by decide +kernel
theorem dX8_changeOn_6 : decode cX8_changeOn 6 = .ok (.aload_n 0, 1) := by decide +kernel
theorem dX8_changeOn_7 : decode cX8_changeOn 7 = .ok (.iload_n 2, 1) := by decide +kernel
theorem dX8_changeOn_8 : decode cX8_changeOn 8 = .ok (.iaload, 1) := by decide +kernel
theorem dX8_changeOn_9 : decode cX8_changeOn 9 = .ok (.iastore, 1) := by decide +kernel
theorem dX8_changeOn_10 : decode cX8_changeOn 10 = .ok (.aload_n 0, 1) := by decide +kernel
theorem dX8_changeOn_11 : decode cX8_changeOn 11 = .ok (.iload_n 2, 1) := by decide +kernel
theorem dX8_changeOn_12 : decode cX8_changeOn 12 = .ok (.iload_n 3, 1) := by decide +kernel
theorem dX8_changeOn_13 : decode cX8_changeOn 13 = .ok (.iastore, 1) := by decide +kernel
theorem dX8_changeOn_14 : decode cX8_changeOn 14 = .ok (.return_, 1) := by decide +kernel
theorem dX8_bestChange_0 : decode cX8_bestChange 0 = .ok (.bipush (-9), 2) := by decide +kernel
theorem dX8_bestChange_2 : decode cX8_bestChange 2 = .ok (.istore_n 1, 1) := by decide +kernel
theorem dX8_bestChange_3 : decode cX8_bestChange 3 = .ok (.aload_n 0, 1) := by decide +kernel
theorem dX8_bestChange_4 : decode cX8_bestChange 4 = .ok (.aload_n 0, 1) := by decide +kernel
theorem dX8_bestChange_5 : decode cX8_bestChange 5 = .ok (.getfield 13, 3) := by decide +kernel
theorem dX8_bestChange_8 : decode cX8_bestChange 8 = .ok (.invokevirtual 130, 3) := by decide +kernel
theorem dX8_bestChange_11 : decode cX8_bestChange 11 = .ok (.istore_n 2, 1) := by decide +kernel
theorem dX8_bestChange_12 : decode cX8_bestChange 12 = .ok (.aload_n 0, 1) := by decide +kernel
theorem dX8_bestChange_13 : decode cX8_bestChange 13 = .ok (.getfield 13, 3) := by decide +kernel
theorem dX8_bestChange_16 : decode cX8_bestChange 16 = .ok (.aload_n 0, 1) := by decide +kernel
theorem dX8_bestChange_17 : decode cX8_bestChange 17 = .ok (.getfield 16, 3) := by decide +kernel
theorem dX8_bestChange_20 : decode cX8_bestChange 20 = .ok (.invokestatic 134, 3) := by decide +kernel
theorem dX8_bestChange_23 : decode cX8_bestChange 23 = .ok (.iconst 0, 1) := by decide +kernel
theorem dX8_bestChange_24 : decode cX8_bestChange 24 = .ok (.istore_n 3, 1) := by decide +kernel
theorem dX8_bestChange_25 : decode cX8_bestChange 25 = .ok (.iload_n 3, 1) := by decide +kernel
theorem dX8_bestChange_26 : decode cX8_bestChange 26 = .ok (.aload_n 0, 1) := by decide +kernel
theorem dX8_bestChange_27 : decode cX8_bestChange 27 = .ok (.getfield 54, 3) := by decide +kernel
theorem dX8_bestChange_30 : decode cX8_bestChange 30 = .ok (.if_icmp .ge 76, 3) := by decide +kernel
theorem dX8_bestChange_33 : decode cX8_bestChange 33 = .ok (.iload_n 3, 1) := by decide +kernel
theorem dX8_bestChange_34 : decode cX8_bestChange 34 = .ok (.iconst 1, 1) := by decide +kernel
theorem dX8_bestChange_35 : decode cX8_bestChange 35 = .ok (.iadd, 1) := by decide +kernel
theorem dX8_bestChange_36 : decode cX8_bestChange 36 = .ok (.istore 4, 2) := by decide +kernel
theorem dX8_bestChange_38 : decode cX8_bestChange 38 = .ok (.iload 4, 2) := by decide +kernel
theorem dX8_bestChange_40 : decode cX8_bestChange 40 = .ok (.aload_n 0, 1) := by decide +kernel
theorem dX8_bestChange_41 : decode cX8_bestChange 41 = .ok (.getfield 54, 3) := by decide +kernel
theorem dX8_bestChange_44 : decode cX8_bestChange 44 = .ok (.if_icmp .ge 56, 3) := by decide +kernel
theorem dX8_bestChange_47 : decode cX8_bestChange 47 = .ok (.aload_n 0, 1) := by decide +kernel
theorem dX8_bestChange_48 : decode cX8_bestChange 48 = .ok (.getfield 16, 3) := by decide +kernel
theorem dX8_bestChange_51 : decode cX8_bestChange 51 = .ok (.iload_n 3, 1) := by decide +kernel
theorem dX8_bestChange_52 : decode cX8_bestChange 52 = .ok (.iload 4, 2) := by decide +kernel
theorem dX8_bestChange_54 : decode cX8_bestChange 54 = .ok (.invokestatic 138, 3) := by decide +kernel
theorem dX8_bestChange_57 : decode cX8_bestChange 57 = .ok (.aload_n 0, 1) := by decide +kernel
theorem dX8_bestChange_58 : decode cX8_bestChange 58 = .ok (.aload_n 0, 1) := by decide +kernel
theorem dX8_bestChange_59 : decode cX8_bestChange 59 = .ok (.getfield 16, 3) := by decide +kernel
theorem dX8_bestChange_62 : decode cX8_bestChange 62 = .ok (.invokevirtual 130, 3) := by decide +kernel
theorem dX8_bestChange_65 : decode cX8_bestChange 65 = .ok (.istore 5, 2) := by decide +kernel
theorem dX8_bestChange_67 : decode cX8_bestChange 67 = .ok (.iload 5, 2) := by decide +kernel
theorem dX8_bestChange_69 : decode cX8_bestChange 69 = .ok (.iload_n 2, 1) := by decide +kernel
theorem dX8_bestChange_70 : decode cX8_bestChange 70 = .ok (.if_icmp .ge 14, 3) := by decide +kernel
theorem dX8_bestChange_73 : decode cX8_bestChange 73 = .ok (.bipush 100, 2) := by decide +kernel
theorem dX8_bestChange_75 : decode cX8_bestChange 75 = .ok (.iload_n 3, 1) := by decide +kernel
theorem dX8_bestChange_76 : decode cX8_bestChange 76 = .ok (.imul, 1) := by decide +kernel
theorem dX8_bestChange_77 : decode cX8_bestChange 77 = .ok (.iload 4, 2) := by decide +kernel
theorem dX8_bestChange_79 : decode cX8_bestChange 79 = .ok (.iadd, 1) := by decide +kernel
theorem dX8_bestChange_80 : decode cX8_bestChange 80 = .ok (.istore_n 1, 1) := by decide +kernel
theorem dX8_bestChange_81 : decode cX8_bestChange 81 = .ok (.iload 5, 2) := by decide +kernel
theorem dX8_bestChange_83 : decode cX8_bestChange 83 = .ok (.istore_n 2, 1) := by decide +kernel
theorem dX8_bestChange_84 : decode cX8_bestChange 84 = .ok (.aload_n 0, 1) := by decide +kernel
theorem dX8_bestChange_85 : decode cX8_bestChange 85 = .ok (.getfield 16, 3) := by decide +kernel
theorem dX8_bestChange_88 : decode cX8_bestChange 88 = .ok (.iload_n 3, 1) := by decide +kernel
theorem dX8_bestChange_89 : decode cX8_bestChange 89 = .ok (.iload 4, 2) := by decide +kernel
theorem dX8_bestChange_91 : decode cX8_bestChange 91 = .ok (.invokestatic 138, 3) := by decide +kernel
theorem dX8_bestChange_94 : decode cX8_bestChange 94 = .ok (.iinc 4 1, 3) := by decide +kernel
theorem dX8_bestChange_97 : decode cX8_bestChange 97 = .ok (.goto (-59), 3) := by decide +kernel
theorem dX8_bestChange_100 : decode cX8_bestChange 100 = .ok (.iinc 3 1, 3) := by decide +kernel
theorem dX8_bestChange_103 : decode cX8_bestChange 103 = .ok (.goto (-78), 3) := by decide +kernel
theorem dX8_bestChange_106 : decode cX8_bestChange 106 = .ok (.iload_n 1, 1) := by decide +kernel
theorem dX8_bestChange_107 : decode cX8_bestChange 107 = .ok (.ireturn, 1) := by decide +kernel
theorem dX8_bestShift_0 : decode cX8_bestShift 0 = .ok (.iconst 0, 1) := by decide +kernel
theorem dX8_bestShift_1 : decode cX8_bestShift 1 = .ok (.istore_n 1, 1) := by decide +kernel
theorem dX8_bestShift_2 : decode cX8_bestShift 2 = .ok (.iconst 0, 1) := by decide +kernel
theorem dX8_bestShift_3 : decode cX8_bestShift 3 = .ok (.istore_n 2, 1) := by decide +kernel
theorem dX8_bestShift_4 : decode cX8_bestShift 4 = .ok (.aload_n 0, 1) := by decide +kernel
theorem dX8_bestShift_5 : decode cX8_bestShift 5 = .ok (.getfield 13, 3) := by decide +kernel
theorem dX8_bestShift_8 : decode cX8_bestShift 8 = .ok (.aload_n 0, 1) := by decide +kernel
theorem dX8_bestShift_9 : decode cX8_bestShift 9 = .ok (.getfield 16, 3) := by decide +kernel
theorem dX8_bestShift_12 : decode cX8_bestShift 12 = .ok (.invokestatic 134, 3) := by decide +kernel
theorem dX8_bestShift_15 : decode cX8_bestShift 15 = .ok (.iconst 0, 1) := by decide +kernel
theorem dX8_bestShift_16 : decode cX8_bestShift 16 = .ok (.istore_n 3, 1) := by decide +kernel
theorem dX8_bestShift_17 : decode cX8_bestShift 17 = .ok (.iload_n 3, 1) := by decide +kernel
theorem dX8_bestShift_18 : decode cX8_bestShift 18 = .ok (.iconst 4, 1) := by decide +kernel
theorem dX8_bestShift_19 : decode cX8_bestShift 19 = .ok (.if_icmp .ge 80, 3) := by decide +kernel
theorem dX8_bestShift_22 : decode cX8_bestShift 22 = .ok (.aload_n 0, 1) := by decide +kernel
theorem dX8_bestShift_23 : decode cX8_bestShift 23 = .ok (.getfield 16, 3) := by decide +kernel
theorem dX8_bestShift_26 : decode cX8_bestShift 26 = .ok (.bipush 36, 2) := by decide +kernel
theorem dX8_bestShift_28 : decode cX8_bestShift 28 = .ok (.iload_n 3, 1) := by decide +kernel
theorem dX8_bestShift_29 : decode cX8_bestShift 29 = .ok (.iastore, 1) := by decide +kernel
theorem dX8_bestShift_30 : decode cX8_bestShift 30 = .ok (.iconst 0, 1) := by decide +kernel
theorem dX8_bestShift_31 : decode cX8_bestShift 31 = .ok (.istore 4, 2) := by decide +kernel
theorem dX8_bestShift_33 : decode cX8_bestShift 33 = .ok (.iconst 0, 1) := by decide +kernel
theorem dX8_bestShift_34 : decode cX8_bestShift 34 = .ok (.istore 5, 2) := by decide +kernel
theorem dX8_bestShift_36 : decode cX8_bestShift 36 = .ok (.iload 5, 2) := by decide +kernel
theorem dX8_bestShift_38 : decode cX8_bestShift 38 = .ok (.iconst 4, 1) := by decide +kernel
theorem dX8_bestShift_39 : decode cX8_bestShift 39 = .ok (.if_icmp .ge 39, 3) := by decide +kernel
theorem dX8_bestShift_42 : decode cX8_bestShift 42 = .ok (.aload_n 0, 1) := by decide +kernel
theorem dX8_bestShift_43 : decode cX8_bestShift 43 = .ok (.aload_n 0, 1) := by decide +kernel
theorem dX8_bestShift_44 : decode cX8_bestShift 44 = .ok (.getfield 16, 3) := by decide +kernel
theorem dX8_bestShift_47 : decode cX8_bestShift 47 = .ok (.iconst 1, 1) := by decide +kernel
theorem dX8_bestShift_48 : decode cX8_bestShift 48 = .ok (.iload 5, 2) := by decide +kernel
theorem dX8_bestShift_50 : decode cX8_bestShift 50 = .ok (.ishl, 1) := by decide +kernel
theorem dX8_bestShift_51 : decode cX8_bestShift 51 = .ok (.invokevirtual 142, 3) := by decide +kernel
theorem dX8_bestShift_54 : decode cX8_bestShift 54 = .ok (.istore 6, 2) := by decide +kernel
theorem dX8_bestShift_56 : decode cX8_bestShift 56 = .ok (.iload 6, 2) := by decide +kernel
theorem dX8_bestShift_58 : decode cX8_bestShift 58 = .ok (.iload 4, 2) := by decide +kernel
theorem dX8_bestShift_60 : decode cX8_bestShift 60 = .ok (.if_icmp .le 8, 3) := by decide +kernel
theorem dX8_bestShift_63 : decode cX8_bestShift 63 = .ok (.iload 6, 2) := by decide +kernel
theorem dX8_bestShift_65 : decode cX8_bestShift 65 = .ok (.goto 5, 3) := by decide +kernel
theorem dX8_bestShift_68 : decode cX8_bestShift 68 = .ok (.iload 4, 2) := by decide +kernel
theorem dX8_bestShift_70 : decode cX8_bestShift 70 = .ok (.istore 4, 2) := by decide +kernel
theorem dX8_bestShift_72 : decode cX8_bestShift 72 = .ok (.iinc 5 1, 3) := by decide +kernel
theorem dX8_bestShift_75 : decode cX8_bestShift 75 = .ok (.goto (-39), 3) := by decide +kernel
theorem dX8_bestShift_78 : decode cX8_bestShift 78 = .ok (.iload_n 3, 1) := by decide +kernel
theorem dX8_bestShift_79 : decode cX8_bestShift 79 = .ok (.ifCond .eq 9, 3) := by decide +kernel
theorem dX8_bestShift_82 : decode cX8_bestShift 82 = .ok (.iload 4, 2) := by decide +kernel
theorem dX8_bestShift_84 : decode cX8_bestShift 84 = .ok (.iload_n 2, 1) := by decide +kernel
theorem dX8_bestShift_85 : decode cX8_bestShift 85 = .ok (.if_icmp .ge 8, 3) := by decide +kernel
theorem dX8_bestShift_88 : decode cX8_bestShift 88 = .ok (.iload_n 3, 1) := by decide +kernel
theorem dX8_bestShift_89 : decode cX8_bestShift 89 = .ok (.istore_n 1, 1) := by decide +kernel
theorem dX8_bestShift_90 : decode cX8_bestShift 90 = .ok (.iload 4, 2) := by decide +kernel
theorem dX8_bestShift_92 : decode cX8_bestShift 92 = .ok (.istore_n 2, 1) := by decide +kernel
theorem dX8_bestShift_93 : decode cX8_bestShift 93 = .ok (.iinc 3 1, 3) := by decide +kernel
theorem dX8_bestShift_96 : decode cX8_bestShift 96 = .ok (.goto (-79), 3) := by decide +kernel
theorem dX8_bestShift_99 : decode cX8_bestShift 99 = .ok (.iload_n 1, 1) := by decide +kernel
theorem dX8_bestShift_100 : decode cX8_bestShift 100 = .ok (.ireturn, 1) := by decide +kernel
theorem dX8_layOn_0 : decode cX8_layOn 0 = .ok (.iconst 0, 1) := by decide +kernel
theorem dX8_layOn_1 : decode cX8_layOn 1 = .ok (.istore_n 3, 1) := by decide +kernel
theorem dX8_layOn_2 : decode cX8_layOn 2 = .ok (.iconst 0, 1) := by decide +kernel
theorem dX8_layOn_3 : decode cX8_layOn 3 = .ok (.istore 4, 2) := by decide +kernel
theorem dX8_layOn_5 : decode cX8_layOn 5 = .ok (.iload 4, 2) := by decide +kernel
theorem dX8_layOn_7 : decode cX8_layOn 7 = .ok (.bipush 11, 2) := by decide +kernel
theorem dX8_layOn_9 : decode cX8_layOn 9 = .ok (.if_icmp .ge 90, 3) := by decide +kernel
theorem dX8_layOn_12 : decode cX8_layOn 12 = .ok (.iconst 0, 1) := by decide +kernel
theorem dX8_layOn_13 : decode cX8_layOn 13 = .ok (.istore 5, 2) := by decide +kernel
theorem dX8_layOn_15 : decode cX8_layOn 15 = .ok (.iload 5, 2) := by decide +kernel
theorem dX8_layOn_17 : decode cX8_layOn 17 = .ok (.aload_n 0, 1) := by decide +kernel
theorem dX8_layOn_18 : decode cX8_layOn 18 = .ok (.getfield 47, 3) := by decide +kernel
theorem dX8_layOn_21 : decode cX8_layOn 21 = .ok (.if_icmp .ge 72, 3) := by decide +kernel
theorem dX8_layOn_24 : decode cX8_layOn 24 = .ok (.iload 4, 2) := by decide +kernel
theorem dX8_layOn_26 : decode cX8_layOn 26 = .ok (.iload 5, 2) := by decide +kernel
theorem dX8_layOn_28 : decode cX8_layOn 28 = .ok (.isub, 1) := by decide +kernel
theorem dX8_layOn_29 : decode cX8_layOn 29 = .ok (.istore 6, 2) := by decide +kernel
theorem dX8_layOn_31 : decode cX8_layOn 31 = .ok (.iload 6, 2) := by decide +kernel
theorem dX8_layOn_33 : decode cX8_layOn 33 = .ok (.i2l, 1) := by decide +kernel
theorem dX8_layOn_34 : decode cX8_layOn 34 = .ok (.lconst 0, 1) := by decide +kernel
theorem dX8_layOn_35 : decode cX8_layOn 35 = .ok (.aload_n 0, 1) := by decide +kernel
theorem dX8_layOn_36 : decode cX8_layOn 36 = .ok (.getfield 51, 3) := by decide +kernel
theorem dX8_layOn_39 : decode cX8_layOn 39 = .ok (.iconst 1, 1) := by decide +kernel
theorem dX8_layOn_40 : decode cX8_layOn 40 = .ok (.isub, 1) := by decide +kernel
theorem dX8_layOn_41 : decode cX8_layOn 41 = .ok (.i2l, 1) := by decide +kernel
theorem dX8_layOn_42 : decode cX8_layOn 42 = .ok (.invokestatic 57, 3) := by decide +kernel
theorem dX8_layOn_45 : decode cX8_layOn 45 = .ok (.ifCond .eq 42, 3) := by decide +kernel
theorem dX8_layOn_48 : decode cX8_layOn 48 = .ok (.iload 5, 2) := by decide +kernel
theorem dX8_layOn_50 : decode cX8_layOn 50 = .ok (.iload 6, 2) := by decide +kernel
theorem dX8_layOn_52 : decode cX8_layOn 52 = .ok (.isub, 1) := by decide +kernel
theorem dX8_layOn_53 : decode cX8_layOn 53 = .ok (.i2l, 1) := by decide +kernel
theorem dX8_layOn_54 : decode cX8_layOn 54 = .ok (.iload_n 2, 1) := by decide +kernel
theorem dX8_layOn_55 : decode cX8_layOn 55 = .ok (.ineg, 1) := by decide +kernel
theorem dX8_layOn_56 : decode cX8_layOn 56 = .ok (.i2l, 1) := by decide +kernel
theorem dX8_layOn_57 : decode cX8_layOn 57 = .ok (.iload_n 2, 1) := by decide +kernel
theorem dX8_layOn_58 : decode cX8_layOn 58 = .ok (.i2l, 1) := by decide +kernel
theorem dX8_layOn_59 : decode cX8_layOn 59 = .ok (.invokestatic 57, 3) := by decide +kernel
theorem dX8_layOn_62 : decode cX8_layOn 62 = .ok (.ifCond .eq 25, 3) := by decide +kernel
theorem dX8_layOn_65 : decode cX8_layOn 65 = .ok (.iload_n 3, 1) := by decide +kernel
theorem dX8_layOn_66 : decode cX8_layOn 66 = .ok (.aload_n 0, 1) := by decide +kernel
theorem dX8_layOn_67 : decode cX8_layOn 67 = .ok (.getfield 54, 3) := by decide +kernel
theorem dX8_layOn_70 : decode cX8_layOn 70 = .ok (.if_icmp .ge 17, 3) := by decide +kernel
theorem dX8_layOn_73 : decode cX8_layOn 73 = .ok (.aload_n 1, 1) := by decide +kernel
theorem dX8_layOn_74 : decode cX8_layOn 74 = .ok (.iload_n 3, 1) := by decide +kernel
theorem dX8_layOn_75 : decode cX8_layOn 75 = .ok (.bipush 6, 2) := by decide +kernel
theorem dX8_layOn_77 : decode cX8_layOn 77 = .ok (.iload 5, 2) := by decide +kernel
theorem dX8_layOn_79 : decode cX8_layOn 79 = .ok (.imul, 1) := by decide +kernel
theorem dX8_layOn_80 : decode cX8_layOn 80 = .ok (.iload 6, 2) := by decide +kernel
theorem dX8_layOn_82 : decode cX8_layOn 82 = .ok (.iadd, 1) := by decide +kernel
theorem dX8_layOn_83 : decode cX8_layOn 83 = .ok (.iastore, 1) := by decide +kernel
theorem dX8_layOn_84 : decode cX8_layOn 84 = .ok (.iinc 3 1, 3) := by decide +kernel
theorem dX8_layOn_87 : decode cX8_layOn 87 = .ok (.iinc 5 1, 3) := by decide +kernel
theorem dX8_layOn_90 : decode cX8_layOn 90 = .ok (.goto (-75), 3) := by decide +kernel
theorem dX8_layOn_93 : decode cX8_layOn 93 = .ok (.iinc 4 1, 3) := by decide +kernel
theorem dX8_layOn_96 : decode cX8_layOn 96 = .ok (.goto (-91), 3) := by decide +kernel
theorem dX8_layOn_99 : decode cX8_layOn 99 = .ok (.iload_n 3, 1) := by decide +kernel
theorem dX8_layOn_100 : decode cX8_layOn 100 = .ok (.aload_n 0, 1) := by decide +kernel
theorem dX8_layOn_101 : decode cX8_layOn 101 = .ok (.getfield 54, 3) := by decide +kernel
theorem dX8_layOn_104 : decode cX8_layOn 104 = .ok (.if_icmp .ne 7, 3) := by decide +kernel
theorem dX8_layOn_107 : decode cX8_layOn 107 = .ok (.iconst 1, 1) := by decide +kernel
theorem dX8_layOn_108 : decode cX8_layOn 108 = .ok (.goto 4, 3) := by decide +kernel
theorem dX8_layOn_111 : decode cX8_layOn 111 = .ok (.iconst 0, 1) := by decide +kernel
theorem dX8_layOn_112 : decode cX8_layOn 112 = .ok (.ireturn, 1) := by decide +kernel
theorem dX8_band_0 : decode cX8_band 0 = .ok (.bipush (-9), 2) := by decide +kernel
theorem dX8_band_2 : decode cX8_band 2 = .ok (.istore_n 1, 1) := by decide +kernel
theorem dX8_band_3 : decode cX8_band 3 = .ok (.iconst 5, 1) := by decide +kernel
theorem dX8_band_4 : decode cX8_band 4 = .ok (.istore_n 2, 1) := by decide +kernel
theorem dX8_band_5 : decode cX8_band 5 = .ok (.iload_n 2, 1) := by decide +kernel
theorem dX8_band_6 : decode cX8_band 6 = .ok (.ifCond .lt 38, 3) := by decide +kernel
theorem dX8_band_9 : decode cX8_band 9 = .ok (.aload_n 0, 1) := by decide +kernel
theorem dX8_band_10 : decode cX8_band 10 = .ok (.getfield 13, 3) := by decide +kernel
theorem dX8_band_13 : decode cX8_band 13 = .ok (.aload_n 0, 1) := by decide +kernel
theorem dX8_band_14 : decode cX8_band 14 = .ok (.getfield 16, 3) := by decide +kernel
theorem dX8_band_17 : decode cX8_band 17 = .ok (.invokestatic 134, 3) := by decide +kernel
theorem dX8_band_20 : decode cX8_band 20 = .ok (.aload_n 0, 1) := by decide +kernel
theorem dX8_band_21 : decode cX8_band 21 = .ok (.aload_n 0, 1) := by decide +kernel
theorem dX8_band_22 : decode cX8_band 22 = .ok (.getfield 16, 3) := by decide +kernel
theorem dX8_band_25 : decode cX8_band 25 = .ok (.iload_n 2, 1) := by decide +kernel
theorem dX8_band_26 : decode cX8_band 26 = .ok (.invokevirtual 145, 3) := by decide +kernel
theorem dX8_band_29 : decode cX8_band 29 = .ok (.ifCond .eq 7, 3) := by decide +kernel
theorem dX8_band_32 : decode cX8_band 32 = .ok (.iload_n 2, 1) := by decide +kernel
theorem dX8_band_33 : decode cX8_band 33 = .ok (.goto 4, 3) := by decide +kernel
theorem dX8_band_36 : decode cX8_band 36 = .ok (.iload_n 1, 1) := by decide +kernel
theorem dX8_band_37 : decode cX8_band 37 = .ok (.istore_n 1, 1) := by decide +kernel
theorem dX8_band_38 : decode cX8_band 38 = .ok (.iinc 2 (-1), 3) := by decide +kernel
theorem dX8_band_41 : decode cX8_band 41 = .ok (.goto (-36), 3) := by decide +kernel
theorem dX8_band_44 : decode cX8_band 44 = .ok (.iload_n 1, 1) := by decide +kernel
theorem dX8_band_45 : decode cX8_band 45 = .ok (.ireturn, 1) := by decide +kernel
theorem dX8_about_0 : decode cX8_about 0 = .ok (.iload_n 1, 1) := by decide +kernel
theorem dX8_about_1 : decode cX8_about 1 = .ok (.tableswitch 177 0 14 #[75, 80, 85, 90, 98, 106, 111, 127, 137, 147, 152, 157, 162, 167, 172], 75) := by decide +kernel
theorem dX8_about_76 : decode cX8_about 76 = .ok (.aload_n 0, 1) := by decide +kernel
theorem dX8_about_77 : decode cX8_about 77 = .ok (.getfield 47, 3) := by decide +kernel
theorem dX8_about_80 : decode cX8_about 80 = .ok (.ireturn, 1) := by decide +kernel
theorem dX8_about_81 : decode cX8_about 81 = .ok (.aload_n 0, 1) := by decide +kernel
theorem dX8_about_82 : decode cX8_about 82 = .ok (.getfield 51, 3) := by decide +kernel
theorem dX8_about_85 : decode cX8_about 85 = .ok (.ireturn, 1) := by decide +kernel
theorem dX8_about_86 : decode cX8_about 86 = .ok (.aload_n 0, 1) := by decide +kernel
theorem dX8_about_87 : decode cX8_about 87 = .ok (.getfield 54, 3) := by decide +kernel
theorem dX8_about_90 : decode cX8_about 90 = .ok (.ireturn, 1) := by decide +kernel
theorem dX8_about_91 : decode cX8_about 91 = .ok (.aload_n 0, 1) := by decide +kernel
theorem dX8_about_92 : decode cX8_about 92 = .ok (.getfield 13, 3) := by decide +kernel
theorem dX8_about_95 : decode cX8_about 95 = .ok (.bipush 36, 2) := by decide +kernel
theorem dX8_about_97 : decode cX8_about 97 = .ok (.iaload, 1) := by decide +kernel
theorem dX8_about_98 : decode cX8_about 98 = .ok (.ireturn, 1) := by decide +kernel
theorem dX8_about_99 : decode cX8_about 99 = .ok (.aload_n 0, 1) := by decide +kernel
theorem dX8_about_100 : decode cX8_about 100 = .ok (.getfield 13, 3) := by decide +kernel
theorem dX8_about_103 : decode cX8_about 103 = .ok (.bipush 37, 2) := by decide +kernel
theorem dX8_about_105 : decode cX8_about 105 = .ok (.iaload, 1) := by decide +kernel
theorem dX8_about_106 : decode cX8_about 106 = .ok (.ireturn, 1) := by decide +kernel
theorem dX8_about_107 : decode cX8_about 107 = .ok (.aload_n 0, 1) := by decide +kernel
theorem dX8_about_108 : decode cX8_about 108 = .ok (.invokevirtual 149, 3) := by decide +kernel
theorem dX8_about_111 : decode cX8_about 111 = .ok (.ireturn, 1) := by decide +kernel
theorem dX8_about_112 : decode cX8_about 112 = .ok (.aload_n 0, 1) := by decide +kernel
theorem dX8_about_113 : decode cX8_about 113 = .ok (.aload_n 0, 1) := by decide +kernel
theorem dX8_about_114 : decode cX8_about 114 = .ok (.getfield 13, 3) := by decide +kernel
theorem dX8_about_117 : decode cX8_about 117 = .ok (.aload_n 0, 1) := by decide +kernel
theorem dX8_about_118 : decode cX8_about 118 = .ok (.getfield 13, 3) := by decide +kernel
theorem dX8_about_121 : decode cX8_about 121 = .ok (.bipush 37, 2) := by decide +kernel
theorem dX8_about_123 : decode cX8_about 123 = .ok (.iaload, 1) := by decide +kernel
theorem dX8_about_124 : decode cX8_about 124 = .ok (.invokevirtual 142, 3) := by decide +kernel
theorem dX8_about_127 : decode cX8_about 127 = .ok (.ireturn, 1) := by decide +kernel
theorem dX8_about_128 : decode cX8_about 128 = .ok (.aload_n 0, 1) := by decide +kernel
theorem dX8_about_129 : decode cX8_about 129 = .ok (.aload_n 0, 1) := by decide +kernel
theorem dX8_about_130 : decode cX8_about 130 = .ok (.getfield 13, 3) := by decide +kernel
theorem dX8_about_133 : decode cX8_about 133 = .ok (.iconst 0, 1) := by decide +kernel
theorem dX8_about_134 : decode cX8_about 134 = .ok (.invokevirtual 110, 3) := by decide +kernel
theorem dX8_about_137 : decode cX8_about 137 = .ok (.ireturn, 1) := by decide +kernel
theorem dX8_about_138 : decode cX8_about 138 = .ok (.aload_n 0, 1) := by decide +kernel
theorem dX8_about_139 : decode cX8_about 139 = .ok (.aload_n 0, 1) := by decide +kernel
theorem dX8_about_140 : decode cX8_about 140 = .ok (.getfield 13, 3) := by decide +kernel
theorem dX8_about_143 : decode cX8_about 143 = .ok (.iconst 1, 1) := by decide +kernel
theorem dX8_about_144 : decode cX8_about 144 = .ok (.invokevirtual 110, 3) := by decide +kernel
theorem dX8_about_147 : decode cX8_about 147 = .ok (.ireturn, 1) := by decide +kernel
theorem dX8_about_148 : decode cX8_about 148 = .ok (.aload_n 0, 1) := by decide +kernel
theorem dX8_about_149 : decode cX8_about 149 = .ok (.invokevirtual 152, 3) := by decide +kernel
theorem dX8_about_152 : decode cX8_about 152 = .ok (.ireturn, 1) := by decide +kernel
theorem dX8_about_153 : decode cX8_about 153 = .ok (.aload_n 0, 1) := by decide +kernel
theorem dX8_about_154 : decode cX8_about 154 = .ok (.invokevirtual 155, 3) := by decide +kernel
theorem dX8_about_157 : decode cX8_about 157 = .ok (.ireturn, 1) := by decide +kernel
theorem dX8_about_158 : decode cX8_about 158 = .ok (.aload_n 0, 1) := by decide +kernel
theorem dX8_about_159 : decode cX8_about 159 = .ok (.invokevirtual 158, 3) := by decide +kernel
theorem dX8_about_162 : decode cX8_about 162 = .ok (.ireturn, 1) := by decide +kernel
theorem dX8_about_163 : decode cX8_about 163 = .ok (.aload_n 0, 1) := by decide +kernel
theorem dX8_about_164 : decode cX8_about 164 = .ok (.getfield 99, 3) := by decide +kernel
theorem dX8_about_167 : decode cX8_about 167 = .ok (.ireturn, 1) := by decide +kernel
theorem dX8_about_168 : decode cX8_about 168 = .ok (.aload_n 0, 1) := by decide +kernel
theorem dX8_about_169 : decode cX8_about 169 = .ok (.getfield 161, 3) := by decide +kernel
theorem dX8_about_172 : decode cX8_about 172 = .ok (.ireturn, 1) := by decide +kernel
theorem dX8_about_173 : decode cX8_about 173 = .ok (.aload_n 0, 1) := by decide +kernel
theorem dX8_about_174 : decode cX8_about 174 = .ok (.getfield 65, 3) := by decide +kernel
theorem dX8_about_177 : decode cX8_about 177 = .ok (.ireturn, 1) := by decide +kernel
theorem dX8_about_178 : decode cX8_about 178 = .ok (.bipush (-2), 2) := by decide +kernel
theorem dX8_about_180 : decode cX8_about 180 = .ok (.ireturn, 1) := by decide +kernel
theorem dX8_howOften_0 : decode cX8_howOften 0 = .ok (.iconst 0, 1) := by decide +kernel
theorem dX8_howOften_1 : decode cX8_howOften 1 = .ok (.istore_n 2, 1) := by decide +kernel
theorem dX8_howOften_2 : decode cX8_howOften 2 = .ok (.iconst 0, 1) := by decide +kernel
theorem dX8_howOften_3 : decode cX8_howOften 3 = .ok (.istore_n 3, 1) := by decide +kernel
theorem dX8_howOften_4 : decode cX8_howOften 4 = .ok (.iload_n 3, 1) := by decide +kernel
theorem dX8_howOften_5 : decode cX8_howOften 5 = .ok (.bipush 16, 2) := by decide +kernel
theorem dX8_howOften_7 : decode cX8_howOften 7 = .ok (.if_icmp .ge 30, 3) := by decide +kernel
theorem dX8_howOften_10 : decode cX8_howOften 10 = .ok (.iload_n 2, 1) := by decide +kernel
theorem dX8_howOften_11 : decode cX8_howOften 11 = .ok (.aload_n 0, 1) := by decide +kernel
theorem dX8_howOften_12 : decode cX8_howOften 12 = .ok (.getfield 13, 3) := by decide +kernel
theorem dX8_howOften_15 : decode cX8_howOften 15 = .ok (.bipush 20, 2) := by decide +kernel
theorem dX8_howOften_17 : decode cX8_howOften 17 = .ok (.iload_n 3, 1) := by decide +kernel
theorem dX8_howOften_18 : decode cX8_howOften 18 = .ok (.iadd, 1) := by decide +kernel
theorem dX8_howOften_19 : decode cX8_howOften 19 = .ok (.iaload, 1) := by decide +kernel
theorem dX8_howOften_20 : decode cX8_howOften 20 = .ok (.iload_n 1, 1) := by decide +kernel
theorem dX8_howOften_21 : decode cX8_howOften 21 = .ok (.if_icmp .ne 7, 3) := by decide +kernel
theorem dX8_howOften_24 : decode cX8_howOften 24 = .ok (.iconst 1, 1) := by decide +kernel
theorem dX8_howOften_25 : decode cX8_howOften 25 = .ok (.goto 4, 3) := by decide +kernel
theorem dX8_howOften_28 : decode cX8_howOften 28 = .ok (.iconst 0, 1) := by decide +kernel
theorem dX8_howOften_29 : decode cX8_howOften 29 = .ok (.iadd, 1) := by decide +kernel
theorem dX8_howOften_30 : decode cX8_howOften 30 = .ok (.istore_n 2, 1) := by decide +kernel
theorem dX8_howOften_31 : decode cX8_howOften 31 = .ok (.iinc 3 1, 3) := by decide +kernel
theorem dX8_howOften_34 : decode cX8_howOften 34 = .ok (.goto (-30), 3) := by decide +kernel
theorem dX8_howOften_37 : decode cX8_howOften 37 = .ok (.iload_n 2, 1) := by decide +kernel
theorem dX8_howOften_38 : decode cX8_howOften 38 = .ok (.ireturn, 1) := by decide +kernel
theorem dX8_shade_0 : decode cX8_shade 0 = .ok (.aload_n 0, 1) := by decide +kernel
theorem dX8_shade_1 : decode cX8_shade 1 = .ok (.iload_n 1, 1) := by decide +kernel
theorem dX8_shade_2 : decode cX8_shade 2 = .ok (.invokevirtual 164, 3) := by decide +kernel
theorem dX8_shade_5 : decode cX8_shade 5 = .ok (.ifCond .ne 5, 3) := by decide +kernel
theorem dX8_shade_8 : decode cX8_shade 8 = .ok (.iconst (-1), 1) := by decide +kernel
theorem dX8_shade_9 : decode cX8_shade 9 = .ok (.ireturn, 1) := by decide +kernel
theorem dX8_shade_10 : decode cX8_shade 10 = .ok (.iload_n 2, 1) := by decide +kernel
theorem dX8_shade_11 : decode cX8_shade 11 = .ok (.tableswitch 51 0 2 #[25, 35, 45], 25) := by decide +kernel
theorem dX8_shade_36 : decode cX8_shade 36 = .ok (.aload_n 0, 1) := by decide +kernel
theorem dX8_shade_37 : decode cX8_shade 37 = .ok (.getfield 13, 3) := by decide +kernel
theorem dX8_shade_40 : decode cX8_shade 40 = .ok (.iload_n 1, 1) := by decide +kernel
theorem dX8_shade_41 : decode cX8_shade 41 = .ok (.iaload, 1) := by decide +kernel
theorem dX8_shade_42 : decode cX8_shade 42 = .ok (.bipush 6, 2) := by decide +kernel
theorem dX8_shade_44 : decode cX8_shade 44 = .ok (.idiv, 1) := by decide +kernel
theorem dX8_shade_45 : decode cX8_shade 45 = .ok (.ireturn, 1) := by decide +kernel
theorem dX8_shade_46 : decode cX8_shade 46 = .ok (.aload_n 0, 1) := by decide +kernel
theorem dX8_shade_47 : decode cX8_shade 47 = .ok (.getfield 13, 3) := by decide +kernel
theorem dX8_shade_50 : decode cX8_shade 50 = .ok (.iload_n 1, 1) := by decide +kernel
theorem dX8_shade_51 : decode cX8_shade 51 = .ok (.iaload, 1) := by decide +kernel
theorem dX8_shade_52 : decode cX8_shade 52 = .ok (.bipush 6, 2) := by decide +kernel
theorem dX8_shade_54 : decode cX8_shade 54 = .ok (.irem, 1) := by decide +kernel
theorem dX8_shade_55 : decode cX8_shade 55 = .ok (.ireturn, 1) := by decide +kernel
theorem dX8_shade_56 : decode cX8_shade 56 = .ok (.aload_n 0, 1) := by decide +kernel
theorem dX8_shade_57 : decode cX8_shade 57 = .ok (.iload_n 1, 1) := by decide +kernel
theorem dX8_shade_58 : decode cX8_shade 58 = .ok (.invokevirtual 167, 3) := by decide +kernel
theorem dX8_shade_61 : decode cX8_shade 61 = .ok (.ireturn, 1) := by decide +kernel
theorem dX8_shade_62 : decode cX8_shade 62 = .ok (.bipush (-2), 2) := by decide +kernel
theorem dX8_shade_64 : decode cX8_shade 64 = .ok (.ireturn, 1) := by decide +kernel
theorem dX8_shadeAt_0 : decode cX8_shadeAt 0 = .ok (.bipush (-9), 2) := by decide +kernel
theorem dX8_shadeAt_2 : decode cX8_shadeAt 2 = .ok (.istore_n 2, 1) := by decide +kernel
theorem dX8_shadeAt_3 : decode cX8_shadeAt 3 = .ok (.iconst 0, 1) := by decide +kernel
theorem dX8_shadeAt_4 : decode cX8_shadeAt 4 = .ok (.istore_n 3, 1) := by decide +kernel
theorem dX8_shadeAt_5 : decode cX8_shadeAt 5 = .ok (.iload_n 3, 1) := by decide +kernel
theorem dX8_shadeAt_6 : decode cX8_shadeAt 6 = .ok (.aload_n 0, 1) := by decide +kernel
theorem dX8_shadeAt_7 : decode cX8_shadeAt 7 = .ok (.getfield 54, 3) := by decide +kernel
theorem dX8_shadeAt_10 : decode cX8_shadeAt 10 = .ok (.if_icmp .ge 25, 3) := by decide +kernel
theorem dX8_shadeAt_13 : decode cX8_shadeAt 13 = .ok (.aload_n 0, 1) := by decide +kernel
theorem dX8_shadeAt_14 : decode cX8_shadeAt 14 = .ok (.getfield 13, 3) := by decide +kernel
theorem dX8_shadeAt_17 : decode cX8_shadeAt 17 = .ok (.iload_n 3, 1) := by decide +kernel
theorem dX8_shadeAt_18 : decode cX8_shadeAt 18 = .ok (.iaload, 1) := by decide +kernel
theorem dX8_shadeAt_19 : decode cX8_shadeAt 19 = .ok (.iload_n 1, 1) := by decide +kernel
theorem dX8_shadeAt_20 : decode cX8_shadeAt 20 = .ok (.if_icmp .ne 7, 3) := by decide +kernel
theorem dX8_shadeAt_23 : decode cX8_shadeAt 23 = .ok (.iload_n 3, 1) := by decide +kernel
theorem dX8_shadeAt_24 : decode cX8_shadeAt 24 = .ok (.goto 4, 3) := by decide +kernel
theorem dX8_shadeAt_27 : decode cX8_shadeAt 27 = .ok (.iload_n 2, 1) := by decide +kernel
theorem dX8_shadeAt_28 : decode cX8_shadeAt 28 = .ok (.istore_n 2, 1) := by decide +kernel
theorem dX8_shadeAt_29 : decode cX8_shadeAt 29 = .ok (.iinc 3 1, 3) := by decide +kernel
theorem dX8_shadeAt_32 : decode cX8_shadeAt 32 = .ok (.goto (-27), 3) := by decide +kernel
theorem dX8_shadeAt_35 : decode cX8_shadeAt 35 = .ok (.iload_n 2, 1) := by decide +kernel
theorem dX8_shadeAt_36 : decode cX8_shadeAt 36 = .ok (.ireturn, 1) := by decide +kernel
theorem dX8_isCell_0 : decode cX8_isCell 0 = .ok (.iload_n 1, 1) := by decide +kernel
theorem dX8_isCell_1 : decode cX8_isCell 1 = .ok (.i2l, 1) := by decide +kernel
theorem dX8_isCell_2 : decode cX8_isCell 2 = .ok (.lconst 0, 1) := by decide +kernel
theorem dX8_isCell_3 : decode cX8_isCell 3 = .ok (.aload_n 0, 1) := by decide +kernel
theorem dX8_isCell_4 : decode cX8_isCell 4 = .ok (.getfield 47, 3) := by decide +kernel
theorem dX8_isCell_7 : decode cX8_isCell 7 = .ok (.iconst 1, 1) := by decide +kernel
theorem dX8_isCell_8 : decode cX8_isCell 8 = .ok (.isub, 1) := by decide +kernel
theorem dX8_isCell_9 : decode cX8_isCell 9 = .ok (.i2l, 1) := by decide +kernel
theorem dX8_isCell_10 : decode cX8_isCell 10 = .ok (.invokestatic 57, 3) := by decide +kernel
theorem dX8_isCell_13 : decode cX8_isCell 13 = .ok (.ifCond .eq 23, 3) := by decide +kernel
theorem dX8_isCell_16 : decode cX8_isCell 16 = .ok (.iload_n 2, 1) := by decide +kernel
theorem dX8_isCell_17 : decode cX8_isCell 17 = .ok (.i2l, 1) := by decide +kernel
theorem dX8_isCell_18 : decode cX8_isCell 18 = .ok (.lconst 0, 1) := by decide +kernel
theorem dX8_isCell_19 : decode cX8_isCell 19 = .ok (.aload_n 0, 1) := by decide +kernel
theorem dX8_isCell_20 : decode cX8_isCell 20 = .ok (.getfield 51, 3) := by decide +kernel
theorem dX8_isCell_23 : decode cX8_isCell 23 = .ok (.iconst 1, 1) := by decide +kernel
theorem dX8_isCell_24 : decode cX8_isCell 24 = .ok (.isub, 1) := by decide +kernel
theorem dX8_isCell_25 : decode cX8_isCell 25 = .ok (.i2l, 1) := by decide +kernel
theorem dX8_isCell_26 : decode cX8_isCell 26 = .ok (.invokestatic 57, 3) := by decide +kernel
theorem dX8_isCell_29 : decode cX8_isCell 29 = .ok (.ifCond .eq 7, 3) := by decide +kernel
theorem dX8_isCell_32 : decode cX8_isCell 32 = .ok (.iconst 1, 1) := by decide +kernel
theorem dX8_isCell_33 : decode cX8_isCell 33 = .ok (.goto 4, 3) := by decide +kernel
theorem dX8_isCell_36 : decode cX8_isCell 36 = .ok (.iconst 0, 1) := by decide +kernel
theorem dX8_isCell_37 : decode cX8_isCell 37 = .ok (.ireturn, 1) := by decide +kernel
theorem dX8_cell_0 : decode cX8_cell 0 = .ok (.aload_n 0, 1) := by decide +kernel
theorem dX8_cell_1 : decode cX8_cell 1 = .ok (.iload_n 1, 1) := by decide +kernel
theorem dX8_cell_2 : decode cX8_cell 2 = .ok (.iload_n 2, 1) := by decide +kernel
theorem dX8_cell_3 : decode cX8_cell 3 = .ok (.invokevirtual 171, 3) := by decide +kernel
theorem dX8_cell_6 : decode cX8_cell 6 = .ok (.ifCond .eq 16, 3) := by decide +kernel
theorem dX8_cell_9 : decode cX8_cell 9 = .ok (.aload_n 0, 1) := by decide +kernel
theorem dX8_cell_10 : decode cX8_cell 10 = .ok (.bipush 6, 2) := by decide +kernel
theorem dX8_cell_12 : decode cX8_cell 12 = .ok (.iload_n 1, 1) := by decide +kernel
theorem dX8_cell_13 : decode cX8_cell 13 = .ok (.imul, 1) := by decide +kernel
theorem dX8_cell_14 : decode cX8_cell 14 = .ok (.iload_n 2, 1) := by decide +kernel
theorem dX8_cell_15 : decode cX8_cell 15 = .ok (.iadd, 1) := by decide +kernel
theorem dX8_cell_16 : decode cX8_cell 16 = .ok (.invokevirtual 174, 3) := by decide +kernel
theorem dX8_cell_19 : decode cX8_cell 19 = .ok (.goto 4, 3) := by decide +kernel
theorem dX8_cell_22 : decode cX8_cell 22 = .ok (.iconst (-1), 1) := by decide +kernel
theorem dX8_cell_23 : decode cX8_cell 23 = .ok (.ireturn, 1) := by decide +kernel
theorem dX8_guess_0 : decode cX8_guess 0 = .ok (.iload_n 1, 1) := by decide +kernel
theorem dX8_guess_1 : decode cX8_guess 1 = .ok (.i2l, 1) := by decide +kernel
theorem dX8_guess_2 : decode cX8_guess 2 = .ok (.lconst 0, 1) := by decide +kernel
theorem dX8_guess_3 : decode cX8_guess 3 = .ok (.lconst 1, 1) := by decide +kernel
theorem dX8_guess_4 : decode cX8_guess 4 = .ok (.invokestatic 57, 3) := by decide +kernel
theorem dX8_guess_7 : decode cX8_guess 7 = .ok (.ifCond .ne 6, 3) := by decide +kernel
theorem dX8_guess_10 : decode cX8_guess 10 = .ok (.bipush (-2), 2) := by decide +kernel
theorem dX8_guess_12 : decode cX8_guess 12 = .ok (.ireturn, 1) := by decide +kernel
theorem dX8_guess_13 : decode cX8_guess 13 = .ok (.iload_n 2, 1) := by decide +kernel
theorem dX8_guess_14 : decode cX8_guess 14 = .ok (.i2l, 1) := by decide +kernel
theorem dX8_guess_15 : decode cX8_guess 15 = .ok (.lconst 0, 1) := by decide +kernel
theorem dX8_guess_16 : decode cX8_guess 16 = .ok (.iload_n 1, 1) := by decide +kernel
theorem dX8_guess_17 : decode cX8_guess 17 = .ok (.ifCond .ne 10, 3) := by decide +kernel
theorem dX8_guess_20 : decode cX8_guess 20 = .ok (.aload_n 0, 1) := by decide +kernel
theorem dX8_guess_21 : decode cX8_guess 21 = .ok (.getfield 47, 3) := by decide +kernel
theorem dX8_guess_24 : decode cX8_guess 24 = .ok (.goto 7, 3) := by decide +kernel
theorem dX8_guess_27 : decode cX8_guess 27 = .ok (.aload_n 0, 1) := by decide +kernel
theorem dX8_guess_28 : decode cX8_guess 28 = .ok (.getfield 51, 3) := by decide +kernel
theorem dX8_guess_31 : decode cX8_guess 31 = .ok (.iconst 1, 1) := by decide +kernel
theorem dX8_guess_32 : decode cX8_guess 32 = .ok (.isub, 1) := by decide +kernel
theorem dX8_guess_33 : decode cX8_guess 33 = .ok (.i2l, 1) := by decide +kernel
theorem dX8_guess_34 : decode cX8_guess 34 = .ok (.invokestatic 57, 3) := by decide +kernel
theorem dX8_guess_37 : decode cX8_guess 37 = .ok (.ifCond .eq 16, 3) := by decide +kernel
theorem dX8_guess_40 : decode cX8_guess 40 = .ok (.aload_n 0, 1) := by decide +kernel
theorem dX8_guess_41 : decode cX8_guess 41 = .ok (.aload_n 0, 1) := by decide +kernel
theorem dX8_guess_42 : decode cX8_guess 42 = .ok (.getfield 13, 3) := by decide +kernel
theorem dX8_guess_45 : decode cX8_guess 45 = .ok (.iload_n 1, 1) := by decide +kernel
theorem dX8_guess_46 : decode cX8_guess 46 = .ok (.iload_n 2, 1) := by decide +kernel
theorem dX8_guess_47 : decode cX8_guess 47 = .ok (.invokevirtual 106, 3) := by decide +kernel
theorem dX8_guess_50 : decode cX8_guess 50 = .ok (.goto 4, 3) := by decide +kernel
theorem dX8_guess_53 : decode cX8_guess 53 = .ok (.iconst (-1), 1) := by decide +kernel
theorem dX8_guess_54 : decode cX8_guess 54 = .ok (.ireturn, 1) := by decide +kernel
theorem dX8_dot_0 : decode cX8_dot 0 = .ok (.iload_n 1, 1) := by decide +kernel
theorem dX8_dot_1 : decode cX8_dot 1 = .ok (.invokestatic 177, 3) := by decide +kernel
theorem dX8_dot_4 : decode cX8_dot 4 = .ok (.ifCond .eq 10, 3) := by decide +kernel
theorem dX8_dot_7 : decode cX8_dot 7 = .ok (.iload_n 2, 1) := by decide +kernel
theorem dX8_dot_8 : decode cX8_dot 8 = .ok (.invokestatic 177, 3) := by decide +kernel
theorem dX8_dot_11 : decode cX8_dot 11 = .ok (.ifCond .ne 5, 3) := by decide +kernel
theorem dX8_dot_14 : decode cX8_dot 14 = .ok (.iconst (-1), 1) := by decide +kernel
theorem dX8_dot_15 : decode cX8_dot 15 = .ok (.ireturn, 1) := by decide +kernel
theorem dX8_dot_16 : decode cX8_dot 16 = .ok (.aload_n 0, 1) := by decide +kernel
theorem dX8_dot_17 : decode cX8_dot 17 = .ok (.aload_n 0, 1) := by decide +kernel
theorem dX8_dot_18 : decode cX8_dot 18 = .ok (.getfield 13, 3) := by decide +kernel
theorem dX8_dot_21 : decode cX8_dot 21 = .ok (.aload_n 0, 1) := by decide +kernel
theorem dX8_dot_22 : decode cX8_dot 22 = .ok (.getfield 13, 3) := by decide +kernel
theorem dX8_dot_25 : decode cX8_dot 25 = .ok (.bipush 37, 2) := by decide +kernel
theorem dX8_dot_27 : decode cX8_dot 27 = .ok (.iaload, 1) := by decide +kernel
theorem dX8_dot_28 : decode cX8_dot 28 = .ok (.invokevirtual 126, 3) := by decide +kernel
theorem dX8_dot_31 : decode cX8_dot 31 = .ok (.iload_n 3, 1) := by decide +kernel
theorem dX8_dot_32 : decode cX8_dot 32 = .ok (.ifCond .eq 16, 3) := by decide +kernel
theorem dX8_dot_35 : decode cX8_dot 35 = .ok (.aload_n 0, 1) := by decide +kernel
theorem dX8_dot_36 : decode cX8_dot 36 = .ok (.getfield 35, 3) := by decide +kernel
theorem dX8_dot_39 : decode cX8_dot 39 = .ok (.iconst 4, 1) := by decide +kernel
theorem dX8_dot_40 : decode cX8_dot 40 = .ok (.iload_n 1, 1) := by decide +kernel
theorem dX8_dot_41 : decode cX8_dot 41 = .ok (.imul, 1) := by decide +kernel
theorem dX8_dot_42 : decode cX8_dot 42 = .ok (.iload_n 2, 1) := by decide +kernel
theorem dX8_dot_43 : decode cX8_dot 43 = .ok (.iadd, 1) := by decide +kernel
theorem dX8_dot_44 : decode cX8_dot 44 = .ok (.iaload, 1) := by decide +kernel
theorem dX8_dot_45 : decode cX8_dot 45 = .ok (.goto 16, 3) := by decide +kernel
theorem dX8_dot_48 : decode cX8_dot 48 = .ok (.aload_n 0, 1) := by decide +kernel
theorem dX8_dot_49 : decode cX8_dot 49 = .ok (.getfield 13, 3) := by decide +kernel
theorem dX8_dot_52 : decode cX8_dot 52 = .ok (.bipush 20, 2) := by decide +kernel
theorem dX8_dot_54 : decode cX8_dot 54 = .ok (.iconst 4, 1) := by decide +kernel
theorem dX8_dot_55 : decode cX8_dot 55 = .ok (.iload_n 1, 1) := by decide +kernel
theorem dX8_dot_56 : decode cX8_dot 56 = .ok (.imul, 1) := by decide +kernel
theorem dX8_dot_57 : decode cX8_dot 57 = .ok (.iadd, 1) := by decide +kernel
theorem dX8_dot_58 : decode cX8_dot 58 = .ok (.iload_n 2, 1) := by decide +kernel
theorem dX8_dot_59 : decode cX8_dot 59 = .ok (.iadd, 1) := by decide +kernel
theorem dX8_dot_60 : decode cX8_dot 60 = .ok (.iaload, 1) := by decide +kernel
theorem dX8_dot_61 : decode cX8_dot 61 = .ok (.ireturn, 1) := by decide +kernel
theorem dX8_note_0 : decode cX8_note 0 = .ok (.iconst 0, 1) := by decide +kernel
theorem dX8_note_1 : decode cX8_note 1 = .ok (.istore_n 1, 1) := by decide +kernel
theorem dX8_note_2 : decode cX8_note 2 = .ok (.iload_n 1, 1) := by decide +kernel
theorem dX8_note_3 : decode cX8_note 3 = .ok (.bipush 38, 2) := by decide +kernel
theorem dX8_note_5 : decode cX8_note 5 = .ok (.if_icmp .ge 29, 3) := by decide +kernel
theorem dX8_note_8 : decode cX8_note 8 = .ok (.aload_n 0, 1) := by decide +kernel
theorem dX8_note_9 : decode cX8_note 9 = .ok (.getfield 19, 3) := by decide +kernel
theorem dX8_note_12 : decode cX8_note 12 = .ok (.bipush 38, 2) := by decide +kernel
theorem dX8_note_14 : decode cX8_note 14 = .ok (.aload_n 0, 1) := by decide +kernel
theorem dX8_note_15 : decode cX8_note 15 = .ok (.getfield 180, 3) := by decide +kernel
theorem dX8_note_18 : decode cX8_note 18 = .ok (.imul, 1) := by decide +kernel
theorem dX8_note_19 : decode cX8_note 19 = .ok (.iload_n 1, 1) := by decide +kernel
theorem dX8_note_20 : decode cX8_note 20 = .ok (.iadd, 1) := by decide +kernel
theorem dX8_note_21 : decode cX8_note 21 = .ok (.aload_n 0, 1) := by decide +kernel
theorem dX8_note_22 : decode cX8_note 22 = .ok (.getfield 13, 3) := by decide +kernel
theorem dX8_note_25 : decode cX8_note 25 = .ok (.iload_n 1, 1) := by decide +kernel
theorem dX8_note_26 : decode cX8_note 26 = .ok (.iaload, 1) := by decide +kernel
theorem dX8_note_27 : decode cX8_note 27 = .ok (.iastore, 1) := by decide +kernel
theorem dX8_note_28 : decode cX8_note 28 = .ok (.iinc 1 1, 3) := by decide +kernel
theorem dX8_note_31 : decode cX8_note 31 = .ok (.goto (-29), 3) := by decide +kernel
theorem dX8_note_34 : decode cX8_note 34 = .ok (.aload_n 0, 1) := by decide +kernel
theorem dX8_note_35 : decode cX8_note 35 = .ok (.aload_n 0, 1) := by decide +kernel
theorem dX8_note_36 : decode cX8_note 36 = .ok (.getfield 180, 3) := by decide +kernel
theorem dX8_note_39 : decode cX8_note 39 = .ok (.iconst 1, 1) := by decide +kernel
theorem dX8_note_40 : decode cX8_note 40 = .ok (.iadd, 1) := by decide +kernel
theorem dX8_note_41 : decode cX8_note 41 = .ok (.bipush 14, 2) := by decide +kernel
theorem dX8_note_43 : decode cX8_note 43 = .ok (.irem, 1) := by decide +kernel
theorem dX8_note_44 : decode cX8_note 44 = .ok (.putfield 180, 3) := by decide +kernel
theorem dX8_note_47 : decode cX8_note 47 = .ok (.aload_n 0, 1) := by decide +kernel
theorem dX8_note_48 : decode cX8_note 48 = .ok (.aload_n 0, 1) := by decide +kernel
theorem dX8_note_49 : decode cX8_note 49 = .ok (.getfield 99, 3) := by decide +kernel
theorem dX8_note_52 : decode cX8_note 52 = .ok (.bipush 14, 2) := by decide +kernel
theorem dX8_note_54 : decode cX8_note 54 = .ok (.if_icmp .ge 12, 3) := by decide +kernel
theorem dX8_note_57 : decode cX8_note 57 = .ok (.aload_n 0, 1) := by decide +kernel
theorem dX8_note_58 : decode cX8_note 58 = .ok (.getfield 99, 3) := by decide +kernel
theorem dX8_note_61 : decode cX8_note 61 = .ok (.iconst 1, 1) := by decide +kernel
theorem dX8_note_62 : decode cX8_note 62 = .ok (.iadd, 1) := by decide +kernel
theorem dX8_note_63 : decode cX8_note 63 = .ok (.goto 5, 3) := by decide +kernel
theorem dX8_note_66 : decode cX8_note 66 = .ok (.bipush 14, 2) := by decide +kernel
theorem dX8_note_68 : decode cX8_note 68 = .ok (.putfield 99, 3) := by decide +kernel
theorem dX8_note_71 : decode cX8_note 71 = .ok (.return_, 1) := by decide +kernel
theorem dX8_change_0 : decode cX8_change 0 = .ok (.aload_n 0, 1) := by decide +kernel
theorem dX8_change_1 : decode cX8_change 1 = .ok (.iload_n 1, 1) := by decide +kernel
theorem dX8_change_2 : decode cX8_change 2 = .ok (.invokevirtual 164, 3) := by decide +kernel
theorem dX8_change_5 : decode cX8_change 5 = .ok (.ifCond .eq 11, 3) := by decide +kernel
theorem dX8_change_8 : decode cX8_change 8 = .ok (.aload_n 0, 1) := by decide +kernel
theorem dX8_change_9 : decode cX8_change 9 = .ok (.iload_n 2, 1) := by decide +kernel
theorem dX8_change_10 : decode cX8_change 10 = .ok (.invokevirtual 164, 3) := by decide +kernel
theorem dX8_change_13 : decode cX8_change 13 = .ok (.ifCond .ne 5, 3) := by decide +kernel
theorem dX8_change_16 : decode cX8_change 16 = .ok (.iconst (-1), 1) := by decide +kernel
theorem dX8_change_17 : decode cX8_change 17 = .ok (.ireturn, 1) := by decide +kernel
theorem dX8_change_18 : decode cX8_change 18 = .ok (.iload_n 1, 1) := by decide +kernel
theorem dX8_change_19 : decode cX8_change 19 = .ok (.iload_n 2, 1) := by decide +kernel
theorem dX8_change_20 : decode cX8_change 20 = .ok (.if_icmp .ne 6, 3) := by decide +kernel
theorem dX8_change_23 : decode cX8_change 23 = .ok (.bipush (-3), 2) := by decide +kernel
theorem dX8_change_25 : decode cX8_change 25 = .ok (.ireturn, 1) := by decide +kernel
theorem dX8_change_26 : decode cX8_change 26 = .ok (.aload_n 0, 1) := by decide +kernel
theorem dX8_change_27 : decode cX8_change 27 = .ok (.invokevirtual 183, 3) := by decide +kernel
theorem dX8_change_30 : decode cX8_change 30 = .ok (.aload_n 0, 1) := by decide +kernel
theorem dX8_change_31 : decode cX8_change 31 = .ok (.getfield 13, 3) := by decide +kernel
theorem dX8_change_34 : decode cX8_change 34 = .ok (.iload_n 1, 1) := by decide +kernel
theorem dX8_change_35 : decode cX8_change 35 = .ok (.iload_n 2, 1) := by decide +kernel
theorem dX8_change_36 : decode cX8_change 36 = .ok (.invokestatic 138, 3) := by decide +kernel
theorem dX8_change_39 : decode cX8_change 39 = .ok (.aload_n 0, 1) := by decide +kernel
theorem dX8_change_40 : decode cX8_change 40 = .ok (.aload_n 0, 1) := by decide +kernel
theorem dX8_change_41 : decode cX8_change 41 = .ok (.getfield 13, 3) := by decide +kernel
theorem dX8_change_44 : decode cX8_change 44 = .ok (.invokevirtual 130, 3) := by decide +kernel
theorem dX8_change_47 : decode cX8_change 47 = .ok (.ireturn, 1) := by decide +kernel
theorem dX8_move_0 : decode cX8_move 0 = .ok (.aload_n 0, 1) := by decide +kernel
theorem dX8_move_1 : decode cX8_move 1 = .ok (.iload_n 1, 1) := by decide +kernel
theorem dX8_move_2 : decode cX8_move 2 = .ok (.invokevirtual 164, 3) := by decide +kernel
theorem dX8_move_5 : decode cX8_move 5 = .ok (.ifCond .eq 12, 3) := by decide +kernel
theorem dX8_move_8 : decode cX8_move 8 = .ok (.aload_n 0, 1) := by decide +kernel
theorem dX8_move_9 : decode cX8_move 9 = .ok (.iload_n 2, 1) := by decide +kernel
theorem dX8_move_10 : decode cX8_move 10 = .ok (.iload_n 3, 1) := by decide +kernel
theorem dX8_move_11 : decode cX8_move 11 = .ok (.invokevirtual 171, 3) := by decide +kernel
theorem dX8_move_14 : decode cX8_move 14 = .ok (.ifCond .ne 5, 3) := by decide +kernel
theorem dX8_move_17 : decode cX8_move 17 = .ok (.iconst (-1), 1) := by decide +kernel
theorem dX8_move_18 : decode cX8_move 18 = .ok (.ireturn, 1) := by decide +kernel
theorem dX8_move_19 : decode cX8_move 19 = .ok (.aload_n 0, 1) := by decide +kernel
theorem dX8_move_20 : decode cX8_move 20 = .ok (.bipush 6, 2) := by decide +kernel
theorem dX8_move_22 : decode cX8_move 22 = .ok (.iload_n 2, 1) := by decide +kernel
theorem dX8_move_23 : decode cX8_move 23 = .ok (.imul, 1) := by decide +kernel
theorem dX8_move_24 : decode cX8_move 24 = .ok (.iload_n 3, 1) := by decide +kernel
theorem dX8_move_25 : decode cX8_move 25 = .ok (.iadd, 1) := by decide +kernel
theorem dX8_move_26 : decode cX8_move 26 = .ok (.invokevirtual 174, 3) := by decide +kernel
theorem dX8_move_29 : decode cX8_move 29 = .ok (.bipush (-9), 2) := by decide +kernel
theorem dX8_move_31 : decode cX8_move 31 = .ok (.if_icmp .eq 6, 3) := by decide +kernel
theorem dX8_move_34 : decode cX8_move 34 = .ok (.bipush (-3), 2) := by decide +kernel
theorem dX8_move_36 : decode cX8_move 36 = .ok (.ireturn, 1) := by decide +kernel
theorem dX8_move_37 : decode cX8_move 37 = .ok (.aload_n 0, 1) := by decide +kernel
theorem dX8_move_38 : decode cX8_move 38 = .ok (.invokevirtual 183, 3) := by decide +kernel
theorem dX8_move_41 : decode cX8_move 41 = .ok (.aload_n 0, 1) := by decide +kernel
theorem dX8_move_42 : decode cX8_move 42 = .ok (.getfield 13, 3) := by decide +kernel
theorem dX8_move_45 : decode cX8_move 45 = .ok (.iload_n 1, 1) := by decide +kernel
theorem dX8_move_46 : decode cX8_move 46 = .ok (.bipush 6, 2) := by decide +kernel
theorem dX8_move_48 : decode cX8_move 48 = .ok (.iload_n 2, 1) := by decide +kernel
theorem dX8_move_49 : decode cX8_move 49 = .ok (.imul, 1) := by decide +kernel
theorem dX8_move_50 : decode cX8_move 50 = .ok (.iload_n 3, 1) := by decide +kernel
theorem dX8_move_51 : decode cX8_move 51 = .ok (.iadd, 1) := by decide +kernel
theorem dX8_move_52 : decode cX8_move 52 = .ok (.iastore, 1) := by decide +kernel
theorem dX8_move_53 : decode cX8_move 53 = .ok (.aload_n 0, 1) := by decide +kernel
theorem dX8_move_54 : decode cX8_move 54 = .ok (.aload_n 0, 1) := by decide +kernel
theorem dX8_move_55 : decode cX8_move 55 = .ok (.getfield 13, 3) := by decide +kernel
theorem dX8_move_58 : decode cX8_move 58 = .ok (.invokevirtual 130, 3) := by decide +kernel
theorem dX8_move_61 : decode cX8_move 61 = .ok (.ireturn, 1) := by decide +kernel
theorem dX8_lay_0 : decode cX8_lay 0 = .ok (.iload_n 1, 1) := by decide +kernel
theorem dX8_lay_1 : decode cX8_lay 1 = .ok (.i2l, 1) := by decide +kernel
theorem dX8_lay_2 : decode cX8_lay 2 = .ok (.lconst 0, 1) := by decide +kernel
theorem dX8_lay_3 : decode cX8_lay 3 = .ok (.ldc2_w 186, 3) := by decide +kernel
theorem dX8_lay_6 : decode cX8_lay 6 = .ok (.invokestatic 57, 3) := by decide +kernel
theorem dX8_lay_9 : decode cX8_lay 9 = .ok (.ifCond .ne 6, 3) := by decide +kernel
theorem dX8_lay_12 : decode cX8_lay 12 = .ok (.bipush (-2), 2) := by decide +kernel
theorem dX8_lay_14 : decode cX8_lay 14 = .ok (.ireturn, 1) := by decide +kernel
theorem dX8_lay_15 : decode cX8_lay 15 = .ok (.aload_n 0, 1) := by decide +kernel
theorem dX8_lay_16 : decode cX8_lay 16 = .ok (.getfield 13, 3) := by decide +kernel
theorem dX8_lay_19 : decode cX8_lay 19 = .ok (.aload_n 0, 1) := by decide +kernel
theorem dX8_lay_20 : decode cX8_lay 20 = .ok (.getfield 16, 3) := by decide +kernel
theorem dX8_lay_23 : decode cX8_lay 23 = .ok (.invokestatic 134, 3) := by decide +kernel
theorem dX8_lay_26 : decode cX8_lay 26 = .ok (.aload_n 0, 1) := by decide +kernel
theorem dX8_lay_27 : decode cX8_lay 27 = .ok (.aload_n 0, 1) := by decide +kernel
theorem dX8_lay_28 : decode cX8_lay 28 = .ok (.getfield 16, 3) := by decide +kernel
theorem dX8_lay_31 : decode cX8_lay 31 = .ok (.iload_n 1, 1) := by decide +kernel
theorem dX8_lay_32 : decode cX8_lay 32 = .ok (.invokevirtual 145, 3) := by decide +kernel
theorem dX8_lay_35 : decode cX8_lay 35 = .ok (.ifCond .ne 6, 3) := by decide +kernel
theorem dX8_lay_38 : decode cX8_lay 38 = .ok (.bipush (-3), 2) := by decide +kernel
theorem dX8_lay_40 : decode cX8_lay 40 = .ok (.ireturn, 1) := by decide +kernel
theorem dX8_lay_41 : decode cX8_lay 41 = .ok (.aload_n 0, 1) := by decide +kernel
theorem dX8_lay_42 : decode cX8_lay 42 = .ok (.invokevirtual 183, 3) := by decide +kernel
theorem dX8_lay_45 : decode cX8_lay 45 = .ok (.aload_n 0, 1) := by decide +kernel
theorem dX8_lay_46 : decode cX8_lay 46 = .ok (.getfield 16, 3) := by decide +kernel
theorem dX8_lay_49 : decode cX8_lay 49 = .ok (.aload_n 0, 1) := by decide +kernel
theorem dX8_lay_50 : decode cX8_lay 50 = .ok (.getfield 13, 3) := by decide +kernel
theorem dX8_lay_53 : decode cX8_lay 53 = .ok (.invokestatic 134, 3) := by decide +kernel
theorem dX8_lay_56 : decode cX8_lay 56 = .ok (.aload_n 0, 1) := by decide +kernel
theorem dX8_lay_57 : decode cX8_lay 57 = .ok (.aload_n 0, 1) := by decide +kernel
theorem dX8_lay_58 : decode cX8_lay 58 = .ok (.getfield 13, 3) := by decide +kernel
theorem dX8_lay_61 : decode cX8_lay 61 = .ok (.invokevirtual 130, 3) := by decide +kernel
theorem dX8_lay_64 : decode cX8_lay 64 = .ok (.ireturn, 1) := by decide +kernel
theorem dX8_paint_0 : decode cX8_paint 0 = .ok (.iload_n 1, 1) := by decide +kernel
theorem dX8_paint_1 : decode cX8_paint 1 = .ok (.invokestatic 177, 3) := by decide +kernel
theorem dX8_paint_4 : decode cX8_paint 4 = .ok (.ifCond .eq 18, 3) := by decide +kernel
theorem dX8_paint_7 : decode cX8_paint 7 = .ok (.iload_n 2, 1) := by decide +kernel
theorem dX8_paint_8 : decode cX8_paint 8 = .ok (.invokestatic 177, 3) := by decide +kernel
theorem dX8_paint_11 : decode cX8_paint 11 = .ok (.ifCond .eq 11, 3) := by decide +kernel
theorem dX8_paint_14 : decode cX8_paint 14 = .ok (.aload_n 0, 1) := by decide +kernel
theorem dX8_paint_15 : decode cX8_paint 15 = .ok (.iload_n 3, 1) := by decide +kernel
theorem dX8_paint_16 : decode cX8_paint 16 = .ok (.invokevirtual 164, 3) := by decide +kernel
theorem dX8_paint_19 : decode cX8_paint 19 = .ok (.ifCond .ne 5, 3) := by decide +kernel
theorem dX8_paint_22 : decode cX8_paint 22 = .ok (.iconst (-1), 1) := by decide +kernel
theorem dX8_paint_23 : decode cX8_paint 23 = .ok (.ireturn, 1) := by decide +kernel
theorem dX8_paint_24 : decode cX8_paint 24 = .ok (.aload_n 0, 1) := by decide +kernel
theorem dX8_paint_25 : decode cX8_paint 25 = .ok (.invokevirtual 183, 3) := by decide +kernel
theorem dX8_paint_28 : decode cX8_paint 28 = .ok (.aload_n 0, 1) := by decide +kernel
theorem dX8_paint_29 : decode cX8_paint 29 = .ok (.getfield 13, 3) := by decide +kernel
theorem dX8_paint_32 : decode cX8_paint 32 = .ok (.bipush 20, 2) := by decide +kernel
theorem dX8_paint_34 : decode cX8_paint 34 = .ok (.iconst 4, 1) := by decide +kernel
theorem dX8_paint_35 : decode cX8_paint 35 = .ok (.iload_n 1, 1) := by decide +kernel
theorem dX8_paint_36 : decode cX8_paint 36 = .ok (.imul, 1) := by decide +kernel
theorem dX8_paint_37 : decode cX8_paint 37 = .ok (.iadd, 1) := by decide +kernel
theorem dX8_paint_38 : decode cX8_paint 38 = .ok (.iload_n 2, 1) := by decide +kernel
theorem dX8_paint_39 : decode cX8_paint 39 = .ok (.iadd, 1) := by decide +kernel
theorem dX8_paint_40 : decode cX8_paint 40 = .ok (.iaload, 1) := by decide +kernel
theorem dX8_paint_41 : decode cX8_paint 41 = .ok (.istore 4, 2) := by decide +kernel
theorem dX8_paint_43 : decode cX8_paint 43 = .ok (.aload_n 0, 1) := by decide +kernel
theorem dX8_paint_44 : decode cX8_paint 44 = .ok (.getfield 13, 3) := by decide +kernel
theorem dX8_paint_47 : decode cX8_paint 47 = .ok (.bipush 20, 2) := by decide +kernel
theorem dX8_paint_49 : decode cX8_paint 49 = .ok (.iconst 4, 1) := by decide +kernel
theorem dX8_paint_50 : decode cX8_paint 50 = .ok (.iload_n 1, 1) := by decide +kernel
theorem dX8_paint_51 : decode cX8_paint 51 = .ok (.imul, 1) := by decide +kernel
theorem dX8_paint_52 : decode cX8_paint 52 = .ok (.iadd, 1) := by decide +kernel
theorem dX8_paint_53 : decode cX8_paint 53 = .ok (.iload_n 2, 1) := by decide +kernel
theorem dX8_paint_54 : decode cX8_paint 54 = .ok (.iadd, 1) := by decide +kernel
theorem dX8_paint_55 : decode cX8_paint 55 = .ok (.iload_n 3, 1) := by decide +kernel
theorem dX8_paint_56 : decode cX8_paint 56 = .ok (.iastore, 1) := by decide +kernel
theorem dX8_paint_57 : decode cX8_paint 57 = .ok (.iload 4, 2) := by decide +kernel
theorem dX8_paint_59 : decode cX8_paint 59 = .ok (.ireturn, 1) := by decide +kernel
theorem dX8_shift_0 : decode cX8_shift 0 = .ok (.iload_n 1, 1) := by decide +kernel
theorem dX8_shift_1 : decode cX8_shift 1 = .ok (.invokestatic 177, 3) := by decide +kernel
theorem dX8_shift_4 : decode cX8_shift 4 = .ok (.ifCond .ne 6, 3) := by decide +kernel
theorem dX8_shift_7 : decode cX8_shift 7 = .ok (.bipush (-2), 2) := by decide +kernel
theorem dX8_shift_9 : decode cX8_shift 9 = .ok (.ireturn, 1) := by decide +kernel
theorem dX8_shift_10 : decode cX8_shift 10 = .ok (.aload_n 0, 1) := by decide +kernel
theorem dX8_shift_11 : decode cX8_shift 11 = .ok (.invokevirtual 183, 3) := by decide +kernel
theorem dX8_shift_14 : decode cX8_shift 14 = .ok (.aload_n 0, 1) := by decide +kernel
theorem dX8_shift_15 : decode cX8_shift 15 = .ok (.getfield 13, 3) := by decide +kernel
theorem dX8_shift_18 : decode cX8_shift 18 = .ok (.bipush 36, 2) := by decide +kernel
theorem dX8_shift_20 : decode cX8_shift 20 = .ok (.iaload, 1) := by decide +kernel
theorem dX8_shift_21 : decode cX8_shift 21 = .ok (.istore_n 2, 1) := by decide +kernel
theorem dX8_shift_22 : decode cX8_shift 22 = .ok (.aload_n 0, 1) := by decide +kernel
theorem dX8_shift_23 : decode cX8_shift 23 = .ok (.getfield 13, 3) := by decide +kernel
theorem dX8_shift_26 : decode cX8_shift 26 = .ok (.bipush 36, 2) := by decide +kernel
theorem dX8_shift_28 : decode cX8_shift 28 = .ok (.iload_n 1, 1) := by decide +kernel
theorem dX8_shift_29 : decode cX8_shift 29 = .ok (.iastore, 1) := by decide +kernel
theorem dX8_shift_30 : decode cX8_shift 30 = .ok (.iload_n 2, 1) := by decide +kernel
theorem dX8_shift_31 : decode cX8_shift 31 = .ok (.ireturn, 1) := by decide +kernel
theorem dX8_lose_0 : decode cX8_lose 0 = .ok (.iload_n 1, 1) := by decide +kernel
theorem dX8_lose_1 : decode cX8_lose 1 = .ok (.invokestatic 177, 3) := by decide +kernel
theorem dX8_lose_4 : decode cX8_lose 4 = .ok (.ifCond .ne 5, 3) := by decide +kernel
theorem dX8_lose_7 : decode cX8_lose 7 = .ok (.iconst (-1), 1) := by decide +kernel
theorem dX8_lose_8 : decode cX8_lose 8 = .ok (.ireturn, 1) := by decide +kernel
theorem dX8_lose_9 : decode cX8_lose 9 = .ok (.aload_n 0, 1) := by decide +kernel
theorem dX8_lose_10 : decode cX8_lose 10 = .ok (.invokevirtual 183, 3) := by decide +kernel
theorem dX8_lose_13 : decode cX8_lose 13 = .ok (.aload_n 0, 1) := by decide +kernel
theorem dX8_lose_14 : decode cX8_lose 14 = .ok (.getfield 13, 3) := by decide +kernel
theorem dX8_lose_17 : decode cX8_lose 17 = .ok (.bipush 37, 2) := by decide +kernel
theorem dX8_lose_19 : decode cX8_lose 19 = .ok (.dup2, 1) := by decide +kernel
theorem dX8_lose_20 : decode cX8_lose 20 = .ok (.iaload, 1) := by decide +kernel
theorem dX8_lose_21 : decode cX8_lose 21 = .ok (.iconst 1, 1) := by decide +kernel
theorem dX8_lose_22 : decode cX8_lose 22 = .ok (.iload_n 1, 1) := by decide +kernel
theorem dX8_lose_23 : decode cX8_lose 23 = .ok (.ishl, 1) := by decide +kernel
theorem dX8_lose_24 : decode cX8_lose 24 = .ok (.ixor, 1) := by decide +kernel
theorem dX8_lose_25 : decode cX8_lose 25 = .ok (.iastore, 1) := by decide +kernel
theorem dX8_lose_26 : decode cX8_lose 26 = .ok (.aload_n 0, 1) := by decide +kernel
theorem dX8_lose_27 : decode cX8_lose 27 = .ok (.getfield 13, 3) := by decide +kernel
theorem dX8_lose_30 : decode cX8_lose 30 = .ok (.bipush 37, 2) := by decide +kernel
theorem dX8_lose_32 : decode cX8_lose 32 = .ok (.iaload, 1) := by decide +kernel
theorem dX8_lose_33 : decode cX8_lose 33 = .ok (.iload_n 1, 1) := by decide +kernel
theorem dX8_lose_34 : decode cX8_lose 34 = .ok (.invokestatic 114, 3) := by decide +kernel
theorem dX8_lose_37 : decode cX8_lose 37 = .ok (.ifCond .eq 7, 3) := by decide +kernel
theorem dX8_lose_40 : decode cX8_lose 40 = .ok (.iconst 1, 1) := by decide +kernel
theorem dX8_lose_41 : decode cX8_lose 41 = .ok (.goto 4, 3) := by decide +kernel
theorem dX8_lose_44 : decode cX8_lose 44 = .ok (.iconst 0, 1) := by decide +kernel
theorem dX8_lose_45 : decode cX8_lose 45 = .ok (.ireturn, 1) := by decide +kernel
theorem dX8_undo_0 : decode cX8_undo 0 = .ok (.aload_n 0, 1) := by decide +kernel
theorem dX8_undo_1 : decode cX8_undo 1 = .ok (.getfield 99, 3) := by decide +kernel
theorem dX8_undo_4 : decode cX8_undo 4 = .ok (.ifCond .ne 6, 3) := by decide +kernel
theorem dX8_undo_7 : decode cX8_undo 7 = .ok (.bipush (-3), 2) := by decide +kernel
theorem dX8_undo_9 : decode cX8_undo 9 = .ok (.ireturn, 1) := by decide +kernel
theorem dX8_undo_10 : decode cX8_undo 10 = .ok (.aload_n 0, 1) := by decide +kernel
theorem dX8_undo_11 : decode cX8_undo 11 = .ok (.dup, 1) := by decide +kernel
theorem dX8_undo_12 : decode cX8_undo 12 = .ok (.getfield 99, 3) := by decide +kernel
theorem dX8_undo_15 : decode cX8_undo 15 = .ok (.iconst 1, 1) := by decide +kernel
theorem dX8_undo_16 : decode cX8_undo 16 = .ok (.isub, 1) := by decide +kernel
theorem dX8_undo_17 : decode cX8_undo 17 = .ok (.putfield 99, 3) := by decide +kernel
theorem dX8_undo_20 : decode cX8_undo 20 = .ok (.aload_n 0, 1) := by decide +kernel
theorem dX8_undo_21 : decode cX8_undo 21 = .ok (.aload_n 0, 1) := by decide +kernel
theorem dX8_undo_22 : decode cX8_undo 22 = .ok (.getfield 180, 3) := by decide +kernel
theorem dX8_undo_25 : decode cX8_undo 25 = .ok (.bipush 14, 2) := by decide +kernel
theorem dX8_undo_27 : decode cX8_undo 27 = .ok (.iadd, 1) := by decide +kernel
theorem dX8_undo_28 : decode cX8_undo 28 = .ok (.iconst 1, 1) := by decide +kernel
theorem dX8_undo_29 : decode cX8_undo 29 = .ok (.isub, 1) := by decide +kernel
theorem dX8_undo_30 : decode cX8_undo 30 = .ok (.bipush 14, 2) := by decide +kernel
theorem dX8_undo_32 : decode cX8_undo 32 = .ok (.irem, 1) := by decide +kernel
theorem dX8_undo_33 : decode cX8_undo 33 = .ok (.putfield 180, 3) := by decide +kernel
theorem dX8_undo_36 : decode cX8_undo 36 = .ok (.iconst 0, 1) := by decide +kernel
theorem dX8_undo_37 : decode cX8_undo 37 = .ok (.istore_n 1, 1) := by decide +kernel
theorem dX8_undo_38 : decode cX8_undo 38 = .ok (.iload_n 1, 1) := by decide +kernel
theorem dX8_undo_39 : decode cX8_undo 39 = .ok (.bipush 38, 2) := by decide +kernel
theorem dX8_undo_41 : decode cX8_undo 41 = .ok (.if_icmp .ge 29, 3) := by decide +kernel
theorem dX8_undo_44 : decode cX8_undo 44 = .ok (.aload_n 0, 1) := by decide +kernel
theorem dX8_undo_45 : decode cX8_undo 45 = .ok (.getfield 13, 3) := by decide +kernel
theorem dX8_undo_48 : decode cX8_undo 48 = .ok (.iload_n 1, 1) := by decide +kernel
theorem dX8_undo_49 : decode cX8_undo 49 = .ok (.aload_n 0, 1) := by decide +kernel
theorem dX8_undo_50 : decode cX8_undo 50 = .ok (.getfield 19, 3) := by decide +kernel
theorem dX8_undo_53 : decode cX8_undo 53 = .ok (.bipush 38, 2) := by decide +kernel
theorem dX8_undo_55 : decode cX8_undo 55 = .ok (.aload_n 0, 1) := by decide +kernel
theorem dX8_undo_56 : decode cX8_undo 56 = .ok (.getfield 180, 3) := by decide +kernel
theorem dX8_undo_59 : decode cX8_undo 59 = .ok (.imul, 1) := by decide +kernel
theorem dX8_undo_60 : decode cX8_undo 60 = .ok (.iload_n 1, 1) := by decide +kernel
theorem dX8_undo_61 : decode cX8_undo 61 = .ok (.iadd, 1) := by decide +kernel
theorem dX8_undo_62 : decode cX8_undo 62 = .ok (.iaload, 1) := by decide +kernel
theorem dX8_undo_63 : decode cX8_undo 63 = .ok (.iastore, 1) := by decide +kernel
theorem dX8_undo_64 : decode cX8_undo 64 = .ok (.iinc 1 1, 3) := by decide +kernel
theorem dX8_undo_67 : decode cX8_undo 67 = .ok (.goto (-29), 3) := by decide +kernel
theorem dX8_undo_70 : decode cX8_undo 70 = .ok (.aload_n 0, 1) := by decide +kernel
theorem dX8_undo_71 : decode cX8_undo 71 = .ok (.getfield 99, 3) := by decide +kernel
theorem dX8_undo_74 : decode cX8_undo 74 = .ok (.ireturn, 1) := by decide +kernel
theorem dX8_miss_0 : decode cX8_miss 0 = .ok (.iload_n 1, 1) := by decide +kernel
theorem dX8_miss_1 : decode cX8_miss 1 = .ok (.i2l, 1) := by decide +kernel
theorem dX8_miss_2 : decode cX8_miss 2 = .ok (.lconst 0, 1) := by decide +kernel
theorem dX8_miss_3 : decode cX8_miss 3 = .ok (.ldc2_w 188, 3) := by decide +kernel
theorem dX8_miss_6 : decode cX8_miss 6 = .ok (.invokestatic 57, 3) := by decide +kernel
theorem dX8_miss_9 : decode cX8_miss 9 = .ok (.ifCond .eq 15, 3) := by decide +kernel
theorem dX8_miss_12 : decode cX8_miss 12 = .ok (.aload_n 0, 1) := by decide +kernel
theorem dX8_miss_13 : decode cX8_miss 13 = .ok (.aload_n 0, 1) := by decide +kernel
theorem dX8_miss_14 : decode cX8_miss 14 = .ok (.getfield 13, 3) := by decide +kernel
theorem dX8_miss_17 : decode cX8_miss 17 = .ok (.iload_n 1, 1) := by decide +kernel
theorem dX8_miss_18 : decode cX8_miss 18 = .ok (.invokevirtual 142, 3) := by decide +kernel
theorem dX8_miss_21 : decode cX8_miss 21 = .ok (.goto 5, 3) := by decide +kernel
theorem dX8_miss_24 : decode cX8_miss 24 = .ok (.bipush (-2), 2) := by decide +kernel
theorem dX8_miss_26 : decode cX8_miss 26 = .ok (.ireturn, 1) := by decide +kernel
theorem dX8_judged_0 : decode cX8_judged 0 = .ok (.iload_n 1, 1) := by decide +kernel
theorem dX8_judged_1 : decode cX8_judged 1 = .ok (.tableswitch 252 1 6 #[39, 67, 90, 153, 188, 222], 39) := by decide +kernel
theorem dX8_judged_40 : decode cX8_judged 40 = .ok (.iload_n 2, 1) := by decide +kernel
theorem dX8_judged_41 : decode cX8_judged 41 = .ok (.ifCond .ne 10, 3) := by decide +kernel
theorem dX8_judged_44 : decode cX8_judged 44 = .ok (.iload_n 3, 1) := by decide +kernel
theorem dX8_judged_45 : decode cX8_judged 45 = .ok (.invokestatic 177, 3) := by decide +kernel
theorem dX8_judged_48 : decode cX8_judged 48 = .ok (.ifCond .ne 5, 3) := by decide +kernel
theorem dX8_judged_51 : decode cX8_judged 51 = .ok (.iconst 0, 1) := by decide +kernel
theorem dX8_judged_52 : decode cX8_judged 52 = .ok (.ireturn, 1) := by decide +kernel
theorem dX8_judged_53 : decode cX8_judged 53 = .ok (.aload_n 0, 1) := by decide +kernel
theorem dX8_judged_54 : decode cX8_judged 54 = .ok (.getfield 16, 3) := by decide +kernel
theorem dX8_judged_57 : decode cX8_judged 57 = .ok (.bipush 37, 2) := by decide +kernel
theorem dX8_judged_59 : decode cX8_judged 59 = .ok (.dup2, 1) := by decide +kernel
theorem dX8_judged_60 : decode cX8_judged 60 = .ok (.iaload, 1) := by decide +kernel
theorem dX8_judged_61 : decode cX8_judged 61 = .ok (.iconst 1, 1) := by decide +kernel
theorem dX8_judged_62 : decode cX8_judged 62 = .ok (.iload_n 3, 1) := by decide +kernel
theorem dX8_judged_63 : decode cX8_judged 63 = .ok (.ishl, 1) := by decide +kernel
theorem dX8_judged_64 : decode cX8_judged 64 = .ok (.ixor, 1) := by decide +kernel
theorem dX8_judged_65 : decode cX8_judged 65 = .ok (.iastore, 1) := by decide +kernel
theorem dX8_judged_66 : decode cX8_judged 66 = .ok (.iconst 1, 1) := by decide +kernel
theorem dX8_judged_67 : decode cX8_judged 67 = .ok (.ireturn, 1) := by decide +kernel
theorem dX8_judged_68 : decode cX8_judged 68 = .ok (.iload_n 2, 1) := by decide +kernel
theorem dX8_judged_69 : decode cX8_judged 69 = .ok (.ifCond .ne 10, 3) := by decide +kernel
theorem dX8_judged_72 : decode cX8_judged 72 = .ok (.iload_n 3, 1) := by decide +kernel
theorem dX8_judged_73 : decode cX8_judged 73 = .ok (.invokestatic 177, 3) := by decide +kernel
theorem dX8_judged_76 : decode cX8_judged 76 = .ok (.ifCond .ne 5, 3) := by decide +kernel
theorem dX8_judged_79 : decode cX8_judged 79 = .ok (.iconst 0, 1) := by decide +kernel
theorem dX8_judged_80 : decode cX8_judged 80 = .ok (.ireturn, 1) := by decide +kernel
theorem dX8_judged_81 : decode cX8_judged 81 = .ok (.aload_n 0, 1) := by decide +kernel
theorem dX8_judged_82 : decode cX8_judged 82 = .ok (.getfield 16, 3) := by decide +kernel
theorem dX8_judged_85 : decode cX8_judged 85 = .ok (.bipush 36, 2) := by decide +kernel
theorem dX8_judged_87 : decode cX8_judged 87 = .ok (.iload_n 3, 1) := by decide +kernel
theorem dX8_judged_88 : decode cX8_judged 88 = .ok (.iastore, 1) := by decide +kernel
theorem dX8_judged_89 : decode cX8_judged 89 = .ok (.iconst 1, 1) := by decide +kernel
theorem dX8_judged_90 : decode cX8_judged 90 = .ok (.ireturn, 1) := by decide +kernel
theorem dX8_judged_91 : decode cX8_judged 91 = .ok (.iload_n 2, 1) := by decide +kernel
theorem dX8_judged_92 : decode cX8_judged 92 = .ok (.invokestatic 177, 3) := by decide +kernel
theorem dX8_judged_95 : decode cX8_judged 95 = .ok (.ifCond .eq 10, 3) := by decide +kernel
theorem dX8_judged_98 : decode cX8_judged 98 = .ok (.iload_n 3, 1) := by decide +kernel
theorem dX8_judged_99 : decode cX8_judged 99 = .ok (.invokestatic 177, 3) := by decide +kernel
theorem dX8_judged_102 : decode cX8_judged 102 = .ok (.ifCond .ne 5, 3) := by decide +kernel
theorem dX8_judged_105 : decode cX8_judged 105 = .ok (.iconst 0, 1) := by decide +kernel
theorem dX8_judged_106 : decode cX8_judged 106 = .ok (.ireturn, 1) := by decide +kernel
theorem dX8_judged_107 : decode cX8_judged 107 = .ok (.aload_n 0, 1) := by decide +kernel
theorem dX8_judged_108 : decode cX8_judged 108 = .ok (.aload_n 0, 1) := by decide +kernel
theorem dX8_judged_109 : decode cX8_judged 109 = .ok (.getfield 16, 3) := by decide +kernel
theorem dX8_judged_112 : decode cX8_judged 112 = .ok (.aload_n 0, 1) := by decide +kernel
theorem dX8_judged_113 : decode cX8_judged 113 = .ok (.getfield 16, 3) := by decide +kernel
theorem dX8_judged_116 : decode cX8_judged 116 = .ok (.bipush 37, 2) := by decide +kernel
theorem dX8_judged_118 : decode cX8_judged 118 = .ok (.iaload, 1) := by decide +kernel
theorem dX8_judged_119 : decode cX8_judged 119 = .ok (.invokevirtual 126, 3) := by decide +kernel
theorem dX8_judged_122 : decode cX8_judged 122 = .ok (.aload_n 0, 1) := by decide +kernel
theorem dX8_judged_123 : decode cX8_judged 123 = .ok (.getfield 35, 3) := by decide +kernel
theorem dX8_judged_126 : decode cX8_judged 126 = .ok (.iconst 4, 1) := by decide +kernel
theorem dX8_judged_127 : decode cX8_judged 127 = .ok (.iload_n 2, 1) := by decide +kernel
theorem dX8_judged_128 : decode cX8_judged 128 = .ok (.imul, 1) := by decide +kernel
theorem dX8_judged_129 : decode cX8_judged 129 = .ok (.iload_n 3, 1) := by decide +kernel
theorem dX8_judged_130 : decode cX8_judged 130 = .ok (.iadd, 1) := by decide +kernel
theorem dX8_judged_131 : decode cX8_judged 131 = .ok (.iaload, 1) := by decide +kernel
theorem dX8_judged_132 : decode cX8_judged 132 = .ok (.aload_n 0, 1) := by decide +kernel
theorem dX8_judged_133 : decode cX8_judged 133 = .ok (.getfield 16, 3) := by decide +kernel
theorem dX8_judged_136 : decode cX8_judged 136 = .ok (.bipush 20, 2) := by decide +kernel
theorem dX8_judged_138 : decode cX8_judged 138 = .ok (.iconst 4, 1) := by decide +kernel
theorem dX8_judged_139 : decode cX8_judged 139 = .ok (.iload_n 2, 1) := by decide +kernel
theorem dX8_judged_140 : decode cX8_judged 140 = .ok (.imul, 1) := by decide +kernel
theorem dX8_judged_141 : decode cX8_judged 141 = .ok (.iadd, 1) := by decide +kernel
theorem dX8_judged_142 : decode cX8_judged 142 = .ok (.iload_n 3, 1) := by decide +kernel
theorem dX8_judged_143 : decode cX8_judged 143 = .ok (.iadd, 1) := by decide +kernel
theorem dX8_judged_144 : decode cX8_judged 144 = .ok (.iaload, 1) := by decide +kernel
theorem dX8_judged_145 : decode cX8_judged 145 = .ok (.if_icmp .ne 7, 3) := by decide +kernel
theorem dX8_judged_148 : decode cX8_judged 148 = .ok (.iconst 1, 1) := by decide +kernel
theorem dX8_judged_149 : decode cX8_judged 149 = .ok (.goto 4, 3) := by decide +kernel
theorem dX8_judged_152 : decode cX8_judged 152 = .ok (.iconst 0, 1) := by decide +kernel
theorem dX8_judged_153 : decode cX8_judged 153 = .ok (.ireturn, 1) := by decide +kernel
theorem dX8_judged_154 : decode cX8_judged 154 = .ok (.iload_n 2, 1) := by decide +kernel
theorem dX8_judged_155 : decode cX8_judged 155 = .ok (.ifCond .ne 10, 3) := by decide +kernel
theorem dX8_judged_158 : decode cX8_judged 158 = .ok (.iload_n 3, 1) := by decide +kernel
theorem dX8_judged_159 : decode cX8_judged 159 = .ok (.invokestatic 177, 3) := by decide +kernel
theorem dX8_judged_162 : decode cX8_judged 162 = .ok (.ifCond .ne 5, 3) := by decide +kernel
theorem dX8_judged_165 : decode cX8_judged 165 = .ok (.iconst 0, 1) := by decide +kernel
theorem dX8_judged_166 : decode cX8_judged 166 = .ok (.ireturn, 1) := by decide +kernel
theorem dX8_judged_167 : decode cX8_judged 167 = .ok (.aload_n 0, 1) := by decide +kernel
theorem dX8_judged_168 : decode cX8_judged 168 = .ok (.aload_n 0, 1) := by decide +kernel
theorem dX8_judged_169 : decode cX8_judged 169 = .ok (.getfield 16, 3) := by decide +kernel
theorem dX8_judged_172 : decode cX8_judged 172 = .ok (.aload_n 0, 1) := by decide +kernel
theorem dX8_judged_173 : decode cX8_judged 173 = .ok (.getfield 16, 3) := by decide +kernel
theorem dX8_judged_176 : decode cX8_judged 176 = .ok (.bipush 37, 2) := by decide +kernel
theorem dX8_judged_178 : decode cX8_judged 178 = .ok (.iaload, 1) := by decide +kernel
theorem dX8_judged_179 : decode cX8_judged 179 = .ok (.invokevirtual 126, 3) := by decide +kernel
theorem dX8_judged_182 : decode cX8_judged 182 = .ok (.aload_n 0, 1) := by decide +kernel
theorem dX8_judged_183 : decode cX8_judged 183 = .ok (.getfield 38, 3) := by decide +kernel
theorem dX8_judged_186 : decode cX8_judged 186 = .ok (.iload_n 3, 1) := by decide +kernel
theorem dX8_judged_187 : decode cX8_judged 187 = .ok (.baload, 1) := by decide +kernel
theorem dX8_judged_188 : decode cX8_judged 188 = .ok (.ireturn, 1) := by decide +kernel
theorem dX8_judged_189 : decode cX8_judged 189 = .ok (.aload_n 0, 1) := by decide +kernel
theorem dX8_judged_190 : decode cX8_judged 190 = .ok (.iload_n 2, 1) := by decide +kernel
theorem dX8_judged_191 : decode cX8_judged 191 = .ok (.invokevirtual 164, 3) := by decide +kernel
theorem dX8_judged_194 : decode cX8_judged 194 = .ok (.ifCond .eq 16, 3) := by decide +kernel
theorem dX8_judged_197 : decode cX8_judged 197 = .ok (.aload_n 0, 1) := by decide +kernel
theorem dX8_judged_198 : decode cX8_judged 198 = .ok (.iload_n 3, 1) := by decide +kernel
theorem dX8_judged_199 : decode cX8_judged 199 = .ok (.invokevirtual 164, 3) := by decide +kernel
theorem dX8_judged_202 : decode cX8_judged 202 = .ok (.ifCond .eq 8, 3) := by decide +kernel
theorem dX8_judged_205 : decode cX8_judged 205 = .ok (.iload_n 2, 1) := by decide +kernel
theorem dX8_judged_206 : decode cX8_judged 206 = .ok (.iload_n 3, 1) := by decide +kernel
theorem dX8_judged_207 : decode cX8_judged 207 = .ok (.if_icmp .ne 5, 3) := by decide +kernel
theorem dX8_judged_210 : decode cX8_judged 210 = .ok (.iconst 0, 1) := by decide +kernel
theorem dX8_judged_211 : decode cX8_judged 211 = .ok (.ireturn, 1) := by decide +kernel
theorem dX8_judged_212 : decode cX8_judged 212 = .ok (.aload_n 0, 1) := by decide +kernel
theorem dX8_judged_213 : decode cX8_judged 213 = .ok (.getfield 16, 3) := by decide +kernel
theorem dX8_judged_216 : decode cX8_judged 216 = .ok (.iload_n 2, 1) := by decide +kernel
theorem dX8_judged_217 : decode cX8_judged 217 = .ok (.iload_n 3, 1) := by decide +kernel
theorem dX8_judged_218 : decode cX8_judged 218 = .ok (.invokestatic 138, 3) := by decide +kernel
theorem dX8_judged_221 : decode cX8_judged 221 = .ok (.iconst 1, 1) := by decide +kernel
theorem dX8_judged_222 : decode cX8_judged 222 = .ok (.ireturn, 1) := by decide +kernel
theorem dX8_judged_223 : decode cX8_judged 223 = .ok (.aload_n 0, 1) := by decide +kernel
theorem dX8_judged_224 : decode cX8_judged 224 = .ok (.aload_n 0, 1) := by decide +kernel
theorem dX8_judged_225 : decode cX8_judged 225 = .ok (.getfield 16, 3) := by decide +kernel
theorem dX8_judged_228 : decode cX8_judged 228 = .ok (.aload_n 0, 1) := by decide +kernel
theorem dX8_judged_229 : decode cX8_judged 229 = .ok (.getfield 16, 3) := by decide +kernel
theorem dX8_judged_232 : decode cX8_judged 232 = .ok (.bipush 37, 2) := by decide +kernel
theorem dX8_judged_234 : decode cX8_judged 234 = .ok (.iaload, 1) := by decide +kernel
theorem dX8_judged_235 : decode cX8_judged 235 = .ok (.invokevirtual 142, 3) := by decide +kernel
theorem dX8_judged_238 : decode cX8_judged 238 = .ok (.bipush 10, 2) := by decide +kernel
theorem dX8_judged_240 : decode cX8_judged 240 = .ok (.iload_n 2, 1) := by decide +kernel
theorem dX8_judged_241 : decode cX8_judged 241 = .ok (.imul, 1) := by decide +kernel
theorem dX8_judged_242 : decode cX8_judged 242 = .ok (.iload_n 3, 1) := by decide +kernel
theorem dX8_judged_243 : decode cX8_judged 243 = .ok (.iadd, 1) := by decide +kernel
theorem dX8_judged_244 : decode cX8_judged 244 = .ok (.if_icmp .gt 7, 3) := by decide +kernel
theorem dX8_judged_247 : decode cX8_judged 247 = .ok (.iconst 1, 1) := by decide +kernel
theorem dX8_judged_248 : decode cX8_judged 248 = .ok (.goto 4, 3) := by decide +kernel
theorem dX8_judged_251 : decode cX8_judged 251 = .ok (.iconst 0, 1) := by decide +kernel
theorem dX8_judged_252 : decode cX8_judged 252 = .ok (.ireturn, 1) := by decide +kernel
theorem dX8_judged_253 : decode cX8_judged 253 = .ok (.iconst 0, 1) := by decide +kernel
theorem dX8_judged_254 : decode cX8_judged 254 = .ok (.ireturn, 1) := by decide +kernel
theorem dX8_thousands_0 : decode cX8_thousands 0 = .ok (.lconst 1, 1) := by decide +kernel
theorem dX8_thousands_1 : decode cX8_thousands 1 = .ok (.lstore_n 1, 1) := by decide +kernel
theorem dX8_thousands_2 : decode cX8_thousands 2 = .ok (.iconst 0, 1) := by decide +kernel
theorem dX8_thousands_3 : decode cX8_thousands 3 = .ok (.istore_n 3, 1) := by decide +kernel
theorem dX8_thousands_4 : decode cX8_thousands 4 = .ok (.iload_n 3, 1) := by decide +kernel
theorem dX8_thousands_5 : decode cX8_thousands 5 = .ok (.iload_n 0, 1) := by decide +kernel
theorem dX8_thousands_6 : decode cX8_thousands 6 = .ok (.if_icmp .ge 15, 3) := by decide +kernel
theorem dX8_thousands_9 : decode cX8_thousands 9 = .ok (.lload_n 1, 1) := by decide +kernel
theorem dX8_thousands_10 : decode cX8_thousands 10 = .ok (.ldc2_w 190, 3) := by decide +kernel
theorem dX8_thousands_13 : decode cX8_thousands 13 = .ok (.lmul, 1) := by decide +kernel
theorem dX8_thousands_14 : decode cX8_thousands 14 = .ok (.lstore_n 1, 1) := by decide +kernel
theorem dX8_thousands_15 : decode cX8_thousands 15 = .ok (.iinc 3 1, 3) := by decide +kernel
theorem dX8_thousands_18 : decode cX8_thousands 18 = .ok (.goto (-14), 3) := by decide +kernel
theorem dX8_thousands_21 : decode cX8_thousands 21 = .ok (.lload_n 1, 1) := by decide +kernel
theorem dX8_thousands_22 : decode cX8_thousands 22 = .ok (.lreturn, 1) := by decide +kernel
theorem dX8_judge_0 : decode cX8_judge 0 = .ok (.iload_n 1, 1) := by decide +kernel
theorem dX8_judge_1 : decode cX8_judge 1 = .ok (.i2l, 1) := by decide +kernel
theorem dX8_judge_2 : decode cX8_judge 2 = .ok (.lconst 1, 1) := by decide +kernel
theorem dX8_judge_3 : decode cX8_judge 3 = .ok (.ldc2_w 192, 3) := by decide +kernel
theorem dX8_judge_6 : decode cX8_judge 6 = .ok (.invokestatic 57, 3) := by decide +kernel
theorem dX8_judge_9 : decode cX8_judge 9 = .ok (.ifCond .eq 17, 3) := by decide +kernel
theorem dX8_judge_12 : decode cX8_judge 12 = .ok (.lload_n 2, 1) := by decide +kernel
theorem dX8_judge_13 : decode cX8_judge 13 = .ok (.lconst 0, 1) := by decide +kernel
theorem dX8_judge_14 : decode cX8_judge 14 = .ok (.iload_n 1, 1) := by decide +kernel
theorem dX8_judge_15 : decode cX8_judge 15 = .ok (.invokestatic 194, 3) := by decide +kernel
theorem dX8_judge_18 : decode cX8_judge 18 = .ok (.lconst 1, 1) := by decide +kernel
theorem dX8_judge_19 : decode cX8_judge 19 = .ok (.lsub, 1) := by decide +kernel
theorem dX8_judge_20 : decode cX8_judge 20 = .ok (.invokestatic 57, 3) := by decide +kernel
theorem dX8_judge_23 : decode cX8_judge 23 = .ok (.ifCond .ne 6, 3) := by decide +kernel
theorem dX8_judge_26 : decode cX8_judge 26 = .ok (.bipush (-2), 2) := by decide +kernel
theorem dX8_judge_28 : decode cX8_judge 28 = .ok (.ireturn, 1) := by decide +kernel
theorem dX8_judge_29 : decode cX8_judge 29 = .ok (.aload_n 0, 1) := by decide +kernel
theorem dX8_judge_30 : decode cX8_judge 30 = .ok (.getfield 13, 3) := by decide +kernel
theorem dX8_judge_33 : decode cX8_judge 33 = .ok (.aload_n 0, 1) := by decide +kernel
theorem dX8_judge_34 : decode cX8_judge 34 = .ok (.getfield 16, 3) := by decide +kernel
theorem dX8_judge_37 : decode cX8_judge 37 = .ok (.invokestatic 134, 3) := by decide +kernel
theorem dX8_judge_40 : decode cX8_judge 40 = .ok (.iconst 0, 1) := by decide +kernel
theorem dX8_judge_41 : decode cX8_judge 41 = .ok (.istore 4, 2) := by decide +kernel
theorem dX8_judge_43 : decode cX8_judge 43 = .ok (.iload 4, 2) := by decide +kernel
theorem dX8_judge_45 : decode cX8_judge 45 = .ok (.iload_n 1, 1) := by decide +kernel
theorem dX8_judge_46 : decode cX8_judge 46 = .ok (.if_icmp .ge 55, 3) := by decide +kernel
theorem dX8_judge_49 : decode cX8_judge 49 = .ok (.lload_n 2, 1) := by decide +kernel
theorem dX8_judge_50 : decode cX8_judge 50 = .ok (.iload_n 1, 1) := by decide +kernel
theorem dX8_judge_51 : decode cX8_judge 51 = .ok (.iconst 1, 1) := by decide +kernel
theorem dX8_judge_52 : decode cX8_judge 52 = .ok (.isub, 1) := by decide +kernel
theorem dX8_judge_53 : decode cX8_judge 53 = .ok (.iload 4, 2) := by decide +kernel
theorem dX8_judge_55 : decode cX8_judge 55 = .ok (.isub, 1) := by decide +kernel
theorem dX8_judge_56 : decode cX8_judge 56 = .ok (.invokestatic 194, 3) := by decide +kernel
theorem dX8_judge_59 : decode cX8_judge 59 = .ok (.ldiv, 1) := by decide +kernel
theorem dX8_judge_60 : decode cX8_judge 60 = .ok (.ldc2_w 190, 3) := by decide +kernel
theorem dX8_judge_63 : decode cX8_judge 63 = .ok (.lrem, 1) := by decide +kernel
theorem dX8_judge_64 : decode cX8_judge 64 = .ok (.l2i, 1) := by decide +kernel
theorem dX8_judge_65 : decode cX8_judge 65 = .ok (.istore 5, 2) := by decide +kernel
theorem dX8_judge_67 : decode cX8_judge 67 = .ok (.aload_n 0, 1) := by decide +kernel
theorem dX8_judge_68 : decode cX8_judge 68 = .ok (.iload 5, 2) := by decide +kernel
theorem dX8_judge_70 : decode cX8_judge 70 = .ok (.bipush 100, 2) := by decide +kernel
theorem dX8_judge_72 : decode cX8_judge 72 = .ok (.idiv, 1) := by decide +kernel
theorem dX8_judge_73 : decode cX8_judge 73 = .ok (.iload 5, 2) := by decide +kernel
theorem dX8_judge_75 : decode cX8_judge 75 = .ok (.bipush 10, 2) := by decide +kernel
theorem dX8_judge_77 : decode cX8_judge 77 = .ok (.idiv, 1) := by decide +kernel
theorem dX8_judge_78 : decode cX8_judge 78 = .ok (.bipush 10, 2) := by decide +kernel
theorem dX8_judge_80 : decode cX8_judge 80 = .ok (.irem, 1) := by decide +kernel
theorem dX8_judge_81 : decode cX8_judge 81 = .ok (.iload 5, 2) := by decide +kernel
theorem dX8_judge_83 : decode cX8_judge 83 = .ok (.bipush 10, 2) := by decide +kernel
theorem dX8_judge_85 : decode cX8_judge 85 = .ok (.irem, 1) := by decide +kernel
theorem dX8_judge_86 : decode cX8_judge 86 = .ok (.invokevirtual 198, 3) := by decide +kernel
theorem dX8_judge_89 : decode cX8_judge 89 = .ok (.ifCond .ne 6, 3) := by decide +kernel
theorem dX8_judge_92 : decode cX8_judge 92 = .ok (.iload 4, 2) := by decide +kernel
theorem dX8_judge_94 : decode cX8_judge 94 = .ok (.ireturn, 1) := by decide +kernel
theorem dX8_judge_95 : decode cX8_judge 95 = .ok (.iinc 4 1, 3) := by decide +kernel
theorem dX8_judge_98 : decode cX8_judge 98 = .ok (.goto (-55), 3) := by decide +kernel
theorem dX8_judge_101 : decode cX8_judge 101 = .ok (.bipush (-9), 2) := by decide +kernel
theorem dX8_judge_103 : decode cX8_judge 103 = .ok (.ireturn, 1) := by decide +kernel
theorem dX8_see_0 : decode cX8_see 0 = .ok (.iload_n 1, 1) := by decide +kernel
theorem dX8_see_1 : decode cX8_see 1 = .ok (.invokestatic 177, 3) := by decide +kernel
theorem dX8_see_4 : decode cX8_see 4 = .ok (.ifCond .eq 10, 3) := by decide +kernel
theorem dX8_see_7 : decode cX8_see 7 = .ok (.iload_n 2, 1) := by decide +kernel
theorem dX8_see_8 : decode cX8_see 8 = .ok (.invokestatic 177, 3) := by decide +kernel
theorem dX8_see_11 : decode cX8_see 11 = .ok (.ifCond .ne 5, 3) := by decide +kernel
theorem dX8_see_14 : decode cX8_see 14 = .ok (.iconst (-1), 1) := by decide +kernel
theorem dX8_see_15 : decode cX8_see 15 = .ok (.ireturn, 1) := by decide +kernel
theorem dX8_see_16 : decode cX8_see 16 = .ok (.iload_n 3, 1) := by decide +kernel
theorem dX8_see_17 : decode cX8_see 17 = .ok (.i2l, 1) := by decide +kernel
theorem dX8_see_18 : decode cX8_see 18 = .ok (.lconst 0, 1) := by decide +kernel
theorem dX8_see_19 : decode cX8_see 19 = .ok (.ldc2_w 202, 3) := by decide +kernel
theorem dX8_see_22 : decode cX8_see 22 = .ok (.invokestatic 57, 3) := by decide +kernel
theorem dX8_see_25 : decode cX8_see 25 = .ok (.ifCond .ne 6, 3) := by decide +kernel
theorem dX8_see_28 : decode cX8_see 28 = .ok (.bipush (-2), 2) := by decide +kernel
theorem dX8_see_30 : decode cX8_see 30 = .ok (.ireturn, 1) := by decide +kernel
theorem dX8_see_31 : decode cX8_see 31 = .ok (.aload_n 0, 1) := by decide +kernel
theorem dX8_see_32 : decode cX8_see 32 = .ok (.getfield 161, 3) := by decide +kernel
theorem dX8_see_35 : decode cX8_see 35 = .ok (.bipush 6, 2) := by decide +kernel
theorem dX8_see_37 : decode cX8_see 37 = .ok (.if_icmp .ne 6, 3) := by decide +kernel
theorem dX8_see_40 : decode cX8_see 40 = .ok (.bipush (-4), 2) := by decide +kernel
theorem dX8_see_42 : decode cX8_see 42 = .ok (.ireturn, 1) := by decide +kernel
theorem dX8_see_43 : decode cX8_see 43 = .ok (.aload_n 0, 1) := by decide +kernel
theorem dX8_see_44 : decode cX8_see 44 = .ok (.getfield 29, 3) := by decide +kernel
theorem dX8_see_47 : decode cX8_see 47 = .ok (.aload_n 0, 1) := by decide +kernel
theorem dX8_see_48 : decode cX8_see 48 = .ok (.getfield 161, 3) := by decide +kernel
theorem dX8_see_51 : decode cX8_see 51 = .ok (.iconst 4, 1) := by decide +kernel
theorem dX8_see_52 : decode cX8_see 52 = .ok (.iload_n 1, 1) := by decide +kernel
theorem dX8_see_53 : decode cX8_see 53 = .ok (.imul, 1) := by decide +kernel
theorem dX8_see_54 : decode cX8_see 54 = .ok (.iload_n 2, 1) := by decide +kernel
theorem dX8_see_55 : decode cX8_see 55 = .ok (.iadd, 1) := by decide +kernel
theorem dX8_see_56 : decode cX8_see 56 = .ok (.iastore, 1) := by decide +kernel
theorem dX8_see_57 : decode cX8_see 57 = .ok (.aload_n 0, 1) := by decide +kernel
theorem dX8_see_58 : decode cX8_see 58 = .ok (.getfield 32, 3) := by decide +kernel
theorem dX8_see_61 : decode cX8_see 61 = .ok (.aload_n 0, 1) := by decide +kernel
theorem dX8_see_62 : decode cX8_see 62 = .ok (.getfield 161, 3) := by decide +kernel
theorem dX8_see_65 : decode cX8_see 65 = .ok (.iload_n 3, 1) := by decide +kernel
theorem dX8_see_66 : decode cX8_see 66 = .ok (.iastore, 1) := by decide +kernel
theorem dX8_see_67 : decode cX8_see 67 = .ok (.aload_n 0, 1) := by decide +kernel
theorem dX8_see_68 : decode cX8_see 68 = .ok (.dup, 1) := by decide +kernel
theorem dX8_see_69 : decode cX8_see 69 = .ok (.getfield 161, 3) := by decide +kernel
theorem dX8_see_72 : decode cX8_see 72 = .ok (.iconst 1, 1) := by decide +kernel
theorem dX8_see_73 : decode cX8_see 73 = .ok (.iadd, 1) := by decide +kernel
theorem dX8_see_74 : decode cX8_see 74 = .ok (.putfield 161, 3) := by decide +kernel
theorem dX8_see_77 : decode cX8_see 77 = .ok (.aload_n 0, 1) := by decide +kernel
theorem dX8_see_78 : decode cX8_see 78 = .ok (.getfield 161, 3) := by decide +kernel
theorem dX8_see_81 : decode cX8_see 81 = .ok (.ireturn, 1) := by decide +kernel
theorem dX8_unsee_0 : decode cX8_unsee 0 = .ok (.aload_n 0, 1) := by decide +kernel
theorem dX8_unsee_1 : decode cX8_unsee 1 = .ok (.getfield 161, 3) := by decide +kernel
theorem dX8_unsee_4 : decode cX8_unsee 4 = .ok (.istore_n 1, 1) := by decide +kernel
theorem dX8_unsee_5 : decode cX8_unsee 5 = .ok (.aload_n 0, 1) := by decide +kernel
theorem dX8_unsee_6 : decode cX8_unsee 6 = .ok (.iconst 0, 1) := by decide +kernel
theorem dX8_unsee_7 : decode cX8_unsee 7 = .ok (.putfield 161, 3) := by decide +kernel
theorem dX8_unsee_10 : decode cX8_unsee 10 = .ok (.iload_n 1, 1) := by decide +kernel
theorem dX8_unsee_11 : decode cX8_unsee 11 = .ok (.ireturn, 1) := by decide +kernel
theorem dX8_which_0 : decode cX8_which 0 = .ok (.iconst 0, 1) := by decide +kernel
theorem dX8_which_1 : decode cX8_which 1 = .ok (.istore_n 1, 1) := by decide +kernel
theorem dX8_which_2 : decode cX8_which 2 = .ok (.iconst 0, 1) := by decide +kernel
theorem dX8_which_3 : decode cX8_which 3 = .ok (.istore_n 2, 1) := by decide +kernel
theorem dX8_which_4 : decode cX8_which 4 = .ok (.iload_n 2, 1) := by decide +kernel
theorem dX8_which_5 : decode cX8_which 5 = .ok (.bipush 16, 2) := by decide +kernel
theorem dX8_which_7 : decode cX8_which 7 = .ok (.if_icmp .ge 84, 3) := by decide +kernel
theorem dX8_which_10 : decode cX8_which 10 = .ok (.aload_n 0, 1) := by decide +kernel
theorem dX8_which_11 : decode cX8_which 11 = .ok (.aload_n 0, 1) := by decide +kernel
theorem dX8_which_12 : decode cX8_which 12 = .ok (.getfield 13, 3) := by decide +kernel
theorem dX8_which_15 : decode cX8_which 15 = .ok (.iload_n 2, 1) := by decide +kernel
theorem dX8_which_16 : decode cX8_which 16 = .ok (.invokevirtual 126, 3) := by decide +kernel
theorem dX8_which_19 : decode cX8_which 19 = .ok (.iconst 1, 1) := by decide +kernel
theorem dX8_which_20 : decode cX8_which 20 = .ok (.istore_n 3, 1) := by decide +kernel
theorem dX8_which_21 : decode cX8_which 21 = .ok (.iconst 0, 1) := by decide +kernel
theorem dX8_which_22 : decode cX8_which 22 = .ok (.istore 4, 2) := by decide +kernel
theorem dX8_which_24 : decode cX8_which 24 = .ok (.iload 4, 2) := by decide +kernel
theorem dX8_which_26 : decode cX8_which 26 = .ok (.aload_n 0, 1) := by decide +kernel
theorem dX8_which_27 : decode cX8_which 27 = .ok (.getfield 161, 3) := by decide +kernel
theorem dX8_which_30 : decode cX8_which 30 = .ok (.if_icmp .ge 41, 3) := by decide +kernel
theorem dX8_which_33 : decode cX8_which 33 = .ok (.iload_n 3, 1) := by decide +kernel
theorem dX8_which_34 : decode cX8_which 34 = .ok (.ifCond .eq 29, 3) := by decide +kernel
theorem dX8_which_37 : decode cX8_which 37 = .ok (.aload_n 0, 1) := by decide +kernel
theorem dX8_which_38 : decode cX8_which 38 = .ok (.getfield 35, 3) := by decide +kernel
theorem dX8_which_41 : decode cX8_which 41 = .ok (.aload_n 0, 1) := by decide +kernel
theorem dX8_which_42 : decode cX8_which 42 = .ok (.getfield 29, 3) := by decide +kernel
theorem dX8_which_45 : decode cX8_which 45 = .ok (.iload 4, 2) := by decide +kernel
theorem dX8_which_47 : decode cX8_which 47 = .ok (.iaload, 1) := by decide +kernel
theorem dX8_which_48 : decode cX8_which 48 = .ok (.iaload, 1) := by decide +kernel
theorem dX8_which_49 : decode cX8_which 49 = .ok (.aload_n 0, 1) := by decide +kernel
theorem dX8_which_50 : decode cX8_which 50 = .ok (.getfield 32, 3) := by decide +kernel
theorem dX8_which_53 : decode cX8_which 53 = .ok (.iload 4, 2) := by decide +kernel
theorem dX8_which_55 : decode cX8_which 55 = .ok (.iaload, 1) := by decide +kernel
theorem dX8_which_56 : decode cX8_which 56 = .ok (.if_icmp .ne 7, 3) := by decide +kernel
theorem dX8_which_59 : decode cX8_which 59 = .ok (.iconst 1, 1) := by decide +kernel
theorem dX8_which_60 : decode cX8_which 60 = .ok (.goto 4, 3) := by decide +kernel
theorem dX8_which_63 : decode cX8_which 63 = .ok (.iconst 0, 1) := by decide +kernel
theorem dX8_which_64 : decode cX8_which 64 = .ok (.istore_n 3, 1) := by decide +kernel
theorem dX8_which_65 : decode cX8_which 65 = .ok (.iinc 4 1, 3) := by decide +kernel
theorem dX8_which_68 : decode cX8_which 68 = .ok (.goto (-44), 3) := by decide +kernel
theorem dX8_which_71 : decode cX8_which 71 = .ok (.iload_n 1, 1) := by decide +kernel
theorem dX8_which_72 : decode cX8_which 72 = .ok (.iload_n 3, 1) := by decide +kernel
theorem dX8_which_73 : decode cX8_which 73 = .ok (.ifCond .eq 9, 3) := by decide +kernel
theorem dX8_which_76 : decode cX8_which 76 = .ok (.iconst 1, 1) := by decide +kernel
theorem dX8_which_77 : decode cX8_which 77 = .ok (.iload_n 2, 1) := by decide +kernel
theorem dX8_which_78 : decode cX8_which 78 = .ok (.ishl, 1) := by decide +kernel
theorem dX8_which_79 : decode cX8_which 79 = .ok (.goto 4, 3) := by decide +kernel
theorem dX8_which_82 : decode cX8_which 82 = .ok (.iconst 0, 1) := by decide +kernel
theorem dX8_which_83 : decode cX8_which 83 = .ok (.ior, 1) := by decide +kernel
theorem dX8_which_84 : decode cX8_which 84 = .ok (.istore_n 1, 1) := by decide +kernel
theorem dX8_which_85 : decode cX8_which 85 = .ok (.iinc 2 1, 3) := by decide +kernel
theorem dX8_which_88 : decode cX8_which 88 = .ok (.goto (-84), 3) := by decide +kernel
theorem dX8_which_91 : decode cX8_which 91 = .ok (.iload_n 1, 1) := by decide +kernel
theorem dX8_which_92 : decode cX8_which 92 = .ok (.ireturn, 1) := by decide +kernel
theorem dX8_share_0 : decode cX8_share 0 = .ok (.iload_n 1, 1) := by decide +kernel
theorem dX8_share_1 : decode cX8_share 1 = .ok (.invokestatic 177, 3) := by decide +kernel
theorem dX8_share_4 : decode cX8_share 4 = .ok (.ifCond .ne 5, 3) := by decide +kernel
theorem dX8_share_7 : decode cX8_share 7 = .ok (.iconst (-1), 1) := by decide +kernel
theorem dX8_share_8 : decode cX8_share 8 = .ok (.ireturn, 1) := by decide +kernel
theorem dX8_share_9 : decode cX8_share 9 = .ok (.iconst 0, 1) := by decide +kernel
theorem dX8_share_10 : decode cX8_share 10 = .ok (.istore_n 3, 1) := by decide +kernel
theorem dX8_share_11 : decode cX8_share 11 = .ok (.iload_n 3, 1) := by decide +kernel
theorem dX8_share_12 : decode cX8_share 12 = .ok (.bipush 16, 2) := by decide +kernel
theorem dX8_share_14 : decode cX8_share 14 = .ok (.if_icmp .ge 29, 3) := by decide +kernel
theorem dX8_share_17 : decode cX8_share 17 = .ok (.aload_n 0, 1) := by decide +kernel
theorem dX8_share_18 : decode cX8_share 18 = .ok (.getfield 41, 3) := by decide +kernel
theorem dX8_share_21 : decode cX8_share 21 = .ok (.iload_n 3, 1) := by decide +kernel
theorem dX8_share_22 : decode cX8_share 22 = .ok (.aload_n 0, 1) := by decide +kernel
theorem dX8_share_23 : decode cX8_share 23 = .ok (.aload_n 0, 1) := by decide +kernel
theorem dX8_share_24 : decode cX8_share 24 = .ok (.getfield 13, 3) := by decide +kernel
theorem dX8_share_27 : decode cX8_share 27 = .ok (.bipush 15, 2) := by decide +kernel
theorem dX8_share_29 : decode cX8_share 29 = .ok (.iload_n 3, 1) := by decide +kernel
theorem dX8_share_30 : decode cX8_share 30 = .ok (.iconst (-1), 1) := by decide +kernel
theorem dX8_share_31 : decode cX8_share 31 = .ok (.ixor, 1) := by decide +kernel
theorem dX8_share_32 : decode cX8_share 32 = .ok (.iand, 1) := by decide +kernel
theorem dX8_share_33 : decode cX8_share 33 = .ok (.invokevirtual 142, 3) := by decide +kernel
theorem dX8_share_36 : decode cX8_share 36 = .ok (.iastore, 1) := by decide +kernel
theorem dX8_share_37 : decode cX8_share 37 = .ok (.iinc 3 1, 3) := by decide +kernel
theorem dX8_share_40 : decode cX8_share 40 = .ok (.goto (-29), 3) := by decide +kernel
theorem dX8_share_43 : decode cX8_share 43 = .ok (.iconst 0, 1) := by decide +kernel
theorem dX8_share_44 : decode cX8_share 44 = .ok (.istore_n 3, 1) := by decide +kernel
theorem dX8_share_45 : decode cX8_share 45 = .ok (.iconst 0, 1) := by decide +kernel
theorem dX8_share_46 : decode cX8_share 46 = .ok (.istore 4, 2) := by decide +kernel
theorem dX8_share_48 : decode cX8_share 48 = .ok (.iload 4, 2) := by decide +kernel
theorem dX8_share_50 : decode cX8_share 50 = .ok (.bipush 16, 2) := by decide +kernel
theorem dX8_share_52 : decode cX8_share 52 = .ok (.if_icmp .ge 61, 3) := by decide +kernel
theorem dX8_share_55 : decode cX8_share 55 = .ok (.iload 4, 2) := by decide +kernel
theorem dX8_share_57 : decode cX8_share 57 = .ok (.iload_n 1, 1) := by decide +kernel
theorem dX8_share_58 : decode cX8_share 58 = .ok (.invokestatic 114, 3) := by decide +kernel
theorem dX8_share_61 : decode cX8_share 61 = .ok (.ifCond .ne 46, 3) := by decide +kernel
theorem dX8_share_64 : decode cX8_share 64 = .ok (.iload 4, 2) := by decide +kernel
theorem dX8_share_66 : decode cX8_share 66 = .ok (.invokestatic 204, 3) := by decide +kernel
theorem dX8_share_69 : decode cX8_share 69 = .ok (.istore 5, 2) := by decide +kernel
theorem dX8_share_71 : decode cX8_share 71 = .ok (.iload_n 3, 1) := by decide +kernel
theorem dX8_share_72 : decode cX8_share 72 = .ok (.iload 5, 2) := by decide +kernel
theorem dX8_share_74 : decode cX8_share 74 = .ok (.invokestatic 207, 3) := by decide +kernel
theorem dX8_share_77 : decode cX8_share 77 = .ok (.iconst 3, 1) := by decide +kernel
theorem dX8_share_78 : decode cX8_share 78 = .ok (.iload 5, 2) := by decide +kernel
theorem dX8_share_80 : decode cX8_share 80 = .ok (.isub, 1) := by decide +kernel
theorem dX8_share_81 : decode cX8_share 81 = .ok (.invokestatic 207, 3) := by decide +kernel
theorem dX8_share_84 : decode cX8_share 84 = .ok (.imul, 1) := by decide +kernel
theorem dX8_share_85 : decode cX8_share 85 = .ok (.aload_n 0, 1) := by decide +kernel
theorem dX8_share_86 : decode cX8_share 86 = .ok (.getfield 41, 3) := by decide +kernel
theorem dX8_share_89 : decode cX8_share 89 = .ok (.iload 4, 2) := by decide +kernel
theorem dX8_share_91 : decode cX8_share 91 = .ok (.iaload, 1) := by decide +kernel
theorem dX8_share_92 : decode cX8_share 92 = .ok (.aload_n 0, 1) := by decide +kernel
theorem dX8_share_93 : decode cX8_share 93 = .ok (.getfield 41, 3) := by decide +kernel
theorem dX8_share_96 : decode cX8_share 96 = .ok (.iload 4, 2) := by decide +kernel
theorem dX8_share_98 : decode cX8_share 98 = .ok (.iconst 1, 1) := by decide +kernel
theorem dX8_share_99 : decode cX8_share 99 = .ok (.iload_n 1, 1) := by decide +kernel
theorem dX8_share_100 : decode cX8_share 100 = .ok (.ishl, 1) := by decide +kernel
theorem dX8_share_101 : decode cX8_share 101 = .ok (.ior, 1) := by decide +kernel
theorem dX8_share_102 : decode cX8_share 102 = .ok (.iaload, 1) := by decide +kernel
theorem dX8_share_103 : decode cX8_share 103 = .ok (.isub, 1) := by decide +kernel
theorem dX8_share_104 : decode cX8_share 104 = .ok (.imul, 1) := by decide +kernel
theorem dX8_share_105 : decode cX8_share 105 = .ok (.iadd, 1) := by decide +kernel
theorem dX8_share_106 : decode cX8_share 106 = .ok (.istore_n 3, 1) := by decide +kernel
theorem dX8_share_107 : decode cX8_share 107 = .ok (.iinc 4 1, 3) := by decide +kernel
theorem dX8_share_110 : decode cX8_share 110 = .ok (.goto (-62), 3) := by decide +kernel
theorem dX8_share_113 : decode cX8_share 113 = .ok (.iload_n 3, 1) := by decide +kernel
theorem dX8_share_114 : decode cX8_share 114 = .ok (.bipush 24, 2) := by decide +kernel
theorem dX8_share_116 : decode cX8_share 116 = .ok (.iload_n 2, 1) := by decide +kernel
theorem dX8_share_117 : decode cX8_share 117 = .ok (.invokestatic 210, 3) := by decide +kernel
theorem dX8_share_120 : decode cX8_share 120 = .ok (.ireturn, 1) := by decide +kernel
theorem dX8_chance_0 : decode cX8_chance 0 = .ok (.iload_n 1, 1) := by decide +kernel
theorem dX8_chance_1 : decode cX8_chance 1 = .ok (.i2l, 1) := by decide +kernel
theorem dX8_chance_2 : decode cX8_chance 2 = .ok (.lconst 0, 1) := by decide +kernel
theorem dX8_chance_3 : decode cX8_chance 3 = .ok (.ldc2_w 214, 3) := by decide +kernel
theorem dX8_chance_6 : decode cX8_chance 6 = .ok (.invokestatic 57, 3) := by decide +kernel
theorem dX8_chance_9 : decode cX8_chance 9 = .ok (.ifCond .eq 15, 3) := by decide +kernel
theorem dX8_chance_12 : decode cX8_chance 12 = .ok (.iload_n 2, 1) := by decide +kernel
theorem dX8_chance_13 : decode cX8_chance 13 = .ok (.i2l, 1) := by decide +kernel
theorem dX8_chance_14 : decode cX8_chance 14 = .ok (.lconst 0, 1) := by decide +kernel
theorem dX8_chance_15 : decode cX8_chance 15 = .ok (.ldc2_w 216, 3) := by decide +kernel
theorem dX8_chance_18 : decode cX8_chance 18 = .ok (.invokestatic 57, 3) := by decide +kernel
theorem dX8_chance_21 : decode cX8_chance 21 = .ok (.ifCond .ne 6, 3) := by decide +kernel
theorem dX8_chance_24 : decode cX8_chance 24 = .ok (.bipush (-2), 2) := by decide +kernel
theorem dX8_chance_26 : decode cX8_chance 26 = .ok (.ireturn, 1) := by decide +kernel
theorem dX8_chance_27 : decode cX8_chance 27 = .ok (.iconst 0, 1) := by decide +kernel
theorem dX8_chance_28 : decode cX8_chance 28 = .ok (.istore 4, 2) := by decide +kernel
theorem dX8_chance_30 : decode cX8_chance 30 = .ok (.iconst 0, 1) := by decide +kernel
theorem dX8_chance_31 : decode cX8_chance 31 = .ok (.istore 5, 2) := by decide +kernel
theorem dX8_chance_33 : decode cX8_chance 33 = .ok (.iload 5, 2) := by decide +kernel
theorem dX8_chance_35 : decode cX8_chance 35 = .ok (.bipush 16, 2) := by decide +kernel
theorem dX8_chance_37 : decode cX8_chance 37 = .ok (.if_icmp .ge 56, 3) := by decide +kernel
theorem dX8_chance_40 : decode cX8_chance 40 = .ok (.iload 4, 2) := by decide +kernel
theorem dX8_chance_42 : decode cX8_chance 42 = .ok (.aload_n 0, 1) := by decide +kernel
theorem dX8_chance_43 : decode cX8_chance 43 = .ok (.aload_n 0, 1) := by decide +kernel
theorem dX8_chance_44 : decode cX8_chance 44 = .ok (.getfield 13, 3) := by decide +kernel
theorem dX8_chance_47 : decode cX8_chance 47 = .ok (.iload 5, 2) := by decide +kernel
theorem dX8_chance_49 : decode cX8_chance 49 = .ok (.invokevirtual 142, 3) := by decide +kernel
theorem dX8_chance_52 : decode cX8_chance 52 = .ok (.iload_n 1, 1) := by decide +kernel
theorem dX8_chance_53 : decode cX8_chance 53 = .ok (.if_icmp .gt 30, 3) := by decide +kernel
theorem dX8_chance_56 : decode cX8_chance 56 = .ok (.iload_n 2, 1) := by decide +kernel
theorem dX8_chance_57 : decode cX8_chance 57 = .ok (.iload 5, 2) := by decide +kernel
theorem dX8_chance_59 : decode cX8_chance 59 = .ok (.invokestatic 204, 3) := by decide +kernel
theorem dX8_chance_62 : decode cX8_chance 62 = .ok (.invokestatic 218, 3) := by decide +kernel
theorem dX8_chance_65 : decode cX8_chance 65 = .ok (.bipush 10, 2) := by decide +kernel
theorem dX8_chance_67 : decode cX8_chance 67 = .ok (.iload_n 2, 1) := by decide +kernel
theorem dX8_chance_68 : decode cX8_chance 68 = .ok (.isub, 1) := by decide +kernel
theorem dX8_chance_69 : decode cX8_chance 69 = .ok (.iconst 4, 1) := by decide +kernel
theorem dX8_chance_70 : decode cX8_chance 70 = .ok (.iload 5, 2) := by decide +kernel
theorem dX8_chance_72 : decode cX8_chance 72 = .ok (.invokestatic 204, 3) := by decide +kernel
theorem dX8_chance_75 : decode cX8_chance 75 = .ok (.isub, 1) := by decide +kernel
theorem dX8_chance_76 : decode cX8_chance 76 = .ok (.invokestatic 218, 3) := by decide +kernel
theorem dX8_chance_79 : decode cX8_chance 79 = .ok (.imul, 1) := by decide +kernel
theorem dX8_chance_80 : decode cX8_chance 80 = .ok (.goto 4, 3) := by decide +kernel
theorem dX8_chance_83 : decode cX8_chance 83 = .ok (.iconst 0, 1) := by decide +kernel
theorem dX8_chance_84 : decode cX8_chance 84 = .ok (.iadd, 1) := by decide +kernel
theorem dX8_chance_85 : decode cX8_chance 85 = .ok (.istore 4, 2) := by decide +kernel
theorem dX8_chance_87 : decode cX8_chance 87 = .ok (.iinc 5 1, 3) := by decide +kernel
theorem dX8_chance_90 : decode cX8_chance 90 = .ok (.goto (-57), 3) := by decide +kernel
theorem dX8_chance_93 : decode cX8_chance 93 = .ok (.iload 4, 2) := by decide +kernel
theorem dX8_chance_95 : decode cX8_chance 95 = .ok (.sipush 10000, 3) := by decide +kernel
theorem dX8_chance_98 : decode cX8_chance 98 = .ok (.iload_n 3, 1) := by decide +kernel
theorem dX8_chance_99 : decode cX8_chance 99 = .ok (.invokestatic 210, 3) := by decide +kernel
theorem dX8_chance_102 : decode cX8_chance 102 = .ok (.ireturn, 1) := by decide +kernel
theorem dX8_mean_0 : decode cX8_mean 0 = .ok (.iload_n 1, 1) := by decide +kernel
theorem dX8_mean_1 : decode cX8_mean 1 = .ok (.i2l, 1) := by decide +kernel
theorem dX8_mean_2 : decode cX8_mean 2 = .ok (.lconst 0, 1) := by decide +kernel
theorem dX8_mean_3 : decode cX8_mean 3 = .ok (.ldc2_w 216, 3) := by decide +kernel
theorem dX8_mean_6 : decode cX8_mean 6 = .ok (.invokestatic 57, 3) := by decide +kernel
theorem dX8_mean_9 : decode cX8_mean 9 = .ok (.ifCond .ne 6, 3) := by decide +kernel
theorem dX8_mean_12 : decode cX8_mean 12 = .ok (.bipush (-2), 2) := by decide +kernel
theorem dX8_mean_14 : decode cX8_mean 14 = .ok (.ireturn, 1) := by decide +kernel
theorem dX8_mean_15 : decode cX8_mean 15 = .ok (.iconst 0, 1) := by decide +kernel
theorem dX8_mean_16 : decode cX8_mean 16 = .ok (.istore_n 3, 1) := by decide +kernel
theorem dX8_mean_17 : decode cX8_mean 17 = .ok (.iconst 0, 1) := by decide +kernel
theorem dX8_mean_18 : decode cX8_mean 18 = .ok (.istore 4, 2) := by decide +kernel
theorem dX8_mean_20 : decode cX8_mean 20 = .ok (.iload 4, 2) := by decide +kernel
theorem dX8_mean_22 : decode cX8_mean 22 = .ok (.bipush 16, 2) := by decide +kernel
theorem dX8_mean_24 : decode cX8_mean 24 = .ok (.if_icmp .ge 47, 3) := by decide +kernel
theorem dX8_mean_27 : decode cX8_mean 27 = .ok (.iload_n 3, 1) := by decide +kernel
theorem dX8_mean_28 : decode cX8_mean 28 = .ok (.aload_n 0, 1) := by decide +kernel
theorem dX8_mean_29 : decode cX8_mean 29 = .ok (.aload_n 0, 1) := by decide +kernel
theorem dX8_mean_30 : decode cX8_mean 30 = .ok (.getfield 13, 3) := by decide +kernel
theorem dX8_mean_33 : decode cX8_mean 33 = .ok (.iload 4, 2) := by decide +kernel
theorem dX8_mean_35 : decode cX8_mean 35 = .ok (.invokevirtual 142, 3) := by decide +kernel
theorem dX8_mean_38 : decode cX8_mean 38 = .ok (.iload_n 1, 1) := by decide +kernel
theorem dX8_mean_39 : decode cX8_mean 39 = .ok (.iload 4, 2) := by decide +kernel
theorem dX8_mean_41 : decode cX8_mean 41 = .ok (.invokestatic 204, 3) := by decide +kernel
theorem dX8_mean_44 : decode cX8_mean 44 = .ok (.invokestatic 218, 3) := by decide +kernel
theorem dX8_mean_47 : decode cX8_mean 47 = .ok (.imul, 1) := by decide +kernel
theorem dX8_mean_48 : decode cX8_mean 48 = .ok (.bipush 10, 2) := by decide +kernel
theorem dX8_mean_50 : decode cX8_mean 50 = .ok (.iload_n 1, 1) := by decide +kernel
theorem dX8_mean_51 : decode cX8_mean 51 = .ok (.isub, 1) := by decide +kernel
theorem dX8_mean_52 : decode cX8_mean 52 = .ok (.iconst 4, 1) := by decide +kernel
theorem dX8_mean_53 : decode cX8_mean 53 = .ok (.iload 4, 2) := by decide +kernel
theorem dX8_mean_55 : decode cX8_mean 55 = .ok (.invokestatic 204, 3) := by decide +kernel
theorem dX8_mean_58 : decode cX8_mean 58 = .ok (.isub, 1) := by decide +kernel
theorem dX8_mean_59 : decode cX8_mean 59 = .ok (.invokestatic 218, 3) := by decide +kernel
theorem dX8_mean_62 : decode cX8_mean 62 = .ok (.imul, 1) := by decide +kernel
theorem dX8_mean_63 : decode cX8_mean 63 = .ok (.iadd, 1) := by decide +kernel
theorem dX8_mean_64 : decode cX8_mean 64 = .ok (.istore_n 3, 1) := by decide +kernel
theorem dX8_mean_65 : decode cX8_mean 65 = .ok (.iinc 4 1, 3) := by decide +kernel
theorem dX8_mean_68 : decode cX8_mean 68 = .ok (.goto (-48), 3) := by decide +kernel
theorem dX8_mean_71 : decode cX8_mean 71 = .ok (.iload_n 3, 1) := by decide +kernel
theorem dX8_mean_72 : decode cX8_mean 72 = .ok (.sipush 10000, 3) := by decide +kernel
theorem dX8_mean_75 : decode cX8_mean 75 = .ok (.iload_n 2, 1) := by decide +kernel
theorem dX8_mean_76 : decode cX8_mean 76 = .ok (.invokestatic 210, 3) := by decide +kernel
theorem dX8_mean_79 : decode cX8_mean 79 = .ok (.ireturn, 1) := by decide +kernel
theorem dX8_seed_0 : decode cX8_seed 0 = .ok (.aload_n 0, 1) := by decide +kernel
theorem dX8_seed_1 : decode cX8_seed 1 = .ok (.getfield 221, 3) := by decide +kernel
theorem dX8_seed_4 : decode cX8_seed 4 = .ok (.lstore_n 3, 1) := by decide +kernel
theorem dX8_seed_5 : decode cX8_seed 5 = .ok (.aload_n 0, 1) := by decide +kernel
theorem dX8_seed_6 : decode cX8_seed 6 = .ok (.lload_n 1, 1) := by decide +kernel
theorem dX8_seed_7 : decode cX8_seed 7 = .ok (.putfield 221, 3) := by decide +kernel
theorem dX8_seed_10 : decode cX8_seed 10 = .ok (.lload_n 3, 1) := by decide +kernel
theorem dX8_seed_11 : decode cX8_seed 11 = .ok (.lreturn, 1) := by decide +kernel
theorem dX8_drawn_0 : decode cX8_drawn 0 = .ok (.iload_n 1, 1) := by decide +kernel
theorem dX8_drawn_1 : decode cX8_drawn 1 = .ok (.i2l, 1) := by decide +kernel
theorem dX8_drawn_2 : decode cX8_drawn 2 = .ok (.lconst 1, 1) := by decide +kernel
theorem dX8_drawn_3 : decode cX8_drawn 3 = .ok (.ldc2_w 225, 3) := by decide +kernel
theorem dX8_drawn_6 : decode cX8_drawn 6 = .ok (.invokestatic 57, 3) := by decide +kernel
theorem dX8_drawn_9 : decode cX8_drawn 9 = .ok (.ifCond .ne 6, 3) := by decide +kernel
theorem dX8_drawn_12 : decode cX8_drawn 12 = .ok (.bipush (-2), 2) := by decide +kernel
theorem dX8_drawn_14 : decode cX8_drawn 14 = .ok (.ireturn, 1) := by decide +kernel
theorem dX8_drawn_15 : decode cX8_drawn 15 = .ok (.aload_n 0, 1) := by decide +kernel
theorem dX8_drawn_16 : decode cX8_drawn 16 = .ok (.getfield 13, 3) := by decide +kernel
theorem dX8_drawn_19 : decode cX8_drawn 19 = .ok (.aload_n 0, 1) := by decide +kernel
theorem dX8_drawn_20 : decode cX8_drawn 20 = .ok (.getfield 16, 3) := by decide +kernel
theorem dX8_drawn_23 : decode cX8_drawn 23 = .ok (.invokestatic 134, 3) := by decide +kernel
theorem dX8_drawn_26 : decode cX8_drawn 26 = .ok (.iconst 0, 1) := by decide +kernel
theorem dX8_drawn_27 : decode cX8_drawn 27 = .ok (.istore_n 2, 1) := by decide +kernel
theorem dX8_drawn_28 : decode cX8_drawn 28 = .ok (.iconst 0, 1) := by decide +kernel
theorem dX8_drawn_29 : decode cX8_drawn 29 = .ok (.istore_n 3, 1) := by decide +kernel
theorem dX8_drawn_30 : decode cX8_drawn 30 = .ok (.iload_n 3, 1) := by decide +kernel
theorem dX8_drawn_31 : decode cX8_drawn 31 = .ok (.iload_n 1, 1) := by decide +kernel
theorem dX8_drawn_32 : decode cX8_drawn 32 = .ok (.if_icmp .ge 91, 3) := by decide +kernel
theorem dX8_drawn_35 : decode cX8_drawn 35 = .ok (.aload_n 0, 1) := by decide +kernel
theorem dX8_drawn_36 : decode cX8_drawn 36 = .ok (.aload_n 0, 1) := by decide +kernel
theorem dX8_drawn_37 : decode cX8_drawn 37 = .ok (.getfield 221, 3) := by decide +kernel
theorem dX8_drawn_40 : decode cX8_drawn 40 = .ok (.ldc2_w 227, 3) := by decide +kernel
theorem dX8_drawn_43 : decode cX8_drawn 43 = .ok (.lmul, 1) := by decide +kernel
theorem dX8_drawn_44 : decode cX8_drawn 44 = .ok (.ldc2_w 229, 3) := by decide +kernel
theorem dX8_drawn_47 : decode cX8_drawn 47 = .ok (.ladd, 1) := by decide +kernel
theorem dX8_drawn_48 : decode cX8_drawn 48 = .ok (.putfield 221, 3) := by decide +kernel
theorem dX8_drawn_51 : decode cX8_drawn 51 = .ok (.aload_n 0, 1) := by decide +kernel
theorem dX8_drawn_52 : decode cX8_drawn 52 = .ok (.getfield 221, 3) := by decide +kernel
theorem dX8_drawn_55 : decode cX8_drawn 55 = .ok (.bipush 33, 2) := by decide +kernel
theorem dX8_drawn_57 : decode cX8_drawn 57 = .ok (.lushr, 1) := by decide +kernel
theorem dX8_drawn_58 : decode cX8_drawn 58 = .ok (.l2i, 1) := by decide +kernel
theorem dX8_drawn_59 : decode cX8_drawn 59 = .ok (.istore 4, 2) := by decide +kernel
theorem dX8_drawn_61 : decode cX8_drawn 61 = .ok (.aload_n 0, 1) := by decide +kernel
theorem dX8_drawn_62 : decode cX8_drawn 62 = .ok (.getfield 54, 3) := by decide +kernel
theorem dX8_drawn_65 : decode cX8_drawn 65 = .ok (.ifCond .le 34, 3) := by decide +kernel
theorem dX8_drawn_68 : decode cX8_drawn 68 = .ok (.aload_n 0, 1) := by decide +kernel
theorem dX8_drawn_69 : decode cX8_drawn 69 = .ok (.getfield 16, 3) := by decide +kernel
theorem dX8_drawn_72 : decode cX8_drawn 72 = .ok (.bipush 20, 2) := by decide +kernel
theorem dX8_drawn_74 : decode cX8_drawn 74 = .ok (.iconst 4, 1) := by decide +kernel
theorem dX8_drawn_75 : decode cX8_drawn 75 = .ok (.iload 4, 2) := by decide +kernel
theorem dX8_drawn_77 : decode cX8_drawn 77 = .ok (.iconst 4, 1) := by decide +kernel
theorem dX8_drawn_78 : decode cX8_drawn 78 = .ok (.idiv, 1) := by decide +kernel
theorem dX8_drawn_79 : decode cX8_drawn 79 = .ok (.iconst 4, 1) := by decide +kernel
theorem dX8_drawn_80 : decode cX8_drawn 80 = .ok (.irem, 1) := by decide +kernel
theorem dX8_drawn_81 : decode cX8_drawn 81 = .ok (.imul, 1) := by decide +kernel
theorem dX8_drawn_82 : decode cX8_drawn 82 = .ok (.iadd, 1) := by decide +kernel
theorem dX8_drawn_83 : decode cX8_drawn 83 = .ok (.iload 4, 2) := by decide +kernel
theorem dX8_drawn_85 : decode cX8_drawn 85 = .ok (.iconst 4, 1) := by decide +kernel
theorem dX8_drawn_86 : decode cX8_drawn 86 = .ok (.irem, 1) := by decide +kernel
theorem dX8_drawn_87 : decode cX8_drawn 87 = .ok (.iadd, 1) := by decide +kernel
theorem dX8_drawn_88 : decode cX8_drawn 88 = .ok (.iload 4, 2) := by decide +kernel
theorem dX8_drawn_90 : decode cX8_drawn 90 = .ok (.bipush 16, 2) := by decide +kernel
theorem dX8_drawn_92 : decode cX8_drawn 92 = .ok (.idiv, 1) := by decide +kernel
theorem dX8_drawn_93 : decode cX8_drawn 93 = .ok (.aload_n 0, 1) := by decide +kernel
theorem dX8_drawn_94 : decode cX8_drawn 94 = .ok (.getfield 54, 3) := by decide +kernel
theorem dX8_drawn_97 : decode cX8_drawn 97 = .ok (.irem, 1) := by decide +kernel
theorem dX8_drawn_98 : decode cX8_drawn 98 = .ok (.iastore, 1) := by decide +kernel
theorem dX8_drawn_99 : decode cX8_drawn 99 = .ok (.iload_n 2, 1) := by decide +kernel
theorem dX8_drawn_100 : decode cX8_drawn 100 = .ok (.aload_n 0, 1) := by decide +kernel
theorem dX8_drawn_101 : decode cX8_drawn 101 = .ok (.aload_n 0, 1) := by decide +kernel
theorem dX8_drawn_102 : decode cX8_drawn 102 = .ok (.getfield 16, 3) := by decide +kernel
theorem dX8_drawn_105 : decode cX8_drawn 105 = .ok (.aload_n 0, 1) := by decide +kernel
theorem dX8_drawn_106 : decode cX8_drawn 106 = .ok (.getfield 16, 3) := by decide +kernel
theorem dX8_drawn_109 : decode cX8_drawn 109 = .ok (.bipush 37, 2) := by decide +kernel
theorem dX8_drawn_111 : decode cX8_drawn 111 = .ok (.iaload, 1) := by decide +kernel
theorem dX8_drawn_112 : decode cX8_drawn 112 = .ok (.invokevirtual 142, 3) := by decide +kernel
theorem dX8_drawn_115 : decode cX8_drawn 115 = .ok (.iadd, 1) := by decide +kernel
theorem dX8_drawn_116 : decode cX8_drawn 116 = .ok (.istore_n 2, 1) := by decide +kernel
theorem dX8_drawn_117 : decode cX8_drawn 117 = .ok (.iinc 3 1, 3) := by decide +kernel
theorem dX8_drawn_120 : decode cX8_drawn 120 = .ok (.goto (-90), 3) := by decide +kernel
theorem dX8_drawn_123 : decode cX8_drawn 123 = .ok (.iload_n 2, 1) := by decide +kernel
theorem dX8_drawn_124 : decode cX8_drawn 124 = .ok (.ireturn, 1) := by decide +kernel
theorem dX8_keep_0 : decode cX8_keep 0 = .ok (.iload_n 1, 1) := by decide +kernel
theorem dX8_keep_1 : decode cX8_keep 1 = .ok (.i2l, 1) := by decide +kernel
theorem dX8_keep_2 : decode cX8_keep 2 = .ok (.lconst 0, 1) := by decide +kernel
theorem dX8_keep_3 : decode cX8_keep 3 = .ok (.lconst 1, 1) := by decide +kernel
theorem dX8_keep_4 : decode cX8_keep 4 = .ok (.invokestatic 57, 3) := by decide +kernel
theorem dX8_keep_7 : decode cX8_keep 7 = .ok (.ifCond .ne 5, 3) := by decide +kernel
theorem dX8_keep_10 : decode cX8_keep 10 = .ok (.iconst (-1), 1) := by decide +kernel
theorem dX8_keep_11 : decode cX8_keep 11 = .ok (.ireturn, 1) := by decide +kernel
theorem dX8_keep_12 : decode cX8_keep 12 = .ok (.aload_n 0, 1) := by decide +kernel
theorem dX8_keep_13 : decode cX8_keep 13 = .ok (.getfield 25, 3) := by decide +kernel
theorem dX8_keep_16 : decode cX8_keep 16 = .ok (.iload_n 1, 1) := by decide +kernel
theorem dX8_keep_17 : decode cX8_keep 17 = .ok (.iconst 1, 1) := by decide +kernel
theorem dX8_keep_18 : decode cX8_keep 18 = .ok (.bastore, 1) := by decide +kernel
theorem dX8_keep_19 : decode cX8_keep 19 = .ok (.iconst 0, 1) := by decide +kernel
theorem dX8_keep_20 : decode cX8_keep 20 = .ok (.istore_n 2, 1) := by decide +kernel
theorem dX8_keep_21 : decode cX8_keep 21 = .ok (.iload_n 2, 1) := by decide +kernel
theorem dX8_keep_22 : decode cX8_keep 22 = .ok (.bipush 38, 2) := by decide +kernel
theorem dX8_keep_24 : decode cX8_keep 24 = .ok (.if_icmp .ge 26, 3) := by decide +kernel
theorem dX8_keep_27 : decode cX8_keep 27 = .ok (.aload_n 0, 1) := by decide +kernel
theorem dX8_keep_28 : decode cX8_keep 28 = .ok (.getfield 22, 3) := by decide +kernel
theorem dX8_keep_31 : decode cX8_keep 31 = .ok (.bipush 38, 2) := by decide +kernel
theorem dX8_keep_33 : decode cX8_keep 33 = .ok (.iload_n 1, 1) := by decide +kernel
theorem dX8_keep_34 : decode cX8_keep 34 = .ok (.imul, 1) := by decide +kernel
theorem dX8_keep_35 : decode cX8_keep 35 = .ok (.iload_n 2, 1) := by decide +kernel
theorem dX8_keep_36 : decode cX8_keep 36 = .ok (.iadd, 1) := by decide +kernel
theorem dX8_keep_37 : decode cX8_keep 37 = .ok (.aload_n 0, 1) := by decide +kernel
theorem dX8_keep_38 : decode cX8_keep 38 = .ok (.getfield 13, 3) := by decide +kernel
theorem dX8_keep_41 : decode cX8_keep 41 = .ok (.iload_n 2, 1) := by decide +kernel
theorem dX8_keep_42 : decode cX8_keep 42 = .ok (.iaload, 1) := by decide +kernel
theorem dX8_keep_43 : decode cX8_keep 43 = .ok (.iastore, 1) := by decide +kernel
theorem dX8_keep_44 : decode cX8_keep 44 = .ok (.iinc 2 1, 3) := by decide +kernel
theorem dX8_keep_47 : decode cX8_keep 47 = .ok (.goto (-26), 3) := by decide +kernel
theorem dX8_keep_50 : decode cX8_keep 50 = .ok (.aload_n 0, 1) := by decide +kernel
theorem dX8_keep_51 : decode cX8_keep 51 = .ok (.getfield 13, 3) := by decide +kernel
theorem dX8_keep_54 : decode cX8_keep 54 = .ok (.bipush 37, 2) := by decide +kernel
theorem dX8_keep_56 : decode cX8_keep 56 = .ok (.iaload, 1) := by decide +kernel
theorem dX8_keep_57 : decode cX8_keep 57 = .ok (.ireturn, 1) := by decide +kernel
theorem dX8_again_0 : decode cX8_again 0 = .ok (.iload_n 1, 1) := by decide +kernel
theorem dX8_again_1 : decode cX8_again 1 = .ok (.i2l, 1) := by decide +kernel
theorem dX8_again_2 : decode cX8_again 2 = .ok (.lconst 0, 1) := by decide +kernel
theorem dX8_again_3 : decode cX8_again 3 = .ok (.lconst 1, 1) := by decide +kernel
theorem dX8_again_4 : decode cX8_again 4 = .ok (.invokestatic 57, 3) := by decide +kernel
theorem dX8_again_7 : decode cX8_again 7 = .ok (.ifCond .ne 5, 3) := by decide +kernel
theorem dX8_again_10 : decode cX8_again 10 = .ok (.iconst (-1), 1) := by decide +kernel
theorem dX8_again_11 : decode cX8_again 11 = .ok (.ireturn, 1) := by decide +kernel
theorem dX8_again_12 : decode cX8_again 12 = .ok (.aload_n 0, 1) := by decide +kernel
theorem dX8_again_13 : decode cX8_again 13 = .ok (.getfield 25, 3) := by decide +kernel
theorem dX8_again_16 : decode cX8_again 16 = .ok (.iload_n 1, 1) := by decide +kernel
theorem dX8_again_17 : decode cX8_again 17 = .ok (.baload, 1) := by decide +kernel
theorem dX8_again_18 : decode cX8_again 18 = .ok (.ifCond .ne 6, 3) := by decide +kernel
theorem dX8_again_21 : decode cX8_again 21 = .ok (.bipush (-3), 2) := by decide +kernel
theorem dX8_again_23 : decode cX8_again 23 = .ok (.ireturn, 1) := by decide +kernel
theorem dX8_again_24 : decode cX8_again 24 = .ok (.iconst 0, 1) := by decide +kernel
theorem dX8_again_25 : decode cX8_again 25 = .ok (.istore_n 2, 1) := by decide +kernel
theorem dX8_again_26 : decode cX8_again 26 = .ok (.iload_n 2, 1) := by decide +kernel
theorem dX8_again_27 : decode cX8_again 27 = .ok (.bipush 38, 2) := by decide +kernel
theorem dX8_again_29 : decode cX8_again 29 = .ok (.if_icmp .ge 26, 3) := by decide +kernel
theorem dX8_again_32 : decode cX8_again 32 = .ok (.aload_n 0, 1) := by decide +kernel
theorem dX8_again_33 : decode cX8_again 33 = .ok (.getfield 13, 3) := by decide +kernel
theorem dX8_again_36 : decode cX8_again 36 = .ok (.iload_n 2, 1) := by decide +kernel
theorem dX8_again_37 : decode cX8_again 37 = .ok (.aload_n 0, 1) := by decide +kernel
theorem dX8_again_38 : decode cX8_again 38 = .ok (.getfield 22, 3) := by decide +kernel
theorem dX8_again_41 : decode cX8_again 41 = .ok (.bipush 38, 2) := by decide +kernel
theorem dX8_again_43 : decode cX8_again 43 = .ok (.iload_n 1, 1) := by decide +kernel
theorem dX8_again_44 : decode cX8_again 44 = .ok (.imul, 1) := by decide +kernel
theorem dX8_again_45 : decode cX8_again 45 = .ok (.iload_n 2, 1) := by decide +kernel
theorem dX8_again_46 : decode cX8_again 46 = .ok (.iadd, 1) := by decide +kernel
theorem dX8_again_47 : decode cX8_again 47 = .ok (.iaload, 1) := by decide +kernel
theorem dX8_again_48 : decode cX8_again 48 = .ok (.iastore, 1) := by decide +kernel
theorem dX8_again_49 : decode cX8_again 49 = .ok (.iinc 2 1, 3) := by decide +kernel
theorem dX8_again_52 : decode cX8_again 52 = .ok (.goto (-26), 3) := by decide +kernel
theorem dX8_again_55 : decode cX8_again 55 = .ok (.aload_n 0, 1) := by decide +kernel
theorem dX8_again_56 : decode cX8_again 56 = .ok (.iconst 0, 1) := by decide +kernel
theorem dX8_again_57 : decode cX8_again 57 = .ok (.putfield 99, 3) := by decide +kernel
theorem dX8_again_60 : decode cX8_again 60 = .ok (.aload_n 0, 1) := by decide +kernel
theorem dX8_again_61 : decode cX8_again 61 = .ok (.getfield 13, 3) := by decide +kernel
theorem dX8_again_64 : decode cX8_again 64 = .ok (.bipush 37, 2) := by decide +kernel
theorem dX8_again_66 : decode cX8_again 66 = .ok (.iaload, 1) := by decide +kernel
theorem dX8_again_67 : decode cX8_again 67 = .ok (.ireturn, 1) := by decide +kernel
