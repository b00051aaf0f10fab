theorem dX7_init_0 : decode cX7_init 0 = .ok (.aload_n 0, 1) := by decide +kernel
theorem dX7_init_1 : decode cX7_init 1 = .ok (.invokespecial 3, 3) := by decide +kernel
theorem dX7_init_4 : decode cX7_init 4 = .ok (.aload_n 0, 1) := by decide +kernel
theorem dX7_init_5 : decode cX7_init 5 = .ok (.new 9, 3) := by decide +kernel
theorem dX7_init_8 : decode cX7_init 8 = .ok (.dup, 1) := by decide +kernel
theorem dX7_init_9 : decode cX7_init 9 = .ok (.invokespecial 11, 3) := by decide +kernel
theorem dX7_init_12 : decode cX7_init 12 = .ok (.putfield 12, 3) := by decide +kernel
theorem dX7_init_15 : decode cX7_init 15 = .ok (.aload_n 0, 1) := by decide +kernel
theorem dX7_init_16 : decode cX7_init 16 = .ok (.new 16, 3) := by decide +kernel
theorem dX7_init_19 : decode cX7_init 19 = .ok (.dup, 1) := by decide +kernel
theorem dX7_init_20 : decode cX7_init 20 = .ok (.invokespecial 18, 3) := by decide +kernel
theorem dX7_init_23 : decode cX7_init 23 = .ok (.putfield 19, 3) := by decide +kernel
theorem dX7_init_26 : decode cX7_init 26 = .ok (.aload_n 0, 1) := by decide +kernel
theorem dX7_init_27 : decode cX7_init 27 = .ok (.new 16, 3) := by decide +kernel
theorem dX7_init_30 : decode cX7_init 30 = .ok (.dup, 1) := by decide +kernel
theorem dX7_init_31 : decode cX7_init 31 = .ok (.invokespecial 18, 3) := by decide +kernel
theorem dX7_init_34 : decode cX7_init 34 = .ok (.putfield 23, 3) := by decide +kernel
theorem dX7_init_37 : decode cX7_init 37 = .ok (.aload_n 0, 1) := by decide +kernel
theorem dX7_init_38 : decode cX7_init 38 = .ok (.new 26, 3) := by decide +kernel
theorem dX7_init_41 : decode cX7_init 41 = .ok (.dup, 1) := by decide +kernel
theorem dX7_init_42 : decode cX7_init 42 = .ok (.invokespecial 28, 3) := by decide +kernel
theorem dX7_init_45 : decode cX7_init 45 = .ok (.putfield 29, 3) := by decide +kernel
theorem dX7_init_48 : decode cX7_init 48 = .ok (.aload_n 0, 1) := by decide +kernel
theorem dX7_init_49 : decode cX7_init 49 = .ok (.new 33, 3) := by decide +kernel
theorem dX7_init_52 : decode cX7_init 52 = .ok (.dup, 1) := by decide +kernel
theorem dX7_init_53 : decode cX7_init 53 = .ok (.invokespecial 35, 3) := by decide +kernel
theorem dX7_init_56 : decode cX7_init 56 = .ok (.putfield 36, 3) := by decide +kernel
theorem dX7_init_59 : decode cX7_init 59 = .ok (.aload_n 0, 1) := by decide +kernel
theorem dX7_init_60 : decode cX7_init 60 = .ok (.new 40, 3) := by decide +kernel
theorem dX7_init_63 : decode cX7_init 63 = .ok (.dup, 1) := by decide +kernel
theorem dX7_init_64 : decode cX7_init 64 = .ok (.invokespecial 42, 3) := by decide +kernel
theorem dX7_init_67 : decode cX7_init 67 = .ok (.putfield 43, 3) := by decide +kernel
theorem dX7_init_70 : decode cX7_init 70 = .ok (.aload_n 0, 1) := by decide +kernel
theorem dX7_init_71 : decode cX7_init 71 = .ok (.new 47, 3) := by decide +kernel
theorem dX7_init_74 : decode cX7_init 74 = .ok (.dup, 1) := by decide +kernel
theorem dX7_init_75 : decode cX7_init 75 = .ok (.invokespecial 49, 3) := by decide +kernel
theorem dX7_init_78 : decode cX7_init 78 = .ok (.putfield 50, 3) := by decide +kernel
theorem dX7_init_81 : decode cX7_init 81 = .ok (.aload_n 0, 1) := by decide +kernel
theorem dX7_init_82 : decode cX7_init 82 = .ok (.new 54, 3) := by decide +kernel
theorem dX7_init_85 : decode cX7_init 85 = .ok (.dup, 1) := by decide +kernel
theorem dX7_init_86 : decode cX7_init 86 = .ok (.invokespecial 56, 3) := by decide +kernel
theorem dX7_init_89 : decode cX7_init 89 = .ok (.putfield 57, 3) := by decide +kernel
theorem dX7_init_92 : decode cX7_init 92 = .ok (.aload_n 0, 1) := by decide +kernel
theorem dX7_init_93 : decode cX7_init 93 = .ok (.bipush 16, 2) := by decide +kernel
theorem dX7_init_95 : decode cX7_init 95 = .ok (.newarray .int, 2) := by decide +kernel
theorem dX7_init_97 : decode cX7_init 97 = .ok (.putfield 61, 3) := by decide +kernel
theorem dX7_init_100 : decode cX7_init 100 = .ok (.return_, 1) := by decide +kernel
theorem dX7_write_0 : decode cX7_write 0 = .ok (.iload_n 1, 1) := by decide +kernel
theorem dX7_write_1 : decode cX7_write 1 = .ok (.ifCond .lt 10, 3) := by decide +kernel
theorem dX7_write_4 : decode cX7_write 4 = .ok (.iload_n 1, 1) := by decide +kernel
theorem dX7_write_5 : decode cX7_write 5 = .ok (.sipush 255, 3) := by decide +kernel
theorem dX7_write_8 : decode cX7_write 8 = .ok (.if_icmp .le 6, 3) := by decide +kernel
theorem dX7_write_11 : decode cX7_write 11 = .ok (.bipush (-2), 2) := by decide +kernel
theorem dX7_write_13 : decode cX7_write 13 = .ok (.ireturn, 1) := by decide +kernel
theorem dX7_write_14 : decode cX7_write 14 = .ok (.aload_n 0, 1) := by decide +kernel
theorem dX7_write_15 : decode cX7_write 15 = .ok (.getfield 12, 3) := by decide +kernel
theorem dX7_write_18 : decode cX7_write 18 = .ok (.iload_n 1, 1) := by decide +kernel
theorem dX7_write_19 : decode cX7_write 19 = .ok (.invokevirtual 65, 3) := by decide +kernel
theorem dX7_write_22 : decode cX7_write 22 = .ok (.ifCond .eq 13, 3) := by decide +kernel
theorem dX7_write_25 : decode cX7_write 25 = .ok (.aload_n 0, 1) := by decide +kernel
theorem dX7_write_26 : decode cX7_write 26 = .ok (.getfield 12, 3) := by decide +kernel
theorem dX7_write_29 : decode cX7_write 29 = .ok (.getfield 69, 3) := by decide +kernel
theorem dX7_write_32 : decode cX7_write 32 = .ok (.goto 5, 3) := by decide +kernel
theorem dX7_write_35 : decode cX7_write 35 = .ok (.bipush (-4), 2) := by decide +kernel
theorem dX7_write_37 : decode cX7_write 37 = .ok (.ireturn, 1) := by decide +kernel
theorem dX7_wipe_0 : decode cX7_wipe 0 = .ok (.aload_n 0, 1) := by decide +kernel
theorem dX7_wipe_1 : decode cX7_wipe 1 = .ok (.getfield 12, 3) := by decide +kernel
theorem dX7_wipe_4 : decode cX7_wipe 4 = .ok (.getfield 69, 3) := by decide +kernel
theorem dX7_wipe_7 : decode cX7_wipe 7 = .ok (.istore_n 1, 1) := by decide +kernel
theorem dX7_wipe_8 : decode cX7_wipe 8 = .ok (.aload_n 0, 1) := by decide +kernel
theorem dX7_wipe_9 : decode cX7_wipe 9 = .ok (.getfield 12, 3) := by decide +kernel
theorem dX7_wipe_12 : decode cX7_wipe 12 = .ok (.iconst 0, 1) := by decide +kernel
theorem dX7_wipe_13 : decode cX7_wipe 13 = .ok (.putfield 69, 3) := by decide +kernel
theorem dX7_wipe_16 : decode cX7_wipe 16 = .ok (.iload_n 1, 1) := by decide +kernel
theorem dX7_wipe_17 : decode cX7_wipe 17 = .ok (.ireturn, 1) := by decide +kernel
theorem dX7_fault_0 : decode cX7_fault 0 = .ok (.aload_n 0, 1) := by decide +kernel
theorem dX7_fault_1 : decode cX7_fault 1 = .ok (.getfield 12, 3) := by decide +kernel
theorem dX7_fault_4 : decode cX7_fault 4 = .ok (.aload_n 0, 1) := by decide +kernel
theorem dX7_fault_5 : decode cX7_fault 5 = .ok (.getfield 23, 3) := by decide +kernel
theorem dX7_fault_8 : decode cX7_fault 8 = .ok (.invokevirtual 73, 3) := by decide +kernel
theorem dX7_fault_11 : decode cX7_fault 11 = .ok (.ireturn, 1) := by decide +kernel
theorem dX7_map_0 : decode cX7_map 0 = .ok (.aload_n 0, 1) := by decide +kernel
theorem dX7_map_1 : decode cX7_map 1 = .ok (.getfield 12, 3) := by decide +kernel
theorem dX7_map_4 : decode cX7_map 4 = .ok (.aload_n 0, 1) := by decide +kernel
theorem dX7_map_5 : decode cX7_map 5 = .ok (.getfield 23, 3) := by decide +kernel
theorem dX7_map_8 : decode cX7_map 8 = .ok (.invokevirtual 73, 3) := by decide +kernel
theorem dX7_map_11 : decode cX7_map 11 = .ok (.bipush (-9), 2) := by decide +kernel
theorem dX7_map_13 : decode cX7_map 13 = .ok (.if_icmp .eq 6, 3) := by decide +kernel
theorem dX7_map_16 : decode cX7_map 16 = .ok (.bipush (-3), 2) := by decide +kernel
theorem dX7_map_18 : decode cX7_map 18 = .ok (.ireturn, 1) := by decide +kernel
theorem dX7_map_19 : decode cX7_map 19 = .ok (.aload_n 0, 1) := by decide +kernel
theorem dX7_map_20 : decode cX7_map 20 = .ok (.getfield 19, 3) := by decide +kernel
theorem dX7_map_23 : decode cX7_map 23 = .ok (.aload_n 0, 1) := by decide +kernel
theorem dX7_map_24 : decode cX7_map 24 = .ok (.getfield 23, 3) := by decide +kernel
theorem dX7_map_27 : decode cX7_map 27 = .ok (.invokevirtual 77, 3) := by decide +kernel
theorem dX7_map_30 : decode cX7_map 30 = .ok (.aload_n 0, 1) := by decide +kernel
theorem dX7_map_31 : decode cX7_map 31 = .ok (.getfield 29, 3) := by decide +kernel
theorem dX7_map_34 : decode cX7_map 34 = .ok (.invokevirtual 81, 3) := by decide +kernel
theorem dX7_map_37 : decode cX7_map 37 = .ok (.aload_n 0, 1) := by decide +kernel
theorem dX7_map_38 : decode cX7_map 38 = .ok (.getfield 36, 3) := by decide +kernel
theorem dX7_map_41 : decode cX7_map 41 = .ok (.invokevirtual 84, 3) := by decide +kernel
theorem dX7_map_44 : decode cX7_map 44 = .ok (.aload_n 0, 1) := by decide +kernel
theorem dX7_map_45 : decode cX7_map 45 = .ok (.getfield 19, 3) := by decide +kernel
theorem dX7_map_48 : decode cX7_map 48 = .ok (.getfield 85, 3) := by decide +kernel
theorem dX7_map_51 : decode cX7_map 51 = .ok (.ireturn, 1) := by decide +kernel
theorem dX7_about_0 : decode cX7_about 0 = .ok (.iload_n 1, 1) := by decide +kernel
theorem dX7_about_1 : decode cX7_about 1 = .ok (.tableswitch 197 0 14 #[75, 83, 91, 99, 107, 115, 120, 146, 152, 158, 163, 168, 173, 181, 189], 75) := by decide +kernel
theorem dX7_about_76 : decode cX7_about 76 = .ok (.aload_n 0, 1) := by decide +kernel
theorem dX7_about_77 : decode cX7_about 77 = .ok (.getfield 19, 3) := by decide +kernel
theorem dX7_about_80 : decode cX7_about 80 = .ok (.getfield 88, 3) := by decide +kernel
theorem dX7_about_83 : decode cX7_about 83 = .ok (.ireturn, 1) := by decide +kernel
theorem dX7_about_84 : decode cX7_about 84 = .ok (.aload_n 0, 1) := by decide +kernel
theorem dX7_about_85 : decode cX7_about 85 = .ok (.getfield 19, 3) := by decide +kernel
theorem dX7_about_88 : decode cX7_about 88 = .ok (.getfield 91, 3) := by decide +kernel
theorem dX7_about_91 : decode cX7_about 91 = .ok (.ireturn, 1) := by decide +kernel
theorem dX7_about_92 : decode cX7_about 92 = .ok (.aload_n 0, 1) := by decide +kernel
theorem dX7_about_93 : decode cX7_about 93 = .ok (.getfield 19, 3) := by decide +kernel
theorem dX7_about_96 : decode cX7_about 96 = .ok (.getfield 85, 3) := by decide +kernel
theorem dX7_about_99 : decode cX7_about 99 = .ok (.ireturn, 1) := by decide +kernel
theorem dX7_about_100 : decode cX7_about 100 = .ok (.aload_n 0, 1) := by decide +kernel
theorem dX7_about_101 : decode cX7_about 101 = .ok (.getfield 19, 3) := by decide +kernel
theorem dX7_about_104 : decode cX7_about 104 = .ok (.getfield 94, 3) := by decide +kernel
theorem dX7_about_107 : decode cX7_about 107 = .ok (.ireturn, 1) := by decide +kernel
theorem dX7_about_108 : decode cX7_about 108 = .ok (.aload_n 0, 1) := by decide +kernel
theorem dX7_about_109 : decode cX7_about 109 = .ok (.getfield 19, 3) := by decide +kernel
theorem dX7_about_112 : decode cX7_about 112 = .ok (.getfield 97, 3) := by decide +kernel
theorem dX7_about_115 : decode cX7_about 115 = .ok (.ireturn, 1) := by decide +kernel
theorem dX7_about_116 : decode cX7_about 116 = .ok (.aload_n 0, 1) := by decide +kernel
theorem dX7_about_117 : decode cX7_about 117 = .ok (.invokevirtual 100, 3) := by decide +kernel
theorem dX7_about_120 : decode cX7_about 120 = .ok (.ireturn, 1) := by decide +kernel
theorem dX7_about_121 : decode cX7_about 121 = .ok (.aload_n 0, 1) := by decide +kernel
theorem dX7_about_122 : decode cX7_about 122 = .ok (.getfield 57, 3) := by decide +kernel
theorem dX7_about_125 : decode cX7_about 125 = .ok (.aload_n 0, 1) := by decide +kernel
theorem dX7_about_126 : decode cX7_about 126 = .ok (.getfield 19, 3) := by decide +kernel
theorem dX7_about_129 : decode cX7_about 129 = .ok (.aload_n 0, 1) := by decide +kernel
theorem dX7_about_130 : decode cX7_about 130 = .ok (.getfield 19, 3) := by decide +kernel
theorem dX7_about_133 : decode cX7_about 133 = .ok (.getfield 94, 3) := by decide +kernel
theorem dX7_about_136 : decode cX7_about 136 = .ok (.aload_n 0, 1) := by decide +kernel
theorem dX7_about_137 : decode cX7_about 137 = .ok (.getfield 19, 3) := by decide +kernel
theorem dX7_about_140 : decode cX7_about 140 = .ok (.getfield 97, 3) := by decide +kernel
theorem dX7_about_143 : decode cX7_about 143 = .ok (.invokevirtual 104, 3) := by decide +kernel
theorem dX7_about_146 : decode cX7_about 146 = .ok (.ireturn, 1) := by decide +kernel
theorem dX7_about_147 : decode cX7_about 147 = .ok (.aload_n 0, 1) := by decide +kernel
theorem dX7_about_148 : decode cX7_about 148 = .ok (.iconst 0, 1) := by decide +kernel
theorem dX7_about_149 : decode cX7_about 149 = .ok (.invokevirtual 108, 3) := by decide +kernel
theorem dX7_about_152 : decode cX7_about 152 = .ok (.ireturn, 1) := by decide +kernel
theorem dX7_about_153 : decode cX7_about 153 = .ok (.aload_n 0, 1) := by decide +kernel
theorem dX7_about_154 : decode cX7_about 154 = .ok (.iconst 1, 1) := by decide +kernel
theorem dX7_about_155 : decode cX7_about 155 = .ok (.invokevirtual 108, 3) := by decide +kernel
theorem dX7_about_158 : decode cX7_about 158 = .ok (.ireturn, 1) := by decide +kernel
theorem dX7_about_159 : decode cX7_about 159 = .ok (.aload_n 0, 1) := by decide +kernel
theorem dX7_about_160 : decode cX7_about 160 = .ok (.invokevirtual 112, 3) := by decide +kernel
theorem dX7_about_163 : decode cX7_about 163 = .ok (.ireturn, 1) := by decide +kernel
theorem dX7_about_164 : decode cX7_about 164 = .ok (.aload_n 0, 1) := by decide +kernel
theorem dX7_about_165 : decode cX7_about 165 = .ok (.invokevirtual 115, 3) := by decide +kernel
theorem dX7_about_168 : decode cX7_about 168 = .ok (.ireturn, 1) := by decide +kernel
theorem dX7_about_169 : decode cX7_about 169 = .ok (.aload_n 0, 1) := by decide +kernel
theorem dX7_about_170 : decode cX7_about 170 = .ok (.invokevirtual 118, 3) := by decide +kernel
theorem dX7_about_173 : decode cX7_about 173 = .ok (.ireturn, 1) := by decide +kernel
theorem dX7_about_174 : decode cX7_about 174 = .ok (.aload_n 0, 1) := by decide +kernel
theorem dX7_about_175 : decode cX7_about 175 = .ok (.getfield 29, 3) := by decide +kernel
theorem dX7_about_178 : decode cX7_about 178 = .ok (.getfield 121, 3) := by decide +kernel
theorem dX7_about_181 : decode cX7_about 181 = .ok (.ireturn, 1) := by decide +kernel
theorem dX7_about_182 : decode cX7_about 182 = .ok (.aload_n 0, 1) := by decide +kernel
theorem dX7_about_183 : decode cX7_about 183 = .ok (.getfield 43, 3) := by decide +kernel
theorem dX7_about_186 : decode cX7_about 186 = .ok (.getfield 124, 3) := by decide +kernel
theorem dX7_about_189 : decode cX7_about 189 = .ok (.ireturn, 1) := by decide +kernel
theorem dX7_about_190 : decode cX7_about 190 = .ok (.aload_n 0, 1) := by decide +kernel
theorem dX7_about_191 : decode cX7_about 191 = .ok (.getfield 12, 3) := by decide +kernel
theorem dX7_about_194 : decode cX7_about 194 = .ok (.getfield 69, 3) := by decide +kernel
theorem dX7_about_197 : decode cX7_about 197 = .ok (.ireturn, 1) := by decide +kernel
theorem dX7_about_198 : decode cX7_about 198 = .ok (.bipush (-2), 2) := by decide +kernel
theorem dX7_about_200 : decode cX7_about 200 = .ok (.ireturn, 1) := by decide +kernel
theorem dX7_shade_0 : decode cX7_shade 0 = .ok (.aload_n 0, 1) := by decide +kernel
theorem dX7_shade_1 : decode cX7_shade 1 = .ok (.getfield 19, 3) := by decide +kernel
theorem dX7_shade_4 : decode cX7_shade 4 = .ok (.iload_n 1, 1) := by decide +kernel
theorem dX7_shade_5 : decode cX7_shade 5 = .ok (.invokevirtual 125, 3) := by decide +kernel
theorem dX7_shade_8 : decode cX7_shade 8 = .ok (.ifCond .ne 5, 3) := by decide +kernel
theorem dX7_shade_11 : decode cX7_shade 11 = .ok (.iconst (-1), 1) := by decide +kernel
theorem dX7_shade_12 : decode cX7_shade 12 = .ok (.ireturn, 1) := by decide +kernel
theorem dX7_shade_13 : decode cX7_shade 13 = .ok (.iload_n 2, 1) := by decide +kernel
theorem dX7_shade_14 : decode cX7_shade 14 = .ok (.tableswitch 55 0 2 #[26, 36, 46], 26) := by decide +kernel
theorem dX7_shade_40 : decode cX7_shade 40 = .ok (.aload_n 0, 1) := by decide +kernel
theorem dX7_shade_41 : decode cX7_shade 41 = .ok (.getfield 19, 3) := by decide +kernel
theorem dX7_shade_44 : decode cX7_shade 44 = .ok (.getfield 128, 3) := by decide +kernel
theorem dX7_shade_47 : decode cX7_shade 47 = .ok (.iload_n 1, 1) := by decide +kernel
theorem dX7_shade_48 : decode cX7_shade 48 = .ok (.iaload, 1) := by decide +kernel
theorem dX7_shade_49 : decode cX7_shade 49 = .ok (.ireturn, 1) := by decide +kernel
theorem dX7_shade_50 : decode cX7_shade 50 = .ok (.aload_n 0, 1) := by decide +kernel
theorem dX7_shade_51 : decode cX7_shade 51 = .ok (.getfield 19, 3) := by decide +kernel
theorem dX7_shade_54 : decode cX7_shade 54 = .ok (.getfield 131, 3) := by decide +kernel
theorem dX7_shade_57 : decode cX7_shade 57 = .ok (.iload_n 1, 1) := by decide +kernel
theorem dX7_shade_58 : decode cX7_shade 58 = .ok (.iaload, 1) := by decide +kernel
theorem dX7_shade_59 : decode cX7_shade 59 = .ok (.ireturn, 1) := by decide +kernel
theorem dX7_shade_60 : decode cX7_shade 60 = .ok (.aload_n 0, 1) := by decide +kernel
theorem dX7_shade_61 : decode cX7_shade 61 = .ok (.getfield 19, 3) := by decide +kernel
theorem dX7_shade_64 : decode cX7_shade 64 = .ok (.iload_n 1, 1) := by decide +kernel
theorem dX7_shade_65 : decode cX7_shade 65 = .ok (.invokevirtual 134, 3) := by decide +kernel
theorem dX7_shade_68 : decode cX7_shade 68 = .ok (.ireturn, 1) := by decide +kernel
theorem dX7_shade_69 : decode cX7_shade 69 = .ok (.bipush (-2), 2) := by decide +kernel
theorem dX7_shade_71 : decode cX7_shade 71 = .ok (.ireturn, 1) := by decide +kernel
theorem dX7_cell_0 : decode cX7_cell 0 = .ok (.aload_n 0, 1) := by decide +kernel
theorem dX7_cell_1 : decode cX7_cell 1 = .ok (.getfield 19, 3) := by decide +kernel
theorem dX7_cell_4 : decode cX7_cell 4 = .ok (.iload_n 1, 1) := by decide +kernel
theorem dX7_cell_5 : decode cX7_cell 5 = .ok (.iload_n 2, 1) := by decide +kernel
theorem dX7_cell_6 : decode cX7_cell 6 = .ok (.invokevirtual 137, 3) := by decide +kernel
theorem dX7_cell_9 : decode cX7_cell 9 = .ok (.ifCond .ne 5, 3) := by decide +kernel
theorem dX7_cell_12 : decode cX7_cell 12 = .ok (.iconst (-1), 1) := by decide +kernel
theorem dX7_cell_13 : decode cX7_cell 13 = .ok (.ireturn, 1) := by decide +kernel
theorem dX7_cell_14 : decode cX7_cell 14 = .ok (.aload_n 0, 1) := by decide +kernel
theorem dX7_cell_15 : decode cX7_cell 15 = .ok (.getfield 19, 3) := by decide +kernel
theorem dX7_cell_18 : decode cX7_cell 18 = .ok (.iload_n 1, 1) := by decide +kernel
theorem dX7_cell_19 : decode cX7_cell 19 = .ok (.iload_n 2, 1) := by decide +kernel
theorem dX7_cell_20 : decode cX7_cell 20 = .ok (.invokevirtual 141, 3) := by decide +kernel
theorem dX7_cell_23 : decode cX7_cell 23 = .ok (.ireturn, 1) := by decide +kernel
theorem dX7_guess_0 : decode cX7_guess 0 = .ok (.iload_n 1, 1) := by decide +kernel
theorem dX7_guess_1 : decode cX7_guess 1 = .ok (.ifCond .lt 8, 3) := by decide +kernel
theorem dX7_guess_4 : decode cX7_guess 4 = .ok (.iload_n 1, 1) := by decide +kernel
theorem dX7_guess_5 : decode cX7_guess 5 = .ok (.iconst 2, 1) := by decide +kernel
theorem dX7_guess_6 : decode cX7_guess 6 = .ok (.if_icmp .lt 6, 3) := by decide +kernel
theorem dX7_guess_9 : decode cX7_guess 9 = .ok (.bipush (-2), 2) := by decide +kernel
theorem dX7_guess_11 : decode cX7_guess 11 = .ok (.ireturn, 1) := by decide +kernel
theorem dX7_guess_12 : decode cX7_guess 12 = .ok (.iload_n 2, 1) := by decide +kernel
theorem dX7_guess_13 : decode cX7_guess 13 = .ok (.ifCond .lt 15, 3) := by decide +kernel
theorem dX7_guess_16 : decode cX7_guess 16 = .ok (.iload_n 2, 1) := by decide +kernel
theorem dX7_guess_17 : decode cX7_guess 17 = .ok (.aload_n 0, 1) := by decide +kernel
theorem dX7_guess_18 : decode cX7_guess 18 = .ok (.getfield 19, 3) := by decide +kernel
theorem dX7_guess_21 : decode cX7_guess 21 = .ok (.iload_n 1, 1) := by decide +kernel
theorem dX7_guess_22 : decode cX7_guess 22 = .ok (.invokevirtual 145, 3) := by decide +kernel
theorem dX7_guess_25 : decode cX7_guess 25 = .ok (.if_icmp .lt 5, 3) := by decide +kernel
theorem dX7_guess_28 : decode cX7_guess 28 = .ok (.iconst (-1), 1) := by decide +kernel
theorem dX7_guess_29 : decode cX7_guess 29 = .ok (.ireturn, 1) := by decide +kernel
theorem dX7_guess_30 : decode cX7_guess 30 = .ok (.aload_n 0, 1) := by decide +kernel
theorem dX7_guess_31 : decode cX7_guess 31 = .ok (.getfield 50, 3) := by decide +kernel
theorem dX7_guess_34 : decode cX7_guess 34 = .ok (.aload_n 0, 1) := by decide +kernel
theorem dX7_guess_35 : decode cX7_guess 35 = .ok (.getfield 19, 3) := by decide +kernel
theorem dX7_guess_38 : decode cX7_guess 38 = .ok (.invokevirtual 148, 3) := by decide +kernel
theorem dX7_guess_41 : decode cX7_guess 41 = .ok (.aload_n 0, 1) := by decide +kernel
theorem dX7_guess_42 : decode cX7_guess 42 = .ok (.getfield 50, 3) := by decide +kernel
theorem dX7_guess_45 : decode cX7_guess 45 = .ok (.iload_n 1, 1) := by decide +kernel
theorem dX7_guess_46 : decode cX7_guess 46 = .ok (.iload_n 2, 1) := by decide +kernel
theorem dX7_guess_47 : decode cX7_guess 47 = .ok (.invokevirtual 151, 3) := by decide +kernel
theorem dX7_guess_50 : decode cX7_guess 50 = .ok (.ireturn, 1) := by decide +kernel
theorem dX7_dot_0 : decode cX7_dot 0 = .ok (.iload_n 1, 1) := by decide +kernel
theorem dX7_dot_1 : decode cX7_dot 1 = .ok (.iload_n 2, 1) := by decide +kernel
theorem dX7_dot_2 : decode cX7_dot 2 = .ok (.invokestatic 154, 3) := by decide +kernel
theorem dX7_dot_5 : decode cX7_dot 5 = .ok (.ifCond .ne 5, 3) := by decide +kernel
theorem dX7_dot_8 : decode cX7_dot 8 = .ok (.iconst (-1), 1) := by decide +kernel
theorem dX7_dot_9 : decode cX7_dot 9 = .ok (.ireturn, 1) := by decide +kernel
theorem dX7_dot_10 : decode cX7_dot 10 = .ok (.iload_n 3, 1) := by decide +kernel
theorem dX7_dot_11 : decode cX7_dot 11 = .ok (.ifCond .ne 17, 3) := by decide +kernel
theorem dX7_dot_14 : decode cX7_dot 14 = .ok (.aload_n 0, 1) := by decide +kernel
theorem dX7_dot_15 : decode cX7_dot 15 = .ok (.getfield 19, 3) := by decide +kernel
theorem dX7_dot_18 : decode cX7_dot 18 = .ok (.getfield 157, 3) := by decide +kernel
theorem dX7_dot_21 : decode cX7_dot 21 = .ok (.iload_n 1, 1) := by decide +kernel
theorem dX7_dot_22 : decode cX7_dot 22 = .ok (.iconst 4, 1) := by decide +kernel
theorem dX7_dot_23 : decode cX7_dot 23 = .ok (.imul, 1) := by decide +kernel
theorem dX7_dot_24 : decode cX7_dot 24 = .ok (.iload_n 2, 1) := by decide +kernel
theorem dX7_dot_25 : decode cX7_dot 25 = .ok (.iadd, 1) := by decide +kernel
theorem dX7_dot_26 : decode cX7_dot 26 = .ok (.iaload, 1) := by decide +kernel
theorem dX7_dot_27 : decode cX7_dot 27 = .ok (.ireturn, 1) := by decide +kernel
theorem dX7_dot_28 : decode cX7_dot 28 = .ok (.aload_n 0, 1) := by decide +kernel
theorem dX7_dot_29 : decode cX7_dot 29 = .ok (.getfield 57, 3) := by decide +kernel
theorem dX7_dot_32 : decode cX7_dot 32 = .ok (.aload_n 0, 1) := by decide +kernel
theorem dX7_dot_33 : decode cX7_dot 33 = .ok (.getfield 19, 3) := by decide +kernel
theorem dX7_dot_36 : decode cX7_dot 36 = .ok (.aload_n 0, 1) := by decide +kernel
theorem dX7_dot_37 : decode cX7_dot 37 = .ok (.getfield 19, 3) := by decide +kernel
theorem dX7_dot_40 : decode cX7_dot 40 = .ok (.getfield 94, 3) := by decide +kernel
theorem dX7_dot_43 : decode cX7_dot 43 = .ok (.aload_n 0, 1) := by decide +kernel
theorem dX7_dot_44 : decode cX7_dot 44 = .ok (.getfield 19, 3) := by decide +kernel
theorem dX7_dot_47 : decode cX7_dot 47 = .ok (.getfield 97, 3) := by decide +kernel
theorem dX7_dot_50 : decode cX7_dot 50 = .ok (.invokevirtual 160, 3) := by decide +kernel
theorem dX7_dot_53 : decode cX7_dot 53 = .ok (.aload_n 0, 1) := by decide +kernel
theorem dX7_dot_54 : decode cX7_dot 54 = .ok (.getfield 57, 3) := by decide +kernel
theorem dX7_dot_57 : decode cX7_dot 57 = .ok (.getfield 164, 3) := by decide +kernel
theorem dX7_dot_60 : decode cX7_dot 60 = .ok (.iload_n 1, 1) := by decide +kernel
theorem dX7_dot_61 : decode cX7_dot 61 = .ok (.iconst 4, 1) := by decide +kernel
theorem dX7_dot_62 : decode cX7_dot 62 = .ok (.imul, 1) := by decide +kernel
theorem dX7_dot_63 : decode cX7_dot 63 = .ok (.iload_n 2, 1) := by decide +kernel
theorem dX7_dot_64 : decode cX7_dot 64 = .ok (.iadd, 1) := by decide +kernel
theorem dX7_dot_65 : decode cX7_dot 65 = .ok (.iaload, 1) := by decide +kernel
theorem dX7_dot_66 : decode cX7_dot 66 = .ok (.ireturn, 1) := by decide +kernel
theorem dX7_change_0 : decode cX7_change 0 = .ok (.aload_n 0, 1) := by decide +kernel
theorem dX7_change_1 : decode cX7_change 1 = .ok (.getfield 19, 3) := by decide +kernel
theorem dX7_change_4 : decode cX7_change 4 = .ok (.iload_n 1, 1) := by decide +kernel
theorem dX7_change_5 : decode cX7_change 5 = .ok (.invokevirtual 125, 3) := by decide +kernel
theorem dX7_change_8 : decode cX7_change 8 = .ok (.ifCond .eq 14, 3) := by decide +kernel
theorem dX7_change_11 : decode cX7_change 11 = .ok (.aload_n 0, 1) := by decide +kernel
theorem dX7_change_12 : decode cX7_change 12 = .ok (.getfield 19, 3) := by decide +kernel
theorem dX7_change_15 : decode cX7_change 15 = .ok (.iload_n 2, 1) := by decide +kernel
theorem dX7_change_16 : decode cX7_change 16 = .ok (.invokevirtual 125, 3) := by decide +kernel
theorem dX7_change_19 : decode cX7_change 19 = .ok (.ifCond .ne 5, 3) := by decide +kernel
theorem dX7_change_22 : decode cX7_change 22 = .ok (.iconst (-1), 1) := by decide +kernel
theorem dX7_change_23 : decode cX7_change 23 = .ok (.ireturn, 1) := by decide +kernel
theorem dX7_change_24 : decode cX7_change 24 = .ok (.iload_n 1, 1) := by decide +kernel
theorem dX7_change_25 : decode cX7_change 25 = .ok (.iload_n 2, 1) := by decide +kernel
theorem dX7_change_26 : decode cX7_change 26 = .ok (.if_icmp .ne 6, 3) := by decide +kernel
theorem dX7_change_29 : decode cX7_change 29 = .ok (.bipush (-3), 2) := by decide +kernel
theorem dX7_change_31 : decode cX7_change 31 = .ok (.ireturn, 1) := by decide +kernel
theorem dX7_change_32 : decode cX7_change 32 = .ok (.aload_n 0, 1) := by decide +kernel
theorem dX7_change_33 : decode cX7_change 33 = .ok (.getfield 29, 3) := by decide +kernel
theorem dX7_change_36 : decode cX7_change 36 = .ok (.aload_n 0, 1) := by decide +kernel
theorem dX7_change_37 : decode cX7_change 37 = .ok (.getfield 19, 3) := by decide +kernel
theorem dX7_change_40 : decode cX7_change 40 = .ok (.invokevirtual 165, 3) := by decide +kernel
theorem dX7_change_43 : decode cX7_change 43 = .ok (.aload_n 0, 1) := by decide +kernel
theorem dX7_change_44 : decode cX7_change 44 = .ok (.getfield 19, 3) := by decide +kernel
theorem dX7_change_47 : decode cX7_change 47 = .ok (.iload_n 1, 1) := by decide +kernel
theorem dX7_change_48 : decode cX7_change 48 = .ok (.iload_n 2, 1) := by decide +kernel
theorem dX7_change_49 : decode cX7_change 49 = .ok (.invokevirtual 168, 3) := by decide +kernel
theorem dX7_change_52 : decode cX7_change 52 = .ok (.aload_n 0, 1) := by decide +kernel
theorem dX7_change_53 : decode cX7_change 53 = .ok (.aload_n 0, 1) := by decide +kernel
theorem dX7_change_54 : decode cX7_change 54 = .ok (.getfield 19, 3) := by decide +kernel
theorem dX7_change_57 : decode cX7_change 57 = .ok (.invokevirtual 172, 3) := by decide +kernel
theorem dX7_change_60 : decode cX7_change 60 = .ok (.ireturn, 1) := by decide +kernel
theorem dX7_move_0 : decode cX7_move 0 = .ok (.aload_n 0, 1) := by decide +kernel
theorem dX7_move_1 : decode cX7_move 1 = .ok (.getfield 19, 3) := by decide +kernel
theorem dX7_move_4 : decode cX7_move 4 = .ok (.iload_n 1, 1) := by decide +kernel
theorem dX7_move_5 : decode cX7_move 5 = .ok (.invokevirtual 125, 3) := by decide +kernel
theorem dX7_move_8 : decode cX7_move 8 = .ok (.ifCond .eq 15, 3) := by decide +kernel
theorem dX7_move_11 : decode cX7_move 11 = .ok (.aload_n 0, 1) := by decide +kernel
theorem dX7_move_12 : decode cX7_move 12 = .ok (.getfield 19, 3) := by decide +kernel
theorem dX7_move_15 : decode cX7_move 15 = .ok (.iload_n 2, 1) := by decide +kernel
theorem dX7_move_16 : decode cX7_move 16 = .ok (.iload_n 3, 1) := by decide +kernel
theorem dX7_move_17 : decode cX7_move 17 = .ok (.invokevirtual 137, 3) := by decide +kernel
theorem dX7_move_20 : decode cX7_move 20 = .ok (.ifCond .ne 5, 3) := by decide +kernel
theorem dX7_move_23 : decode cX7_move 23 = .ok (.iconst (-1), 1) := by decide +kernel
theorem dX7_move_24 : decode cX7_move 24 = .ok (.ireturn, 1) := by decide +kernel
theorem dX7_move_25 : decode cX7_move 25 = .ok (.aload_n 0, 1) := by decide +kernel
theorem dX7_move_26 : decode cX7_move 26 = .ok (.getfield 19, 3) := by decide +kernel
theorem dX7_move_29 : decode cX7_move 29 = .ok (.iload_n 2, 1) := by decide +kernel
theorem dX7_move_30 : decode cX7_move 30 = .ok (.iload_n 3, 1) := by decide +kernel
theorem dX7_move_31 : decode cX7_move 31 = .ok (.invokevirtual 141, 3) := by decide +kernel
theorem dX7_move_34 : decode cX7_move 34 = .ok (.bipush (-9), 2) := by decide +kernel
theorem dX7_move_36 : decode cX7_move 36 = .ok (.if_icmp .eq 6, 3) := by decide +kernel
theorem dX7_move_39 : decode cX7_move 39 = .ok (.bipush (-3), 2) := by decide +kernel
theorem dX7_move_41 : decode cX7_move 41 = .ok (.ireturn, 1) := by decide +kernel
theorem dX7_move_42 : decode cX7_move 42 = .ok (.aload_n 0, 1) := by decide +kernel
theorem dX7_move_43 : decode cX7_move 43 = .ok (.getfield 29, 3) := by decide +kernel
theorem dX7_move_46 : decode cX7_move 46 = .ok (.aload_n 0, 1) := by decide +kernel
theorem dX7_move_47 : decode cX7_move 47 = .ok (.getfield 19, 3) := by decide +kernel
theorem dX7_move_50 : decode cX7_move 50 = .ok (.invokevirtual 165, 3) := by decide +kernel
theorem dX7_move_53 : decode cX7_move 53 = .ok (.aload_n 0, 1) := by decide +kernel
theorem dX7_move_54 : decode cX7_move 54 = .ok (.getfield 19, 3) := by decide +kernel
theorem dX7_move_57 : decode cX7_move 57 = .ok (.iload_n 1, 1) := by decide +kernel
theorem dX7_move_58 : decode cX7_move 58 = .ok (.iload_n 2, 1) := by decide +kernel
theorem dX7_move_59 : decode cX7_move 59 = .ok (.iload_n 3, 1) := by decide +kernel
theorem dX7_move_60 : decode cX7_move 60 = .ok (.invokevirtual 175, 3) := by decide +kernel
theorem dX7_move_63 : decode cX7_move 63 = .ok (.aload_n 0, 1) := by decide +kernel
theorem dX7_move_64 : decode cX7_move 64 = .ok (.aload_n 0, 1) := by decide +kernel
theorem dX7_move_65 : decode cX7_move 65 = .ok (.getfield 19, 3) := by decide +kernel
theorem dX7_move_68 : decode cX7_move 68 = .ok (.invokevirtual 172, 3) := by decide +kernel
theorem dX7_move_71 : decode cX7_move 71 = .ok (.ireturn, 1) := by decide +kernel
theorem dX7_lay_0 : decode cX7_lay 0 = .ok (.iload_n 1, 1) := by decide +kernel
theorem dX7_lay_1 : decode cX7_lay 1 = .ok (.ifCond .lt 9, 3) := by decide +kernel
theorem dX7_lay_4 : decode cX7_lay 4 = .ok (.iload_n 1, 1) := by decide +kernel
theorem dX7_lay_5 : decode cX7_lay 5 = .ok (.bipush 6, 2) := by decide +kernel
theorem dX7_lay_7 : decode cX7_lay 7 = .ok (.if_icmp .lt 6, 3) := by decide +kernel
theorem dX7_lay_10 : decode cX7_lay 10 = .ok (.bipush (-2), 2) := by decide +kernel
theorem dX7_lay_12 : decode cX7_lay 12 = .ok (.ireturn, 1) := by decide +kernel
theorem dX7_lay_13 : decode cX7_lay 13 = .ok (.aload_n 0, 1) := by decide +kernel
theorem dX7_lay_14 : decode cX7_lay 14 = .ok (.getfield 19, 3) := by decide +kernel
theorem dX7_lay_17 : decode cX7_lay 17 = .ok (.iload_n 1, 1) := by decide +kernel
theorem dX7_lay_18 : decode cX7_lay 18 = .ok (.invokevirtual 179, 3) := by decide +kernel
theorem dX7_lay_21 : decode cX7_lay 21 = .ok (.aload_n 0, 1) := by decide +kernel
theorem dX7_lay_22 : decode cX7_lay 22 = .ok (.getfield 19, 3) := by decide +kernel
theorem dX7_lay_25 : decode cX7_lay 25 = .ok (.getfield 85, 3) := by decide +kernel
theorem dX7_lay_28 : decode cX7_lay 28 = .ok (.if_icmp .ge 6, 3) := by decide +kernel
theorem dX7_lay_31 : decode cX7_lay 31 = .ok (.bipush (-3), 2) := by decide +kernel
theorem dX7_lay_33 : decode cX7_lay 33 = .ok (.ireturn, 1) := by decide +kernel
theorem dX7_lay_34 : decode cX7_lay 34 = .ok (.aload_n 0, 1) := by decide +kernel
theorem dX7_lay_35 : decode cX7_lay 35 = .ok (.getfield 29, 3) := by decide +kernel
theorem dX7_lay_38 : decode cX7_lay 38 = .ok (.aload_n 0, 1) := by decide +kernel
theorem dX7_lay_39 : decode cX7_lay 39 = .ok (.getfield 19, 3) := by decide +kernel
theorem dX7_lay_42 : decode cX7_lay 42 = .ok (.invokevirtual 165, 3) := by decide +kernel
theorem dX7_lay_45 : decode cX7_lay 45 = .ok (.aload_n 0, 1) := by decide +kernel
theorem dX7_lay_46 : decode cX7_lay 46 = .ok (.getfield 19, 3) := by decide +kernel
theorem dX7_lay_49 : decode cX7_lay 49 = .ok (.iload_n 1, 1) := by decide +kernel
theorem dX7_lay_50 : decode cX7_lay 50 = .ok (.invokevirtual 182, 3) := by decide +kernel
theorem dX7_lay_53 : decode cX7_lay 53 = .ok (.aload_n 0, 1) := by decide +kernel
theorem dX7_lay_54 : decode cX7_lay 54 = .ok (.aload_n 0, 1) := by decide +kernel
theorem dX7_lay_55 : decode cX7_lay 55 = .ok (.getfield 19, 3) := by decide +kernel
theorem dX7_lay_58 : decode cX7_lay 58 = .ok (.invokevirtual 172, 3) := by decide +kernel
theorem dX7_lay_61 : decode cX7_lay 61 = .ok (.ireturn, 1) := by decide +kernel
theorem dX7_paint_0 : decode cX7_paint 0 = .ok (.iload_n 1, 1) := by decide +kernel
theorem dX7_paint_1 : decode cX7_paint 1 = .ok (.iload_n 2, 1) := by decide +kernel
theorem dX7_paint_2 : decode cX7_paint 2 = .ok (.invokestatic 154, 3) := by decide +kernel
theorem dX7_paint_5 : decode cX7_paint 5 = .ok (.ifCond .eq 14, 3) := by decide +kernel
theorem dX7_paint_8 : decode cX7_paint 8 = .ok (.aload_n 0, 1) := by decide +kernel
theorem dX7_paint_9 : decode cX7_paint 9 = .ok (.getfield 19, 3) := by decide +kernel
theorem dX7_paint_12 : decode cX7_paint 12 = .ok (.iload_n 3, 1) := by decide +kernel
theorem dX7_paint_13 : decode cX7_paint 13 = .ok (.invokevirtual 125, 3) := by decide +kernel
theorem dX7_paint_16 : decode cX7_paint 16 = .ok (.ifCond .ne 5, 3) := by decide +kernel
theorem dX7_paint_19 : decode cX7_paint 19 = .ok (.iconst (-1), 1) := by decide +kernel
theorem dX7_paint_20 : decode cX7_paint 20 = .ok (.ireturn, 1) := by decide +kernel
theorem dX7_paint_21 : decode cX7_paint 21 = .ok (.aload_n 0, 1) := by decide +kernel
theorem dX7_paint_22 : decode cX7_paint 22 = .ok (.getfield 29, 3) := by decide +kernel
theorem dX7_paint_25 : decode cX7_paint 25 = .ok (.aload_n 0, 1) := by decide +kernel
theorem dX7_paint_26 : decode cX7_paint 26 = .ok (.getfield 19, 3) := by decide +kernel
theorem dX7_paint_29 : decode cX7_paint 29 = .ok (.invokevirtual 165, 3) := by decide +kernel
theorem dX7_paint_32 : decode cX7_paint 32 = .ok (.aload_n 0, 1) := by decide +kernel
theorem dX7_paint_33 : decode cX7_paint 33 = .ok (.getfield 19, 3) := by decide +kernel
theorem dX7_paint_36 : decode cX7_paint 36 = .ok (.getfield 157, 3) := by decide +kernel
theorem dX7_paint_39 : decode cX7_paint 39 = .ok (.iload_n 1, 1) := by decide +kernel
theorem dX7_paint_40 : decode cX7_paint 40 = .ok (.iconst 4, 1) := by decide +kernel
theorem dX7_paint_41 : decode cX7_paint 41 = .ok (.imul, 1) := by decide +kernel
theorem dX7_paint_42 : decode cX7_paint 42 = .ok (.iload_n 2, 1) := by decide +kernel
theorem dX7_paint_43 : decode cX7_paint 43 = .ok (.iadd, 1) := by decide +kernel
theorem dX7_paint_44 : decode cX7_paint 44 = .ok (.iaload, 1) := by decide +kernel
theorem dX7_paint_45 : decode cX7_paint 45 = .ok (.istore 4, 2) := by decide +kernel
theorem dX7_paint_47 : decode cX7_paint 47 = .ok (.aload_n 0, 1) := by decide +kernel
theorem dX7_paint_48 : decode cX7_paint 48 = .ok (.getfield 19, 3) := by decide +kernel
theorem dX7_paint_51 : decode cX7_paint 51 = .ok (.getfield 157, 3) := by decide +kernel
theorem dX7_paint_54 : decode cX7_paint 54 = .ok (.iload_n 1, 1) := by decide +kernel
theorem dX7_paint_55 : decode cX7_paint 55 = .ok (.iconst 4, 1) := by decide +kernel
theorem dX7_paint_56 : decode cX7_paint 56 = .ok (.imul, 1) := by decide +kernel
theorem dX7_paint_57 : decode cX7_paint 57 = .ok (.iload_n 2, 1) := by decide +kernel
theorem dX7_paint_58 : decode cX7_paint 58 = .ok (.iadd, 1) := by decide +kernel
theorem dX7_paint_59 : decode cX7_paint 59 = .ok (.iload_n 3, 1) := by decide +kernel
theorem dX7_paint_60 : decode cX7_paint 60 = .ok (.iastore, 1) := by decide +kernel
theorem dX7_paint_61 : decode cX7_paint 61 = .ok (.iload 4, 2) := by decide +kernel
theorem dX7_paint_63 : decode cX7_paint 63 = .ok (.ireturn, 1) := by decide +kernel
theorem dX7_shift_0 : decode cX7_shift 0 = .ok (.iload_n 1, 1) := by decide +kernel
theorem dX7_shift_1 : decode cX7_shift 1 = .ok (.invokestatic 186, 3) := by decide +kernel
theorem dX7_shift_4 : decode cX7_shift 4 = .ok (.ifCond .ne 6, 3) := by decide +kernel
theorem dX7_shift_7 : decode cX7_shift 7 = .ok (.bipush (-2), 2) := by decide +kernel
theorem dX7_shift_9 : decode cX7_shift 9 = .ok (.ireturn, 1) := by decide +kernel
theorem dX7_shift_10 : decode cX7_shift 10 = .ok (.aload_n 0, 1) := by decide +kernel
theorem dX7_shift_11 : decode cX7_shift 11 = .ok (.getfield 29, 3) := by decide +kernel
theorem dX7_shift_14 : decode cX7_shift 14 = .ok (.aload_n 0, 1) := by decide +kernel
theorem dX7_shift_15 : decode cX7_shift 15 = .ok (.getfield 19, 3) := by decide +kernel
theorem dX7_shift_18 : decode cX7_shift 18 = .ok (.invokevirtual 165, 3) := by decide +kernel
theorem dX7_shift_21 : decode cX7_shift 21 = .ok (.aload_n 0, 1) := by decide +kernel
theorem dX7_shift_22 : decode cX7_shift 22 = .ok (.getfield 19, 3) := by decide +kernel
theorem dX7_shift_25 : decode cX7_shift 25 = .ok (.getfield 94, 3) := by decide +kernel
theorem dX7_shift_28 : decode cX7_shift 28 = .ok (.istore_n 2, 1) := by decide +kernel
theorem dX7_shift_29 : decode cX7_shift 29 = .ok (.aload_n 0, 1) := by decide +kernel
theorem dX7_shift_30 : decode cX7_shift 30 = .ok (.getfield 19, 3) := by decide +kernel
theorem dX7_shift_33 : decode cX7_shift 33 = .ok (.iload_n 1, 1) := by decide +kernel
theorem dX7_shift_34 : decode cX7_shift 34 = .ok (.putfield 94, 3) := by decide +kernel
theorem dX7_shift_37 : decode cX7_shift 37 = .ok (.iload_n 2, 1) := by decide +kernel
theorem dX7_shift_38 : decode cX7_shift 38 = .ok (.ireturn, 1) := by decide +kernel
theorem dX7_lose_0 : decode cX7_lose 0 = .ok (.iload_n 1, 1) := by decide +kernel
theorem dX7_lose_1 : decode cX7_lose 1 = .ok (.invokestatic 189, 3) := by decide +kernel
theorem dX7_lose_4 : decode cX7_lose 4 = .ok (.ifCond .ne 5, 3) := by decide +kernel
theorem dX7_lose_7 : decode cX7_lose 7 = .ok (.iconst (-1), 1) := by decide +kernel
theorem dX7_lose_8 : decode cX7_lose 8 = .ok (.ireturn, 1) := by decide +kernel
theorem dX7_lose_9 : decode cX7_lose 9 = .ok (.aload_n 0, 1) := by decide +kernel
theorem dX7_lose_10 : decode cX7_lose 10 = .ok (.getfield 29, 3) := by decide +kernel
theorem dX7_lose_13 : decode cX7_lose 13 = .ok (.aload_n 0, 1) := by decide +kernel
theorem dX7_lose_14 : decode cX7_lose 14 = .ok (.getfield 19, 3) := by decide +kernel
theorem dX7_lose_17 : decode cX7_lose 17 = .ok (.invokevirtual 165, 3) := by decide +kernel
theorem dX7_lose_20 : decode cX7_lose 20 = .ok (.aload_n 0, 1) := by decide +kernel
theorem dX7_lose_21 : decode cX7_lose 21 = .ok (.getfield 19, 3) := by decide +kernel
theorem dX7_lose_24 : decode cX7_lose 24 = .ok (.iload_n 1, 1) := by decide +kernel
theorem dX7_lose_25 : decode cX7_lose 25 = .ok (.invokevirtual 192, 3) := by decide +kernel
theorem dX7_lose_28 : decode cX7_lose 28 = .ok (.aload_n 0, 1) := by decide +kernel
theorem dX7_lose_29 : decode cX7_lose 29 = .ok (.getfield 19, 3) := by decide +kernel
theorem dX7_lose_32 : decode cX7_lose 32 = .ok (.getfield 97, 3) := by decide +kernel
theorem dX7_lose_35 : decode cX7_lose 35 = .ok (.iload_n 1, 1) := by decide +kernel
theorem dX7_lose_36 : decode cX7_lose 36 = .ok (.ishr, 1) := by decide +kernel
theorem dX7_lose_37 : decode cX7_lose 37 = .ok (.iconst 1, 1) := by decide +kernel
theorem dX7_lose_38 : decode cX7_lose 38 = .ok (.iand, 1) := by decide +kernel
theorem dX7_lose_39 : decode cX7_lose 39 = .ok (.ireturn, 1) := by decide +kernel
theorem dX7_undo_0 : decode cX7_undo 0 = .ok (.aload_n 0, 1) := by decide +kernel
theorem dX7_undo_1 : decode cX7_undo 1 = .ok (.getfield 29, 3) := by decide +kernel
theorem dX7_undo_4 : decode cX7_undo 4 = .ok (.aload_n 0, 1) := by decide +kernel
theorem dX7_undo_5 : decode cX7_undo 5 = .ok (.getfield 19, 3) := by decide +kernel
theorem dX7_undo_8 : decode cX7_undo 8 = .ok (.invokevirtual 195, 3) := by decide +kernel
theorem dX7_undo_11 : decode cX7_undo 11 = .ok (.ifCond .eq 13, 3) := by decide +kernel
theorem dX7_undo_14 : decode cX7_undo 14 = .ok (.aload_n 0, 1) := by decide +kernel
theorem dX7_undo_15 : decode cX7_undo 15 = .ok (.getfield 29, 3) := by decide +kernel
theorem dX7_undo_18 : decode cX7_undo 18 = .ok (.getfield 121, 3) := by decide +kernel
theorem dX7_undo_21 : decode cX7_undo 21 = .ok (.goto 5, 3) := by decide +kernel
theorem dX7_undo_24 : decode cX7_undo 24 = .ok (.bipush (-3), 2) := by decide +kernel
theorem dX7_undo_26 : decode cX7_undo 26 = .ok (.ireturn, 1) := by decide +kernel
theorem dX7_miss_0 : decode cX7_miss 0 = .ok (.iload_n 1, 1) := by decide +kernel
theorem dX7_miss_1 : decode cX7_miss 1 = .ok (.ifCond .lt 9, 3) := by decide +kernel
theorem dX7_miss_4 : decode cX7_miss 4 = .ok (.iload_n 1, 1) := by decide +kernel
theorem dX7_miss_5 : decode cX7_miss 5 = .ok (.bipush 16, 2) := by decide +kernel
theorem dX7_miss_7 : decode cX7_miss 7 = .ok (.if_icmp .lt 6, 3) := by decide +kernel
theorem dX7_miss_10 : decode cX7_miss 10 = .ok (.bipush (-2), 2) := by decide +kernel
theorem dX7_miss_12 : decode cX7_miss 12 = .ok (.ireturn, 1) := by decide +kernel
theorem dX7_miss_13 : decode cX7_miss 13 = .ok (.aload_n 0, 1) := by decide +kernel
theorem dX7_miss_14 : decode cX7_miss 14 = .ok (.getfield 57, 3) := by decide +kernel
theorem dX7_miss_17 : decode cX7_miss 17 = .ok (.aload_n 0, 1) := by decide +kernel
theorem dX7_miss_18 : decode cX7_miss 18 = .ok (.getfield 19, 3) := by decide +kernel
theorem dX7_miss_21 : decode cX7_miss 21 = .ok (.aload_n 0, 1) := by decide +kernel
theorem dX7_miss_22 : decode cX7_miss 22 = .ok (.getfield 19, 3) := by decide +kernel
theorem dX7_miss_25 : decode cX7_miss 25 = .ok (.getfield 94, 3) := by decide +kernel
theorem dX7_miss_28 : decode cX7_miss 28 = .ok (.iload_n 1, 1) := by decide +kernel
theorem dX7_miss_29 : decode cX7_miss 29 = .ok (.invokevirtual 104, 3) := by decide +kernel
theorem dX7_miss_32 : decode cX7_miss 32 = .ok (.ireturn, 1) := by decide +kernel
theorem dX7_judge_0 : decode cX7_judge 0 = .ok (.iload_n 1, 1) := by decide +kernel
theorem dX7_judge_1 : decode cX7_judge 1 = .ok (.iconst 1, 1) := by decide +kernel
theorem dX7_judge_2 : decode cX7_judge 2 = .ok (.if_icmp .lt 24, 3) := by decide +kernel
theorem dX7_judge_5 : decode cX7_judge 5 = .ok (.iload_n 1, 1) := by decide +kernel
theorem dX7_judge_6 : decode cX7_judge 6 = .ok (.iconst 4, 1) := by decide +kernel
theorem dX7_judge_7 : decode cX7_judge 7 = .ok (.if_icmp .gt 19, 3) := by decide +kernel
theorem dX7_judge_10 : decode cX7_judge 10 = .ok (.lload_n 2, 1) := by decide +kernel
theorem dX7_judge_11 : decode cX7_judge 11 = .ok (.lconst 0, 1) := by decide +kernel
theorem dX7_judge_12 : decode cX7_judge 12 = .ok (.lcmp, 1) := by decide +kernel
theorem dX7_judge_13 : decode cX7_judge 13 = .ok (.ifCond .lt 13, 3) := by decide +kernel
theorem dX7_judge_16 : decode cX7_judge 16 = .ok (.lload_n 2, 1) := by decide +kernel
theorem dX7_judge_17 : decode cX7_judge 17 = .ok (.getstatic 199, 3) := by decide +kernel
theorem dX7_judge_20 : decode cX7_judge 20 = .ok (.iload_n 1, 1) := by decide +kernel
theorem dX7_judge_21 : decode cX7_judge 21 = .ok (.laload, 1) := by decide +kernel
theorem dX7_judge_22 : decode cX7_judge 22 = .ok (.lcmp, 1) := by decide +kernel
theorem dX7_judge_23 : decode cX7_judge 23 = .ok (.ifCond .lt 6, 3) := by decide +kernel
theorem dX7_judge_26 : decode cX7_judge 26 = .ok (.bipush (-2), 2) := by decide +kernel
theorem dX7_judge_28 : decode cX7_judge 28 = .ok (.ireturn, 1) := by decide +kernel
theorem dX7_judge_29 : decode cX7_judge 29 = .ok (.aload_n 0, 1) := by decide +kernel
theorem dX7_judge_30 : decode cX7_judge 30 = .ok (.getfield 23, 3) := by decide +kernel
theorem dX7_judge_33 : decode cX7_judge 33 = .ok (.aload_n 0, 1) := by decide +kernel
theorem dX7_judge_34 : decode cX7_judge 34 = .ok (.getfield 19, 3) := by decide +kernel
theorem dX7_judge_37 : decode cX7_judge 37 = .ok (.invokevirtual 77, 3) := by decide +kernel
theorem dX7_judge_40 : decode cX7_judge 40 = .ok (.iconst 0, 1) := by decide +kernel
theorem dX7_judge_41 : decode cX7_judge 41 = .ok (.istore 4, 2) := by decide +kernel
theorem dX7_judge_43 : decode cX7_judge 43 = .ok (.iload 4, 2) := by decide +kernel
theorem dX7_judge_45 : decode cX7_judge 45 = .ok (.iload_n 1, 1) := by decide +kernel
theorem dX7_judge_46 : decode cX7_judge 46 = .ok (.if_icmp .ge 56, 3) := by decide +kernel
theorem dX7_judge_49 : decode cX7_judge 49 = .ok (.lload_n 2, 1) := by decide +kernel
theorem dX7_judge_50 : decode cX7_judge 50 = .ok (.getstatic 199, 3) := by decide +kernel
theorem dX7_judge_53 : decode cX7_judge 53 = .ok (.iload_n 1, 1) := by decide +kernel
theorem dX7_judge_54 : decode cX7_judge 54 = .ok (.iconst 1, 1) := by decide +kernel
theorem dX7_judge_55 : decode cX7_judge 55 = .ok (.isub, 1) := by decide +kernel
theorem dX7_judge_56 : decode cX7_judge 56 = .ok (.iload 4, 2) := by decide +kernel
theorem dX7_judge_58 : decode cX7_judge 58 = .ok (.isub, 1) := by decide +kernel
theorem dX7_judge_59 : decode cX7_judge 59 = .ok (.laload, 1) := by decide +kernel
theorem dX7_judge_60 : decode cX7_judge 60 = .ok (.ldiv, 1) := by decide +kernel
theorem dX7_judge_61 : decode cX7_judge 61 = .ok (.ldc2_w 203, 3) := by decide +kernel
theorem dX7_judge_64 : decode cX7_judge 64 = .ok (.lrem, 1) := by decide +kernel
theorem dX7_judge_65 : decode cX7_judge 65 = .ok (.l2i, 1) := by decide +kernel
theorem dX7_judge_66 : decode cX7_judge 66 = .ok (.istore 5, 2) := by decide +kernel
theorem dX7_judge_68 : decode cX7_judge 68 = .ok (.aload_n 0, 1) := by decide +kernel
theorem dX7_judge_69 : decode cX7_judge 69 = .ok (.iload 5, 2) := by decide +kernel
theorem dX7_judge_71 : decode cX7_judge 71 = .ok (.bipush 100, 2) := by decide +kernel
theorem dX7_judge_73 : decode cX7_judge 73 = .ok (.idiv, 1) := by decide +kernel
theorem dX7_judge_74 : decode cX7_judge 74 = .ok (.iload 5, 2) := by decide +kernel
theorem dX7_judge_76 : decode cX7_judge 76 = .ok (.bipush 10, 2) := by decide +kernel
theorem dX7_judge_78 : decode cX7_judge 78 = .ok (.idiv, 1) := by decide +kernel
theorem dX7_judge_79 : decode cX7_judge 79 = .ok (.bipush 10, 2) := by decide +kernel
theorem dX7_judge_81 : decode cX7_judge 81 = .ok (.irem, 1) := by decide +kernel
theorem dX7_judge_82 : decode cX7_judge 82 = .ok (.iload 5, 2) := by decide +kernel
theorem dX7_judge_84 : decode cX7_judge 84 = .ok (.bipush 10, 2) := by decide +kernel
theorem dX7_judge_86 : decode cX7_judge 86 = .ok (.irem, 1) := by decide +kernel
theorem dX7_judge_87 : decode cX7_judge 87 = .ok (.invokevirtual 205, 3) := by decide +kernel
theorem dX7_judge_90 : decode cX7_judge 90 = .ok (.ifCond .ne 6, 3) := by decide +kernel
theorem dX7_judge_93 : decode cX7_judge 93 = .ok (.iload 4, 2) := by decide +kernel
theorem dX7_judge_95 : decode cX7_judge 95 = .ok (.ireturn, 1) := by decide +kernel
theorem dX7_judge_96 : decode cX7_judge 96 = .ok (.iinc 4 1, 3) := by decide +kernel
theorem dX7_judge_99 : decode cX7_judge 99 = .ok (.goto (-56), 3) := by decide +kernel
theorem dX7_judge_102 : decode cX7_judge 102 = .ok (.bipush (-9), 2) := by decide +kernel
theorem dX7_judge_104 : decode cX7_judge 104 = .ok (.ireturn, 1) := by decide +kernel
theorem dX7_see_0 : decode cX7_see 0 = .ok (.iload_n 1, 1) := by decide +kernel
theorem dX7_see_1 : decode cX7_see 1 = .ok (.iload_n 2, 1) := by decide +kernel
theorem dX7_see_2 : decode cX7_see 2 = .ok (.invokestatic 154, 3) := by decide +kernel
theorem dX7_see_5 : decode cX7_see 5 = .ok (.ifCond .ne 5, 3) := by decide +kernel
theorem dX7_see_8 : decode cX7_see 8 = .ok (.iconst (-1), 1) := by decide +kernel
theorem dX7_see_9 : decode cX7_see 9 = .ok (.ireturn, 1) := by decide +kernel
theorem dX7_see_10 : decode cX7_see 10 = .ok (.iload_n 3, 1) := by decide +kernel
theorem dX7_see_11 : decode cX7_see 11 = .ok (.ifCond .lt 9, 3) := by decide +kernel
theorem dX7_see_14 : decode cX7_see 14 = .ok (.iload_n 3, 1) := by decide +kernel
theorem dX7_see_15 : decode cX7_see 15 = .ok (.bipush 20, 2) := by decide +kernel
theorem dX7_see_17 : decode cX7_see 17 = .ok (.if_icmp .lt 6, 3) := by decide +kernel
theorem dX7_see_20 : decode cX7_see 20 = .ok (.bipush (-2), 2) := by decide +kernel
theorem dX7_see_22 : decode cX7_see 22 = .ok (.ireturn, 1) := by decide +kernel
theorem dX7_see_23 : decode cX7_see 23 = .ok (.aload_n 0, 1) := by decide +kernel
theorem dX7_see_24 : decode cX7_see 24 = .ok (.getfield 43, 3) := by decide +kernel
theorem dX7_see_27 : decode cX7_see 27 = .ok (.iload_n 1, 1) := by decide +kernel
theorem dX7_see_28 : decode cX7_see 28 = .ok (.iconst 4, 1) := by decide +kernel
theorem dX7_see_29 : decode cX7_see 29 = .ok (.imul, 1) := by decide +kernel
theorem dX7_see_30 : decode cX7_see 30 = .ok (.iload_n 2, 1) := by decide +kernel
theorem dX7_see_31 : decode cX7_see 31 = .ok (.iadd, 1) := by decide +kernel
theorem dX7_see_32 : decode cX7_see 32 = .ok (.iload_n 3, 1) := by decide +kernel
theorem dX7_see_33 : decode cX7_see 33 = .ok (.invokevirtual 209, 3) := by decide +kernel
theorem dX7_see_36 : decode cX7_see 36 = .ok (.ifCond .eq 13, 3) := by decide +kernel
theorem dX7_see_39 : decode cX7_see 39 = .ok (.aload_n 0, 1) := by decide +kernel
theorem dX7_see_40 : decode cX7_see 40 = .ok (.getfield 43, 3) := by decide +kernel
theorem dX7_see_43 : decode cX7_see 43 = .ok (.getfield 124, 3) := by decide +kernel
theorem dX7_see_46 : decode cX7_see 46 = .ok (.goto 5, 3) := by decide +kernel
theorem dX7_see_49 : decode cX7_see 49 = .ok (.bipush (-4), 2) := by decide +kernel
theorem dX7_see_51 : decode cX7_see 51 = .ok (.ireturn, 1) := by decide +kernel
theorem dX7_unsee_0 : decode cX7_unsee 0 = .ok (.aload_n 0, 1) := by decide +kernel
theorem dX7_unsee_1 : decode cX7_unsee 1 = .ok (.getfield 43, 3) := by decide +kernel
theorem dX7_unsee_4 : decode cX7_unsee 4 = .ok (.getfield 124, 3) := by decide +kernel
theorem dX7_unsee_7 : decode cX7_unsee 7 = .ok (.istore_n 1, 1) := by decide +kernel
theorem dX7_unsee_8 : decode cX7_unsee 8 = .ok (.aload_n 0, 1) := by decide +kernel
theorem dX7_unsee_9 : decode cX7_unsee 9 = .ok (.getfield 43, 3) := by decide +kernel
theorem dX7_unsee_12 : decode cX7_unsee 12 = .ok (.iconst 0, 1) := by decide +kernel
theorem dX7_unsee_13 : decode cX7_unsee 13 = .ok (.putfield 124, 3) := by decide +kernel
theorem dX7_unsee_16 : decode cX7_unsee 16 = .ok (.iload_n 1, 1) := by decide +kernel
theorem dX7_unsee_17 : decode cX7_unsee 17 = .ok (.ireturn, 1) := by decide +kernel
theorem dX7_which_0 : decode cX7_which 0 = .ok (.iconst 0, 1) := by decide +kernel
theorem dX7_which_1 : decode cX7_which 1 = .ok (.istore_n 1, 1) := by decide +kernel
theorem dX7_which_2 : decode cX7_which 2 = .ok (.iconst 0, 1) := by decide +kernel
theorem dX7_which_3 : decode cX7_which 3 = .ok (.istore_n 2, 1) := by decide +kernel
theorem dX7_which_4 : decode cX7_which 4 = .ok (.iload_n 2, 1) := by decide +kernel
theorem dX7_which_5 : decode cX7_which 5 = .ok (.bipush 16, 2) := by decide +kernel
theorem dX7_which_7 : decode cX7_which 7 = .ok (.if_icmp .ge 48, 3) := by decide +kernel
theorem dX7_which_10 : decode cX7_which 10 = .ok (.aload_n 0, 1) := by decide +kernel
theorem dX7_which_11 : decode cX7_which 11 = .ok (.getfield 57, 3) := by decide +kernel
theorem dX7_which_14 : decode cX7_which 14 = .ok (.aload_n 0, 1) := by decide +kernel
theorem dX7_which_15 : decode cX7_which 15 = .ok (.getfield 19, 3) := by decide +kernel
theorem dX7_which_18 : decode cX7_which 18 = .ok (.aload_n 0, 1) := by decide +kernel
theorem dX7_which_19 : decode cX7_which 19 = .ok (.getfield 19, 3) := by decide +kernel
theorem dX7_which_22 : decode cX7_which 22 = .ok (.getfield 94, 3) := by decide +kernel
theorem dX7_which_25 : decode cX7_which 25 = .ok (.iload_n 2, 1) := by decide +kernel
theorem dX7_which_26 : decode cX7_which 26 = .ok (.invokevirtual 160, 3) := by decide +kernel
theorem dX7_which_29 : decode cX7_which 29 = .ok (.aload_n 0, 1) := by decide +kernel
theorem dX7_which_30 : decode cX7_which 30 = .ok (.getfield 43, 3) := by decide +kernel
theorem dX7_which_33 : decode cX7_which 33 = .ok (.aload_n 0, 1) := by decide +kernel
theorem dX7_which_34 : decode cX7_which 34 = .ok (.getfield 57, 3) := by decide +kernel
theorem dX7_which_37 : decode cX7_which 37 = .ok (.invokevirtual 211, 3) := by decide +kernel
theorem dX7_which_40 : decode cX7_which 40 = .ok (.ifCond .eq 9, 3) := by decide +kernel
theorem dX7_which_43 : decode cX7_which 43 = .ok (.iload_n 1, 1) := by decide +kernel
theorem dX7_which_44 : decode cX7_which 44 = .ok (.iconst 1, 1) := by decide +kernel
theorem dX7_which_45 : decode cX7_which 45 = .ok (.iload_n 2, 1) := by decide +kernel
theorem dX7_which_46 : decode cX7_which 46 = .ok (.ishl, 1) := by decide +kernel
theorem dX7_which_47 : decode cX7_which 47 = .ok (.ior, 1) := by decide +kernel
theorem dX7_which_48 : decode cX7_which 48 = .ok (.istore_n 1, 1) := by decide +kernel
theorem dX7_which_49 : decode cX7_which 49 = .ok (.iinc 2 1, 3) := by decide +kernel
theorem dX7_which_52 : decode cX7_which 52 = .ok (.goto (-48), 3) := by decide +kernel
theorem dX7_which_55 : decode cX7_which 55 = .ok (.iload_n 1, 1) := by decide +kernel
theorem dX7_which_56 : decode cX7_which 56 = .ok (.ireturn, 1) := by decide +kernel
theorem dX7_share_0 : decode cX7_share 0 = .ok (.iload_n 1, 1) := by decide +kernel
theorem dX7_share_1 : decode cX7_share 1 = .ok (.invokestatic 189, 3) := by decide +kernel
theorem dX7_share_4 : decode cX7_share 4 = .ok (.ifCond .ne 5, 3) := by decide +kernel
theorem dX7_share_7 : decode cX7_share 7 = .ok (.iconst (-1), 1) := by decide +kernel
theorem dX7_share_8 : decode cX7_share 8 = .ok (.ireturn, 1) := by decide +kernel
theorem dX7_share_9 : decode cX7_share 9 = .ok (.aload_n 0, 1) := by decide +kernel
theorem dX7_share_10 : decode cX7_share 10 = .ok (.invokevirtual 215, 3) := by decide +kernel
theorem dX7_share_13 : decode cX7_share 13 = .ok (.iconst 1, 1) := by decide +kernel
theorem dX7_share_14 : decode cX7_share 14 = .ok (.iload_n 1, 1) := by decide +kernel
theorem dX7_share_15 : decode cX7_share 15 = .ok (.ishl, 1) := by decide +kernel
theorem dX7_share_16 : decode cX7_share 16 = .ok (.istore_n 3, 1) := by decide +kernel
theorem dX7_share_17 : decode cX7_share 17 = .ok (.iconst 0, 1) := by decide +kernel
theorem dX7_share_18 : decode cX7_share 18 = .ok (.istore 4, 2) := by decide +kernel
theorem dX7_share_20 : decode cX7_share 20 = .ok (.iconst 0, 1) := by decide +kernel
theorem dX7_share_21 : decode cX7_share 21 = .ok (.istore 5, 2) := by decide +kernel
theorem dX7_share_23 : decode cX7_share 23 = .ok (.iload 5, 2) := by decide +kernel
theorem dX7_share_25 : decode cX7_share 25 = .ok (.bipush 16, 2) := by decide +kernel
theorem dX7_share_27 : decode cX7_share 27 = .ok (.if_icmp .ge 52, 3) := by decide +kernel
theorem dX7_share_30 : decode cX7_share 30 = .ok (.iload 5, 2) := by decide +kernel
theorem dX7_share_32 : decode cX7_share 32 = .ok (.iload_n 3, 1) := by decide +kernel
theorem dX7_share_33 : decode cX7_share 33 = .ok (.iand, 1) := by decide +kernel
theorem dX7_share_34 : decode cX7_share 34 = .ok (.ifCond .eq 39, 3) := by decide +kernel
theorem dX7_share_37 : decode cX7_share 37 = .ok (.getstatic 218, 3) := by decide +kernel
theorem dX7_share_40 : decode cX7_share 40 = .ok (.iload 5, 2) := by decide +kernel
theorem dX7_share_42 : decode cX7_share 42 = .ok (.invokestatic 221, 3) := by decide +kernel
theorem dX7_share_45 : decode cX7_share 45 = .ok (.iaload, 1) := by decide +kernel
theorem dX7_share_46 : decode cX7_share 46 = .ok (.istore 6, 2) := by decide +kernel
theorem dX7_share_48 : decode cX7_share 48 = .ok (.iload 4, 2) := by decide +kernel
theorem dX7_share_50 : decode cX7_share 50 = .ok (.iload 6, 2) := by decide +kernel
theorem dX7_share_52 : decode cX7_share 52 = .ok (.aload_n 0, 1) := by decide +kernel
theorem dX7_share_53 : decode cX7_share 53 = .ok (.getfield 61, 3) := by decide +kernel
theorem dX7_share_56 : decode cX7_share 56 = .ok (.iload 5, 2) := by decide +kernel
theorem dX7_share_58 : decode cX7_share 58 = .ok (.iaload, 1) := by decide +kernel
theorem dX7_share_59 : decode cX7_share 59 = .ok (.aload_n 0, 1) := by decide +kernel
theorem dX7_share_60 : decode cX7_share 60 = .ok (.getfield 61, 3) := by decide +kernel
theorem dX7_share_63 : decode cX7_share 63 = .ok (.iload 5, 2) := by decide +kernel
theorem dX7_share_65 : decode cX7_share 65 = .ok (.iload_n 3, 1) := by decide +kernel
theorem dX7_share_66 : decode cX7_share 66 = .ok (.ixor, 1) := by decide +kernel
theorem dX7_share_67 : decode cX7_share 67 = .ok (.iaload, 1) := by decide +kernel
theorem dX7_share_68 : decode cX7_share 68 = .ok (.isub, 1) := by decide +kernel
theorem dX7_share_69 : decode cX7_share 69 = .ok (.imul, 1) := by decide +kernel
theorem dX7_share_70 : decode cX7_share 70 = .ok (.iadd, 1) := by decide +kernel
theorem dX7_share_71 : decode cX7_share 71 = .ok (.istore 4, 2) := by decide +kernel
theorem dX7_share_73 : decode cX7_share 73 = .ok (.iinc 5 1, 3) := by decide +kernel
theorem dX7_share_76 : decode cX7_share 76 = .ok (.goto (-53), 3) := by decide +kernel
theorem dX7_share_79 : decode cX7_share 79 = .ok (.iload 4, 2) := by decide +kernel
theorem dX7_share_81 : decode cX7_share 81 = .ok (.bipush 24, 2) := by decide +kernel
theorem dX7_share_83 : decode cX7_share 83 = .ok (.iload_n 2, 1) := by decide +kernel
theorem dX7_share_84 : decode cX7_share 84 = .ok (.invokestatic 226, 3) := by decide +kernel
theorem dX7_share_87 : decode cX7_share 87 = .ok (.ireturn, 1) := by decide +kernel
theorem dX7_chance_0 : decode cX7_chance 0 = .ok (.iload_n 1, 1) := by decide +kernel
theorem dX7_chance_1 : decode cX7_chance 1 = .ok (.ifCond .lt 17, 3) := by decide +kernel
theorem dX7_chance_4 : decode cX7_chance 4 = .ok (.iload_n 1, 1) := by decide +kernel
theorem dX7_chance_5 : decode cX7_chance 5 = .ok (.sipush 9999, 3) := by decide +kernel
theorem dX7_chance_8 : decode cX7_chance 8 = .ok (.if_icmp .gt 10, 3) := by decide +kernel
theorem dX7_chance_11 : decode cX7_chance 11 = .ok (.iload_n 2, 1) := by decide +kernel
theorem dX7_chance_12 : decode cX7_chance 12 = .ok (.invokestatic 230, 3) := by decide +kernel
theorem dX7_chance_15 : decode cX7_chance 15 = .ok (.ifCond .ne 6, 3) := by decide +kernel
theorem dX7_chance_18 : decode cX7_chance 18 = .ok (.bipush (-2), 2) := by decide +kernel
theorem dX7_chance_20 : decode cX7_chance 20 = .ok (.ireturn, 1) := by decide +kernel
theorem dX7_chance_21 : decode cX7_chance 21 = .ok (.aload_n 0, 1) := by decide +kernel
theorem dX7_chance_22 : decode cX7_chance 22 = .ok (.invokevirtual 215, 3) := by decide +kernel
theorem dX7_chance_25 : decode cX7_chance 25 = .ok (.iconst 0, 1) := by decide +kernel
theorem dX7_chance_26 : decode cX7_chance 26 = .ok (.istore 4, 2) := by decide +kernel
theorem dX7_chance_28 : decode cX7_chance 28 = .ok (.iconst 0, 1) := by decide +kernel
theorem dX7_chance_29 : decode cX7_chance 29 = .ok (.istore 5, 2) := by decide +kernel
theorem dX7_chance_31 : decode cX7_chance 31 = .ok (.iload 5, 2) := by decide +kernel
theorem dX7_chance_33 : decode cX7_chance 33 = .ok (.bipush 16, 2) := by decide +kernel
theorem dX7_chance_35 : decode cX7_chance 35 = .ok (.if_icmp .ge 31, 3) := by decide +kernel
theorem dX7_chance_38 : decode cX7_chance 38 = .ok (.aload_n 0, 1) := by decide +kernel
theorem dX7_chance_39 : decode cX7_chance 39 = .ok (.getfield 61, 3) := by decide +kernel
theorem dX7_chance_42 : decode cX7_chance 42 = .ok (.iload 5, 2) := by decide +kernel
theorem dX7_chance_44 : decode cX7_chance 44 = .ok (.iaload, 1) := by decide +kernel
theorem dX7_chance_45 : decode cX7_chance 45 = .ok (.iload_n 1, 1) := by decide +kernel
theorem dX7_chance_46 : decode cX7_chance 46 = .ok (.if_icmp .gt 14, 3) := by decide +kernel
theorem dX7_chance_49 : decode cX7_chance 49 = .ok (.iload 4, 2) := by decide +kernel
theorem dX7_chance_51 : decode cX7_chance 51 = .ok (.iload 5, 2) := by decide +kernel
theorem dX7_chance_53 : decode cX7_chance 53 = .ok (.iload_n 2, 1) := by decide +kernel
theorem dX7_chance_54 : decode cX7_chance 54 = .ok (.invokestatic 233, 3) := by decide +kernel
theorem dX7_chance_57 : decode cX7_chance 57 = .ok (.iadd, 1) := by decide +kernel
theorem dX7_chance_58 : decode cX7_chance 58 = .ok (.istore 4, 2) := by decide +kernel
theorem dX7_chance_60 : decode cX7_chance 60 = .ok (.iinc 5 1, 3) := by decide +kernel
theorem dX7_chance_63 : decode cX7_chance 63 = .ok (.goto (-32), 3) := by decide +kernel
theorem dX7_chance_66 : decode cX7_chance 66 = .ok (.iload 4, 2) := by decide +kernel
theorem dX7_chance_68 : decode cX7_chance 68 = .ok (.sipush 10000, 3) := by decide +kernel
theorem dX7_chance_71 : decode cX7_chance 71 = .ok (.iload_n 3, 1) := by decide +kernel
theorem dX7_chance_72 : decode cX7_chance 72 = .ok (.invokestatic 226, 3) := by decide +kernel
theorem dX7_chance_75 : decode cX7_chance 75 = .ok (.ireturn, 1) := by decide +kernel
theorem dX7_mean_0 : decode cX7_mean 0 = .ok (.iload_n 1, 1) := by decide +kernel
theorem dX7_mean_1 : decode cX7_mean 1 = .ok (.invokestatic 230, 3) := by decide +kernel
theorem dX7_mean_4 : decode cX7_mean 4 = .ok (.ifCond .ne 6, 3) := by decide +kernel
theorem dX7_mean_7 : decode cX7_mean 7 = .ok (.bipush (-2), 2) := by decide +kernel
theorem dX7_mean_9 : decode cX7_mean 9 = .ok (.ireturn, 1) := by decide +kernel
theorem dX7_mean_10 : decode cX7_mean 10 = .ok (.aload_n 0, 1) := by decide +kernel
theorem dX7_mean_11 : decode cX7_mean 11 = .ok (.invokevirtual 215, 3) := by decide +kernel
theorem dX7_mean_14 : decode cX7_mean 14 = .ok (.iconst 0, 1) := by decide +kernel
theorem dX7_mean_15 : decode cX7_mean 15 = .ok (.istore_n 3, 1) := by decide +kernel
theorem dX7_mean_16 : decode cX7_mean 16 = .ok (.iconst 0, 1) := by decide +kernel
theorem dX7_mean_17 : decode cX7_mean 17 = .ok (.istore 4, 2) := by decide +kernel
theorem dX7_mean_19 : decode cX7_mean 19 = .ok (.iload 4, 2) := by decide +kernel
theorem dX7_mean_21 : decode cX7_mean 21 = .ok (.bipush 16, 2) := by decide +kernel
theorem dX7_mean_23 : decode cX7_mean 23 = .ok (.if_icmp .ge 26, 3) := by decide +kernel
theorem dX7_mean_26 : decode cX7_mean 26 = .ok (.iload_n 3, 1) := by decide +kernel
theorem dX7_mean_27 : decode cX7_mean 27 = .ok (.iload 4, 2) := by decide +kernel
theorem dX7_mean_29 : decode cX7_mean 29 = .ok (.iload_n 1, 1) := by decide +kernel
theorem dX7_mean_30 : decode cX7_mean 30 = .ok (.invokestatic 233, 3) := by decide +kernel
theorem dX7_mean_33 : decode cX7_mean 33 = .ok (.aload_n 0, 1) := by decide +kernel
theorem dX7_mean_34 : decode cX7_mean 34 = .ok (.getfield 61, 3) := by decide +kernel
theorem dX7_mean_37 : decode cX7_mean 37 = .ok (.iload 4, 2) := by decide +kernel
theorem dX7_mean_39 : decode cX7_mean 39 = .ok (.iaload, 1) := by decide +kernel
theorem dX7_mean_40 : decode cX7_mean 40 = .ok (.imul, 1) := by decide +kernel
theorem dX7_mean_41 : decode cX7_mean 41 = .ok (.iadd, 1) := by decide +kernel
theorem dX7_mean_42 : decode cX7_mean 42 = .ok (.istore_n 3, 1) := by decide +kernel
theorem dX7_mean_43 : decode cX7_mean 43 = .ok (.iinc 4 1, 3) := by decide +kernel
theorem dX7_mean_46 : decode cX7_mean 46 = .ok (.goto (-27), 3) := by decide +kernel
theorem dX7_mean_49 : decode cX7_mean 49 = .ok (.iload_n 3, 1) := by decide +kernel
theorem dX7_mean_50 : decode cX7_mean 50 = .ok (.sipush 10000, 3) := by decide +kernel
theorem dX7_mean_53 : decode cX7_mean 53 = .ok (.iload_n 2, 1) := by decide +kernel
theorem dX7_mean_54 : decode cX7_mean 54 = .ok (.invokestatic 226, 3) := by decide +kernel
theorem dX7_mean_57 : decode cX7_mean 57 = .ok (.ireturn, 1) := by decide +kernel
theorem dX7_seed_0 : decode cX7_seed 0 = .ok (.aload_n 0, 1) := by decide +kernel
theorem dX7_seed_1 : decode cX7_seed 1 = .ok (.getfield 236, 3) := by decide +kernel
theorem dX7_seed_4 : decode cX7_seed 4 = .ok (.lstore_n 3, 1) := by decide +kernel
theorem dX7_seed_5 : decode cX7_seed 5 = .ok (.aload_n 0, 1) := by decide +kernel
theorem dX7_seed_6 : decode cX7_seed 6 = .ok (.lload_n 1, 1) := by decide +kernel
theorem dX7_seed_7 : decode cX7_seed 7 = .ok (.putfield 236, 3) := by decide +kernel
theorem dX7_seed_10 : decode cX7_seed 10 = .ok (.lload_n 3, 1) := by decide +kernel
theorem dX7_seed_11 : decode cX7_seed 11 = .ok (.lreturn, 1) := by decide +kernel
theorem dX7_drawn_0 : decode cX7_drawn 0 = .ok (.iload_n 1, 1) := by decide +kernel
theorem dX7_drawn_1 : decode cX7_drawn 1 = .ok (.iconst 1, 1) := by decide +kernel
theorem dX7_drawn_2 : decode cX7_drawn 2 = .ok (.if_icmp .lt 9, 3) := by decide +kernel
theorem dX7_drawn_5 : decode cX7_drawn 5 = .ok (.iload_n 1, 1) := by decide +kernel
theorem dX7_drawn_6 : decode cX7_drawn 6 = .ok (.bipush 20, 2) := by decide +kernel
theorem dX7_drawn_8 : decode cX7_drawn 8 = .ok (.if_icmp .le 6, 3) := by decide +kernel
theorem dX7_drawn_11 : decode cX7_drawn 11 = .ok (.bipush (-2), 2) := by decide +kernel
theorem dX7_drawn_13 : decode cX7_drawn 13 = .ok (.ireturn, 1) := by decide +kernel
theorem dX7_drawn_14 : decode cX7_drawn 14 = .ok (.aload_n 0, 1) := by decide +kernel
theorem dX7_drawn_15 : decode cX7_drawn 15 = .ok (.getfield 23, 3) := by decide +kernel
theorem dX7_drawn_18 : decode cX7_drawn 18 = .ok (.aload_n 0, 1) := by decide +kernel
theorem dX7_drawn_19 : decode cX7_drawn 19 = .ok (.getfield 19, 3) := by decide +kernel
theorem dX7_drawn_22 : decode cX7_drawn 22 = .ok (.invokevirtual 77, 3) := by decide +kernel
theorem dX7_drawn_25 : decode cX7_drawn 25 = .ok (.iconst 0, 1) := by decide +kernel
theorem dX7_drawn_26 : decode cX7_drawn 26 = .ok (.istore_n 2, 1) := by decide +kernel
theorem dX7_drawn_27 : decode cX7_drawn 27 = .ok (.iconst 0, 1) := by decide +kernel
theorem dX7_drawn_28 : decode cX7_drawn 28 = .ok (.istore_n 3, 1) := by decide +kernel
theorem dX7_drawn_29 : decode cX7_drawn 29 = .ok (.iload_n 3, 1) := by decide +kernel
theorem dX7_drawn_30 : decode cX7_drawn 30 = .ok (.iload_n 1, 1) := by decide +kernel
theorem dX7_drawn_31 : decode cX7_drawn 31 = .ok (.if_icmp .ge 68, 3) := by decide +kernel
theorem dX7_drawn_34 : decode cX7_drawn 34 = .ok (.aload_n 0, 1) := by decide +kernel
theorem dX7_drawn_35 : decode cX7_drawn 35 = .ok (.aload_n 0, 1) := by decide +kernel
theorem dX7_drawn_36 : decode cX7_drawn 36 = .ok (.getfield 236, 3) := by decide +kernel
theorem dX7_drawn_39 : decode cX7_drawn 39 = .ok (.ldc2_w 240, 3) := by decide +kernel
theorem dX7_drawn_42 : decode cX7_drawn 42 = .ok (.lmul, 1) := by decide +kernel
theorem dX7_drawn_43 : decode cX7_drawn 43 = .ok (.ldc2_w 242, 3) := by decide +kernel
theorem dX7_drawn_46 : decode cX7_drawn 46 = .ok (.ladd, 1) := by decide +kernel
theorem dX7_drawn_47 : decode cX7_drawn 47 = .ok (.putfield 236, 3) := by decide +kernel
theorem dX7_drawn_50 : decode cX7_drawn 50 = .ok (.aload_n 0, 1) := by decide +kernel
theorem dX7_drawn_51 : decode cX7_drawn 51 = .ok (.getfield 23, 3) := by decide +kernel
theorem dX7_drawn_54 : decode cX7_drawn 54 = .ok (.aload_n 0, 1) := by decide +kernel
theorem dX7_drawn_55 : decode cX7_drawn 55 = .ok (.getfield 236, 3) := by decide +kernel
theorem dX7_drawn_58 : decode cX7_drawn 58 = .ok (.bipush 33, 2) := by decide +kernel
theorem dX7_drawn_60 : decode cX7_drawn 60 = .ok (.lushr, 1) := by decide +kernel
theorem dX7_drawn_61 : decode cX7_drawn 61 = .ok (.l2i, 1) := by decide +kernel
theorem dX7_drawn_62 : decode cX7_drawn 62 = .ok (.invokevirtual 244, 3) := by decide +kernel
theorem dX7_drawn_65 : decode cX7_drawn 65 = .ok (.iload_n 2, 1) := by decide +kernel
theorem dX7_drawn_66 : decode cX7_drawn 66 = .ok (.aload_n 0, 1) := by decide +kernel
theorem dX7_drawn_67 : decode cX7_drawn 67 = .ok (.getfield 57, 3) := by decide +kernel
theorem dX7_drawn_70 : decode cX7_drawn 70 = .ok (.aload_n 0, 1) := by decide +kernel
theorem dX7_drawn_71 : decode cX7_drawn 71 = .ok (.getfield 23, 3) := by decide +kernel
theorem dX7_drawn_74 : decode cX7_drawn 74 = .ok (.aload_n 0, 1) := by decide +kernel
theorem dX7_drawn_75 : decode cX7_drawn 75 = .ok (.getfield 23, 3) := by decide +kernel
theorem dX7_drawn_78 : decode cX7_drawn 78 = .ok (.getfield 94, 3) := by decide +kernel
theorem dX7_drawn_81 : decode cX7_drawn 81 = .ok (.aload_n 0, 1) := by decide +kernel
theorem dX7_drawn_82 : decode cX7_drawn 82 = .ok (.getfield 23, 3) := by decide +kernel
theorem dX7_drawn_85 : decode cX7_drawn 85 = .ok (.getfield 97, 3) := by decide +kernel
theorem dX7_drawn_88 : decode cX7_drawn 88 = .ok (.invokevirtual 104, 3) := by decide +kernel
theorem dX7_drawn_91 : decode cX7_drawn 91 = .ok (.iadd, 1) := by decide +kernel
theorem dX7_drawn_92 : decode cX7_drawn 92 = .ok (.istore_n 2, 1) := by decide +kernel
theorem dX7_drawn_93 : decode cX7_drawn 93 = .ok (.iinc 3 1, 3) := by decide +kernel
theorem dX7_drawn_96 : decode cX7_drawn 96 = .ok (.goto (-67), 3) := by decide +kernel
theorem dX7_drawn_99 : decode cX7_drawn 99 = .ok (.iload_n 2, 1) := by decide +kernel
theorem dX7_drawn_100 : decode cX7_drawn 100 = .ok (.ireturn, 1) := by decide +kernel
theorem dX7_keep_0 : decode cX7_keep 0 = .ok (.iload_n 1, 1) := by decide +kernel
theorem dX7_keep_1 : decode cX7_keep 1 = .ok (.invokestatic 247, 3) := by decide +kernel
theorem dX7_keep_4 : decode cX7_keep 4 = .ok (.ifCond .ne 5, 3) := by decide +kernel
theorem dX7_keep_7 : decode cX7_keep 7 = .ok (.iconst (-1), 1) := by decide +kernel
theorem dX7_keep_8 : decode cX7_keep 8 = .ok (.ireturn, 1) := by decide +kernel
theorem dX7_keep_9 : decode cX7_keep 9 = .ok (.aload_n 0, 1) := by decide +kernel
theorem dX7_keep_10 : decode cX7_keep 10 = .ok (.getfield 36, 3) := by decide +kernel
theorem dX7_keep_13 : decode cX7_keep 13 = .ok (.iload_n 1, 1) := by decide +kernel
theorem dX7_keep_14 : decode cX7_keep 14 = .ok (.aload_n 0, 1) := by decide +kernel
theorem dX7_keep_15 : decode cX7_keep 15 = .ok (.getfield 19, 3) := by decide +kernel
theorem dX7_keep_18 : decode cX7_keep 18 = .ok (.invokevirtual 250, 3) := by decide +kernel
theorem dX7_keep_21 : decode cX7_keep 21 = .ok (.aload_n 0, 1) := by decide +kernel
theorem dX7_keep_22 : decode cX7_keep 22 = .ok (.getfield 19, 3) := by decide +kernel
theorem dX7_keep_25 : decode cX7_keep 25 = .ok (.getfield 97, 3) := by decide +kernel
theorem dX7_keep_28 : decode cX7_keep 28 = .ok (.ireturn, 1) := by decide +kernel
theorem dX7_again_0 : decode cX7_again 0 = .ok (.iload_n 1, 1) := by decide +kernel
theorem dX7_again_1 : decode cX7_again 1 = .ok (.invokestatic 247, 3) := by decide +kernel
theorem dX7_again_4 : decode cX7_again 4 = .ok (.ifCond .ne 5, 3) := by decide +kernel
theorem dX7_again_7 : decode cX7_again 7 = .ok (.iconst (-1), 1) := by decide +kernel
theorem dX7_again_8 : decode cX7_again 8 = .ok (.ireturn, 1) := by decide +kernel
theorem dX7_again_9 : decode cX7_again 9 = .ok (.aload_n 0, 1) := by decide +kernel
theorem dX7_again_10 : decode cX7_again 10 = .ok (.getfield 36, 3) := by decide +kernel
theorem dX7_again_13 : decode cX7_again 13 = .ok (.iload_n 1, 1) := by decide +kernel
theorem dX7_again_14 : decode cX7_again 14 = .ok (.aload_n 0, 1) := by decide +kernel
theorem dX7_again_15 : decode cX7_again 15 = .ok (.getfield 19, 3) := by decide +kernel
theorem dX7_again_18 : decode cX7_again 18 = .ok (.invokevirtual 253, 3) := by decide +kernel
theorem dX7_again_21 : decode cX7_again 21 = .ok (.ifCond .ne 6, 3) := by decide +kernel
theorem dX7_again_24 : decode cX7_again 24 = .ok (.bipush (-3), 2) := by decide +kernel
theorem dX7_again_26 : decode cX7_again 26 = .ok (.ireturn, 1) := by decide +kernel
theorem dX7_again_27 : decode cX7_again 27 = .ok (.aload_n 0, 1) := by decide +kernel
theorem dX7_again_28 : decode cX7_again 28 = .ok (.getfield 29, 3) := by decide +kernel
theorem dX7_again_31 : decode cX7_again 31 = .ok (.invokevirtual 81, 3) := by decide +kernel
theorem dX7_again_34 : decode cX7_again 34 = .ok (.aload_n 0, 1) := by decide +kernel
theorem dX7_again_35 : decode cX7_again 35 = .ok (.getfield 19, 3) := by decide +kernel
theorem dX7_again_38 : decode cX7_again 38 = .ok (.getfield 97, 3) := by decide +kernel
theorem dX7_again_41 : decode cX7_again 41 = .ok (.ireturn, 1) := by decide +kernel
theorem dX7_isDot_0 : decode cX7_isDot 0 = .ok (.iload_n 0, 1) := by decide +kernel
theorem dX7_isDot_1 : decode cX7_isDot 1 = .ok (.ifCond .lt 21, 3) := by decide +kernel
theorem dX7_isDot_4 : decode cX7_isDot 4 = .ok (.iload_n 0, 1) := by decide +kernel
theorem dX7_isDot_5 : decode cX7_isDot 5 = .ok (.iconst 4, 1) := by decide +kernel
theorem dX7_isDot_6 : decode cX7_isDot 6 = .ok (.if_icmp .ge 16, 3) := by decide +kernel
theorem dX7_isDot_9 : decode cX7_isDot 9 = .ok (.iload_n 1, 1) := by decide +kernel
theorem dX7_isDot_10 : decode cX7_isDot 10 = .ok (.ifCond .lt 12, 3) := by decide +kernel
theorem dX7_isDot_13 : decode cX7_isDot 13 = .ok (.iload_n 1, 1) := by decide +kernel
theorem dX7_isDot_14 : decode cX7_isDot 14 = .ok (.iconst 4, 1) := by decide +kernel
theorem dX7_isDot_15 : decode cX7_isDot 15 = .ok (.if_icmp .ge 7, 3) := by decide +kernel
theorem dX7_isDot_18 : decode cX7_isDot 18 = .ok (.iconst 1, 1) := by decide +kernel
theorem dX7_isDot_19 : decode cX7_isDot 19 = .ok (.goto 4, 3) := by decide +kernel
theorem dX7_isDot_22 : decode cX7_isDot 22 = .ok (.iconst 0, 1) := by decide +kernel
theorem dX7_isDot_23 : decode cX7_isDot 23 = .ok (.ireturn, 1) := by decide +kernel
theorem dX7_isPack_0 : decode cX7_isPack 0 = .ok (.iload_n 0, 1) := by decide +kernel
theorem dX7_isPack_1 : decode cX7_isPack 1 = .ok (.ifCond .lt 12, 3) := by decide +kernel
theorem dX7_isPack_4 : decode cX7_isPack 4 = .ok (.iload_n 0, 1) := by decide +kernel
theorem dX7_isPack_5 : decode cX7_isPack 5 = .ok (.iconst 4, 1) := by decide +kernel
theorem dX7_isPack_6 : decode cX7_isPack 6 = .ok (.if_icmp .ge 7, 3) := by decide +kernel
theorem dX7_isPack_9 : decode cX7_isPack 9 = .ok (.iconst 1, 1) := by decide +kernel
theorem dX7_isPack_10 : decode cX7_isPack 10 = .ok (.goto 4, 3) := by decide +kernel
theorem dX7_isPack_13 : decode cX7_isPack 13 = .ok (.iconst 0, 1) := by decide +kernel
theorem dX7_isPack_14 : decode cX7_isPack 14 = .ok (.ireturn, 1) := by decide +kernel
theorem dX7_isShift_0 : decode cX7_isShift 0 = .ok (.iload_n 0, 1) := by decide +kernel
theorem dX7_isShift_1 : decode cX7_isShift 1 = .ok (.ifCond .lt 12, 3) := by decide +kernel
theorem dX7_isShift_4 : decode cX7_isShift 4 = .ok (.iload_n 0, 1) := by decide +kernel
theorem dX7_isShift_5 : decode cX7_isShift 5 = .ok (.iconst 4, 1) := by decide +kernel
theorem dX7_isShift_6 : decode cX7_isShift 6 = .ok (.if_icmp .ge 7, 3) := by decide +kernel
theorem dX7_isShift_9 : decode cX7_isShift 9 = .ok (.iconst 1, 1) := by decide +kernel
theorem dX7_isShift_10 : decode cX7_isShift 10 = .ok (.goto 4, 3) := by decide +kernel
theorem dX7_isShift_13 : decode cX7_isShift 13 = .ok (.iconst 0, 1) := by decide +kernel
theorem dX7_isShift_14 : decode cX7_isShift 14 = .ok (.ireturn, 1) := by decide +kernel
theorem dX7_isTenths_0 : decode cX7_isTenths 0 = .ok (.iload_n 0, 1) := by decide +kernel
theorem dX7_isTenths_1 : decode cX7_isTenths 1 = .ok (.ifCond .lt 13, 3) := by decide +kernel
theorem dX7_isTenths_4 : decode cX7_isTenths 4 = .ok (.iload_n 0, 1) := by decide +kernel
theorem dX7_isTenths_5 : decode cX7_isTenths 5 = .ok (.bipush 10, 2) := by decide +kernel
theorem dX7_isTenths_7 : decode cX7_isTenths 7 = .ok (.if_icmp .gt 7, 3) := by decide +kernel
theorem dX7_isTenths_10 : decode cX7_isTenths 10 = .ok (.iconst 1, 1) := by decide +kernel
theorem dX7_isTenths_11 : decode cX7_isTenths 11 = .ok (.goto 4, 3) := by decide +kernel
theorem dX7_isTenths_14 : decode cX7_isTenths 14 = .ok (.iconst 0, 1) := by decide +kernel
theorem dX7_isTenths_15 : decode cX7_isTenths 15 = .ok (.ireturn, 1) := by decide +kernel
theorem dX7_isSlot_0 : decode cX7_isSlot 0 = .ok (.iload_n 0, 1) := by decide +kernel
theorem dX7_isSlot_1 : decode cX7_isSlot 1 = .ok (.ifCond .lt 12, 3) := by decide +kernel
theorem dX7_isSlot_4 : decode cX7_isSlot 4 = .ok (.iload_n 0, 1) := by decide +kernel
theorem dX7_isSlot_5 : decode cX7_isSlot 5 = .ok (.iconst 2, 1) := by decide +kernel
theorem dX7_isSlot_6 : decode cX7_isSlot 6 = .ok (.if_icmp .ge 7, 3) := by decide +kernel
theorem dX7_isSlot_9 : decode cX7_isSlot 9 = .ok (.iconst 1, 1) := by decide +kernel
theorem dX7_isSlot_10 : decode cX7_isSlot 10 = .ok (.goto 4, 3) := by decide +kernel
theorem dX7_isSlot_13 : decode cX7_isSlot 13 = .ok (.iconst 0, 1) := by decide +kernel
theorem dX7_isSlot_14 : decode cX7_isSlot 14 = .ok (.ireturn, 1) := by decide +kernel
theorem dX7_blankNow_0 : decode cX7_blankNow 0 = .ok (.aload_n 0, 1) := by decide +kernel
theorem dX7_blankNow_1 : decode cX7_blankNow 1 = .ok (.getfield 57, 3) := by decide +kernel
theorem dX7_blankNow_4 : decode cX7_blankNow 4 = .ok (.aload_n 0, 1) := by decide +kernel
theorem dX7_blankNow_5 : decode cX7_blankNow 5 = .ok (.getfield 19, 3) := by decide +kernel
theorem dX7_blankNow_8 : decode cX7_blankNow 8 = .ok (.aload_n 0, 1) := by decide +kernel
theorem dX7_blankNow_9 : decode cX7_blankNow 9 = .ok (.getfield 19, 3) := by decide +kernel
theorem dX7_blankNow_12 : decode cX7_blankNow 12 = .ok (.getfield 94, 3) := by decide +kernel
theorem dX7_blankNow_15 : decode cX7_blankNow 15 = .ok (.aload_n 0, 1) := by decide +kernel
theorem dX7_blankNow_16 : decode cX7_blankNow 16 = .ok (.getfield 19, 3) := by decide +kernel
theorem dX7_blankNow_19 : decode cX7_blankNow 19 = .ok (.getfield 97, 3) := by decide +kernel
theorem dX7_blankNow_22 : decode cX7_blankNow 22 = .ok (.invokevirtual 160, 3) := by decide +kernel
theorem dX7_blankNow_25 : decode cX7_blankNow 25 = .ok (.aload_n 0, 1) := by decide +kernel
theorem dX7_blankNow_26 : decode cX7_blankNow 26 = .ok (.getfield 57, 3) := by decide +kernel
theorem dX7_blankNow_29 : decode cX7_blankNow 29 = .ok (.getfield 257, 3) := by decide +kernel
theorem dX7_blankNow_32 : decode cX7_blankNow 32 = .ok (.ireturn, 1) := by decide +kernel
theorem dX7_sideOf_0 : decode cX7_sideOf 0 = .ok (.aload_n 0, 1) := by decide +kernel
theorem dX7_sideOf_1 : decode cX7_sideOf 1 = .ok (.getfield 50, 3) := by decide +kernel
theorem dX7_sideOf_4 : decode cX7_sideOf 4 = .ok (.aload_n 0, 1) := by decide +kernel
theorem dX7_sideOf_5 : decode cX7_sideOf 5 = .ok (.getfield 19, 3) := by decide +kernel
theorem dX7_sideOf_8 : decode cX7_sideOf 8 = .ok (.invokevirtual 148, 3) := by decide +kernel
theorem dX7_sideOf_11 : decode cX7_sideOf 11 = .ok (.aload_n 0, 1) := by decide +kernel
theorem dX7_sideOf_12 : decode cX7_sideOf 12 = .ok (.getfield 50, 3) := by decide +kernel
theorem dX7_sideOf_15 : decode cX7_sideOf 15 = .ok (.aload_n 0, 1) := by decide +kernel
theorem dX7_sideOf_16 : decode cX7_sideOf 16 = .ok (.getfield 19, 3) := by decide +kernel
theorem dX7_sideOf_19 : decode cX7_sideOf 19 = .ok (.iload_n 1, 1) := by decide +kernel
theorem dX7_sideOf_20 : decode cX7_sideOf 20 = .ok (.invokevirtual 260, 3) := by decide +kernel
theorem dX7_sideOf_23 : decode cX7_sideOf 23 = .ok (.ireturn, 1) := by decide +kernel
theorem dX7_bothSides_0 : decode cX7_bothSides 0 = .ok (.aload_n 0, 1) := by decide +kernel
theorem dX7_bothSides_1 : decode cX7_bothSides 1 = .ok (.getfield 50, 3) := by decide +kernel
theorem dX7_bothSides_4 : decode cX7_bothSides 4 = .ok (.aload_n 1, 1) := by decide +kernel
theorem dX7_bothSides_5 : decode cX7_bothSides 5 = .ok (.invokevirtual 148, 3) := by decide +kernel
theorem dX7_bothSides_8 : decode cX7_bothSides 8 = .ok (.aload_n 0, 1) := by decide +kernel
theorem dX7_bothSides_9 : decode cX7_bothSides 9 = .ok (.getfield 50, 3) := by decide +kernel
theorem dX7_bothSides_12 : decode cX7_bothSides 12 = .ok (.aload_n 1, 1) := by decide +kernel
theorem dX7_bothSides_13 : decode cX7_bothSides 13 = .ok (.iconst 0, 1) := by decide +kernel
theorem dX7_bothSides_14 : decode cX7_bothSides 14 = .ok (.invokevirtual 260, 3) := by decide +kernel
theorem dX7_bothSides_17 : decode cX7_bothSides 17 = .ok (.aload_n 0, 1) := by decide +kernel
theorem dX7_bothSides_18 : decode cX7_bothSides 18 = .ok (.getfield 50, 3) := by decide +kernel
theorem dX7_bothSides_21 : decode cX7_bothSides 21 = .ok (.aload_n 1, 1) := by decide +kernel
theorem dX7_bothSides_22 : decode cX7_bothSides 22 = .ok (.iconst 1, 1) := by decide +kernel
theorem dX7_bothSides_23 : decode cX7_bothSides 23 = .ok (.invokevirtual 260, 3) := by decide +kernel
theorem dX7_bothSides_26 : decode cX7_bothSides 26 = .ok (.iadd, 1) := by decide +kernel
theorem dX7_bothSides_27 : decode cX7_bothSides 27 = .ok (.ireturn, 1) := by decide +kernel
theorem dX7_bestChange_0 : decode cX7_bestChange 0 = .ok (.bipush (-9), 2) := by decide +kernel
theorem dX7_bestChange_2 : decode cX7_bestChange 2 = .ok (.istore_n 1, 1) := by decide +kernel
theorem dX7_bestChange_3 : decode cX7_bestChange 3 = .ok (.aload_n 0, 1) := by decide +kernel
theorem dX7_bestChange_4 : decode cX7_bestChange 4 = .ok (.aload_n 0, 1) := by decide +kernel
theorem dX7_bestChange_5 : decode cX7_bestChange 5 = .ok (.getfield 19, 3) := by decide +kernel
theorem dX7_bestChange_8 : decode cX7_bestChange 8 = .ok (.invokevirtual 172, 3) := by decide +kernel
theorem dX7_bestChange_11 : decode cX7_bestChange 11 = .ok (.istore_n 2, 1) := by decide +kernel
theorem dX7_bestChange_12 : decode cX7_bestChange 12 = .ok (.aload_n 0, 1) := by decide +kernel
theorem dX7_bestChange_13 : decode cX7_bestChange 13 = .ok (.getfield 23, 3) := by decide +kernel
theorem dX7_bestChange_16 : decode cX7_bestChange 16 = .ok (.aload_n 0, 1) := by decide +kernel
theorem dX7_bestChange_17 : decode cX7_bestChange 17 = .ok (.getfield 19, 3) := by decide +kernel
theorem dX7_bestChange_20 : decode cX7_bestChange 20 = .ok (.invokevirtual 77, 3) := by decide +kernel
theorem dX7_bestChange_23 : decode cX7_bestChange 23 = .ok (.iconst 0, 1) := by decide +kernel
theorem dX7_bestChange_24 : decode cX7_bestChange 24 = .ok (.istore_n 3, 1) := by decide +kernel
theorem dX7_bestChange_25 : decode cX7_bestChange 25 = .ok (.iload_n 3, 1) := by decide +kernel
theorem dX7_bestChange_26 : decode cX7_bestChange 26 = .ok (.aload_n 0, 1) := by decide +kernel
theorem dX7_bestChange_27 : decode cX7_bestChange 27 = .ok (.getfield 23, 3) := by decide +kernel
theorem dX7_bestChange_30 : decode cX7_bestChange 30 = .ok (.getfield 85, 3) := by decide +kernel
theorem dX7_bestChange_33 : decode cX7_bestChange 33 = .ok (.if_icmp .ge 79, 3) := by decide +kernel
theorem dX7_bestChange_36 : decode cX7_bestChange 36 = .ok (.iload_n 3, 1) := by decide +kernel
theorem dX7_bestChange_37 : decode cX7_bestChange 37 = .ok (.iconst 1, 1) := by decide +kernel
theorem dX7_bestChange_38 : decode cX7_bestChange 38 = .ok (.iadd, 1) := by decide +kernel
theorem dX7_bestChange_39 : decode cX7_bestChange 39 = .ok (.istore 4, 2) := by decide +kernel
theorem dX7_bestChange_41 : decode cX7_bestChange 41 = .ok (.iload 4, 2) := by decide +kernel
theorem dX7_bestChange_43 : decode cX7_bestChange 43 = .ok (.aload_n 0, 1) := by decide +kernel
theorem dX7_bestChange_44 : decode cX7_bestChange 44 = .ok (.getfield 23, 3) := by decide +kernel
theorem dX7_bestChange_47 : decode cX7_bestChange 47 = .ok (.getfield 85, 3) := by decide +kernel
theorem dX7_bestChange_50 : decode cX7_bestChange 50 = .ok (.if_icmp .ge 56, 3) := by decide +kernel
theorem dX7_bestChange_53 : decode cX7_bestChange 53 = .ok (.aload_n 0, 1) := by decide +kernel
theorem dX7_bestChange_54 : decode cX7_bestChange 54 = .ok (.getfield 23, 3) := by decide +kernel
theorem dX7_bestChange_57 : decode cX7_bestChange 57 = .ok (.iload_n 3, 1) := by decide +kernel
theorem dX7_bestChange_58 : decode cX7_bestChange 58 = .ok (.iload 4, 2) := by decide +kernel
theorem dX7_bestChange_60 : decode cX7_bestChange 60 = .ok (.invokevirtual 168, 3) := by decide +kernel
theorem dX7_bestChange_63 : decode cX7_bestChange 63 = .ok (.aload_n 0, 1) := by decide +kernel
theorem dX7_bestChange_64 : decode cX7_bestChange 64 = .ok (.aload_n 0, 1) := by decide +kernel
theorem dX7_bestChange_65 : decode cX7_bestChange 65 = .ok (.getfield 23, 3) := by decide +kernel
theorem dX7_bestChange_68 : decode cX7_bestChange 68 = .ok (.invokevirtual 172, 3) := by decide +kernel
theorem dX7_bestChange_71 : decode cX7_bestChange 71 = .ok (.istore 5, 2) := by decide +kernel
theorem dX7_bestChange_73 : decode cX7_bestChange 73 = .ok (.aload_n 0, 1) := by decide +kernel
theorem dX7_bestChange_74 : decode cX7_bestChange 74 = .ok (.getfield 23, 3) := by decide +kernel
theorem dX7_bestChange_77 : decode cX7_bestChange 77 = .ok (.iload_n 3, 1) := by decide +kernel
theorem dX7_bestChange_78 : decode cX7_bestChange 78 = .ok (.iload 4, 2) := by decide +kernel
theorem dX7_bestChange_80 : decode cX7_bestChange 80 = .ok (.invokevirtual 168, 3) := by decide +kernel
theorem dX7_bestChange_83 : decode cX7_bestChange 83 = .ok (.iload 5, 2) := by decide +kernel
theorem dX7_bestChange_85 : decode cX7_bestChange 85 = .ok (.iload_n 2, 1) := by decide +kernel
theorem dX7_bestChange_86 : decode cX7_bestChange 86 = .ok (.if_icmp .ge 14, 3) := by decide +kernel
theorem dX7_bestChange_89 : decode cX7_bestChange 89 = .ok (.iload 5, 2) := by decide +kernel
theorem dX7_bestChange_91 : decode cX7_bestChange 91 = .ok (.istore_n 2, 1) := by decide +kernel
theorem dX7_bestChange_92 : decode cX7_bestChange 92 = .ok (.bipush 100, 2) := by decide +kernel
theorem dX7_bestChange_94 : decode cX7_bestChange 94 = .ok (.iload_n 3, 1) := by decide +kernel
theorem dX7_bestChange_95 : decode cX7_bestChange 95 = .ok (.imul, 1) := by decide +kernel
theorem dX7_bestChange_96 : decode cX7_bestChange 96 = .ok (.iload 4, 2) := by decide +kernel
theorem dX7_bestChange_98 : decode cX7_bestChange 98 = .ok (.iadd, 1) := by decide +kernel
theorem dX7_bestChange_99 : decode cX7_bestChange 99 = .ok (.istore_n 1, 1) := by decide +kernel
theorem dX7_bestChange_100 : decode cX7_bestChange 100 = .ok (.iinc 4 1, 3) := by decide +kernel
theorem dX7_bestChange_103 : decode cX7_bestChange 103 = .ok (.goto (-62), 3) := by decide +kernel
theorem dX7_bestChange_106 : decode cX7_bestChange 106 = .ok (.iinc 3 1, 3) := by decide +kernel
theorem dX7_bestChange_109 : decode cX7_bestChange 109 = .ok (.goto (-84), 3) := by decide +kernel
theorem dX7_bestChange_112 : decode cX7_bestChange 112 = .ok (.iload_n 1, 1) := by decide +kernel
theorem dX7_bestChange_113 : decode cX7_bestChange 113 = .ok (.ireturn, 1) := by decide +kernel
theorem dX7_bestShift_0 : decode cX7_bestShift 0 = .ok (.iconst 0, 1) := by decide +kernel
theorem dX7_bestShift_1 : decode cX7_bestShift 1 = .ok (.istore_n 1, 1) := by decide +kernel
theorem dX7_bestShift_2 : decode cX7_bestShift 2 = .ok (.aload_n 0, 1) := by decide +kernel
theorem dX7_bestShift_3 : decode cX7_bestShift 3 = .ok (.iconst 0, 1) := by decide +kernel
theorem dX7_bestShift_4 : decode cX7_bestShift 4 = .ok (.invokevirtual 264, 3) := by decide +kernel
theorem dX7_bestShift_7 : decode cX7_bestShift 7 = .ok (.istore_n 2, 1) := by decide +kernel
theorem dX7_bestShift_8 : decode cX7_bestShift 8 = .ok (.iconst 1, 1) := by decide +kernel
theorem dX7_bestShift_9 : decode cX7_bestShift 9 = .ok (.istore_n 3, 1) := by decide +kernel
theorem dX7_bestShift_10 : decode cX7_bestShift 10 = .ok (.iload_n 3, 1) := by decide +kernel
theorem dX7_bestShift_11 : decode cX7_bestShift 11 = .ok (.iconst 4, 1) := by decide +kernel
theorem dX7_bestShift_12 : decode cX7_bestShift 12 = .ok (.if_icmp .ge 27, 3) := by decide +kernel
theorem dX7_bestShift_15 : decode cX7_bestShift 15 = .ok (.aload_n 0, 1) := by decide +kernel
theorem dX7_bestShift_16 : decode cX7_bestShift 16 = .ok (.iload_n 3, 1) := by decide +kernel
theorem dX7_bestShift_17 : decode cX7_bestShift 17 = .ok (.invokevirtual 264, 3) := by decide +kernel
theorem dX7_bestShift_20 : decode cX7_bestShift 20 = .ok (.istore 4, 2) := by decide +kernel
theorem dX7_bestShift_22 : decode cX7_bestShift 22 = .ok (.iload 4, 2) := by decide +kernel
theorem dX7_bestShift_24 : decode cX7_bestShift 24 = .ok (.iload_n 2, 1) := by decide +kernel
theorem dX7_bestShift_25 : decode cX7_bestShift 25 = .ok (.if_icmp .ge 8, 3) := by decide +kernel
theorem dX7_bestShift_28 : decode cX7_bestShift 28 = .ok (.iload 4, 2) := by decide +kernel
theorem dX7_bestShift_30 : decode cX7_bestShift 30 = .ok (.istore_n 2, 1) := by decide +kernel
theorem dX7_bestShift_31 : decode cX7_bestShift 31 = .ok (.iload_n 3, 1) := by decide +kernel
theorem dX7_bestShift_32 : decode cX7_bestShift 32 = .ok (.istore_n 1, 1) := by decide +kernel
theorem dX7_bestShift_33 : decode cX7_bestShift 33 = .ok (.iinc 3 1, 3) := by decide +kernel
theorem dX7_bestShift_36 : decode cX7_bestShift 36 = .ok (.goto (-26), 3) := by decide +kernel
theorem dX7_bestShift_39 : decode cX7_bestShift 39 = .ok (.iload_n 1, 1) := by decide +kernel
theorem dX7_bestShift_40 : decode cX7_bestShift 40 = .ok (.ireturn, 1) := by decide +kernel
theorem dX7_greatestMiss_0 : decode cX7_greatestMiss 0 = .ok (.iconst 0, 1) := by decide +kernel
theorem dX7_greatestMiss_1 : decode cX7_greatestMiss 1 = .ok (.istore_n 2, 1) := by decide +kernel
theorem dX7_greatestMiss_2 : decode cX7_greatestMiss 2 = .ok (.iconst 0, 1) := by decide +kernel
theorem dX7_greatestMiss_3 : decode cX7_greatestMiss 3 = .ok (.istore_n 3, 1) := by decide +kernel
theorem dX7_greatestMiss_4 : decode cX7_greatestMiss 4 = .ok (.iload_n 3, 1) := by decide +kernel
theorem dX7_greatestMiss_5 : decode cX7_greatestMiss 5 = .ok (.iconst 4, 1) := by decide +kernel
theorem dX7_greatestMiss_6 : decode cX7_greatestMiss 6 = .ok (.if_icmp .ge 29, 3) := by decide +kernel
theorem dX7_greatestMiss_9 : decode cX7_greatestMiss 9 = .ok (.iload_n 2, 1) := by decide +kernel
theorem dX7_greatestMiss_10 : decode cX7_greatestMiss 10 = .ok (.aload_n 0, 1) := by decide +kernel
theorem dX7_greatestMiss_11 : decode cX7_greatestMiss 11 = .ok (.getfield 57, 3) := by decide +kernel
theorem dX7_greatestMiss_14 : decode cX7_greatestMiss 14 = .ok (.aload_n 0, 1) := by decide +kernel
theorem dX7_greatestMiss_15 : decode cX7_greatestMiss 15 = .ok (.getfield 19, 3) := by decide +kernel
theorem dX7_greatestMiss_18 : decode cX7_greatestMiss 18 = .ok (.iload_n 1, 1) := by decide +kernel
theorem dX7_greatestMiss_19 : decode cX7_greatestMiss 19 = .ok (.iconst 1, 1) := by decide +kernel
theorem dX7_greatestMiss_20 : decode cX7_greatestMiss 20 = .ok (.iload_n 3, 1) := by decide +kernel
theorem dX7_greatestMiss_21 : decode cX7_greatestMiss 21 = .ok (.ishl, 1) := by decide +kernel
theorem dX7_greatestMiss_22 : decode cX7_greatestMiss 22 = .ok (.invokevirtual 104, 3) := by decide +kernel
theorem dX7_greatestMiss_25 : decode cX7_greatestMiss 25 = .ok (.invokestatic 267, 3) := by decide +kernel
theorem dX7_greatestMiss_28 : decode cX7_greatestMiss 28 = .ok (.istore_n 2, 1) := by decide +kernel
theorem dX7_greatestMiss_29 : decode cX7_greatestMiss 29 = .ok (.iinc 3 1, 3) := by decide +kernel
theorem dX7_greatestMiss_32 : decode cX7_greatestMiss 32 = .ok (.goto (-28), 3) := by decide +kernel
theorem dX7_greatestMiss_35 : decode cX7_greatestMiss 35 = .ok (.iload_n 2, 1) := by decide +kernel
theorem dX7_greatestMiss_36 : decode cX7_greatestMiss 36 = .ok (.ireturn, 1) := by decide +kernel
theorem dX7_band_0 : decode cX7_band 0 = .ok (.iconst 0, 1) := by decide +kernel
theorem dX7_band_1 : decode cX7_band 1 = .ok (.istore_n 1, 1) := by decide +kernel
theorem dX7_band_2 : decode cX7_band 2 = .ok (.iload_n 1, 1) := by decide +kernel
theorem dX7_band_3 : decode cX7_band 3 = .ok (.bipush 6, 2) := by decide +kernel
theorem dX7_band_5 : decode cX7_band 5 = .ok (.if_icmp .ge 29, 3) := by decide +kernel
theorem dX7_band_8 : decode cX7_band 8 = .ok (.aload_n 0, 1) := by decide +kernel
theorem dX7_band_9 : decode cX7_band 9 = .ok (.getfield 19, 3) := by decide +kernel
theorem dX7_band_12 : decode cX7_band 12 = .ok (.iload_n 1, 1) := by decide +kernel
theorem dX7_band_13 : decode cX7_band 13 = .ok (.invokevirtual 179, 3) := by decide +kernel
theorem dX7_band_16 : decode cX7_band 16 = .ok (.aload_n 0, 1) := by decide +kernel
theorem dX7_band_17 : decode cX7_band 17 = .ok (.getfield 19, 3) := by decide +kernel
theorem dX7_band_20 : decode cX7_band 20 = .ok (.getfield 85, 3) := by decide +kernel
theorem dX7_band_23 : decode cX7_band 23 = .ok (.if_icmp .lt 5, 3) := by decide +kernel
theorem dX7_band_26 : decode cX7_band 26 = .ok (.iload_n 1, 1) := by decide +kernel
theorem dX7_band_27 : decode cX7_band 27 = .ok (.ireturn, 1) := by decide +kernel
theorem dX7_band_28 : decode cX7_band 28 = .ok (.iinc 1 1, 3) := by decide +kernel
theorem dX7_band_31 : decode cX7_band 31 = .ok (.goto (-29), 3) := by decide +kernel
theorem dX7_band_34 : decode cX7_band 34 = .ok (.bipush (-9), 2) := by decide +kernel
theorem dX7_band_36 : decode cX7_band 36 = .ok (.ireturn, 1) := by decide +kernel
theorem dX7_goesWell_0 : decode cX7_goesWell 0 = .ok (.iload_n 1, 1) := by decide +kernel
theorem dX7_goesWell_1 : decode cX7_goesWell 1 = .ok (.tableswitch 166 1 6 #[39, 57, 75, 101, 119, 126], 39) := by decide +kernel
theorem dX7_goesWell_40 : decode cX7_goesWell 40 = .ok (.iload_n 2, 1) := by decide +kernel
theorem dX7_goesWell_41 : decode cX7_goesWell 41 = .ok (.ifCond .ne 15, 3) := by decide +kernel
theorem dX7_goesWell_44 : decode cX7_goesWell 44 = .ok (.aload_n 0, 1) := by decide +kernel
theorem dX7_goesWell_45 : decode cX7_goesWell 45 = .ok (.iload_n 3, 1) := by decide +kernel
theorem dX7_goesWell_46 : decode cX7_goesWell 46 = .ok (.invokevirtual 272, 3) := by decide +kernel
theorem dX7_goesWell_49 : decode cX7_goesWell 49 = .ok (.ifCond .eq 7, 3) := by decide +kernel
theorem dX7_goesWell_52 : decode cX7_goesWell 52 = .ok (.iconst 1, 1) := by decide +kernel
theorem dX7_goesWell_53 : decode cX7_goesWell 53 = .ok (.goto 4, 3) := by decide +kernel
theorem dX7_goesWell_56 : decode cX7_goesWell 56 = .ok (.iconst 0, 1) := by decide +kernel
theorem dX7_goesWell_57 : decode cX7_goesWell 57 = .ok (.ireturn, 1) := by decide +kernel
theorem dX7_goesWell_58 : decode cX7_goesWell 58 = .ok (.iload_n 2, 1) := by decide +kernel
theorem dX7_goesWell_59 : decode cX7_goesWell 59 = .ok (.ifCond .ne 15, 3) := by decide +kernel
theorem dX7_goesWell_62 : decode cX7_goesWell 62 = .ok (.aload_n 0, 1) := by decide +kernel
theorem dX7_goesWell_63 : decode cX7_goesWell 63 = .ok (.iload_n 3, 1) := by decide +kernel
theorem dX7_goesWell_64 : decode cX7_goesWell 64 = .ok (.invokevirtual 275, 3) := by decide +kernel
theorem dX7_goesWell_67 : decode cX7_goesWell 67 = .ok (.ifCond .eq 7, 3) := by decide +kernel
theorem dX7_goesWell_70 : decode cX7_goesWell 70 = .ok (.iconst 1, 1) := by decide +kernel
theorem dX7_goesWell_71 : decode cX7_goesWell 71 = .ok (.goto 4, 3) := by decide +kernel
theorem dX7_goesWell_74 : decode cX7_goesWell 74 = .ok (.iconst 0, 1) := by decide +kernel
theorem dX7_goesWell_75 : decode cX7_goesWell 75 = .ok (.ireturn, 1) := by decide +kernel
theorem dX7_goesWell_76 : decode cX7_goesWell 76 = .ok (.iload_n 2, 1) := by decide +kernel
theorem dX7_goesWell_77 : decode cX7_goesWell 77 = .ok (.iload_n 3, 1) := by decide +kernel
theorem dX7_goesWell_78 : decode cX7_goesWell 78 = .ok (.invokestatic 154, 3) := by decide +kernel
theorem dX7_goesWell_81 : decode cX7_goesWell 81 = .ok (.ifCond .eq 19, 3) := by decide +kernel
theorem dX7_goesWell_84 : decode cX7_goesWell 84 = .ok (.aload_n 0, 1) := by decide +kernel
theorem dX7_goesWell_85 : decode cX7_goesWell 85 = .ok (.iload_n 2, 1) := by decide +kernel
theorem dX7_goesWell_86 : decode cX7_goesWell 86 = .ok (.iconst 4, 1) := by decide +kernel
theorem dX7_goesWell_87 : decode cX7_goesWell 87 = .ok (.imul, 1) := by decide +kernel
theorem dX7_goesWell_88 : decode cX7_goesWell 88 = .ok (.iload_n 3, 1) := by decide +kernel
theorem dX7_goesWell_89 : decode cX7_goesWell 89 = .ok (.iadd, 1) := by decide +kernel
theorem dX7_goesWell_90 : decode cX7_goesWell 90 = .ok (.invokevirtual 278, 3) := by decide +kernel
theorem dX7_goesWell_93 : decode cX7_goesWell 93 = .ok (.ifCond .eq 7, 3) := by decide +kernel
theorem dX7_goesWell_96 : decode cX7_goesWell 96 = .ok (.iconst 1, 1) := by decide +kernel
theorem dX7_goesWell_97 : decode cX7_goesWell 97 = .ok (.goto 4, 3) := by decide +kernel
theorem dX7_goesWell_100 : decode cX7_goesWell 100 = .ok (.iconst 0, 1) := by decide +kernel
theorem dX7_goesWell_101 : decode cX7_goesWell 101 = .ok (.ireturn, 1) := by decide +kernel
theorem dX7_goesWell_102 : decode cX7_goesWell 102 = .ok (.iload_n 2, 1) := by decide +kernel
theorem dX7_goesWell_103 : decode cX7_goesWell 103 = .ok (.ifCond .ne 15, 3) := by decide +kernel
theorem dX7_goesWell_106 : decode cX7_goesWell 106 = .ok (.aload_n 0, 1) := by decide +kernel
theorem dX7_goesWell_107 : decode cX7_goesWell 107 = .ok (.iload_n 3, 1) := by decide +kernel
theorem dX7_goesWell_108 : decode cX7_goesWell 108 = .ok (.invokevirtual 281, 3) := by decide +kernel
theorem dX7_goesWell_111 : decode cX7_goesWell 111 = .ok (.ifCond .eq 7, 3) := by decide +kernel
theorem dX7_goesWell_114 : decode cX7_goesWell 114 = .ok (.iconst 1, 1) := by decide +kernel
theorem dX7_goesWell_115 : decode cX7_goesWell 115 = .ok (.goto 4, 3) := by decide +kernel
theorem dX7_goesWell_118 : decode cX7_goesWell 118 = .ok (.iconst 0, 1) := by decide +kernel
theorem dX7_goesWell_119 : decode cX7_goesWell 119 = .ok (.ireturn, 1) := by decide +kernel
theorem dX7_goesWell_120 : decode cX7_goesWell 120 = .ok (.aload_n 0, 1) := by decide +kernel
theorem dX7_goesWell_121 : decode cX7_goesWell 121 = .ok (.iload_n 2, 1) := by decide +kernel
theorem dX7_goesWell_122 : decode cX7_goesWell 122 = .ok (.iload_n 3, 1) := by decide +kernel
theorem dX7_goesWell_123 : decode cX7_goesWell 123 = .ok (.invokevirtual 284, 3) := by decide +kernel
theorem dX7_goesWell_126 : decode cX7_goesWell 126 = .ok (.ireturn, 1) := by decide +kernel
theorem dX7_goesWell_127 : decode cX7_goesWell 127 = .ok (.aload_n 0, 1) := by decide +kernel
theorem dX7_goesWell_128 : decode cX7_goesWell 128 = .ok (.getfield 57, 3) := by decide +kernel
theorem dX7_goesWell_131 : decode cX7_goesWell 131 = .ok (.aload_n 0, 1) := by decide +kernel
theorem dX7_goesWell_132 : decode cX7_goesWell 132 = .ok (.getfield 23, 3) := by decide +kernel
theorem dX7_goesWell_135 : decode cX7_goesWell 135 = .ok (.aload_n 0, 1) := by decide +kernel
theorem dX7_goesWell_136 : decode cX7_goesWell 136 = .ok (.getfield 23, 3) := by decide +kernel
theorem dX7_goesWell_139 : decode cX7_goesWell 139 = .ok (.getfield 94, 3) := by decide +kernel
theorem dX7_goesWell_142 : decode cX7_goesWell 142 = .ok (.aload_n 0, 1) := by decide +kernel
theorem dX7_goesWell_143 : decode cX7_goesWell 143 = .ok (.getfield 23, 3) := by decide +kernel
theorem dX7_goesWell_146 : decode cX7_goesWell 146 = .ok (.getfield 97, 3) := by decide +kernel
theorem dX7_goesWell_149 : decode cX7_goesWell 149 = .ok (.invokevirtual 104, 3) := by decide +kernel
theorem dX7_goesWell_152 : decode cX7_goesWell 152 = .ok (.bipush 10, 2) := by decide +kernel
theorem dX7_goesWell_154 : decode cX7_goesWell 154 = .ok (.iload_n 2, 1) := by decide +kernel
theorem dX7_goesWell_155 : decode cX7_goesWell 155 = .ok (.imul, 1) := by decide +kernel
theorem dX7_goesWell_156 : decode cX7_goesWell 156 = .ok (.iload_n 3, 1) := by decide +kernel
theorem dX7_goesWell_157 : decode cX7_goesWell 157 = .ok (.iadd, 1) := by decide +kernel
theorem dX7_goesWell_158 : decode cX7_goesWell 158 = .ok (.if_icmp .gt 7, 3) := by decide +kernel
theorem dX7_goesWell_161 : decode cX7_goesWell 161 = .ok (.iconst 1, 1) := by decide +kernel
theorem dX7_goesWell_162 : decode cX7_goesWell 162 = .ok (.goto 4, 3) := by decide +kernel
theorem dX7_goesWell_165 : decode cX7_goesWell 165 = .ok (.iconst 0, 1) := by decide +kernel
theorem dX7_goesWell_166 : decode cX7_goesWell 166 = .ok (.ireturn, 1) := by decide +kernel
theorem dX7_goesWell_167 : decode cX7_goesWell 167 = .ok (.iconst 0, 1) := by decide +kernel
theorem dX7_goesWell_168 : decode cX7_goesWell 168 = .ok (.ireturn, 1) := by decide +kernel
theorem dX7_triedPack_0 : decode cX7_triedPack 0 = .ok (.iload_n 1, 1) := by decide +kernel
theorem dX7_triedPack_1 : decode cX7_triedPack 1 = .ok (.invokestatic 189, 3) := by decide +kernel
theorem dX7_triedPack_4 : decode cX7_triedPack 4 = .ok (.ifCond .ne 5, 3) := by decide +kernel
theorem dX7_triedPack_7 : decode cX7_triedPack 7 = .ok (.iconst 0, 1) := by decide +kernel
theorem dX7_triedPack_8 : decode cX7_triedPack 8 = .ok (.ireturn, 1) := by decide +kernel
theorem dX7_triedPack_9 : decode cX7_triedPack 9 = .ok (.aload_n 0, 1) := by decide +kernel
theorem dX7_triedPack_10 : decode cX7_triedPack 10 = .ok (.getfield 23, 3) := by decide +kernel
theorem dX7_triedPack_13 : decode cX7_triedPack 13 = .ok (.iload_n 1, 1) := by decide +kernel
theorem dX7_triedPack_14 : decode cX7_triedPack 14 = .ok (.invokevirtual 192, 3) := by decide +kernel
theorem dX7_triedPack_17 : decode cX7_triedPack 17 = .ok (.iconst 1, 1) := by decide +kernel
theorem dX7_triedPack_18 : decode cX7_triedPack 18 = .ok (.ireturn, 1) := by decide +kernel
theorem dX7_triedShift_0 : decode cX7_triedShift 0 = .ok (.iload_n 1, 1) := by decide +kernel
theorem dX7_triedShift_1 : decode cX7_triedShift 1 = .ok (.invokestatic 186, 3) := by decide +kernel
theorem dX7_triedShift_4 : decode cX7_triedShift 4 = .ok (.ifCond .ne 5, 3) := by decide +kernel
theorem dX7_triedShift_7 : decode cX7_triedShift 7 = .ok (.iconst 0, 1) := by decide +kernel
theorem dX7_triedShift_8 : decode cX7_triedShift 8 = .ok (.ireturn, 1) := by decide +kernel
theorem dX7_triedShift_9 : decode cX7_triedShift 9 = .ok (.aload_n 0, 1) := by decide +kernel
theorem dX7_triedShift_10 : decode cX7_triedShift 10 = .ok (.getfield 23, 3) := by decide +kernel
theorem dX7_triedShift_13 : decode cX7_triedShift 13 = .ok (.iload_n 1, 1) := by decide +kernel
theorem dX7_triedShift_14 : decode cX7_triedShift 14 = .ok (.putfield 94, 3) := by decide +kernel
theorem dX7_triedShift_17 : decode cX7_triedShift 17 = .ok (.iconst 1, 1) := by decide +kernel
theorem dX7_triedShift_18 : decode cX7_triedShift 18 = .ok (.ireturn, 1) := by decide +kernel
theorem dX7_comesOutRight_0 : decode cX7_comesOutRight 0 = .ok (.aload_n 0, 1) := by decide +kernel
theorem dX7_comesOutRight_1 : decode cX7_comesOutRight 1 = .ok (.getfield 57, 3) := by decide +kernel
theorem dX7_comesOutRight_4 : decode cX7_comesOutRight 4 = .ok (.aload_n 0, 1) := by decide +kernel
theorem dX7_comesOutRight_5 : decode cX7_comesOutRight 5 = .ok (.getfield 23, 3) := by decide +kernel
theorem dX7_comesOutRight_8 : decode cX7_comesOutRight 8 = .ok (.aload_n 0, 1) := by decide +kernel
theorem dX7_comesOutRight_9 : decode cX7_comesOutRight 9 = .ok (.getfield 23, 3) := by decide +kernel
theorem dX7_comesOutRight_12 : decode cX7_comesOutRight 12 = .ok (.getfield 94, 3) := by decide +kernel
theorem dX7_comesOutRight_15 : decode cX7_comesOutRight 15 = .ok (.aload_n 0, 1) := by decide +kernel
theorem dX7_comesOutRight_16 : decode cX7_comesOutRight 16 = .ok (.getfield 23, 3) := by decide +kernel
theorem dX7_comesOutRight_19 : decode cX7_comesOutRight 19 = .ok (.getfield 97, 3) := by decide +kernel
theorem dX7_comesOutRight_22 : decode cX7_comesOutRight 22 = .ok (.invokevirtual 160, 3) := by decide +kernel
theorem dX7_comesOutRight_25 : decode cX7_comesOutRight 25 = .ok (.aload_n 0, 1) := by decide +kernel
theorem dX7_comesOutRight_26 : decode cX7_comesOutRight 26 = .ok (.getfield 57, 3) := by decide +kernel
theorem dX7_comesOutRight_29 : decode cX7_comesOutRight 29 = .ok (.getfield 164, 3) := by decide +kernel
theorem dX7_comesOutRight_32 : decode cX7_comesOutRight 32 = .ok (.iload_n 1, 1) := by decide +kernel
theorem dX7_comesOutRight_33 : decode cX7_comesOutRight 33 = .ok (.iaload, 1) := by decide +kernel
theorem dX7_comesOutRight_34 : decode cX7_comesOutRight 34 = .ok (.aload_n 0, 1) := by decide +kernel
theorem dX7_comesOutRight_35 : decode cX7_comesOutRight 35 = .ok (.getfield 23, 3) := by decide +kernel
theorem dX7_comesOutRight_38 : decode cX7_comesOutRight 38 = .ok (.getfield 157, 3) := by decide +kernel
theorem dX7_comesOutRight_41 : decode cX7_comesOutRight 41 = .ok (.iload_n 1, 1) := by decide +kernel
theorem dX7_comesOutRight_42 : decode cX7_comesOutRight 42 = .ok (.iaload, 1) := by decide +kernel
theorem dX7_comesOutRight_43 : decode cX7_comesOutRight 43 = .ok (.if_icmp .ne 7, 3) := by decide +kernel
theorem dX7_comesOutRight_46 : decode cX7_comesOutRight 46 = .ok (.iconst 1, 1) := by decide +kernel
theorem dX7_comesOutRight_47 : decode cX7_comesOutRight 47 = .ok (.goto 4, 3) := by decide +kernel
theorem dX7_comesOutRight_50 : decode cX7_comesOutRight 50 = .ok (.iconst 0, 1) := by decide +kernel
theorem dX7_comesOutRight_51 : decode cX7_comesOutRight 51 = .ok (.ireturn, 1) := by decide +kernel
theorem dX7_comesOutBlank_0 : decode cX7_comesOutBlank 0 = .ok (.iload_n 1, 1) := by decide +kernel
theorem dX7_comesOutBlank_1 : decode cX7_comesOutBlank 1 = .ok (.ifCond .lt 8, 3) := by decide +kernel
theorem dX7_comesOutBlank_4 : decode cX7_comesOutBlank 4 = .ok (.iload_n 1, 1) := by decide +kernel
theorem dX7_comesOutBlank_5 : decode cX7_comesOutBlank 5 = .ok (.iconst 4, 1) := by decide +kernel
theorem dX7_comesOutBlank_6 : decode cX7_comesOutBlank 6 = .ok (.if_icmp .lt 5, 3) := by decide +kernel
theorem dX7_comesOutBlank_9 : decode cX7_comesOutBlank 9 = .ok (.iconst 0, 1) := by decide +kernel
theorem dX7_comesOutBlank_10 : decode cX7_comesOutBlank 10 = .ok (.ireturn, 1) := by decide +kernel
theorem dX7_comesOutBlank_11 : decode cX7_comesOutBlank 11 = .ok (.aload_n 0, 1) := by decide +kernel
theorem dX7_comesOutBlank_12 : decode cX7_comesOutBlank 12 = .ok (.getfield 57, 3) := by decide +kernel
theorem dX7_comesOutBlank_15 : decode cX7_comesOutBlank 15 = .ok (.aload_n 0, 1) := by decide +kernel
theorem dX7_comesOutBlank_16 : decode cX7_comesOutBlank 16 = .ok (.getfield 23, 3) := by decide +kernel
theorem dX7_comesOutBlank_19 : decode cX7_comesOutBlank 19 = .ok (.aload_n 0, 1) := by decide +kernel
theorem dX7_comesOutBlank_20 : decode cX7_comesOutBlank 20 = .ok (.getfield 23, 3) := by decide +kernel
theorem dX7_comesOutBlank_23 : decode cX7_comesOutBlank 23 = .ok (.getfield 94, 3) := by decide +kernel
theorem dX7_comesOutBlank_26 : decode cX7_comesOutBlank 26 = .ok (.aload_n 0, 1) := by decide +kernel
theorem dX7_comesOutBlank_27 : decode cX7_comesOutBlank 27 = .ok (.getfield 23, 3) := by decide +kernel
theorem dX7_comesOutBlank_30 : decode cX7_comesOutBlank 30 = .ok (.getfield 97, 3) := by decide +kernel
theorem dX7_comesOutBlank_33 : decode cX7_comesOutBlank 33 = .ok (.invokevirtual 160, 3) := by decide +kernel
theorem dX7_comesOutBlank_36 : decode cX7_comesOutBlank 36 = .ok (.aload_n 0, 1) := by decide +kernel
theorem dX7_comesOutBlank_37 : decode cX7_comesOutBlank 37 = .ok (.getfield 57, 3) := by decide +kernel
theorem dX7_comesOutBlank_40 : decode cX7_comesOutBlank 40 = .ok (.getfield 257, 3) := by decide +kernel
theorem dX7_comesOutBlank_43 : decode cX7_comesOutBlank 43 = .ok (.iload_n 1, 1) := by decide +kernel
theorem dX7_comesOutBlank_44 : decode cX7_comesOutBlank 44 = .ok (.ishr, 1) := by decide +kernel
theorem dX7_comesOutBlank_45 : decode cX7_comesOutBlank 45 = .ok (.iconst 1, 1) := by decide +kernel
theorem dX7_comesOutBlank_46 : decode cX7_comesOutBlank 46 = .ok (.iand, 1) := by decide +kernel
theorem dX7_comesOutBlank_47 : decode cX7_comesOutBlank 47 = .ok (.iconst 1, 1) := by decide +kernel
theorem dX7_comesOutBlank_48 : decode cX7_comesOutBlank 48 = .ok (.if_icmp .ne 7, 3) := by decide +kernel
theorem dX7_comesOutBlank_51 : decode cX7_comesOutBlank 51 = .ok (.iconst 1, 1) := by decide +kernel
theorem dX7_comesOutBlank_52 : decode cX7_comesOutBlank 52 = .ok (.goto 4, 3) := by decide +kernel
theorem dX7_comesOutBlank_55 : decode cX7_comesOutBlank 55 = .ok (.iconst 0, 1) := by decide +kernel
theorem dX7_comesOutBlank_56 : decode cX7_comesOutBlank 56 = .ok (.ireturn, 1) := by decide +kernel
theorem dX7_triedChange_0 : decode cX7_triedChange 0 = .ok (.aload_n 0, 1) := by decide +kernel
theorem dX7_triedChange_1 : decode cX7_triedChange 1 = .ok (.getfield 23, 3) := by decide +kernel
theorem dX7_triedChange_4 : decode cX7_triedChange 4 = .ok (.iload_n 1, 1) := by decide +kernel
theorem dX7_triedChange_5 : decode cX7_triedChange 5 = .ok (.invokevirtual 125, 3) := by decide +kernel
theorem dX7_triedChange_8 : decode cX7_triedChange 8 = .ok (.ifCond .eq 19, 3) := by decide +kernel
theorem dX7_triedChange_11 : decode cX7_triedChange 11 = .ok (.aload_n 0, 1) := by decide +kernel
theorem dX7_triedChange_12 : decode cX7_triedChange 12 = .ok (.getfield 23, 3) := by decide +kernel
theorem dX7_triedChange_15 : decode cX7_triedChange 15 = .ok (.iload_n 2, 1) := by decide +kernel
theorem dX7_triedChange_16 : decode cX7_triedChange 16 = .ok (.invokevirtual 125, 3) := by decide +kernel
theorem dX7_triedChange_19 : decode cX7_triedChange 19 = .ok (.ifCond .eq 8, 3) := by decide +kernel
theorem dX7_triedChange_22 : decode cX7_triedChange 22 = .ok (.iload_n 1, 1) := by decide +kernel
theorem dX7_triedChange_23 : decode cX7_triedChange 23 = .ok (.iload_n 2, 1) := by decide +kernel
theorem dX7_triedChange_24 : decode cX7_triedChange 24 = .ok (.if_icmp .ne 5, 3) := by decide +kernel
theorem dX7_triedChange_27 : decode cX7_triedChange 27 = .ok (.iconst 0, 1) := by decide +kernel
theorem dX7_triedChange_28 : decode cX7_triedChange 28 = .ok (.ireturn, 1) := by decide +kernel
theorem dX7_triedChange_29 : decode cX7_triedChange 29 = .ok (.aload_n 0, 1) := by decide +kernel
theorem dX7_triedChange_30 : decode cX7_triedChange 30 = .ok (.getfield 23, 3) := by decide +kernel
theorem dX7_triedChange_33 : decode cX7_triedChange 33 = .ok (.iload_n 1, 1) := by decide +kernel
theorem dX7_triedChange_34 : decode cX7_triedChange 34 = .ok (.iload_n 2, 1) := by decide +kernel
theorem dX7_triedChange_35 : decode cX7_triedChange 35 = .ok (.invokevirtual 168, 3) := by decide +kernel
theorem dX7_triedChange_38 : decode cX7_triedChange 38 = .ok (.iconst 1, 1) := by decide +kernel
theorem dX7_triedChange_39 : decode cX7_triedChange 39 = .ok (.ireturn, 1) := by decide +kernel
theorem dX7_tellMisses_0 : decode cX7_tellMisses 0 = .ok (.iconst 0, 1) := by decide +kernel
theorem dX7_tellMisses_1 : decode cX7_tellMisses 1 = .ok (.istore_n 1, 1) := by decide +kernel
theorem dX7_tellMisses_2 : decode cX7_tellMisses 2 = .ok (.iload_n 1, 1) := by decide +kernel
theorem dX7_tellMisses_3 : decode cX7_tellMisses 3 = .ok (.bipush 16, 2) := by decide +kernel
theorem dX7_tellMisses_5 : decode cX7_tellMisses 5 = .ok (.if_icmp .ge 34, 3) := by decide +kernel
theorem dX7_tellMisses_8 : decode cX7_tellMisses 8 = .ok (.aload_n 0, 1) := by decide +kernel
theorem dX7_tellMisses_9 : decode cX7_tellMisses 9 = .ok (.getfield 61, 3) := by decide +kernel
theorem dX7_tellMisses_12 : decode cX7_tellMisses 12 = .ok (.iload_n 1, 1) := by decide +kernel
theorem dX7_tellMisses_13 : decode cX7_tellMisses 13 = .ok (.aload_n 0, 1) := by decide +kernel
theorem dX7_tellMisses_14 : decode cX7_tellMisses 14 = .ok (.getfield 57, 3) := by decide +kernel
theorem dX7_tellMisses_17 : decode cX7_tellMisses 17 = .ok (.aload_n 0, 1) := by decide +kernel
theorem dX7_tellMisses_18 : decode cX7_tellMisses 18 = .ok (.getfield 19, 3) := by decide +kernel
theorem dX7_tellMisses_21 : decode cX7_tellMisses 21 = .ok (.aload_n 0, 1) := by decide +kernel
theorem dX7_tellMisses_22 : decode cX7_tellMisses 22 = .ok (.getfield 19, 3) := by decide +kernel
theorem dX7_tellMisses_25 : decode cX7_tellMisses 25 = .ok (.getfield 94, 3) := by decide +kernel
theorem dX7_tellMisses_28 : decode cX7_tellMisses 28 = .ok (.iload_n 1, 1) := by decide +kernel
theorem dX7_tellMisses_29 : decode cX7_tellMisses 29 = .ok (.invokevirtual 104, 3) := by decide +kernel
theorem dX7_tellMisses_32 : decode cX7_tellMisses 32 = .ok (.iastore, 1) := by decide +kernel
theorem dX7_tellMisses_33 : decode cX7_tellMisses 33 = .ok (.iinc 1 1, 3) := by decide +kernel
theorem dX7_tellMisses_36 : decode cX7_tellMisses 36 = .ok (.goto (-34), 3) := by decide +kernel
theorem dX7_tellMisses_39 : decode cX7_tellMisses 39 = .ok (.return_, 1) := by decide +kernel
theorem dX7_likelihood_0 : decode cX7_likelihood 0 = .ok (.iconst 1, 1) := by decide +kernel
theorem dX7_likelihood_1 : decode cX7_likelihood 1 = .ok (.istore_n 2, 1) := by decide +kernel
theorem dX7_likelihood_2 : decode cX7_likelihood 2 = .ok (.iconst 0, 1) := by decide +kernel
theorem dX7_likelihood_3 : decode cX7_likelihood 3 = .ok (.istore_n 3, 1) := by decide +kernel
theorem dX7_likelihood_4 : decode cX7_likelihood 4 = .ok (.iload_n 3, 1) := by decide +kernel
theorem dX7_likelihood_5 : decode cX7_likelihood 5 = .ok (.iconst 4, 1) := by decide +kernel
theorem dX7_likelihood_6 : decode cX7_likelihood 6 = .ok (.if_icmp .ge 29, 3) := by decide +kernel
theorem dX7_likelihood_9 : decode cX7_likelihood 9 = .ok (.iload_n 2, 1) := by decide +kernel
theorem dX7_likelihood_10 : decode cX7_likelihood 10 = .ok (.iload_n 0, 1) := by decide +kernel
theorem dX7_likelihood_11 : decode cX7_likelihood 11 = .ok (.iload_n 3, 1) := by decide +kernel
theorem dX7_likelihood_12 : decode cX7_likelihood 12 = .ok (.ishr, 1) := by decide +kernel
theorem dX7_likelihood_13 : decode cX7_likelihood 13 = .ok (.iconst 1, 1) := by decide +kernel
theorem dX7_likelihood_14 : decode cX7_likelihood 14 = .ok (.iand, 1) := by decide +kernel
theorem dX7_likelihood_15 : decode cX7_likelihood 15 = .ok (.iconst 1, 1) := by decide +kernel
theorem dX7_likelihood_16 : decode cX7_likelihood 16 = .ok (.if_icmp .ne 7, 3) := by decide +kernel
theorem dX7_likelihood_19 : decode cX7_likelihood 19 = .ok (.iload_n 1, 1) := by decide +kernel
theorem dX7_likelihood_20 : decode cX7_likelihood 20 = .ok (.goto 7, 3) := by decide +kernel
theorem dX7_likelihood_23 : decode cX7_likelihood 23 = .ok (.bipush 10, 2) := by decide +kernel
theorem dX7_likelihood_25 : decode cX7_likelihood 25 = .ok (.iload_n 1, 1) := by decide +kernel
theorem dX7_likelihood_26 : decode cX7_likelihood 26 = .ok (.isub, 1) := by decide +kernel
theorem dX7_likelihood_27 : decode cX7_likelihood 27 = .ok (.imul, 1) := by decide +kernel
theorem dX7_likelihood_28 : decode cX7_likelihood 28 = .ok (.istore_n 2, 1) := by decide +kernel
theorem dX7_likelihood_29 : decode cX7_likelihood 29 = .ok (.iinc 3 1, 3) := by decide +kernel
theorem dX7_likelihood_32 : decode cX7_likelihood 32 = .ok (.goto (-28), 3) := by decide +kernel
theorem dX7_likelihood_35 : decode cX7_likelihood 35 = .ok (.iload_n 2, 1) := by decide +kernel
theorem dX7_likelihood_36 : decode cX7_likelihood 36 = .ok (.ireturn, 1) := by decide +kernel
theorem dX7_fraction_0 : decode cX7_fraction 0 = .ok (.iconst 1, 1) := by decide +kernel
theorem dX7_fraction_1 : decode cX7_fraction 1 = .ok (.iload_n 0, 1) := by decide +kernel
theorem dX7_fraction_2 : decode cX7_fraction 2 = .ok (.invokestatic 287, 3) := by decide +kernel
theorem dX7_fraction_5 : decode cX7_fraction 5 = .ok (.iload_n 1, 1) := by decide +kernel
theorem dX7_fraction_6 : decode cX7_fraction 6 = .ok (.invokestatic 290, 3) := by decide +kernel
theorem dX7_fraction_9 : decode cX7_fraction 9 = .ok (.invokestatic 267, 3) := by decide +kernel
theorem dX7_fraction_12 : decode cX7_fraction 12 = .ok (.istore_n 3, 1) := by decide +kernel
theorem dX7_fraction_13 : decode cX7_fraction 13 = .ok (.iload_n 2, 1) := by decide +kernel
theorem dX7_fraction_14 : decode cX7_fraction 14 = .ok (.ifCond .eq 9, 3) := by decide +kernel
theorem dX7_fraction_17 : decode cX7_fraction 17 = .ok (.iload_n 0, 1) := by decide +kernel
theorem dX7_fraction_18 : decode cX7_fraction 18 = .ok (.iload_n 3, 1) := by decide +kernel
theorem dX7_fraction_19 : decode cX7_fraction 19 = .ok (.idiv, 1) := by decide +kernel
theorem dX7_fraction_20 : decode cX7_fraction 20 = .ok (.goto 6, 3) := by decide +kernel
theorem dX7_fraction_23 : decode cX7_fraction 23 = .ok (.iload_n 1, 1) := by decide +kernel
theorem dX7_fraction_24 : decode cX7_fraction 24 = .ok (.iload_n 3, 1) := by decide +kernel
theorem dX7_fraction_25 : decode cX7_fraction 25 = .ok (.idiv, 1) := by decide +kernel
theorem dX7_fraction_26 : decode cX7_fraction 26 = .ok (.ireturn, 1) := by decide +kernel
theorem dX7_commonDivisor_0 : decode cX7_commonDivisor 0 = .ok (.iload_n 0, 1) := by decide +kernel
theorem dX7_commonDivisor_1 : decode cX7_commonDivisor 1 = .ok (.istore_n 2, 1) := by decide +kernel
theorem dX7_commonDivisor_2 : decode cX7_commonDivisor 2 = .ok (.iload_n 1, 1) := by decide +kernel
theorem dX7_commonDivisor_3 : decode cX7_commonDivisor 3 = .ok (.istore_n 3, 1) := by decide +kernel
theorem dX7_commonDivisor_4 : decode cX7_commonDivisor 4 = .ok (.iconst 0, 1) := by decide +kernel
theorem dX7_commonDivisor_5 : decode cX7_commonDivisor 5 = .ok (.istore 4, 2) := by decide +kernel
theorem dX7_commonDivisor_7 : decode cX7_commonDivisor 7 = .ok (.iload 4, 2) := by decide +kernel
theorem dX7_commonDivisor_9 : decode cX7_commonDivisor 9 = .ok (.bipush 64, 2) := by decide +kernel
theorem dX7_commonDivisor_11 : decode cX7_commonDivisor 11 = .ok (.if_icmp .ge 23, 3) := by decide +kernel
theorem dX7_commonDivisor_14 : decode cX7_commonDivisor 14 = .ok (.iload_n 3, 1) := by decide +kernel
theorem dX7_commonDivisor_15 : decode cX7_commonDivisor 15 = .ok (.ifCond .eq 19, 3) := by decide +kernel
theorem dX7_commonDivisor_18 : decode cX7_commonDivisor 18 = .ok (.iload_n 2, 1) := by decide +kernel
theorem dX7_commonDivisor_19 : decode cX7_commonDivisor 19 = .ok (.iload_n 3, 1) := by decide +kernel
theorem dX7_commonDivisor_20 : decode cX7_commonDivisor 20 = .ok (.irem, 1) := by decide +kernel
theorem dX7_commonDivisor_21 : decode cX7_commonDivisor 21 = .ok (.istore 5, 2) := by decide +kernel
theorem dX7_commonDivisor_23 : decode cX7_commonDivisor 23 = .ok (.iload_n 3, 1) := by decide +kernel
theorem dX7_commonDivisor_24 : decode cX7_commonDivisor 24 = .ok (.istore_n 2, 1) := by decide +kernel
theorem dX7_commonDivisor_25 : decode cX7_commonDivisor 25 = .ok (.iload 5, 2) := by decide +kernel
theorem dX7_commonDivisor_27 : decode cX7_commonDivisor 27 = .ok (.istore_n 3, 1) := by decide +kernel
theorem dX7_commonDivisor_28 : decode cX7_commonDivisor 28 = .ok (.iinc 4 1, 3) := by decide +kernel
theorem dX7_commonDivisor_31 : decode cX7_commonDivisor 31 = .ok (.goto (-24), 3) := by decide +kernel
theorem dX7_commonDivisor_34 : decode cX7_commonDivisor 34 = .ok (.iload_n 2, 1) := by decide +kernel
theorem dX7_commonDivisor_35 : decode cX7_commonDivisor 35 = .ok (.ireturn, 1) := by decide +kernel
theorem dX7_square_0 : decode cX7_square 0 = .ok (.iload_n 0, 1) := by decide +kernel
theorem dX7_square_1 : decode cX7_square 1 = .ok (.iload_n 0, 1) := by decide +kernel
theorem dX7_square_2 : decode cX7_square 2 = .ok (.imul, 1) := by decide +kernel
theorem dX7_square_3 : decode cX7_square 3 = .ok (.ireturn, 1) := by decide +kernel
