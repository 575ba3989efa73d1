theorem dX5_in_0 : decode cX5_in 0 = .ok (.lload_n 0, 1) := by decide +kernel
theorem dX5_in_1 : decode cX5_in 1 = .ok (.lload_n 2, 1) := by decide +kernel
theorem dX5_in_2 : decode cX5_in 2 = .ok (.lcmp, 1) := by decide +kernel
theorem dX5_in_3 : decode cX5_in 3 = .ok (.ifCond .lt 14, 3) := by decide +kernel
theorem dX5_in_6 : decode cX5_in 6 = .ok (.lload_n 0, 1) := by decide +kernel
theorem dX5_in_7 : decode cX5_in 7 = .ok (.lload 4, 2) := by decide +kernel
theorem dX5_in_9 : decode cX5_in 9 = .ok (.lcmp, 1) := by decide +kernel
theorem dX5_in_10 : decode cX5_in 10 = .ok (.ifCond .gt 7, 3) := by decide +kernel
theorem dX5_in_13 : decode cX5_in 13 = .ok (.iconst 1, 1) := by decide +kernel
theorem dX5_in_14 : decode cX5_in 14 = .ok (.goto 4, 3) := by decide +kernel
theorem dX5_in_17 : decode cX5_in 17 = .ok (.iconst 0, 1) := by decide +kernel
theorem dX5_in_18 : decode cX5_in 18 = .ok (.ireturn, 1) := by decide +kernel
theorem dX5_fails_0 : decode cX5_fails 0 = .ok (.aload_n 0, 1) := by decide +kernel
theorem dX5_fails_1 : decode cX5_fails 1 = .ok (.iload_n 1, 1) := by decide +kernel
theorem dX5_fails_2 : decode cX5_fails 2 = .ok (.putfield 7, 3) := by decide +kernel
theorem dX5_fails_5 : decode cX5_fails 5 = .ok (.bipush (-30), 2) := by decide +kernel
theorem dX5_fails_7 : decode cX5_fails 7 = .ok (.iload_n 1, 1) := by decide +kernel
theorem dX5_fails_8 : decode cX5_fails 8 = .ok (.isub, 1) := by decide +kernel
theorem dX5_fails_9 : decode cX5_fails 9 = .ok (.ireturn, 1) := by decide +kernel
theorem dX5_isEntry_0 : decode cX5_isEntry 0 = .ok (.iload_n 1, 1) := by decide +kernel
theorem dX5_isEntry_1 : decode cX5_isEntry 1 = .ok (.i2l, 1) := by decide +kernel
theorem dX5_isEntry_2 : decode cX5_isEntry 2 = .ok (.lconst 0, 1) := by decide +kernel
theorem dX5_isEntry_3 : decode cX5_isEntry 3 = .ok (.aload_n 0, 1) := by decide +kernel
theorem dX5_isEntry_4 : decode cX5_isEntry 4 = .ok (.getfield 10, 3) := by decide +kernel
theorem dX5_isEntry_7 : decode cX5_isEntry 7 = .ok (.iconst 1, 1) := by decide +kernel
theorem dX5_isEntry_8 : decode cX5_isEntry 8 = .ok (.isub, 1) := by decide +kernel
theorem dX5_isEntry_9 : decode cX5_isEntry 9 = .ok (.i2l, 1) := by decide +kernel
theorem dX5_isEntry_10 : decode cX5_isEntry 10 = .ok (.invokestatic 13, 3) := by decide +kernel
theorem dX5_isEntry_13 : decode cX5_isEntry 13 = .ok (.ireturn, 1) := by decide +kernel
theorem dX5_byteOf_0 : decode cX5_byteOf 0 = .ok (.lload_n 0, 1) := by decide +kernel
theorem dX5_byteOf_1 : decode cX5_byteOf 1 = .ok (.bipush 8, 2) := by decide +kernel
theorem dX5_byteOf_3 : decode cX5_byteOf 3 = .ok (.iload_n 2, 1) := by decide +kernel
theorem dX5_byteOf_4 : decode cX5_byteOf 4 = .ok (.iconst 1, 1) := by decide +kernel
theorem dX5_byteOf_5 : decode cX5_byteOf 5 = .ok (.isub, 1) := by decide +kernel
theorem dX5_byteOf_6 : decode cX5_byteOf 6 = .ok (.iload_n 3, 1) := by decide +kernel
theorem dX5_byteOf_7 : decode cX5_byteOf 7 = .ok (.isub, 1) := by decide +kernel
theorem dX5_byteOf_8 : decode cX5_byteOf 8 = .ok (.imul, 1) := by decide +kernel
theorem dX5_byteOf_9 : decode cX5_byteOf 9 = .ok (.lshr, 1) := by decide +kernel
theorem dX5_byteOf_10 : decode cX5_byteOf 10 = .ok (.ldc2_w 17, 3) := by decide +kernel
theorem dX5_byteOf_13 : decode cX5_byteOf 13 = .ok (.land, 1) := by decide +kernel
theorem dX5_byteOf_14 : decode cX5_byteOf 14 = .ok (.l2i, 1) := by decide +kernel
theorem dX5_byteOf_15 : decode cX5_byteOf 15 = .ok (.ireturn, 1) := by decide +kernel
theorem dX5_hasZero_0 : decode cX5_hasZero 0 = .ok (.iconst 0, 1) := by decide +kernel
theorem dX5_hasZero_1 : decode cX5_hasZero 1 = .ok (.istore_n 3, 1) := by decide +kernel
theorem dX5_hasZero_2 : decode cX5_hasZero 2 = .ok (.iload_n 3, 1) := by decide +kernel
theorem dX5_hasZero_3 : decode cX5_hasZero 3 = .ok (.iload_n 2, 1) := by decide +kernel
theorem dX5_hasZero_4 : decode cX5_hasZero 4 = .ok (.if_icmp .ge 20, 3) := by decide +kernel
theorem dX5_hasZero_7 : decode cX5_hasZero 7 = .ok (.lload_n 0, 1) := by decide +kernel
theorem dX5_hasZero_8 : decode cX5_hasZero 8 = .ok (.iload_n 2, 1) := by decide +kernel
theorem dX5_hasZero_9 : decode cX5_hasZero 9 = .ok (.iload_n 3, 1) := by decide +kernel
theorem dX5_hasZero_10 : decode cX5_hasZero 10 = .ok (.invokestatic 19, 3) := by decide +kernel
theorem dX5_hasZero_13 : decode cX5_hasZero 13 = .ok (.ifCond .ne 5, 3) := by decide +kernel
theorem dX5_hasZero_16 : decode cX5_hasZero 16 = .ok (.iconst 1, 1) := by decide +kernel
theorem dX5_hasZero_17 : decode cX5_hasZero 17 = .ok (.ireturn, 1) := by decide +kernel
theorem dX5_hasZero_18 : decode cX5_hasZero 18 = .ok (.iinc 3 1, 3) := by decide +kernel
theorem dX5_hasZero_21 : decode cX5_hasZero 21 = .ok (.goto (-19), 3) := by decide +kernel
theorem dX5_hasZero_24 : decode cX5_hasZero 24 = .ok (.iconst 0, 1) := by decide +kernel
theorem dX5_hasZero_25 : decode cX5_hasZero 25 = .ok (.ireturn, 1) := by decide +kernel
theorem dX5_begin_0 : decode cX5_begin 0 = .ok (.aload_n 0, 1) := by decide +kernel
theorem dX5_begin_1 : decode cX5_begin 1 = .ok (.getfield 23, 3) := by decide +kernel
theorem dX5_begin_4 : decode cX5_begin 4 = .ok (.iload_n 1, 1) := by decide +kernel
theorem dX5_begin_5 : decode cX5_begin 5 = .ok (.iconst 0, 1) := by decide +kernel
theorem dX5_begin_6 : decode cX5_begin 6 = .ok (.iastore, 1) := by decide +kernel
theorem dX5_begin_7 : decode cX5_begin 7 = .ok (.aload_n 0, 1) := by decide +kernel
theorem dX5_begin_8 : decode cX5_begin 8 = .ok (.getfield 27, 3) := by decide +kernel
theorem dX5_begin_11 : decode cX5_begin 11 = .ok (.iload_n 1, 1) := by decide +kernel
theorem dX5_begin_12 : decode cX5_begin 12 = .ok (.iconst 0, 1) := by decide +kernel
theorem dX5_begin_13 : decode cX5_begin 13 = .ok (.iastore, 1) := by decide +kernel
theorem dX5_begin_14 : decode cX5_begin 14 = .ok (.aload_n 0, 1) := by decide +kernel
theorem dX5_begin_15 : decode cX5_begin 15 = .ok (.getfield 30, 3) := by decide +kernel
theorem dX5_begin_18 : decode cX5_begin 18 = .ok (.iload_n 1, 1) := by decide +kernel
theorem dX5_begin_19 : decode cX5_begin 19 = .ok (.iconst 0, 1) := by decide +kernel
theorem dX5_begin_20 : decode cX5_begin 20 = .ok (.iastore, 1) := by decide +kernel
theorem dX5_begin_21 : decode cX5_begin 21 = .ok (.aload_n 0, 1) := by decide +kernel
theorem dX5_begin_22 : decode cX5_begin 22 = .ok (.getfield 33, 3) := by decide +kernel
theorem dX5_begin_25 : decode cX5_begin 25 = .ok (.iload_n 1, 1) := by decide +kernel
theorem dX5_begin_26 : decode cX5_begin 26 = .ok (.iconst 0, 1) := by decide +kernel
theorem dX5_begin_27 : decode cX5_begin 27 = .ok (.iastore, 1) := by decide +kernel
theorem dX5_begin_28 : decode cX5_begin 28 = .ok (.aload_n 0, 1) := by decide +kernel
theorem dX5_begin_29 : decode cX5_begin 29 = .ok (.getfield 36, 3) := by decide +kernel
theorem dX5_begin_32 : decode cX5_begin 32 = .ok (.iload_n 1, 1) := by decide +kernel
theorem dX5_begin_33 : decode cX5_begin 33 = .ok (.iconst 0, 1) := by decide +kernel
theorem dX5_begin_34 : decode cX5_begin 34 = .ok (.iastore, 1) := by decide +kernel
theorem dX5_begin_35 : decode cX5_begin 35 = .ok (.aload_n 0, 1) := by decide +kernel
theorem dX5_begin_36 : decode cX5_begin 36 = .ok (.getfield 39, 3) := by decide +kernel
theorem dX5_begin_39 : decode cX5_begin 39 = .ok (.iload_n 1, 1) := by decide +kernel
theorem dX5_begin_40 : decode cX5_begin 40 = .ok (.iconst 0, 1) := by decide +kernel
theorem dX5_begin_41 : decode cX5_begin 41 = .ok (.bastore, 1) := by decide +kernel
theorem dX5_begin_42 : decode cX5_begin 42 = .ok (.aload_n 0, 1) := by decide +kernel
theorem dX5_begin_43 : decode cX5_begin 43 = .ok (.getfield 43, 3) := by decide +kernel
theorem dX5_begin_46 : decode cX5_begin 46 = .ok (.iload_n 1, 1) := by decide +kernel
theorem dX5_begin_47 : decode cX5_begin 47 = .ok (.iconst 0, 1) := by decide +kernel
theorem dX5_begin_48 : decode cX5_begin 48 = .ok (.iastore, 1) := by decide +kernel
theorem dX5_begin_49 : decode cX5_begin 49 = .ok (.aload_n 0, 1) := by decide +kernel
theorem dX5_begin_50 : decode cX5_begin 50 = .ok (.getfield 46, 3) := by decide +kernel
theorem dX5_begin_53 : decode cX5_begin 53 = .ok (.iload_n 1, 1) := by decide +kernel
theorem dX5_begin_54 : decode cX5_begin 54 = .ok (.iconst 0, 1) := by decide +kernel
theorem dX5_begin_55 : decode cX5_begin 55 = .ok (.iastore, 1) := by decide +kernel
theorem dX5_begin_56 : decode cX5_begin 56 = .ok (.aload_n 0, 1) := by decide +kernel
theorem dX5_begin_57 : decode cX5_begin 57 = .ok (.getfield 49, 3) := by decide +kernel
theorem dX5_begin_60 : decode cX5_begin 60 = .ok (.iload_n 1, 1) := by decide +kernel
theorem dX5_begin_61 : decode cX5_begin 61 = .ok (.iconst 0, 1) := by decide +kernel
theorem dX5_begin_62 : decode cX5_begin 62 = .ok (.iastore, 1) := by decide +kernel
theorem dX5_begin_63 : decode cX5_begin 63 = .ok (.aload_n 0, 1) := by decide +kernel
theorem dX5_begin_64 : decode cX5_begin 64 = .ok (.getfield 52, 3) := by decide +kernel
theorem dX5_begin_67 : decode cX5_begin 67 = .ok (.iload_n 1, 1) := by decide +kernel
theorem dX5_begin_68 : decode cX5_begin 68 = .ok (.iconst 0, 1) := by decide +kernel
theorem dX5_begin_69 : decode cX5_begin 69 = .ok (.bastore, 1) := by decide +kernel
theorem dX5_begin_70 : decode cX5_begin 70 = .ok (.aload_n 0, 1) := by decide +kernel
theorem dX5_begin_71 : decode cX5_begin 71 = .ok (.getfield 55, 3) := by decide +kernel
theorem dX5_begin_74 : decode cX5_begin 74 = .ok (.iload_n 1, 1) := by decide +kernel
theorem dX5_begin_75 : decode cX5_begin 75 = .ok (.iconst (-1), 1) := by decide +kernel
theorem dX5_begin_76 : decode cX5_begin 76 = .ok (.iastore, 1) := by decide +kernel
theorem dX5_begin_77 : decode cX5_begin 77 = .ok (.return_, 1) := by decide +kernel
theorem dX5_entry_0 : decode cX5_entry 0 = .ok (.aload_n 0, 1) := by decide +kernel
theorem dX5_entry_1 : decode cX5_entry 1 = .ok (.iconst 0, 1) := by decide +kernel
theorem dX5_entry_2 : decode cX5_entry 2 = .ok (.putfield 1, 3) := by decide +kernel
theorem dX5_entry_5 : decode cX5_entry 5 = .ok (.iload_n 1, 1) := by decide +kernel
theorem dX5_entry_6 : decode cX5_entry 6 = .ok (.i2l, 1) := by decide +kernel
theorem dX5_entry_7 : decode cX5_entry 7 = .ok (.lconst 0, 1) := by decide +kernel
theorem dX5_entry_8 : decode cX5_entry 8 = .ok (.ldc2_w 58, 3) := by decide +kernel
theorem dX5_entry_11 : decode cX5_entry 11 = .ok (.invokestatic 13, 3) := by decide +kernel
theorem dX5_entry_14 : decode cX5_entry 14 = .ok (.ifCond .eq 63, 3) := by decide +kernel
theorem dX5_entry_17 : decode cX5_entry 17 = .ok (.iload_n 2, 1) := by decide +kernel
theorem dX5_entry_18 : decode cX5_entry 18 = .ok (.i2l, 1) := by decide +kernel
theorem dX5_entry_19 : decode cX5_entry 19 = .ok (.lconst 0, 1) := by decide +kernel
theorem dX5_entry_20 : decode cX5_entry 20 = .ok (.iload_n 1, 1) := by decide +kernel
theorem dX5_entry_21 : decode cX5_entry 21 = .ok (.iconst 2, 1) := by decide +kernel
theorem dX5_entry_22 : decode cX5_entry 22 = .ok (.if_icmp .ne 7, 3) := by decide +kernel
theorem dX5_entry_25 : decode cX5_entry 25 = .ok (.lconst 0, 1) := by decide +kernel
theorem dX5_entry_26 : decode cX5_entry 26 = .ok (.goto 6, 3) := by decide +kernel
theorem dX5_entry_29 : decode cX5_entry 29 = .ok (.ldc2_w 58, 3) := by decide +kernel
theorem dX5_entry_32 : decode cX5_entry 32 = .ok (.invokestatic 13, 3) := by decide +kernel
theorem dX5_entry_35 : decode cX5_entry 35 = .ok (.ifCond .eq 42, 3) := by decide +kernel
theorem dX5_entry_38 : decode cX5_entry 38 = .ok (.iload 5, 2) := by decide +kernel
theorem dX5_entry_40 : decode cX5_entry 40 = .ok (.i2l, 1) := by decide +kernel
theorem dX5_entry_41 : decode cX5_entry 41 = .ok (.lconst 1, 1) := by decide +kernel
theorem dX5_entry_42 : decode cX5_entry 42 = .ok (.ldc2_w 60, 3) := by decide +kernel
theorem dX5_entry_45 : decode cX5_entry 45 = .ok (.invokestatic 13, 3) := by decide +kernel
theorem dX5_entry_48 : decode cX5_entry 48 = .ok (.ifCond .eq 29, 3) := by decide +kernel
theorem dX5_entry_51 : decode cX5_entry 51 = .ok (.lload_n 3, 1) := by decide +kernel
theorem dX5_entry_52 : decode cX5_entry 52 = .ok (.iload 5, 2) := by decide +kernel
theorem dX5_entry_54 : decode cX5_entry 54 = .ok (.invokestatic 62, 3) := by decide +kernel
theorem dX5_entry_57 : decode cX5_entry 57 = .ok (.ifCond .ne 20, 3) := by decide +kernel
theorem dX5_entry_60 : decode cX5_entry 60 = .ok (.iload_n 1, 1) := by decide +kernel
theorem dX5_entry_61 : decode cX5_entry 61 = .ok (.iconst 2, 1) := by decide +kernel
theorem dX5_entry_62 : decode cX5_entry 62 = .ok (.if_icmp .eq 18, 3) := by decide +kernel
theorem dX5_entry_65 : decode cX5_entry 65 = .ok (.lload_n 3, 1) := by decide +kernel
theorem dX5_entry_66 : decode cX5_entry 66 = .ok (.ldc2_w 17, 3) := by decide +kernel
theorem dX5_entry_69 : decode cX5_entry 69 = .ok (.land, 1) := by decide +kernel
theorem dX5_entry_70 : decode cX5_entry 70 = .ok (.ldc2_w 66, 3) := by decide +kernel
theorem dX5_entry_73 : decode cX5_entry 73 = .ok (.lcmp, 1) := by decide +kernel
theorem dX5_entry_74 : decode cX5_entry 74 = .ok (.ifCond .ne 6, 3) := by decide +kernel
theorem dX5_entry_77 : decode cX5_entry 77 = .ok (.bipush (-3), 2) := by decide +kernel
theorem dX5_entry_79 : decode cX5_entry 79 = .ok (.ireturn, 1) := by decide +kernel
theorem dX5_entry_80 : decode cX5_entry 80 = .ok (.aload_n 0, 1) := by decide +kernel
theorem dX5_entry_81 : decode cX5_entry 81 = .ok (.getfield 10, 3) := by decide +kernel
theorem dX5_entry_84 : decode cX5_entry 84 = .ok (.bipush 12, 2) := by decide +kernel
theorem dX5_entry_86 : decode cX5_entry 86 = .ok (.if_icmp .ne 6, 3) := by decide +kernel
theorem dX5_entry_89 : decode cX5_entry 89 = .ok (.bipush (-5), 2) := by decide +kernel
theorem dX5_entry_91 : decode cX5_entry 91 = .ok (.ireturn, 1) := by decide +kernel
theorem dX5_entry_92 : decode cX5_entry 92 = .ok (.aload_n 0, 1) := by decide +kernel
theorem dX5_entry_93 : decode cX5_entry 93 = .ok (.getfield 10, 3) := by decide +kernel
theorem dX5_entry_96 : decode cX5_entry 96 = .ok (.istore 6, 2) := by decide +kernel
theorem dX5_entry_98 : decode cX5_entry 98 = .ok (.aload_n 0, 1) := by decide +kernel
theorem dX5_entry_99 : decode cX5_entry 99 = .ok (.dup, 1) := by decide +kernel
theorem dX5_entry_100 : decode cX5_entry 100 = .ok (.getfield 10, 3) := by decide +kernel
theorem dX5_entry_103 : decode cX5_entry 103 = .ok (.iconst 1, 1) := by decide +kernel
theorem dX5_entry_104 : decode cX5_entry 104 = .ok (.iadd, 1) := by decide +kernel
theorem dX5_entry_105 : decode cX5_entry 105 = .ok (.putfield 10, 3) := by decide +kernel
theorem dX5_entry_108 : decode cX5_entry 108 = .ok (.aload_n 0, 1) := by decide +kernel
theorem dX5_entry_109 : decode cX5_entry 109 = .ok (.iload 6, 2) := by decide +kernel
theorem dX5_entry_111 : decode cX5_entry 111 = .ok (.invokevirtual 68, 3) := by decide +kernel
theorem dX5_entry_114 : decode cX5_entry 114 = .ok (.aload_n 0, 1) := by decide +kernel
theorem dX5_entry_115 : decode cX5_entry 115 = .ok (.getfield 72, 3) := by decide +kernel
theorem dX5_entry_118 : decode cX5_entry 118 = .ok (.iload 6, 2) := by decide +kernel
theorem dX5_entry_120 : decode cX5_entry 120 = .ok (.iload_n 1, 1) := by decide +kernel
theorem dX5_entry_121 : decode cX5_entry 121 = .ok (.iastore, 1) := by decide +kernel
theorem dX5_entry_122 : decode cX5_entry 122 = .ok (.aload_n 0, 1) := by decide +kernel
theorem dX5_entry_123 : decode cX5_entry 123 = .ok (.getfield 75, 3) := by decide +kernel
theorem dX5_entry_126 : decode cX5_entry 126 = .ok (.iload 6, 2) := by decide +kernel
theorem dX5_entry_128 : decode cX5_entry 128 = .ok (.iload_n 2, 1) := by decide +kernel
theorem dX5_entry_129 : decode cX5_entry 129 = .ok (.iastore, 1) := by decide +kernel
theorem dX5_entry_130 : decode cX5_entry 130 = .ok (.iconst 0, 1) := by decide +kernel
theorem dX5_entry_131 : decode cX5_entry 131 = .ok (.istore 7, 2) := by decide +kernel
theorem dX5_entry_133 : decode cX5_entry 133 = .ok (.iload 7, 2) := by decide +kernel
theorem dX5_entry_135 : decode cX5_entry 135 = .ok (.iload 5, 2) := by decide +kernel
theorem dX5_entry_137 : decode cX5_entry 137 = .ok (.if_icmp .ge 30, 3) := by decide +kernel
theorem dX5_entry_140 : decode cX5_entry 140 = .ok (.aload_n 0, 1) := by decide +kernel
theorem dX5_entry_141 : decode cX5_entry 141 = .ok (.getfield 78, 3) := by decide +kernel
theorem dX5_entry_144 : decode cX5_entry 144 = .ok (.bipush 16, 2) := by decide +kernel
theorem dX5_entry_146 : decode cX5_entry 146 = .ok (.iload 6, 2) := by decide +kernel
theorem dX5_entry_148 : decode cX5_entry 148 = .ok (.imul, 1) := by decide +kernel
theorem dX5_entry_149 : decode cX5_entry 149 = .ok (.iload 7, 2) := by decide +kernel
theorem dX5_entry_151 : decode cX5_entry 151 = .ok (.iadd, 1) := by decide +kernel
theorem dX5_entry_152 : decode cX5_entry 152 = .ok (.lload_n 3, 1) := by decide +kernel
theorem dX5_entry_153 : decode cX5_entry 153 = .ok (.iload 5, 2) := by decide +kernel
theorem dX5_entry_155 : decode cX5_entry 155 = .ok (.iload 7, 2) := by decide +kernel
theorem dX5_entry_157 : decode cX5_entry 157 = .ok (.invokestatic 19, 3) := by decide +kernel
theorem dX5_entry_160 : decode cX5_entry 160 = .ok (.iastore, 1) := by decide +kernel
theorem dX5_entry_161 : decode cX5_entry 161 = .ok (.iinc 7 1, 3) := by decide +kernel
theorem dX5_entry_164 : decode cX5_entry 164 = .ok (.goto (-31), 3) := by decide +kernel
theorem dX5_entry_167 : decode cX5_entry 167 = .ok (.aload_n 0, 1) := by decide +kernel
theorem dX5_entry_168 : decode cX5_entry 168 = .ok (.getfield 23, 3) := by decide +kernel
theorem dX5_entry_171 : decode cX5_entry 171 = .ok (.iload 6, 2) := by decide +kernel
theorem dX5_entry_173 : decode cX5_entry 173 = .ok (.iload 5, 2) := by decide +kernel
theorem dX5_entry_175 : decode cX5_entry 175 = .ok (.iastore, 1) := by decide +kernel
theorem dX5_entry_176 : decode cX5_entry 176 = .ok (.iload_n 1, 1) := by decide +kernel
theorem dX5_entry_177 : decode cX5_entry 177 = .ok (.iconst 2, 1) := by decide +kernel
theorem dX5_entry_178 : decode cX5_entry 178 = .ok (.if_icmp .ne 29, 3) := by decide +kernel
theorem dX5_entry_181 : decode cX5_entry 181 = .ok (.aload_n 0, 1) := by decide +kernel
theorem dX5_entry_182 : decode cX5_entry 182 = .ok (.getfield 78, 3) := by decide +kernel
theorem dX5_entry_185 : decode cX5_entry 185 = .ok (.bipush 16, 2) := by decide +kernel
theorem dX5_entry_187 : decode cX5_entry 187 = .ok (.iload 6, 2) := by decide +kernel
theorem dX5_entry_189 : decode cX5_entry 189 = .ok (.imul, 1) := by decide +kernel
theorem dX5_entry_190 : decode cX5_entry 190 = .ok (.iload 5, 2) := by decide +kernel
theorem dX5_entry_192 : decode cX5_entry 192 = .ok (.iadd, 1) := by decide +kernel
theorem dX5_entry_193 : decode cX5_entry 193 = .ok (.bipush 47, 2) := by decide +kernel
theorem dX5_entry_195 : decode cX5_entry 195 = .ok (.iastore, 1) := by decide +kernel
theorem dX5_entry_196 : decode cX5_entry 196 = .ok (.aload_n 0, 1) := by decide +kernel
theorem dX5_entry_197 : decode cX5_entry 197 = .ok (.getfield 23, 3) := by decide +kernel
theorem dX5_entry_200 : decode cX5_entry 200 = .ok (.iload 6, 2) := by decide +kernel
theorem dX5_entry_202 : decode cX5_entry 202 = .ok (.dup2, 1) := by decide +kernel
theorem dX5_entry_203 : decode cX5_entry 203 = .ok (.iaload, 1) := by decide +kernel
theorem dX5_entry_204 : decode cX5_entry 204 = .ok (.iconst 1, 1) := by decide +kernel
theorem dX5_entry_205 : decode cX5_entry 205 = .ok (.iadd, 1) := by decide +kernel
theorem dX5_entry_206 : decode cX5_entry 206 = .ok (.iastore, 1) := by decide +kernel
theorem dX5_entry_207 : decode cX5_entry 207 = .ok (.iload 6, 2) := by decide +kernel
theorem dX5_entry_209 : decode cX5_entry 209 = .ok (.ireturn, 1) := by decide +kernel
theorem dX5_name_0 : decode cX5_name 0 = .ok (.aload_n 0, 1) := by decide +kernel
theorem dX5_name_1 : decode cX5_name 1 = .ok (.iconst 0, 1) := by decide +kernel
theorem dX5_name_2 : decode cX5_name 2 = .ok (.putfield 1, 3) := by decide +kernel
theorem dX5_name_5 : decode cX5_name 5 = .ok (.aload_n 0, 1) := by decide +kernel
theorem dX5_name_6 : decode cX5_name 6 = .ok (.iload_n 1, 1) := by decide +kernel
theorem dX5_name_7 : decode cX5_name 7 = .ok (.invokevirtual 81, 3) := by decide +kernel
theorem dX5_name_10 : decode cX5_name 10 = .ok (.ifCond .ne 6, 3) := by decide +kernel
theorem dX5_name_13 : decode cX5_name 13 = .ok (.bipush (-2), 2) := by decide +kernel
theorem dX5_name_15 : decode cX5_name 15 = .ok (.ireturn, 1) := by decide +kernel
theorem dX5_name_16 : decode cX5_name 16 = .ok (.iload 4, 2) := by decide +kernel
theorem dX5_name_18 : decode cX5_name 18 = .ok (.i2l, 1) := by decide +kernel
theorem dX5_name_19 : decode cX5_name 19 = .ok (.lconst 1, 1) := by decide +kernel
theorem dX5_name_20 : decode cX5_name 20 = .ok (.ldc2_w 60, 3) := by decide +kernel
theorem dX5_name_23 : decode cX5_name 23 = .ok (.invokestatic 13, 3) := by decide +kernel
theorem dX5_name_26 : decode cX5_name 26 = .ok (.ifCond .eq 34, 3) := by decide +kernel
theorem dX5_name_29 : decode cX5_name 29 = .ok (.lload_n 2, 1) := by decide +kernel
theorem dX5_name_30 : decode cX5_name 30 = .ok (.iload 4, 2) := by decide +kernel
theorem dX5_name_32 : decode cX5_name 32 = .ok (.invokestatic 62, 3) := by decide +kernel
theorem dX5_name_35 : decode cX5_name 35 = .ok (.ifCond .ne 25, 3) := by decide +kernel
theorem dX5_name_38 : decode cX5_name 38 = .ok (.aload_n 0, 1) := by decide +kernel
theorem dX5_name_39 : decode cX5_name 39 = .ok (.getfield 72, 3) := by decide +kernel
theorem dX5_name_42 : decode cX5_name 42 = .ok (.iload_n 1, 1) := by decide +kernel
theorem dX5_name_43 : decode cX5_name 43 = .ok (.iaload, 1) := by decide +kernel
theorem dX5_name_44 : decode cX5_name 44 = .ok (.iconst 2, 1) := by decide +kernel
theorem dX5_name_45 : decode cX5_name 45 = .ok (.if_icmp .eq 18, 3) := by decide +kernel
theorem dX5_name_48 : decode cX5_name 48 = .ok (.lload_n 2, 1) := by decide +kernel
theorem dX5_name_49 : decode cX5_name 49 = .ok (.ldc2_w 17, 3) := by decide +kernel
theorem dX5_name_52 : decode cX5_name 52 = .ok (.land, 1) := by decide +kernel
theorem dX5_name_53 : decode cX5_name 53 = .ok (.ldc2_w 66, 3) := by decide +kernel
theorem dX5_name_56 : decode cX5_name 56 = .ok (.lcmp, 1) := by decide +kernel
theorem dX5_name_57 : decode cX5_name 57 = .ok (.ifCond .ne 6, 3) := by decide +kernel
theorem dX5_name_60 : decode cX5_name 60 = .ok (.bipush (-3), 2) := by decide +kernel
theorem dX5_name_62 : decode cX5_name 62 = .ok (.ireturn, 1) := by decide +kernel
theorem dX5_name_63 : decode cX5_name 63 = .ok (.aload_n 0, 1) := by decide +kernel
theorem dX5_name_64 : decode cX5_name 64 = .ok (.getfield 23, 3) := by decide +kernel
theorem dX5_name_67 : decode cX5_name 67 = .ok (.iload_n 1, 1) := by decide +kernel
theorem dX5_name_68 : decode cX5_name 68 = .ok (.iaload, 1) := by decide +kernel
theorem dX5_name_69 : decode cX5_name 69 = .ok (.iload 4, 2) := by decide +kernel
theorem dX5_name_71 : decode cX5_name 71 = .ok (.iadd, 1) := by decide +kernel
theorem dX5_name_72 : decode cX5_name 72 = .ok (.bipush 16, 2) := by decide +kernel
theorem dX5_name_74 : decode cX5_name 74 = .ok (.if_icmp .le 6, 3) := by decide +kernel
theorem dX5_name_77 : decode cX5_name 77 = .ok (.bipush (-5), 2) := by decide +kernel
theorem dX5_name_79 : decode cX5_name 79 = .ok (.ireturn, 1) := by decide +kernel
theorem dX5_name_80 : decode cX5_name 80 = .ok (.aload_n 0, 1) := by decide +kernel
theorem dX5_name_81 : decode cX5_name 81 = .ok (.getfield 23, 3) := by decide +kernel
theorem dX5_name_84 : decode cX5_name 84 = .ok (.iload_n 1, 1) := by decide +kernel
theorem dX5_name_85 : decode cX5_name 85 = .ok (.iaload, 1) := by decide +kernel
theorem dX5_name_86 : decode cX5_name 86 = .ok (.aload_n 0, 1) := by decide +kernel
theorem dX5_name_87 : decode cX5_name 87 = .ok (.getfield 72, 3) := by decide +kernel
theorem dX5_name_90 : decode cX5_name 90 = .ok (.iload_n 1, 1) := by decide +kernel
theorem dX5_name_91 : decode cX5_name 91 = .ok (.iaload, 1) := by decide +kernel
theorem dX5_name_92 : decode cX5_name 92 = .ok (.iconst 2, 1) := by decide +kernel
theorem dX5_name_93 : decode cX5_name 93 = .ok (.if_icmp .ne 7, 3) := by decide +kernel
theorem dX5_name_96 : decode cX5_name 96 = .ok (.iconst 1, 1) := by decide +kernel
theorem dX5_name_97 : decode cX5_name 97 = .ok (.goto 4, 3) := by decide +kernel
theorem dX5_name_100 : decode cX5_name 100 = .ok (.iconst 0, 1) := by decide +kernel
theorem dX5_name_101 : decode cX5_name 101 = .ok (.isub, 1) := by decide +kernel
theorem dX5_name_102 : decode cX5_name 102 = .ok (.istore 5, 2) := by decide +kernel
theorem dX5_name_104 : decode cX5_name 104 = .ok (.iconst 0, 1) := by decide +kernel
theorem dX5_name_105 : decode cX5_name 105 = .ok (.istore 6, 2) := by decide +kernel
theorem dX5_name_107 : decode cX5_name 107 = .ok (.iload 6, 2) := by decide +kernel
theorem dX5_name_109 : decode cX5_name 109 = .ok (.iload 4, 2) := by decide +kernel
theorem dX5_name_111 : decode cX5_name 111 = .ok (.if_icmp .ge 32, 3) := by decide +kernel
theorem dX5_name_114 : decode cX5_name 114 = .ok (.aload_n 0, 1) := by decide +kernel
theorem dX5_name_115 : decode cX5_name 115 = .ok (.getfield 78, 3) := by decide +kernel
theorem dX5_name_118 : decode cX5_name 118 = .ok (.bipush 16, 2) := by decide +kernel
theorem dX5_name_120 : decode cX5_name 120 = .ok (.iload_n 1, 1) := by decide +kernel
theorem dX5_name_121 : decode cX5_name 121 = .ok (.imul, 1) := by decide +kernel
theorem dX5_name_122 : decode cX5_name 122 = .ok (.iload 5, 2) := by decide +kernel
theorem dX5_name_124 : decode cX5_name 124 = .ok (.iadd, 1) := by decide +kernel
theorem dX5_name_125 : decode cX5_name 125 = .ok (.iload 6, 2) := by decide +kernel
theorem dX5_name_127 : decode cX5_name 127 = .ok (.iadd, 1) := by decide +kernel
theorem dX5_name_128 : decode cX5_name 128 = .ok (.lload_n 2, 1) := by decide +kernel
theorem dX5_name_129 : decode cX5_name 129 = .ok (.iload 4, 2) := by decide +kernel
theorem dX5_name_131 : decode cX5_name 131 = .ok (.iload 6, 2) := by decide +kernel
theorem dX5_name_133 : decode cX5_name 133 = .ok (.invokestatic 19, 3) := by decide +kernel
theorem dX5_name_136 : decode cX5_name 136 = .ok (.iastore, 1) := by decide +kernel
theorem dX5_name_137 : decode cX5_name 137 = .ok (.iinc 6 1, 3) := by decide +kernel
theorem dX5_name_140 : decode cX5_name 140 = .ok (.goto (-33), 3) := by decide +kernel
theorem dX5_name_143 : decode cX5_name 143 = .ok (.aload_n 0, 1) := by decide +kernel
theorem dX5_name_144 : decode cX5_name 144 = .ok (.getfield 23, 3) := by decide +kernel
theorem dX5_name_147 : decode cX5_name 147 = .ok (.iload_n 1, 1) := by decide +kernel
theorem dX5_name_148 : decode cX5_name 148 = .ok (.dup2, 1) := by decide +kernel
theorem dX5_name_149 : decode cX5_name 149 = .ok (.iaload, 1) := by decide +kernel
theorem dX5_name_150 : decode cX5_name 150 = .ok (.iload 4, 2) := by decide +kernel
theorem dX5_name_152 : decode cX5_name 152 = .ok (.iadd, 1) := by decide +kernel
theorem dX5_name_153 : decode cX5_name 153 = .ok (.iastore, 1) := by decide +kernel
theorem dX5_name_154 : decode cX5_name 154 = .ok (.aload_n 0, 1) := by decide +kernel
theorem dX5_name_155 : decode cX5_name 155 = .ok (.getfield 72, 3) := by decide +kernel
theorem dX5_name_158 : decode cX5_name 158 = .ok (.iload_n 1, 1) := by decide +kernel
theorem dX5_name_159 : decode cX5_name 159 = .ok (.iaload, 1) := by decide +kernel
theorem dX5_name_160 : decode cX5_name 160 = .ok (.iconst 2, 1) := by decide +kernel
theorem dX5_name_161 : decode cX5_name 161 = .ok (.if_icmp .ne 23, 3) := by decide +kernel
theorem dX5_name_164 : decode cX5_name 164 = .ok (.aload_n 0, 1) := by decide +kernel
theorem dX5_name_165 : decode cX5_name 165 = .ok (.getfield 78, 3) := by decide +kernel
theorem dX5_name_168 : decode cX5_name 168 = .ok (.bipush 16, 2) := by decide +kernel
theorem dX5_name_170 : decode cX5_name 170 = .ok (.iload_n 1, 1) := by decide +kernel
theorem dX5_name_171 : decode cX5_name 171 = .ok (.imul, 1) := by decide +kernel
theorem dX5_name_172 : decode cX5_name 172 = .ok (.aload_n 0, 1) := by decide +kernel
theorem dX5_name_173 : decode cX5_name 173 = .ok (.getfield 23, 3) := by decide +kernel
theorem dX5_name_176 : decode cX5_name 176 = .ok (.iload_n 1, 1) := by decide +kernel
theorem dX5_name_177 : decode cX5_name 177 = .ok (.iaload, 1) := by decide +kernel
theorem dX5_name_178 : decode cX5_name 178 = .ok (.iadd, 1) := by decide +kernel
theorem dX5_name_179 : decode cX5_name 179 = .ok (.iconst 1, 1) := by decide +kernel
theorem dX5_name_180 : decode cX5_name 180 = .ok (.isub, 1) := by decide +kernel
theorem dX5_name_181 : decode cX5_name 181 = .ok (.bipush 47, 2) := by decide +kernel
theorem dX5_name_183 : decode cX5_name 183 = .ok (.iastore, 1) := by decide +kernel
theorem dX5_name_184 : decode cX5_name 184 = .ok (.aload_n 0, 1) := by decide +kernel
theorem dX5_name_185 : decode cX5_name 185 = .ok (.getfield 23, 3) := by decide +kernel
theorem dX5_name_188 : decode cX5_name 188 = .ok (.iload_n 1, 1) := by decide +kernel
theorem dX5_name_189 : decode cX5_name 189 = .ok (.iaload, 1) := by decide +kernel
theorem dX5_name_190 : decode cX5_name 190 = .ok (.ireturn, 1) := by decide +kernel
theorem dX5_data_0 : decode cX5_data 0 = .ok (.aload_n 0, 1) := by decide +kernel
theorem dX5_data_1 : decode cX5_data 1 = .ok (.iconst 0, 1) := by decide +kernel
theorem dX5_data_2 : decode cX5_data 2 = .ok (.putfield 1, 3) := by decide +kernel
theorem dX5_data_5 : decode cX5_data 5 = .ok (.aload_n 0, 1) := by decide +kernel
theorem dX5_data_6 : decode cX5_data 6 = .ok (.iload_n 1, 1) := by decide +kernel
theorem dX5_data_7 : decode cX5_data 7 = .ok (.invokevirtual 81, 3) := by decide +kernel
theorem dX5_data_10 : decode cX5_data 10 = .ok (.ifCond .ne 6, 3) := by decide +kernel
theorem dX5_data_13 : decode cX5_data 13 = .ok (.bipush (-2), 2) := by decide +kernel
theorem dX5_data_15 : decode cX5_data 15 = .ok (.ireturn, 1) := by decide +kernel
theorem dX5_data_16 : decode cX5_data 16 = .ok (.iload 4, 2) := by decide +kernel
theorem dX5_data_18 : decode cX5_data 18 = .ok (.i2l, 1) := by decide +kernel
theorem dX5_data_19 : decode cX5_data 19 = .ok (.lconst 0, 1) := by decide +kernel
theorem dX5_data_20 : decode cX5_data 20 = .ok (.ldc2_w 60, 3) := by decide +kernel
theorem dX5_data_23 : decode cX5_data 23 = .ok (.invokestatic 13, 3) := by decide +kernel
theorem dX5_data_26 : decode cX5_data 26 = .ok (.ifCond .ne 6, 3) := by decide +kernel
theorem dX5_data_29 : decode cX5_data 29 = .ok (.bipush (-3), 2) := by decide +kernel
theorem dX5_data_31 : decode cX5_data 31 = .ok (.ireturn, 1) := by decide +kernel
theorem dX5_data_32 : decode cX5_data 32 = .ok (.aload_n 0, 1) := by decide +kernel
theorem dX5_data_33 : decode cX5_data 33 = .ok (.getfield 43, 3) := by decide +kernel
theorem dX5_data_36 : decode cX5_data 36 = .ok (.iload_n 1, 1) := by decide +kernel
theorem dX5_data_37 : decode cX5_data 37 = .ok (.iaload, 1) := by decide +kernel
theorem dX5_data_38 : decode cX5_data 38 = .ok (.iload 4, 2) := by decide +kernel
theorem dX5_data_40 : decode cX5_data 40 = .ok (.iadd, 1) := by decide +kernel
theorem dX5_data_41 : decode cX5_data 41 = .ok (.bipush 40, 2) := by decide +kernel
theorem dX5_data_43 : decode cX5_data 43 = .ok (.if_icmp .le 6, 3) := by decide +kernel
theorem dX5_data_46 : decode cX5_data 46 = .ok (.bipush (-5), 2) := by decide +kernel
theorem dX5_data_48 : decode cX5_data 48 = .ok (.ireturn, 1) := by decide +kernel
theorem dX5_data_49 : decode cX5_data 49 = .ok (.aload_n 0, 1) := by decide +kernel
theorem dX5_data_50 : decode cX5_data 50 = .ok (.getfield 72, 3) := by decide +kernel
theorem dX5_data_53 : decode cX5_data 53 = .ok (.iload_n 1, 1) := by decide +kernel
theorem dX5_data_54 : decode cX5_data 54 = .ok (.iaload, 1) := by decide +kernel
theorem dX5_data_55 : decode cX5_data 55 = .ok (.iconst 2, 1) := by decide +kernel
theorem dX5_data_56 : decode cX5_data 56 = .ok (.if_icmp .ne 9, 3) := by decide +kernel
theorem dX5_data_59 : decode cX5_data 59 = .ok (.aload_n 0, 1) := by decide +kernel
theorem dX5_data_60 : decode cX5_data 60 = .ok (.iconst 2, 1) := by decide +kernel
theorem dX5_data_61 : decode cX5_data 61 = .ok (.invokevirtual 85, 3) := by decide +kernel
theorem dX5_data_64 : decode cX5_data 64 = .ok (.ireturn, 1) := by decide +kernel
theorem dX5_data_65 : decode cX5_data 65 = .ok (.aload_n 0, 1) := by decide +kernel
theorem dX5_data_66 : decode cX5_data 66 = .ok (.getfield 39, 3) := by decide +kernel
theorem dX5_data_69 : decode cX5_data 69 = .ok (.iload_n 1, 1) := by decide +kernel
theorem dX5_data_70 : decode cX5_data 70 = .ok (.iconst 1, 1) := by decide +kernel
theorem dX5_data_71 : decode cX5_data 71 = .ok (.bastore, 1) := by decide +kernel
theorem dX5_data_72 : decode cX5_data 72 = .ok (.aload_n 0, 1) := by decide +kernel
theorem dX5_data_73 : decode cX5_data 73 = .ok (.getfield 52, 3) := by decide +kernel
theorem dX5_data_76 : decode cX5_data 76 = .ok (.iload_n 1, 1) := by decide +kernel
theorem dX5_data_77 : decode cX5_data 77 = .ok (.iconst 0, 1) := by decide +kernel
theorem dX5_data_78 : decode cX5_data 78 = .ok (.bastore, 1) := by decide +kernel
theorem dX5_data_79 : decode cX5_data 79 = .ok (.iconst 0, 1) := by decide +kernel
theorem dX5_data_80 : decode cX5_data 80 = .ok (.istore 5, 2) := by decide +kernel
theorem dX5_data_82 : decode cX5_data 82 = .ok (.iload 5, 2) := by decide +kernel
theorem dX5_data_84 : decode cX5_data 84 = .ok (.iload 4, 2) := by decide +kernel
theorem dX5_data_86 : decode cX5_data 86 = .ok (.if_icmp .ge 36, 3) := by decide +kernel
theorem dX5_data_89 : decode cX5_data 89 = .ok (.aload_n 0, 1) := by decide +kernel
theorem dX5_data_90 : decode cX5_data 90 = .ok (.getfield 89, 3) := by decide +kernel
theorem dX5_data_93 : decode cX5_data 93 = .ok (.bipush 40, 2) := by decide +kernel
theorem dX5_data_95 : decode cX5_data 95 = .ok (.iload_n 1, 1) := by decide +kernel
theorem dX5_data_96 : decode cX5_data 96 = .ok (.imul, 1) := by decide +kernel
theorem dX5_data_97 : decode cX5_data 97 = .ok (.aload_n 0, 1) := by decide +kernel
theorem dX5_data_98 : decode cX5_data 98 = .ok (.getfield 43, 3) := by decide +kernel
theorem dX5_data_101 : decode cX5_data 101 = .ok (.iload_n 1, 1) := by decide +kernel
theorem dX5_data_102 : decode cX5_data 102 = .ok (.iaload, 1) := by decide +kernel
theorem dX5_data_103 : decode cX5_data 103 = .ok (.iadd, 1) := by decide +kernel
theorem dX5_data_104 : decode cX5_data 104 = .ok (.iload 5, 2) := by decide +kernel
theorem dX5_data_106 : decode cX5_data 106 = .ok (.iadd, 1) := by decide +kernel
theorem dX5_data_107 : decode cX5_data 107 = .ok (.lload_n 2, 1) := by decide +kernel
theorem dX5_data_108 : decode cX5_data 108 = .ok (.iload 4, 2) := by decide +kernel
theorem dX5_data_110 : decode cX5_data 110 = .ok (.iload 5, 2) := by decide +kernel
theorem dX5_data_112 : decode cX5_data 112 = .ok (.invokestatic 19, 3) := by decide +kernel
theorem dX5_data_115 : decode cX5_data 115 = .ok (.iastore, 1) := by decide +kernel
theorem dX5_data_116 : decode cX5_data 116 = .ok (.iinc 5 1, 3) := by decide +kernel
theorem dX5_data_119 : decode cX5_data 119 = .ok (.goto (-37), 3) := by decide +kernel
theorem dX5_data_122 : decode cX5_data 122 = .ok (.aload_n 0, 1) := by decide +kernel
theorem dX5_data_123 : decode cX5_data 123 = .ok (.getfield 43, 3) := by decide +kernel
theorem dX5_data_126 : decode cX5_data 126 = .ok (.iload_n 1, 1) := by decide +kernel
theorem dX5_data_127 : decode cX5_data 127 = .ok (.dup2, 1) := by decide +kernel
theorem dX5_data_128 : decode cX5_data 128 = .ok (.iaload, 1) := by decide +kernel
theorem dX5_data_129 : decode cX5_data 129 = .ok (.iload 4, 2) := by decide +kernel
theorem dX5_data_131 : decode cX5_data 131 = .ok (.iadd, 1) := by decide +kernel
theorem dX5_data_132 : decode cX5_data 132 = .ok (.iastore, 1) := by decide +kernel
theorem dX5_data_133 : decode cX5_data 133 = .ok (.aload_n 0, 1) := by decide +kernel
theorem dX5_data_134 : decode cX5_data 134 = .ok (.getfield 43, 3) := by decide +kernel
theorem dX5_data_137 : decode cX5_data 137 = .ok (.iload_n 1, 1) := by decide +kernel
theorem dX5_data_138 : decode cX5_data 138 = .ok (.iaload, 1) := by decide +kernel
theorem dX5_data_139 : decode cX5_data 139 = .ok (.ireturn, 1) := by decide +kernel
theorem dX5_packed_0 : decode cX5_packed 0 = .ok (.aload_n 0, 1) := by decide +kernel
theorem dX5_packed_1 : decode cX5_packed 1 = .ok (.iconst 0, 1) := by decide +kernel
theorem dX5_packed_2 : decode cX5_packed 2 = .ok (.putfield 1, 3) := by decide +kernel
theorem dX5_packed_5 : decode cX5_packed 5 = .ok (.aload_n 0, 1) := by decide +kernel
theorem dX5_packed_6 : decode cX5_packed 6 = .ok (.iload_n 1, 1) := by decide +kernel
theorem dX5_packed_7 : decode cX5_packed 7 = .ok (.invokevirtual 81, 3) := by decide +kernel
theorem dX5_packed_10 : decode cX5_packed 10 = .ok (.ifCond .ne 6, 3) := by decide +kernel
theorem dX5_packed_13 : decode cX5_packed 13 = .ok (.bipush (-2), 2) := by decide +kernel
theorem dX5_packed_15 : decode cX5_packed 15 = .ok (.ireturn, 1) := by decide +kernel
theorem dX5_packed_16 : decode cX5_packed 16 = .ok (.iload_n 2, 1) := by decide +kernel
theorem dX5_packed_17 : decode cX5_packed 17 = .ok (.i2l, 1) := by decide +kernel
theorem dX5_packed_18 : decode cX5_packed 18 = .ok (.lconst 0, 1) := by decide +kernel
theorem dX5_packed_19 : decode cX5_packed 19 = .ok (.ldc2_w 92, 3) := by decide +kernel
theorem dX5_packed_22 : decode cX5_packed 22 = .ok (.invokestatic 13, 3) := by decide +kernel
theorem dX5_packed_25 : decode cX5_packed 25 = .ok (.ifCond .ne 6, 3) := by decide +kernel
theorem dX5_packed_28 : decode cX5_packed 28 = .ok (.bipush (-3), 2) := by decide +kernel
theorem dX5_packed_30 : decode cX5_packed 30 = .ok (.ireturn, 1) := by decide +kernel
theorem dX5_packed_31 : decode cX5_packed 31 = .ok (.aload_n 0, 1) := by decide +kernel
theorem dX5_packed_32 : decode cX5_packed 32 = .ok (.getfield 72, 3) := by decide +kernel
theorem dX5_packed_35 : decode cX5_packed 35 = .ok (.iload_n 1, 1) := by decide +kernel
theorem dX5_packed_36 : decode cX5_packed 36 = .ok (.iaload, 1) := by decide +kernel
theorem dX5_packed_37 : decode cX5_packed 37 = .ok (.iconst 1, 1) := by decide +kernel
theorem dX5_packed_38 : decode cX5_packed 38 = .ok (.if_icmp .eq 9, 3) := by decide +kernel
theorem dX5_packed_41 : decode cX5_packed 41 = .ok (.aload_n 0, 1) := by decide +kernel
theorem dX5_packed_42 : decode cX5_packed 42 = .ok (.iconst 2, 1) := by decide +kernel
theorem dX5_packed_43 : decode cX5_packed 43 = .ok (.invokevirtual 85, 3) := by decide +kernel
theorem dX5_packed_46 : decode cX5_packed 46 = .ok (.ireturn, 1) := by decide +kernel
theorem dX5_packed_47 : decode cX5_packed 47 = .ok (.aload_n 0, 1) := by decide +kernel
theorem dX5_packed_48 : decode cX5_packed 48 = .ok (.getfield 46, 3) := by decide +kernel
theorem dX5_packed_51 : decode cX5_packed 51 = .ok (.iload_n 1, 1) := by decide +kernel
theorem dX5_packed_52 : decode cX5_packed 52 = .ok (.iload_n 2, 1) := by decide +kernel
theorem dX5_packed_53 : decode cX5_packed 53 = .ok (.iastore, 1) := by decide +kernel
theorem dX5_packed_54 : decode cX5_packed 54 = .ok (.aload_n 0, 1) := by decide +kernel
theorem dX5_packed_55 : decode cX5_packed 55 = .ok (.getfield 49, 3) := by decide +kernel
theorem dX5_packed_58 : decode cX5_packed 58 = .ok (.iload_n 1, 1) := by decide +kernel
theorem dX5_packed_59 : decode cX5_packed 59 = .ok (.iload_n 3, 1) := by decide +kernel
theorem dX5_packed_60 : decode cX5_packed 60 = .ok (.iastore, 1) := by decide +kernel
theorem dX5_packed_61 : decode cX5_packed 61 = .ok (.iconst 1, 1) := by decide +kernel
theorem dX5_packed_62 : decode cX5_packed 62 = .ok (.ireturn, 1) := by decide +kernel
theorem dX5_part_0 : decode cX5_part 0 = .ok (.aload_n 0, 1) := by decide +kernel
theorem dX5_part_1 : decode cX5_part 1 = .ok (.iconst 0, 1) := by decide +kernel
theorem dX5_part_2 : decode cX5_part 2 = .ok (.putfield 1, 3) := by decide +kernel
theorem dX5_part_5 : decode cX5_part 5 = .ok (.aload_n 0, 1) := by decide +kernel
theorem dX5_part_6 : decode cX5_part 6 = .ok (.iload_n 1, 1) := by decide +kernel
theorem dX5_part_7 : decode cX5_part 7 = .ok (.invokevirtual 81, 3) := by decide +kernel
theorem dX5_part_10 : decode cX5_part 10 = .ok (.ifCond .ne 6, 3) := by decide +kernel
theorem dX5_part_13 : decode cX5_part 13 = .ok (.bipush (-2), 2) := by decide +kernel
theorem dX5_part_15 : decode cX5_part 15 = .ok (.ireturn, 1) := by decide +kernel
theorem dX5_part_16 : decode cX5_part 16 = .ok (.iload_n 2, 1) := by decide +kernel
theorem dX5_part_17 : decode cX5_part 17 = .ok (.i2l, 1) := by decide +kernel
theorem dX5_part_18 : decode cX5_part 18 = .ok (.ldc2_w 58, 3) := by decide +kernel
theorem dX5_part_21 : decode cX5_part 21 = .ok (.ldc2_w 94, 3) := by decide +kernel
theorem dX5_part_24 : decode cX5_part 24 = .ok (.invokestatic 13, 3) := by decide +kernel
theorem dX5_part_27 : decode cX5_part 27 = .ok (.ifCond .eq 16, 3) := by decide +kernel
theorem dX5_part_30 : decode cX5_part 30 = .ok (.iload 5, 2) := by decide +kernel
theorem dX5_part_32 : decode cX5_part 32 = .ok (.i2l, 1) := by decide +kernel
theorem dX5_part_33 : decode cX5_part 33 = .ok (.lconst 0, 1) := by decide +kernel
theorem dX5_part_34 : decode cX5_part 34 = .ok (.ldc2_w 60, 3) := by decide +kernel
theorem dX5_part_37 : decode cX5_part 37 = .ok (.invokestatic 13, 3) := by decide +kernel
theorem dX5_part_40 : decode cX5_part 40 = .ok (.ifCond .ne 6, 3) := by decide +kernel
theorem dX5_part_43 : decode cX5_part 43 = .ok (.bipush (-3), 2) := by decide +kernel
theorem dX5_part_45 : decode cX5_part 45 = .ok (.ireturn, 1) := by decide +kernel
theorem dX5_part_46 : decode cX5_part 46 = .ok (.aload_n 0, 1) := by decide +kernel
theorem dX5_part_47 : decode cX5_part 47 = .ok (.getfield 36, 3) := by decide +kernel
theorem dX5_part_50 : decode cX5_part 50 = .ok (.iload_n 1, 1) := by decide +kernel
theorem dX5_part_51 : decode cX5_part 51 = .ok (.iaload, 1) := by decide +kernel
theorem dX5_part_52 : decode cX5_part 52 = .ok (.iconst 3, 1) := by decide +kernel
theorem dX5_part_53 : decode cX5_part 53 = .ok (.if_icmp .ne 6, 3) := by decide +kernel
theorem dX5_part_56 : decode cX5_part 56 = .ok (.bipush (-5), 2) := by decide +kernel
theorem dX5_part_58 : decode cX5_part 58 = .ok (.ireturn, 1) := by decide +kernel
theorem dX5_part_59 : decode cX5_part 59 = .ok (.iconst 3, 1) := by decide +kernel
theorem dX5_part_60 : decode cX5_part 60 = .ok (.iload_n 1, 1) := by decide +kernel
theorem dX5_part_61 : decode cX5_part 61 = .ok (.imul, 1) := by decide +kernel
theorem dX5_part_62 : decode cX5_part 62 = .ok (.aload_n 0, 1) := by decide +kernel
theorem dX5_part_63 : decode cX5_part 63 = .ok (.getfield 36, 3) := by decide +kernel
theorem dX5_part_66 : decode cX5_part 66 = .ok (.iload_n 1, 1) := by decide +kernel
theorem dX5_part_67 : decode cX5_part 67 = .ok (.iaload, 1) := by decide +kernel
theorem dX5_part_68 : decode cX5_part 68 = .ok (.iadd, 1) := by decide +kernel
theorem dX5_part_69 : decode cX5_part 69 = .ok (.istore 6, 2) := by decide +kernel
theorem dX5_part_71 : decode cX5_part 71 = .ok (.aload_n 0, 1) := by decide +kernel
theorem dX5_part_72 : decode cX5_part 72 = .ok (.getfield 96, 3) := by decide +kernel
theorem dX5_part_75 : decode cX5_part 75 = .ok (.iload 6, 2) := by decide +kernel
theorem dX5_part_77 : decode cX5_part 77 = .ok (.iload_n 2, 1) := by decide +kernel
theorem dX5_part_78 : decode cX5_part 78 = .ok (.iastore, 1) := by decide +kernel
theorem dX5_part_79 : decode cX5_part 79 = .ok (.aload_n 0, 1) := by decide +kernel
theorem dX5_part_80 : decode cX5_part 80 = .ok (.getfield 99, 3) := by decide +kernel
theorem dX5_part_83 : decode cX5_part 83 = .ok (.iload 6, 2) := by decide +kernel
theorem dX5_part_85 : decode cX5_part 85 = .ok (.iload 5, 2) := by decide +kernel
theorem dX5_part_87 : decode cX5_part 87 = .ok (.iastore, 1) := by decide +kernel
theorem dX5_part_88 : decode cX5_part 88 = .ok (.iconst 0, 1) := by decide +kernel
theorem dX5_part_89 : decode cX5_part 89 = .ok (.istore 7, 2) := by decide +kernel
theorem dX5_part_91 : decode cX5_part 91 = .ok (.iload 7, 2) := by decide +kernel
theorem dX5_part_93 : decode cX5_part 93 = .ok (.iload 5, 2) := by decide +kernel
theorem dX5_part_95 : decode cX5_part 95 = .ok (.if_icmp .ge 30, 3) := by decide +kernel
theorem dX5_part_98 : decode cX5_part 98 = .ok (.aload_n 0, 1) := by decide +kernel
theorem dX5_part_99 : decode cX5_part 99 = .ok (.getfield 102, 3) := by decide +kernel
theorem dX5_part_102 : decode cX5_part 102 = .ok (.bipush 8, 2) := by decide +kernel
theorem dX5_part_104 : decode cX5_part 104 = .ok (.iload 6, 2) := by decide +kernel
theorem dX5_part_106 : decode cX5_part 106 = .ok (.imul, 1) := by decide +kernel
theorem dX5_part_107 : decode cX5_part 107 = .ok (.iload 7, 2) := by decide +kernel
theorem dX5_part_109 : decode cX5_part 109 = .ok (.iadd, 1) := by decide +kernel
theorem dX5_part_110 : decode cX5_part 110 = .ok (.lload_n 3, 1) := by decide +kernel
theorem dX5_part_111 : decode cX5_part 111 = .ok (.iload 5, 2) := by decide +kernel
theorem dX5_part_113 : decode cX5_part 113 = .ok (.iload 7, 2) := by decide +kernel
theorem dX5_part_115 : decode cX5_part 115 = .ok (.invokestatic 19, 3) := by decide +kernel
theorem dX5_part_118 : decode cX5_part 118 = .ok (.iastore, 1) := by decide +kernel
theorem dX5_part_119 : decode cX5_part 119 = .ok (.iinc 7 1, 3) := by decide +kernel
theorem dX5_part_122 : decode cX5_part 122 = .ok (.goto (-31), 3) := by decide +kernel
theorem dX5_part_125 : decode cX5_part 125 = .ok (.aload_n 0, 1) := by decide +kernel
theorem dX5_part_126 : decode cX5_part 126 = .ok (.getfield 36, 3) := by decide +kernel
theorem dX5_part_129 : decode cX5_part 129 = .ok (.iload_n 1, 1) := by decide +kernel
theorem dX5_part_130 : decode cX5_part 130 = .ok (.dup2, 1) := by decide +kernel
theorem dX5_part_131 : decode cX5_part 131 = .ok (.iaload, 1) := by decide +kernel
theorem dX5_part_132 : decode cX5_part 132 = .ok (.iconst 1, 1) := by decide +kernel
theorem dX5_part_133 : decode cX5_part 133 = .ok (.iadd, 1) := by decide +kernel
theorem dX5_part_134 : decode cX5_part 134 = .ok (.iastore, 1) := by decide +kernel
theorem dX5_part_135 : decode cX5_part 135 = .ok (.aload_n 0, 1) := by decide +kernel
theorem dX5_part_136 : decode cX5_part 136 = .ok (.getfield 36, 3) := by decide +kernel
theorem dX5_part_139 : decode cX5_part 139 = .ok (.iload_n 1, 1) := by decide +kernel
theorem dX5_part_140 : decode cX5_part 140 = .ok (.iaload, 1) := by decide +kernel
theorem dX5_part_141 : decode cX5_part 141 = .ok (.ireturn, 1) := by decide +kernel
theorem dX5_stamp_0 : decode cX5_stamp 0 = .ok (.aload_n 0, 1) := by decide +kernel
theorem dX5_stamp_1 : decode cX5_stamp 1 = .ok (.iconst 0, 1) := by decide +kernel
theorem dX5_stamp_2 : decode cX5_stamp 2 = .ok (.putfield 1, 3) := by decide +kernel
theorem dX5_stamp_5 : decode cX5_stamp 5 = .ok (.aload_n 0, 1) := by decide +kernel
theorem dX5_stamp_6 : decode cX5_stamp 6 = .ok (.iload_n 1, 1) := by decide +kernel
theorem dX5_stamp_7 : decode cX5_stamp 7 = .ok (.invokevirtual 81, 3) := by decide +kernel
theorem dX5_stamp_10 : decode cX5_stamp 10 = .ok (.ifCond .ne 6, 3) := by decide +kernel
theorem dX5_stamp_13 : decode cX5_stamp 13 = .ok (.bipush (-2), 2) := by decide +kernel
theorem dX5_stamp_15 : decode cX5_stamp 15 = .ok (.ireturn, 1) := by decide +kernel
theorem dX5_stamp_16 : decode cX5_stamp 16 = .ok (.iload_n 2, 1) := by decide +kernel
theorem dX5_stamp_17 : decode cX5_stamp 17 = .ok (.i2l, 1) := by decide +kernel
theorem dX5_stamp_18 : decode cX5_stamp 18 = .ok (.ldc2_w 105, 3) := by decide +kernel
theorem dX5_stamp_21 : decode cX5_stamp 21 = .ok (.ldc2_w 107, 3) := by decide +kernel
theorem dX5_stamp_24 : decode cX5_stamp 24 = .ok (.invokestatic 13, 3) := by decide +kernel
theorem dX5_stamp_27 : decode cX5_stamp 27 = .ok (.ifCond .eq 41, 3) := by decide +kernel
theorem dX5_stamp_30 : decode cX5_stamp 30 = .ok (.iload_n 3, 1) := by decide +kernel
theorem dX5_stamp_31 : decode cX5_stamp 31 = .ok (.i2l, 1) := by decide +kernel
theorem dX5_stamp_32 : decode cX5_stamp 32 = .ok (.lconst 1, 1) := by decide +kernel
theorem dX5_stamp_33 : decode cX5_stamp 33 = .ok (.ldc2_w 109, 3) := by decide +kernel
theorem dX5_stamp_36 : decode cX5_stamp 36 = .ok (.invokestatic 13, 3) := by decide +kernel
theorem dX5_stamp_39 : decode cX5_stamp 39 = .ok (.ifCond .eq 29, 3) := by decide +kernel
theorem dX5_stamp_42 : decode cX5_stamp 42 = .ok (.iload 4, 2) := by decide +kernel
theorem dX5_stamp_44 : decode cX5_stamp 44 = .ok (.i2l, 1) := by decide +kernel
theorem dX5_stamp_45 : decode cX5_stamp 45 = .ok (.lconst 1, 1) := by decide +kernel
theorem dX5_stamp_46 : decode cX5_stamp 46 = .ok (.ldc2_w 111, 3) := by decide +kernel
theorem dX5_stamp_49 : decode cX5_stamp 49 = .ok (.invokestatic 13, 3) := by decide +kernel
theorem dX5_stamp_52 : decode cX5_stamp 52 = .ok (.ifCond .eq 16, 3) := by decide +kernel
theorem dX5_stamp_55 : decode cX5_stamp 55 = .ok (.iload 5, 2) := by decide +kernel
theorem dX5_stamp_57 : decode cX5_stamp 57 = .ok (.i2l, 1) := by decide +kernel
theorem dX5_stamp_58 : decode cX5_stamp 58 = .ok (.lconst 0, 1) := by decide +kernel
theorem dX5_stamp_59 : decode cX5_stamp 59 = .ok (.ldc2_w 113, 3) := by decide +kernel
theorem dX5_stamp_62 : decode cX5_stamp 62 = .ok (.invokestatic 13, 3) := by decide +kernel
theorem dX5_stamp_65 : decode cX5_stamp 65 = .ok (.ifCond .ne 6, 3) := by decide +kernel
theorem dX5_stamp_68 : decode cX5_stamp 68 = .ok (.bipush (-3), 2) := by decide +kernel
theorem dX5_stamp_70 : decode cX5_stamp 70 = .ok (.ireturn, 1) := by decide +kernel
theorem dX5_stamp_71 : decode cX5_stamp 71 = .ok (.aload_n 0, 1) := by decide +kernel
theorem dX5_stamp_72 : decode cX5_stamp 72 = .ok (.getfield 30, 3) := by decide +kernel
theorem dX5_stamp_75 : decode cX5_stamp 75 = .ok (.iload_n 1, 1) := by decide +kernel
theorem dX5_stamp_76 : decode cX5_stamp 76 = .ok (.sipush 512, 3) := by decide +kernel
theorem dX5_stamp_79 : decode cX5_stamp 79 = .ok (.iload_n 2, 1) := by decide +kernel
theorem dX5_stamp_80 : decode cX5_stamp 80 = .ok (.sipush 1980, 3) := by decide +kernel
theorem dX5_stamp_83 : decode cX5_stamp 83 = .ok (.isub, 1) := by decide +kernel
theorem dX5_stamp_84 : decode cX5_stamp 84 = .ok (.imul, 1) := by decide +kernel
theorem dX5_stamp_85 : decode cX5_stamp 85 = .ok (.bipush 32, 2) := by decide +kernel
theorem dX5_stamp_87 : decode cX5_stamp 87 = .ok (.iload_n 3, 1) := by decide +kernel
theorem dX5_stamp_88 : decode cX5_stamp 88 = .ok (.imul, 1) := by decide +kernel
theorem dX5_stamp_89 : decode cX5_stamp 89 = .ok (.iadd, 1) := by decide +kernel
theorem dX5_stamp_90 : decode cX5_stamp 90 = .ok (.iload 4, 2) := by decide +kernel
theorem dX5_stamp_92 : decode cX5_stamp 92 = .ok (.iadd, 1) := by decide +kernel
theorem dX5_stamp_93 : decode cX5_stamp 93 = .ok (.iastore, 1) := by decide +kernel
theorem dX5_stamp_94 : decode cX5_stamp 94 = .ok (.aload_n 0, 1) := by decide +kernel
theorem dX5_stamp_95 : decode cX5_stamp 95 = .ok (.getfield 27, 3) := by decide +kernel
theorem dX5_stamp_98 : decode cX5_stamp 98 = .ok (.iload_n 1, 1) := by decide +kernel
theorem dX5_stamp_99 : decode cX5_stamp 99 = .ok (.sipush 2048, 3) := by decide +kernel
theorem dX5_stamp_102 : decode cX5_stamp 102 = .ok (.iload 5, 2) := by decide +kernel
theorem dX5_stamp_104 : decode cX5_stamp 104 = .ok (.sipush 3600, 3) := by decide +kernel
theorem dX5_stamp_107 : decode cX5_stamp 107 = .ok (.idiv, 1) := by decide +kernel
theorem dX5_stamp_108 : decode cX5_stamp 108 = .ok (.imul, 1) := by decide +kernel
theorem dX5_stamp_109 : decode cX5_stamp 109 = .ok (.bipush 32, 2) := by decide +kernel
theorem dX5_stamp_111 : decode cX5_stamp 111 = .ok (.iload 5, 2) := by decide +kernel
theorem dX5_stamp_113 : decode cX5_stamp 113 = .ok (.bipush 60, 2) := by decide +kernel
theorem dX5_stamp_115 : decode cX5_stamp 115 = .ok (.idiv, 1) := by decide +kernel
theorem dX5_stamp_116 : decode cX5_stamp 116 = .ok (.bipush 60, 2) := by decide +kernel
theorem dX5_stamp_118 : decode cX5_stamp 118 = .ok (.irem, 1) := by decide +kernel
theorem dX5_stamp_119 : decode cX5_stamp 119 = .ok (.imul, 1) := by decide +kernel
theorem dX5_stamp_120 : decode cX5_stamp 120 = .ok (.iadd, 1) := by decide +kernel
theorem dX5_stamp_121 : decode cX5_stamp 121 = .ok (.iload 5, 2) := by decide +kernel
theorem dX5_stamp_123 : decode cX5_stamp 123 = .ok (.bipush 60, 2) := by decide +kernel
theorem dX5_stamp_125 : decode cX5_stamp 125 = .ok (.irem, 1) := by decide +kernel
theorem dX5_stamp_126 : decode cX5_stamp 126 = .ok (.iconst 2, 1) := by decide +kernel
theorem dX5_stamp_127 : decode cX5_stamp 127 = .ok (.idiv, 1) := by decide +kernel
theorem dX5_stamp_128 : decode cX5_stamp 128 = .ok (.iadd, 1) := by decide +kernel
theorem dX5_stamp_129 : decode cX5_stamp 129 = .ok (.iastore, 1) := by decide +kernel
theorem dX5_stamp_130 : decode cX5_stamp 130 = .ok (.iconst 1, 1) := by decide +kernel
theorem dX5_stamp_131 : decode cX5_stamp 131 = .ok (.ireturn, 1) := by decide +kernel
theorem dX5_attributes_0 : decode cX5_attributes 0 = .ok (.aload_n 0, 1) := by decide +kernel
theorem dX5_attributes_1 : decode cX5_attributes 1 = .ok (.iconst 0, 1) := by decide +kernel
theorem dX5_attributes_2 : decode cX5_attributes 2 = .ok (.putfield 1, 3) := by decide +kernel
theorem dX5_attributes_5 : decode cX5_attributes 5 = .ok (.aload_n 0, 1) := by decide +kernel
theorem dX5_attributes_6 : decode cX5_attributes 6 = .ok (.iload_n 1, 1) := by decide +kernel
theorem dX5_attributes_7 : decode cX5_attributes 7 = .ok (.invokevirtual 81, 3) := by decide +kernel
theorem dX5_attributes_10 : decode cX5_attributes 10 = .ok (.ifCond .ne 6, 3) := by decide +kernel
theorem dX5_attributes_13 : decode cX5_attributes 13 = .ok (.bipush (-2), 2) := by decide +kernel
theorem dX5_attributes_15 : decode cX5_attributes 15 = .ok (.ireturn, 1) := by decide +kernel
theorem dX5_attributes_16 : decode cX5_attributes 16 = .ok (.aload_n 0, 1) := by decide +kernel
theorem dX5_attributes_17 : decode cX5_attributes 17 = .ok (.getfield 33, 3) := by decide +kernel
theorem dX5_attributes_20 : decode cX5_attributes 20 = .ok (.iload_n 1, 1) := by decide +kernel
theorem dX5_attributes_21 : decode cX5_attributes 21 = .ok (.iload_n 2, 1) := by decide +kernel
theorem dX5_attributes_22 : decode cX5_attributes 22 = .ok (.iastore, 1) := by decide +kernel
theorem dX5_attributes_23 : decode cX5_attributes 23 = .ok (.iconst 1, 1) := by decide +kernel
theorem dX5_attributes_24 : decode cX5_attributes 24 = .ok (.ireturn, 1) := by decide +kernel
theorem dX5_clear_0 : decode cX5_clear 0 = .ok (.aload_n 0, 1) := by decide +kernel
theorem dX5_clear_1 : decode cX5_clear 1 = .ok (.iconst 0, 1) := by decide +kernel
theorem dX5_clear_2 : decode cX5_clear 2 = .ok (.putfield 1, 3) := by decide +kernel
theorem dX5_clear_5 : decode cX5_clear 5 = .ok (.aload_n 0, 1) := by decide +kernel
theorem dX5_clear_6 : decode cX5_clear 6 = .ok (.getfield 10, 3) := by decide +kernel
theorem dX5_clear_9 : decode cX5_clear 9 = .ok (.istore_n 1, 1) := by decide +kernel
theorem dX5_clear_10 : decode cX5_clear 10 = .ok (.aload_n 0, 1) := by decide +kernel
theorem dX5_clear_11 : decode cX5_clear 11 = .ok (.iconst 0, 1) := by decide +kernel
theorem dX5_clear_12 : decode cX5_clear 12 = .ok (.putfield 10, 3) := by decide +kernel
theorem dX5_clear_15 : decode cX5_clear 15 = .ok (.iload_n 1, 1) := by decide +kernel
theorem dX5_clear_16 : decode cX5_clear 16 = .ok (.ireturn, 1) := by decide +kernel
theorem dX5_comment_0 : decode cX5_comment 0 = .ok (.aload_n 0, 1) := by decide +kernel
theorem dX5_comment_1 : decode cX5_comment 1 = .ok (.iconst 0, 1) := by decide +kernel
theorem dX5_comment_2 : decode cX5_comment 2 = .ok (.putfield 1, 3) := by decide +kernel
theorem dX5_comment_5 : decode cX5_comment 5 = .ok (.iload_n 3, 1) := by decide +kernel
theorem dX5_comment_6 : decode cX5_comment 6 = .ok (.i2l, 1) := by decide +kernel
theorem dX5_comment_7 : decode cX5_comment 7 = .ok (.lconst 0, 1) := by decide +kernel
theorem dX5_comment_8 : decode cX5_comment 8 = .ok (.ldc2_w 60, 3) := by decide +kernel
theorem dX5_comment_11 : decode cX5_comment 11 = .ok (.invokestatic 13, 3) := by decide +kernel
theorem dX5_comment_14 : decode cX5_comment 14 = .ok (.ifCond .ne 6, 3) := by decide +kernel
theorem dX5_comment_17 : decode cX5_comment 17 = .ok (.bipush (-3), 2) := by decide +kernel
theorem dX5_comment_19 : decode cX5_comment 19 = .ok (.ireturn, 1) := by decide +kernel
theorem dX5_comment_20 : decode cX5_comment 20 = .ok (.iconst 0, 1) := by decide +kernel
theorem dX5_comment_21 : decode cX5_comment 21 = .ok (.istore 4, 2) := by decide +kernel
theorem dX5_comment_23 : decode cX5_comment 23 = .ok (.iload 4, 2) := by decide +kernel
theorem dX5_comment_25 : decode cX5_comment 25 = .ok (.iload_n 3, 1) := by decide +kernel
theorem dX5_comment_26 : decode cX5_comment 26 = .ok (.if_icmp .ge 23, 3) := by decide +kernel
theorem dX5_comment_29 : decode cX5_comment 29 = .ok (.aload_n 0, 1) := by decide +kernel
theorem dX5_comment_30 : decode cX5_comment 30 = .ok (.getfield 115, 3) := by decide +kernel
theorem dX5_comment_33 : decode cX5_comment 33 = .ok (.iload 4, 2) := by decide +kernel
theorem dX5_comment_35 : decode cX5_comment 35 = .ok (.lload_n 1, 1) := by decide +kernel
theorem dX5_comment_36 : decode cX5_comment 36 = .ok (.iload_n 3, 1) := by decide +kernel
theorem dX5_comment_37 : decode cX5_comment 37 = .ok (.iload 4, 2) := by decide +kernel
theorem dX5_comment_39 : decode cX5_comment 39 = .ok (.invokestatic 19, 3) := by decide +kernel
theorem dX5_comment_42 : decode cX5_comment 42 = .ok (.iastore, 1) := by decide +kernel
theorem dX5_comment_43 : decode cX5_comment 43 = .ok (.iinc 4 1, 3) := by decide +kernel
theorem dX5_comment_46 : decode cX5_comment 46 = .ok (.goto (-23), 3) := by decide +kernel
theorem dX5_comment_49 : decode cX5_comment 49 = .ok (.aload_n 0, 1) := by decide +kernel
theorem dX5_comment_50 : decode cX5_comment 50 = .ok (.iload_n 3, 1) := by decide +kernel
theorem dX5_comment_51 : decode cX5_comment 51 = .ok (.putfield 118, 3) := by decide +kernel
theorem dX5_comment_54 : decode cX5_comment 54 = .ok (.iconst 1, 1) := by decide +kernel
theorem dX5_comment_55 : decode cX5_comment 55 = .ok (.ireturn, 1) := by decide +kernel
theorem dX5_sumOf_0 : decode cX5_sumOf 0 = .ok (.iconst (-1), 1) := by decide +kernel
theorem dX5_sumOf_1 : decode cX5_sumOf 1 = .ok (.istore_n 2, 1) := by decide +kernel
theorem dX5_sumOf_2 : decode cX5_sumOf 2 = .ok (.iconst 0, 1) := by decide +kernel
theorem dX5_sumOf_3 : decode cX5_sumOf 3 = .ok (.istore_n 3, 1) := by decide +kernel
theorem dX5_sumOf_4 : decode cX5_sumOf 4 = .ok (.iload_n 3, 1) := by decide +kernel
theorem dX5_sumOf_5 : decode cX5_sumOf 5 = .ok (.aload_n 0, 1) := by decide +kernel
theorem dX5_sumOf_6 : decode cX5_sumOf 6 = .ok (.getfield 43, 3) := by decide +kernel
theorem dX5_sumOf_9 : decode cX5_sumOf 9 = .ok (.iload_n 1, 1) := by decide +kernel
theorem dX5_sumOf_10 : decode cX5_sumOf 10 = .ok (.iaload, 1) := by decide +kernel
theorem dX5_sumOf_11 : decode cX5_sumOf 11 = .ok (.if_icmp .ge 63, 3) := by decide +kernel
theorem dX5_sumOf_14 : decode cX5_sumOf 14 = .ok (.iload_n 2, 1) := by decide +kernel
theorem dX5_sumOf_15 : decode cX5_sumOf 15 = .ok (.aload_n 0, 1) := by decide +kernel
theorem dX5_sumOf_16 : decode cX5_sumOf 16 = .ok (.getfield 89, 3) := by decide +kernel
theorem dX5_sumOf_19 : decode cX5_sumOf 19 = .ok (.bipush 40, 2) := by decide +kernel
theorem dX5_sumOf_21 : decode cX5_sumOf 21 = .ok (.iload_n 1, 1) := by decide +kernel
theorem dX5_sumOf_22 : decode cX5_sumOf 22 = .ok (.imul, 1) := by decide +kernel
theorem dX5_sumOf_23 : decode cX5_sumOf 23 = .ok (.iload_n 3, 1) := by decide +kernel
theorem dX5_sumOf_24 : decode cX5_sumOf 24 = .ok (.iadd, 1) := by decide +kernel
theorem dX5_sumOf_25 : decode cX5_sumOf 25 = .ok (.iaload, 1) := by decide +kernel
theorem dX5_sumOf_26 : decode cX5_sumOf 26 = .ok (.ixor, 1) := by decide +kernel
theorem dX5_sumOf_27 : decode cX5_sumOf 27 = .ok (.istore_n 2, 1) := by decide +kernel
theorem dX5_sumOf_28 : decode cX5_sumOf 28 = .ok (.iconst 0, 1) := by decide +kernel
theorem dX5_sumOf_29 : decode cX5_sumOf 29 = .ok (.istore 4, 2) := by decide +kernel
theorem dX5_sumOf_31 : decode cX5_sumOf 31 = .ok (.iload 4, 2) := by decide +kernel
theorem dX5_sumOf_33 : decode cX5_sumOf 33 = .ok (.bipush 8, 2) := by decide +kernel
theorem dX5_sumOf_35 : decode cX5_sumOf 35 = .ok (.if_icmp .ge 33, 3) := by decide +kernel
theorem dX5_sumOf_38 : decode cX5_sumOf 38 = .ok (.iload_n 2, 1) := by decide +kernel
theorem dX5_sumOf_39 : decode cX5_sumOf 39 = .ok (.iconst 1, 1) := by decide +kernel
theorem dX5_sumOf_40 : decode cX5_sumOf 40 = .ok (.iand, 1) := by decide +kernel
theorem dX5_sumOf_41 : decode cX5_sumOf 41 = .ok (.istore 5, 2) := by decide +kernel
theorem dX5_sumOf_43 : decode cX5_sumOf 43 = .ok (.iload_n 2, 1) := by decide +kernel
theorem dX5_sumOf_44 : decode cX5_sumOf 44 = .ok (.iconst 1, 1) := by decide +kernel
theorem dX5_sumOf_45 : decode cX5_sumOf 45 = .ok (.iushr, 1) := by decide +kernel
theorem dX5_sumOf_46 : decode cX5_sumOf 46 = .ok (.istore_n 2, 1) := by decide +kernel
theorem dX5_sumOf_47 : decode cX5_sumOf 47 = .ok (.iload 5, 2) := by decide +kernel
theorem dX5_sumOf_49 : decode cX5_sumOf 49 = .ok (.iconst 1, 1) := by decide +kernel
theorem dX5_sumOf_50 : decode cX5_sumOf 50 = .ok (.if_icmp .ne 10, 3) := by decide +kernel
theorem dX5_sumOf_53 : decode cX5_sumOf 53 = .ok (.iload_n 2, 1) := by decide +kernel
theorem dX5_sumOf_54 : decode cX5_sumOf 54 = .ok (.ldc 121, 2) := by decide +kernel
theorem dX5_sumOf_56 : decode cX5_sumOf 56 = .ok (.ixor, 1) := by decide +kernel
theorem dX5_sumOf_57 : decode cX5_sumOf 57 = .ok (.goto 4, 3) := by decide +kernel
theorem dX5_sumOf_60 : decode cX5_sumOf 60 = .ok (.iload_n 2, 1) := by decide +kernel
theorem dX5_sumOf_61 : decode cX5_sumOf 61 = .ok (.istore_n 2, 1) := by decide +kernel
theorem dX5_sumOf_62 : decode cX5_sumOf 62 = .ok (.iinc 4 1, 3) := by decide +kernel
theorem dX5_sumOf_65 : decode cX5_sumOf 65 = .ok (.goto (-34), 3) := by decide +kernel
theorem dX5_sumOf_68 : decode cX5_sumOf 68 = .ok (.iinc 3 1, 3) := by decide +kernel
theorem dX5_sumOf_71 : decode cX5_sumOf 71 = .ok (.goto (-67), 3) := by decide +kernel
theorem dX5_sumOf_74 : decode cX5_sumOf 74 = .ok (.iload_n 2, 1) := by decide +kernel
theorem dX5_sumOf_75 : decode cX5_sumOf 75 = .ok (.iconst (-1), 1) := by decide +kernel
theorem dX5_sumOf_76 : decode cX5_sumOf 76 = .ok (.ixor, 1) := by decide +kernel
theorem dX5_sumOf_77 : decode cX5_sumOf 77 = .ok (.ireturn, 1) := by decide +kernel
theorem dX5_sum_0 : decode cX5_sum 0 = .ok (.aload_n 0, 1) := by decide +kernel
theorem dX5_sum_1 : decode cX5_sum 1 = .ok (.getfield 72, 3) := by decide +kernel
theorem dX5_sum_4 : decode cX5_sum 4 = .ok (.iload_n 1, 1) := by decide +kernel
theorem dX5_sum_5 : decode cX5_sum 5 = .ok (.iaload, 1) := by decide +kernel
theorem dX5_sum_6 : decode cX5_sum 6 = .ok (.iconst 2, 1) := by decide +kernel
theorem dX5_sum_7 : decode cX5_sum 7 = .ok (.if_icmp .ne 7, 3) := by decide +kernel
theorem dX5_sum_10 : decode cX5_sum 10 = .ok (.iconst 0, 1) := by decide +kernel
theorem dX5_sum_11 : decode cX5_sum 11 = .ok (.goto 36, 3) := by decide +kernel
theorem dX5_sum_14 : decode cX5_sum 14 = .ok (.aload_n 0, 1) := by decide +kernel
theorem dX5_sum_15 : decode cX5_sum 15 = .ok (.getfield 72, 3) := by decide +kernel
theorem dX5_sum_18 : decode cX5_sum 18 = .ok (.iload_n 1, 1) := by decide +kernel
theorem dX5_sum_19 : decode cX5_sum 19 = .ok (.iaload, 1) := by decide +kernel
theorem dX5_sum_20 : decode cX5_sum 20 = .ok (.iconst 1, 1) := by decide +kernel
theorem dX5_sum_21 : decode cX5_sum 21 = .ok (.if_icmp .eq 12, 3) := by decide +kernel
theorem dX5_sum_24 : decode cX5_sum 24 = .ok (.aload_n 0, 1) := by decide +kernel
theorem dX5_sum_25 : decode cX5_sum 25 = .ok (.getfield 52, 3) := by decide +kernel
theorem dX5_sum_28 : decode cX5_sum 28 = .ok (.iload_n 1, 1) := by decide +kernel
theorem dX5_sum_29 : decode cX5_sum 29 = .ok (.baload, 1) := by decide +kernel
theorem dX5_sum_30 : decode cX5_sum 30 = .ok (.ifCond .eq 12, 3) := by decide +kernel
theorem dX5_sum_33 : decode cX5_sum 33 = .ok (.aload_n 0, 1) := by decide +kernel
theorem dX5_sum_34 : decode cX5_sum 34 = .ok (.getfield 49, 3) := by decide +kernel
theorem dX5_sum_37 : decode cX5_sum 37 = .ok (.iload_n 1, 1) := by decide +kernel
theorem dX5_sum_38 : decode cX5_sum 38 = .ok (.iaload, 1) := by decide +kernel
theorem dX5_sum_39 : decode cX5_sum 39 = .ok (.goto 8, 3) := by decide +kernel
theorem dX5_sum_42 : decode cX5_sum 42 = .ok (.aload_n 0, 1) := by decide +kernel
theorem dX5_sum_43 : decode cX5_sum 43 = .ok (.iload_n 1, 1) := by decide +kernel
theorem dX5_sum_44 : decode cX5_sum 44 = .ok (.invokevirtual 122, 3) := by decide +kernel
theorem dX5_sum_47 : decode cX5_sum 47 = .ok (.ireturn, 1) := by decide +kernel
theorem dX5_trueSize_0 : decode cX5_trueSize 0 = .ok (.aload_n 0, 1) := by decide +kernel
theorem dX5_trueSize_1 : decode cX5_trueSize 1 = .ok (.getfield 72, 3) := by decide +kernel
theorem dX5_trueSize_4 : decode cX5_trueSize 4 = .ok (.iload_n 1, 1) := by decide +kernel
theorem dX5_trueSize_5 : decode cX5_trueSize 5 = .ok (.iaload, 1) := by decide +kernel
theorem dX5_trueSize_6 : decode cX5_trueSize 6 = .ok (.iconst 2, 1) := by decide +kernel
theorem dX5_trueSize_7 : decode cX5_trueSize 7 = .ok (.if_icmp .ne 7, 3) := by decide +kernel
theorem dX5_trueSize_10 : decode cX5_trueSize 10 = .ok (.iconst 0, 1) := by decide +kernel
theorem dX5_trueSize_11 : decode cX5_trueSize 11 = .ok (.goto 28, 3) := by decide +kernel
theorem dX5_trueSize_14 : decode cX5_trueSize 14 = .ok (.aload_n 0, 1) := by decide +kernel
theorem dX5_trueSize_15 : decode cX5_trueSize 15 = .ok (.getfield 72, 3) := by decide +kernel
theorem dX5_trueSize_18 : decode cX5_trueSize 18 = .ok (.iload_n 1, 1) := by decide +kernel
theorem dX5_trueSize_19 : decode cX5_trueSize 19 = .ok (.iaload, 1) := by decide +kernel
theorem dX5_trueSize_20 : decode cX5_trueSize 20 = .ok (.iconst 1, 1) := by decide +kernel
theorem dX5_trueSize_21 : decode cX5_trueSize 21 = .ok (.if_icmp .ne 12, 3) := by decide +kernel
theorem dX5_trueSize_24 : decode cX5_trueSize 24 = .ok (.aload_n 0, 1) := by decide +kernel
theorem dX5_trueSize_25 : decode cX5_trueSize 25 = .ok (.getfield 46, 3) := by decide +kernel
theorem dX5_trueSize_28 : decode cX5_trueSize 28 = .ok (.iload_n 1, 1) := by decide +kernel
theorem dX5_trueSize_29 : decode cX5_trueSize 29 = .ok (.iaload, 1) := by decide +kernel
theorem dX5_trueSize_30 : decode cX5_trueSize 30 = .ok (.goto 9, 3) := by decide +kernel
theorem dX5_trueSize_33 : decode cX5_trueSize 33 = .ok (.aload_n 0, 1) := by decide +kernel
theorem dX5_trueSize_34 : decode cX5_trueSize 34 = .ok (.getfield 43, 3) := by decide +kernel
theorem dX5_trueSize_37 : decode cX5_trueSize 37 = .ok (.iload_n 1, 1) := by decide +kernel
theorem dX5_trueSize_38 : decode cX5_trueSize 38 = .ok (.iaload, 1) := by decide +kernel
theorem dX5_trueSize_39 : decode cX5_trueSize 39 = .ok (.ireturn, 1) := by decide +kernel
theorem dX5_put_0 : decode cX5_put 0 = .ok (.iconst 0, 1) := by decide +kernel
theorem dX5_put_1 : decode cX5_put 1 = .ok (.istore 4, 2) := by decide +kernel
theorem dX5_put_3 : decode cX5_put 3 = .ok (.iload 4, 2) := by decide +kernel
theorem dX5_put_5 : decode cX5_put 5 = .ok (.iload_n 3, 1) := by decide +kernel
theorem dX5_put_6 : decode cX5_put 6 = .ok (.if_icmp .ge 50, 3) := by decide +kernel
theorem dX5_put_9 : decode cX5_put 9 = .ok (.aload_n 0, 1) := by decide +kernel
theorem dX5_put_10 : decode cX5_put 10 = .ok (.getfield 125, 3) := by decide +kernel
theorem dX5_put_13 : decode cX5_put 13 = .ok (.sipush 2000, 3) := by decide +kernel
theorem dX5_put_16 : decode cX5_put 16 = .ok (.if_icmp .ge 24, 3) := by decide +kernel
theorem dX5_put_19 : decode cX5_put 19 = .ok (.aload_n 0, 1) := by decide +kernel
theorem dX5_put_20 : decode cX5_put 20 = .ok (.getfield 128, 3) := by decide +kernel
theorem dX5_put_23 : decode cX5_put 23 = .ok (.aload_n 0, 1) := by decide +kernel
theorem dX5_put_24 : decode cX5_put 24 = .ok (.getfield 125, 3) := by decide +kernel
theorem dX5_put_27 : decode cX5_put 27 = .ok (.lload_n 1, 1) := by decide +kernel
theorem dX5_put_28 : decode cX5_put 28 = .ok (.bipush 8, 2) := by decide +kernel
theorem dX5_put_30 : decode cX5_put 30 = .ok (.iload 4, 2) := by decide +kernel
theorem dX5_put_32 : decode cX5_put 32 = .ok (.imul, 1) := by decide +kernel
theorem dX5_put_33 : decode cX5_put 33 = .ok (.lshr, 1) := by decide +kernel
theorem dX5_put_34 : decode cX5_put 34 = .ok (.ldc2_w 17, 3) := by decide +kernel
theorem dX5_put_37 : decode cX5_put 37 = .ok (.land, 1) := by decide +kernel
theorem dX5_put_38 : decode cX5_put 38 = .ok (.l2i, 1) := by decide +kernel
theorem dX5_put_39 : decode cX5_put 39 = .ok (.iastore, 1) := by decide +kernel
theorem dX5_put_40 : decode cX5_put 40 = .ok (.aload_n 0, 1) := by decide +kernel
theorem dX5_put_41 : decode cX5_put 41 = .ok (.dup, 1) := by decide +kernel
theorem dX5_put_42 : decode cX5_put 42 = .ok (.getfield 125, 3) := by decide +kernel
theorem dX5_put_45 : decode cX5_put 45 = .ok (.iconst 1, 1) := by decide +kernel
theorem dX5_put_46 : decode cX5_put 46 = .ok (.iadd, 1) := by decide +kernel
theorem dX5_put_47 : decode cX5_put 47 = .ok (.putfield 125, 3) := by decide +kernel
theorem dX5_put_50 : decode cX5_put 50 = .ok (.iinc 4 1, 3) := by decide +kernel
theorem dX5_put_53 : decode cX5_put 53 = .ok (.goto (-50), 3) := by decide +kernel
theorem dX5_put_56 : decode cX5_put 56 = .ok (.return_, 1) := by decide +kernel
theorem dX5_extraLong_0 : decode cX5_extraLong 0 = .ok (.aload_n 0, 1) := by decide +kernel
theorem dX5_extraLong_1 : decode cX5_extraLong 1 = .ok (.getfield 75, 3) := by decide +kernel
theorem dX5_extraLong_4 : decode cX5_extraLong 4 = .ok (.iload_n 1, 1) := by decide +kernel
theorem dX5_extraLong_5 : decode cX5_extraLong 5 = .ok (.iaload, 1) := by decide +kernel
theorem dX5_extraLong_6 : decode cX5_extraLong 6 = .ok (.iconst 2, 1) := by decide +kernel
theorem dX5_extraLong_7 : decode cX5_extraLong 7 = .ok (.if_icmp .ne 8, 3) := by decide +kernel
theorem dX5_extraLong_10 : decode cX5_extraLong 10 = .ok (.bipush 20, 2) := by decide +kernel
theorem dX5_extraLong_12 : decode cX5_extraLong 12 = .ok (.goto 4, 3) := by decide +kernel
theorem dX5_extraLong_15 : decode cX5_extraLong 15 = .ok (.iconst 0, 1) := by decide +kernel
theorem dX5_extraLong_16 : decode cX5_extraLong 16 = .ok (.istore_n 2, 1) := by decide +kernel
theorem dX5_extraLong_17 : decode cX5_extraLong 17 = .ok (.iconst 0, 1) := by decide +kernel
theorem dX5_extraLong_18 : decode cX5_extraLong 18 = .ok (.istore_n 3, 1) := by decide +kernel
theorem dX5_extraLong_19 : decode cX5_extraLong 19 = .ok (.iload_n 3, 1) := by decide +kernel
theorem dX5_extraLong_20 : decode cX5_extraLong 20 = .ok (.aload_n 0, 1) := by decide +kernel
theorem dX5_extraLong_21 : decode cX5_extraLong 21 = .ok (.getfield 36, 3) := by decide +kernel
theorem dX5_extraLong_24 : decode cX5_extraLong 24 = .ok (.iload_n 1, 1) := by decide +kernel
theorem dX5_extraLong_25 : decode cX5_extraLong 25 = .ok (.iaload, 1) := by decide +kernel
theorem dX5_extraLong_26 : decode cX5_extraLong 26 = .ok (.if_icmp .ge 24, 3) := by decide +kernel
theorem dX5_extraLong_29 : decode cX5_extraLong 29 = .ok (.iload_n 2, 1) := by decide +kernel
theorem dX5_extraLong_30 : decode cX5_extraLong 30 = .ok (.iconst 4, 1) := by decide +kernel
theorem dX5_extraLong_31 : decode cX5_extraLong 31 = .ok (.aload_n 0, 1) := by decide +kernel
theorem dX5_extraLong_32 : decode cX5_extraLong 32 = .ok (.getfield 99, 3) := by decide +kernel
theorem dX5_extraLong_35 : decode cX5_extraLong 35 = .ok (.iconst 3, 1) := by decide +kernel
theorem dX5_extraLong_36 : decode cX5_extraLong 36 = .ok (.iload_n 1, 1) := by decide +kernel
theorem dX5_extraLong_37 : decode cX5_extraLong 37 = .ok (.imul, 1) := by decide +kernel
theorem dX5_extraLong_38 : decode cX5_extraLong 38 = .ok (.iload_n 3, 1) := by decide +kernel
theorem dX5_extraLong_39 : decode cX5_extraLong 39 = .ok (.iadd, 1) := by decide +kernel
theorem dX5_extraLong_40 : decode cX5_extraLong 40 = .ok (.iaload, 1) := by decide +kernel
theorem dX5_extraLong_41 : decode cX5_extraLong 41 = .ok (.iadd, 1) := by decide +kernel
theorem dX5_extraLong_42 : decode cX5_extraLong 42 = .ok (.iadd, 1) := by decide +kernel
theorem dX5_extraLong_43 : decode cX5_extraLong 43 = .ok (.istore_n 2, 1) := by decide +kernel
theorem dX5_extraLong_44 : decode cX5_extraLong 44 = .ok (.iinc 3 1, 3) := by decide +kernel
theorem dX5_extraLong_47 : decode cX5_extraLong 47 = .ok (.goto (-28), 3) := by decide +kernel
theorem dX5_extraLong_50 : decode cX5_extraLong 50 = .ok (.iload_n 2, 1) := by decide +kernel
theorem dX5_extraLong_51 : decode cX5_extraLong 51 = .ok (.ireturn, 1) := by decide +kernel
theorem dX5_putName_0 : decode cX5_putName 0 = .ok (.iconst 0, 1) := by decide +kernel
theorem dX5_putName_1 : decode cX5_putName 1 = .ok (.istore_n 2, 1) := by decide +kernel
theorem dX5_putName_2 : decode cX5_putName 2 = .ok (.iload_n 2, 1) := by decide +kernel
theorem dX5_putName_3 : decode cX5_putName 3 = .ok (.aload_n 0, 1) := by decide +kernel
theorem dX5_putName_4 : decode cX5_putName 4 = .ok (.getfield 23, 3) := by decide +kernel
theorem dX5_putName_7 : decode cX5_putName 7 = .ok (.iload_n 1, 1) := by decide +kernel
theorem dX5_putName_8 : decode cX5_putName 8 = .ok (.iaload, 1) := by decide +kernel
theorem dX5_putName_9 : decode cX5_putName 9 = .ok (.if_icmp .ge 26, 3) := by decide +kernel
theorem dX5_putName_12 : decode cX5_putName 12 = .ok (.aload_n 0, 1) := by decide +kernel
theorem dX5_putName_13 : decode cX5_putName 13 = .ok (.aload_n 0, 1) := by decide +kernel
theorem dX5_putName_14 : decode cX5_putName 14 = .ok (.getfield 78, 3) := by decide +kernel
theorem dX5_putName_17 : decode cX5_putName 17 = .ok (.bipush 16, 2) := by decide +kernel
theorem dX5_putName_19 : decode cX5_putName 19 = .ok (.iload_n 1, 1) := by decide +kernel
theorem dX5_putName_20 : decode cX5_putName 20 = .ok (.imul, 1) := by decide +kernel
theorem dX5_putName_21 : decode cX5_putName 21 = .ok (.iload_n 2, 1) := by decide +kernel
theorem dX5_putName_22 : decode cX5_putName 22 = .ok (.iadd, 1) := by decide +kernel
theorem dX5_putName_23 : decode cX5_putName 23 = .ok (.iaload, 1) := by decide +kernel
theorem dX5_putName_24 : decode cX5_putName 24 = .ok (.i2l, 1) := by decide +kernel
theorem dX5_putName_25 : decode cX5_putName 25 = .ok (.iconst 1, 1) := by decide +kernel
theorem dX5_putName_26 : decode cX5_putName 26 = .ok (.invokevirtual 131, 3) := by decide +kernel
theorem dX5_putName_29 : decode cX5_putName 29 = .ok (.iinc 2 1, 3) := by decide +kernel
theorem dX5_putName_32 : decode cX5_putName 32 = .ok (.goto (-30), 3) := by decide +kernel
theorem dX5_putName_35 : decode cX5_putName 35 = .ok (.aload_n 0, 1) := by decide +kernel
theorem dX5_putName_36 : decode cX5_putName 36 = .ok (.getfield 75, 3) := by decide +kernel
theorem dX5_putName_39 : decode cX5_putName 39 = .ok (.iload_n 1, 1) := by decide +kernel
theorem dX5_putName_40 : decode cX5_putName 40 = .ok (.iaload, 1) := by decide +kernel
theorem dX5_putName_41 : decode cX5_putName 41 = .ok (.iconst 2, 1) := by decide +kernel
theorem dX5_putName_42 : decode cX5_putName 42 = .ok (.if_icmp .ne 42, 3) := by decide +kernel
theorem dX5_putName_45 : decode cX5_putName 45 = .ok (.aload_n 0, 1) := by decide +kernel
theorem dX5_putName_46 : decode cX5_putName 46 = .ok (.lconst 1, 1) := by decide +kernel
theorem dX5_putName_47 : decode cX5_putName 47 = .ok (.iconst 2, 1) := by decide +kernel
theorem dX5_putName_48 : decode cX5_putName 48 = .ok (.invokevirtual 131, 3) := by decide +kernel
theorem dX5_putName_51 : decode cX5_putName 51 = .ok (.aload_n 0, 1) := by decide +kernel
theorem dX5_putName_52 : decode cX5_putName 52 = .ok (.ldc2_w 135, 3) := by decide +kernel
theorem dX5_putName_55 : decode cX5_putName 55 = .ok (.iconst 2, 1) := by decide +kernel
theorem dX5_putName_56 : decode cX5_putName 56 = .ok (.invokevirtual 131, 3) := by decide +kernel
theorem dX5_putName_59 : decode cX5_putName 59 = .ok (.aload_n 0, 1) := by decide +kernel
theorem dX5_putName_60 : decode cX5_putName 60 = .ok (.aload_n 0, 1) := by decide +kernel
theorem dX5_putName_61 : decode cX5_putName 61 = .ok (.iload_n 1, 1) := by decide +kernel
theorem dX5_putName_62 : decode cX5_putName 62 = .ok (.invokevirtual 137, 3) := by decide +kernel
theorem dX5_putName_65 : decode cX5_putName 65 = .ok (.i2l, 1) := by decide +kernel
theorem dX5_putName_66 : decode cX5_putName 66 = .ok (.bipush 8, 2) := by decide +kernel
theorem dX5_putName_68 : decode cX5_putName 68 = .ok (.invokevirtual 131, 3) := by decide +kernel
theorem dX5_putName_71 : decode cX5_putName 71 = .ok (.aload_n 0, 1) := by decide +kernel
theorem dX5_putName_72 : decode cX5_putName 72 = .ok (.aload_n 0, 1) := by decide +kernel
theorem dX5_putName_73 : decode cX5_putName 73 = .ok (.getfield 43, 3) := by decide +kernel
theorem dX5_putName_76 : decode cX5_putName 76 = .ok (.iload_n 1, 1) := by decide +kernel
theorem dX5_putName_77 : decode cX5_putName 77 = .ok (.iaload, 1) := by decide +kernel
theorem dX5_putName_78 : decode cX5_putName 78 = .ok (.i2l, 1) := by decide +kernel
theorem dX5_putName_79 : decode cX5_putName 79 = .ok (.bipush 8, 2) := by decide +kernel
theorem dX5_putName_81 : decode cX5_putName 81 = .ok (.invokevirtual 131, 3) := by decide +kernel
theorem dX5_putName_84 : decode cX5_putName 84 = .ok (.iconst 3, 1) := by decide +kernel
theorem dX5_putName_85 : decode cX5_putName 85 = .ok (.iload_n 1, 1) := by decide +kernel
theorem dX5_putName_86 : decode cX5_putName 86 = .ok (.imul, 1) := by decide +kernel
theorem dX5_putName_87 : decode cX5_putName 87 = .ok (.istore_n 2, 1) := by decide +kernel
theorem dX5_putName_88 : decode cX5_putName 88 = .ok (.iload_n 2, 1) := by decide +kernel
theorem dX5_putName_89 : decode cX5_putName 89 = .ok (.iconst 3, 1) := by decide +kernel
theorem dX5_putName_90 : decode cX5_putName 90 = .ok (.iload_n 1, 1) := by decide +kernel
theorem dX5_putName_91 : decode cX5_putName 91 = .ok (.imul, 1) := by decide +kernel
theorem dX5_putName_92 : decode cX5_putName 92 = .ok (.aload_n 0, 1) := by decide +kernel
theorem dX5_putName_93 : decode cX5_putName 93 = .ok (.getfield 36, 3) := by decide +kernel
theorem dX5_putName_96 : decode cX5_putName 96 = .ok (.iload_n 1, 1) := by decide +kernel
theorem dX5_putName_97 : decode cX5_putName 97 = .ok (.iaload, 1) := by decide +kernel
theorem dX5_putName_98 : decode cX5_putName 98 = .ok (.iadd, 1) := by decide +kernel
theorem dX5_putName_99 : decode cX5_putName 99 = .ok (.if_icmp .ge 68, 3) := by decide +kernel
theorem dX5_putName_102 : decode cX5_putName 102 = .ok (.aload_n 0, 1) := by decide +kernel
theorem dX5_putName_103 : decode cX5_putName 103 = .ok (.aload_n 0, 1) := by decide +kernel
theorem dX5_putName_104 : decode cX5_putName 104 = .ok (.getfield 96, 3) := by decide +kernel
theorem dX5_putName_107 : decode cX5_putName 107 = .ok (.iload_n 2, 1) := by decide +kernel
theorem dX5_putName_108 : decode cX5_putName 108 = .ok (.iaload, 1) := by decide +kernel
theorem dX5_putName_109 : decode cX5_putName 109 = .ok (.i2l, 1) := by decide +kernel
theorem dX5_putName_110 : decode cX5_putName 110 = .ok (.iconst 2, 1) := by decide +kernel
theorem dX5_putName_111 : decode cX5_putName 111 = .ok (.invokevirtual 131, 3) := by decide +kernel
theorem dX5_putName_114 : decode cX5_putName 114 = .ok (.aload_n 0, 1) := by decide +kernel
theorem dX5_putName_115 : decode cX5_putName 115 = .ok (.aload_n 0, 1) := by decide +kernel
theorem dX5_putName_116 : decode cX5_putName 116 = .ok (.getfield 99, 3) := by decide +kernel
theorem dX5_putName_119 : decode cX5_putName 119 = .ok (.iload_n 2, 1) := by decide +kernel
theorem dX5_putName_120 : decode cX5_putName 120 = .ok (.iaload, 1) := by decide +kernel
theorem dX5_putName_121 : decode cX5_putName 121 = .ok (.i2l, 1) := by decide +kernel
theorem dX5_putName_122 : decode cX5_putName 122 = .ok (.iconst 2, 1) := by decide +kernel
theorem dX5_putName_123 : decode cX5_putName 123 = .ok (.invokevirtual 131, 3) := by decide +kernel
theorem dX5_putName_126 : decode cX5_putName 126 = .ok (.iconst 0, 1) := by decide +kernel
theorem dX5_putName_127 : decode cX5_putName 127 = .ok (.istore_n 3, 1) := by decide +kernel
theorem dX5_putName_128 : decode cX5_putName 128 = .ok (.iload_n 3, 1) := by decide +kernel
theorem dX5_putName_129 : decode cX5_putName 129 = .ok (.aload_n 0, 1) := by decide +kernel
theorem dX5_putName_130 : decode cX5_putName 130 = .ok (.getfield 99, 3) := by decide +kernel
theorem dX5_putName_133 : decode cX5_putName 133 = .ok (.iload_n 2, 1) := by decide +kernel
theorem dX5_putName_134 : decode cX5_putName 134 = .ok (.iaload, 1) := by decide +kernel
theorem dX5_putName_135 : decode cX5_putName 135 = .ok (.if_icmp .ge 26, 3) := by decide +kernel
theorem dX5_putName_138 : decode cX5_putName 138 = .ok (.aload_n 0, 1) := by decide +kernel
theorem dX5_putName_139 : decode cX5_putName 139 = .ok (.aload_n 0, 1) := by decide +kernel
theorem dX5_putName_140 : decode cX5_putName 140 = .ok (.getfield 102, 3) := by decide +kernel
theorem dX5_putName_143 : decode cX5_putName 143 = .ok (.bipush 8, 2) := by decide +kernel
theorem dX5_putName_145 : decode cX5_putName 145 = .ok (.iload_n 2, 1) := by decide +kernel
theorem dX5_putName_146 : decode cX5_putName 146 = .ok (.imul, 1) := by decide +kernel
theorem dX5_putName_147 : decode cX5_putName 147 = .ok (.iload_n 3, 1) := by decide +kernel
theorem dX5_putName_148 : decode cX5_putName 148 = .ok (.iadd, 1) := by decide +kernel
theorem dX5_putName_149 : decode cX5_putName 149 = .ok (.iaload, 1) := by decide +kernel
theorem dX5_putName_150 : decode cX5_putName 150 = .ok (.i2l, 1) := by decide +kernel
theorem dX5_putName_151 : decode cX5_putName 151 = .ok (.iconst 1, 1) := by decide +kernel
theorem dX5_putName_152 : decode cX5_putName 152 = .ok (.invokevirtual 131, 3) := by decide +kernel
theorem dX5_putName_155 : decode cX5_putName 155 = .ok (.iinc 3 1, 3) := by decide +kernel
theorem dX5_putName_158 : decode cX5_putName 158 = .ok (.goto (-30), 3) := by decide +kernel
theorem dX5_putName_161 : decode cX5_putName 161 = .ok (.iinc 2 1, 3) := by decide +kernel
theorem dX5_putName_164 : decode cX5_putName 164 = .ok (.goto (-76), 3) := by decide +kernel
theorem dX5_putName_167 : decode cX5_putName 167 = .ok (.return_, 1) := by decide +kernel
theorem dX5_putFields_0 : decode cX5_putFields 0 = .ok (.iload_n 2, 1) := by decide +kernel
theorem dX5_putFields_1 : decode cX5_putFields 1 = .ok (.ifCond .eq 17, 3) := by decide +kernel
theorem dX5_putFields_4 : decode cX5_putFields 4 = .ok (.aload_n 0, 1) := by decide +kernel
theorem dX5_putFields_5 : decode cX5_putFields 5 = .ok (.getfield 75, 3) := by decide +kernel
theorem dX5_putFields_8 : decode cX5_putFields 8 = .ok (.iload_n 1, 1) := by decide +kernel
theorem dX5_putFields_9 : decode cX5_putFields 9 = .ok (.iaload, 1) := by decide +kernel
theorem dX5_putFields_10 : decode cX5_putFields 10 = .ok (.iconst 1, 1) := by decide +kernel
theorem dX5_putFields_11 : decode cX5_putFields 11 = .ok (.if_icmp .ne 7, 3) := by decide +kernel
theorem dX5_putFields_14 : decode cX5_putFields 14 = .ok (.iconst 1, 1) := by decide +kernel
theorem dX5_putFields_15 : decode cX5_putFields 15 = .ok (.goto 4, 3) := by decide +kernel
theorem dX5_putFields_18 : decode cX5_putFields 18 = .ok (.iconst 0, 1) := by decide +kernel
theorem dX5_putFields_19 : decode cX5_putFields 19 = .ok (.istore_n 3, 1) := by decide +kernel
theorem dX5_putFields_20 : decode cX5_putFields 20 = .ok (.aload_n 0, 1) := by decide +kernel
theorem dX5_putFields_21 : decode cX5_putFields 21 = .ok (.aload_n 0, 1) := by decide +kernel
theorem dX5_putFields_22 : decode cX5_putFields 22 = .ok (.getfield 75, 3) := by decide +kernel
theorem dX5_putFields_25 : decode cX5_putFields 25 = .ok (.iload_n 1, 1) := by decide +kernel
theorem dX5_putFields_26 : decode cX5_putFields 26 = .ok (.iaload, 1) := by decide +kernel
theorem dX5_putFields_27 : decode cX5_putFields 27 = .ok (.iconst 2, 1) := by decide +kernel
theorem dX5_putFields_28 : decode cX5_putFields 28 = .ok (.if_icmp .ne 9, 3) := by decide +kernel
theorem dX5_putFields_31 : decode cX5_putFields 31 = .ok (.ldc2_w 140, 3) := by decide +kernel
theorem dX5_putFields_34 : decode cX5_putFields 34 = .ok (.goto 6, 3) := by decide +kernel
theorem dX5_putFields_37 : decode cX5_putFields 37 = .ok (.ldc2_w 142, 3) := by decide +kernel
theorem dX5_putFields_40 : decode cX5_putFields 40 = .ok (.iconst 2, 1) := by decide +kernel
theorem dX5_putFields_41 : decode cX5_putFields 41 = .ok (.invokevirtual 131, 3) := by decide +kernel
theorem dX5_putFields_44 : decode cX5_putFields 44 = .ok (.aload_n 0, 1) := by decide +kernel
theorem dX5_putFields_45 : decode cX5_putFields 45 = .ok (.aload_n 0, 1) := by decide +kernel
theorem dX5_putFields_46 : decode cX5_putFields 46 = .ok (.getfield 75, 3) := by decide +kernel
theorem dX5_putFields_49 : decode cX5_putFields 49 = .ok (.iload_n 1, 1) := by decide +kernel
theorem dX5_putFields_50 : decode cX5_putFields 50 = .ok (.iaload, 1) := by decide +kernel
theorem dX5_putFields_51 : decode cX5_putFields 51 = .ok (.iconst 1, 1) := by decide +kernel
theorem dX5_putFields_52 : decode cX5_putFields 52 = .ok (.if_icmp .ne 9, 3) := by decide +kernel
theorem dX5_putFields_55 : decode cX5_putFields 55 = .ok (.ldc2_w 60, 3) := by decide +kernel
theorem dX5_putFields_58 : decode cX5_putFields 58 = .ok (.goto 4, 3) := by decide +kernel
theorem dX5_putFields_61 : decode cX5_putFields 61 = .ok (.lconst 0, 1) := by decide +kernel
theorem dX5_putFields_62 : decode cX5_putFields 62 = .ok (.iconst 2, 1) := by decide +kernel
theorem dX5_putFields_63 : decode cX5_putFields 63 = .ok (.invokevirtual 131, 3) := by decide +kernel
theorem dX5_putFields_66 : decode cX5_putFields 66 = .ok (.aload_n 0, 1) := by decide +kernel
theorem dX5_putFields_67 : decode cX5_putFields 67 = .ok (.aload_n 0, 1) := by decide +kernel
theorem dX5_putFields_68 : decode cX5_putFields 68 = .ok (.getfield 72, 3) := by decide +kernel
theorem dX5_putFields_71 : decode cX5_putFields 71 = .ok (.iload_n 1, 1) := by decide +kernel
theorem dX5_putFields_72 : decode cX5_putFields 72 = .ok (.iaload, 1) := by decide +kernel
theorem dX5_putFields_73 : decode cX5_putFields 73 = .ok (.iconst 1, 1) := by decide +kernel
theorem dX5_putFields_74 : decode cX5_putFields 74 = .ok (.if_icmp .ne 9, 3) := by decide +kernel
theorem dX5_putFields_77 : decode cX5_putFields 77 = .ok (.ldc2_w 60, 3) := by decide +kernel
theorem dX5_putFields_80 : decode cX5_putFields 80 = .ok (.goto 4, 3) := by decide +kernel
theorem dX5_putFields_83 : decode cX5_putFields 83 = .ok (.lconst 0, 1) := by decide +kernel
theorem dX5_putFields_84 : decode cX5_putFields 84 = .ok (.iconst 2, 1) := by decide +kernel
theorem dX5_putFields_85 : decode cX5_putFields 85 = .ok (.invokevirtual 131, 3) := by decide +kernel
theorem dX5_putFields_88 : decode cX5_putFields 88 = .ok (.aload_n 0, 1) := by decide +kernel
theorem dX5_putFields_89 : decode cX5_putFields 89 = .ok (.aload_n 0, 1) := by decide +kernel
theorem dX5_putFields_90 : decode cX5_putFields 90 = .ok (.getfield 27, 3) := by decide +kernel
theorem dX5_putFields_93 : decode cX5_putFields 93 = .ok (.iload_n 1, 1) := by decide +kernel
theorem dX5_putFields_94 : decode cX5_putFields 94 = .ok (.iaload, 1) := by decide +kernel
theorem dX5_putFields_95 : decode cX5_putFields 95 = .ok (.i2l, 1) := by decide +kernel
theorem dX5_putFields_96 : decode cX5_putFields 96 = .ok (.iconst 2, 1) := by decide +kernel
theorem dX5_putFields_97 : decode cX5_putFields 97 = .ok (.invokevirtual 131, 3) := by decide +kernel
theorem dX5_putFields_100 : decode cX5_putFields 100 = .ok (.aload_n 0, 1) := by decide +kernel
theorem dX5_putFields_101 : decode cX5_putFields 101 = .ok (.aload_n 0, 1) := by decide +kernel
theorem dX5_putFields_102 : decode cX5_putFields 102 = .ok (.getfield 30, 3) := by decide +kernel
theorem dX5_putFields_105 : decode cX5_putFields 105 = .ok (.iload_n 1, 1) := by decide +kernel
theorem dX5_putFields_106 : decode cX5_putFields 106 = .ok (.iaload, 1) := by decide +kernel
theorem dX5_putFields_107 : decode cX5_putFields 107 = .ok (.i2l, 1) := by decide +kernel
theorem dX5_putFields_108 : decode cX5_putFields 108 = .ok (.iconst 2, 1) := by decide +kernel
theorem dX5_putFields_109 : decode cX5_putFields 109 = .ok (.invokevirtual 131, 3) := by decide +kernel
theorem dX5_putFields_112 : decode cX5_putFields 112 = .ok (.aload_n 0, 1) := by decide +kernel
theorem dX5_putFields_113 : decode cX5_putFields 113 = .ok (.iload_n 3, 1) := by decide +kernel
theorem dX5_putFields_114 : decode cX5_putFields 114 = .ok (.ifCond .eq 7, 3) := by decide +kernel
theorem dX5_putFields_117 : decode cX5_putFields 117 = .ok (.lconst 0, 1) := by decide +kernel
theorem dX5_putFields_118 : decode cX5_putFields 118 = .ok (.goto 9, 3) := by decide +kernel
theorem dX5_putFields_121 : decode cX5_putFields 121 = .ok (.aload_n 0, 1) := by decide +kernel
theorem dX5_putFields_122 : decode cX5_putFields 122 = .ok (.iload_n 1, 1) := by decide +kernel
theorem dX5_putFields_123 : decode cX5_putFields 123 = .ok (.invokevirtual 144, 3) := by decide +kernel
theorem dX5_putFields_126 : decode cX5_putFields 126 = .ok (.i2l, 1) := by decide +kernel
theorem dX5_putFields_127 : decode cX5_putFields 127 = .ok (.iconst 4, 1) := by decide +kernel
theorem dX5_putFields_128 : decode cX5_putFields 128 = .ok (.invokevirtual 131, 3) := by decide +kernel
theorem dX5_putFields_131 : decode cX5_putFields 131 = .ok (.aload_n 0, 1) := by decide +kernel
theorem dX5_putFields_132 : decode cX5_putFields 132 = .ok (.iload_n 3, 1) := by decide +kernel
theorem dX5_putFields_133 : decode cX5_putFields 133 = .ok (.ifCond .eq 7, 3) := by decide +kernel
theorem dX5_putFields_136 : decode cX5_putFields 136 = .ok (.lconst 0, 1) := by decide +kernel
theorem dX5_putFields_137 : decode cX5_putFields 137 = .ok (.goto 26, 3) := by decide +kernel
theorem dX5_putFields_140 : decode cX5_putFields 140 = .ok (.aload_n 0, 1) := by decide +kernel
theorem dX5_putFields_141 : decode cX5_putFields 141 = .ok (.getfield 75, 3) := by decide +kernel
theorem dX5_putFields_144 : decode cX5_putFields 144 = .ok (.iload_n 1, 1) := by decide +kernel
theorem dX5_putFields_145 : decode cX5_putFields 145 = .ok (.iaload, 1) := by decide +kernel
theorem dX5_putFields_146 : decode cX5_putFields 146 = .ok (.iconst 2, 1) := by decide +kernel
theorem dX5_putFields_147 : decode cX5_putFields 147 = .ok (.if_icmp .ne 9, 3) := by decide +kernel
theorem dX5_putFields_150 : decode cX5_putFields 150 = .ok (.ldc2_w 147, 3) := by decide +kernel
theorem dX5_putFields_153 : decode cX5_putFields 153 = .ok (.goto 10, 3) := by decide +kernel
theorem dX5_putFields_156 : decode cX5_putFields 156 = .ok (.aload_n 0, 1) := by decide +kernel
theorem dX5_putFields_157 : decode cX5_putFields 157 = .ok (.getfield 43, 3) := by decide +kernel
theorem dX5_putFields_160 : decode cX5_putFields 160 = .ok (.iload_n 1, 1) := by decide +kernel
theorem dX5_putFields_161 : decode cX5_putFields 161 = .ok (.iaload, 1) := by decide +kernel
theorem dX5_putFields_162 : decode cX5_putFields 162 = .ok (.i2l, 1) := by decide +kernel
theorem dX5_putFields_163 : decode cX5_putFields 163 = .ok (.iconst 4, 1) := by decide +kernel
theorem dX5_putFields_164 : decode cX5_putFields 164 = .ok (.invokevirtual 131, 3) := by decide +kernel
theorem dX5_putFields_167 : decode cX5_putFields 167 = .ok (.aload_n 0, 1) := by decide +kernel
theorem dX5_putFields_168 : decode cX5_putFields 168 = .ok (.iload_n 3, 1) := by decide +kernel
theorem dX5_putFields_169 : decode cX5_putFields 169 = .ok (.ifCond .eq 7, 3) := by decide +kernel
theorem dX5_putFields_172 : decode cX5_putFields 172 = .ok (.lconst 0, 1) := by decide +kernel
theorem dX5_putFields_173 : decode cX5_putFields 173 = .ok (.goto 25, 3) := by decide +kernel
theorem dX5_putFields_176 : decode cX5_putFields 176 = .ok (.aload_n 0, 1) := by decide +kernel
theorem dX5_putFields_177 : decode cX5_putFields 177 = .ok (.getfield 75, 3) := by decide +kernel
theorem dX5_putFields_180 : decode cX5_putFields 180 = .ok (.iload_n 1, 1) := by decide +kernel
theorem dX5_putFields_181 : decode cX5_putFields 181 = .ok (.iaload, 1) := by decide +kernel
theorem dX5_putFields_182 : decode cX5_putFields 182 = .ok (.iconst 2, 1) := by decide +kernel
theorem dX5_putFields_183 : decode cX5_putFields 183 = .ok (.if_icmp .ne 9, 3) := by decide +kernel
theorem dX5_putFields_186 : decode cX5_putFields 186 = .ok (.ldc2_w 147, 3) := by decide +kernel
theorem dX5_putFields_189 : decode cX5_putFields 189 = .ok (.goto 9, 3) := by decide +kernel
theorem dX5_putFields_192 : decode cX5_putFields 192 = .ok (.aload_n 0, 1) := by decide +kernel
theorem dX5_putFields_193 : decode cX5_putFields 193 = .ok (.iload_n 1, 1) := by decide +kernel
theorem dX5_putFields_194 : decode cX5_putFields 194 = .ok (.invokevirtual 137, 3) := by decide +kernel
theorem dX5_putFields_197 : decode cX5_putFields 197 = .ok (.i2l, 1) := by decide +kernel
theorem dX5_putFields_198 : decode cX5_putFields 198 = .ok (.iconst 4, 1) := by decide +kernel
theorem dX5_putFields_199 : decode cX5_putFields 199 = .ok (.invokevirtual 131, 3) := by decide +kernel
theorem dX5_putFields_202 : decode cX5_putFields 202 = .ok (.aload_n 0, 1) := by decide +kernel
theorem dX5_putFields_203 : decode cX5_putFields 203 = .ok (.aload_n 0, 1) := by decide +kernel
theorem dX5_putFields_204 : decode cX5_putFields 204 = .ok (.getfield 23, 3) := by decide +kernel
theorem dX5_putFields_207 : decode cX5_putFields 207 = .ok (.iload_n 1, 1) := by decide +kernel
theorem dX5_putFields_208 : decode cX5_putFields 208 = .ok (.iaload, 1) := by decide +kernel
theorem dX5_putFields_209 : decode cX5_putFields 209 = .ok (.i2l, 1) := by decide +kernel
theorem dX5_putFields_210 : decode cX5_putFields 210 = .ok (.iconst 2, 1) := by decide +kernel
theorem dX5_putFields_211 : decode cX5_putFields 211 = .ok (.invokevirtual 131, 3) := by decide +kernel
theorem dX5_putFields_214 : decode cX5_putFields 214 = .ok (.aload_n 0, 1) := by decide +kernel
theorem dX5_putFields_215 : decode cX5_putFields 215 = .ok (.aload_n 0, 1) := by decide +kernel
theorem dX5_putFields_216 : decode cX5_putFields 216 = .ok (.iload_n 1, 1) := by decide +kernel
theorem dX5_putFields_217 : decode cX5_putFields 217 = .ok (.invokevirtual 149, 3) := by decide +kernel
theorem dX5_putFields_220 : decode cX5_putFields 220 = .ok (.i2l, 1) := by decide +kernel
theorem dX5_putFields_221 : decode cX5_putFields 221 = .ok (.iconst 2, 1) := by decide +kernel
theorem dX5_putFields_222 : decode cX5_putFields 222 = .ok (.invokevirtual 131, 3) := by decide +kernel
theorem dX5_putFields_225 : decode cX5_putFields 225 = .ok (.return_, 1) := by decide +kernel
theorem dX5_putLocal_0 : decode cX5_putLocal 0 = .ok (.aload_n 0, 1) := by decide +kernel
theorem dX5_putLocal_1 : decode cX5_putLocal 1 = .ok (.ldc2_w 152, 3) := by decide +kernel
theorem dX5_putLocal_4 : decode cX5_putLocal 4 = .ok (.iconst 4, 1) := by decide +kernel
theorem dX5_putLocal_5 : decode cX5_putLocal 5 = .ok (.invokevirtual 131, 3) := by decide +kernel
theorem dX5_putLocal_8 : decode cX5_putLocal 8 = .ok (.aload_n 0, 1) := by decide +kernel
theorem dX5_putLocal_9 : decode cX5_putLocal 9 = .ok (.iload_n 1, 1) := by decide +kernel
theorem dX5_putLocal_10 : decode cX5_putLocal 10 = .ok (.iconst 1, 1) := by decide +kernel
theorem dX5_putLocal_11 : decode cX5_putLocal 11 = .ok (.invokevirtual 154, 3) := by decide +kernel
theorem dX5_putLocal_14 : decode cX5_putLocal 14 = .ok (.aload_n 0, 1) := by decide +kernel
theorem dX5_putLocal_15 : decode cX5_putLocal 15 = .ok (.iload_n 1, 1) := by decide +kernel
theorem dX5_putLocal_16 : decode cX5_putLocal 16 = .ok (.invokevirtual 158, 3) := by decide +kernel
theorem dX5_putLocal_19 : decode cX5_putLocal 19 = .ok (.iconst 0, 1) := by decide +kernel
theorem dX5_putLocal_20 : decode cX5_putLocal 20 = .ok (.istore_n 2, 1) := by decide +kernel
theorem dX5_putLocal_21 : decode cX5_putLocal 21 = .ok (.iload_n 2, 1) := by decide +kernel
theorem dX5_putLocal_22 : decode cX5_putLocal 22 = .ok (.aload_n 0, 1) := by decide +kernel
theorem dX5_putLocal_23 : decode cX5_putLocal 23 = .ok (.getfield 43, 3) := by decide +kernel
theorem dX5_putLocal_26 : decode cX5_putLocal 26 = .ok (.iload_n 1, 1) := by decide +kernel
theorem dX5_putLocal_27 : decode cX5_putLocal 27 = .ok (.iaload, 1) := by decide +kernel
theorem dX5_putLocal_28 : decode cX5_putLocal 28 = .ok (.if_icmp .ge 26, 3) := by decide +kernel
theorem dX5_putLocal_31 : decode cX5_putLocal 31 = .ok (.aload_n 0, 1) := by decide +kernel
theorem dX5_putLocal_32 : decode cX5_putLocal 32 = .ok (.aload_n 0, 1) := by decide +kernel
theorem dX5_putLocal_33 : decode cX5_putLocal 33 = .ok (.getfield 89, 3) := by decide +kernel
theorem dX5_putLocal_36 : decode cX5_putLocal 36 = .ok (.bipush 40, 2) := by decide +kernel
theorem dX5_putLocal_38 : decode cX5_putLocal 38 = .ok (.iload_n 1, 1) := by decide +kernel
theorem dX5_putLocal_39 : decode cX5_putLocal 39 = .ok (.imul, 1) := by decide +kernel
theorem dX5_putLocal_40 : decode cX5_putLocal 40 = .ok (.iload_n 2, 1) := by decide +kernel
theorem dX5_putLocal_41 : decode cX5_putLocal 41 = .ok (.iadd, 1) := by decide +kernel
theorem dX5_putLocal_42 : decode cX5_putLocal 42 = .ok (.iaload, 1) := by decide +kernel
theorem dX5_putLocal_43 : decode cX5_putLocal 43 = .ok (.i2l, 1) := by decide +kernel
theorem dX5_putLocal_44 : decode cX5_putLocal 44 = .ok (.iconst 1, 1) := by decide +kernel
theorem dX5_putLocal_45 : decode cX5_putLocal 45 = .ok (.invokevirtual 131, 3) := by decide +kernel
theorem dX5_putLocal_48 : decode cX5_putLocal 48 = .ok (.iinc 2 1, 3) := by decide +kernel
theorem dX5_putLocal_51 : decode cX5_putLocal 51 = .ok (.goto (-30), 3) := by decide +kernel
theorem dX5_putLocal_54 : decode cX5_putLocal 54 = .ok (.aload_n 0, 1) := by decide +kernel
theorem dX5_putLocal_55 : decode cX5_putLocal 55 = .ok (.getfield 75, 3) := by decide +kernel
theorem dX5_putLocal_58 : decode cX5_putLocal 58 = .ok (.iload_n 1, 1) := by decide +kernel
theorem dX5_putLocal_59 : decode cX5_putLocal 59 = .ok (.iaload, 1) := by decide +kernel
theorem dX5_putLocal_60 : decode cX5_putLocal 60 = .ok (.iconst 1, 1) := by decide +kernel
theorem dX5_putLocal_61 : decode cX5_putLocal 61 = .ok (.if_icmp .ne 45, 3) := by decide +kernel
theorem dX5_putLocal_64 : decode cX5_putLocal 64 = .ok (.aload_n 0, 1) := by decide +kernel
theorem dX5_putLocal_65 : decode cX5_putLocal 65 = .ok (.ldc2_w 161, 3) := by decide +kernel
theorem dX5_putLocal_68 : decode cX5_putLocal 68 = .ok (.iconst 4, 1) := by decide +kernel
theorem dX5_putLocal_69 : decode cX5_putLocal 69 = .ok (.invokevirtual 131, 3) := by decide +kernel
theorem dX5_putLocal_72 : decode cX5_putLocal 72 = .ok (.aload_n 0, 1) := by decide +kernel
theorem dX5_putLocal_73 : decode cX5_putLocal 73 = .ok (.aload_n 0, 1) := by decide +kernel
theorem dX5_putLocal_74 : decode cX5_putLocal 74 = .ok (.iload_n 1, 1) := by decide +kernel
theorem dX5_putLocal_75 : decode cX5_putLocal 75 = .ok (.invokevirtual 144, 3) := by decide +kernel
theorem dX5_putLocal_78 : decode cX5_putLocal 78 = .ok (.i2l, 1) := by decide +kernel
theorem dX5_putLocal_79 : decode cX5_putLocal 79 = .ok (.iconst 4, 1) := by decide +kernel
theorem dX5_putLocal_80 : decode cX5_putLocal 80 = .ok (.invokevirtual 131, 3) := by decide +kernel
theorem dX5_putLocal_83 : decode cX5_putLocal 83 = .ok (.aload_n 0, 1) := by decide +kernel
theorem dX5_putLocal_84 : decode cX5_putLocal 84 = .ok (.aload_n 0, 1) := by decide +kernel
theorem dX5_putLocal_85 : decode cX5_putLocal 85 = .ok (.getfield 43, 3) := by decide +kernel
theorem dX5_putLocal_88 : decode cX5_putLocal 88 = .ok (.iload_n 1, 1) := by decide +kernel
theorem dX5_putLocal_89 : decode cX5_putLocal 89 = .ok (.iaload, 1) := by decide +kernel
theorem dX5_putLocal_90 : decode cX5_putLocal 90 = .ok (.i2l, 1) := by decide +kernel
theorem dX5_putLocal_91 : decode cX5_putLocal 91 = .ok (.iconst 4, 1) := by decide +kernel
theorem dX5_putLocal_92 : decode cX5_putLocal 92 = .ok (.invokevirtual 131, 3) := by decide +kernel
theorem dX5_putLocal_95 : decode cX5_putLocal 95 = .ok (.aload_n 0, 1) := by decide +kernel
theorem dX5_putLocal_96 : decode cX5_putLocal 96 = .ok (.aload_n 0, 1) := by decide +kernel
theorem dX5_putLocal_97 : decode cX5_putLocal 97 = .ok (.iload_n 1, 1) := by decide +kernel
theorem dX5_putLocal_98 : decode cX5_putLocal 98 = .ok (.invokevirtual 137, 3) := by decide +kernel
theorem dX5_putLocal_101 : decode cX5_putLocal 101 = .ok (.i2l, 1) := by decide +kernel
theorem dX5_putLocal_102 : decode cX5_putLocal 102 = .ok (.iconst 4, 1) := by decide +kernel
theorem dX5_putLocal_103 : decode cX5_putLocal 103 = .ok (.invokevirtual 131, 3) := by decide +kernel
theorem dX5_putLocal_106 : decode cX5_putLocal 106 = .ok (.return_, 1) := by decide +kernel
theorem dX5_localLong_0 : decode cX5_localLong 0 = .ok (.bipush 30, 2) := by decide +kernel
theorem dX5_localLong_2 : decode cX5_localLong 2 = .ok (.aload_n 0, 1) := by decide +kernel
theorem dX5_localLong_3 : decode cX5_localLong 3 = .ok (.getfield 23, 3) := by decide +kernel
theorem dX5_localLong_6 : decode cX5_localLong 6 = .ok (.iload_n 1, 1) := by decide +kernel
theorem dX5_localLong_7 : decode cX5_localLong 7 = .ok (.iaload, 1) := by decide +kernel
theorem dX5_localLong_8 : decode cX5_localLong 8 = .ok (.iadd, 1) := by decide +kernel
theorem dX5_localLong_9 : decode cX5_localLong 9 = .ok (.aload_n 0, 1) := by decide +kernel
theorem dX5_localLong_10 : decode cX5_localLong 10 = .ok (.iload_n 1, 1) := by decide +kernel
theorem dX5_localLong_11 : decode cX5_localLong 11 = .ok (.invokevirtual 149, 3) := by decide +kernel
theorem dX5_localLong_14 : decode cX5_localLong 14 = .ok (.iadd, 1) := by decide +kernel
theorem dX5_localLong_15 : decode cX5_localLong 15 = .ok (.aload_n 0, 1) := by decide +kernel
theorem dX5_localLong_16 : decode cX5_localLong 16 = .ok (.getfield 43, 3) := by decide +kernel
theorem dX5_localLong_19 : decode cX5_localLong 19 = .ok (.iload_n 1, 1) := by decide +kernel
theorem dX5_localLong_20 : decode cX5_localLong 20 = .ok (.iaload, 1) := by decide +kernel
theorem dX5_localLong_21 : decode cX5_localLong 21 = .ok (.iadd, 1) := by decide +kernel
theorem dX5_localLong_22 : decode cX5_localLong 22 = .ok (.aload_n 0, 1) := by decide +kernel
theorem dX5_localLong_23 : decode cX5_localLong 23 = .ok (.getfield 75, 3) := by decide +kernel
theorem dX5_localLong_26 : decode cX5_localLong 26 = .ok (.iload_n 1, 1) := by decide +kernel
theorem dX5_localLong_27 : decode cX5_localLong 27 = .ok (.iaload, 1) := by decide +kernel
theorem dX5_localLong_28 : decode cX5_localLong 28 = .ok (.iconst 1, 1) := by decide +kernel
theorem dX5_localLong_29 : decode cX5_localLong 29 = .ok (.if_icmp .ne 8, 3) := by decide +kernel
theorem dX5_localLong_32 : decode cX5_localLong 32 = .ok (.bipush 16, 2) := by decide +kernel
theorem dX5_localLong_34 : decode cX5_localLong 34 = .ok (.goto 4, 3) := by decide +kernel
theorem dX5_localLong_37 : decode cX5_localLong 37 = .ok (.iconst 0, 1) := by decide +kernel
theorem dX5_localLong_38 : decode cX5_localLong 38 = .ok (.iadd, 1) := by decide +kernel
theorem dX5_localLong_39 : decode cX5_localLong 39 = .ok (.ireturn, 1) := by decide +kernel
theorem dX5_centreLong_0 : decode cX5_centreLong 0 = .ok (.bipush 46, 2) := by decide +kernel
theorem dX5_centreLong_2 : decode cX5_centreLong 2 = .ok (.aload_n 0, 1) := by decide +kernel
theorem dX5_centreLong_3 : decode cX5_centreLong 3 = .ok (.getfield 23, 3) := by decide +kernel
theorem dX5_centreLong_6 : decode cX5_centreLong 6 = .ok (.iload_n 1, 1) := by decide +kernel
theorem dX5_centreLong_7 : decode cX5_centreLong 7 = .ok (.iaload, 1) := by decide +kernel
theorem dX5_centreLong_8 : decode cX5_centreLong 8 = .ok (.iadd, 1) := by decide +kernel
theorem dX5_centreLong_9 : decode cX5_centreLong 9 = .ok (.aload_n 0, 1) := by decide +kernel
theorem dX5_centreLong_10 : decode cX5_centreLong 10 = .ok (.iload_n 1, 1) := by decide +kernel
theorem dX5_centreLong_11 : decode cX5_centreLong 11 = .ok (.invokevirtual 149, 3) := by decide +kernel
theorem dX5_centreLong_14 : decode cX5_centreLong 14 = .ok (.iadd, 1) := by decide +kernel
theorem dX5_centreLong_15 : decode cX5_centreLong 15 = .ok (.ireturn, 1) := by decide +kernel
theorem dX5_isBare_0 : decode cX5_isBare 0 = .ok (.iconst 0, 1) := by decide +kernel
theorem dX5_isBare_1 : decode cX5_isBare 1 = .ok (.istore_n 1, 1) := by decide +kernel
theorem dX5_isBare_2 : decode cX5_isBare 2 = .ok (.iload_n 1, 1) := by decide +kernel
theorem dX5_isBare_3 : decode cX5_isBare 3 = .ok (.aload_n 0, 1) := by decide +kernel
theorem dX5_isBare_4 : decode cX5_isBare 4 = .ok (.getfield 10, 3) := by decide +kernel
theorem dX5_isBare_7 : decode cX5_isBare 7 = .ok (.if_icmp .ge 30, 3) := by decide +kernel
theorem dX5_isBare_10 : decode cX5_isBare 10 = .ok (.aload_n 0, 1) := by decide +kernel
theorem dX5_isBare_11 : decode cX5_isBare 11 = .ok (.getfield 72, 3) := by decide +kernel
theorem dX5_isBare_14 : decode cX5_isBare 14 = .ok (.iload_n 1, 1) := by decide +kernel
theorem dX5_isBare_15 : decode cX5_isBare 15 = .ok (.iaload, 1) := by decide +kernel
theorem dX5_isBare_16 : decode cX5_isBare 16 = .ok (.iconst 2, 1) := by decide +kernel
theorem dX5_isBare_17 : decode cX5_isBare 17 = .ok (.if_icmp .eq 14, 3) := by decide +kernel
theorem dX5_isBare_20 : decode cX5_isBare 20 = .ok (.aload_n 0, 1) := by decide +kernel
theorem dX5_isBare_21 : decode cX5_isBare 21 = .ok (.getfield 39, 3) := by decide +kernel
theorem dX5_isBare_24 : decode cX5_isBare 24 = .ok (.iload_n 1, 1) := by decide +kernel
theorem dX5_isBare_25 : decode cX5_isBare 25 = .ok (.baload, 1) := by decide +kernel
theorem dX5_isBare_26 : decode cX5_isBare 26 = .ok (.ifCond .ne 5, 3) := by decide +kernel
theorem dX5_isBare_29 : decode cX5_isBare 29 = .ok (.iconst 1, 1) := by decide +kernel
theorem dX5_isBare_30 : decode cX5_isBare 30 = .ok (.ireturn, 1) := by decide +kernel
theorem dX5_isBare_31 : decode cX5_isBare 31 = .ok (.iinc 1 1, 3) := by decide +kernel
theorem dX5_isBare_34 : decode cX5_isBare 34 = .ok (.goto (-32), 3) := by decide +kernel
theorem dX5_isBare_37 : decode cX5_isBare 37 = .ok (.iconst 0, 1) := by decide +kernel
theorem dX5_isBare_38 : decode cX5_isBare 38 = .ok (.ireturn, 1) := by decide +kernel
theorem dX5_goes_0 : decode cX5_goes 0 = .ok (.aload_n 0, 1) := by decide +kernel
theorem dX5_goes_1 : decode cX5_goes 1 = .ok (.invokevirtual 163, 3) := by decide +kernel
theorem dX5_goes_4 : decode cX5_goes 4 = .ok (.ifCond .eq 9, 3) := by decide +kernel
theorem dX5_goes_7 : decode cX5_goes 7 = .ok (.aload_n 0, 1) := by decide +kernel
theorem dX5_goes_8 : decode cX5_goes 8 = .ok (.iconst 1, 1) := by decide +kernel
theorem dX5_goes_9 : decode cX5_goes 9 = .ok (.invokevirtual 85, 3) := by decide +kernel
theorem dX5_goes_12 : decode cX5_goes 12 = .ok (.ireturn, 1) := by decide +kernel
theorem dX5_goes_13 : decode cX5_goes 13 = .ok (.iload_n 2, 1) := by decide +kernel
theorem dX5_goes_14 : decode cX5_goes 14 = .ok (.bipush 22, 2) := by decide +kernel
theorem dX5_goes_16 : decode cX5_goes 16 = .ok (.iadd, 1) := by decide +kernel
theorem dX5_goes_17 : decode cX5_goes 17 = .ok (.aload_n 0, 1) := by decide +kernel
theorem dX5_goes_18 : decode cX5_goes 18 = .ok (.getfield 118, 3) := by decide +kernel
theorem dX5_goes_21 : decode cX5_goes 21 = .ok (.iadd, 1) := by decide +kernel
theorem dX5_goes_22 : decode cX5_goes 22 = .ok (.istore_n 3, 1) := by decide +kernel
theorem dX5_goes_23 : decode cX5_goes 23 = .ok (.iconst 0, 1) := by decide +kernel
theorem dX5_goes_24 : decode cX5_goes 24 = .ok (.istore 4, 2) := by decide +kernel
theorem dX5_goes_26 : decode cX5_goes 26 = .ok (.iload 4, 2) := by decide +kernel
theorem dX5_goes_28 : decode cX5_goes 28 = .ok (.aload_n 0, 1) := by decide +kernel
theorem dX5_goes_29 : decode cX5_goes 29 = .ok (.getfield 10, 3) := by decide +kernel
theorem dX5_goes_32 : decode cX5_goes 32 = .ok (.if_icmp .ge 35, 3) := by decide +kernel
theorem dX5_goes_35 : decode cX5_goes 35 = .ok (.iload_n 3, 1) := by decide +kernel
theorem dX5_goes_36 : decode cX5_goes 36 = .ok (.aload_n 0, 1) := by decide +kernel
theorem dX5_goes_37 : decode cX5_goes 37 = .ok (.iload 4, 2) := by decide +kernel
theorem dX5_goes_39 : decode cX5_goes 39 = .ok (.invokevirtual 167, 3) := by decide +kernel
theorem dX5_goes_42 : decode cX5_goes 42 = .ok (.iload 4, 2) := by decide +kernel
theorem dX5_goes_44 : decode cX5_goes 44 = .ok (.iload_n 1, 1) := by decide +kernel
theorem dX5_goes_45 : decode cX5_goes 45 = .ok (.if_icmp .ge 7, 3) := by decide +kernel
theorem dX5_goes_48 : decode cX5_goes 48 = .ok (.iconst 0, 1) := by decide +kernel
theorem dX5_goes_49 : decode cX5_goes 49 = .ok (.goto 9, 3) := by decide +kernel
theorem dX5_goes_52 : decode cX5_goes 52 = .ok (.aload_n 0, 1) := by decide +kernel
theorem dX5_goes_53 : decode cX5_goes 53 = .ok (.iload 4, 2) := by decide +kernel
theorem dX5_goes_55 : decode cX5_goes 55 = .ok (.invokevirtual 170, 3) := by decide +kernel
theorem dX5_goes_58 : decode cX5_goes 58 = .ok (.iadd, 1) := by decide +kernel
theorem dX5_goes_59 : decode cX5_goes 59 = .ok (.iadd, 1) := by decide +kernel
theorem dX5_goes_60 : decode cX5_goes 60 = .ok (.istore_n 3, 1) := by decide +kernel
theorem dX5_goes_61 : decode cX5_goes 61 = .ok (.iinc 4 1, 3) := by decide +kernel
theorem dX5_goes_64 : decode cX5_goes 64 = .ok (.goto (-38), 3) := by decide +kernel
theorem dX5_goes_67 : decode cX5_goes 67 = .ok (.iload_n 3, 1) := by decide +kernel
theorem dX5_goes_68 : decode cX5_goes 68 = .ok (.sipush 2000, 3) := by decide +kernel
theorem dX5_goes_71 : decode cX5_goes 71 = .ok (.if_icmp .le 6, 3) := by decide +kernel
theorem dX5_goes_74 : decode cX5_goes 74 = .ok (.bipush (-5), 2) := by decide +kernel
theorem dX5_goes_76 : decode cX5_goes 76 = .ok (.ireturn, 1) := by decide +kernel
theorem dX5_goes_77 : decode cX5_goes 77 = .ok (.aload_n 0, 1) := by decide +kernel
theorem dX5_goes_78 : decode cX5_goes 78 = .ok (.iload_n 2, 1) := by decide +kernel
theorem dX5_goes_79 : decode cX5_goes 79 = .ok (.putfield 125, 3) := by decide +kernel
theorem dX5_goes_82 : decode cX5_goes 82 = .ok (.iload_n 1, 1) := by decide +kernel
theorem dX5_goes_83 : decode cX5_goes 83 = .ok (.istore 4, 2) := by decide +kernel
theorem dX5_goes_85 : decode cX5_goes 85 = .ok (.iload 4, 2) := by decide +kernel
theorem dX5_goes_87 : decode cX5_goes 87 = .ok (.aload_n 0, 1) := by decide +kernel
theorem dX5_goes_88 : decode cX5_goes 88 = .ok (.getfield 10, 3) := by decide +kernel
theorem dX5_goes_91 : decode cX5_goes 91 = .ok (.if_icmp .ge 26, 3) := by decide +kernel
theorem dX5_goes_94 : decode cX5_goes 94 = .ok (.aload_n 0, 1) := by decide +kernel
theorem dX5_goes_95 : decode cX5_goes 95 = .ok (.getfield 55, 3) := by decide +kernel
theorem dX5_goes_98 : decode cX5_goes 98 = .ok (.iload 4, 2) := by decide +kernel
theorem dX5_goes_100 : decode cX5_goes 100 = .ok (.aload_n 0, 1) := by decide +kernel
theorem dX5_goes_101 : decode cX5_goes 101 = .ok (.getfield 125, 3) := by decide +kernel
theorem dX5_goes_104 : decode cX5_goes 104 = .ok (.iastore, 1) := by decide +kernel
theorem dX5_goes_105 : decode cX5_goes 105 = .ok (.aload_n 0, 1) := by decide +kernel
theorem dX5_goes_106 : decode cX5_goes 106 = .ok (.iload 4, 2) := by decide +kernel
theorem dX5_goes_108 : decode cX5_goes 108 = .ok (.invokevirtual 173, 3) := by decide +kernel
theorem dX5_goes_111 : decode cX5_goes 111 = .ok (.iinc 4 1, 3) := by decide +kernel
theorem dX5_goes_114 : decode cX5_goes 114 = .ok (.goto (-29), 3) := by decide +kernel
theorem dX5_goes_117 : decode cX5_goes 117 = .ok (.aload_n 0, 1) := by decide +kernel
theorem dX5_goes_118 : decode cX5_goes 118 = .ok (.getfield 125, 3) := by decide +kernel
theorem dX5_goes_121 : decode cX5_goes 121 = .ok (.istore 4, 2) := by decide +kernel
theorem dX5_goes_123 : decode cX5_goes 123 = .ok (.iconst 0, 1) := by decide +kernel
theorem dX5_goes_124 : decode cX5_goes 124 = .ok (.istore 5, 2) := by decide +kernel
theorem dX5_goes_126 : decode cX5_goes 126 = .ok (.iload 5, 2) := by decide +kernel
theorem dX5_goes_128 : decode cX5_goes 128 = .ok (.aload_n 0, 1) := by decide +kernel
theorem dX5_goes_129 : decode cX5_goes 129 = .ok (.getfield 10, 3) := by decide +kernel
theorem dX5_goes_132 : decode cX5_goes 132 = .ok (.if_icmp .ge 71, 3) := by decide +kernel
theorem dX5_goes_135 : decode cX5_goes 135 = .ok (.aload_n 0, 1) := by decide +kernel
theorem dX5_goes_136 : decode cX5_goes 136 = .ok (.ldc2_w 176, 3) := by decide +kernel
theorem dX5_goes_139 : decode cX5_goes 139 = .ok (.iconst 4, 1) := by decide +kernel
theorem dX5_goes_140 : decode cX5_goes 140 = .ok (.invokevirtual 131, 3) := by decide +kernel
theorem dX5_goes_143 : decode cX5_goes 143 = .ok (.aload_n 0, 1) := by decide +kernel
theorem dX5_goes_144 : decode cX5_goes 144 = .ok (.ldc2_w 142, 3) := by decide +kernel
theorem dX5_goes_147 : decode cX5_goes 147 = .ok (.iconst 2, 1) := by decide +kernel
theorem dX5_goes_148 : decode cX5_goes 148 = .ok (.invokevirtual 131, 3) := by decide +kernel
theorem dX5_goes_151 : decode cX5_goes 151 = .ok (.aload_n 0, 1) := by decide +kernel
theorem dX5_goes_152 : decode cX5_goes 152 = .ok (.iload 5, 2) := by decide +kernel
theorem dX5_goes_154 : decode cX5_goes 154 = .ok (.iconst 0, 1) := by decide +kernel
theorem dX5_goes_155 : decode cX5_goes 155 = .ok (.invokevirtual 154, 3) := by decide +kernel
theorem dX5_goes_158 : decode cX5_goes 158 = .ok (.aload_n 0, 1) := by decide +kernel
theorem dX5_goes_159 : decode cX5_goes 159 = .ok (.lconst 0, 1) := by decide +kernel
theorem dX5_goes_160 : decode cX5_goes 160 = .ok (.bipush 6, 2) := by decide +kernel
theorem dX5_goes_162 : decode cX5_goes 162 = .ok (.invokevirtual 131, 3) := by decide +kernel
theorem dX5_goes_165 : decode cX5_goes 165 = .ok (.aload_n 0, 1) := by decide +kernel
theorem dX5_goes_166 : decode cX5_goes 166 = .ok (.aload_n 0, 1) := by decide +kernel
theorem dX5_goes_167 : decode cX5_goes 167 = .ok (.getfield 33, 3) := by decide +kernel
theorem dX5_goes_170 : decode cX5_goes 170 = .ok (.iload 5, 2) := by decide +kernel
theorem dX5_goes_172 : decode cX5_goes 172 = .ok (.iaload, 1) := by decide +kernel
theorem dX5_goes_173 : decode cX5_goes 173 = .ok (.i2l, 1) := by decide +kernel
theorem dX5_goes_174 : decode cX5_goes 174 = .ok (.iconst 4, 1) := by decide +kernel
theorem dX5_goes_175 : decode cX5_goes 175 = .ok (.invokevirtual 131, 3) := by decide +kernel
theorem dX5_goes_178 : decode cX5_goes 178 = .ok (.aload_n 0, 1) := by decide +kernel
theorem dX5_goes_179 : decode cX5_goes 179 = .ok (.aload_n 0, 1) := by decide +kernel
theorem dX5_goes_180 : decode cX5_goes 180 = .ok (.getfield 55, 3) := by decide +kernel
theorem dX5_goes_183 : decode cX5_goes 183 = .ok (.iload 5, 2) := by decide +kernel
theorem dX5_goes_185 : decode cX5_goes 185 = .ok (.iaload, 1) := by decide +kernel
theorem dX5_goes_186 : decode cX5_goes 186 = .ok (.i2l, 1) := by decide +kernel
theorem dX5_goes_187 : decode cX5_goes 187 = .ok (.iconst 4, 1) := by decide +kernel
theorem dX5_goes_188 : decode cX5_goes 188 = .ok (.invokevirtual 131, 3) := by decide +kernel
theorem dX5_goes_191 : decode cX5_goes 191 = .ok (.aload_n 0, 1) := by decide +kernel
theorem dX5_goes_192 : decode cX5_goes 192 = .ok (.iload 5, 2) := by decide +kernel
theorem dX5_goes_194 : decode cX5_goes 194 = .ok (.invokevirtual 158, 3) := by decide +kernel
theorem dX5_goes_197 : decode cX5_goes 197 = .ok (.iinc 5 1, 3) := by decide +kernel
theorem dX5_goes_200 : decode cX5_goes 200 = .ok (.goto (-74), 3) := by decide +kernel
theorem dX5_goes_203 : decode cX5_goes 203 = .ok (.aload_n 0, 1) := by decide +kernel
theorem dX5_goes_204 : decode cX5_goes 204 = .ok (.getfield 125, 3) := by decide +kernel
theorem dX5_goes_207 : decode cX5_goes 207 = .ok (.istore 5, 2) := by decide +kernel
theorem dX5_goes_209 : decode cX5_goes 209 = .ok (.aload_n 0, 1) := by decide +kernel
theorem dX5_goes_210 : decode cX5_goes 210 = .ok (.ldc2_w 178, 3) := by decide +kernel
theorem dX5_goes_213 : decode cX5_goes 213 = .ok (.iconst 4, 1) := by decide +kernel
theorem dX5_goes_214 : decode cX5_goes 214 = .ok (.invokevirtual 131, 3) := by decide +kernel
theorem dX5_goes_217 : decode cX5_goes 217 = .ok (.aload_n 0, 1) := by decide +kernel
theorem dX5_goes_218 : decode cX5_goes 218 = .ok (.lconst 0, 1) := by decide +kernel
theorem dX5_goes_219 : decode cX5_goes 219 = .ok (.iconst 4, 1) := by decide +kernel
theorem dX5_goes_220 : decode cX5_goes 220 = .ok (.invokevirtual 131, 3) := by decide +kernel
theorem dX5_goes_223 : decode cX5_goes 223 = .ok (.aload_n 0, 1) := by decide +kernel
theorem dX5_goes_224 : decode cX5_goes 224 = .ok (.aload_n 0, 1) := by decide +kernel
theorem dX5_goes_225 : decode cX5_goes 225 = .ok (.getfield 10, 3) := by decide +kernel
theorem dX5_goes_228 : decode cX5_goes 228 = .ok (.i2l, 1) := by decide +kernel
theorem dX5_goes_229 : decode cX5_goes 229 = .ok (.iconst 2, 1) := by decide +kernel
theorem dX5_goes_230 : decode cX5_goes 230 = .ok (.invokevirtual 131, 3) := by decide +kernel
theorem dX5_goes_233 : decode cX5_goes 233 = .ok (.aload_n 0, 1) := by decide +kernel
theorem dX5_goes_234 : decode cX5_goes 234 = .ok (.aload_n 0, 1) := by decide +kernel
theorem dX5_goes_235 : decode cX5_goes 235 = .ok (.getfield 10, 3) := by decide +kernel
theorem dX5_goes_238 : decode cX5_goes 238 = .ok (.i2l, 1) := by decide +kernel
theorem dX5_goes_239 : decode cX5_goes 239 = .ok (.iconst 2, 1) := by decide +kernel
theorem dX5_goes_240 : decode cX5_goes 240 = .ok (.invokevirtual 131, 3) := by decide +kernel
theorem dX5_goes_243 : decode cX5_goes 243 = .ok (.aload_n 0, 1) := by decide +kernel
theorem dX5_goes_244 : decode cX5_goes 244 = .ok (.iload 5, 2) := by decide +kernel
theorem dX5_goes_246 : decode cX5_goes 246 = .ok (.iload 4, 2) := by decide +kernel
theorem dX5_goes_248 : decode cX5_goes 248 = .ok (.isub, 1) := by decide +kernel
theorem dX5_goes_249 : decode cX5_goes 249 = .ok (.i2l, 1) := by decide +kernel
theorem dX5_goes_250 : decode cX5_goes 250 = .ok (.iconst 4, 1) := by decide +kernel
theorem dX5_goes_251 : decode cX5_goes 251 = .ok (.invokevirtual 131, 3) := by decide +kernel
theorem dX5_goes_254 : decode cX5_goes 254 = .ok (.aload_n 0, 1) := by decide +kernel
theorem dX5_goes_255 : decode cX5_goes 255 = .ok (.iload 4, 2) := by decide +kernel
theorem dX5_goes_257 : decode cX5_goes 257 = .ok (.i2l, 1) := by decide +kernel
theorem dX5_goes_258 : decode cX5_goes 258 = .ok (.iconst 4, 1) := by decide +kernel
theorem dX5_goes_259 : decode cX5_goes 259 = .ok (.invokevirtual 131, 3) := by decide +kernel
theorem dX5_goes_262 : decode cX5_goes 262 = .ok (.aload_n 0, 1) := by decide +kernel
theorem dX5_goes_263 : decode cX5_goes 263 = .ok (.aload_n 0, 1) := by decide +kernel
theorem dX5_goes_264 : decode cX5_goes 264 = .ok (.getfield 118, 3) := by decide +kernel
theorem dX5_goes_267 : decode cX5_goes 267 = .ok (.i2l, 1) := by decide +kernel
theorem dX5_goes_268 : decode cX5_goes 268 = .ok (.iconst 2, 1) := by decide +kernel
theorem dX5_goes_269 : decode cX5_goes 269 = .ok (.invokevirtual 131, 3) := by decide +kernel
theorem dX5_goes_272 : decode cX5_goes 272 = .ok (.iconst 0, 1) := by decide +kernel
theorem dX5_goes_273 : decode cX5_goes 273 = .ok (.istore 6, 2) := by decide +kernel
theorem dX5_goes_275 : decode cX5_goes 275 = .ok (.iload 6, 2) := by decide +kernel
theorem dX5_goes_277 : decode cX5_goes 277 = .ok (.aload_n 0, 1) := by decide +kernel
theorem dX5_goes_278 : decode cX5_goes 278 = .ok (.getfield 118, 3) := by decide +kernel
theorem dX5_goes_281 : decode cX5_goes 281 = .ok (.if_icmp .ge 22, 3) := by decide +kernel
theorem dX5_goes_284 : decode cX5_goes 284 = .ok (.aload_n 0, 1) := by decide +kernel
theorem dX5_goes_285 : decode cX5_goes 285 = .ok (.aload_n 0, 1) := by decide +kernel
theorem dX5_goes_286 : decode cX5_goes 286 = .ok (.getfield 115, 3) := by decide +kernel
theorem dX5_goes_289 : decode cX5_goes 289 = .ok (.iload 6, 2) := by decide +kernel
theorem dX5_goes_291 : decode cX5_goes 291 = .ok (.iaload, 1) := by decide +kernel
theorem dX5_goes_292 : decode cX5_goes 292 = .ok (.i2l, 1) := by decide +kernel
theorem dX5_goes_293 : decode cX5_goes 293 = .ok (.iconst 1, 1) := by decide +kernel
theorem dX5_goes_294 : decode cX5_goes 294 = .ok (.invokevirtual 131, 3) := by decide +kernel
theorem dX5_goes_297 : decode cX5_goes 297 = .ok (.iinc 6 1, 3) := by decide +kernel
theorem dX5_goes_300 : decode cX5_goes 300 = .ok (.goto (-25), 3) := by decide +kernel
theorem dX5_goes_303 : decode cX5_goes 303 = .ok (.aload_n 0, 1) := by decide +kernel
theorem dX5_goes_304 : decode cX5_goes 304 = .ok (.aload_n 0, 1) := by decide +kernel
theorem dX5_goes_305 : decode cX5_goes 305 = .ok (.getfield 125, 3) := by decide +kernel
theorem dX5_goes_308 : decode cX5_goes 308 = .ok (.putfield 180, 3) := by decide +kernel
theorem dX5_goes_311 : decode cX5_goes 311 = .ok (.aload_n 0, 1) := by decide +kernel
theorem dX5_goes_312 : decode cX5_goes 312 = .ok (.getfield 180, 3) := by decide +kernel
theorem dX5_goes_315 : decode cX5_goes 315 = .ok (.ireturn, 1) := by decide +kernel
theorem dX5_write_0 : decode cX5_write 0 = .ok (.aload_n 0, 1) := by decide +kernel
theorem dX5_write_1 : decode cX5_write 1 = .ok (.iconst 0, 1) := by decide +kernel
theorem dX5_write_2 : decode cX5_write 2 = .ok (.putfield 1, 3) := by decide +kernel
theorem dX5_write_5 : decode cX5_write 5 = .ok (.aload_n 0, 1) := by decide +kernel
theorem dX5_write_6 : decode cX5_write 6 = .ok (.iconst 0, 1) := by decide +kernel
theorem dX5_write_7 : decode cX5_write 7 = .ok (.iconst 0, 1) := by decide +kernel
theorem dX5_write_8 : decode cX5_write 8 = .ok (.invokevirtual 183, 3) := by decide +kernel
theorem dX5_write_11 : decode cX5_write 11 = .ok (.ireturn, 1) := by decide +kernel
theorem dX5_add_0 : decode cX5_add 0 = .ok (.aload_n 0, 1) := by decide +kernel
theorem dX5_add_1 : decode cX5_add 1 = .ok (.iconst 0, 1) := by decide +kernel
theorem dX5_add_2 : decode cX5_add 2 = .ok (.putfield 1, 3) := by decide +kernel
theorem dX5_add_5 : decode cX5_add 5 = .ok (.iload_n 1, 1) := by decide +kernel
theorem dX5_add_6 : decode cX5_add 6 = .ok (.i2l, 1) := by decide +kernel
theorem dX5_add_7 : decode cX5_add 7 = .ok (.lconst 0, 1) := by decide +kernel
theorem dX5_add_8 : decode cX5_add 8 = .ok (.aload_n 0, 1) := by decide +kernel
theorem dX5_add_9 : decode cX5_add 9 = .ok (.getfield 10, 3) := by decide +kernel
theorem dX5_add_12 : decode cX5_add 12 = .ok (.i2l, 1) := by decide +kernel
theorem dX5_add_13 : decode cX5_add 13 = .ok (.invokestatic 13, 3) := by decide +kernel
theorem dX5_add_16 : decode cX5_add 16 = .ok (.ifCond .ne 6, 3) := by decide +kernel
theorem dX5_add_19 : decode cX5_add 19 = .ok (.bipush (-2), 2) := by decide +kernel
theorem dX5_add_21 : decode cX5_add 21 = .ok (.ireturn, 1) := by decide +kernel
theorem dX5_add_22 : decode cX5_add 22 = .ok (.iconst 0, 1) := by decide +kernel
theorem dX5_add_23 : decode cX5_add 23 = .ok (.istore_n 2, 1) := by decide +kernel
theorem dX5_add_24 : decode cX5_add 24 = .ok (.iload_n 2, 1) := by decide +kernel
theorem dX5_add_25 : decode cX5_add 25 = .ok (.iload_n 1, 1) := by decide +kernel
theorem dX5_add_26 : decode cX5_add 26 = .ok (.if_icmp .ge 21, 3) := by decide +kernel
theorem dX5_add_29 : decode cX5_add 29 = .ok (.aload_n 0, 1) := by decide +kernel
theorem dX5_add_30 : decode cX5_add 30 = .ok (.getfield 55, 3) := by decide +kernel
theorem dX5_add_33 : decode cX5_add 33 = .ok (.iload_n 2, 1) := by decide +kernel
theorem dX5_add_34 : decode cX5_add 34 = .ok (.iaload, 1) := by decide +kernel
theorem dX5_add_35 : decode cX5_add 35 = .ok (.ifCond .ge 6, 3) := by decide +kernel
theorem dX5_add_38 : decode cX5_add 38 = .ok (.bipush (-4), 2) := by decide +kernel
theorem dX5_add_40 : decode cX5_add 40 = .ok (.ireturn, 1) := by decide +kernel
theorem dX5_add_41 : decode cX5_add 41 = .ok (.iinc 2 1, 3) := by decide +kernel
theorem dX5_add_44 : decode cX5_add 44 = .ok (.goto (-20), 3) := by decide +kernel
theorem dX5_add_47 : decode cX5_add 47 = .ok (.aload_n 0, 1) := by decide +kernel
theorem dX5_add_48 : decode cX5_add 48 = .ok (.iload_n 1, 1) := by decide +kernel
theorem dX5_add_49 : decode cX5_add 49 = .ok (.aload_n 0, 1) := by decide +kernel
theorem dX5_add_50 : decode cX5_add 50 = .ok (.getfield 180, 3) := by decide +kernel
theorem dX5_add_53 : decode cX5_add 53 = .ok (.invokevirtual 183, 3) := by decide +kernel
theorem dX5_add_56 : decode cX5_add 56 = .ok (.ireturn, 1) := by decide +kernel
theorem dX5_want_0 : decode cX5_want 0 = .ok (.iload_n 1, 1) := by decide +kernel
theorem dX5_want_1 : decode cX5_want 1 = .ok (.ifCond .ne 21, 3) := by decide +kernel
theorem dX5_want_4 : decode cX5_want 4 = .ok (.aload_n 0, 1) := by decide +kernel
theorem dX5_want_5 : decode cX5_want 5 = .ok (.getfield 187, 3) := by decide +kernel
theorem dX5_want_8 : decode cX5_want 8 = .ok (.ifCond .ne 14, 3) := by decide +kernel
theorem dX5_want_11 : decode cX5_want 11 = .ok (.aload_n 0, 1) := by decide +kernel
theorem dX5_want_12 : decode cX5_want 12 = .ok (.iload_n 2, 1) := by decide +kernel
theorem dX5_want_13 : decode cX5_want 13 = .ok (.putfield 187, 3) := by decide +kernel
theorem dX5_want_16 : decode cX5_want 16 = .ok (.aload_n 0, 1) := by decide +kernel
theorem dX5_want_17 : decode cX5_want 17 = .ok (.lload_n 3, 1) := by decide +kernel
theorem dX5_want_18 : decode cX5_want 18 = .ok (.l2i, 1) := by decide +kernel
theorem dX5_want_19 : decode cX5_want 19 = .ok (.putfield 190, 3) := by decide +kernel
theorem dX5_want_22 : decode cX5_want 22 = .ok (.aload_n 0, 1) := by decide +kernel
theorem dX5_want_23 : decode cX5_want 23 = .ok (.getfield 187, 3) := by decide +kernel
theorem dX5_want_26 : decode cX5_want 26 = .ok (.ifCond .ne 7, 3) := by decide +kernel
theorem dX5_want_29 : decode cX5_want 29 = .ok (.iconst 1, 1) := by decide +kernel
theorem dX5_want_30 : decode cX5_want 30 = .ok (.goto 4, 3) := by decide +kernel
theorem dX5_want_33 : decode cX5_want 33 = .ok (.iconst 0, 1) := by decide +kernel
theorem dX5_want_34 : decode cX5_want 34 = .ok (.ireturn, 1) := by decide +kernel
theorem dX5_two_0 : decode cX5_two 0 = .ok (.aload_n 0, 1) := by decide +kernel
theorem dX5_two_1 : decode cX5_two 1 = .ok (.getfield 128, 3) := by decide +kernel
theorem dX5_two_4 : decode cX5_two 4 = .ok (.iload_n 1, 1) := by decide +kernel
theorem dX5_two_5 : decode cX5_two 5 = .ok (.iaload, 1) := by decide +kernel
theorem dX5_two_6 : decode cX5_two 6 = .ok (.aload_n 0, 1) := by decide +kernel
theorem dX5_two_7 : decode cX5_two 7 = .ok (.getfield 128, 3) := by decide +kernel
theorem dX5_two_10 : decode cX5_two 10 = .ok (.iload_n 1, 1) := by decide +kernel
theorem dX5_two_11 : decode cX5_two 11 = .ok (.iconst 1, 1) := by decide +kernel
theorem dX5_two_12 : decode cX5_two 12 = .ok (.iadd, 1) := by decide +kernel
theorem dX5_two_13 : decode cX5_two 13 = .ok (.iaload, 1) := by decide +kernel
theorem dX5_two_14 : decode cX5_two 14 = .ok (.bipush 8, 2) := by decide +kernel
theorem dX5_two_16 : decode cX5_two 16 = .ok (.ishl, 1) := by decide +kernel
theorem dX5_two_17 : decode cX5_two 17 = .ok (.ior, 1) := by decide +kernel
theorem dX5_two_18 : decode cX5_two 18 = .ok (.ireturn, 1) := by decide +kernel
theorem dX5_four_0 : decode cX5_four 0 = .ok (.aload_n 0, 1) := by decide +kernel
theorem dX5_four_1 : decode cX5_four 1 = .ok (.iload_n 1, 1) := by decide +kernel
theorem dX5_four_2 : decode cX5_four 2 = .ok (.invokevirtual 193, 3) := by decide +kernel
theorem dX5_four_5 : decode cX5_four 5 = .ok (.i2l, 1) := by decide +kernel
theorem dX5_four_6 : decode cX5_four 6 = .ok (.aload_n 0, 1) := by decide +kernel
theorem dX5_four_7 : decode cX5_four 7 = .ok (.iload_n 1, 1) := by decide +kernel
theorem dX5_four_8 : decode cX5_four 8 = .ok (.iconst 2, 1) := by decide +kernel
theorem dX5_four_9 : decode cX5_four 9 = .ok (.iadd, 1) := by decide +kernel
theorem dX5_four_10 : decode cX5_four 10 = .ok (.invokevirtual 193, 3) := by decide +kernel
theorem dX5_four_13 : decode cX5_four 13 = .ok (.i2l, 1) := by decide +kernel
theorem dX5_four_14 : decode cX5_four 14 = .ok (.bipush 16, 2) := by decide +kernel
theorem dX5_four_16 : decode cX5_four 16 = .ok (.lshl, 1) := by decide +kernel
theorem dX5_four_17 : decode cX5_four 17 = .ok (.lor, 1) := by decide +kernel
theorem dX5_four_18 : decode cX5_four 18 = .ok (.lreturn, 1) := by decide +kernel
theorem dX5_eight_0 : decode cX5_eight 0 = .ok (.aload_n 0, 1) := by decide +kernel
theorem dX5_eight_1 : decode cX5_eight 1 = .ok (.iload_n 1, 1) := by decide +kernel
theorem dX5_eight_2 : decode cX5_eight 2 = .ok (.invokevirtual 196, 3) := by decide +kernel
theorem dX5_eight_5 : decode cX5_eight 5 = .ok (.aload_n 0, 1) := by decide +kernel
theorem dX5_eight_6 : decode cX5_eight 6 = .ok (.iload_n 1, 1) := by decide +kernel
theorem dX5_eight_7 : decode cX5_eight 7 = .ok (.iconst 4, 1) := by decide +kernel
theorem dX5_eight_8 : decode cX5_eight 8 = .ok (.iadd, 1) := by decide +kernel
theorem dX5_eight_9 : decode cX5_eight 9 = .ok (.invokevirtual 196, 3) := by decide +kernel
theorem dX5_eight_12 : decode cX5_eight 12 = .ok (.bipush 32, 2) := by decide +kernel
theorem dX5_eight_14 : decode cX5_eight 14 = .ok (.lshl, 1) := by decide +kernel
theorem dX5_eight_15 : decode cX5_eight 15 = .ok (.lor, 1) := by decide +kernel
theorem dX5_eight_16 : decode cX5_eight 16 = .ok (.lreturn, 1) := by decide +kernel
theorem dX5_findEnd_0 : decode cX5_findEnd 0 = .ok (.aload_n 0, 1) := by decide +kernel
theorem dX5_findEnd_1 : decode cX5_findEnd 1 = .ok (.getfield 180, 3) := by decide +kernel
theorem dX5_findEnd_4 : decode cX5_findEnd 4 = .ok (.bipush 22, 2) := by decide +kernel
theorem dX5_findEnd_6 : decode cX5_findEnd 6 = .ok (.isub, 1) := by decide +kernel
theorem dX5_findEnd_7 : decode cX5_findEnd 7 = .ok (.istore_n 1, 1) := by decide +kernel
theorem dX5_findEnd_8 : decode cX5_findEnd 8 = .ok (.iconst 0, 1) := by decide +kernel
theorem dX5_findEnd_9 : decode cX5_findEnd 9 = .ok (.istore_n 2, 1) := by decide +kernel
theorem dX5_findEnd_10 : decode cX5_findEnd 10 = .ok (.iload_n 1, 1) := by decide +kernel
theorem dX5_findEnd_11 : decode cX5_findEnd 11 = .ok (.ifCond .lt 73, 3) := by decide +kernel
theorem dX5_findEnd_14 : decode cX5_findEnd 14 = .ok (.iload_n 2, 1) := by decide +kernel
theorem dX5_findEnd_15 : decode cX5_findEnd 15 = .ok (.ifCond .ne 69, 3) := by decide +kernel
theorem dX5_findEnd_18 : decode cX5_findEnd 18 = .ok (.aload_n 0, 1) := by decide +kernel
theorem dX5_findEnd_19 : decode cX5_findEnd 19 = .ok (.iload_n 1, 1) := by decide +kernel
theorem dX5_findEnd_20 : decode cX5_findEnd 20 = .ok (.invokevirtual 196, 3) := by decide +kernel
theorem dX5_findEnd_23 : decode cX5_findEnd 23 = .ok (.ldc2_w 178, 3) := by decide +kernel
theorem dX5_findEnd_26 : decode cX5_findEnd 26 = .ok (.lcmp, 1) := by decide +kernel
theorem dX5_findEnd_27 : decode cX5_findEnd 27 = .ok (.ifCond .ne 40, 3) := by decide +kernel
theorem dX5_findEnd_30 : decode cX5_findEnd 30 = .ok (.aload_n 0, 1) := by decide +kernel
theorem dX5_findEnd_31 : decode cX5_findEnd 31 = .ok (.iload_n 1, 1) := by decide +kernel
theorem dX5_findEnd_32 : decode cX5_findEnd 32 = .ok (.bipush 20, 2) := by decide +kernel
theorem dX5_findEnd_34 : decode cX5_findEnd 34 = .ok (.iadd, 1) := by decide +kernel
theorem dX5_findEnd_35 : decode cX5_findEnd 35 = .ok (.invokevirtual 193, 3) := by decide +kernel
theorem dX5_findEnd_38 : decode cX5_findEnd 38 = .ok (.bipush 12, 2) := by decide +kernel
theorem dX5_findEnd_40 : decode cX5_findEnd 40 = .ok (.if_icmp .gt 27, 3) := by decide +kernel
theorem dX5_findEnd_43 : decode cX5_findEnd 43 = .ok (.iload_n 1, 1) := by decide +kernel
theorem dX5_findEnd_44 : decode cX5_findEnd 44 = .ok (.bipush 22, 2) := by decide +kernel
theorem dX5_findEnd_46 : decode cX5_findEnd 46 = .ok (.iadd, 1) := by decide +kernel
theorem dX5_findEnd_47 : decode cX5_findEnd 47 = .ok (.aload_n 0, 1) := by decide +kernel
theorem dX5_findEnd_48 : decode cX5_findEnd 48 = .ok (.iload_n 1, 1) := by decide +kernel
theorem dX5_findEnd_49 : decode cX5_findEnd 49 = .ok (.bipush 20, 2) := by decide +kernel
theorem dX5_findEnd_51 : decode cX5_findEnd 51 = .ok (.iadd, 1) := by decide +kernel
theorem dX5_findEnd_52 : decode cX5_findEnd 52 = .ok (.invokevirtual 193, 3) := by decide +kernel
theorem dX5_findEnd_55 : decode cX5_findEnd 55 = .ok (.iadd, 1) := by decide +kernel
theorem dX5_findEnd_56 : decode cX5_findEnd 56 = .ok (.aload_n 0, 1) := by decide +kernel
theorem dX5_findEnd_57 : decode cX5_findEnd 57 = .ok (.getfield 180, 3) := by decide +kernel
theorem dX5_findEnd_60 : decode cX5_findEnd 60 = .ok (.if_icmp .ne 7, 3) := by decide +kernel
theorem dX5_findEnd_63 : decode cX5_findEnd 63 = .ok (.iconst 1, 1) := by decide +kernel
theorem dX5_findEnd_64 : decode cX5_findEnd 64 = .ok (.goto 4, 3) := by decide +kernel
theorem dX5_findEnd_67 : decode cX5_findEnd 67 = .ok (.iconst 0, 1) := by decide +kernel
theorem dX5_findEnd_68 : decode cX5_findEnd 68 = .ok (.istore_n 2, 1) := by decide +kernel
theorem dX5_findEnd_69 : decode cX5_findEnd 69 = .ok (.iload_n 1, 1) := by decide +kernel
theorem dX5_findEnd_70 : decode cX5_findEnd 70 = .ok (.iload_n 2, 1) := by decide +kernel
theorem dX5_findEnd_71 : decode cX5_findEnd 71 = .ok (.ifCond .eq 7, 3) := by decide +kernel
theorem dX5_findEnd_74 : decode cX5_findEnd 74 = .ok (.iconst 0, 1) := by decide +kernel
theorem dX5_findEnd_75 : decode cX5_findEnd 75 = .ok (.goto 4, 3) := by decide +kernel
theorem dX5_findEnd_78 : decode cX5_findEnd 78 = .ok (.iconst 1, 1) := by decide +kernel
theorem dX5_findEnd_79 : decode cX5_findEnd 79 = .ok (.isub, 1) := by decide +kernel
theorem dX5_findEnd_80 : decode cX5_findEnd 80 = .ok (.istore_n 1, 1) := by decide +kernel
theorem dX5_findEnd_81 : decode cX5_findEnd 81 = .ok (.goto (-71), 3) := by decide +kernel
theorem dX5_findEnd_84 : decode cX5_findEnd 84 = .ok (.aload_n 0, 1) := by decide +kernel
theorem dX5_findEnd_85 : decode cX5_findEnd 85 = .ok (.iload_n 2, 1) := by decide +kernel
theorem dX5_findEnd_86 : decode cX5_findEnd 86 = .ok (.iconst 1, 1) := by decide +kernel
theorem dX5_findEnd_87 : decode cX5_findEnd 87 = .ok (.aload_n 0, 1) := by decide +kernel
theorem dX5_findEnd_88 : decode cX5_findEnd 88 = .ok (.getfield 180, 3) := by decide +kernel
theorem dX5_findEnd_91 : decode cX5_findEnd 91 = .ok (.i2l, 1) := by decide +kernel
theorem dX5_findEnd_92 : decode cX5_findEnd 92 = .ok (.invokevirtual 200, 3) := by decide +kernel
theorem dX5_findEnd_95 : decode cX5_findEnd 95 = .ok (.ifCond .ne 4, 3) := by decide +kernel
theorem dX5_findEnd_98 : decode cX5_findEnd 98 = .ok (.return_, 1) := by decide +kernel
theorem dX5_findEnd_99 : decode cX5_findEnd 99 = .ok (.aload_n 0, 1) := by decide +kernel
theorem dX5_findEnd_100 : decode cX5_findEnd 100 = .ok (.iload_n 1, 1) := by decide +kernel
theorem dX5_findEnd_101 : decode cX5_findEnd 101 = .ok (.putfield 204, 3) := by decide +kernel
theorem dX5_findEnd_104 : decode cX5_findEnd 104 = .ok (.aload_n 0, 1) := by decide +kernel
theorem dX5_findEnd_105 : decode cX5_findEnd 105 = .ok (.aload_n 0, 1) := by decide +kernel
theorem dX5_findEnd_106 : decode cX5_findEnd 106 = .ok (.iload_n 1, 1) := by decide +kernel
theorem dX5_findEnd_107 : decode cX5_findEnd 107 = .ok (.bipush 8, 2) := by decide +kernel
theorem dX5_findEnd_109 : decode cX5_findEnd 109 = .ok (.iadd, 1) := by decide +kernel
theorem dX5_findEnd_110 : decode cX5_findEnd 110 = .ok (.invokevirtual 193, 3) := by decide +kernel
theorem dX5_findEnd_113 : decode cX5_findEnd 113 = .ok (.putfield 207, 3) := by decide +kernel
theorem dX5_findEnd_116 : decode cX5_findEnd 116 = .ok (.aload_n 0, 1) := by decide +kernel
theorem dX5_findEnd_117 : decode cX5_findEnd 117 = .ok (.iload_n 1, 1) := by decide +kernel
theorem dX5_findEnd_118 : decode cX5_findEnd 118 = .ok (.bipush 16, 2) := by decide +kernel
theorem dX5_findEnd_120 : decode cX5_findEnd 120 = .ok (.iadd, 1) := by decide +kernel
theorem dX5_findEnd_121 : decode cX5_findEnd 121 = .ok (.invokevirtual 196, 3) := by decide +kernel
theorem dX5_findEnd_124 : decode cX5_findEnd 124 = .ok (.lstore_n 3, 1) := by decide +kernel
theorem dX5_findEnd_125 : decode cX5_findEnd 125 = .ok (.lload_n 3, 1) := by decide +kernel
theorem dX5_findEnd_126 : decode cX5_findEnd 126 = .ok (.aload_n 0, 1) := by decide +kernel
theorem dX5_findEnd_127 : decode cX5_findEnd 127 = .ok (.iload_n 1, 1) := by decide +kernel
theorem dX5_findEnd_128 : decode cX5_findEnd 128 = .ok (.bipush 12, 2) := by decide +kernel
theorem dX5_findEnd_130 : decode cX5_findEnd 130 = .ok (.iadd, 1) := by decide +kernel
theorem dX5_findEnd_131 : decode cX5_findEnd 131 = .ok (.invokevirtual 196, 3) := by decide +kernel
theorem dX5_findEnd_134 : decode cX5_findEnd 134 = .ok (.ladd, 1) := by decide +kernel
theorem dX5_findEnd_135 : decode cX5_findEnd 135 = .ok (.lstore 5, 2) := by decide +kernel
theorem dX5_findEnd_137 : decode cX5_findEnd 137 = .ok (.aload_n 0, 1) := by decide +kernel
theorem dX5_findEnd_138 : decode cX5_findEnd 138 = .ok (.lload 5, 2) := by decide +kernel
theorem dX5_findEnd_140 : decode cX5_findEnd 140 = .ok (.iload_n 1, 1) := by decide +kernel
theorem dX5_findEnd_141 : decode cX5_findEnd 141 = .ok (.i2l, 1) := by decide +kernel
theorem dX5_findEnd_142 : decode cX5_findEnd 142 = .ok (.lcmp, 1) := by decide +kernel
theorem dX5_findEnd_143 : decode cX5_findEnd 143 = .ok (.ifCond .gt 35, 3) := by decide +kernel
theorem dX5_findEnd_146 : decode cX5_findEnd 146 = .ok (.aload_n 0, 1) := by decide +kernel
theorem dX5_findEnd_147 : decode cX5_findEnd 147 = .ok (.iload_n 1, 1) := by decide +kernel
theorem dX5_findEnd_148 : decode cX5_findEnd 148 = .ok (.bipush 8, 2) := by decide +kernel
theorem dX5_findEnd_150 : decode cX5_findEnd 150 = .ok (.iadd, 1) := by decide +kernel
theorem dX5_findEnd_151 : decode cX5_findEnd 151 = .ok (.invokevirtual 193, 3) := by decide +kernel
theorem dX5_findEnd_154 : decode cX5_findEnd 154 = .ok (.aload_n 0, 1) := by decide +kernel
theorem dX5_findEnd_155 : decode cX5_findEnd 155 = .ok (.iload_n 1, 1) := by decide +kernel
theorem dX5_findEnd_156 : decode cX5_findEnd 156 = .ok (.bipush 10, 2) := by decide +kernel
theorem dX5_findEnd_158 : decode cX5_findEnd 158 = .ok (.iadd, 1) := by decide +kernel
theorem dX5_findEnd_159 : decode cX5_findEnd 159 = .ok (.invokevirtual 193, 3) := by decide +kernel
theorem dX5_findEnd_162 : decode cX5_findEnd 162 = .ok (.if_icmp .ne 16, 3) := by decide +kernel
theorem dX5_findEnd_165 : decode cX5_findEnd 165 = .ok (.aload_n 0, 1) := by decide +kernel
theorem dX5_findEnd_166 : decode cX5_findEnd 166 = .ok (.getfield 207, 3) := by decide +kernel
theorem dX5_findEnd_169 : decode cX5_findEnd 169 = .ok (.bipush 12, 2) := by decide +kernel
theorem dX5_findEnd_171 : decode cX5_findEnd 171 = .ok (.if_icmp .gt 7, 3) := by decide +kernel
theorem dX5_findEnd_174 : decode cX5_findEnd 174 = .ok (.iconst 1, 1) := by decide +kernel
theorem dX5_findEnd_175 : decode cX5_findEnd 175 = .ok (.goto 4, 3) := by decide +kernel
theorem dX5_findEnd_178 : decode cX5_findEnd 178 = .ok (.iconst 0, 1) := by decide +kernel
theorem dX5_findEnd_179 : decode cX5_findEnd 179 = .ok (.iconst 2, 1) := by decide +kernel
theorem dX5_findEnd_180 : decode cX5_findEnd 180 = .ok (.iload_n 1, 1) := by decide +kernel
theorem dX5_findEnd_181 : decode cX5_findEnd 181 = .ok (.i2l, 1) := by decide +kernel
theorem dX5_findEnd_182 : decode cX5_findEnd 182 = .ok (.invokevirtual 200, 3) := by decide +kernel
theorem dX5_findEnd_185 : decode cX5_findEnd 185 = .ok (.ifCond .eq 16, 3) := by decide +kernel
theorem dX5_findEnd_188 : decode cX5_findEnd 188 = .ok (.aload_n 0, 1) := by decide +kernel
theorem dX5_findEnd_189 : decode cX5_findEnd 189 = .ok (.lload_n 3, 1) := by decide +kernel
theorem dX5_findEnd_190 : decode cX5_findEnd 190 = .ok (.l2i, 1) := by decide +kernel
theorem dX5_findEnd_191 : decode cX5_findEnd 191 = .ok (.putfield 210, 3) := by decide +kernel
theorem dX5_findEnd_194 : decode cX5_findEnd 194 = .ok (.aload_n 0, 1) := by decide +kernel
theorem dX5_findEnd_195 : decode cX5_findEnd 195 = .ok (.lload 5, 2) := by decide +kernel
theorem dX5_findEnd_197 : decode cX5_findEnd 197 = .ok (.l2i, 1) := by decide +kernel
theorem dX5_findEnd_198 : decode cX5_findEnd 198 = .ok (.putfield 213, 3) := by decide +kernel
theorem dX5_findEnd_201 : decode cX5_findEnd 201 = .ok (.return_, 1) := by decide +kernel
theorem dX5_findRows_0 : decode cX5_findRows 0 = .ok (.aload_n 0, 1) := by decide +kernel
theorem dX5_findRows_1 : decode cX5_findRows 1 = .ok (.getfield 210, 3) := by decide +kernel
theorem dX5_findRows_4 : decode cX5_findRows 4 = .ok (.istore_n 1, 1) := by decide +kernel
theorem dX5_findRows_5 : decode cX5_findRows 5 = .ok (.iconst 0, 1) := by decide +kernel
theorem dX5_findRows_6 : decode cX5_findRows 6 = .ok (.istore_n 2, 1) := by decide +kernel
theorem dX5_findRows_7 : decode cX5_findRows 7 = .ok (.iload_n 2, 1) := by decide +kernel
theorem dX5_findRows_8 : decode cX5_findRows 8 = .ok (.aload_n 0, 1) := by decide +kernel
theorem dX5_findRows_9 : decode cX5_findRows 9 = .ok (.getfield 207, 3) := by decide +kernel
theorem dX5_findRows_12 : decode cX5_findRows 12 = .ok (.if_icmp .ge 128, 3) := by decide +kernel
theorem dX5_findRows_15 : decode cX5_findRows 15 = .ok (.aload_n 0, 1) := by decide +kernel
theorem dX5_findRows_16 : decode cX5_findRows 16 = .ok (.getfield 187, 3) := by decide +kernel
theorem dX5_findRows_19 : decode cX5_findRows 19 = .ok (.ifCond .ne 121, 3) := by decide +kernel
theorem dX5_findRows_22 : decode cX5_findRows 22 = .ok (.iload_n 1, 1) := by decide +kernel
theorem dX5_findRows_23 : decode cX5_findRows 23 = .ok (.bipush 46, 2) := by decide +kernel
theorem dX5_findRows_25 : decode cX5_findRows 25 = .ok (.iadd, 1) := by decide +kernel
theorem dX5_findRows_26 : decode cX5_findRows 26 = .ok (.aload_n 0, 1) := by decide +kernel
theorem dX5_findRows_27 : decode cX5_findRows 27 = .ok (.getfield 213, 3) := by decide +kernel
theorem dX5_findRows_30 : decode cX5_findRows 30 = .ok (.if_icmp .gt 30, 3) := by decide +kernel
theorem dX5_findRows_33 : decode cX5_findRows 33 = .ok (.aload_n 0, 1) := by decide +kernel
theorem dX5_findRows_34 : decode cX5_findRows 34 = .ok (.iload_n 1, 1) := by decide +kernel
theorem dX5_findRows_35 : decode cX5_findRows 35 = .ok (.invokevirtual 196, 3) := by decide +kernel
theorem dX5_findRows_38 : decode cX5_findRows 38 = .ok (.ldc2_w 176, 3) := by decide +kernel
theorem dX5_findRows_41 : decode cX5_findRows 41 = .ok (.lcmp, 1) := by decide +kernel
theorem dX5_findRows_42 : decode cX5_findRows 42 = .ok (.ifCond .ne 18, 3) := by decide +kernel
theorem dX5_findRows_45 : decode cX5_findRows 45 = .ok (.aload_n 0, 1) := by decide +kernel
theorem dX5_findRows_46 : decode cX5_findRows 46 = .ok (.iload_n 1, 1) := by decide +kernel
theorem dX5_findRows_47 : decode cX5_findRows 47 = .ok (.bipush 32, 2) := by decide +kernel
theorem dX5_findRows_49 : decode cX5_findRows 49 = .ok (.iadd, 1) := by decide +kernel
theorem dX5_findRows_50 : decode cX5_findRows 50 = .ok (.invokevirtual 193, 3) := by decide +kernel
theorem dX5_findRows_53 : decode cX5_findRows 53 = .ok (.ifCond .ne 7, 3) := by decide +kernel
theorem dX5_findRows_56 : decode cX5_findRows 56 = .ok (.iconst 1, 1) := by decide +kernel
theorem dX5_findRows_57 : decode cX5_findRows 57 = .ok (.goto 4, 3) := by decide +kernel
theorem dX5_findRows_60 : decode cX5_findRows 60 = .ok (.iconst 0, 1) := by decide +kernel
theorem dX5_findRows_61 : decode cX5_findRows 61 = .ok (.istore_n 3, 1) := by decide +kernel
theorem dX5_findRows_62 : decode cX5_findRows 62 = .ok (.iload_n 3, 1) := by decide +kernel
theorem dX5_findRows_63 : decode cX5_findRows 63 = .ok (.ifCond .eq 26, 3) := by decide +kernel
theorem dX5_findRows_66 : decode cX5_findRows 66 = .ok (.bipush 46, 2) := by decide +kernel
theorem dX5_findRows_68 : decode cX5_findRows 68 = .ok (.aload_n 0, 1) := by decide +kernel
theorem dX5_findRows_69 : decode cX5_findRows 69 = .ok (.iload_n 1, 1) := by decide +kernel
theorem dX5_findRows_70 : decode cX5_findRows 70 = .ok (.bipush 28, 2) := by decide +kernel
theorem dX5_findRows_72 : decode cX5_findRows 72 = .ok (.iadd, 1) := by decide +kernel
theorem dX5_findRows_73 : decode cX5_findRows 73 = .ok (.invokevirtual 193, 3) := by decide +kernel
theorem dX5_findRows_76 : decode cX5_findRows 76 = .ok (.iadd, 1) := by decide +kernel
theorem dX5_findRows_77 : decode cX5_findRows 77 = .ok (.aload_n 0, 1) := by decide +kernel
theorem dX5_findRows_78 : decode cX5_findRows 78 = .ok (.iload_n 1, 1) := by decide +kernel
theorem dX5_findRows_79 : decode cX5_findRows 79 = .ok (.bipush 30, 2) := by decide +kernel
theorem dX5_findRows_81 : decode cX5_findRows 81 = .ok (.iadd, 1) := by decide +kernel
theorem dX5_findRows_82 : decode cX5_findRows 82 = .ok (.invokevirtual 193, 3) := by decide +kernel
theorem dX5_findRows_85 : decode cX5_findRows 85 = .ok (.iadd, 1) := by decide +kernel
theorem dX5_findRows_86 : decode cX5_findRows 86 = .ok (.goto 4, 3) := by decide +kernel
theorem dX5_findRows_89 : decode cX5_findRows 89 = .ok (.iconst 0, 1) := by decide +kernel
theorem dX5_findRows_90 : decode cX5_findRows 90 = .ok (.istore 4, 2) := by decide +kernel
theorem dX5_findRows_92 : decode cX5_findRows 92 = .ok (.aload_n 0, 1) := by decide +kernel
theorem dX5_findRows_93 : decode cX5_findRows 93 = .ok (.iload_n 3, 1) := by decide +kernel
theorem dX5_findRows_94 : decode cX5_findRows 94 = .ok (.ifCond .eq 18, 3) := by decide +kernel
theorem dX5_findRows_97 : decode cX5_findRows 97 = .ok (.iload_n 1, 1) := by decide +kernel
theorem dX5_findRows_98 : decode cX5_findRows 98 = .ok (.iload 4, 2) := by decide +kernel
theorem dX5_findRows_100 : decode cX5_findRows 100 = .ok (.iadd, 1) := by decide +kernel
theorem dX5_findRows_101 : decode cX5_findRows 101 = .ok (.aload_n 0, 1) := by decide +kernel
theorem dX5_findRows_102 : decode cX5_findRows 102 = .ok (.getfield 213, 3) := by decide +kernel
theorem dX5_findRows_105 : decode cX5_findRows 105 = .ok (.if_icmp .gt 7, 3) := by decide +kernel
theorem dX5_findRows_108 : decode cX5_findRows 108 = .ok (.iconst 1, 1) := by decide +kernel
theorem dX5_findRows_109 : decode cX5_findRows 109 = .ok (.goto 4, 3) := by decide +kernel
theorem dX5_findRows_112 : decode cX5_findRows 112 = .ok (.iconst 0, 1) := by decide +kernel
theorem dX5_findRows_113 : decode cX5_findRows 113 = .ok (.iconst 3, 1) := by decide +kernel
theorem dX5_findRows_114 : decode cX5_findRows 114 = .ok (.iload_n 1, 1) := by decide +kernel
theorem dX5_findRows_115 : decode cX5_findRows 115 = .ok (.i2l, 1) := by decide +kernel
theorem dX5_findRows_116 : decode cX5_findRows 116 = .ok (.invokevirtual 200, 3) := by decide +kernel
theorem dX5_findRows_119 : decode cX5_findRows 119 = .ok (.ifCond .eq 15, 3) := by decide +kernel
theorem dX5_findRows_122 : decode cX5_findRows 122 = .ok (.aload_n 0, 1) := by decide +kernel
theorem dX5_findRows_123 : decode cX5_findRows 123 = .ok (.getfield 216, 3) := by decide +kernel
theorem dX5_findRows_126 : decode cX5_findRows 126 = .ok (.iload_n 2, 1) := by decide +kernel
theorem dX5_findRows_127 : decode cX5_findRows 127 = .ok (.iload_n 1, 1) := by decide +kernel
theorem dX5_findRows_128 : decode cX5_findRows 128 = .ok (.iastore, 1) := by decide +kernel
theorem dX5_findRows_129 : decode cX5_findRows 129 = .ok (.iload_n 1, 1) := by decide +kernel
theorem dX5_findRows_130 : decode cX5_findRows 130 = .ok (.iload 4, 2) := by decide +kernel
theorem dX5_findRows_132 : decode cX5_findRows 132 = .ok (.iadd, 1) := by decide +kernel
theorem dX5_findRows_133 : decode cX5_findRows 133 = .ok (.istore_n 1, 1) := by decide +kernel
theorem dX5_findRows_134 : decode cX5_findRows 134 = .ok (.iinc 2 1, 3) := by decide +kernel
theorem dX5_findRows_137 : decode cX5_findRows 137 = .ok (.goto (-130), 3) := by decide +kernel
theorem dX5_findRows_140 : decode cX5_findRows 140 = .ok (.aload_n 0, 1) := by decide +kernel
theorem dX5_findRows_141 : decode cX5_findRows 141 = .ok (.iload_n 1, 1) := by decide +kernel
theorem dX5_findRows_142 : decode cX5_findRows 142 = .ok (.aload_n 0, 1) := by decide +kernel
theorem dX5_findRows_143 : decode cX5_findRows 143 = .ok (.getfield 213, 3) := by decide +kernel
theorem dX5_findRows_146 : decode cX5_findRows 146 = .ok (.if_icmp .ne 7, 3) := by decide +kernel
theorem dX5_findRows_149 : decode cX5_findRows 149 = .ok (.iconst 1, 1) := by decide +kernel
theorem dX5_findRows_150 : decode cX5_findRows 150 = .ok (.goto 4, 3) := by decide +kernel
theorem dX5_findRows_153 : decode cX5_findRows 153 = .ok (.iconst 0, 1) := by decide +kernel
theorem dX5_findRows_154 : decode cX5_findRows 154 = .ok (.iconst 3, 1) := by decide +kernel
theorem dX5_findRows_155 : decode cX5_findRows 155 = .ok (.iload_n 1, 1) := by decide +kernel
theorem dX5_findRows_156 : decode cX5_findRows 156 = .ok (.i2l, 1) := by decide +kernel
theorem dX5_findRows_157 : decode cX5_findRows 157 = .ok (.invokevirtual 200, 3) := by decide +kernel
theorem dX5_findRows_160 : decode cX5_findRows 160 = .ok (.pop, 1) := by decide +kernel
theorem dX5_findRows_161 : decode cX5_findRows 161 = .ok (.return_, 1) := by decide +kernel
theorem dX5_hasParts_0 : decode cX5_hasParts 0 = .ok (.iload_n 1, 1) := by decide +kernel
theorem dX5_hasParts_1 : decode cX5_hasParts 1 = .ok (.istore_n 3, 1) := by decide +kernel
theorem dX5_hasParts_2 : decode cX5_hasParts 2 = .ok (.aload_n 0, 1) := by decide +kernel
theorem dX5_hasParts_3 : decode cX5_hasParts 3 = .ok (.iconst 0, 1) := by decide +kernel
theorem dX5_hasParts_4 : decode cX5_hasParts 4 = .ok (.putfield 219, 3) := by decide +kernel
theorem dX5_hasParts_7 : decode cX5_hasParts 7 = .ok (.aload_n 0, 1) := by decide +kernel
theorem dX5_hasParts_8 : decode cX5_hasParts 8 = .ok (.iconst 0, 1) := by decide +kernel
theorem dX5_hasParts_9 : decode cX5_hasParts 9 = .ok (.putfield 222, 3) := by decide +kernel
theorem dX5_hasParts_12 : decode cX5_hasParts 12 = .ok (.iload_n 3, 1) := by decide +kernel
theorem dX5_hasParts_13 : decode cX5_hasParts 13 = .ok (.iload_n 2, 1) := by decide +kernel
theorem dX5_hasParts_14 : decode cX5_hasParts 14 = .ok (.if_icmp .ge 110, 3) := by decide +kernel
theorem dX5_hasParts_17 : decode cX5_hasParts 17 = .ok (.iload_n 3, 1) := by decide +kernel
theorem dX5_hasParts_18 : decode cX5_hasParts 18 = .ok (.iconst 4, 1) := by decide +kernel
theorem dX5_hasParts_19 : decode cX5_hasParts 19 = .ok (.iadd, 1) := by decide +kernel
theorem dX5_hasParts_20 : decode cX5_hasParts 20 = .ok (.iload_n 2, 1) := by decide +kernel
theorem dX5_hasParts_21 : decode cX5_hasParts 21 = .ok (.if_icmp .le 5, 3) := by decide +kernel
theorem dX5_hasParts_24 : decode cX5_hasParts 24 = .ok (.iconst 0, 1) := by decide +kernel
theorem dX5_hasParts_25 : decode cX5_hasParts 25 = .ok (.ireturn, 1) := by decide +kernel
theorem dX5_hasParts_26 : decode cX5_hasParts 26 = .ok (.aload_n 0, 1) := by decide +kernel
theorem dX5_hasParts_27 : decode cX5_hasParts 27 = .ok (.iload_n 3, 1) := by decide +kernel
theorem dX5_hasParts_28 : decode cX5_hasParts 28 = .ok (.invokevirtual 193, 3) := by decide +kernel
theorem dX5_hasParts_31 : decode cX5_hasParts 31 = .ok (.istore 4, 2) := by decide +kernel
theorem dX5_hasParts_33 : decode cX5_hasParts 33 = .ok (.aload_n 0, 1) := by decide +kernel
theorem dX5_hasParts_34 : decode cX5_hasParts 34 = .ok (.iload_n 3, 1) := by decide +kernel
theorem dX5_hasParts_35 : decode cX5_hasParts 35 = .ok (.iconst 2, 1) := by decide +kernel
theorem dX5_hasParts_36 : decode cX5_hasParts 36 = .ok (.iadd, 1) := by decide +kernel
theorem dX5_hasParts_37 : decode cX5_hasParts 37 = .ok (.invokevirtual 193, 3) := by decide +kernel
theorem dX5_hasParts_40 : decode cX5_hasParts 40 = .ok (.istore 5, 2) := by decide +kernel
theorem dX5_hasParts_42 : decode cX5_hasParts 42 = .ok (.iload_n 3, 1) := by decide +kernel
theorem dX5_hasParts_43 : decode cX5_hasParts 43 = .ok (.iconst 4, 1) := by decide +kernel
theorem dX5_hasParts_44 : decode cX5_hasParts 44 = .ok (.iadd, 1) := by decide +kernel
theorem dX5_hasParts_45 : decode cX5_hasParts 45 = .ok (.iload 5, 2) := by decide +kernel
theorem dX5_hasParts_47 : decode cX5_hasParts 47 = .ok (.iadd, 1) := by decide +kernel
theorem dX5_hasParts_48 : decode cX5_hasParts 48 = .ok (.iload_n 2, 1) := by decide +kernel
theorem dX5_hasParts_49 : decode cX5_hasParts 49 = .ok (.if_icmp .gt 8, 3) := by decide +kernel
theorem dX5_hasParts_52 : decode cX5_hasParts 52 = .ok (.iload 4, 2) := by decide +kernel
theorem dX5_hasParts_54 : decode cX5_hasParts 54 = .ok (.ifCond .ne 5, 3) := by decide +kernel
theorem dX5_hasParts_57 : decode cX5_hasParts 57 = .ok (.iconst 0, 1) := by decide +kernel
theorem dX5_hasParts_58 : decode cX5_hasParts 58 = .ok (.ireturn, 1) := by decide +kernel
theorem dX5_hasParts_59 : decode cX5_hasParts 59 = .ok (.iload 4, 2) := by decide +kernel
theorem dX5_hasParts_61 : decode cX5_hasParts 61 = .ok (.iconst 1, 1) := by decide +kernel
theorem dX5_hasParts_62 : decode cX5_hasParts 62 = .ok (.if_icmp .ne 25, 3) := by decide +kernel
theorem dX5_hasParts_65 : decode cX5_hasParts 65 = .ok (.iload_n 3, 1) := by decide +kernel
theorem dX5_hasParts_66 : decode cX5_hasParts 66 = .ok (.iload_n 1, 1) := by decide +kernel
theorem dX5_hasParts_67 : decode cX5_hasParts 67 = .ok (.if_icmp .gt 10, 3) := by decide +kernel
theorem dX5_hasParts_70 : decode cX5_hasParts 70 = .ok (.iload 5, 2) := by decide +kernel
theorem dX5_hasParts_72 : decode cX5_hasParts 72 = .ok (.bipush 16, 2) := by decide +kernel
theorem dX5_hasParts_74 : decode cX5_hasParts 74 = .ok (.if_icmp .eq 5, 3) := by decide +kernel
theorem dX5_hasParts_77 : decode cX5_hasParts 77 = .ok (.iconst 0, 1) := by decide +kernel
theorem dX5_hasParts_78 : decode cX5_hasParts 78 = .ok (.ireturn, 1) := by decide +kernel
theorem dX5_hasParts_79 : decode cX5_hasParts 79 = .ok (.aload_n 0, 1) := by decide +kernel
theorem dX5_hasParts_80 : decode cX5_hasParts 80 = .ok (.iconst 1, 1) := by decide +kernel
theorem dX5_hasParts_81 : decode cX5_hasParts 81 = .ok (.putfield 222, 3) := by decide +kernel
theorem dX5_hasParts_84 : decode cX5_hasParts 84 = .ok (.goto 30, 3) := by decide +kernel
theorem dX5_hasParts_87 : decode cX5_hasParts 87 = .ok (.aload_n 0, 1) := by decide +kernel
theorem dX5_hasParts_88 : decode cX5_hasParts 88 = .ok (.dup, 1) := by decide +kernel
theorem dX5_hasParts_89 : decode cX5_hasParts 89 = .ok (.getfield 219, 3) := by decide +kernel
theorem dX5_hasParts_92 : decode cX5_hasParts 92 = .ok (.iconst 1, 1) := by decide +kernel
theorem dX5_hasParts_93 : decode cX5_hasParts 93 = .ok (.iadd, 1) := by decide +kernel
theorem dX5_hasParts_94 : decode cX5_hasParts 94 = .ok (.putfield 219, 3) := by decide +kernel
theorem dX5_hasParts_97 : decode cX5_hasParts 97 = .ok (.iload 5, 2) := by decide +kernel
theorem dX5_hasParts_99 : decode cX5_hasParts 99 = .ok (.bipush 8, 2) := by decide +kernel
theorem dX5_hasParts_101 : decode cX5_hasParts 101 = .ok (.if_icmp .gt 11, 3) := by decide +kernel
theorem dX5_hasParts_104 : decode cX5_hasParts 104 = .ok (.aload_n 0, 1) := by decide +kernel
theorem dX5_hasParts_105 : decode cX5_hasParts 105 = .ok (.getfield 219, 3) := by decide +kernel
theorem dX5_hasParts_108 : decode cX5_hasParts 108 = .ok (.iconst 3, 1) := by decide +kernel
theorem dX5_hasParts_109 : decode cX5_hasParts 109 = .ok (.if_icmp .le 5, 3) := by decide +kernel
theorem dX5_hasParts_112 : decode cX5_hasParts 112 = .ok (.iconst 0, 1) := by decide +kernel
theorem dX5_hasParts_113 : decode cX5_hasParts 113 = .ok (.ireturn, 1) := by decide +kernel
theorem dX5_hasParts_114 : decode cX5_hasParts 114 = .ok (.iload_n 3, 1) := by decide +kernel
theorem dX5_hasParts_115 : decode cX5_hasParts 115 = .ok (.iconst 4, 1) := by decide +kernel
theorem dX5_hasParts_116 : decode cX5_hasParts 116 = .ok (.iload 5, 2) := by decide +kernel
theorem dX5_hasParts_118 : decode cX5_hasParts 118 = .ok (.iadd, 1) := by decide +kernel
theorem dX5_hasParts_119 : decode cX5_hasParts 119 = .ok (.iadd, 1) := by decide +kernel
theorem dX5_hasParts_120 : decode cX5_hasParts 120 = .ok (.istore_n 3, 1) := by decide +kernel
theorem dX5_hasParts_121 : decode cX5_hasParts 121 = .ok (.goto (-109), 3) := by decide +kernel
theorem dX5_hasParts_124 : decode cX5_hasParts 124 = .ok (.iconst 1, 1) := by decide +kernel
theorem dX5_hasParts_125 : decode cX5_hasParts 125 = .ok (.ireturn, 1) := by decide +kernel
