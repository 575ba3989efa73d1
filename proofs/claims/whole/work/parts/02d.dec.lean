theorem dX5_isSafe_0 : decode cX5_isSafe 0 = .ok (.aload_n 0, 1) := by decide +kernel
theorem dX5_isSafe_1 : decode cX5_isSafe 1 = .ok (.getfield 128, 3) := by decide +kernel
theorem dX5_isSafe_4 : decode cX5_isSafe 4 = .ok (.aload_n 0, 1) := by decide +kernel
theorem dX5_isSafe_5 : decode cX5_isSafe 5 = .ok (.getfield 226, 3) := by decide +kernel
theorem dX5_isSafe_8 : decode cX5_isSafe 8 = .ok (.iaload, 1) := by decide +kernel
theorem dX5_isSafe_9 : decode cX5_isSafe 9 = .ok (.bipush 47, 2) := by decide +kernel
theorem dX5_isSafe_11 : decode cX5_isSafe 11 = .ok (.if_icmp .eq 7, 3) := by decide +kernel
theorem dX5_isSafe_14 : decode cX5_isSafe 14 = .ok (.iconst 1, 1) := by decide +kernel
theorem dX5_isSafe_15 : decode cX5_isSafe 15 = .ok (.goto 4, 3) := by decide +kernel
theorem dX5_isSafe_18 : decode cX5_isSafe 18 = .ok (.iconst 0, 1) := by decide +kernel
theorem dX5_isSafe_19 : decode cX5_isSafe 19 = .ok (.istore_n 1, 1) := by decide +kernel
theorem dX5_isSafe_20 : decode cX5_isSafe 20 = .ok (.aload_n 0, 1) := by decide +kernel
theorem dX5_isSafe_21 : decode cX5_isSafe 21 = .ok (.getfield 226, 3) := by decide +kernel
theorem dX5_isSafe_24 : decode cX5_isSafe 24 = .ok (.istore_n 2, 1) := by decide +kernel
theorem dX5_isSafe_25 : decode cX5_isSafe 25 = .ok (.aload_n 0, 1) := by decide +kernel
theorem dX5_isSafe_26 : decode cX5_isSafe 26 = .ok (.getfield 226, 3) := by decide +kernel
theorem dX5_isSafe_29 : decode cX5_isSafe 29 = .ok (.istore_n 3, 1) := by decide +kernel
theorem dX5_isSafe_30 : decode cX5_isSafe 30 = .ok (.iload_n 3, 1) := by decide +kernel
theorem dX5_isSafe_31 : decode cX5_isSafe 31 = .ok (.aload_n 0, 1) := by decide +kernel
theorem dX5_isSafe_32 : decode cX5_isSafe 32 = .ok (.getfield 226, 3) := by decide +kernel
theorem dX5_isSafe_35 : decode cX5_isSafe 35 = .ok (.aload_n 0, 1) := by decide +kernel
theorem dX5_isSafe_36 : decode cX5_isSafe 36 = .ok (.getfield 229, 3) := by decide +kernel
theorem dX5_isSafe_39 : decode cX5_isSafe 39 = .ok (.iadd, 1) := by decide +kernel
theorem dX5_isSafe_40 : decode cX5_isSafe 40 = .ok (.if_icmp .gt 133, 3) := by decide +kernel
theorem dX5_isSafe_43 : decode cX5_isSafe 43 = .ok (.iload_n 3, 1) := by decide +kernel
theorem dX5_isSafe_44 : decode cX5_isSafe 44 = .ok (.aload_n 0, 1) := by decide +kernel
theorem dX5_isSafe_45 : decode cX5_isSafe 45 = .ok (.getfield 226, 3) := by decide +kernel
theorem dX5_isSafe_48 : decode cX5_isSafe 48 = .ok (.aload_n 0, 1) := by decide +kernel
theorem dX5_isSafe_49 : decode cX5_isSafe 49 = .ok (.getfield 229, 3) := by decide +kernel
theorem dX5_isSafe_52 : decode cX5_isSafe 52 = .ok (.iadd, 1) := by decide +kernel
theorem dX5_isSafe_53 : decode cX5_isSafe 53 = .ok (.if_icmp .ne 7, 3) := by decide +kernel
theorem dX5_isSafe_56 : decode cX5_isSafe 56 = .ok (.iconst 1, 1) := by decide +kernel
theorem dX5_isSafe_57 : decode cX5_isSafe 57 = .ok (.goto 4, 3) := by decide +kernel
theorem dX5_isSafe_60 : decode cX5_isSafe 60 = .ok (.iconst 0, 1) := by decide +kernel
theorem dX5_isSafe_61 : decode cX5_isSafe 61 = .ok (.istore 4, 2) := by decide +kernel
theorem dX5_isSafe_63 : decode cX5_isSafe 63 = .ok (.iload 4, 2) := by decide +kernel
theorem dX5_isSafe_65 : decode cX5_isSafe 65 = .ok (.ifCond .eq 11, 3) := by decide +kernel
theorem dX5_isSafe_68 : decode cX5_isSafe 68 = .ok (.iload_n 2, 1) := by decide +kernel
theorem dX5_isSafe_69 : decode cX5_isSafe 69 = .ok (.iload_n 3, 1) := by decide +kernel
theorem dX5_isSafe_70 : decode cX5_isSafe 70 = .ok (.if_icmp .ge 71, 3) := by decide +kernel
theorem dX5_isSafe_73 : decode cX5_isSafe 73 = .ok (.goto 14, 3) := by decide +kernel
theorem dX5_isSafe_76 : decode cX5_isSafe 76 = .ok (.aload_n 0, 1) := by decide +kernel
theorem dX5_isSafe_77 : decode cX5_isSafe 77 = .ok (.getfield 128, 3) := by decide +kernel
theorem dX5_isSafe_80 : decode cX5_isSafe 80 = .ok (.iload_n 3, 1) := by decide +kernel
theorem dX5_isSafe_81 : decode cX5_isSafe 81 = .ok (.iaload, 1) := by decide +kernel
theorem dX5_isSafe_82 : decode cX5_isSafe 82 = .ok (.bipush 47, 2) := by decide +kernel
theorem dX5_isSafe_84 : decode cX5_isSafe 84 = .ok (.if_icmp .ne 57, 3) := by decide +kernel
theorem dX5_isSafe_87 : decode cX5_isSafe 87 = .ok (.iload_n 3, 1) := by decide +kernel
theorem dX5_isSafe_88 : decode cX5_isSafe 88 = .ok (.iload_n 2, 1) := by decide +kernel
theorem dX5_isSafe_89 : decode cX5_isSafe 89 = .ok (.isub, 1) := by decide +kernel
theorem dX5_isSafe_90 : decode cX5_isSafe 90 = .ok (.istore 5, 2) := by decide +kernel
theorem dX5_isSafe_92 : decode cX5_isSafe 92 = .ok (.iload_n 1, 1) := by decide +kernel
theorem dX5_isSafe_93 : decode cX5_isSafe 93 = .ok (.ifCond .eq 42, 3) := by decide +kernel
theorem dX5_isSafe_96 : decode cX5_isSafe 96 = .ok (.iload 5, 2) := by decide +kernel
theorem dX5_isSafe_98 : decode cX5_isSafe 98 = .ok (.ifCond .le 37, 3) := by decide +kernel
theorem dX5_isSafe_101 : decode cX5_isSafe 101 = .ok (.iload 5, 2) := by decide +kernel
theorem dX5_isSafe_103 : decode cX5_isSafe 103 = .ok (.iconst 2, 1) := by decide +kernel
theorem dX5_isSafe_104 : decode cX5_isSafe 104 = .ok (.if_icmp .ne 27, 3) := by decide +kernel
theorem dX5_isSafe_107 : decode cX5_isSafe 107 = .ok (.aload_n 0, 1) := by decide +kernel
theorem dX5_isSafe_108 : decode cX5_isSafe 108 = .ok (.getfield 128, 3) := by decide +kernel
theorem dX5_isSafe_111 : decode cX5_isSafe 111 = .ok (.iload_n 2, 1) := by decide +kernel
theorem dX5_isSafe_112 : decode cX5_isSafe 112 = .ok (.iaload, 1) := by decide +kernel
theorem dX5_isSafe_113 : decode cX5_isSafe 113 = .ok (.bipush 46, 2) := by decide +kernel
theorem dX5_isSafe_115 : decode cX5_isSafe 115 = .ok (.if_icmp .ne 16, 3) := by decide +kernel
theorem dX5_isSafe_118 : decode cX5_isSafe 118 = .ok (.aload_n 0, 1) := by decide +kernel
theorem dX5_isSafe_119 : decode cX5_isSafe 119 = .ok (.getfield 128, 3) := by decide +kernel
theorem dX5_isSafe_122 : decode cX5_isSafe 122 = .ok (.iload_n 2, 1) := by decide +kernel
theorem dX5_isSafe_123 : decode cX5_isSafe 123 = .ok (.iconst 1, 1) := by decide +kernel
theorem dX5_isSafe_124 : decode cX5_isSafe 124 = .ok (.iadd, 1) := by decide +kernel
theorem dX5_isSafe_125 : decode cX5_isSafe 125 = .ok (.iaload, 1) := by decide +kernel
theorem dX5_isSafe_126 : decode cX5_isSafe 126 = .ok (.bipush 46, 2) := by decide +kernel
theorem dX5_isSafe_128 : decode cX5_isSafe 128 = .ok (.if_icmp .eq 7, 3) := by decide +kernel
theorem dX5_isSafe_131 : decode cX5_isSafe 131 = .ok (.iconst 1, 1) := by decide +kernel
theorem dX5_isSafe_132 : decode cX5_isSafe 132 = .ok (.goto 4, 3) := by decide +kernel
theorem dX5_isSafe_135 : decode cX5_isSafe 135 = .ok (.iconst 0, 1) := by decide +kernel
theorem dX5_isSafe_136 : decode cX5_isSafe 136 = .ok (.istore_n 1, 1) := by decide +kernel
theorem dX5_isSafe_137 : decode cX5_isSafe 137 = .ok (.iload_n 3, 1) := by decide +kernel
theorem dX5_isSafe_138 : decode cX5_isSafe 138 = .ok (.iconst 1, 1) := by decide +kernel
theorem dX5_isSafe_139 : decode cX5_isSafe 139 = .ok (.iadd, 1) := by decide +kernel
theorem dX5_isSafe_140 : decode cX5_isSafe 140 = .ok (.istore_n 2, 1) := by decide +kernel
theorem dX5_isSafe_141 : decode cX5_isSafe 141 = .ok (.iload_n 1, 1) := by decide +kernel
theorem dX5_isSafe_142 : decode cX5_isSafe 142 = .ok (.ifCond .eq 23, 3) := by decide +kernel
theorem dX5_isSafe_145 : decode cX5_isSafe 145 = .ok (.iload 4, 2) := by decide +kernel
theorem dX5_isSafe_147 : decode cX5_isSafe 147 = .ok (.ifCond .ne 14, 3) := by decide +kernel
theorem dX5_isSafe_150 : decode cX5_isSafe 150 = .ok (.aload_n 0, 1) := by decide +kernel
theorem dX5_isSafe_151 : decode cX5_isSafe 151 = .ok (.getfield 128, 3) := by decide +kernel
theorem dX5_isSafe_154 : decode cX5_isSafe 154 = .ok (.iload_n 3, 1) := by decide +kernel
theorem dX5_isSafe_155 : decode cX5_isSafe 155 = .ok (.iaload, 1) := by decide +kernel
theorem dX5_isSafe_156 : decode cX5_isSafe 156 = .ok (.bipush 92, 2) := by decide +kernel
theorem dX5_isSafe_158 : decode cX5_isSafe 158 = .ok (.if_icmp .eq 7, 3) := by decide +kernel
theorem dX5_isSafe_161 : decode cX5_isSafe 161 = .ok (.iconst 1, 1) := by decide +kernel
theorem dX5_isSafe_162 : decode cX5_isSafe 162 = .ok (.goto 4, 3) := by decide +kernel
theorem dX5_isSafe_165 : decode cX5_isSafe 165 = .ok (.iconst 0, 1) := by decide +kernel
theorem dX5_isSafe_166 : decode cX5_isSafe 166 = .ok (.istore_n 1, 1) := by decide +kernel
theorem dX5_isSafe_167 : decode cX5_isSafe 167 = .ok (.iinc 3 1, 3) := by decide +kernel
theorem dX5_isSafe_170 : decode cX5_isSafe 170 = .ok (.goto (-140), 3) := by decide +kernel
theorem dX5_isSafe_173 : decode cX5_isSafe 173 = .ok (.iload_n 1, 1) := by decide +kernel
theorem dX5_isSafe_174 : decode cX5_isSafe 174 = .ok (.ireturn, 1) := by decide +kernel
theorem dX5_areAlike_0 : decode cX5_areAlike 0 = .ok (.iconst 0, 1) := by decide +kernel
theorem dX5_areAlike_1 : decode cX5_areAlike 1 = .ok (.istore 4, 2) := by decide +kernel
theorem dX5_areAlike_3 : decode cX5_areAlike 3 = .ok (.iload 4, 2) := by decide +kernel
theorem dX5_areAlike_5 : decode cX5_areAlike 5 = .ok (.iload_n 3, 1) := by decide +kernel
theorem dX5_areAlike_6 : decode cX5_areAlike 6 = .ok (.if_icmp .ge 32, 3) := by decide +kernel
theorem dX5_areAlike_9 : decode cX5_areAlike 9 = .ok (.aload_n 0, 1) := by decide +kernel
theorem dX5_areAlike_10 : decode cX5_areAlike 10 = .ok (.getfield 128, 3) := by decide +kernel
theorem dX5_areAlike_13 : decode cX5_areAlike 13 = .ok (.iload_n 1, 1) := by decide +kernel
theorem dX5_areAlike_14 : decode cX5_areAlike 14 = .ok (.iload 4, 2) := by decide +kernel
theorem dX5_areAlike_16 : decode cX5_areAlike 16 = .ok (.iadd, 1) := by decide +kernel
theorem dX5_areAlike_17 : decode cX5_areAlike 17 = .ok (.iaload, 1) := by decide +kernel
theorem dX5_areAlike_18 : decode cX5_areAlike 18 = .ok (.aload_n 0, 1) := by decide +kernel
theorem dX5_areAlike_19 : decode cX5_areAlike 19 = .ok (.getfield 128, 3) := by decide +kernel
theorem dX5_areAlike_22 : decode cX5_areAlike 22 = .ok (.iload_n 2, 1) := by decide +kernel
theorem dX5_areAlike_23 : decode cX5_areAlike 23 = .ok (.iload 4, 2) := by decide +kernel
theorem dX5_areAlike_25 : decode cX5_areAlike 25 = .ok (.iadd, 1) := by decide +kernel
theorem dX5_areAlike_26 : decode cX5_areAlike 26 = .ok (.iaload, 1) := by decide +kernel
theorem dX5_areAlike_27 : decode cX5_areAlike 27 = .ok (.if_icmp .eq 5, 3) := by decide +kernel
theorem dX5_areAlike_30 : decode cX5_areAlike 30 = .ok (.iconst 0, 1) := by decide +kernel
theorem dX5_areAlike_31 : decode cX5_areAlike 31 = .ok (.ireturn, 1) := by decide +kernel
theorem dX5_areAlike_32 : decode cX5_areAlike 32 = .ok (.iinc 4 1, 3) := by decide +kernel
theorem dX5_areAlike_35 : decode cX5_areAlike 35 = .ok (.goto (-32), 3) := by decide +kernel
theorem dX5_areAlike_38 : decode cX5_areAlike 38 = .ok (.iconst 1, 1) := by decide +kernel
theorem dX5_areAlike_39 : decode cX5_areAlike 39 = .ok (.ireturn, 1) := by decide +kernel
theorem dX5_layRow_0 : decode cX5_layRow 0 = .ok (.aload_n 0, 1) := by decide +kernel
theorem dX5_layRow_1 : decode cX5_layRow 1 = .ok (.aload_n 0, 1) := by decide +kernel
theorem dX5_layRow_2 : decode cX5_layRow 2 = .ok (.iload_n 1, 1) := by decide +kernel
theorem dX5_layRow_3 : decode cX5_layRow 3 = .ok (.bipush 28, 2) := by decide +kernel
theorem dX5_layRow_5 : decode cX5_layRow 5 = .ok (.iadd, 1) := by decide +kernel
theorem dX5_layRow_6 : decode cX5_layRow 6 = .ok (.invokevirtual 193, 3) := by decide +kernel
theorem dX5_layRow_9 : decode cX5_layRow 9 = .ok (.putfield 229, 3) := by decide +kernel
theorem dX5_layRow_12 : decode cX5_layRow 12 = .ok (.aload_n 0, 1) := by decide +kernel
theorem dX5_layRow_13 : decode cX5_layRow 13 = .ok (.aload_n 0, 1) := by decide +kernel
theorem dX5_layRow_14 : decode cX5_layRow 14 = .ok (.iload_n 1, 1) := by decide +kernel
theorem dX5_layRow_15 : decode cX5_layRow 15 = .ok (.bipush 30, 2) := by decide +kernel
theorem dX5_layRow_17 : decode cX5_layRow 17 = .ok (.iadd, 1) := by decide +kernel
theorem dX5_layRow_18 : decode cX5_layRow 18 = .ok (.invokevirtual 193, 3) := by decide +kernel
theorem dX5_layRow_21 : decode cX5_layRow 21 = .ok (.putfield 232, 3) := by decide +kernel
theorem dX5_layRow_24 : decode cX5_layRow 24 = .ok (.aload_n 0, 1) := by decide +kernel
theorem dX5_layRow_25 : decode cX5_layRow 25 = .ok (.iload_n 1, 1) := by decide +kernel
theorem dX5_layRow_26 : decode cX5_layRow 26 = .ok (.bipush 46, 2) := by decide +kernel
theorem dX5_layRow_28 : decode cX5_layRow 28 = .ok (.iadd, 1) := by decide +kernel
theorem dX5_layRow_29 : decode cX5_layRow 29 = .ok (.putfield 226, 3) := by decide +kernel
theorem dX5_layRow_32 : decode cX5_layRow 32 = .ok (.aload_n 0, 1) := by decide +kernel
theorem dX5_layRow_33 : decode cX5_layRow 33 = .ok (.aload_n 0, 1) := by decide +kernel
theorem dX5_layRow_34 : decode cX5_layRow 34 = .ok (.iload_n 1, 1) := by decide +kernel
theorem dX5_layRow_35 : decode cX5_layRow 35 = .ok (.bipush 20, 2) := by decide +kernel
theorem dX5_layRow_37 : decode cX5_layRow 37 = .ok (.iadd, 1) := by decide +kernel
theorem dX5_layRow_38 : decode cX5_layRow 38 = .ok (.invokevirtual 196, 3) := by decide +kernel
theorem dX5_layRow_41 : decode cX5_layRow 41 = .ok (.putfield 235, 3) := by decide +kernel
theorem dX5_layRow_44 : decode cX5_layRow 44 = .ok (.aload_n 0, 1) := by decide +kernel
theorem dX5_layRow_45 : decode cX5_layRow 45 = .ok (.aload_n 0, 1) := by decide +kernel
theorem dX5_layRow_46 : decode cX5_layRow 46 = .ok (.iload_n 1, 1) := by decide +kernel
theorem dX5_layRow_47 : decode cX5_layRow 47 = .ok (.bipush 24, 2) := by decide +kernel
theorem dX5_layRow_49 : decode cX5_layRow 49 = .ok (.iadd, 1) := by decide +kernel
theorem dX5_layRow_50 : decode cX5_layRow 50 = .ok (.invokevirtual 196, 3) := by decide +kernel
theorem dX5_layRow_53 : decode cX5_layRow 53 = .ok (.putfield 239, 3) := by decide +kernel
theorem dX5_layRow_56 : decode cX5_layRow 56 = .ok (.aload_n 0, 1) := by decide +kernel
theorem dX5_layRow_57 : decode cX5_layRow 57 = .ok (.aload_n 0, 1) := by decide +kernel
theorem dX5_layRow_58 : decode cX5_layRow 58 = .ok (.iload_n 1, 1) := by decide +kernel
theorem dX5_layRow_59 : decode cX5_layRow 59 = .ok (.bipush 42, 2) := by decide +kernel
theorem dX5_layRow_61 : decode cX5_layRow 61 = .ok (.iadd, 1) := by decide +kernel
theorem dX5_layRow_62 : decode cX5_layRow 62 = .ok (.invokevirtual 196, 3) := by decide +kernel
theorem dX5_layRow_65 : decode cX5_layRow 65 = .ok (.putfield 242, 3) := by decide +kernel
theorem dX5_layRow_68 : decode cX5_layRow 68 = .ok (.return_, 1) := by decide +kernel
theorem dX5_checkRow_0 : decode cX5_checkRow 0 = .ok (.aload_n 0, 1) := by decide +kernel
theorem dX5_checkRow_1 : decode cX5_checkRow 1 = .ok (.getfield 216, 3) := by decide +kernel
theorem dX5_checkRow_4 : decode cX5_checkRow 4 = .ok (.iload_n 1, 1) := by decide +kernel
theorem dX5_checkRow_5 : decode cX5_checkRow 5 = .ok (.iaload, 1) := by decide +kernel
theorem dX5_checkRow_6 : decode cX5_checkRow 6 = .ok (.istore_n 2, 1) := by decide +kernel
theorem dX5_checkRow_7 : decode cX5_checkRow 7 = .ok (.aload_n 0, 1) := by decide +kernel
theorem dX5_checkRow_8 : decode cX5_checkRow 8 = .ok (.iload_n 2, 1) := by decide +kernel
theorem dX5_checkRow_9 : decode cX5_checkRow 9 = .ok (.invokevirtual 245, 3) := by decide +kernel
theorem dX5_checkRow_12 : decode cX5_checkRow 12 = .ok (.aload_n 0, 1) := by decide +kernel
theorem dX5_checkRow_13 : decode cX5_checkRow 13 = .ok (.iload_n 2, 1) := by decide +kernel
theorem dX5_checkRow_14 : decode cX5_checkRow 14 = .ok (.bipush 10, 2) := by decide +kernel
theorem dX5_checkRow_16 : decode cX5_checkRow 16 = .ok (.iadd, 1) := by decide +kernel
theorem dX5_checkRow_17 : decode cX5_checkRow 17 = .ok (.invokevirtual 193, 3) := by decide +kernel
theorem dX5_checkRow_20 : decode cX5_checkRow 20 = .ok (.istore_n 3, 1) := by decide +kernel
theorem dX5_checkRow_21 : decode cX5_checkRow 21 = .ok (.aload_n 0, 1) := by decide +kernel
theorem dX5_checkRow_22 : decode cX5_checkRow 22 = .ok (.iload_n 2, 1) := by decide +kernel
theorem dX5_checkRow_23 : decode cX5_checkRow 23 = .ok (.bipush 8, 2) := by decide +kernel
theorem dX5_checkRow_25 : decode cX5_checkRow 25 = .ok (.iadd, 1) := by decide +kernel
theorem dX5_checkRow_26 : decode cX5_checkRow 26 = .ok (.invokevirtual 193, 3) := by decide +kernel
theorem dX5_checkRow_29 : decode cX5_checkRow 29 = .ok (.istore 4, 2) := by decide +kernel
theorem dX5_checkRow_31 : decode cX5_checkRow 31 = .ok (.aload_n 0, 1) := by decide +kernel
theorem dX5_checkRow_32 : decode cX5_checkRow 32 = .ok (.aload_n 0, 1) := by decide +kernel
theorem dX5_checkRow_33 : decode cX5_checkRow 33 = .ok (.getfield 226, 3) := by decide +kernel
theorem dX5_checkRow_36 : decode cX5_checkRow 36 = .ok (.aload_n 0, 1) := by decide +kernel
theorem dX5_checkRow_37 : decode cX5_checkRow 37 = .ok (.getfield 229, 3) := by decide +kernel
theorem dX5_checkRow_40 : decode cX5_checkRow 40 = .ok (.iadd, 1) := by decide +kernel
theorem dX5_checkRow_41 : decode cX5_checkRow 41 = .ok (.aload_n 0, 1) := by decide +kernel
theorem dX5_checkRow_42 : decode cX5_checkRow 42 = .ok (.getfield 226, 3) := by decide +kernel
theorem dX5_checkRow_45 : decode cX5_checkRow 45 = .ok (.aload_n 0, 1) := by decide +kernel
theorem dX5_checkRow_46 : decode cX5_checkRow 46 = .ok (.getfield 229, 3) := by decide +kernel
theorem dX5_checkRow_49 : decode cX5_checkRow 49 = .ok (.iadd, 1) := by decide +kernel
theorem dX5_checkRow_50 : decode cX5_checkRow 50 = .ok (.aload_n 0, 1) := by decide +kernel
theorem dX5_checkRow_51 : decode cX5_checkRow 51 = .ok (.getfield 232, 3) := by decide +kernel
theorem dX5_checkRow_54 : decode cX5_checkRow 54 = .ok (.iadd, 1) := by decide +kernel
theorem dX5_checkRow_55 : decode cX5_checkRow 55 = .ok (.invokevirtual 248, 3) := by decide +kernel
theorem dX5_checkRow_58 : decode cX5_checkRow 58 = .ok (.istore 5, 2) := by decide +kernel
theorem dX5_checkRow_60 : decode cX5_checkRow 60 = .ok (.aload_n 0, 1) := by decide +kernel
theorem dX5_checkRow_61 : decode cX5_checkRow 61 = .ok (.iload_n 3, 1) := by decide +kernel
theorem dX5_checkRow_62 : decode cX5_checkRow 62 = .ok (.ifCond .eq 9, 3) := by decide +kernel
theorem dX5_checkRow_65 : decode cX5_checkRow 65 = .ok (.iload_n 3, 1) := by decide +kernel
theorem dX5_checkRow_66 : decode cX5_checkRow 66 = .ok (.bipush 8, 2) := by decide +kernel
theorem dX5_checkRow_68 : decode cX5_checkRow 68 = .ok (.if_icmp .ne 39, 3) := by decide +kernel
theorem dX5_checkRow_71 : decode cX5_checkRow 71 = .ok (.aload_n 0, 1) := by decide +kernel
theorem dX5_checkRow_72 : decode cX5_checkRow 72 = .ok (.getfield 229, 3) := by decide +kernel
theorem dX5_checkRow_75 : decode cX5_checkRow 75 = .ok (.i2l, 1) := by decide +kernel
theorem dX5_checkRow_76 : decode cX5_checkRow 76 = .ok (.lconst 1, 1) := by decide +kernel
theorem dX5_checkRow_77 : decode cX5_checkRow 77 = .ok (.ldc2_w 135, 3) := by decide +kernel
theorem dX5_checkRow_80 : decode cX5_checkRow 80 = .ok (.invokestatic 13, 3) := by decide +kernel
theorem dX5_checkRow_83 : decode cX5_checkRow 83 = .ok (.ifCond .eq 24, 3) := by decide +kernel
theorem dX5_checkRow_86 : decode cX5_checkRow 86 = .ok (.iload 4, 2) := by decide +kernel
theorem dX5_checkRow_88 : decode cX5_checkRow 88 = .ok (.ifCond .eq 10, 3) := by decide +kernel
theorem dX5_checkRow_91 : decode cX5_checkRow 91 = .ok (.iload 4, 2) := by decide +kernel
theorem dX5_checkRow_93 : decode cX5_checkRow 93 = .ok (.bipush 8, 2) := by decide +kernel
theorem dX5_checkRow_95 : decode cX5_checkRow 95 = .ok (.if_icmp .ne 12, 3) := by decide +kernel
theorem dX5_checkRow_98 : decode cX5_checkRow 98 = .ok (.iload 5, 2) := by decide +kernel
theorem dX5_checkRow_100 : decode cX5_checkRow 100 = .ok (.ifCond .eq 7, 3) := by decide +kernel
theorem dX5_checkRow_103 : decode cX5_checkRow 103 = .ok (.iconst 1, 1) := by decide +kernel
theorem dX5_checkRow_104 : decode cX5_checkRow 104 = .ok (.goto 4, 3) := by decide +kernel
theorem dX5_checkRow_107 : decode cX5_checkRow 107 = .ok (.iconst 0, 1) := by decide +kernel
theorem dX5_checkRow_108 : decode cX5_checkRow 108 = .ok (.iconst 4, 1) := by decide +kernel
theorem dX5_checkRow_109 : decode cX5_checkRow 109 = .ok (.iload_n 2, 1) := by decide +kernel
theorem dX5_checkRow_110 : decode cX5_checkRow 110 = .ok (.i2l, 1) := by decide +kernel
theorem dX5_checkRow_111 : decode cX5_checkRow 111 = .ok (.invokevirtual 200, 3) := by decide +kernel
theorem dX5_checkRow_114 : decode cX5_checkRow 114 = .ok (.ifCond .ne 4, 3) := by decide +kernel
theorem dX5_checkRow_117 : decode cX5_checkRow 117 = .ok (.return_, 1) := by decide +kernel
theorem dX5_checkRow_118 : decode cX5_checkRow 118 = .ok (.aload_n 0, 1) := by decide +kernel
theorem dX5_checkRow_119 : decode cX5_checkRow 119 = .ok (.getfield 235, 3) := by decide +kernel
theorem dX5_checkRow_122 : decode cX5_checkRow 122 = .ok (.ldc2_w 147, 3) := by decide +kernel
theorem dX5_checkRow_125 : decode cX5_checkRow 125 = .ok (.lcmp, 1) := by decide +kernel
theorem dX5_checkRow_126 : decode cX5_checkRow 126 = .ok (.ifCond .ne 18, 3) := by decide +kernel
theorem dX5_checkRow_129 : decode cX5_checkRow 129 = .ok (.aload_n 0, 1) := by decide +kernel
theorem dX5_checkRow_130 : decode cX5_checkRow 130 = .ok (.getfield 239, 3) := by decide +kernel
theorem dX5_checkRow_133 : decode cX5_checkRow 133 = .ok (.ldc2_w 147, 3) := by decide +kernel
theorem dX5_checkRow_136 : decode cX5_checkRow 136 = .ok (.lcmp, 1) := by decide +kernel
theorem dX5_checkRow_137 : decode cX5_checkRow 137 = .ok (.ifCond .ne 7, 3) := by decide +kernel
theorem dX5_checkRow_140 : decode cX5_checkRow 140 = .ok (.iconst 1, 1) := by decide +kernel
theorem dX5_checkRow_141 : decode cX5_checkRow 141 = .ok (.goto 4, 3) := by decide +kernel
theorem dX5_checkRow_144 : decode cX5_checkRow 144 = .ok (.iconst 0, 1) := by decide +kernel
theorem dX5_checkRow_145 : decode cX5_checkRow 145 = .ok (.istore 6, 2) := by decide +kernel
theorem dX5_checkRow_147 : decode cX5_checkRow 147 = .ok (.aload_n 0, 1) := by decide +kernel
theorem dX5_checkRow_148 : decode cX5_checkRow 148 = .ok (.iload 6, 2) := by decide +kernel
theorem dX5_checkRow_150 : decode cX5_checkRow 150 = .ok (.aload_n 0, 1) := by decide +kernel
theorem dX5_checkRow_151 : decode cX5_checkRow 151 = .ok (.getfield 222, 3) := by decide +kernel
theorem dX5_checkRow_154 : decode cX5_checkRow 154 = .ok (.if_icmp .ne 7, 3) := by decide +kernel
theorem dX5_checkRow_157 : decode cX5_checkRow 157 = .ok (.iconst 1, 1) := by decide +kernel
theorem dX5_checkRow_158 : decode cX5_checkRow 158 = .ok (.goto 4, 3) := by decide +kernel
theorem dX5_checkRow_161 : decode cX5_checkRow 161 = .ok (.iconst 0, 1) := by decide +kernel
theorem dX5_checkRow_162 : decode cX5_checkRow 162 = .ok (.iconst 5, 1) := by decide +kernel
theorem dX5_checkRow_163 : decode cX5_checkRow 163 = .ok (.iload_n 2, 1) := by decide +kernel
theorem dX5_checkRow_164 : decode cX5_checkRow 164 = .ok (.i2l, 1) := by decide +kernel
theorem dX5_checkRow_165 : decode cX5_checkRow 165 = .ok (.invokevirtual 200, 3) := by decide +kernel
theorem dX5_checkRow_168 : decode cX5_checkRow 168 = .ok (.pop, 1) := by decide +kernel
theorem dX5_checkRow_169 : decode cX5_checkRow 169 = .ok (.aload_n 0, 1) := by decide +kernel
theorem dX5_checkRow_170 : decode cX5_checkRow 170 = .ok (.getfield 222, 3) := by decide +kernel
theorem dX5_checkRow_173 : decode cX5_checkRow 173 = .ok (.ifCond .eq 42, 3) := by decide +kernel
theorem dX5_checkRow_176 : decode cX5_checkRow 176 = .ok (.aload_n 0, 1) := by decide +kernel
theorem dX5_checkRow_177 : decode cX5_checkRow 177 = .ok (.aload_n 0, 1) := by decide +kernel
theorem dX5_checkRow_178 : decode cX5_checkRow 178 = .ok (.aload_n 0, 1) := by decide +kernel
theorem dX5_checkRow_179 : decode cX5_checkRow 179 = .ok (.getfield 226, 3) := by decide +kernel
theorem dX5_checkRow_182 : decode cX5_checkRow 182 = .ok (.aload_n 0, 1) := by decide +kernel
theorem dX5_checkRow_183 : decode cX5_checkRow 183 = .ok (.getfield 229, 3) := by decide +kernel
theorem dX5_checkRow_186 : decode cX5_checkRow 186 = .ok (.iadd, 1) := by decide +kernel
theorem dX5_checkRow_187 : decode cX5_checkRow 187 = .ok (.iconst 4, 1) := by decide +kernel
theorem dX5_checkRow_188 : decode cX5_checkRow 188 = .ok (.iadd, 1) := by decide +kernel
theorem dX5_checkRow_189 : decode cX5_checkRow 189 = .ok (.invokevirtual 252, 3) := by decide +kernel
theorem dX5_checkRow_192 : decode cX5_checkRow 192 = .ok (.putfield 239, 3) := by decide +kernel
theorem dX5_checkRow_195 : decode cX5_checkRow 195 = .ok (.aload_n 0, 1) := by decide +kernel
theorem dX5_checkRow_196 : decode cX5_checkRow 196 = .ok (.aload_n 0, 1) := by decide +kernel
theorem dX5_checkRow_197 : decode cX5_checkRow 197 = .ok (.aload_n 0, 1) := by decide +kernel
theorem dX5_checkRow_198 : decode cX5_checkRow 198 = .ok (.getfield 226, 3) := by decide +kernel
theorem dX5_checkRow_201 : decode cX5_checkRow 201 = .ok (.aload_n 0, 1) := by decide +kernel
theorem dX5_checkRow_202 : decode cX5_checkRow 202 = .ok (.getfield 229, 3) := by decide +kernel
theorem dX5_checkRow_205 : decode cX5_checkRow 205 = .ok (.iadd, 1) := by decide +kernel
theorem dX5_checkRow_206 : decode cX5_checkRow 206 = .ok (.bipush 12, 2) := by decide +kernel
theorem dX5_checkRow_208 : decode cX5_checkRow 208 = .ok (.iadd, 1) := by decide +kernel
theorem dX5_checkRow_209 : decode cX5_checkRow 209 = .ok (.invokevirtual 252, 3) := by decide +kernel
theorem dX5_checkRow_212 : decode cX5_checkRow 212 = .ok (.putfield 235, 3) := by decide +kernel
theorem dX5_checkRow_215 : decode cX5_checkRow 215 = .ok (.aload_n 0, 1) := by decide +kernel
theorem dX5_checkRow_216 : decode cX5_checkRow 216 = .ok (.getfield 128, 3) := by decide +kernel
theorem dX5_checkRow_219 : decode cX5_checkRow 219 = .ok (.aload_n 0, 1) := by decide +kernel
theorem dX5_checkRow_220 : decode cX5_checkRow 220 = .ok (.getfield 226, 3) := by decide +kernel
theorem dX5_checkRow_223 : decode cX5_checkRow 223 = .ok (.aload_n 0, 1) := by decide +kernel
theorem dX5_checkRow_224 : decode cX5_checkRow 224 = .ok (.getfield 229, 3) := by decide +kernel
theorem dX5_checkRow_227 : decode cX5_checkRow 227 = .ok (.iadd, 1) := by decide +kernel
theorem dX5_checkRow_228 : decode cX5_checkRow 228 = .ok (.iconst 1, 1) := by decide +kernel
theorem dX5_checkRow_229 : decode cX5_checkRow 229 = .ok (.isub, 1) := by decide +kernel
theorem dX5_checkRow_230 : decode cX5_checkRow 230 = .ok (.iaload, 1) := by decide +kernel
theorem dX5_checkRow_231 : decode cX5_checkRow 231 = .ok (.bipush 47, 2) := by decide +kernel
theorem dX5_checkRow_233 : decode cX5_checkRow 233 = .ok (.if_icmp .ne 7, 3) := by decide +kernel
theorem dX5_checkRow_236 : decode cX5_checkRow 236 = .ok (.iconst 1, 1) := by decide +kernel
theorem dX5_checkRow_237 : decode cX5_checkRow 237 = .ok (.goto 4, 3) := by decide +kernel
theorem dX5_checkRow_240 : decode cX5_checkRow 240 = .ok (.iconst 0, 1) := by decide +kernel
theorem dX5_checkRow_241 : decode cX5_checkRow 241 = .ok (.istore 7, 2) := by decide +kernel
theorem dX5_checkRow_243 : decode cX5_checkRow 243 = .ok (.aload_n 0, 1) := by decide +kernel
theorem dX5_checkRow_244 : decode cX5_checkRow 244 = .ok (.iload 7, 2) := by decide +kernel
theorem dX5_checkRow_246 : decode cX5_checkRow 246 = .ok (.ifCond .eq 37, 3) := by decide +kernel
theorem dX5_checkRow_249 : decode cX5_checkRow 249 = .ok (.aload_n 0, 1) := by decide +kernel
theorem dX5_checkRow_250 : decode cX5_checkRow 250 = .ok (.getfield 235, 3) := by decide +kernel
theorem dX5_checkRow_253 : decode cX5_checkRow 253 = .ok (.lconst 0, 1) := by decide +kernel
theorem dX5_checkRow_254 : decode cX5_checkRow 254 = .ok (.lcmp, 1) := by decide +kernel
theorem dX5_checkRow_255 : decode cX5_checkRow 255 = .ok (.ifCond .ne 32, 3) := by decide +kernel
theorem dX5_checkRow_258 : decode cX5_checkRow 258 = .ok (.aload_n 0, 1) := by decide +kernel
theorem dX5_checkRow_259 : decode cX5_checkRow 259 = .ok (.getfield 239, 3) := by decide +kernel
theorem dX5_checkRow_262 : decode cX5_checkRow 262 = .ok (.lconst 0, 1) := by decide +kernel
theorem dX5_checkRow_263 : decode cX5_checkRow 263 = .ok (.lcmp, 1) := by decide +kernel
theorem dX5_checkRow_264 : decode cX5_checkRow 264 = .ok (.ifCond .ne 23, 3) := by decide +kernel
theorem dX5_checkRow_267 : decode cX5_checkRow 267 = .ok (.iload_n 3, 1) := by decide +kernel
theorem dX5_checkRow_268 : decode cX5_checkRow 268 = .ok (.ifCond .ne 19, 3) := by decide +kernel
theorem dX5_checkRow_271 : decode cX5_checkRow 271 = .ok (.iload 4, 2) := by decide +kernel
theorem dX5_checkRow_273 : decode cX5_checkRow 273 = .ok (.ifCond .ne 14, 3) := by decide +kernel
theorem dX5_checkRow_276 : decode cX5_checkRow 276 = .ok (.aload_n 0, 1) := by decide +kernel
theorem dX5_checkRow_277 : decode cX5_checkRow 277 = .ok (.getfield 222, 3) := by decide +kernel
theorem dX5_checkRow_280 : decode cX5_checkRow 280 = .ok (.ifCond .ne 7, 3) := by decide +kernel
theorem dX5_checkRow_283 : decode cX5_checkRow 283 = .ok (.iconst 1, 1) := by decide +kernel
theorem dX5_checkRow_284 : decode cX5_checkRow 284 = .ok (.goto 4, 3) := by decide +kernel
theorem dX5_checkRow_287 : decode cX5_checkRow 287 = .ok (.iconst 0, 1) := by decide +kernel
theorem dX5_checkRow_288 : decode cX5_checkRow 288 = .ok (.iconst 5, 1) := by decide +kernel
theorem dX5_checkRow_289 : decode cX5_checkRow 289 = .ok (.iload_n 2, 1) := by decide +kernel
theorem dX5_checkRow_290 : decode cX5_checkRow 290 = .ok (.i2l, 1) := by decide +kernel
theorem dX5_checkRow_291 : decode cX5_checkRow 291 = .ok (.invokevirtual 200, 3) := by decide +kernel
theorem dX5_checkRow_294 : decode cX5_checkRow 294 = .ok (.pop, 1) := by decide +kernel
theorem dX5_checkRow_295 : decode cX5_checkRow 295 = .ok (.aload_n 0, 1) := by decide +kernel
theorem dX5_checkRow_296 : decode cX5_checkRow 296 = .ok (.iload_n 3, 1) := by decide +kernel
theorem dX5_checkRow_297 : decode cX5_checkRow 297 = .ok (.bipush 8, 2) := by decide +kernel
theorem dX5_checkRow_299 : decode cX5_checkRow 299 = .ok (.if_icmp .eq 15, 3) := by decide +kernel
theorem dX5_checkRow_302 : decode cX5_checkRow 302 = .ok (.aload_n 0, 1) := by decide +kernel
theorem dX5_checkRow_303 : decode cX5_checkRow 303 = .ok (.getfield 235, 3) := by decide +kernel
theorem dX5_checkRow_306 : decode cX5_checkRow 306 = .ok (.aload_n 0, 1) := by decide +kernel
theorem dX5_checkRow_307 : decode cX5_checkRow 307 = .ok (.getfield 239, 3) := by decide +kernel
theorem dX5_checkRow_310 : decode cX5_checkRow 310 = .ok (.lcmp, 1) := by decide +kernel
theorem dX5_checkRow_311 : decode cX5_checkRow 311 = .ok (.ifCond .ne 49, 3) := by decide +kernel
theorem dX5_checkRow_314 : decode cX5_checkRow 314 = .ok (.aload_n 0, 1) := by decide +kernel
theorem dX5_checkRow_315 : decode cX5_checkRow 315 = .ok (.getfield 235, 3) := by decide +kernel
theorem dX5_checkRow_318 : decode cX5_checkRow 318 = .ok (.lconst 0, 1) := by decide +kernel
theorem dX5_checkRow_319 : decode cX5_checkRow 319 = .ok (.ldc2_w 255, 3) := by decide +kernel
theorem dX5_checkRow_322 : decode cX5_checkRow 322 = .ok (.invokestatic 13, 3) := by decide +kernel
theorem dX5_checkRow_325 : decode cX5_checkRow 325 = .ok (.ifCond .eq 35, 3) := by decide +kernel
theorem dX5_checkRow_328 : decode cX5_checkRow 328 = .ok (.aload_n 0, 1) := by decide +kernel
theorem dX5_checkRow_329 : decode cX5_checkRow 329 = .ok (.getfield 239, 3) := by decide +kernel
theorem dX5_checkRow_332 : decode cX5_checkRow 332 = .ok (.lconst 0, 1) := by decide +kernel
theorem dX5_checkRow_333 : decode cX5_checkRow 333 = .ok (.ldc2_w 92, 3) := by decide +kernel
theorem dX5_checkRow_336 : decode cX5_checkRow 336 = .ok (.invokestatic 13, 3) := by decide +kernel
theorem dX5_checkRow_339 : decode cX5_checkRow 339 = .ok (.ifCond .eq 21, 3) := by decide +kernel
theorem dX5_checkRow_342 : decode cX5_checkRow 342 = .ok (.iload 4, 2) := by decide +kernel
theorem dX5_checkRow_344 : decode cX5_checkRow 344 = .ok (.bipush 8, 2) := by decide +kernel
theorem dX5_checkRow_346 : decode cX5_checkRow 346 = .ok (.if_icmp .ne 10, 3) := by decide +kernel
theorem dX5_checkRow_349 : decode cX5_checkRow 349 = .ok (.aload_n 0, 1) := by decide +kernel
theorem dX5_checkRow_350 : decode cX5_checkRow 350 = .ok (.getfield 222, 3) := by decide +kernel
theorem dX5_checkRow_353 : decode cX5_checkRow 353 = .ok (.ifCond .ne 7, 3) := by decide +kernel
theorem dX5_checkRow_356 : decode cX5_checkRow 356 = .ok (.iconst 1, 1) := by decide +kernel
theorem dX5_checkRow_357 : decode cX5_checkRow 357 = .ok (.goto 4, 3) := by decide +kernel
theorem dX5_checkRow_360 : decode cX5_checkRow 360 = .ok (.iconst 0, 1) := by decide +kernel
theorem dX5_checkRow_361 : decode cX5_checkRow 361 = .ok (.iconst 5, 1) := by decide +kernel
theorem dX5_checkRow_362 : decode cX5_checkRow 362 = .ok (.iload_n 2, 1) := by decide +kernel
theorem dX5_checkRow_363 : decode cX5_checkRow 363 = .ok (.i2l, 1) := by decide +kernel
theorem dX5_checkRow_364 : decode cX5_checkRow 364 = .ok (.invokevirtual 200, 3) := by decide +kernel
theorem dX5_checkRow_367 : decode cX5_checkRow 367 = .ok (.pop, 1) := by decide +kernel
theorem dX5_checkRow_368 : decode cX5_checkRow 368 = .ok (.aload_n 0, 1) := by decide +kernel
theorem dX5_checkRow_369 : decode cX5_checkRow 369 = .ok (.getfield 187, 3) := by decide +kernel
theorem dX5_checkRow_372 : decode cX5_checkRow 372 = .ok (.ifCond .ne 11, 3) := by decide +kernel
theorem dX5_checkRow_375 : decode cX5_checkRow 375 = .ok (.aload_n 0, 1) := by decide +kernel
theorem dX5_checkRow_376 : decode cX5_checkRow 376 = .ok (.iload_n 1, 1) := by decide +kernel
theorem dX5_checkRow_377 : decode cX5_checkRow 377 = .ok (.iload_n 2, 1) := by decide +kernel
theorem dX5_checkRow_378 : decode cX5_checkRow 378 = .ok (.iload 4, 2) := by decide +kernel
theorem dX5_checkRow_380 : decode cX5_checkRow 380 = .ok (.invokevirtual 257, 3) := by decide +kernel
theorem dX5_checkRow_383 : decode cX5_checkRow 383 = .ok (.return_, 1) := by decide +kernel
theorem dX5_checkLocal_0 : decode cX5_checkLocal 0 = .ok (.aload_n 0, 1) := by decide +kernel
theorem dX5_checkLocal_1 : decode cX5_checkLocal 1 = .ok (.getfield 242, 3) := by decide +kernel
theorem dX5_checkLocal_4 : decode cX5_checkLocal 4 = .ok (.ldc2_w 261, 3) := by decide +kernel
theorem dX5_checkLocal_7 : decode cX5_checkLocal 7 = .ok (.ladd, 1) := by decide +kernel
theorem dX5_checkLocal_8 : decode cX5_checkLocal 8 = .ok (.aload_n 0, 1) := by decide +kernel
theorem dX5_checkLocal_9 : decode cX5_checkLocal 9 = .ok (.getfield 210, 3) := by decide +kernel
theorem dX5_checkLocal_12 : decode cX5_checkLocal 12 = .ok (.i2l, 1) := by decide +kernel
theorem dX5_checkLocal_13 : decode cX5_checkLocal 13 = .ok (.lcmp, 1) := by decide +kernel
theorem dX5_checkLocal_14 : decode cX5_checkLocal 14 = .ok (.ifCond .gt 23, 3) := by decide +kernel
theorem dX5_checkLocal_17 : decode cX5_checkLocal 17 = .ok (.aload_n 0, 1) := by decide +kernel
theorem dX5_checkLocal_18 : decode cX5_checkLocal 18 = .ok (.aload_n 0, 1) := by decide +kernel
theorem dX5_checkLocal_19 : decode cX5_checkLocal 19 = .ok (.getfield 242, 3) := by decide +kernel
theorem dX5_checkLocal_22 : decode cX5_checkLocal 22 = .ok (.l2i, 1) := by decide +kernel
theorem dX5_checkLocal_23 : decode cX5_checkLocal 23 = .ok (.invokevirtual 196, 3) := by decide +kernel
theorem dX5_checkLocal_26 : decode cX5_checkLocal 26 = .ok (.ldc2_w 152, 3) := by decide +kernel
theorem dX5_checkLocal_29 : decode cX5_checkLocal 29 = .ok (.lcmp, 1) := by decide +kernel
theorem dX5_checkLocal_30 : decode cX5_checkLocal 30 = .ok (.ifCond .ne 7, 3) := by decide +kernel
theorem dX5_checkLocal_33 : decode cX5_checkLocal 33 = .ok (.iconst 1, 1) := by decide +kernel
theorem dX5_checkLocal_34 : decode cX5_checkLocal 34 = .ok (.goto 4, 3) := by decide +kernel
theorem dX5_checkLocal_37 : decode cX5_checkLocal 37 = .ok (.iconst 0, 1) := by decide +kernel
theorem dX5_checkLocal_38 : decode cX5_checkLocal 38 = .ok (.istore 4, 2) := by decide +kernel
theorem dX5_checkLocal_40 : decode cX5_checkLocal 40 = .ok (.iload 4, 2) := by decide +kernel
theorem dX5_checkLocal_42 : decode cX5_checkLocal 42 = .ok (.ifCond .eq 11, 3) := by decide +kernel
theorem dX5_checkLocal_45 : decode cX5_checkLocal 45 = .ok (.aload_n 0, 1) := by decide +kernel
theorem dX5_checkLocal_46 : decode cX5_checkLocal 46 = .ok (.getfield 242, 3) := by decide +kernel
theorem dX5_checkLocal_49 : decode cX5_checkLocal 49 = .ok (.l2i, 1) := by decide +kernel
theorem dX5_checkLocal_50 : decode cX5_checkLocal 50 = .ok (.goto 4, 3) := by decide +kernel
theorem dX5_checkLocal_53 : decode cX5_checkLocal 53 = .ok (.iconst 0, 1) := by decide +kernel
theorem dX5_checkLocal_54 : decode cX5_checkLocal 54 = .ok (.istore 5, 2) := by decide +kernel
theorem dX5_checkLocal_56 : decode cX5_checkLocal 56 = .ok (.iload 4, 2) := by decide +kernel
theorem dX5_checkLocal_58 : decode cX5_checkLocal 58 = .ok (.ifCond .eq 39, 3) := by decide +kernel
theorem dX5_checkLocal_61 : decode cX5_checkLocal 61 = .ok (.iload 5, 2) := by decide +kernel
theorem dX5_checkLocal_63 : decode cX5_checkLocal 63 = .ok (.bipush 30, 2) := by decide +kernel
theorem dX5_checkLocal_65 : decode cX5_checkLocal 65 = .ok (.iadd, 1) := by decide +kernel
theorem dX5_checkLocal_66 : decode cX5_checkLocal 66 = .ok (.aload_n 0, 1) := by decide +kernel
theorem dX5_checkLocal_67 : decode cX5_checkLocal 67 = .ok (.iload 5, 2) := by decide +kernel
theorem dX5_checkLocal_69 : decode cX5_checkLocal 69 = .ok (.bipush 26, 2) := by decide +kernel
theorem dX5_checkLocal_71 : decode cX5_checkLocal 71 = .ok (.iadd, 1) := by decide +kernel
theorem dX5_checkLocal_72 : decode cX5_checkLocal 72 = .ok (.invokevirtual 193, 3) := by decide +kernel
theorem dX5_checkLocal_75 : decode cX5_checkLocal 75 = .ok (.iadd, 1) := by decide +kernel
theorem dX5_checkLocal_76 : decode cX5_checkLocal 76 = .ok (.aload_n 0, 1) := by decide +kernel
theorem dX5_checkLocal_77 : decode cX5_checkLocal 77 = .ok (.iload 5, 2) := by decide +kernel
theorem dX5_checkLocal_79 : decode cX5_checkLocal 79 = .ok (.bipush 28, 2) := by decide +kernel
theorem dX5_checkLocal_81 : decode cX5_checkLocal 81 = .ok (.iadd, 1) := by decide +kernel
theorem dX5_checkLocal_82 : decode cX5_checkLocal 82 = .ok (.invokevirtual 193, 3) := by decide +kernel
theorem dX5_checkLocal_85 : decode cX5_checkLocal 85 = .ok (.iadd, 1) := by decide +kernel
theorem dX5_checkLocal_86 : decode cX5_checkLocal 86 = .ok (.aload_n 0, 1) := by decide +kernel
theorem dX5_checkLocal_87 : decode cX5_checkLocal 87 = .ok (.getfield 210, 3) := by decide +kernel
theorem dX5_checkLocal_90 : decode cX5_checkLocal 90 = .ok (.if_icmp .gt 7, 3) := by decide +kernel
theorem dX5_checkLocal_93 : decode cX5_checkLocal 93 = .ok (.iconst 1, 1) := by decide +kernel
theorem dX5_checkLocal_94 : decode cX5_checkLocal 94 = .ok (.goto 4, 3) := by decide +kernel
theorem dX5_checkLocal_97 : decode cX5_checkLocal 97 = .ok (.iconst 0, 1) := by decide +kernel
theorem dX5_checkLocal_98 : decode cX5_checkLocal 98 = .ok (.istore 4, 2) := by decide +kernel
theorem dX5_checkLocal_100 : decode cX5_checkLocal 100 = .ok (.aload_n 0, 1) := by decide +kernel
theorem dX5_checkLocal_101 : decode cX5_checkLocal 101 = .ok (.iload 4, 2) := by decide +kernel
theorem dX5_checkLocal_103 : decode cX5_checkLocal 103 = .ok (.bipush 6, 2) := by decide +kernel
theorem dX5_checkLocal_105 : decode cX5_checkLocal 105 = .ok (.aload_n 0, 1) := by decide +kernel
theorem dX5_checkLocal_106 : decode cX5_checkLocal 106 = .ok (.getfield 242, 3) := by decide +kernel
theorem dX5_checkLocal_109 : decode cX5_checkLocal 109 = .ok (.invokevirtual 200, 3) := by decide +kernel
theorem dX5_checkLocal_112 : decode cX5_checkLocal 112 = .ok (.ifCond .ne 4, 3) := by decide +kernel
theorem dX5_checkLocal_115 : decode cX5_checkLocal 115 = .ok (.return_, 1) := by decide +kernel
theorem dX5_checkLocal_116 : decode cX5_checkLocal 116 = .ok (.aload_n 0, 1) := by decide +kernel
theorem dX5_checkLocal_117 : decode cX5_checkLocal 117 = .ok (.iload 5, 2) := by decide +kernel
theorem dX5_checkLocal_119 : decode cX5_checkLocal 119 = .ok (.iconst 4, 1) := by decide +kernel
theorem dX5_checkLocal_120 : decode cX5_checkLocal 120 = .ok (.iadd, 1) := by decide +kernel
theorem dX5_checkLocal_121 : decode cX5_checkLocal 121 = .ok (.iload_n 2, 1) := by decide +kernel
theorem dX5_checkLocal_122 : decode cX5_checkLocal 122 = .ok (.bipush 6, 2) := by decide +kernel
theorem dX5_checkLocal_124 : decode cX5_checkLocal 124 = .ok (.iadd, 1) := by decide +kernel
theorem dX5_checkLocal_125 : decode cX5_checkLocal 125 = .ok (.bipush 10, 2) := by decide +kernel
theorem dX5_checkLocal_127 : decode cX5_checkLocal 127 = .ok (.invokevirtual 263, 3) := by decide +kernel
theorem dX5_checkLocal_130 : decode cX5_checkLocal 130 = .ok (.ifCond .eq 49, 3) := by decide +kernel
theorem dX5_checkLocal_133 : decode cX5_checkLocal 133 = .ok (.aload_n 0, 1) := by decide +kernel
theorem dX5_checkLocal_134 : decode cX5_checkLocal 134 = .ok (.iload 5, 2) := by decide +kernel
theorem dX5_checkLocal_136 : decode cX5_checkLocal 136 = .ok (.bipush 26, 2) := by decide +kernel
theorem dX5_checkLocal_138 : decode cX5_checkLocal 138 = .ok (.iadd, 1) := by decide +kernel
theorem dX5_checkLocal_139 : decode cX5_checkLocal 139 = .ok (.iload_n 2, 1) := by decide +kernel
theorem dX5_checkLocal_140 : decode cX5_checkLocal 140 = .ok (.bipush 28, 2) := by decide +kernel
theorem dX5_checkLocal_142 : decode cX5_checkLocal 142 = .ok (.iadd, 1) := by decide +kernel
theorem dX5_checkLocal_143 : decode cX5_checkLocal 143 = .ok (.iconst 4, 1) := by decide +kernel
theorem dX5_checkLocal_144 : decode cX5_checkLocal 144 = .ok (.invokevirtual 263, 3) := by decide +kernel
theorem dX5_checkLocal_147 : decode cX5_checkLocal 147 = .ok (.ifCond .eq 32, 3) := by decide +kernel
theorem dX5_checkLocal_150 : decode cX5_checkLocal 150 = .ok (.aload_n 0, 1) := by decide +kernel
theorem dX5_checkLocal_151 : decode cX5_checkLocal 151 = .ok (.iload 5, 2) := by decide +kernel
theorem dX5_checkLocal_153 : decode cX5_checkLocal 153 = .ok (.bipush 30, 2) := by decide +kernel
theorem dX5_checkLocal_155 : decode cX5_checkLocal 155 = .ok (.iadd, 1) := by decide +kernel
theorem dX5_checkLocal_156 : decode cX5_checkLocal 156 = .ok (.aload_n 0, 1) := by decide +kernel
theorem dX5_checkLocal_157 : decode cX5_checkLocal 157 = .ok (.getfield 226, 3) := by decide +kernel
theorem dX5_checkLocal_160 : decode cX5_checkLocal 160 = .ok (.aload_n 0, 1) := by decide +kernel
theorem dX5_checkLocal_161 : decode cX5_checkLocal 161 = .ok (.getfield 229, 3) := by decide +kernel
theorem dX5_checkLocal_164 : decode cX5_checkLocal 164 = .ok (.aload_n 0, 1) := by decide +kernel
theorem dX5_checkLocal_165 : decode cX5_checkLocal 165 = .ok (.getfield 232, 3) := by decide +kernel
theorem dX5_checkLocal_168 : decode cX5_checkLocal 168 = .ok (.iadd, 1) := by decide +kernel
theorem dX5_checkLocal_169 : decode cX5_checkLocal 169 = .ok (.invokevirtual 263, 3) := by decide +kernel
theorem dX5_checkLocal_172 : decode cX5_checkLocal 172 = .ok (.ifCond .eq 7, 3) := by decide +kernel
theorem dX5_checkLocal_175 : decode cX5_checkLocal 175 = .ok (.iconst 1, 1) := by decide +kernel
theorem dX5_checkLocal_176 : decode cX5_checkLocal 176 = .ok (.goto 4, 3) := by decide +kernel
theorem dX5_checkLocal_179 : decode cX5_checkLocal 179 = .ok (.iconst 0, 1) := by decide +kernel
theorem dX5_checkLocal_180 : decode cX5_checkLocal 180 = .ok (.istore 6, 2) := by decide +kernel
theorem dX5_checkLocal_182 : decode cX5_checkLocal 182 = .ok (.iconst 0, 1) := by decide +kernel
theorem dX5_checkLocal_183 : decode cX5_checkLocal 183 = .ok (.istore 7, 2) := by decide +kernel
theorem dX5_checkLocal_185 : decode cX5_checkLocal 185 = .ok (.iload 7, 2) := by decide +kernel
theorem dX5_checkLocal_187 : decode cX5_checkLocal 187 = .ok (.bipush 12, 2) := by decide +kernel
theorem dX5_checkLocal_189 : decode cX5_checkLocal 189 = .ok (.if_icmp .ge 59, 3) := by decide +kernel
theorem dX5_checkLocal_192 : decode cX5_checkLocal 192 = .ok (.iload 6, 2) := by decide +kernel
theorem dX5_checkLocal_194 : decode cX5_checkLocal 194 = .ok (.ifCond .eq 45, 3) := by decide +kernel
theorem dX5_checkLocal_197 : decode cX5_checkLocal 197 = .ok (.aload_n 0, 1) := by decide +kernel
theorem dX5_checkLocal_198 : decode cX5_checkLocal 198 = .ok (.getfield 128, 3) := by decide +kernel
theorem dX5_checkLocal_201 : decode cX5_checkLocal 201 = .ok (.iload 5, 2) := by decide +kernel
theorem dX5_checkLocal_203 : decode cX5_checkLocal 203 = .ok (.bipush 14, 2) := by decide +kernel
theorem dX5_checkLocal_205 : decode cX5_checkLocal 205 = .ok (.iadd, 1) := by decide +kernel
theorem dX5_checkLocal_206 : decode cX5_checkLocal 206 = .ok (.iload 7, 2) := by decide +kernel
theorem dX5_checkLocal_208 : decode cX5_checkLocal 208 = .ok (.iadd, 1) := by decide +kernel
theorem dX5_checkLocal_209 : decode cX5_checkLocal 209 = .ok (.iaload, 1) := by decide +kernel
theorem dX5_checkLocal_210 : decode cX5_checkLocal 210 = .ok (.iload_n 3, 1) := by decide +kernel
theorem dX5_checkLocal_211 : decode cX5_checkLocal 211 = .ok (.bipush 8, 2) := by decide +kernel
theorem dX5_checkLocal_213 : decode cX5_checkLocal 213 = .ok (.if_icmp .ne 7, 3) := by decide +kernel
theorem dX5_checkLocal_216 : decode cX5_checkLocal 216 = .ok (.iconst 0, 1) := by decide +kernel
theorem dX5_checkLocal_217 : decode cX5_checkLocal 217 = .ok (.goto 15, 3) := by decide +kernel
theorem dX5_checkLocal_220 : decode cX5_checkLocal 220 = .ok (.aload_n 0, 1) := by decide +kernel
theorem dX5_checkLocal_221 : decode cX5_checkLocal 221 = .ok (.getfield 128, 3) := by decide +kernel
theorem dX5_checkLocal_224 : decode cX5_checkLocal 224 = .ok (.iload_n 2, 1) := by decide +kernel
theorem dX5_checkLocal_225 : decode cX5_checkLocal 225 = .ok (.bipush 16, 2) := by decide +kernel
theorem dX5_checkLocal_227 : decode cX5_checkLocal 227 = .ok (.iadd, 1) := by decide +kernel
theorem dX5_checkLocal_228 : decode cX5_checkLocal 228 = .ok (.iload 7, 2) := by decide +kernel
theorem dX5_checkLocal_230 : decode cX5_checkLocal 230 = .ok (.iadd, 1) := by decide +kernel
theorem dX5_checkLocal_231 : decode cX5_checkLocal 231 = .ok (.iaload, 1) := by decide +kernel
theorem dX5_checkLocal_232 : decode cX5_checkLocal 232 = .ok (.if_icmp .ne 7, 3) := by decide +kernel
theorem dX5_checkLocal_235 : decode cX5_checkLocal 235 = .ok (.iconst 1, 1) := by decide +kernel
theorem dX5_checkLocal_236 : decode cX5_checkLocal 236 = .ok (.goto 4, 3) := by decide +kernel
theorem dX5_checkLocal_239 : decode cX5_checkLocal 239 = .ok (.iconst 0, 1) := by decide +kernel
theorem dX5_checkLocal_240 : decode cX5_checkLocal 240 = .ok (.istore 6, 2) := by decide +kernel
theorem dX5_checkLocal_242 : decode cX5_checkLocal 242 = .ok (.iinc 7 1, 3) := by decide +kernel
theorem dX5_checkLocal_245 : decode cX5_checkLocal 245 = .ok (.goto (-60), 3) := by decide +kernel
theorem dX5_checkLocal_248 : decode cX5_checkLocal 248 = .ok (.aload_n 0, 1) := by decide +kernel
theorem dX5_checkLocal_249 : decode cX5_checkLocal 249 = .ok (.iload 6, 2) := by decide +kernel
theorem dX5_checkLocal_251 : decode cX5_checkLocal 251 = .ok (.bipush 7, 2) := by decide +kernel
theorem dX5_checkLocal_253 : decode cX5_checkLocal 253 = .ok (.iload 5, 2) := by decide +kernel
theorem dX5_checkLocal_255 : decode cX5_checkLocal 255 = .ok (.i2l, 1) := by decide +kernel
theorem dX5_checkLocal_256 : decode cX5_checkLocal 256 = .ok (.invokevirtual 200, 3) := by decide +kernel
theorem dX5_checkLocal_259 : decode cX5_checkLocal 259 = .ok (.ifCond .ne 4, 3) := by decide +kernel
theorem dX5_checkLocal_262 : decode cX5_checkLocal 262 = .ok (.return_, 1) := by decide +kernel
theorem dX5_checkLocal_263 : decode cX5_checkLocal 263 = .ok (.iload 5, 2) := by decide +kernel
theorem dX5_checkLocal_265 : decode cX5_checkLocal 265 = .ok (.bipush 30, 2) := by decide +kernel
theorem dX5_checkLocal_267 : decode cX5_checkLocal 267 = .ok (.iadd, 1) := by decide +kernel
theorem dX5_checkLocal_268 : decode cX5_checkLocal 268 = .ok (.aload_n 0, 1) := by decide +kernel
theorem dX5_checkLocal_269 : decode cX5_checkLocal 269 = .ok (.getfield 229, 3) := by decide +kernel
theorem dX5_checkLocal_272 : decode cX5_checkLocal 272 = .ok (.iadd, 1) := by decide +kernel
theorem dX5_checkLocal_273 : decode cX5_checkLocal 273 = .ok (.aload_n 0, 1) := by decide +kernel
theorem dX5_checkLocal_274 : decode cX5_checkLocal 274 = .ok (.getfield 232, 3) := by decide +kernel
theorem dX5_checkLocal_277 : decode cX5_checkLocal 277 = .ok (.iadd, 1) := by decide +kernel
theorem dX5_checkLocal_278 : decode cX5_checkLocal 278 = .ok (.istore 7, 2) := by decide +kernel
theorem dX5_checkLocal_280 : decode cX5_checkLocal 280 = .ok (.iload 7, 2) := by decide +kernel
theorem dX5_checkLocal_282 : decode cX5_checkLocal 282 = .ok (.aload_n 0, 1) := by decide +kernel
theorem dX5_checkLocal_283 : decode cX5_checkLocal 283 = .ok (.getfield 235, 3) := by decide +kernel
theorem dX5_checkLocal_286 : decode cX5_checkLocal 286 = .ok (.l2i, 1) := by decide +kernel
theorem dX5_checkLocal_287 : decode cX5_checkLocal 287 = .ok (.iadd, 1) := by decide +kernel
theorem dX5_checkLocal_288 : decode cX5_checkLocal 288 = .ok (.iload_n 3, 1) := by decide +kernel
theorem dX5_checkLocal_289 : decode cX5_checkLocal 289 = .ok (.bipush 8, 2) := by decide +kernel
theorem dX5_checkLocal_291 : decode cX5_checkLocal 291 = .ok (.if_icmp .ne 8, 3) := by decide +kernel
theorem dX5_checkLocal_294 : decode cX5_checkLocal 294 = .ok (.bipush 16, 2) := by decide +kernel
theorem dX5_checkLocal_296 : decode cX5_checkLocal 296 = .ok (.goto 4, 3) := by decide +kernel
theorem dX5_checkLocal_299 : decode cX5_checkLocal 299 = .ok (.iconst 0, 1) := by decide +kernel
theorem dX5_checkLocal_300 : decode cX5_checkLocal 300 = .ok (.iadd, 1) := by decide +kernel
theorem dX5_checkLocal_301 : decode cX5_checkLocal 301 = .ok (.istore 8, 2) := by decide +kernel
theorem dX5_checkLocal_303 : decode cX5_checkLocal 303 = .ok (.iload 8, 2) := by decide +kernel
theorem dX5_checkLocal_305 : decode cX5_checkLocal 305 = .ok (.aload_n 0, 1) := by decide +kernel
theorem dX5_checkLocal_306 : decode cX5_checkLocal 306 = .ok (.getfield 210, 3) := by decide +kernel
theorem dX5_checkLocal_309 : decode cX5_checkLocal 309 = .ok (.if_icmp .gt 7, 3) := by decide +kernel
theorem dX5_checkLocal_312 : decode cX5_checkLocal 312 = .ok (.iconst 1, 1) := by decide +kernel
theorem dX5_checkLocal_313 : decode cX5_checkLocal 313 = .ok (.goto 4, 3) := by decide +kernel
theorem dX5_checkLocal_316 : decode cX5_checkLocal 316 = .ok (.iconst 0, 1) := by decide +kernel
theorem dX5_checkLocal_317 : decode cX5_checkLocal 317 = .ok (.istore 4, 2) := by decide +kernel
theorem dX5_checkLocal_319 : decode cX5_checkLocal 319 = .ok (.iload 4, 2) := by decide +kernel
theorem dX5_checkLocal_321 : decode cX5_checkLocal 321 = .ok (.ifCond .eq 50, 3) := by decide +kernel
theorem dX5_checkLocal_324 : decode cX5_checkLocal 324 = .ok (.iload_n 3, 1) := by decide +kernel
theorem dX5_checkLocal_325 : decode cX5_checkLocal 325 = .ok (.bipush 8, 2) := by decide +kernel
theorem dX5_checkLocal_327 : decode cX5_checkLocal 327 = .ok (.if_icmp .ne 44, 3) := by decide +kernel
theorem dX5_checkLocal_330 : decode cX5_checkLocal 330 = .ok (.aload_n 0, 1) := by decide +kernel
theorem dX5_checkLocal_331 : decode cX5_checkLocal 331 = .ok (.iload 8, 2) := by decide +kernel
theorem dX5_checkLocal_333 : decode cX5_checkLocal 333 = .ok (.bipush 16, 2) := by decide +kernel
theorem dX5_checkLocal_335 : decode cX5_checkLocal 335 = .ok (.isub, 1) := by decide +kernel
theorem dX5_checkLocal_336 : decode cX5_checkLocal 336 = .ok (.invokevirtual 196, 3) := by decide +kernel
theorem dX5_checkLocal_339 : decode cX5_checkLocal 339 = .ok (.ldc2_w 161, 3) := by decide +kernel
theorem dX5_checkLocal_342 : decode cX5_checkLocal 342 = .ok (.lcmp, 1) := by decide +kernel
theorem dX5_checkLocal_343 : decode cX5_checkLocal 343 = .ok (.ifCond .ne 25, 3) := by decide +kernel
theorem dX5_checkLocal_346 : decode cX5_checkLocal 346 = .ok (.aload_n 0, 1) := by decide +kernel
theorem dX5_checkLocal_347 : decode cX5_checkLocal 347 = .ok (.iload 8, 2) := by decide +kernel
theorem dX5_checkLocal_349 : decode cX5_checkLocal 349 = .ok (.bipush 12, 2) := by decide +kernel
theorem dX5_checkLocal_351 : decode cX5_checkLocal 351 = .ok (.isub, 1) := by decide +kernel
theorem dX5_checkLocal_352 : decode cX5_checkLocal 352 = .ok (.iload_n 2, 1) := by decide +kernel
theorem dX5_checkLocal_353 : decode cX5_checkLocal 353 = .ok (.bipush 16, 2) := by decide +kernel
theorem dX5_checkLocal_355 : decode cX5_checkLocal 355 = .ok (.iadd, 1) := by decide +kernel
theorem dX5_checkLocal_356 : decode cX5_checkLocal 356 = .ok (.bipush 12, 2) := by decide +kernel
theorem dX5_checkLocal_358 : decode cX5_checkLocal 358 = .ok (.invokevirtual 263, 3) := by decide +kernel
theorem dX5_checkLocal_361 : decode cX5_checkLocal 361 = .ok (.ifCond .eq 7, 3) := by decide +kernel
theorem dX5_checkLocal_364 : decode cX5_checkLocal 364 = .ok (.iconst 1, 1) := by decide +kernel
theorem dX5_checkLocal_365 : decode cX5_checkLocal 365 = .ok (.goto 4, 3) := by decide +kernel
theorem dX5_checkLocal_368 : decode cX5_checkLocal 368 = .ok (.iconst 0, 1) := by decide +kernel
theorem dX5_checkLocal_369 : decode cX5_checkLocal 369 = .ok (.istore 4, 2) := by decide +kernel
theorem dX5_checkLocal_371 : decode cX5_checkLocal 371 = .ok (.aload_n 0, 1) := by decide +kernel
theorem dX5_checkLocal_372 : decode cX5_checkLocal 372 = .ok (.iload 4, 2) := by decide +kernel
theorem dX5_checkLocal_374 : decode cX5_checkLocal 374 = .ok (.bipush 8, 2) := by decide +kernel
theorem dX5_checkLocal_376 : decode cX5_checkLocal 376 = .ok (.iload 7, 2) := by decide +kernel
theorem dX5_checkLocal_378 : decode cX5_checkLocal 378 = .ok (.i2l, 1) := by decide +kernel
theorem dX5_checkLocal_379 : decode cX5_checkLocal 379 = .ok (.invokevirtual 200, 3) := by decide +kernel
theorem dX5_checkLocal_382 : decode cX5_checkLocal 382 = .ok (.pop, 1) := by decide +kernel
theorem dX5_checkLocal_383 : decode cX5_checkLocal 383 = .ok (.iconst 0, 1) := by decide +kernel
theorem dX5_checkLocal_384 : decode cX5_checkLocal 384 = .ok (.istore 9, 2) := by decide +kernel
theorem dX5_checkLocal_386 : decode cX5_checkLocal 386 = .ok (.iload 9, 2) := by decide +kernel
theorem dX5_checkLocal_388 : decode cX5_checkLocal 388 = .ok (.iload_n 1, 1) := by decide +kernel
theorem dX5_checkLocal_389 : decode cX5_checkLocal 389 = .ok (.if_icmp .ge 48, 3) := by decide +kernel
theorem dX5_checkLocal_392 : decode cX5_checkLocal 392 = .ok (.aload_n 0, 1) := by decide +kernel
theorem dX5_checkLocal_393 : decode cX5_checkLocal 393 = .ok (.iload 8, 2) := by decide +kernel
theorem dX5_checkLocal_395 : decode cX5_checkLocal 395 = .ok (.aload_n 0, 1) := by decide +kernel
theorem dX5_checkLocal_396 : decode cX5_checkLocal 396 = .ok (.getfield 267, 3) := by decide +kernel
theorem dX5_checkLocal_399 : decode cX5_checkLocal 399 = .ok (.iload 9, 2) := by decide +kernel
theorem dX5_checkLocal_401 : decode cX5_checkLocal 401 = .ok (.iaload, 1) := by decide +kernel
theorem dX5_checkLocal_402 : decode cX5_checkLocal 402 = .ok (.if_icmp .le 15, 3) := by decide +kernel
theorem dX5_checkLocal_405 : decode cX5_checkLocal 405 = .ok (.iload 5, 2) := by decide +kernel
theorem dX5_checkLocal_407 : decode cX5_checkLocal 407 = .ok (.aload_n 0, 1) := by decide +kernel
theorem dX5_checkLocal_408 : decode cX5_checkLocal 408 = .ok (.getfield 270, 3) := by decide +kernel
theorem dX5_checkLocal_411 : decode cX5_checkLocal 411 = .ok (.iload 9, 2) := by decide +kernel
theorem dX5_checkLocal_413 : decode cX5_checkLocal 413 = .ok (.iaload, 1) := by decide +kernel
theorem dX5_checkLocal_414 : decode cX5_checkLocal 414 = .ok (.if_icmp .lt 7, 3) := by decide +kernel
theorem dX5_checkLocal_417 : decode cX5_checkLocal 417 = .ok (.iconst 1, 1) := by decide +kernel
theorem dX5_checkLocal_418 : decode cX5_checkLocal 418 = .ok (.goto 4, 3) := by decide +kernel
theorem dX5_checkLocal_421 : decode cX5_checkLocal 421 = .ok (.iconst 0, 1) := by decide +kernel
theorem dX5_checkLocal_422 : decode cX5_checkLocal 422 = .ok (.bipush 9, 2) := by decide +kernel
theorem dX5_checkLocal_424 : decode cX5_checkLocal 424 = .ok (.iload 5, 2) := by decide +kernel
theorem dX5_checkLocal_426 : decode cX5_checkLocal 426 = .ok (.i2l, 1) := by decide +kernel
theorem dX5_checkLocal_427 : decode cX5_checkLocal 427 = .ok (.invokevirtual 200, 3) := by decide +kernel
theorem dX5_checkLocal_430 : decode cX5_checkLocal 430 = .ok (.pop, 1) := by decide +kernel
theorem dX5_checkLocal_431 : decode cX5_checkLocal 431 = .ok (.iinc 9 1, 3) := by decide +kernel
theorem dX5_checkLocal_434 : decode cX5_checkLocal 434 = .ok (.goto (-48), 3) := by decide +kernel
theorem dX5_checkLocal_437 : decode cX5_checkLocal 437 = .ok (.aload_n 0, 1) := by decide +kernel
theorem dX5_checkLocal_438 : decode cX5_checkLocal 438 = .ok (.getfield 267, 3) := by decide +kernel
theorem dX5_checkLocal_441 : decode cX5_checkLocal 441 = .ok (.iload_n 1, 1) := by decide +kernel
theorem dX5_checkLocal_442 : decode cX5_checkLocal 442 = .ok (.iload 5, 2) := by decide +kernel
theorem dX5_checkLocal_444 : decode cX5_checkLocal 444 = .ok (.iastore, 1) := by decide +kernel
theorem dX5_checkLocal_445 : decode cX5_checkLocal 445 = .ok (.aload_n 0, 1) := by decide +kernel
theorem dX5_checkLocal_446 : decode cX5_checkLocal 446 = .ok (.getfield 270, 3) := by decide +kernel
theorem dX5_checkLocal_449 : decode cX5_checkLocal 449 = .ok (.iload_n 1, 1) := by decide +kernel
theorem dX5_checkLocal_450 : decode cX5_checkLocal 450 = .ok (.iload 8, 2) := by decide +kernel
theorem dX5_checkLocal_452 : decode cX5_checkLocal 452 = .ok (.iastore, 1) := by decide +kernel
theorem dX5_checkLocal_453 : decode cX5_checkLocal 453 = .ok (.aload_n 0, 1) := by decide +kernel
theorem dX5_checkLocal_454 : decode cX5_checkLocal 454 = .ok (.aload_n 0, 1) := by decide +kernel
theorem dX5_checkLocal_455 : decode cX5_checkLocal 455 = .ok (.invokevirtual 273, 3) := by decide +kernel
theorem dX5_checkLocal_458 : decode cX5_checkLocal 458 = .ok (.bipush 10, 2) := by decide +kernel
theorem dX5_checkLocal_460 : decode cX5_checkLocal 460 = .ok (.iload_n 2, 1) := by decide +kernel
theorem dX5_checkLocal_461 : decode cX5_checkLocal 461 = .ok (.i2l, 1) := by decide +kernel
theorem dX5_checkLocal_462 : decode cX5_checkLocal 462 = .ok (.invokevirtual 200, 3) := by decide +kernel
theorem dX5_checkLocal_465 : decode cX5_checkLocal 465 = .ok (.pop, 1) := by decide +kernel
theorem dX5_checkLocal_466 : decode cX5_checkLocal 466 = .ok (.return_, 1) := by decide +kernel
theorem dX5_takeRow_0 : decode cX5_takeRow 0 = .ok (.aload_n 0, 1) := by decide +kernel
theorem dX5_takeRow_1 : decode cX5_takeRow 1 = .ok (.getfield 216, 3) := by decide +kernel
theorem dX5_takeRow_4 : decode cX5_takeRow 4 = .ok (.iload_n 1, 1) := by decide +kernel
theorem dX5_takeRow_5 : decode cX5_takeRow 5 = .ok (.iaload, 1) := by decide +kernel
theorem dX5_takeRow_6 : decode cX5_takeRow 6 = .ok (.istore_n 2, 1) := by decide +kernel
theorem dX5_takeRow_7 : decode cX5_takeRow 7 = .ok (.aload_n 0, 1) := by decide +kernel
theorem dX5_takeRow_8 : decode cX5_takeRow 8 = .ok (.iload_n 2, 1) := by decide +kernel
theorem dX5_takeRow_9 : decode cX5_takeRow 9 = .ok (.invokevirtual 245, 3) := by decide +kernel
theorem dX5_takeRow_12 : decode cX5_takeRow 12 = .ok (.aload_n 0, 1) := by decide +kernel
theorem dX5_takeRow_13 : decode cX5_takeRow 13 = .ok (.aload_n 0, 1) := by decide +kernel
theorem dX5_takeRow_14 : decode cX5_takeRow 14 = .ok (.getfield 226, 3) := by decide +kernel
theorem dX5_takeRow_17 : decode cX5_takeRow 17 = .ok (.aload_n 0, 1) := by decide +kernel
theorem dX5_takeRow_18 : decode cX5_takeRow 18 = .ok (.getfield 229, 3) := by decide +kernel
theorem dX5_takeRow_21 : decode cX5_takeRow 21 = .ok (.iadd, 1) := by decide +kernel
theorem dX5_takeRow_22 : decode cX5_takeRow 22 = .ok (.aload_n 0, 1) := by decide +kernel
theorem dX5_takeRow_23 : decode cX5_takeRow 23 = .ok (.getfield 226, 3) := by decide +kernel
theorem dX5_takeRow_26 : decode cX5_takeRow 26 = .ok (.aload_n 0, 1) := by decide +kernel
theorem dX5_takeRow_27 : decode cX5_takeRow 27 = .ok (.getfield 229, 3) := by decide +kernel
theorem dX5_takeRow_30 : decode cX5_takeRow 30 = .ok (.iadd, 1) := by decide +kernel
theorem dX5_takeRow_31 : decode cX5_takeRow 31 = .ok (.aload_n 0, 1) := by decide +kernel
theorem dX5_takeRow_32 : decode cX5_takeRow 32 = .ok (.getfield 232, 3) := by decide +kernel
theorem dX5_takeRow_35 : decode cX5_takeRow 35 = .ok (.iadd, 1) := by decide +kernel
theorem dX5_takeRow_36 : decode cX5_takeRow 36 = .ok (.invokevirtual 248, 3) := by decide +kernel
theorem dX5_takeRow_39 : decode cX5_takeRow 39 = .ok (.istore_n 3, 1) := by decide +kernel
theorem dX5_takeRow_40 : decode cX5_takeRow 40 = .ok (.aload_n 0, 1) := by decide +kernel
theorem dX5_takeRow_41 : decode cX5_takeRow 41 = .ok (.iload_n 1, 1) := by decide +kernel
theorem dX5_takeRow_42 : decode cX5_takeRow 42 = .ok (.invokevirtual 68, 3) := by decide +kernel
theorem dX5_takeRow_45 : decode cX5_takeRow 45 = .ok (.aload_n 0, 1) := by decide +kernel
theorem dX5_takeRow_46 : decode cX5_takeRow 46 = .ok (.getfield 128, 3) := by decide +kernel
theorem dX5_takeRow_49 : decode cX5_takeRow 49 = .ok (.aload_n 0, 1) := by decide +kernel
theorem dX5_takeRow_50 : decode cX5_takeRow 50 = .ok (.getfield 226, 3) := by decide +kernel
theorem dX5_takeRow_53 : decode cX5_takeRow 53 = .ok (.aload_n 0, 1) := by decide +kernel
theorem dX5_takeRow_54 : decode cX5_takeRow 54 = .ok (.getfield 229, 3) := by decide +kernel
theorem dX5_takeRow_57 : decode cX5_takeRow 57 = .ok (.iadd, 1) := by decide +kernel
theorem dX5_takeRow_58 : decode cX5_takeRow 58 = .ok (.iconst 1, 1) := by decide +kernel
theorem dX5_takeRow_59 : decode cX5_takeRow 59 = .ok (.isub, 1) := by decide +kernel
theorem dX5_takeRow_60 : decode cX5_takeRow 60 = .ok (.iaload, 1) := by decide +kernel
theorem dX5_takeRow_61 : decode cX5_takeRow 61 = .ok (.bipush 47, 2) := by decide +kernel
theorem dX5_takeRow_63 : decode cX5_takeRow 63 = .ok (.if_icmp .ne 7, 3) := by decide +kernel
theorem dX5_takeRow_66 : decode cX5_takeRow 66 = .ok (.iconst 1, 1) := by decide +kernel
theorem dX5_takeRow_67 : decode cX5_takeRow 67 = .ok (.goto 4, 3) := by decide +kernel
theorem dX5_takeRow_70 : decode cX5_takeRow 70 = .ok (.iconst 0, 1) := by decide +kernel
theorem dX5_takeRow_71 : decode cX5_takeRow 71 = .ok (.istore 4, 2) := by decide +kernel
theorem dX5_takeRow_73 : decode cX5_takeRow 73 = .ok (.aload_n 0, 1) := by decide +kernel
theorem dX5_takeRow_74 : decode cX5_takeRow 74 = .ok (.iload_n 2, 1) := by decide +kernel
theorem dX5_takeRow_75 : decode cX5_takeRow 75 = .ok (.bipush 10, 2) := by decide +kernel
theorem dX5_takeRow_77 : decode cX5_takeRow 77 = .ok (.iadd, 1) := by decide +kernel
theorem dX5_takeRow_78 : decode cX5_takeRow 78 = .ok (.invokevirtual 193, 3) := by decide +kernel
theorem dX5_takeRow_81 : decode cX5_takeRow 81 = .ok (.istore 5, 2) := by decide +kernel
theorem dX5_takeRow_83 : decode cX5_takeRow 83 = .ok (.aload_n 0, 1) := by decide +kernel
theorem dX5_takeRow_84 : decode cX5_takeRow 84 = .ok (.getfield 72, 3) := by decide +kernel
theorem dX5_takeRow_87 : decode cX5_takeRow 87 = .ok (.iload_n 1, 1) := by decide +kernel
theorem dX5_takeRow_88 : decode cX5_takeRow 88 = .ok (.iload 4, 2) := by decide +kernel
theorem dX5_takeRow_90 : decode cX5_takeRow 90 = .ok (.ifCond .eq 7, 3) := by decide +kernel
theorem dX5_takeRow_93 : decode cX5_takeRow 93 = .ok (.iconst 2, 1) := by decide +kernel
theorem dX5_takeRow_94 : decode cX5_takeRow 94 = .ok (.goto 15, 3) := by decide +kernel
theorem dX5_takeRow_97 : decode cX5_takeRow 97 = .ok (.iload 5, 2) := by decide +kernel
theorem dX5_takeRow_99 : decode cX5_takeRow 99 = .ok (.bipush 8, 2) := by decide +kernel
theorem dX5_takeRow_101 : decode cX5_takeRow 101 = .ok (.if_icmp .ne 7, 3) := by decide +kernel
theorem dX5_takeRow_104 : decode cX5_takeRow 104 = .ok (.iconst 1, 1) := by decide +kernel
theorem dX5_takeRow_105 : decode cX5_takeRow 105 = .ok (.goto 4, 3) := by decide +kernel
theorem dX5_takeRow_108 : decode cX5_takeRow 108 = .ok (.iconst 0, 1) := by decide +kernel
theorem dX5_takeRow_109 : decode cX5_takeRow 109 = .ok (.iastore, 1) := by decide +kernel
theorem dX5_takeRow_110 : decode cX5_takeRow 110 = .ok (.aload_n 0, 1) := by decide +kernel
theorem dX5_takeRow_111 : decode cX5_takeRow 111 = .ok (.getfield 75, 3) := by decide +kernel
theorem dX5_takeRow_114 : decode cX5_takeRow 114 = .ok (.iload_n 1, 1) := by decide +kernel
theorem dX5_takeRow_115 : decode cX5_takeRow 115 = .ok (.aload_n 0, 1) := by decide +kernel
theorem dX5_takeRow_116 : decode cX5_takeRow 116 = .ok (.iload_n 2, 1) := by decide +kernel
theorem dX5_takeRow_117 : decode cX5_takeRow 117 = .ok (.bipush 8, 2) := by decide +kernel
theorem dX5_takeRow_119 : decode cX5_takeRow 119 = .ok (.iadd, 1) := by decide +kernel
theorem dX5_takeRow_120 : decode cX5_takeRow 120 = .ok (.invokevirtual 193, 3) := by decide +kernel
theorem dX5_takeRow_123 : decode cX5_takeRow 123 = .ok (.bipush 8, 2) := by decide +kernel
theorem dX5_takeRow_125 : decode cX5_takeRow 125 = .ok (.if_icmp .ne 7, 3) := by decide +kernel
theorem dX5_takeRow_128 : decode cX5_takeRow 128 = .ok (.iconst 1, 1) := by decide +kernel
theorem dX5_takeRow_129 : decode cX5_takeRow 129 = .ok (.goto 15, 3) := by decide +kernel
theorem dX5_takeRow_132 : decode cX5_takeRow 132 = .ok (.aload_n 0, 1) := by decide +kernel
theorem dX5_takeRow_133 : decode cX5_takeRow 133 = .ok (.getfield 222, 3) := by decide +kernel
theorem dX5_takeRow_136 : decode cX5_takeRow 136 = .ok (.ifCond .eq 7, 3) := by decide +kernel
theorem dX5_takeRow_139 : decode cX5_takeRow 139 = .ok (.iconst 2, 1) := by decide +kernel
theorem dX5_takeRow_140 : decode cX5_takeRow 140 = .ok (.goto 4, 3) := by decide +kernel
theorem dX5_takeRow_143 : decode cX5_takeRow 143 = .ok (.iconst 0, 1) := by decide +kernel
theorem dX5_takeRow_144 : decode cX5_takeRow 144 = .ok (.iastore, 1) := by decide +kernel
theorem dX5_takeRow_145 : decode cX5_takeRow 145 = .ok (.aload_n 0, 1) := by decide +kernel
theorem dX5_takeRow_146 : decode cX5_takeRow 146 = .ok (.getfield 27, 3) := by decide +kernel
theorem dX5_takeRow_149 : decode cX5_takeRow 149 = .ok (.iload_n 1, 1) := by decide +kernel
theorem dX5_takeRow_150 : decode cX5_takeRow 150 = .ok (.aload_n 0, 1) := by decide +kernel
theorem dX5_takeRow_151 : decode cX5_takeRow 151 = .ok (.iload_n 2, 1) := by decide +kernel
theorem dX5_takeRow_152 : decode cX5_takeRow 152 = .ok (.bipush 12, 2) := by decide +kernel
theorem dX5_takeRow_154 : decode cX5_takeRow 154 = .ok (.iadd, 1) := by decide +kernel
theorem dX5_takeRow_155 : decode cX5_takeRow 155 = .ok (.invokevirtual 193, 3) := by decide +kernel
theorem dX5_takeRow_158 : decode cX5_takeRow 158 = .ok (.iastore, 1) := by decide +kernel
theorem dX5_takeRow_159 : decode cX5_takeRow 159 = .ok (.aload_n 0, 1) := by decide +kernel
theorem dX5_takeRow_160 : decode cX5_takeRow 160 = .ok (.getfield 30, 3) := by decide +kernel
theorem dX5_takeRow_163 : decode cX5_takeRow 163 = .ok (.iload_n 1, 1) := by decide +kernel
theorem dX5_takeRow_164 : decode cX5_takeRow 164 = .ok (.aload_n 0, 1) := by decide +kernel
theorem dX5_takeRow_165 : decode cX5_takeRow 165 = .ok (.iload_n 2, 1) := by decide +kernel
theorem dX5_takeRow_166 : decode cX5_takeRow 166 = .ok (.bipush 14, 2) := by decide +kernel
theorem dX5_takeRow_168 : decode cX5_takeRow 168 = .ok (.iadd, 1) := by decide +kernel
theorem dX5_takeRow_169 : decode cX5_takeRow 169 = .ok (.invokevirtual 193, 3) := by decide +kernel
theorem dX5_takeRow_172 : decode cX5_takeRow 172 = .ok (.iastore, 1) := by decide +kernel
theorem dX5_takeRow_173 : decode cX5_takeRow 173 = .ok (.aload_n 0, 1) := by decide +kernel
theorem dX5_takeRow_174 : decode cX5_takeRow 174 = .ok (.getfield 33, 3) := by decide +kernel
theorem dX5_takeRow_177 : decode cX5_takeRow 177 = .ok (.iload_n 1, 1) := by decide +kernel
theorem dX5_takeRow_178 : decode cX5_takeRow 178 = .ok (.aload_n 0, 1) := by decide +kernel
theorem dX5_takeRow_179 : decode cX5_takeRow 179 = .ok (.iload_n 2, 1) := by decide +kernel
theorem dX5_takeRow_180 : decode cX5_takeRow 180 = .ok (.bipush 38, 2) := by decide +kernel
theorem dX5_takeRow_182 : decode cX5_takeRow 182 = .ok (.iadd, 1) := by decide +kernel
theorem dX5_takeRow_183 : decode cX5_takeRow 183 = .ok (.invokevirtual 196, 3) := by decide +kernel
theorem dX5_takeRow_186 : decode cX5_takeRow 186 = .ok (.l2i, 1) := by decide +kernel
theorem dX5_takeRow_187 : decode cX5_takeRow 187 = .ok (.iastore, 1) := by decide +kernel
theorem dX5_takeRow_188 : decode cX5_takeRow 188 = .ok (.aload_n 0, 1) := by decide +kernel
theorem dX5_takeRow_189 : decode cX5_takeRow 189 = .ok (.getfield 23, 3) := by decide +kernel
theorem dX5_takeRow_192 : decode cX5_takeRow 192 = .ok (.iload_n 1, 1) := by decide +kernel
theorem dX5_takeRow_193 : decode cX5_takeRow 193 = .ok (.aload_n 0, 1) := by decide +kernel
theorem dX5_takeRow_194 : decode cX5_takeRow 194 = .ok (.getfield 229, 3) := by decide +kernel
theorem dX5_takeRow_197 : decode cX5_takeRow 197 = .ok (.iastore, 1) := by decide +kernel
theorem dX5_takeRow_198 : decode cX5_takeRow 198 = .ok (.iconst 0, 1) := by decide +kernel
theorem dX5_takeRow_199 : decode cX5_takeRow 199 = .ok (.istore 6, 2) := by decide +kernel
theorem dX5_takeRow_201 : decode cX5_takeRow 201 = .ok (.iload 6, 2) := by decide +kernel
theorem dX5_takeRow_203 : decode cX5_takeRow 203 = .ok (.aload_n 0, 1) := by decide +kernel
theorem dX5_takeRow_204 : decode cX5_takeRow 204 = .ok (.getfield 229, 3) := by decide +kernel
theorem dX5_takeRow_207 : decode cX5_takeRow 207 = .ok (.if_icmp .ge 33, 3) := by decide +kernel
theorem dX5_takeRow_210 : decode cX5_takeRow 210 = .ok (.aload_n 0, 1) := by decide +kernel
theorem dX5_takeRow_211 : decode cX5_takeRow 211 = .ok (.getfield 78, 3) := by decide +kernel
theorem dX5_takeRow_214 : decode cX5_takeRow 214 = .ok (.bipush 16, 2) := by decide +kernel
theorem dX5_takeRow_216 : decode cX5_takeRow 216 = .ok (.iload_n 1, 1) := by decide +kernel
theorem dX5_takeRow_217 : decode cX5_takeRow 217 = .ok (.imul, 1) := by decide +kernel
theorem dX5_takeRow_218 : decode cX5_takeRow 218 = .ok (.iload 6, 2) := by decide +kernel
theorem dX5_takeRow_220 : decode cX5_takeRow 220 = .ok (.iadd, 1) := by decide +kernel
theorem dX5_takeRow_221 : decode cX5_takeRow 221 = .ok (.aload_n 0, 1) := by decide +kernel
theorem dX5_takeRow_222 : decode cX5_takeRow 222 = .ok (.getfield 128, 3) := by decide +kernel
theorem dX5_takeRow_225 : decode cX5_takeRow 225 = .ok (.aload_n 0, 1) := by decide +kernel
theorem dX5_takeRow_226 : decode cX5_takeRow 226 = .ok (.getfield 226, 3) := by decide +kernel
theorem dX5_takeRow_229 : decode cX5_takeRow 229 = .ok (.iload 6, 2) := by decide +kernel
theorem dX5_takeRow_231 : decode cX5_takeRow 231 = .ok (.iadd, 1) := by decide +kernel
theorem dX5_takeRow_232 : decode cX5_takeRow 232 = .ok (.iaload, 1) := by decide +kernel
theorem dX5_takeRow_233 : decode cX5_takeRow 233 = .ok (.iastore, 1) := by decide +kernel
theorem dX5_takeRow_234 : decode cX5_takeRow 234 = .ok (.iinc 6 1, 3) := by decide +kernel
theorem dX5_takeRow_237 : decode cX5_takeRow 237 = .ok (.goto (-36), 3) := by decide +kernel
theorem dX5_takeRow_240 : decode cX5_takeRow 240 = .ok (.aload_n 0, 1) := by decide +kernel
theorem dX5_takeRow_241 : decode cX5_takeRow 241 = .ok (.getfield 226, 3) := by decide +kernel
theorem dX5_takeRow_244 : decode cX5_takeRow 244 = .ok (.aload_n 0, 1) := by decide +kernel
theorem dX5_takeRow_245 : decode cX5_takeRow 245 = .ok (.getfield 229, 3) := by decide +kernel
theorem dX5_takeRow_248 : decode cX5_takeRow 248 = .ok (.iadd, 1) := by decide +kernel
theorem dX5_takeRow_249 : decode cX5_takeRow 249 = .ok (.istore 6, 2) := by decide +kernel
theorem dX5_takeRow_251 : decode cX5_takeRow 251 = .ok (.aload_n 0, 1) := by decide +kernel
theorem dX5_takeRow_252 : decode cX5_takeRow 252 = .ok (.getfield 222, 3) := by decide +kernel
theorem dX5_takeRow_255 : decode cX5_takeRow 255 = .ok (.ifCond .eq 35, 3) := by decide +kernel
theorem dX5_takeRow_258 : decode cX5_takeRow 258 = .ok (.iload_n 3, 1) := by decide +kernel
theorem dX5_takeRow_259 : decode cX5_takeRow 259 = .ok (.ifCond .eq 31, 3) := by decide +kernel
theorem dX5_takeRow_262 : decode cX5_takeRow 262 = .ok (.aload_n 0, 1) := by decide +kernel
theorem dX5_takeRow_263 : decode cX5_takeRow 263 = .ok (.aload_n 0, 1) := by decide +kernel
theorem dX5_takeRow_264 : decode cX5_takeRow 264 = .ok (.iload 6, 2) := by decide +kernel
theorem dX5_takeRow_266 : decode cX5_takeRow 266 = .ok (.iconst 4, 1) := by decide +kernel
theorem dX5_takeRow_267 : decode cX5_takeRow 267 = .ok (.iadd, 1) := by decide +kernel
theorem dX5_takeRow_268 : decode cX5_takeRow 268 = .ok (.invokevirtual 252, 3) := by decide +kernel
theorem dX5_takeRow_271 : decode cX5_takeRow 271 = .ok (.putfield 239, 3) := by decide +kernel
theorem dX5_takeRow_274 : decode cX5_takeRow 274 = .ok (.aload_n 0, 1) := by decide +kernel
theorem dX5_takeRow_275 : decode cX5_takeRow 275 = .ok (.aload_n 0, 1) := by decide +kernel
theorem dX5_takeRow_276 : decode cX5_takeRow 276 = .ok (.iload 6, 2) := by decide +kernel
theorem dX5_takeRow_278 : decode cX5_takeRow 278 = .ok (.bipush 12, 2) := by decide +kernel
theorem dX5_takeRow_280 : decode cX5_takeRow 280 = .ok (.iadd, 1) := by decide +kernel
theorem dX5_takeRow_281 : decode cX5_takeRow 281 = .ok (.invokevirtual 252, 3) := by decide +kernel
theorem dX5_takeRow_284 : decode cX5_takeRow 284 = .ok (.putfield 235, 3) := by decide +kernel
theorem dX5_takeRow_287 : decode cX5_takeRow 287 = .ok (.iinc 6 20, 3) := by decide +kernel
theorem dX5_takeRow_290 : decode cX5_takeRow 290 = .ok (.iload 6, 2) := by decide +kernel
theorem dX5_takeRow_292 : decode cX5_takeRow 292 = .ok (.aload_n 0, 1) := by decide +kernel
theorem dX5_takeRow_293 : decode cX5_takeRow 293 = .ok (.getfield 226, 3) := by decide +kernel
theorem dX5_takeRow_296 : decode cX5_takeRow 296 = .ok (.aload_n 0, 1) := by decide +kernel
theorem dX5_takeRow_297 : decode cX5_takeRow 297 = .ok (.getfield 229, 3) := by decide +kernel
theorem dX5_takeRow_300 : decode cX5_takeRow 300 = .ok (.iadd, 1) := by decide +kernel
theorem dX5_takeRow_301 : decode cX5_takeRow 301 = .ok (.aload_n 0, 1) := by decide +kernel
theorem dX5_takeRow_302 : decode cX5_takeRow 302 = .ok (.getfield 232, 3) := by decide +kernel
theorem dX5_takeRow_305 : decode cX5_takeRow 305 = .ok (.iadd, 1) := by decide +kernel
theorem dX5_takeRow_306 : decode cX5_takeRow 306 = .ok (.if_icmp .ge 116, 3) := by decide +kernel
theorem dX5_takeRow_309 : decode cX5_takeRow 309 = .ok (.iconst 3, 1) := by decide +kernel
theorem dX5_takeRow_310 : decode cX5_takeRow 310 = .ok (.iload_n 1, 1) := by decide +kernel
theorem dX5_takeRow_311 : decode cX5_takeRow 311 = .ok (.imul, 1) := by decide +kernel
theorem dX5_takeRow_312 : decode cX5_takeRow 312 = .ok (.aload_n 0, 1) := by decide +kernel
theorem dX5_takeRow_313 : decode cX5_takeRow 313 = .ok (.getfield 36, 3) := by decide +kernel
theorem dX5_takeRow_316 : decode cX5_takeRow 316 = .ok (.iload_n 1, 1) := by decide +kernel
theorem dX5_takeRow_317 : decode cX5_takeRow 317 = .ok (.iaload, 1) := by decide +kernel
theorem dX5_takeRow_318 : decode cX5_takeRow 318 = .ok (.iadd, 1) := by decide +kernel
theorem dX5_takeRow_319 : decode cX5_takeRow 319 = .ok (.istore 7, 2) := by decide +kernel
theorem dX5_takeRow_321 : decode cX5_takeRow 321 = .ok (.aload_n 0, 1) := by decide +kernel
theorem dX5_takeRow_322 : decode cX5_takeRow 322 = .ok (.getfield 96, 3) := by decide +kernel
theorem dX5_takeRow_325 : decode cX5_takeRow 325 = .ok (.iload 7, 2) := by decide +kernel
theorem dX5_takeRow_327 : decode cX5_takeRow 327 = .ok (.aload_n 0, 1) := by decide +kernel
theorem dX5_takeRow_328 : decode cX5_takeRow 328 = .ok (.iload 6, 2) := by decide +kernel
theorem dX5_takeRow_330 : decode cX5_takeRow 330 = .ok (.invokevirtual 193, 3) := by decide +kernel
theorem dX5_takeRow_333 : decode cX5_takeRow 333 = .ok (.iastore, 1) := by decide +kernel
theorem dX5_takeRow_334 : decode cX5_takeRow 334 = .ok (.aload_n 0, 1) := by decide +kernel
theorem dX5_takeRow_335 : decode cX5_takeRow 335 = .ok (.getfield 99, 3) := by decide +kernel
theorem dX5_takeRow_338 : decode cX5_takeRow 338 = .ok (.iload 7, 2) := by decide +kernel
theorem dX5_takeRow_340 : decode cX5_takeRow 340 = .ok (.aload_n 0, 1) := by decide +kernel
theorem dX5_takeRow_341 : decode cX5_takeRow 341 = .ok (.iload 6, 2) := by decide +kernel
theorem dX5_takeRow_343 : decode cX5_takeRow 343 = .ok (.iconst 2, 1) := by decide +kernel
theorem dX5_takeRow_344 : decode cX5_takeRow 344 = .ok (.iadd, 1) := by decide +kernel
theorem dX5_takeRow_345 : decode cX5_takeRow 345 = .ok (.invokevirtual 193, 3) := by decide +kernel
theorem dX5_takeRow_348 : decode cX5_takeRow 348 = .ok (.iastore, 1) := by decide +kernel
theorem dX5_takeRow_349 : decode cX5_takeRow 349 = .ok (.iconst 0, 1) := by decide +kernel
theorem dX5_takeRow_350 : decode cX5_takeRow 350 = .ok (.istore 8, 2) := by decide +kernel
theorem dX5_takeRow_352 : decode cX5_takeRow 352 = .ok (.iload 8, 2) := by decide +kernel
theorem dX5_takeRow_354 : decode cX5_takeRow 354 = .ok (.aload_n 0, 1) := by decide +kernel
theorem dX5_takeRow_355 : decode cX5_takeRow 355 = .ok (.getfield 99, 3) := by decide +kernel
theorem dX5_takeRow_358 : decode cX5_takeRow 358 = .ok (.iload 7, 2) := by decide +kernel
theorem dX5_takeRow_360 : decode cX5_takeRow 360 = .ok (.iaload, 1) := by decide +kernel
theorem dX5_takeRow_361 : decode cX5_takeRow 361 = .ok (.if_icmp .ge 34, 3) := by decide +kernel
theorem dX5_takeRow_364 : decode cX5_takeRow 364 = .ok (.aload_n 0, 1) := by decide +kernel
theorem dX5_takeRow_365 : decode cX5_takeRow 365 = .ok (.getfield 102, 3) := by decide +kernel
theorem dX5_takeRow_368 : decode cX5_takeRow 368 = .ok (.bipush 8, 2) := by decide +kernel
theorem dX5_takeRow_370 : decode cX5_takeRow 370 = .ok (.iload 7, 2) := by decide +kernel
theorem dX5_takeRow_372 : decode cX5_takeRow 372 = .ok (.imul, 1) := by decide +kernel
theorem dX5_takeRow_373 : decode cX5_takeRow 373 = .ok (.iload 8, 2) := by decide +kernel
theorem dX5_takeRow_375 : decode cX5_takeRow 375 = .ok (.iadd, 1) := by decide +kernel
theorem dX5_takeRow_376 : decode cX5_takeRow 376 = .ok (.aload_n 0, 1) := by decide +kernel
theorem dX5_takeRow_377 : decode cX5_takeRow 377 = .ok (.getfield 128, 3) := by decide +kernel
theorem dX5_takeRow_380 : decode cX5_takeRow 380 = .ok (.iload 6, 2) := by decide +kernel
theorem dX5_takeRow_382 : decode cX5_takeRow 382 = .ok (.iconst 4, 1) := by decide +kernel
theorem dX5_takeRow_383 : decode cX5_takeRow 383 = .ok (.iadd, 1) := by decide +kernel
theorem dX5_takeRow_384 : decode cX5_takeRow 384 = .ok (.iload 8, 2) := by decide +kernel
theorem dX5_takeRow_386 : decode cX5_takeRow 386 = .ok (.iadd, 1) := by decide +kernel
theorem dX5_takeRow_387 : decode cX5_takeRow 387 = .ok (.iaload, 1) := by decide +kernel
theorem dX5_takeRow_388 : decode cX5_takeRow 388 = .ok (.iastore, 1) := by decide +kernel
theorem dX5_takeRow_389 : decode cX5_takeRow 389 = .ok (.iinc 8 1, 3) := by decide +kernel
theorem dX5_takeRow_392 : decode cX5_takeRow 392 = .ok (.goto (-40), 3) := by decide +kernel
theorem dX5_takeRow_395 : decode cX5_takeRow 395 = .ok (.aload_n 0, 1) := by decide +kernel
theorem dX5_takeRow_396 : decode cX5_takeRow 396 = .ok (.getfield 36, 3) := by decide +kernel
theorem dX5_takeRow_399 : decode cX5_takeRow 399 = .ok (.iload_n 1, 1) := by decide +kernel
theorem dX5_takeRow_400 : decode cX5_takeRow 400 = .ok (.dup2, 1) := by decide +kernel
theorem dX5_takeRow_401 : decode cX5_takeRow 401 = .ok (.iaload, 1) := by decide +kernel
theorem dX5_takeRow_402 : decode cX5_takeRow 402 = .ok (.iconst 1, 1) := by decide +kernel
theorem dX5_takeRow_403 : decode cX5_takeRow 403 = .ok (.iadd, 1) := by decide +kernel
theorem dX5_takeRow_404 : decode cX5_takeRow 404 = .ok (.iastore, 1) := by decide +kernel
theorem dX5_takeRow_405 : decode cX5_takeRow 405 = .ok (.iload 6, 2) := by decide +kernel
theorem dX5_takeRow_407 : decode cX5_takeRow 407 = .ok (.iconst 4, 1) := by decide +kernel
theorem dX5_takeRow_408 : decode cX5_takeRow 408 = .ok (.aload_n 0, 1) := by decide +kernel
theorem dX5_takeRow_409 : decode cX5_takeRow 409 = .ok (.getfield 99, 3) := by decide +kernel
theorem dX5_takeRow_412 : decode cX5_takeRow 412 = .ok (.iload 7, 2) := by decide +kernel
theorem dX5_takeRow_414 : decode cX5_takeRow 414 = .ok (.iaload, 1) := by decide +kernel
theorem dX5_takeRow_415 : decode cX5_takeRow 415 = .ok (.iadd, 1) := by decide +kernel
theorem dX5_takeRow_416 : decode cX5_takeRow 416 = .ok (.iadd, 1) := by decide +kernel
theorem dX5_takeRow_417 : decode cX5_takeRow 417 = .ok (.istore 6, 2) := by decide +kernel
theorem dX5_takeRow_419 : decode cX5_takeRow 419 = .ok (.goto (-129), 3) := by decide +kernel
theorem dX5_takeRow_422 : decode cX5_takeRow 422 = .ok (.aload_n 0, 1) := by decide +kernel
theorem dX5_takeRow_423 : decode cX5_takeRow 423 = .ok (.getfield 55, 3) := by decide +kernel
theorem dX5_takeRow_426 : decode cX5_takeRow 426 = .ok (.iload_n 1, 1) := by decide +kernel
theorem dX5_takeRow_427 : decode cX5_takeRow 427 = .ok (.aload_n 0, 1) := by decide +kernel
theorem dX5_takeRow_428 : decode cX5_takeRow 428 = .ok (.getfield 242, 3) := by decide +kernel
theorem dX5_takeRow_431 : decode cX5_takeRow 431 = .ok (.l2i, 1) := by decide +kernel
theorem dX5_takeRow_432 : decode cX5_takeRow 432 = .ok (.iastore, 1) := by decide +kernel
theorem dX5_takeRow_433 : decode cX5_takeRow 433 = .ok (.iload 4, 2) := by decide +kernel
theorem dX5_takeRow_435 : decode cX5_takeRow 435 = .ok (.ifCond .ne 113, 3) := by decide +kernel
theorem dX5_takeRow_438 : decode cX5_takeRow 438 = .ok (.aload_n 0, 1) := by decide +kernel
theorem dX5_takeRow_439 : decode cX5_takeRow 439 = .ok (.getfield 39, 3) := by decide +kernel
theorem dX5_takeRow_442 : decode cX5_takeRow 442 = .ok (.iload_n 1, 1) := by decide +kernel
theorem dX5_takeRow_443 : decode cX5_takeRow 443 = .ok (.iconst 1, 1) := by decide +kernel
theorem dX5_takeRow_444 : decode cX5_takeRow 444 = .ok (.bastore, 1) := by decide +kernel
theorem dX5_takeRow_445 : decode cX5_takeRow 445 = .ok (.aload_n 0, 1) := by decide +kernel
theorem dX5_takeRow_446 : decode cX5_takeRow 446 = .ok (.getfield 43, 3) := by decide +kernel
theorem dX5_takeRow_449 : decode cX5_takeRow 449 = .ok (.iload_n 1, 1) := by decide +kernel
theorem dX5_takeRow_450 : decode cX5_takeRow 450 = .ok (.aload_n 0, 1) := by decide +kernel
theorem dX5_takeRow_451 : decode cX5_takeRow 451 = .ok (.getfield 235, 3) := by decide +kernel
theorem dX5_takeRow_454 : decode cX5_takeRow 454 = .ok (.l2i, 1) := by decide +kernel
theorem dX5_takeRow_455 : decode cX5_takeRow 455 = .ok (.iastore, 1) := by decide +kernel
theorem dX5_takeRow_456 : decode cX5_takeRow 456 = .ok (.iconst 0, 1) := by decide +kernel
theorem dX5_takeRow_457 : decode cX5_takeRow 457 = .ok (.istore 7, 2) := by decide +kernel
theorem dX5_takeRow_459 : decode cX5_takeRow 459 = .ok (.iload 7, 2) := by decide +kernel
theorem dX5_takeRow_461 : decode cX5_takeRow 461 = .ok (.aload_n 0, 1) := by decide +kernel
theorem dX5_takeRow_462 : decode cX5_takeRow 462 = .ok (.getfield 43, 3) := by decide +kernel
theorem dX5_takeRow_465 : decode cX5_takeRow 465 = .ok (.iload_n 1, 1) := by decide +kernel
theorem dX5_takeRow_466 : decode cX5_takeRow 466 = .ok (.iaload, 1) := by decide +kernel
theorem dX5_takeRow_467 : decode cX5_takeRow 467 = .ok (.if_icmp .ge 48, 3) := by decide +kernel
theorem dX5_takeRow_470 : decode cX5_takeRow 470 = .ok (.aload_n 0, 1) := by decide +kernel
theorem dX5_takeRow_471 : decode cX5_takeRow 471 = .ok (.getfield 89, 3) := by decide +kernel
theorem dX5_takeRow_474 : decode cX5_takeRow 474 = .ok (.bipush 40, 2) := by decide +kernel
theorem dX5_takeRow_476 : decode cX5_takeRow 476 = .ok (.iload_n 1, 1) := by decide +kernel
theorem dX5_takeRow_477 : decode cX5_takeRow 477 = .ok (.imul, 1) := by decide +kernel
theorem dX5_takeRow_478 : decode cX5_takeRow 478 = .ok (.iload 7, 2) := by decide +kernel
theorem dX5_takeRow_480 : decode cX5_takeRow 480 = .ok (.iadd, 1) := by decide +kernel
theorem dX5_takeRow_481 : decode cX5_takeRow 481 = .ok (.aload_n 0, 1) := by decide +kernel
theorem dX5_takeRow_482 : decode cX5_takeRow 482 = .ok (.getfield 128, 3) := by decide +kernel
theorem dX5_takeRow_485 : decode cX5_takeRow 485 = .ok (.aload_n 0, 1) := by decide +kernel
theorem dX5_takeRow_486 : decode cX5_takeRow 486 = .ok (.getfield 55, 3) := by decide +kernel
theorem dX5_takeRow_489 : decode cX5_takeRow 489 = .ok (.iload_n 1, 1) := by decide +kernel
theorem dX5_takeRow_490 : decode cX5_takeRow 490 = .ok (.iaload, 1) := by decide +kernel
theorem dX5_takeRow_491 : decode cX5_takeRow 491 = .ok (.bipush 30, 2) := by decide +kernel
theorem dX5_takeRow_493 : decode cX5_takeRow 493 = .ok (.iadd, 1) := by decide +kernel
theorem dX5_takeRow_494 : decode cX5_takeRow 494 = .ok (.aload_n 0, 1) := by decide +kernel
theorem dX5_takeRow_495 : decode cX5_takeRow 495 = .ok (.getfield 229, 3) := by decide +kernel
theorem dX5_takeRow_498 : decode cX5_takeRow 498 = .ok (.iadd, 1) := by decide +kernel
theorem dX5_takeRow_499 : decode cX5_takeRow 499 = .ok (.aload_n 0, 1) := by decide +kernel
theorem dX5_takeRow_500 : decode cX5_takeRow 500 = .ok (.getfield 232, 3) := by decide +kernel
theorem dX5_takeRow_503 : decode cX5_takeRow 503 = .ok (.iadd, 1) := by decide +kernel
theorem dX5_takeRow_504 : decode cX5_takeRow 504 = .ok (.iload 7, 2) := by decide +kernel
theorem dX5_takeRow_506 : decode cX5_takeRow 506 = .ok (.iadd, 1) := by decide +kernel
theorem dX5_takeRow_507 : decode cX5_takeRow 507 = .ok (.iaload, 1) := by decide +kernel
theorem dX5_takeRow_508 : decode cX5_takeRow 508 = .ok (.iastore, 1) := by decide +kernel
theorem dX5_takeRow_509 : decode cX5_takeRow 509 = .ok (.iinc 7 1, 3) := by decide +kernel
theorem dX5_takeRow_512 : decode cX5_takeRow 512 = .ok (.goto (-53), 3) := by decide +kernel
theorem dX5_takeRow_515 : decode cX5_takeRow 515 = .ok (.aload_n 0, 1) := by decide +kernel
theorem dX5_takeRow_516 : decode cX5_takeRow 516 = .ok (.getfield 46, 3) := by decide +kernel
theorem dX5_takeRow_519 : decode cX5_takeRow 519 = .ok (.iload_n 1, 1) := by decide +kernel
theorem dX5_takeRow_520 : decode cX5_takeRow 520 = .ok (.aload_n 0, 1) := by decide +kernel
theorem dX5_takeRow_521 : decode cX5_takeRow 521 = .ok (.getfield 239, 3) := by decide +kernel
theorem dX5_takeRow_524 : decode cX5_takeRow 524 = .ok (.l2i, 1) := by decide +kernel
theorem dX5_takeRow_525 : decode cX5_takeRow 525 = .ok (.iastore, 1) := by decide +kernel
theorem dX5_takeRow_526 : decode cX5_takeRow 526 = .ok (.aload_n 0, 1) := by decide +kernel
theorem dX5_takeRow_527 : decode cX5_takeRow 527 = .ok (.getfield 49, 3) := by decide +kernel
theorem dX5_takeRow_530 : decode cX5_takeRow 530 = .ok (.iload_n 1, 1) := by decide +kernel
theorem dX5_takeRow_531 : decode cX5_takeRow 531 = .ok (.aload_n 0, 1) := by decide +kernel
theorem dX5_takeRow_532 : decode cX5_takeRow 532 = .ok (.iload_n 2, 1) := by decide +kernel
theorem dX5_takeRow_533 : decode cX5_takeRow 533 = .ok (.bipush 16, 2) := by decide +kernel
theorem dX5_takeRow_535 : decode cX5_takeRow 535 = .ok (.iadd, 1) := by decide +kernel
theorem dX5_takeRow_536 : decode cX5_takeRow 536 = .ok (.invokevirtual 196, 3) := by decide +kernel
theorem dX5_takeRow_539 : decode cX5_takeRow 539 = .ok (.l2i, 1) := by decide +kernel
theorem dX5_takeRow_540 : decode cX5_takeRow 540 = .ok (.iastore, 1) := by decide +kernel
theorem dX5_takeRow_541 : decode cX5_takeRow 541 = .ok (.aload_n 0, 1) := by decide +kernel
theorem dX5_takeRow_542 : decode cX5_takeRow 542 = .ok (.getfield 52, 3) := by decide +kernel
theorem dX5_takeRow_545 : decode cX5_takeRow 545 = .ok (.iload_n 1, 1) := by decide +kernel
theorem dX5_takeRow_546 : decode cX5_takeRow 546 = .ok (.iconst 1, 1) := by decide +kernel
theorem dX5_takeRow_547 : decode cX5_takeRow 547 = .ok (.bastore, 1) := by decide +kernel
theorem dX5_takeRow_548 : decode cX5_takeRow 548 = .ok (.return_, 1) := by decide +kernel
theorem dX5_read_0 : decode cX5_read 0 = .ok (.aload_n 0, 1) := by decide +kernel
theorem dX5_read_1 : decode cX5_read 1 = .ok (.iconst 0, 1) := by decide +kernel
theorem dX5_read_2 : decode cX5_read 2 = .ok (.putfield 1, 3) := by decide +kernel
theorem dX5_read_5 : decode cX5_read 5 = .ok (.aload_n 0, 1) := by decide +kernel
theorem dX5_read_6 : decode cX5_read 6 = .ok (.iconst 0, 1) := by decide +kernel
theorem dX5_read_7 : decode cX5_read 7 = .ok (.putfield 187, 3) := by decide +kernel
theorem dX5_read_10 : decode cX5_read 10 = .ok (.aload_n 0, 1) := by decide +kernel
theorem dX5_read_11 : decode cX5_read 11 = .ok (.invokevirtual 276, 3) := by decide +kernel
theorem dX5_read_14 : decode cX5_read 14 = .ok (.aload_n 0, 1) := by decide +kernel
theorem dX5_read_15 : decode cX5_read 15 = .ok (.getfield 187, 3) := by decide +kernel
theorem dX5_read_18 : decode cX5_read 18 = .ok (.ifCond .ne 7, 3) := by decide +kernel
theorem dX5_read_21 : decode cX5_read 21 = .ok (.aload_n 0, 1) := by decide +kernel
theorem dX5_read_22 : decode cX5_read 22 = .ok (.invokevirtual 280, 3) := by decide +kernel
theorem dX5_read_25 : decode cX5_read 25 = .ok (.iconst 0, 1) := by decide +kernel
theorem dX5_read_26 : decode cX5_read 26 = .ok (.istore_n 1, 1) := by decide +kernel
theorem dX5_read_27 : decode cX5_read 27 = .ok (.iload_n 1, 1) := by decide +kernel
theorem dX5_read_28 : decode cX5_read 28 = .ok (.aload_n 0, 1) := by decide +kernel
theorem dX5_read_29 : decode cX5_read 29 = .ok (.getfield 207, 3) := by decide +kernel
theorem dX5_read_32 : decode cX5_read 32 = .ok (.if_icmp .ge 21, 3) := by decide +kernel
theorem dX5_read_35 : decode cX5_read 35 = .ok (.aload_n 0, 1) := by decide +kernel
theorem dX5_read_36 : decode cX5_read 36 = .ok (.getfield 187, 3) := by decide +kernel
theorem dX5_read_39 : decode cX5_read 39 = .ok (.ifCond .ne 14, 3) := by decide +kernel
theorem dX5_read_42 : decode cX5_read 42 = .ok (.aload_n 0, 1) := by decide +kernel
theorem dX5_read_43 : decode cX5_read 43 = .ok (.iload_n 1, 1) := by decide +kernel
theorem dX5_read_44 : decode cX5_read 44 = .ok (.invokevirtual 283, 3) := by decide +kernel
theorem dX5_read_47 : decode cX5_read 47 = .ok (.iinc 1 1, 3) := by decide +kernel
theorem dX5_read_50 : decode cX5_read 50 = .ok (.goto (-23), 3) := by decide +kernel
theorem dX5_read_53 : decode cX5_read 53 = .ok (.aload_n 0, 1) := by decide +kernel
theorem dX5_read_54 : decode cX5_read 54 = .ok (.getfield 187, 3) := by decide +kernel
theorem dX5_read_57 : decode cX5_read 57 = .ok (.ifCond .le 19, 3) := by decide +kernel
theorem dX5_read_60 : decode cX5_read 60 = .ok (.aload_n 0, 1) := by decide +kernel
theorem dX5_read_61 : decode cX5_read 61 = .ok (.aload_n 0, 1) := by decide +kernel
theorem dX5_read_62 : decode cX5_read 62 = .ok (.getfield 190, 3) := by decide +kernel
theorem dX5_read_65 : decode cX5_read 65 = .ok (.putfield 286, 3) := by decide +kernel
theorem dX5_read_68 : decode cX5_read 68 = .ok (.bipush (-10), 2) := by decide +kernel
theorem dX5_read_70 : decode cX5_read 70 = .ok (.aload_n 0, 1) := by decide +kernel
theorem dX5_read_71 : decode cX5_read 71 = .ok (.getfield 187, 3) := by decide +kernel
theorem dX5_read_74 : decode cX5_read 74 = .ok (.isub, 1) := by decide +kernel
theorem dX5_read_75 : decode cX5_read 75 = .ok (.ireturn, 1) := by decide +kernel
theorem dX5_read_76 : decode cX5_read 76 = .ok (.aload_n 0, 1) := by decide +kernel
theorem dX5_read_77 : decode cX5_read 77 = .ok (.iconst (-1), 1) := by decide +kernel
theorem dX5_read_78 : decode cX5_read 78 = .ok (.putfield 286, 3) := by decide +kernel
theorem dX5_read_81 : decode cX5_read 81 = .ok (.aload_n 0, 1) := by decide +kernel
theorem dX5_read_82 : decode cX5_read 82 = .ok (.aload_n 0, 1) := by decide +kernel
theorem dX5_read_83 : decode cX5_read 83 = .ok (.getfield 207, 3) := by decide +kernel
theorem dX5_read_86 : decode cX5_read 86 = .ok (.putfield 10, 3) := by decide +kernel
theorem dX5_read_89 : decode cX5_read 89 = .ok (.iconst 0, 1) := by decide +kernel
theorem dX5_read_90 : decode cX5_read 90 = .ok (.istore_n 1, 1) := by decide +kernel
theorem dX5_read_91 : decode cX5_read 91 = .ok (.iload_n 1, 1) := by decide +kernel
theorem dX5_read_92 : decode cX5_read 92 = .ok (.aload_n 0, 1) := by decide +kernel
theorem dX5_read_93 : decode cX5_read 93 = .ok (.getfield 207, 3) := by decide +kernel
theorem dX5_read_96 : decode cX5_read 96 = .ok (.if_icmp .ge 14, 3) := by decide +kernel
theorem dX5_read_99 : decode cX5_read 99 = .ok (.aload_n 0, 1) := by decide +kernel
theorem dX5_read_100 : decode cX5_read 100 = .ok (.iload_n 1, 1) := by decide +kernel
theorem dX5_read_101 : decode cX5_read 101 = .ok (.invokevirtual 289, 3) := by decide +kernel
theorem dX5_read_104 : decode cX5_read 104 = .ok (.iinc 1 1, 3) := by decide +kernel
theorem dX5_read_107 : decode cX5_read 107 = .ok (.goto (-16), 3) := by decide +kernel
theorem dX5_read_110 : decode cX5_read 110 = .ok (.aload_n 0, 1) := by decide +kernel
theorem dX5_read_111 : decode cX5_read 111 = .ok (.aload_n 0, 1) := by decide +kernel
theorem dX5_read_112 : decode cX5_read 112 = .ok (.aload_n 0, 1) := by decide +kernel
theorem dX5_read_113 : decode cX5_read 113 = .ok (.getfield 204, 3) := by decide +kernel
theorem dX5_read_116 : decode cX5_read 116 = .ok (.bipush 20, 2) := by decide +kernel
theorem dX5_read_118 : decode cX5_read 118 = .ok (.iadd, 1) := by decide +kernel
theorem dX5_read_119 : decode cX5_read 119 = .ok (.invokevirtual 193, 3) := by decide +kernel
theorem dX5_read_122 : decode cX5_read 122 = .ok (.putfield 118, 3) := by decide +kernel
theorem dX5_read_125 : decode cX5_read 125 = .ok (.iconst 0, 1) := by decide +kernel
theorem dX5_read_126 : decode cX5_read 126 = .ok (.istore_n 1, 1) := by decide +kernel
theorem dX5_read_127 : decode cX5_read 127 = .ok (.iload_n 1, 1) := by decide +kernel
theorem dX5_read_128 : decode cX5_read 128 = .ok (.aload_n 0, 1) := by decide +kernel
theorem dX5_read_129 : decode cX5_read 129 = .ok (.getfield 118, 3) := by decide +kernel
theorem dX5_read_132 : decode cX5_read 132 = .ok (.if_icmp .ge 29, 3) := by decide +kernel
theorem dX5_read_135 : decode cX5_read 135 = .ok (.aload_n 0, 1) := by decide +kernel
theorem dX5_read_136 : decode cX5_read 136 = .ok (.getfield 115, 3) := by decide +kernel
theorem dX5_read_139 : decode cX5_read 139 = .ok (.iload_n 1, 1) := by decide +kernel
theorem dX5_read_140 : decode cX5_read 140 = .ok (.aload_n 0, 1) := by decide +kernel
theorem dX5_read_141 : decode cX5_read 141 = .ok (.getfield 128, 3) := by decide +kernel
theorem dX5_read_144 : decode cX5_read 144 = .ok (.aload_n 0, 1) := by decide +kernel
theorem dX5_read_145 : decode cX5_read 145 = .ok (.getfield 204, 3) := by decide +kernel
theorem dX5_read_148 : decode cX5_read 148 = .ok (.bipush 22, 2) := by decide +kernel
theorem dX5_read_150 : decode cX5_read 150 = .ok (.iadd, 1) := by decide +kernel
theorem dX5_read_151 : decode cX5_read 151 = .ok (.iload_n 1, 1) := by decide +kernel
theorem dX5_read_152 : decode cX5_read 152 = .ok (.iadd, 1) := by decide +kernel
theorem dX5_read_153 : decode cX5_read 153 = .ok (.iaload, 1) := by decide +kernel
theorem dX5_read_154 : decode cX5_read 154 = .ok (.iastore, 1) := by decide +kernel
theorem dX5_read_155 : decode cX5_read 155 = .ok (.iinc 1 1, 3) := by decide +kernel
theorem dX5_read_158 : decode cX5_read 158 = .ok (.goto (-31), 3) := by decide +kernel
theorem dX5_read_161 : decode cX5_read 161 = .ok (.aload_n 0, 1) := by decide +kernel
theorem dX5_read_162 : decode cX5_read 162 = .ok (.getfield 10, 3) := by decide +kernel
theorem dX5_read_165 : decode cX5_read 165 = .ok (.ireturn, 1) := by decide +kernel
theorem dX5_place_0 : decode cX5_place 0 = .ok (.aload_n 0, 1) := by decide +kernel
theorem dX5_place_1 : decode cX5_place 1 = .ok (.iconst 0, 1) := by decide +kernel
theorem dX5_place_2 : decode cX5_place 2 = .ok (.putfield 1, 3) := by decide +kernel
theorem dX5_place_5 : decode cX5_place 5 = .ok (.aload_n 0, 1) := by decide +kernel
theorem dX5_place_6 : decode cX5_place 6 = .ok (.getfield 286, 3) := by decide +kernel
theorem dX5_place_9 : decode cX5_place 9 = .ok (.ireturn, 1) := by decide +kernel
theorem dX5_feed_0 : decode cX5_feed 0 = .ok (.aload_n 0, 1) := by decide +kernel
theorem dX5_feed_1 : decode cX5_feed 1 = .ok (.iconst 0, 1) := by decide +kernel
theorem dX5_feed_2 : decode cX5_feed 2 = .ok (.putfield 1, 3) := by decide +kernel
theorem dX5_feed_5 : decode cX5_feed 5 = .ok (.iload_n 3, 1) := by decide +kernel
theorem dX5_feed_6 : decode cX5_feed 6 = .ok (.i2l, 1) := by decide +kernel
theorem dX5_feed_7 : decode cX5_feed 7 = .ok (.lconst 1, 1) := by decide +kernel
theorem dX5_feed_8 : decode cX5_feed 8 = .ok (.ldc2_w 60, 3) := by decide +kernel
theorem dX5_feed_11 : decode cX5_feed 11 = .ok (.invokestatic 13, 3) := by decide +kernel
theorem dX5_feed_14 : decode cX5_feed 14 = .ok (.ifCond .ne 6, 3) := by decide +kernel
theorem dX5_feed_17 : decode cX5_feed 17 = .ok (.bipush (-3), 2) := by decide +kernel
theorem dX5_feed_19 : decode cX5_feed 19 = .ok (.ireturn, 1) := by decide +kernel
theorem dX5_feed_20 : decode cX5_feed 20 = .ok (.aload_n 0, 1) := by decide +kernel
theorem dX5_feed_21 : decode cX5_feed 21 = .ok (.getfield 180, 3) := by decide +kernel
theorem dX5_feed_24 : decode cX5_feed 24 = .ok (.iload_n 3, 1) := by decide +kernel
theorem dX5_feed_25 : decode cX5_feed 25 = .ok (.iadd, 1) := by decide +kernel
theorem dX5_feed_26 : decode cX5_feed 26 = .ok (.sipush 2000, 3) := by decide +kernel
theorem dX5_feed_29 : decode cX5_feed 29 = .ok (.if_icmp .le 6, 3) := by decide +kernel
theorem dX5_feed_32 : decode cX5_feed 32 = .ok (.bipush (-5), 2) := by decide +kernel
theorem dX5_feed_34 : decode cX5_feed 34 = .ok (.ireturn, 1) := by decide +kernel
theorem dX5_feed_35 : decode cX5_feed 35 = .ok (.iconst 0, 1) := by decide +kernel
theorem dX5_feed_36 : decode cX5_feed 36 = .ok (.istore 4, 2) := by decide +kernel
theorem dX5_feed_38 : decode cX5_feed 38 = .ok (.iload 4, 2) := by decide +kernel
theorem dX5_feed_40 : decode cX5_feed 40 = .ok (.iload_n 3, 1) := by decide +kernel
theorem dX5_feed_41 : decode cX5_feed 41 = .ok (.if_icmp .ge 35, 3) := by decide +kernel
theorem dX5_feed_44 : decode cX5_feed 44 = .ok (.aload_n 0, 1) := by decide +kernel
theorem dX5_feed_45 : decode cX5_feed 45 = .ok (.getfield 128, 3) := by decide +kernel
theorem dX5_feed_48 : decode cX5_feed 48 = .ok (.aload_n 0, 1) := by decide +kernel
theorem dX5_feed_49 : decode cX5_feed 49 = .ok (.getfield 180, 3) := by decide +kernel
theorem dX5_feed_52 : decode cX5_feed 52 = .ok (.lload_n 1, 1) := by decide +kernel
theorem dX5_feed_53 : decode cX5_feed 53 = .ok (.iload_n 3, 1) := by decide +kernel
theorem dX5_feed_54 : decode cX5_feed 54 = .ok (.iload 4, 2) := by decide +kernel
theorem dX5_feed_56 : decode cX5_feed 56 = .ok (.invokestatic 19, 3) := by decide +kernel
theorem dX5_feed_59 : decode cX5_feed 59 = .ok (.iastore, 1) := by decide +kernel
theorem dX5_feed_60 : decode cX5_feed 60 = .ok (.aload_n 0, 1) := by decide +kernel
theorem dX5_feed_61 : decode cX5_feed 61 = .ok (.dup, 1) := by decide +kernel
theorem dX5_feed_62 : decode cX5_feed 62 = .ok (.getfield 180, 3) := by decide +kernel
theorem dX5_feed_65 : decode cX5_feed 65 = .ok (.iconst 1, 1) := by decide +kernel
theorem dX5_feed_66 : decode cX5_feed 66 = .ok (.iadd, 1) := by decide +kernel
theorem dX5_feed_67 : decode cX5_feed 67 = .ok (.putfield 180, 3) := by decide +kernel
theorem dX5_feed_70 : decode cX5_feed 70 = .ok (.iinc 4 1, 3) := by decide +kernel
theorem dX5_feed_73 : decode cX5_feed 73 = .ok (.goto (-35), 3) := by decide +kernel
theorem dX5_feed_76 : decode cX5_feed 76 = .ok (.aload_n 0, 1) := by decide +kernel
theorem dX5_feed_77 : decode cX5_feed 77 = .ok (.getfield 180, 3) := by decide +kernel
theorem dX5_feed_80 : decode cX5_feed 80 = .ok (.ireturn, 1) := by decide +kernel
theorem dX5_cut_0 : decode cX5_cut 0 = .ok (.aload_n 0, 1) := by decide +kernel
theorem dX5_cut_1 : decode cX5_cut 1 = .ok (.iconst 0, 1) := by decide +kernel
theorem dX5_cut_2 : decode cX5_cut 2 = .ok (.putfield 1, 3) := by decide +kernel
theorem dX5_cut_5 : decode cX5_cut 5 = .ok (.iload_n 1, 1) := by decide +kernel
theorem dX5_cut_6 : decode cX5_cut 6 = .ok (.i2l, 1) := by decide +kernel
theorem dX5_cut_7 : decode cX5_cut 7 = .ok (.lconst 0, 1) := by decide +kernel
theorem dX5_cut_8 : decode cX5_cut 8 = .ok (.aload_n 0, 1) := by decide +kernel
theorem dX5_cut_9 : decode cX5_cut 9 = .ok (.getfield 180, 3) := by decide +kernel
theorem dX5_cut_12 : decode cX5_cut 12 = .ok (.i2l, 1) := by decide +kernel
theorem dX5_cut_13 : decode cX5_cut 13 = .ok (.invokestatic 13, 3) := by decide +kernel
theorem dX5_cut_16 : decode cX5_cut 16 = .ok (.ifCond .ne 6, 3) := by decide +kernel
theorem dX5_cut_19 : decode cX5_cut 19 = .ok (.bipush (-3), 2) := by decide +kernel
theorem dX5_cut_21 : decode cX5_cut 21 = .ok (.ireturn, 1) := by decide +kernel
theorem dX5_cut_22 : decode cX5_cut 22 = .ok (.aload_n 0, 1) := by decide +kernel
theorem dX5_cut_23 : decode cX5_cut 23 = .ok (.getfield 180, 3) := by decide +kernel
theorem dX5_cut_26 : decode cX5_cut 26 = .ok (.iload_n 1, 1) := by decide +kernel
theorem dX5_cut_27 : decode cX5_cut 27 = .ok (.isub, 1) := by decide +kernel
theorem dX5_cut_28 : decode cX5_cut 28 = .ok (.istore_n 2, 1) := by decide +kernel
theorem dX5_cut_29 : decode cX5_cut 29 = .ok (.aload_n 0, 1) := by decide +kernel
theorem dX5_cut_30 : decode cX5_cut 30 = .ok (.iload_n 1, 1) := by decide +kernel
theorem dX5_cut_31 : decode cX5_cut 31 = .ok (.putfield 180, 3) := by decide +kernel
theorem dX5_cut_34 : decode cX5_cut 34 = .ok (.iload_n 2, 1) := by decide +kernel
theorem dX5_cut_35 : decode cX5_cut 35 = .ok (.ireturn, 1) := by decide +kernel
theorem dX5_poke_0 : decode cX5_poke 0 = .ok (.aload_n 0, 1) := by decide +kernel
theorem dX5_poke_1 : decode cX5_poke 1 = .ok (.iconst 0, 1) := by decide +kernel
theorem dX5_poke_2 : decode cX5_poke 2 = .ok (.putfield 1, 3) := by decide +kernel
theorem dX5_poke_5 : decode cX5_poke 5 = .ok (.iload_n 1, 1) := by decide +kernel
theorem dX5_poke_6 : decode cX5_poke 6 = .ok (.i2l, 1) := by decide +kernel
theorem dX5_poke_7 : decode cX5_poke 7 = .ok (.lconst 0, 1) := by decide +kernel
theorem dX5_poke_8 : decode cX5_poke 8 = .ok (.aload_n 0, 1) := by decide +kernel
theorem dX5_poke_9 : decode cX5_poke 9 = .ok (.getfield 180, 3) := by decide +kernel
theorem dX5_poke_12 : decode cX5_poke 12 = .ok (.iconst 1, 1) := by decide +kernel
theorem dX5_poke_13 : decode cX5_poke 13 = .ok (.isub, 1) := by decide +kernel
theorem dX5_poke_14 : decode cX5_poke 14 = .ok (.i2l, 1) := by decide +kernel
theorem dX5_poke_15 : decode cX5_poke 15 = .ok (.invokestatic 13, 3) := by decide +kernel
theorem dX5_poke_18 : decode cX5_poke 18 = .ok (.ifCond .ne 6, 3) := by decide +kernel
theorem dX5_poke_21 : decode cX5_poke 21 = .ok (.bipush (-2), 2) := by decide +kernel
theorem dX5_poke_23 : decode cX5_poke 23 = .ok (.ireturn, 1) := by decide +kernel
theorem dX5_poke_24 : decode cX5_poke 24 = .ok (.iload_n 2, 1) := by decide +kernel
theorem dX5_poke_25 : decode cX5_poke 25 = .ok (.i2l, 1) := by decide +kernel
theorem dX5_poke_26 : decode cX5_poke 26 = .ok (.lconst 0, 1) := by decide +kernel
theorem dX5_poke_27 : decode cX5_poke 27 = .ok (.ldc2_w 17, 3) := by decide +kernel
theorem dX5_poke_30 : decode cX5_poke 30 = .ok (.invokestatic 13, 3) := by decide +kernel
theorem dX5_poke_33 : decode cX5_poke 33 = .ok (.ifCond .ne 6, 3) := by decide +kernel
theorem dX5_poke_36 : decode cX5_poke 36 = .ok (.bipush (-3), 2) := by decide +kernel
theorem dX5_poke_38 : decode cX5_poke 38 = .ok (.ireturn, 1) := by decide +kernel
theorem dX5_poke_39 : decode cX5_poke 39 = .ok (.aload_n 0, 1) := by decide +kernel
theorem dX5_poke_40 : decode cX5_poke 40 = .ok (.getfield 128, 3) := by decide +kernel
theorem dX5_poke_43 : decode cX5_poke 43 = .ok (.iload_n 1, 1) := by decide +kernel
theorem dX5_poke_44 : decode cX5_poke 44 = .ok (.dup2, 1) := by decide +kernel
theorem dX5_poke_45 : decode cX5_poke 45 = .ok (.iaload, 1) := by decide +kernel
theorem dX5_poke_46 : decode cX5_poke 46 = .ok (.iload_n 2, 1) := by decide +kernel
theorem dX5_poke_47 : decode cX5_poke 47 = .ok (.ixor, 1) := by decide +kernel
theorem dX5_poke_48 : decode cX5_poke 48 = .ok (.iastore, 1) := by decide +kernel
theorem dX5_poke_49 : decode cX5_poke 49 = .ok (.aload_n 0, 1) := by decide +kernel
theorem dX5_poke_50 : decode cX5_poke 50 = .ok (.getfield 128, 3) := by decide +kernel
theorem dX5_poke_53 : decode cX5_poke 53 = .ok (.iload_n 1, 1) := by decide +kernel
theorem dX5_poke_54 : decode cX5_poke 54 = .ok (.iaload, 1) := by decide +kernel
theorem dX5_poke_55 : decode cX5_poke 55 = .ok (.ireturn, 1) := by decide +kernel
theorem dX5_isThere_0 : decode cX5_isThere 0 = .ok (.iload_n 1, 1) := by decide +kernel
theorem dX5_isThere_1 : decode cX5_isThere 1 = .ok (.i2l, 1) := by decide +kernel
theorem dX5_isThere_2 : decode cX5_isThere 2 = .ok (.lconst 0, 1) := by decide +kernel
theorem dX5_isThere_3 : decode cX5_isThere 3 = .ok (.aload_n 0, 1) := by decide +kernel
theorem dX5_isThere_4 : decode cX5_isThere 4 = .ok (.getfield 180, 3) := by decide +kernel
theorem dX5_isThere_7 : decode cX5_isThere 7 = .ok (.i2l, 1) := by decide +kernel
theorem dX5_isThere_8 : decode cX5_isThere 8 = .ok (.iload_n 2, 1) := by decide +kernel
theorem dX5_isThere_9 : decode cX5_isThere 9 = .ok (.i2l, 1) := by decide +kernel
theorem dX5_isThere_10 : decode cX5_isThere 10 = .ok (.lsub, 1) := by decide +kernel
theorem dX5_isThere_11 : decode cX5_isThere 11 = .ok (.invokestatic 13, 3) := by decide +kernel
theorem dX5_isThere_14 : decode cX5_isThere 14 = .ok (.ireturn, 1) := by decide +kernel
theorem dX5_at_0 : decode cX5_at 0 = .ok (.aload_n 0, 1) := by decide +kernel
theorem dX5_at_1 : decode cX5_at 1 = .ok (.iconst 0, 1) := by decide +kernel
theorem dX5_at_2 : decode cX5_at 2 = .ok (.putfield 1, 3) := by decide +kernel
theorem dX5_at_5 : decode cX5_at 5 = .ok (.aload_n 0, 1) := by decide +kernel
theorem dX5_at_6 : decode cX5_at 6 = .ok (.iload_n 1, 1) := by decide +kernel
theorem dX5_at_7 : decode cX5_at 7 = .ok (.iconst 1, 1) := by decide +kernel
theorem dX5_at_8 : decode cX5_at 8 = .ok (.invokevirtual 292, 3) := by decide +kernel
theorem dX5_at_11 : decode cX5_at 11 = .ok (.ifCond .eq 12, 3) := by decide +kernel
theorem dX5_at_14 : decode cX5_at 14 = .ok (.aload_n 0, 1) := by decide +kernel
theorem dX5_at_15 : decode cX5_at 15 = .ok (.getfield 128, 3) := by decide +kernel
theorem dX5_at_18 : decode cX5_at 18 = .ok (.iload_n 1, 1) := by decide +kernel
theorem dX5_at_19 : decode cX5_at 19 = .ok (.iaload, 1) := by decide +kernel
theorem dX5_at_20 : decode cX5_at 20 = .ok (.goto 8, 3) := by decide +kernel
theorem dX5_at_23 : decode cX5_at 23 = .ok (.aload_n 0, 1) := by decide +kernel
theorem dX5_at_24 : decode cX5_at 24 = .ok (.iconst 3, 1) := by decide +kernel
theorem dX5_at_25 : decode cX5_at 25 = .ok (.invokevirtual 85, 3) := by decide +kernel
theorem dX5_at_28 : decode cX5_at 28 = .ok (.ireturn, 1) := by decide +kernel
theorem dX5_half_0 : decode cX5_half 0 = .ok (.aload_n 0, 1) := by decide +kernel
theorem dX5_half_1 : decode cX5_half 1 = .ok (.iconst 0, 1) := by decide +kernel
theorem dX5_half_2 : decode cX5_half 2 = .ok (.putfield 1, 3) := by decide +kernel
theorem dX5_half_5 : decode cX5_half 5 = .ok (.aload_n 0, 1) := by decide +kernel
theorem dX5_half_6 : decode cX5_half 6 = .ok (.iload_n 1, 1) := by decide +kernel
theorem dX5_half_7 : decode cX5_half 7 = .ok (.iconst 2, 1) := by decide +kernel
theorem dX5_half_8 : decode cX5_half 8 = .ok (.invokevirtual 292, 3) := by decide +kernel
theorem dX5_half_11 : decode cX5_half 11 = .ok (.ifCond .eq 11, 3) := by decide +kernel
theorem dX5_half_14 : decode cX5_half 14 = .ok (.aload_n 0, 1) := by decide +kernel
theorem dX5_half_15 : decode cX5_half 15 = .ok (.iload_n 1, 1) := by decide +kernel
theorem dX5_half_16 : decode cX5_half 16 = .ok (.invokevirtual 193, 3) := by decide +kernel
theorem dX5_half_19 : decode cX5_half 19 = .ok (.goto 8, 3) := by decide +kernel
theorem dX5_half_22 : decode cX5_half 22 = .ok (.aload_n 0, 1) := by decide +kernel
theorem dX5_half_23 : decode cX5_half 23 = .ok (.iconst 3, 1) := by decide +kernel
theorem dX5_half_24 : decode cX5_half 24 = .ok (.invokevirtual 85, 3) := by decide +kernel
theorem dX5_half_27 : decode cX5_half 27 = .ok (.ireturn, 1) := by decide +kernel
theorem dX5_word_0 : decode cX5_word 0 = .ok (.aload_n 0, 1) := by decide +kernel
theorem dX5_word_1 : decode cX5_word 1 = .ok (.iconst 0, 1) := by decide +kernel
theorem dX5_word_2 : decode cX5_word 2 = .ok (.putfield 1, 3) := by decide +kernel
theorem dX5_word_5 : decode cX5_word 5 = .ok (.aload_n 0, 1) := by decide +kernel
theorem dX5_word_6 : decode cX5_word 6 = .ok (.iload_n 1, 1) := by decide +kernel
theorem dX5_word_7 : decode cX5_word 7 = .ok (.iconst 4, 1) := by decide +kernel
theorem dX5_word_8 : decode cX5_word 8 = .ok (.invokevirtual 292, 3) := by decide +kernel
theorem dX5_word_11 : decode cX5_word 11 = .ok (.ifCond .eq 11, 3) := by decide +kernel
theorem dX5_word_14 : decode cX5_word 14 = .ok (.aload_n 0, 1) := by decide +kernel
theorem dX5_word_15 : decode cX5_word 15 = .ok (.iload_n 1, 1) := by decide +kernel
theorem dX5_word_16 : decode cX5_word 16 = .ok (.invokevirtual 196, 3) := by decide +kernel
theorem dX5_word_19 : decode cX5_word 19 = .ok (.goto 9, 3) := by decide +kernel
theorem dX5_word_22 : decode cX5_word 22 = .ok (.aload_n 0, 1) := by decide +kernel
theorem dX5_word_23 : decode cX5_word 23 = .ok (.iconst 3, 1) := by decide +kernel
theorem dX5_word_24 : decode cX5_word 24 = .ok (.invokevirtual 85, 3) := by decide +kernel
theorem dX5_word_27 : decode cX5_word 27 = .ok (.i2l, 1) := by decide +kernel
theorem dX5_word_28 : decode cX5_word 28 = .ok (.lreturn, 1) := by decide +kernel
theorem dX5_about_0 : decode cX5_about 0 = .ok (.aload_n 0, 1) := by decide +kernel
theorem dX5_about_1 : decode cX5_about 1 = .ok (.iconst 0, 1) := by decide +kernel
theorem dX5_about_2 : decode cX5_about 2 = .ok (.putfield 1, 3) := by decide +kernel
theorem dX5_about_5 : decode cX5_about 5 = .ok (.aload_n 0, 1) := by decide +kernel
theorem dX5_about_6 : decode cX5_about 6 = .ok (.iload_n 1, 1) := by decide +kernel
theorem dX5_about_7 : decode cX5_about 7 = .ok (.invokevirtual 81, 3) := by decide +kernel
theorem dX5_about_10 : decode cX5_about 10 = .ok (.ifCond .ne 6, 3) := by decide +kernel
theorem dX5_about_13 : decode cX5_about 13 = .ok (.bipush (-2), 2) := by decide +kernel
theorem dX5_about_15 : decode cX5_about 15 = .ok (.ireturn, 1) := by decide +kernel
theorem dX5_about_16 : decode cX5_about 16 = .ok (.iload_n 2, 1) := by decide +kernel
theorem dX5_about_17 : decode cX5_about 17 = .ok (.tableswitch 173 0 10 #[59, 66, 73, 90, 107, 114, 121, 128, 135, 151, 158], 59) := by decide +kernel
theorem dX5_about_76 : decode cX5_about 76 = .ok (.aload_n 0, 1) := by decide +kernel
theorem dX5_about_77 : decode cX5_about 77 = .ok (.getfield 72, 3) := by decide +kernel
theorem dX5_about_80 : decode cX5_about 80 = .ok (.iload_n 1, 1) := by decide +kernel
theorem dX5_about_81 : decode cX5_about 81 = .ok (.iaload, 1) := by decide +kernel
theorem dX5_about_82 : decode cX5_about 82 = .ok (.ireturn, 1) := by decide +kernel
theorem dX5_about_83 : decode cX5_about 83 = .ok (.aload_n 0, 1) := by decide +kernel
theorem dX5_about_84 : decode cX5_about 84 = .ok (.getfield 23, 3) := by decide +kernel
theorem dX5_about_87 : decode cX5_about 87 = .ok (.iload_n 1, 1) := by decide +kernel
theorem dX5_about_88 : decode cX5_about 88 = .ok (.iaload, 1) := by decide +kernel
theorem dX5_about_89 : decode cX5_about 89 = .ok (.ireturn, 1) := by decide +kernel
theorem dX5_about_90 : decode cX5_about 90 = .ok (.aload_n 0, 1) := by decide +kernel
theorem dX5_about_91 : decode cX5_about 91 = .ok (.getfield 75, 3) := by decide +kernel
theorem dX5_about_94 : decode cX5_about 94 = .ok (.iload_n 1, 1) := by decide +kernel
theorem dX5_about_95 : decode cX5_about 95 = .ok (.iaload, 1) := by decide +kernel
theorem dX5_about_96 : decode cX5_about 96 = .ok (.iconst 1, 1) := by decide +kernel
theorem dX5_about_97 : decode cX5_about 97 = .ok (.if_icmp .ne 8, 3) := by decide +kernel
theorem dX5_about_100 : decode cX5_about 100 = .ok (.bipush 8, 2) := by decide +kernel
theorem dX5_about_102 : decode cX5_about 102 = .ok (.goto 4, 3) := by decide +kernel
theorem dX5_about_105 : decode cX5_about 105 = .ok (.iconst 0, 1) := by decide +kernel
theorem dX5_about_106 : decode cX5_about 106 = .ok (.ireturn, 1) := by decide +kernel
theorem dX5_about_107 : decode cX5_about 107 = .ok (.aload_n 0, 1) := by decide +kernel
theorem dX5_about_108 : decode cX5_about 108 = .ok (.getfield 72, 3) := by decide +kernel
theorem dX5_about_111 : decode cX5_about 111 = .ok (.iload_n 1, 1) := by decide +kernel
theorem dX5_about_112 : decode cX5_about 112 = .ok (.iaload, 1) := by decide +kernel
theorem dX5_about_113 : decode cX5_about 113 = .ok (.iconst 1, 1) := by decide +kernel
theorem dX5_about_114 : decode cX5_about 114 = .ok (.if_icmp .ne 8, 3) := by decide +kernel
theorem dX5_about_117 : decode cX5_about 117 = .ok (.bipush 8, 2) := by decide +kernel
theorem dX5_about_119 : decode cX5_about 119 = .ok (.goto 4, 3) := by decide +kernel
theorem dX5_about_122 : decode cX5_about 122 = .ok (.iconst 0, 1) := by decide +kernel
theorem dX5_about_123 : decode cX5_about 123 = .ok (.ireturn, 1) := by decide +kernel
theorem dX5_about_124 : decode cX5_about 124 = .ok (.aload_n 0, 1) := by decide +kernel
theorem dX5_about_125 : decode cX5_about 125 = .ok (.getfield 27, 3) := by decide +kernel
theorem dX5_about_128 : decode cX5_about 128 = .ok (.iload_n 1, 1) := by decide +kernel
theorem dX5_about_129 : decode cX5_about 129 = .ok (.iaload, 1) := by decide +kernel
theorem dX5_about_130 : decode cX5_about 130 = .ok (.ireturn, 1) := by decide +kernel
theorem dX5_about_131 : decode cX5_about 131 = .ok (.aload_n 0, 1) := by decide +kernel
theorem dX5_about_132 : decode cX5_about 132 = .ok (.getfield 30, 3) := by decide +kernel
theorem dX5_about_135 : decode cX5_about 135 = .ok (.iload_n 1, 1) := by decide +kernel
theorem dX5_about_136 : decode cX5_about 136 = .ok (.iaload, 1) := by decide +kernel
theorem dX5_about_137 : decode cX5_about 137 = .ok (.ireturn, 1) := by decide +kernel
theorem dX5_about_138 : decode cX5_about 138 = .ok (.aload_n 0, 1) := by decide +kernel
theorem dX5_about_139 : decode cX5_about 139 = .ok (.getfield 33, 3) := by decide +kernel
theorem dX5_about_142 : decode cX5_about 142 = .ok (.iload_n 1, 1) := by decide +kernel
theorem dX5_about_143 : decode cX5_about 143 = .ok (.iaload, 1) := by decide +kernel
theorem dX5_about_144 : decode cX5_about 144 = .ok (.ireturn, 1) := by decide +kernel
theorem dX5_about_145 : decode cX5_about 145 = .ok (.aload_n 0, 1) := by decide +kernel
theorem dX5_about_146 : decode cX5_about 146 = .ok (.getfield 36, 3) := by decide +kernel
theorem dX5_about_149 : decode cX5_about 149 = .ok (.iload_n 1, 1) := by decide +kernel
theorem dX5_about_150 : decode cX5_about 150 = .ok (.iaload, 1) := by decide +kernel
theorem dX5_about_151 : decode cX5_about 151 = .ok (.ireturn, 1) := by decide +kernel
theorem dX5_about_152 : decode cX5_about 152 = .ok (.aload_n 0, 1) := by decide +kernel
theorem dX5_about_153 : decode cX5_about 153 = .ok (.getfield 75, 3) := by decide +kernel
theorem dX5_about_156 : decode cX5_about 156 = .ok (.iload_n 1, 1) := by decide +kernel
theorem dX5_about_157 : decode cX5_about 157 = .ok (.iaload, 1) := by decide +kernel
theorem dX5_about_158 : decode cX5_about 158 = .ok (.iconst 2, 1) := by decide +kernel
theorem dX5_about_159 : decode cX5_about 159 = .ok (.if_icmp .ne 7, 3) := by decide +kernel
theorem dX5_about_162 : decode cX5_about 162 = .ok (.iconst 1, 1) := by decide +kernel
theorem dX5_about_163 : decode cX5_about 163 = .ok (.goto 4, 3) := by decide +kernel
theorem dX5_about_166 : decode cX5_about 166 = .ok (.iconst 0, 1) := by decide +kernel
theorem dX5_about_167 : decode cX5_about 167 = .ok (.ireturn, 1) := by decide +kernel
theorem dX5_about_168 : decode cX5_about 168 = .ok (.aload_n 0, 1) := by decide +kernel
theorem dX5_about_169 : decode cX5_about 169 = .ok (.getfield 55, 3) := by decide +kernel
theorem dX5_about_172 : decode cX5_about 172 = .ok (.iload_n 1, 1) := by decide +kernel
theorem dX5_about_173 : decode cX5_about 173 = .ok (.iaload, 1) := by decide +kernel
theorem dX5_about_174 : decode cX5_about 174 = .ok (.ireturn, 1) := by decide +kernel
theorem dX5_about_175 : decode cX5_about 175 = .ok (.aload_n 0, 1) := by decide +kernel
theorem dX5_about_176 : decode cX5_about 176 = .ok (.getfield 39, 3) := by decide +kernel
theorem dX5_about_179 : decode cX5_about 179 = .ok (.iload_n 1, 1) := by decide +kernel
theorem dX5_about_180 : decode cX5_about 180 = .ok (.baload, 1) := by decide +kernel
theorem dX5_about_181 : decode cX5_about 181 = .ok (.ifCond .eq 7, 3) := by decide +kernel
theorem dX5_about_184 : decode cX5_about 184 = .ok (.iconst 0, 1) := by decide +kernel
theorem dX5_about_185 : decode cX5_about 185 = .ok (.goto 4, 3) := by decide +kernel
theorem dX5_about_188 : decode cX5_about 188 = .ok (.iconst 1, 1) := by decide +kernel
theorem dX5_about_189 : decode cX5_about 189 = .ok (.ireturn, 1) := by decide +kernel
theorem dX5_about_190 : decode cX5_about 190 = .ok (.bipush (-3), 2) := by decide +kernel
theorem dX5_about_192 : decode cX5_about 192 = .ok (.ireturn, 1) := by decide +kernel
theorem dX5_letter_0 : decode cX5_letter 0 = .ok (.aload_n 0, 1) := by decide +kernel
theorem dX5_letter_1 : decode cX5_letter 1 = .ok (.iconst 0, 1) := by decide +kernel
theorem dX5_letter_2 : decode cX5_letter 2 = .ok (.putfield 1, 3) := by decide +kernel
theorem dX5_letter_5 : decode cX5_letter 5 = .ok (.aload_n 0, 1) := by decide +kernel
theorem dX5_letter_6 : decode cX5_letter 6 = .ok (.iload_n 1, 1) := by decide +kernel
theorem dX5_letter_7 : decode cX5_letter 7 = .ok (.invokevirtual 81, 3) := by decide +kernel
theorem dX5_letter_10 : decode cX5_letter 10 = .ok (.ifCond .ne 6, 3) := by decide +kernel
theorem dX5_letter_13 : decode cX5_letter 13 = .ok (.bipush (-2), 2) := by decide +kernel
theorem dX5_letter_15 : decode cX5_letter 15 = .ok (.ireturn, 1) := by decide +kernel
theorem dX5_letter_16 : decode cX5_letter 16 = .ok (.iload_n 2, 1) := by decide +kernel
theorem dX5_letter_17 : decode cX5_letter 17 = .ok (.i2l, 1) := by decide +kernel
theorem dX5_letter_18 : decode cX5_letter 18 = .ok (.lconst 0, 1) := by decide +kernel
theorem dX5_letter_19 : decode cX5_letter 19 = .ok (.aload_n 0, 1) := by decide +kernel
theorem dX5_letter_20 : decode cX5_letter 20 = .ok (.getfield 23, 3) := by decide +kernel
theorem dX5_letter_23 : decode cX5_letter 23 = .ok (.iload_n 1, 1) := by decide +kernel
theorem dX5_letter_24 : decode cX5_letter 24 = .ok (.iaload, 1) := by decide +kernel
theorem dX5_letter_25 : decode cX5_letter 25 = .ok (.iconst 1, 1) := by decide +kernel
theorem dX5_letter_26 : decode cX5_letter 26 = .ok (.isub, 1) := by decide +kernel
theorem dX5_letter_27 : decode cX5_letter 27 = .ok (.i2l, 1) := by decide +kernel
theorem dX5_letter_28 : decode cX5_letter 28 = .ok (.invokestatic 13, 3) := by decide +kernel
theorem dX5_letter_31 : decode cX5_letter 31 = .ok (.ifCond .eq 17, 3) := by decide +kernel
theorem dX5_letter_34 : decode cX5_letter 34 = .ok (.aload_n 0, 1) := by decide +kernel
theorem dX5_letter_35 : decode cX5_letter 35 = .ok (.getfield 78, 3) := by decide +kernel
theorem dX5_letter_38 : decode cX5_letter 38 = .ok (.bipush 16, 2) := by decide +kernel
theorem dX5_letter_40 : decode cX5_letter 40 = .ok (.iload_n 1, 1) := by decide +kernel
theorem dX5_letter_41 : decode cX5_letter 41 = .ok (.imul, 1) := by decide +kernel
theorem dX5_letter_42 : decode cX5_letter 42 = .ok (.iload_n 2, 1) := by decide +kernel
theorem dX5_letter_43 : decode cX5_letter 43 = .ok (.iadd, 1) := by decide +kernel
theorem dX5_letter_44 : decode cX5_letter 44 = .ok (.iaload, 1) := by decide +kernel
theorem dX5_letter_45 : decode cX5_letter 45 = .ok (.goto 8, 3) := by decide +kernel
theorem dX5_letter_48 : decode cX5_letter 48 = .ok (.aload_n 0, 1) := by decide +kernel
theorem dX5_letter_49 : decode cX5_letter 49 = .ok (.iconst 3, 1) := by decide +kernel
theorem dX5_letter_50 : decode cX5_letter 50 = .ok (.invokevirtual 85, 3) := by decide +kernel
theorem dX5_letter_53 : decode cX5_letter 53 = .ok (.ireturn, 1) := by decide +kernel
theorem dX5_octet_0 : decode cX5_octet 0 = .ok (.aload_n 0, 1) := by decide +kernel
theorem dX5_octet_1 : decode cX5_octet 1 = .ok (.iconst 0, 1) := by decide +kernel
theorem dX5_octet_2 : decode cX5_octet 2 = .ok (.putfield 1, 3) := by decide +kernel
theorem dX5_octet_5 : decode cX5_octet 5 = .ok (.aload_n 0, 1) := by decide +kernel
theorem dX5_octet_6 : decode cX5_octet 6 = .ok (.iload_n 1, 1) := by decide +kernel
theorem dX5_octet_7 : decode cX5_octet 7 = .ok (.invokevirtual 81, 3) := by decide +kernel
theorem dX5_octet_10 : decode cX5_octet 10 = .ok (.ifCond .ne 6, 3) := by decide +kernel
theorem dX5_octet_13 : decode cX5_octet 13 = .ok (.bipush (-2), 2) := by decide +kernel
theorem dX5_octet_15 : decode cX5_octet 15 = .ok (.ireturn, 1) := by decide +kernel
theorem dX5_octet_16 : decode cX5_octet 16 = .ok (.aload_n 0, 1) := by decide +kernel
theorem dX5_octet_17 : decode cX5_octet 17 = .ok (.getfield 72, 3) := by decide +kernel
theorem dX5_octet_20 : decode cX5_octet 20 = .ok (.iload_n 1, 1) := by decide +kernel
theorem dX5_octet_21 : decode cX5_octet 21 = .ok (.iaload, 1) := by decide +kernel
theorem dX5_octet_22 : decode cX5_octet 22 = .ok (.iconst 2, 1) := by decide +kernel
theorem dX5_octet_23 : decode cX5_octet 23 = .ok (.if_icmp .eq 12, 3) := by decide +kernel
theorem dX5_octet_26 : decode cX5_octet 26 = .ok (.aload_n 0, 1) := by decide +kernel
theorem dX5_octet_27 : decode cX5_octet 27 = .ok (.getfield 39, 3) := by decide +kernel
theorem dX5_octet_30 : decode cX5_octet 30 = .ok (.iload_n 1, 1) := by decide +kernel
theorem dX5_octet_31 : decode cX5_octet 31 = .ok (.baload, 1) := by decide +kernel
theorem dX5_octet_32 : decode cX5_octet 32 = .ok (.ifCond .ne 23, 3) := by decide +kernel
theorem dX5_octet_35 : decode cX5_octet 35 = .ok (.aload_n 0, 1) := by decide +kernel
theorem dX5_octet_36 : decode cX5_octet 36 = .ok (.aload_n 0, 1) := by decide +kernel
theorem dX5_octet_37 : decode cX5_octet 37 = .ok (.getfield 72, 3) := by decide +kernel
theorem dX5_octet_40 : decode cX5_octet 40 = .ok (.iload_n 1, 1) := by decide +kernel
theorem dX5_octet_41 : decode cX5_octet 41 = .ok (.iaload, 1) := by decide +kernel
theorem dX5_octet_42 : decode cX5_octet 42 = .ok (.iconst 2, 1) := by decide +kernel
theorem dX5_octet_43 : decode cX5_octet 43 = .ok (.if_icmp .ne 7, 3) := by decide +kernel
theorem dX5_octet_46 : decode cX5_octet 46 = .ok (.iconst 2, 1) := by decide +kernel
theorem dX5_octet_47 : decode cX5_octet 47 = .ok (.goto 4, 3) := by decide +kernel
theorem dX5_octet_50 : decode cX5_octet 50 = .ok (.iconst 1, 1) := by decide +kernel
theorem dX5_octet_51 : decode cX5_octet 51 = .ok (.invokevirtual 85, 3) := by decide +kernel
theorem dX5_octet_54 : decode cX5_octet 54 = .ok (.ireturn, 1) := by decide +kernel
theorem dX5_octet_55 : decode cX5_octet 55 = .ok (.iload_n 2, 1) := by decide +kernel
theorem dX5_octet_56 : decode cX5_octet 56 = .ok (.i2l, 1) := by decide +kernel
theorem dX5_octet_57 : decode cX5_octet 57 = .ok (.lconst 0, 1) := by decide +kernel
theorem dX5_octet_58 : decode cX5_octet 58 = .ok (.aload_n 0, 1) := by decide +kernel
theorem dX5_octet_59 : decode cX5_octet 59 = .ok (.getfield 43, 3) := by decide +kernel
theorem dX5_octet_62 : decode cX5_octet 62 = .ok (.iload_n 1, 1) := by decide +kernel
theorem dX5_octet_63 : decode cX5_octet 63 = .ok (.iaload, 1) := by decide +kernel
theorem dX5_octet_64 : decode cX5_octet 64 = .ok (.iconst 1, 1) := by decide +kernel
theorem dX5_octet_65 : decode cX5_octet 65 = .ok (.isub, 1) := by decide +kernel
theorem dX5_octet_66 : decode cX5_octet 66 = .ok (.i2l, 1) := by decide +kernel
theorem dX5_octet_67 : decode cX5_octet 67 = .ok (.invokestatic 13, 3) := by decide +kernel
theorem dX5_octet_70 : decode cX5_octet 70 = .ok (.ifCond .eq 17, 3) := by decide +kernel
theorem dX5_octet_73 : decode cX5_octet 73 = .ok (.aload_n 0, 1) := by decide +kernel
theorem dX5_octet_74 : decode cX5_octet 74 = .ok (.getfield 89, 3) := by decide +kernel
theorem dX5_octet_77 : decode cX5_octet 77 = .ok (.bipush 40, 2) := by decide +kernel
theorem dX5_octet_79 : decode cX5_octet 79 = .ok (.iload_n 1, 1) := by decide +kernel
theorem dX5_octet_80 : decode cX5_octet 80 = .ok (.imul, 1) := by decide +kernel
theorem dX5_octet_81 : decode cX5_octet 81 = .ok (.iload_n 2, 1) := by decide +kernel
theorem dX5_octet_82 : decode cX5_octet 82 = .ok (.iadd, 1) := by decide +kernel
theorem dX5_octet_83 : decode cX5_octet 83 = .ok (.iaload, 1) := by decide +kernel
theorem dX5_octet_84 : decode cX5_octet 84 = .ok (.goto 8, 3) := by decide +kernel
theorem dX5_octet_87 : decode cX5_octet 87 = .ok (.aload_n 0, 1) := by decide +kernel
theorem dX5_octet_88 : decode cX5_octet 88 = .ok (.iconst 3, 1) := by decide +kernel
theorem dX5_octet_89 : decode cX5_octet 89 = .ok (.invokevirtual 85, 3) := by decide +kernel
theorem dX5_octet_92 : decode cX5_octet 92 = .ok (.ireturn, 1) := by decide +kernel
theorem dX5_size_0 : decode cX5_size 0 = .ok (.aload_n 0, 1) := by decide +kernel
theorem dX5_size_1 : decode cX5_size 1 = .ok (.iconst 0, 1) := by decide +kernel
theorem dX5_size_2 : decode cX5_size 2 = .ok (.putfield 1, 3) := by decide +kernel
theorem dX5_size_5 : decode cX5_size 5 = .ok (.aload_n 0, 1) := by decide +kernel
theorem dX5_size_6 : decode cX5_size 6 = .ok (.iload_n 1, 1) := by decide +kernel
theorem dX5_size_7 : decode cX5_size 7 = .ok (.invokevirtual 81, 3) := by decide +kernel
theorem dX5_size_10 : decode cX5_size 10 = .ok (.ifCond .ne 7, 3) := by decide +kernel
theorem dX5_size_13 : decode cX5_size 13 = .ok (.ldc2_w 295, 3) := by decide +kernel
theorem dX5_size_16 : decode cX5_size 16 = .ok (.lreturn, 1) := by decide +kernel
theorem dX5_size_17 : decode cX5_size 17 = .ok (.iload_n 2, 1) := by decide +kernel
theorem dX5_size_18 : decode cX5_size 18 = .ok (.i2l, 1) := by decide +kernel
theorem dX5_size_19 : decode cX5_size 19 = .ok (.lconst 0, 1) := by decide +kernel
theorem dX5_size_20 : decode cX5_size 20 = .ok (.ldc2_w 58, 3) := by decide +kernel
theorem dX5_size_23 : decode cX5_size 23 = .ok (.invokestatic 13, 3) := by decide +kernel
theorem dX5_size_26 : decode cX5_size 26 = .ok (.ifCond .ne 7, 3) := by decide +kernel
theorem dX5_size_29 : decode cX5_size 29 = .ok (.ldc2_w 297, 3) := by decide +kernel
theorem dX5_size_32 : decode cX5_size 32 = .ok (.lreturn, 1) := by decide +kernel
theorem dX5_size_33 : decode cX5_size 33 = .ok (.aload_n 0, 1) := by decide +kernel
theorem dX5_size_34 : decode cX5_size 34 = .ok (.getfield 72, 3) := by decide +kernel
theorem dX5_size_37 : decode cX5_size 37 = .ok (.iload_n 1, 1) := by decide +kernel
theorem dX5_size_38 : decode cX5_size 38 = .ok (.iaload, 1) := by decide +kernel
theorem dX5_size_39 : decode cX5_size 39 = .ok (.iconst 2, 1) := by decide +kernel
theorem dX5_size_40 : decode cX5_size 40 = .ok (.if_icmp .ne 10, 3) := by decide +kernel
theorem dX5_size_43 : decode cX5_size 43 = .ok (.aload_n 0, 1) := by decide +kernel
theorem dX5_size_44 : decode cX5_size 44 = .ok (.iconst 2, 1) := by decide +kernel
theorem dX5_size_45 : decode cX5_size 45 = .ok (.invokevirtual 85, 3) := by decide +kernel
theorem dX5_size_48 : decode cX5_size 48 = .ok (.i2l, 1) := by decide +kernel
theorem dX5_size_49 : decode cX5_size 49 = .ok (.lreturn, 1) := by decide +kernel
theorem dX5_size_50 : decode cX5_size 50 = .ok (.aload_n 0, 1) := by decide +kernel
theorem dX5_size_51 : decode cX5_size 51 = .ok (.getfield 39, 3) := by decide +kernel
theorem dX5_size_54 : decode cX5_size 54 = .ok (.iload_n 1, 1) := by decide +kernel
theorem dX5_size_55 : decode cX5_size 55 = .ok (.baload, 1) := by decide +kernel
theorem dX5_size_56 : decode cX5_size 56 = .ok (.ifCond .ne 24, 3) := by decide +kernel
theorem dX5_size_59 : decode cX5_size 59 = .ok (.iload_n 2, 1) := by decide +kernel
theorem dX5_size_60 : decode cX5_size 60 = .ok (.ifCond .eq 13, 3) := by decide +kernel
theorem dX5_size_63 : decode cX5_size 63 = .ok (.aload_n 0, 1) := by decide +kernel
theorem dX5_size_64 : decode cX5_size 64 = .ok (.getfield 72, 3) := by decide +kernel
theorem dX5_size_67 : decode cX5_size 67 = .ok (.iload_n 1, 1) := by decide +kernel
theorem dX5_size_68 : decode cX5_size 68 = .ok (.iaload, 1) := by decide +kernel
theorem dX5_size_69 : decode cX5_size 69 = .ok (.iconst 1, 1) := by decide +kernel
theorem dX5_size_70 : decode cX5_size 70 = .ok (.if_icmp .eq 10, 3) := by decide +kernel
theorem dX5_size_73 : decode cX5_size 73 = .ok (.aload_n 0, 1) := by decide +kernel
theorem dX5_size_74 : decode cX5_size 74 = .ok (.iconst 1, 1) := by decide +kernel
theorem dX5_size_75 : decode cX5_size 75 = .ok (.invokevirtual 85, 3) := by decide +kernel
theorem dX5_size_78 : decode cX5_size 78 = .ok (.i2l, 1) := by decide +kernel
theorem dX5_size_79 : decode cX5_size 79 = .ok (.lreturn, 1) := by decide +kernel
theorem dX5_size_80 : decode cX5_size 80 = .ok (.iload_n 2, 1) := by decide +kernel
theorem dX5_size_81 : decode cX5_size 81 = .ok (.ifCond .ne 13, 3) := by decide +kernel
theorem dX5_size_84 : decode cX5_size 84 = .ok (.aload_n 0, 1) := by decide +kernel
theorem dX5_size_85 : decode cX5_size 85 = .ok (.getfield 43, 3) := by decide +kernel
theorem dX5_size_88 : decode cX5_size 88 = .ok (.iload_n 1, 1) := by decide +kernel
theorem dX5_size_89 : decode cX5_size 89 = .ok (.iaload, 1) := by decide +kernel
theorem dX5_size_90 : decode cX5_size 90 = .ok (.i2l, 1) := by decide +kernel
theorem dX5_size_91 : decode cX5_size 91 = .ok (.goto 27, 3) := by decide +kernel
theorem dX5_size_94 : decode cX5_size 94 = .ok (.iload_n 2, 1) := by decide +kernel
theorem dX5_size_95 : decode cX5_size 95 = .ok (.iconst 1, 1) := by decide +kernel
theorem dX5_size_96 : decode cX5_size 96 = .ok (.if_icmp .ne 12, 3) := by decide +kernel
theorem dX5_size_99 : decode cX5_size 99 = .ok (.aload_n 0, 1) := by decide +kernel
theorem dX5_size_100 : decode cX5_size 100 = .ok (.iload_n 1, 1) := by decide +kernel
theorem dX5_size_101 : decode cX5_size 101 = .ok (.invokevirtual 137, 3) := by decide +kernel
theorem dX5_size_104 : decode cX5_size 104 = .ok (.i2l, 1) := by decide +kernel
theorem dX5_size_105 : decode cX5_size 105 = .ok (.goto 13, 3) := by decide +kernel
theorem dX5_size_108 : decode cX5_size 108 = .ok (.aload_n 0, 1) := by decide +kernel
theorem dX5_size_109 : decode cX5_size 109 = .ok (.iload_n 1, 1) := by decide +kernel
theorem dX5_size_110 : decode cX5_size 110 = .ok (.invokevirtual 144, 3) := by decide +kernel
theorem dX5_size_113 : decode cX5_size 113 = .ok (.i2l, 1) := by decide +kernel
theorem dX5_size_114 : decode cX5_size 114 = .ok (.ldc2_w 147, 3) := by decide +kernel
theorem dX5_size_117 : decode cX5_size 117 = .ok (.land, 1) := by decide +kernel
theorem dX5_size_118 : decode cX5_size 118 = .ok (.lreturn, 1) := by decide +kernel
theorem dX5_extra_0 : decode cX5_extra 0 = .ok (.aload_n 0, 1) := by decide +kernel
theorem dX5_extra_1 : decode cX5_extra 1 = .ok (.iconst 0, 1) := by decide +kernel
theorem dX5_extra_2 : decode cX5_extra 2 = .ok (.putfield 1, 3) := by decide +kernel
theorem dX5_extra_5 : decode cX5_extra 5 = .ok (.aload_n 0, 1) := by decide +kernel
theorem dX5_extra_6 : decode cX5_extra 6 = .ok (.iload_n 1, 1) := by decide +kernel
theorem dX5_extra_7 : decode cX5_extra 7 = .ok (.invokevirtual 81, 3) := by decide +kernel
theorem dX5_extra_10 : decode cX5_extra 10 = .ok (.ifCond .eq 21, 3) := by decide +kernel
theorem dX5_extra_13 : decode cX5_extra 13 = .ok (.iload_n 2, 1) := by decide +kernel
theorem dX5_extra_14 : decode cX5_extra 14 = .ok (.i2l, 1) := by decide +kernel
theorem dX5_extra_15 : decode cX5_extra 15 = .ok (.lconst 0, 1) := by decide +kernel
theorem dX5_extra_16 : decode cX5_extra 16 = .ok (.aload_n 0, 1) := by decide +kernel
theorem dX5_extra_17 : decode cX5_extra 17 = .ok (.getfield 36, 3) := by decide +kernel
theorem dX5_extra_20 : decode cX5_extra 20 = .ok (.iload_n 1, 1) := by decide +kernel
theorem dX5_extra_21 : decode cX5_extra 21 = .ok (.iaload, 1) := by decide +kernel
theorem dX5_extra_22 : decode cX5_extra 22 = .ok (.iconst 1, 1) := by decide +kernel
theorem dX5_extra_23 : decode cX5_extra 23 = .ok (.isub, 1) := by decide +kernel
theorem dX5_extra_24 : decode cX5_extra 24 = .ok (.i2l, 1) := by decide +kernel
theorem dX5_extra_25 : decode cX5_extra 25 = .ok (.invokestatic 13, 3) := by decide +kernel
theorem dX5_extra_28 : decode cX5_extra 28 = .ok (.ifCond .ne 6, 3) := by decide +kernel
theorem dX5_extra_31 : decode cX5_extra 31 = .ok (.bipush (-2), 2) := by decide +kernel
theorem dX5_extra_33 : decode cX5_extra 33 = .ok (.ireturn, 1) := by decide +kernel
theorem dX5_extra_34 : decode cX5_extra 34 = .ok (.iload_n 3, 1) := by decide +kernel
theorem dX5_extra_35 : decode cX5_extra 35 = .ok (.i2l, 1) := by decide +kernel
theorem dX5_extra_36 : decode cX5_extra 36 = .ok (.lconst 0, 1) := by decide +kernel
theorem dX5_extra_37 : decode cX5_extra 37 = .ok (.ldc2_w 58, 3) := by decide +kernel
theorem dX5_extra_40 : decode cX5_extra 40 = .ok (.invokestatic 13, 3) := by decide +kernel
theorem dX5_extra_43 : decode cX5_extra 43 = .ok (.ifCond .ne 6, 3) := by decide +kernel
theorem dX5_extra_46 : decode cX5_extra 46 = .ok (.bipush (-3), 2) := by decide +kernel
theorem dX5_extra_48 : decode cX5_extra 48 = .ok (.ireturn, 1) := by decide +kernel
theorem dX5_extra_49 : decode cX5_extra 49 = .ok (.iconst 3, 1) := by decide +kernel
theorem dX5_extra_50 : decode cX5_extra 50 = .ok (.iload_n 1, 1) := by decide +kernel
theorem dX5_extra_51 : decode cX5_extra 51 = .ok (.imul, 1) := by decide +kernel
theorem dX5_extra_52 : decode cX5_extra 52 = .ok (.iload_n 2, 1) := by decide +kernel
theorem dX5_extra_53 : decode cX5_extra 53 = .ok (.iadd, 1) := by decide +kernel
theorem dX5_extra_54 : decode cX5_extra 54 = .ok (.istore 5, 2) := by decide +kernel
theorem dX5_extra_56 : decode cX5_extra 56 = .ok (.iload_n 3, 1) := by decide +kernel
theorem dX5_extra_57 : decode cX5_extra 57 = .ok (.iconst 2, 1) := by decide +kernel
theorem dX5_extra_58 : decode cX5_extra 58 = .ok (.if_icmp .ge 25, 3) := by decide +kernel
theorem dX5_extra_61 : decode cX5_extra 61 = .ok (.iload_n 3, 1) := by decide +kernel
theorem dX5_extra_62 : decode cX5_extra 62 = .ok (.ifCond .ne 13, 3) := by decide +kernel
theorem dX5_extra_65 : decode cX5_extra 65 = .ok (.aload_n 0, 1) := by decide +kernel
theorem dX5_extra_66 : decode cX5_extra 66 = .ok (.getfield 96, 3) := by decide +kernel
theorem dX5_extra_69 : decode cX5_extra 69 = .ok (.iload 5, 2) := by decide +kernel
theorem dX5_extra_71 : decode cX5_extra 71 = .ok (.iaload, 1) := by decide +kernel
theorem dX5_extra_72 : decode cX5_extra 72 = .ok (.goto 10, 3) := by decide +kernel
theorem dX5_extra_75 : decode cX5_extra 75 = .ok (.aload_n 0, 1) := by decide +kernel
theorem dX5_extra_76 : decode cX5_extra 76 = .ok (.getfield 99, 3) := by decide +kernel
theorem dX5_extra_79 : decode cX5_extra 79 = .ok (.iload 5, 2) := by decide +kernel
theorem dX5_extra_81 : decode cX5_extra 81 = .ok (.iaload, 1) := by decide +kernel
theorem dX5_extra_82 : decode cX5_extra 82 = .ok (.ireturn, 1) := by decide +kernel
theorem dX5_extra_83 : decode cX5_extra 83 = .ok (.iload 4, 2) := by decide +kernel
theorem dX5_extra_85 : decode cX5_extra 85 = .ok (.i2l, 1) := by decide +kernel
theorem dX5_extra_86 : decode cX5_extra 86 = .ok (.lconst 0, 1) := by decide +kernel
theorem dX5_extra_87 : decode cX5_extra 87 = .ok (.aload_n 0, 1) := by decide +kernel
theorem dX5_extra_88 : decode cX5_extra 88 = .ok (.getfield 99, 3) := by decide +kernel
theorem dX5_extra_91 : decode cX5_extra 91 = .ok (.iload 5, 2) := by decide +kernel
theorem dX5_extra_93 : decode cX5_extra 93 = .ok (.iaload, 1) := by decide +kernel
theorem dX5_extra_94 : decode cX5_extra 94 = .ok (.iconst 1, 1) := by decide +kernel
theorem dX5_extra_95 : decode cX5_extra 95 = .ok (.isub, 1) := by decide +kernel
theorem dX5_extra_96 : decode cX5_extra 96 = .ok (.i2l, 1) := by decide +kernel
theorem dX5_extra_97 : decode cX5_extra 97 = .ok (.invokestatic 13, 3) := by decide +kernel
theorem dX5_extra_100 : decode cX5_extra 100 = .ok (.ifCond .eq 19, 3) := by decide +kernel
theorem dX5_extra_103 : decode cX5_extra 103 = .ok (.aload_n 0, 1) := by decide +kernel
theorem dX5_extra_104 : decode cX5_extra 104 = .ok (.getfield 102, 3) := by decide +kernel
theorem dX5_extra_107 : decode cX5_extra 107 = .ok (.bipush 8, 2) := by decide +kernel
theorem dX5_extra_109 : decode cX5_extra 109 = .ok (.iload 5, 2) := by decide +kernel
theorem dX5_extra_111 : decode cX5_extra 111 = .ok (.imul, 1) := by decide +kernel
theorem dX5_extra_112 : decode cX5_extra 112 = .ok (.iload 4, 2) := by decide +kernel
theorem dX5_extra_114 : decode cX5_extra 114 = .ok (.iadd, 1) := by decide +kernel
theorem dX5_extra_115 : decode cX5_extra 115 = .ok (.iaload, 1) := by decide +kernel
theorem dX5_extra_116 : decode cX5_extra 116 = .ok (.goto 8, 3) := by decide +kernel
theorem dX5_extra_119 : decode cX5_extra 119 = .ok (.aload_n 0, 1) := by decide +kernel
theorem dX5_extra_120 : decode cX5_extra 120 = .ok (.iconst 3, 1) := by decide +kernel
theorem dX5_extra_121 : decode cX5_extra 121 = .ok (.invokevirtual 85, 3) := by decide +kernel
theorem dX5_extra_124 : decode cX5_extra 124 = .ok (.ireturn, 1) := by decide +kernel
theorem dX5_right_0 : decode cX5_right 0 = .ok (.aload_n 0, 1) := by decide +kernel
theorem dX5_right_1 : decode cX5_right 1 = .ok (.iconst 0, 1) := by decide +kernel
theorem dX5_right_2 : decode cX5_right 2 = .ok (.putfield 1, 3) := by decide +kernel
theorem dX5_right_5 : decode cX5_right 5 = .ok (.aload_n 0, 1) := by decide +kernel
theorem dX5_right_6 : decode cX5_right 6 = .ok (.iload_n 1, 1) := by decide +kernel
theorem dX5_right_7 : decode cX5_right 7 = .ok (.invokevirtual 81, 3) := by decide +kernel
theorem dX5_right_10 : decode cX5_right 10 = .ok (.ifCond .ne 6, 3) := by decide +kernel
theorem dX5_right_13 : decode cX5_right 13 = .ok (.bipush (-2), 2) := by decide +kernel
theorem dX5_right_15 : decode cX5_right 15 = .ok (.ireturn, 1) := by decide +kernel
theorem dX5_right_16 : decode cX5_right 16 = .ok (.aload_n 0, 1) := by decide +kernel
theorem dX5_right_17 : decode cX5_right 17 = .ok (.getfield 72, 3) := by decide +kernel
theorem dX5_right_20 : decode cX5_right 20 = .ok (.iload_n 1, 1) := by decide +kernel
theorem dX5_right_21 : decode cX5_right 21 = .ok (.iaload, 1) := by decide +kernel
theorem dX5_right_22 : decode cX5_right 22 = .ok (.iconst 1, 1) := by decide +kernel
theorem dX5_right_23 : decode cX5_right 23 = .ok (.if_icmp .ne 6, 3) := by decide +kernel
theorem dX5_right_26 : decode cX5_right 26 = .ok (.bipush (-4), 2) := by decide +kernel
theorem dX5_right_28 : decode cX5_right 28 = .ok (.ireturn, 1) := by decide +kernel
theorem dX5_right_29 : decode cX5_right 29 = .ok (.aload_n 0, 1) := by decide +kernel
theorem dX5_right_30 : decode cX5_right 30 = .ok (.getfield 72, 3) := by decide +kernel
theorem dX5_right_33 : decode cX5_right 33 = .ok (.iload_n 1, 1) := by decide +kernel
theorem dX5_right_34 : decode cX5_right 34 = .ok (.iaload, 1) := by decide +kernel
theorem dX5_right_35 : decode cX5_right 35 = .ok (.iconst 2, 1) := by decide +kernel
theorem dX5_right_36 : decode cX5_right 36 = .ok (.if_icmp .eq 12, 3) := by decide +kernel
theorem dX5_right_39 : decode cX5_right 39 = .ok (.aload_n 0, 1) := by decide +kernel
theorem dX5_right_40 : decode cX5_right 40 = .ok (.getfield 39, 3) := by decide +kernel
theorem dX5_right_43 : decode cX5_right 43 = .ok (.iload_n 1, 1) := by decide +kernel
theorem dX5_right_44 : decode cX5_right 44 = .ok (.baload, 1) := by decide +kernel
theorem dX5_right_45 : decode cX5_right 45 = .ok (.ifCond .ne 23, 3) := by decide +kernel
theorem dX5_right_48 : decode cX5_right 48 = .ok (.aload_n 0, 1) := by decide +kernel
theorem dX5_right_49 : decode cX5_right 49 = .ok (.aload_n 0, 1) := by decide +kernel
theorem dX5_right_50 : decode cX5_right 50 = .ok (.getfield 72, 3) := by decide +kernel
theorem dX5_right_53 : decode cX5_right 53 = .ok (.iload_n 1, 1) := by decide +kernel
theorem dX5_right_54 : decode cX5_right 54 = .ok (.iaload, 1) := by decide +kernel
theorem dX5_right_55 : decode cX5_right 55 = .ok (.iconst 2, 1) := by decide +kernel
theorem dX5_right_56 : decode cX5_right 56 = .ok (.if_icmp .ne 7, 3) := by decide +kernel
theorem dX5_right_59 : decode cX5_right 59 = .ok (.iconst 2, 1) := by decide +kernel
theorem dX5_right_60 : decode cX5_right 60 = .ok (.goto 4, 3) := by decide +kernel
theorem dX5_right_63 : decode cX5_right 63 = .ok (.iconst 1, 1) := by decide +kernel
theorem dX5_right_64 : decode cX5_right 64 = .ok (.invokevirtual 85, 3) := by decide +kernel
theorem dX5_right_67 : decode cX5_right 67 = .ok (.ireturn, 1) := by decide +kernel
theorem dX5_right_68 : decode cX5_right 68 = .ok (.aload_n 0, 1) := by decide +kernel
theorem dX5_right_69 : decode cX5_right 69 = .ok (.iload_n 1, 1) := by decide +kernel
theorem dX5_right_70 : decode cX5_right 70 = .ok (.invokevirtual 144, 3) := by decide +kernel
theorem dX5_right_73 : decode cX5_right 73 = .ok (.aload_n 0, 1) := by decide +kernel
theorem dX5_right_74 : decode cX5_right 74 = .ok (.iload_n 1, 1) := by decide +kernel
theorem dX5_right_75 : decode cX5_right 75 = .ok (.invokevirtual 122, 3) := by decide +kernel
theorem dX5_right_78 : decode cX5_right 78 = .ok (.if_icmp .ne 7, 3) := by decide +kernel
theorem dX5_right_81 : decode cX5_right 81 = .ok (.iconst 1, 1) := by decide +kernel
theorem dX5_right_82 : decode cX5_right 82 = .ok (.goto 4, 3) := by decide +kernel
theorem dX5_right_85 : decode cX5_right 85 = .ok (.iconst 0, 1) := by decide +kernel
theorem dX5_right_86 : decode cX5_right 86 = .ok (.ireturn, 1) := by decide +kernel
theorem dX5_same_0 : decode cX5_same 0 = .ok (.aload_n 0, 1) := by decide +kernel
theorem dX5_same_1 : decode cX5_same 1 = .ok (.iconst 0, 1) := by decide +kernel
theorem dX5_same_2 : decode cX5_same 2 = .ok (.putfield 1, 3) := by decide +kernel
theorem dX5_same_5 : decode cX5_same 5 = .ok (.aload_n 0, 1) := by decide +kernel
theorem dX5_same_6 : decode cX5_same 6 = .ok (.iload_n 1, 1) := by decide +kernel
theorem dX5_same_7 : decode cX5_same 7 = .ok (.invokevirtual 81, 3) := by decide +kernel
theorem dX5_same_10 : decode cX5_same 10 = .ok (.ifCond .ne 6, 3) := by decide +kernel
theorem dX5_same_13 : decode cX5_same 13 = .ok (.bipush (-2), 2) := by decide +kernel
theorem dX5_same_15 : decode cX5_same 15 = .ok (.ireturn, 1) := by decide +kernel
theorem dX5_same_16 : decode cX5_same 16 = .ok (.iconst 0, 1) := by decide +kernel
theorem dX5_same_17 : decode cX5_same 17 = .ok (.istore_n 2, 1) := by decide +kernel
theorem dX5_same_18 : decode cX5_same 18 = .ok (.iconst 0, 1) := by decide +kernel
theorem dX5_same_19 : decode cX5_same 19 = .ok (.istore_n 3, 1) := by decide +kernel
theorem dX5_same_20 : decode cX5_same 20 = .ok (.iload_n 3, 1) := by decide +kernel
theorem dX5_same_21 : decode cX5_same 21 = .ok (.ifCond .ne 96, 3) := by decide +kernel
theorem dX5_same_24 : decode cX5_same 24 = .ok (.aload_n 0, 1) := by decide +kernel
theorem dX5_same_25 : decode cX5_same 25 = .ok (.getfield 23, 3) := by decide +kernel
theorem dX5_same_28 : decode cX5_same 28 = .ok (.iload_n 2, 1) := by decide +kernel
theorem dX5_same_29 : decode cX5_same 29 = .ok (.iaload, 1) := by decide +kernel
theorem dX5_same_30 : decode cX5_same 30 = .ok (.aload_n 0, 1) := by decide +kernel
theorem dX5_same_31 : decode cX5_same 31 = .ok (.getfield 23, 3) := by decide +kernel
theorem dX5_same_34 : decode cX5_same 34 = .ok (.iload_n 1, 1) := by decide +kernel
theorem dX5_same_35 : decode cX5_same 35 = .ok (.iaload, 1) := by decide +kernel
theorem dX5_same_36 : decode cX5_same 36 = .ok (.if_icmp .ne 7, 3) := by decide +kernel
theorem dX5_same_39 : decode cX5_same 39 = .ok (.iconst 1, 1) := by decide +kernel
theorem dX5_same_40 : decode cX5_same 40 = .ok (.goto 4, 3) := by decide +kernel
theorem dX5_same_43 : decode cX5_same 43 = .ok (.iconst 0, 1) := by decide +kernel
theorem dX5_same_44 : decode cX5_same 44 = .ok (.istore_n 3, 1) := by decide +kernel
theorem dX5_same_45 : decode cX5_same 45 = .ok (.iconst 0, 1) := by decide +kernel
theorem dX5_same_46 : decode cX5_same 46 = .ok (.istore 4, 2) := by decide +kernel
theorem dX5_same_48 : decode cX5_same 48 = .ok (.iload 4, 2) := by decide +kernel
theorem dX5_same_50 : decode cX5_same 50 = .ok (.aload_n 0, 1) := by decide +kernel
theorem dX5_same_51 : decode cX5_same 51 = .ok (.getfield 23, 3) := by decide +kernel
theorem dX5_same_54 : decode cX5_same 54 = .ok (.iload_n 1, 1) := by decide +kernel
theorem dX5_same_55 : decode cX5_same 55 = .ok (.iaload, 1) := by decide +kernel
theorem dX5_same_56 : decode cX5_same 56 = .ok (.if_icmp .ge 46, 3) := by decide +kernel
theorem dX5_same_59 : decode cX5_same 59 = .ok (.iload_n 3, 1) := by decide +kernel
theorem dX5_same_60 : decode cX5_same 60 = .ok (.ifCond .eq 42, 3) := by decide +kernel
theorem dX5_same_63 : decode cX5_same 63 = .ok (.aload_n 0, 1) := by decide +kernel
theorem dX5_same_64 : decode cX5_same 64 = .ok (.getfield 78, 3) := by decide +kernel
theorem dX5_same_67 : decode cX5_same 67 = .ok (.bipush 16, 2) := by decide +kernel
theorem dX5_same_69 : decode cX5_same 69 = .ok (.iload_n 2, 1) := by decide +kernel
theorem dX5_same_70 : decode cX5_same 70 = .ok (.imul, 1) := by decide +kernel
theorem dX5_same_71 : decode cX5_same 71 = .ok (.iload 4, 2) := by decide +kernel
theorem dX5_same_73 : decode cX5_same 73 = .ok (.iadd, 1) := by decide +kernel
theorem dX5_same_74 : decode cX5_same 74 = .ok (.iaload, 1) := by decide +kernel
theorem dX5_same_75 : decode cX5_same 75 = .ok (.aload_n 0, 1) := by decide +kernel
theorem dX5_same_76 : decode cX5_same 76 = .ok (.getfield 78, 3) := by decide +kernel
theorem dX5_same_79 : decode cX5_same 79 = .ok (.bipush 16, 2) := by decide +kernel
theorem dX5_same_81 : decode cX5_same 81 = .ok (.iload_n 1, 1) := by decide +kernel
theorem dX5_same_82 : decode cX5_same 82 = .ok (.imul, 1) := by decide +kernel
theorem dX5_same_83 : decode cX5_same 83 = .ok (.iload 4, 2) := by decide +kernel
theorem dX5_same_85 : decode cX5_same 85 = .ok (.iadd, 1) := by decide +kernel
theorem dX5_same_86 : decode cX5_same 86 = .ok (.iaload, 1) := by decide +kernel
theorem dX5_same_87 : decode cX5_same 87 = .ok (.if_icmp .ne 7, 3) := by decide +kernel
theorem dX5_same_90 : decode cX5_same 90 = .ok (.iconst 1, 1) := by decide +kernel
theorem dX5_same_91 : decode cX5_same 91 = .ok (.goto 4, 3) := by decide +kernel
theorem dX5_same_94 : decode cX5_same 94 = .ok (.iconst 0, 1) := by decide +kernel
theorem dX5_same_95 : decode cX5_same 95 = .ok (.istore_n 3, 1) := by decide +kernel
theorem dX5_same_96 : decode cX5_same 96 = .ok (.iinc 4 1, 3) := by decide +kernel
theorem dX5_same_99 : decode cX5_same 99 = .ok (.goto (-51), 3) := by decide +kernel
theorem dX5_same_102 : decode cX5_same 102 = .ok (.iload_n 2, 1) := by decide +kernel
theorem dX5_same_103 : decode cX5_same 103 = .ok (.iload_n 3, 1) := by decide +kernel
theorem dX5_same_104 : decode cX5_same 104 = .ok (.ifCond .eq 7, 3) := by decide +kernel
theorem dX5_same_107 : decode cX5_same 107 = .ok (.iconst 0, 1) := by decide +kernel
theorem dX5_same_108 : decode cX5_same 108 = .ok (.goto 4, 3) := by decide +kernel
theorem dX5_same_111 : decode cX5_same 111 = .ok (.iconst 1, 1) := by decide +kernel
theorem dX5_same_112 : decode cX5_same 112 = .ok (.iadd, 1) := by decide +kernel
theorem dX5_same_113 : decode cX5_same 113 = .ok (.istore_n 2, 1) := by decide +kernel
theorem dX5_same_114 : decode cX5_same 114 = .ok (.goto (-94), 3) := by decide +kernel
theorem dX5_same_117 : decode cX5_same 117 = .ok (.iload_n 2, 1) := by decide +kernel
theorem dX5_same_118 : decode cX5_same 118 = .ok (.ireturn, 1) := by decide +kernel
theorem dX5_told_0 : decode cX5_told 0 = .ok (.aload_n 0, 1) := by decide +kernel
theorem dX5_told_1 : decode cX5_told 1 = .ok (.iconst 0, 1) := by decide +kernel
theorem dX5_told_2 : decode cX5_told 2 = .ok (.putfield 1, 3) := by decide +kernel
theorem dX5_told_5 : decode cX5_told 5 = .ok (.iload_n 1, 1) := by decide +kernel
theorem dX5_told_6 : decode cX5_told 6 = .ok (.ifCond .ne 10, 3) := by decide +kernel
theorem dX5_told_9 : decode cX5_told 9 = .ok (.aload_n 0, 1) := by decide +kernel
theorem dX5_told_10 : decode cX5_told 10 = .ok (.getfield 10, 3) := by decide +kernel
theorem dX5_told_13 : decode cX5_told 13 = .ok (.goto 41, 3) := by decide +kernel
theorem dX5_told_16 : decode cX5_told 16 = .ok (.iload_n 1, 1) := by decide +kernel
theorem dX5_told_17 : decode cX5_told 17 = .ok (.iconst 1, 1) := by decide +kernel
theorem dX5_told_18 : decode cX5_told 18 = .ok (.if_icmp .ne 10, 3) := by decide +kernel
theorem dX5_told_21 : decode cX5_told 21 = .ok (.aload_n 0, 1) := by decide +kernel
theorem dX5_told_22 : decode cX5_told 22 = .ok (.getfield 180, 3) := by decide +kernel
theorem dX5_told_25 : decode cX5_told 25 = .ok (.goto 29, 3) := by decide +kernel
theorem dX5_told_28 : decode cX5_told 28 = .ok (.iload_n 1, 1) := by decide +kernel
theorem dX5_told_29 : decode cX5_told 29 = .ok (.iconst 2, 1) := by decide +kernel
theorem dX5_told_30 : decode cX5_told 30 = .ok (.if_icmp .ne 10, 3) := by decide +kernel
theorem dX5_told_33 : decode cX5_told 33 = .ok (.aload_n 0, 1) := by decide +kernel
theorem dX5_told_34 : decode cX5_told 34 = .ok (.getfield 118, 3) := by decide +kernel
theorem dX5_told_37 : decode cX5_told 37 = .ok (.goto 17, 3) := by decide +kernel
theorem dX5_told_40 : decode cX5_told 40 = .ok (.iload_n 1, 1) := by decide +kernel
theorem dX5_told_41 : decode cX5_told 41 = .ok (.iconst 3, 1) := by decide +kernel
theorem dX5_told_42 : decode cX5_told 42 = .ok (.if_icmp .ne 10, 3) := by decide +kernel
theorem dX5_told_45 : decode cX5_told 45 = .ok (.aload_n 0, 1) := by decide +kernel
theorem dX5_told_46 : decode cX5_told 46 = .ok (.getfield 7, 3) := by decide +kernel
theorem dX5_told_49 : decode cX5_told 49 = .ok (.goto 5, 3) := by decide +kernel
theorem dX5_told_52 : decode cX5_told 52 = .ok (.bipush (-3), 2) := by decide +kernel
theorem dX5_told_54 : decode cX5_told 54 = .ok (.ireturn, 1) := by decide +kernel
theorem dX5_init_0 : decode cX5_init 0 = .ok (.aload_n 0, 1) := by decide +kernel
theorem dX5_init_1 : decode cX5_init 1 = .ok (.invokespecial 299, 3) := by decide +kernel
theorem dX5_init_4 : decode cX5_init 4 = .ok (.aload_n 0, 1) := by decide +kernel
theorem dX5_init_5 : decode cX5_init 5 = .ok (.bipush 12, 2) := by decide +kernel
theorem dX5_init_7 : decode cX5_init 7 = .ok (.newarray .int, 2) := by decide +kernel
theorem dX5_init_9 : decode cX5_init 9 = .ok (.putfield 72, 3) := by decide +kernel
theorem dX5_init_12 : decode cX5_init 12 = .ok (.aload_n 0, 1) := by decide +kernel
theorem dX5_init_13 : decode cX5_init 13 = .ok (.bipush 12, 2) := by decide +kernel
theorem dX5_init_15 : decode cX5_init 15 = .ok (.newarray .int, 2) := by decide +kernel
theorem dX5_init_17 : decode cX5_init 17 = .ok (.putfield 75, 3) := by decide +kernel
theorem dX5_init_20 : decode cX5_init 20 = .ok (.aload_n 0, 1) := by decide +kernel
theorem dX5_init_21 : decode cX5_init 21 = .ok (.sipush 192, 3) := by decide +kernel
theorem dX5_init_24 : decode cX5_init 24 = .ok (.newarray .int, 2) := by decide +kernel
theorem dX5_init_26 : decode cX5_init 26 = .ok (.putfield 78, 3) := by decide +kernel
theorem dX5_init_29 : decode cX5_init 29 = .ok (.aload_n 0, 1) := by decide +kernel
theorem dX5_init_30 : decode cX5_init 30 = .ok (.bipush 12, 2) := by decide +kernel
theorem dX5_init_32 : decode cX5_init 32 = .ok (.newarray .int, 2) := by decide +kernel
theorem dX5_init_34 : decode cX5_init 34 = .ok (.putfield 23, 3) := by decide +kernel
theorem dX5_init_37 : decode cX5_init 37 = .ok (.aload_n 0, 1) := by decide +kernel
theorem dX5_init_38 : decode cX5_init 38 = .ok (.bipush 12, 2) := by decide +kernel
theorem dX5_init_40 : decode cX5_init 40 = .ok (.newarray .int, 2) := by decide +kernel
theorem dX5_init_42 : decode cX5_init 42 = .ok (.putfield 27, 3) := by decide +kernel
theorem dX5_init_45 : decode cX5_init 45 = .ok (.aload_n 0, 1) := by decide +kernel
theorem dX5_init_46 : decode cX5_init 46 = .ok (.bipush 12, 2) := by decide +kernel
theorem dX5_init_48 : decode cX5_init 48 = .ok (.newarray .int, 2) := by decide +kernel
theorem dX5_init_50 : decode cX5_init 50 = .ok (.putfield 30, 3) := by decide +kernel
theorem dX5_init_53 : decode cX5_init 53 = .ok (.aload_n 0, 1) := by decide +kernel
theorem dX5_init_54 : decode cX5_init 54 = .ok (.bipush 12, 2) := by decide +kernel
theorem dX5_init_56 : decode cX5_init 56 = .ok (.newarray .int, 2) := by decide +kernel
theorem dX5_init_58 : decode cX5_init 58 = .ok (.putfield 33, 3) := by decide +kernel
theorem dX5_init_61 : decode cX5_init 61 = .ok (.aload_n 0, 1) := by decide +kernel
theorem dX5_init_62 : decode cX5_init 62 = .ok (.bipush 12, 2) := by decide +kernel
theorem dX5_init_64 : decode cX5_init 64 = .ok (.newarray .int, 2) := by decide +kernel
theorem dX5_init_66 : decode cX5_init 66 = .ok (.putfield 36, 3) := by decide +kernel
theorem dX5_init_69 : decode cX5_init 69 = .ok (.aload_n 0, 1) := by decide +kernel
theorem dX5_init_70 : decode cX5_init 70 = .ok (.bipush 36, 2) := by decide +kernel
theorem dX5_init_72 : decode cX5_init 72 = .ok (.newarray .int, 2) := by decide +kernel
theorem dX5_init_74 : decode cX5_init 74 = .ok (.putfield 96, 3) := by decide +kernel
theorem dX5_init_77 : decode cX5_init 77 = .ok (.aload_n 0, 1) := by decide +kernel
theorem dX5_init_78 : decode cX5_init 78 = .ok (.bipush 36, 2) := by decide +kernel
theorem dX5_init_80 : decode cX5_init 80 = .ok (.newarray .int, 2) := by decide +kernel
theorem dX5_init_82 : decode cX5_init 82 = .ok (.putfield 99, 3) := by decide +kernel
theorem dX5_init_85 : decode cX5_init 85 = .ok (.aload_n 0, 1) := by decide +kernel
theorem dX5_init_86 : decode cX5_init 86 = .ok (.sipush 288, 3) := by decide +kernel
theorem dX5_init_89 : decode cX5_init 89 = .ok (.newarray .int, 2) := by decide +kernel
theorem dX5_init_91 : decode cX5_init 91 = .ok (.putfield 102, 3) := by decide +kernel
theorem dX5_init_94 : decode cX5_init 94 = .ok (.aload_n 0, 1) := by decide +kernel
theorem dX5_init_95 : decode cX5_init 95 = .ok (.bipush 12, 2) := by decide +kernel
theorem dX5_init_97 : decode cX5_init 97 = .ok (.newarray .boolean, 2) := by decide +kernel
theorem dX5_init_99 : decode cX5_init 99 = .ok (.putfield 39, 3) := by decide +kernel
theorem dX5_init_102 : decode cX5_init 102 = .ok (.aload_n 0, 1) := by decide +kernel
theorem dX5_init_103 : decode cX5_init 103 = .ok (.bipush 12, 2) := by decide +kernel
theorem dX5_init_105 : decode cX5_init 105 = .ok (.newarray .int, 2) := by decide +kernel
theorem dX5_init_107 : decode cX5_init 107 = .ok (.putfield 43, 3) := by decide +kernel
theorem dX5_init_110 : decode cX5_init 110 = .ok (.aload_n 0, 1) := by decide +kernel
theorem dX5_init_111 : decode cX5_init 111 = .ok (.sipush 480, 3) := by decide +kernel
theorem dX5_init_114 : decode cX5_init 114 = .ok (.newarray .int, 2) := by decide +kernel
theorem dX5_init_116 : decode cX5_init 116 = .ok (.putfield 89, 3) := by decide +kernel
theorem dX5_init_119 : decode cX5_init 119 = .ok (.aload_n 0, 1) := by decide +kernel
theorem dX5_init_120 : decode cX5_init 120 = .ok (.bipush 12, 2) := by decide +kernel
theorem dX5_init_122 : decode cX5_init 122 = .ok (.newarray .int, 2) := by decide +kernel
theorem dX5_init_124 : decode cX5_init 124 = .ok (.putfield 46, 3) := by decide +kernel
theorem dX5_init_127 : decode cX5_init 127 = .ok (.aload_n 0, 1) := by decide +kernel
theorem dX5_init_128 : decode cX5_init 128 = .ok (.bipush 12, 2) := by decide +kernel
theorem dX5_init_130 : decode cX5_init 130 = .ok (.newarray .int, 2) := by decide +kernel
theorem dX5_init_132 : decode cX5_init 132 = .ok (.putfield 49, 3) := by decide +kernel
theorem dX5_init_135 : decode cX5_init 135 = .ok (.aload_n 0, 1) := by decide +kernel
theorem dX5_init_136 : decode cX5_init 136 = .ok (.bipush 12, 2) := by decide +kernel
theorem dX5_init_138 : decode cX5_init 138 = .ok (.newarray .boolean, 2) := by decide +kernel
theorem dX5_init_140 : decode cX5_init 140 = .ok (.putfield 52, 3) := by decide +kernel
theorem dX5_init_143 : decode cX5_init 143 = .ok (.aload_n 0, 1) := by decide +kernel
theorem dX5_init_144 : decode cX5_init 144 = .ok (.bipush 12, 2) := by decide +kernel
theorem dX5_init_146 : decode cX5_init 146 = .ok (.newarray .int, 2) := by decide +kernel
theorem dX5_init_148 : decode cX5_init 148 = .ok (.putfield 55, 3) := by decide +kernel
theorem dX5_init_151 : decode cX5_init 151 = .ok (.aload_n 0, 1) := by decide +kernel
theorem dX5_init_152 : decode cX5_init 152 = .ok (.bipush 12, 2) := by decide +kernel
theorem dX5_init_154 : decode cX5_init 154 = .ok (.newarray .int, 2) := by decide +kernel
theorem dX5_init_156 : decode cX5_init 156 = .ok (.putfield 115, 3) := by decide +kernel
theorem dX5_init_159 : decode cX5_init 159 = .ok (.aload_n 0, 1) := by decide +kernel
theorem dX5_init_160 : decode cX5_init 160 = .ok (.sipush 2100, 3) := by decide +kernel
theorem dX5_init_163 : decode cX5_init 163 = .ok (.newarray .int, 2) := by decide +kernel
theorem dX5_init_165 : decode cX5_init 165 = .ok (.putfield 128, 3) := by decide +kernel
theorem dX5_init_168 : decode cX5_init 168 = .ok (.aload_n 0, 1) := by decide +kernel
theorem dX5_init_169 : decode cX5_init 169 = .ok (.iconst (-1), 1) := by decide +kernel
theorem dX5_init_170 : decode cX5_init 170 = .ok (.putfield 286, 3) := by decide +kernel
theorem dX5_init_173 : decode cX5_init 173 = .ok (.aload_n 0, 1) := by decide +kernel
theorem dX5_init_174 : decode cX5_init 174 = .ok (.bipush 12, 2) := by decide +kernel
theorem dX5_init_176 : decode cX5_init 176 = .ok (.newarray .int, 2) := by decide +kernel
theorem dX5_init_178 : decode cX5_init 178 = .ok (.putfield 216, 3) := by decide +kernel
theorem dX5_init_181 : decode cX5_init 181 = .ok (.aload_n 0, 1) := by decide +kernel
theorem dX5_init_182 : decode cX5_init 182 = .ok (.bipush 12, 2) := by decide +kernel
theorem dX5_init_184 : decode cX5_init 184 = .ok (.newarray .int, 2) := by decide +kernel
theorem dX5_init_186 : decode cX5_init 186 = .ok (.putfield 267, 3) := by decide +kernel
theorem dX5_init_189 : decode cX5_init 189 = .ok (.aload_n 0, 1) := by decide +kernel
theorem dX5_init_190 : decode cX5_init 190 = .ok (.bipush 12, 2) := by decide +kernel
theorem dX5_init_192 : decode cX5_init 192 = .ok (.newarray .int, 2) := by decide +kernel
theorem dX5_init_194 : decode cX5_init 194 = .ok (.putfield 270, 3) := by decide +kernel
theorem dX5_init_197 : decode cX5_init 197 = .ok (.return_, 1) := by decide +kernel
