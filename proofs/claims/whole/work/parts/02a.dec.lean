theorem dX0_init_0 : decode cX0_init 0 = .ok (.aload_n 0, 1) := by decide +kernel
theorem dX0_init_1 : decode cX0_init 1 = .ok (.invokespecial 3, 3) := by decide +kernel
theorem dX0_init_4 : decode cX0_init 4 = .ok (.aload_n 0, 1) := by decide +kernel
theorem dX0_init_5 : decode cX0_init 5 = .ok (.bipush 16, 2) := by decide +kernel
theorem dX0_init_7 : decode cX0_init 7 = .ok (.newarray .byte, 2) := by decide +kernel
theorem dX0_init_9 : decode cX0_init 9 = .ok (.putfield 9, 3) := by decide +kernel
theorem dX0_init_12 : decode cX0_init 12 = .ok (.aload_n 0, 1) := by decide +kernel
theorem dX0_init_13 : decode cX0_init 13 = .ok (.bipush 40, 2) := by decide +kernel
theorem dX0_init_15 : decode cX0_init 15 = .ok (.newarray .byte, 2) := by decide +kernel
theorem dX0_init_17 : decode cX0_init 17 = .ok (.putfield 15, 3) := by decide +kernel
theorem dX0_init_20 : decode cX0_init 20 = .ok (.aload_n 0, 1) := by decide +kernel
theorem dX0_init_21 : decode cX0_init 21 = .ok (.iconst 3, 1) := by decide +kernel
theorem dX0_init_22 : decode cX0_init 22 = .ok (.newarray .int, 2) := by decide +kernel
theorem dX0_init_24 : decode cX0_init 24 = .ok (.putfield 18, 3) := by decide +kernel
theorem dX0_init_27 : decode cX0_init 27 = .ok (.aload_n 0, 1) := by decide +kernel
theorem dX0_init_28 : decode cX0_init 28 = .ok (.iconst 3, 1) := by decide +kernel
theorem dX0_init_29 : decode cX0_init 29 = .ok (.newarray .int, 2) := by decide +kernel
theorem dX0_init_31 : decode cX0_init 31 = .ok (.putfield 22, 3) := by decide +kernel
theorem dX0_init_34 : decode cX0_init 34 = .ok (.aload_n 0, 1) := by decide +kernel
theorem dX0_init_35 : decode cX0_init 35 = .ok (.bipush 24, 2) := by decide +kernel
theorem dX0_init_37 : decode cX0_init 37 = .ok (.newarray .byte, 2) := by decide +kernel
theorem dX0_init_39 : decode cX0_init 39 = .ok (.putfield 25, 3) := by decide +kernel
theorem dX0_init_42 : decode cX0_init 42 = .ok (.aload_n 0, 1) := by decide +kernel
theorem dX0_init_43 : decode cX0_init 43 = .ok (.iconst 0, 1) := by decide +kernel
theorem dX0_init_44 : decode cX0_init 44 = .ok (.putfield 28, 3) := by decide +kernel
theorem dX0_init_47 : decode cX0_init 47 = .ok (.aload_n 0, 1) := by decide +kernel
theorem dX0_init_48 : decode cX0_init 48 = .ok (.iconst 0, 1) := by decide +kernel
theorem dX0_init_49 : decode cX0_init 49 = .ok (.putfield 32, 3) := by decide +kernel
theorem dX0_init_52 : decode cX0_init 52 = .ok (.aload_n 0, 1) := by decide +kernel
theorem dX0_init_53 : decode cX0_init 53 = .ok (.iconst 0, 1) := by decide +kernel
theorem dX0_init_54 : decode cX0_init 54 = .ok (.putfield 35, 3) := by decide +kernel
theorem dX0_init_57 : decode cX0_init 57 = .ok (.aload_n 0, 1) := by decide +kernel
theorem dX0_init_58 : decode cX0_init 58 = .ok (.iconst 0, 1) := by decide +kernel
theorem dX0_init_59 : decode cX0_init 59 = .ok (.putfield 38, 3) := by decide +kernel
theorem dX0_init_62 : decode cX0_init 62 = .ok (.aload_n 0, 1) := by decide +kernel
theorem dX0_init_63 : decode cX0_init 63 = .ok (.iconst 0, 1) := by decide +kernel
theorem dX0_init_64 : decode cX0_init 64 = .ok (.putfield 41, 3) := by decide +kernel
theorem dX0_init_67 : decode cX0_init 67 = .ok (.aload_n 0, 1) := by decide +kernel
theorem dX0_init_68 : decode cX0_init 68 = .ok (.iconst 0, 1) := by decide +kernel
theorem dX0_init_69 : decode cX0_init 69 = .ok (.putfield 44, 3) := by decide +kernel
theorem dX0_init_72 : decode cX0_init 72 = .ok (.aload_n 0, 1) := by decide +kernel
theorem dX0_init_73 : decode cX0_init 73 = .ok (.iconst 0, 1) := by decide +kernel
theorem dX0_init_74 : decode cX0_init 74 = .ok (.putfield 48, 3) := by decide +kernel
theorem dX0_init_77 : decode cX0_init 77 = .ok (.aload_n 0, 1) := by decide +kernel
theorem dX0_init_78 : decode cX0_init 78 = .ok (.iconst 0, 1) := by decide +kernel
theorem dX0_init_79 : decode cX0_init 79 = .ok (.putfield 51, 3) := by decide +kernel
theorem dX0_init_82 : decode cX0_init 82 = .ok (.aload_n 0, 1) := by decide +kernel
theorem dX0_init_83 : decode cX0_init 83 = .ok (.iconst 0, 1) := by decide +kernel
theorem dX0_init_84 : decode cX0_init 84 = .ok (.putfield 54, 3) := by decide +kernel
theorem dX0_init_87 : decode cX0_init 87 = .ok (.aload_n 0, 1) := by decide +kernel
theorem dX0_init_88 : decode cX0_init 88 = .ok (.iconst 0, 1) := by decide +kernel
theorem dX0_init_89 : decode cX0_init 89 = .ok (.putfield 57, 3) := by decide +kernel
theorem dX0_init_92 : decode cX0_init 92 = .ok (.aload_n 0, 1) := by decide +kernel
theorem dX0_init_93 : decode cX0_init 93 = .ok (.iconst 0, 1) := by decide +kernel
theorem dX0_init_94 : decode cX0_init 94 = .ok (.putfield 60, 3) := by decide +kernel
theorem dX0_init_97 : decode cX0_init 97 = .ok (.aload_n 0, 1) := by decide +kernel
theorem dX0_init_98 : decode cX0_init 98 = .ok (.iconst 0, 1) := by decide +kernel
theorem dX0_init_99 : decode cX0_init 99 = .ok (.putfield 63, 3) := by decide +kernel
theorem dX0_init_102 : decode cX0_init 102 = .ok (.aload_n 0, 1) := by decide +kernel
theorem dX0_init_103 : decode cX0_init 103 = .ok (.iconst (-1), 1) := by decide +kernel
theorem dX0_init_104 : decode cX0_init 104 = .ok (.putfield 66, 3) := by decide +kernel
theorem dX0_init_107 : decode cX0_init 107 = .ok (.return_, 1) := by decide +kernel
theorem dX0_begin_0 : decode cX0_begin 0 = .ok (.aload_n 0, 1) := by decide +kernel
theorem dX0_begin_1 : decode cX0_begin 1 = .ok (.iload_n 1, 1) := by decide +kernel
theorem dX0_begin_2 : decode cX0_begin 2 = .ok (.putfield 28, 3) := by decide +kernel
theorem dX0_begin_5 : decode cX0_begin 5 = .ok (.aload_n 0, 1) := by decide +kernel
theorem dX0_begin_6 : decode cX0_begin 6 = .ok (.iload_n 2, 1) := by decide +kernel
theorem dX0_begin_7 : decode cX0_begin 7 = .ok (.putfield 32, 3) := by decide +kernel
theorem dX0_begin_10 : decode cX0_begin 10 = .ok (.aload_n 0, 1) := by decide +kernel
theorem dX0_begin_11 : decode cX0_begin 11 = .ok (.iconst 0, 1) := by decide +kernel
theorem dX0_begin_12 : decode cX0_begin 12 = .ok (.putfield 35, 3) := by decide +kernel
theorem dX0_begin_15 : decode cX0_begin 15 = .ok (.aload_n 0, 1) := by decide +kernel
theorem dX0_begin_16 : decode cX0_begin 16 = .ok (.iconst 0, 1) := by decide +kernel
theorem dX0_begin_17 : decode cX0_begin 17 = .ok (.putfield 38, 3) := by decide +kernel
theorem dX0_begin_20 : decode cX0_begin 20 = .ok (.aload_n 0, 1) := by decide +kernel
theorem dX0_begin_21 : decode cX0_begin 21 = .ok (.iconst 0, 1) := by decide +kernel
theorem dX0_begin_22 : decode cX0_begin 22 = .ok (.putfield 41, 3) := by decide +kernel
theorem dX0_begin_25 : decode cX0_begin 25 = .ok (.aload_n 0, 1) := by decide +kernel
theorem dX0_begin_26 : decode cX0_begin 26 = .ok (.iconst 0, 1) := by decide +kernel
theorem dX0_begin_27 : decode cX0_begin 27 = .ok (.putfield 44, 3) := by decide +kernel
theorem dX0_begin_30 : decode cX0_begin 30 = .ok (.aload_n 0, 1) := by decide +kernel
theorem dX0_begin_31 : decode cX0_begin 31 = .ok (.iconst 0, 1) := by decide +kernel
theorem dX0_begin_32 : decode cX0_begin 32 = .ok (.putfield 48, 3) := by decide +kernel
theorem dX0_begin_35 : decode cX0_begin 35 = .ok (.aload_n 0, 1) := by decide +kernel
theorem dX0_begin_36 : decode cX0_begin 36 = .ok (.iconst 0, 1) := by decide +kernel
theorem dX0_begin_37 : decode cX0_begin 37 = .ok (.putfield 51, 3) := by decide +kernel
theorem dX0_begin_40 : decode cX0_begin 40 = .ok (.aload_n 0, 1) := by decide +kernel
theorem dX0_begin_41 : decode cX0_begin 41 = .ok (.iconst 0, 1) := by decide +kernel
theorem dX0_begin_42 : decode cX0_begin 42 = .ok (.putfield 54, 3) := by decide +kernel
theorem dX0_begin_45 : decode cX0_begin 45 = .ok (.aload_n 0, 1) := by decide +kernel
theorem dX0_begin_46 : decode cX0_begin 46 = .ok (.iconst 0, 1) := by decide +kernel
theorem dX0_begin_47 : decode cX0_begin 47 = .ok (.putfield 57, 3) := by decide +kernel
theorem dX0_begin_50 : decode cX0_begin 50 = .ok (.aload_n 0, 1) := by decide +kernel
theorem dX0_begin_51 : decode cX0_begin 51 = .ok (.iconst 0, 1) := by decide +kernel
theorem dX0_begin_52 : decode cX0_begin 52 = .ok (.putfield 60, 3) := by decide +kernel
theorem dX0_begin_55 : decode cX0_begin 55 = .ok (.aload_n 0, 1) := by decide +kernel
theorem dX0_begin_56 : decode cX0_begin 56 = .ok (.iconst 0, 1) := by decide +kernel
theorem dX0_begin_57 : decode cX0_begin 57 = .ok (.putfield 63, 3) := by decide +kernel
theorem dX0_begin_60 : decode cX0_begin 60 = .ok (.aload_n 0, 1) := by decide +kernel
theorem dX0_begin_61 : decode cX0_begin 61 = .ok (.iconst (-1), 1) := by decide +kernel
theorem dX0_begin_62 : decode cX0_begin 62 = .ok (.putfield 66, 3) := by decide +kernel
theorem dX0_begin_65 : decode cX0_begin 65 = .ok (.iload_n 1, 1) := by decide +kernel
theorem dX0_begin_66 : decode cX0_begin 66 = .ok (.iconst 2, 1) := by decide +kernel
theorem dX0_begin_67 : decode cX0_begin 67 = .ok (.if_icmp .ne 16, 3) := by decide +kernel
theorem dX0_begin_70 : decode cX0_begin 70 = .ok (.aload_n 0, 1) := by decide +kernel
theorem dX0_begin_71 : decode cX0_begin 71 = .ok (.getfield 9, 3) := by decide +kernel
theorem dX0_begin_74 : decode cX0_begin 74 = .ok (.iconst 0, 1) := by decide +kernel
theorem dX0_begin_75 : decode cX0_begin 75 = .ok (.bipush 47, 2) := by decide +kernel
theorem dX0_begin_77 : decode cX0_begin 77 = .ok (.bastore, 1) := by decide +kernel
theorem dX0_begin_78 : decode cX0_begin 78 = .ok (.aload_n 0, 1) := by decide +kernel
theorem dX0_begin_79 : decode cX0_begin 79 = .ok (.iconst 1, 1) := by decide +kernel
theorem dX0_begin_80 : decode cX0_begin 80 = .ok (.putfield 35, 3) := by decide +kernel
theorem dX0_begin_83 : decode cX0_begin 83 = .ok (.return_, 1) := by decide +kernel
theorem dX0_lengthenName_0 : decode cX0_lengthenName 0 = .ok (.aload_n 0, 1) := by decide +kernel
theorem dX0_lengthenName_1 : decode cX0_lengthenName 1 = .ok (.getfield 28, 3) := by decide +kernel
theorem dX0_lengthenName_4 : decode cX0_lengthenName 4 = .ok (.iconst 2, 1) := by decide +kernel
theorem dX0_lengthenName_5 : decode cX0_lengthenName 5 = .ok (.if_icmp .ne 7, 3) := by decide +kernel
theorem dX0_lengthenName_8 : decode cX0_lengthenName 8 = .ok (.iconst 1, 1) := by decide +kernel
theorem dX0_lengthenName_9 : decode cX0_lengthenName 9 = .ok (.goto 4, 3) := by decide +kernel
theorem dX0_lengthenName_12 : decode cX0_lengthenName 12 = .ok (.iconst 0, 1) := by decide +kernel
theorem dX0_lengthenName_13 : decode cX0_lengthenName 13 = .ok (.istore 4, 2) := by decide +kernel
theorem dX0_lengthenName_15 : decode cX0_lengthenName 15 = .ok (.lload_n 1, 1) := by decide +kernel
theorem dX0_lengthenName_16 : decode cX0_lengthenName 16 = .ok (.iload_n 3, 1) := by decide +kernel
theorem dX0_lengthenName_17 : decode cX0_lengthenName 17 = .ok (.aload_n 0, 1) := by decide +kernel
theorem dX0_lengthenName_18 : decode cX0_lengthenName 18 = .ok (.getfield 9, 3) := by decide +kernel
theorem dX0_lengthenName_21 : decode cX0_lengthenName 21 = .ok (.aload_n 0, 1) := by decide +kernel
theorem dX0_lengthenName_22 : decode cX0_lengthenName 22 = .ok (.getfield 35, 3) := by decide +kernel
theorem dX0_lengthenName_25 : decode cX0_lengthenName 25 = .ok (.iload 4, 2) := by decide +kernel
theorem dX0_lengthenName_27 : decode cX0_lengthenName 27 = .ok (.isub, 1) := by decide +kernel
theorem dX0_lengthenName_28 : decode cX0_lengthenName 28 = .ok (.invokestatic 69, 3) := by decide +kernel
theorem dX0_lengthenName_31 : decode cX0_lengthenName 31 = .ok (.aload_n 0, 1) := by decide +kernel
theorem dX0_lengthenName_32 : decode cX0_lengthenName 32 = .ok (.dup, 1) := by decide +kernel
theorem dX0_lengthenName_33 : decode cX0_lengthenName 33 = .ok (.getfield 35, 3) := by decide +kernel
theorem dX0_lengthenName_36 : decode cX0_lengthenName 36 = .ok (.iload_n 3, 1) := by decide +kernel
theorem dX0_lengthenName_37 : decode cX0_lengthenName 37 = .ok (.iadd, 1) := by decide +kernel
theorem dX0_lengthenName_38 : decode cX0_lengthenName 38 = .ok (.putfield 35, 3) := by decide +kernel
theorem dX0_lengthenName_41 : decode cX0_lengthenName 41 = .ok (.iload 4, 2) := by decide +kernel
theorem dX0_lengthenName_43 : decode cX0_lengthenName 43 = .ok (.iconst 1, 1) := by decide +kernel
theorem dX0_lengthenName_44 : decode cX0_lengthenName 44 = .ok (.if_icmp .ne 25, 3) := by decide +kernel
theorem dX0_lengthenName_47 : decode cX0_lengthenName 47 = .ok (.aload_n 0, 1) := by decide +kernel
theorem dX0_lengthenName_48 : decode cX0_lengthenName 48 = .ok (.getfield 35, 3) := by decide +kernel
theorem dX0_lengthenName_51 : decode cX0_lengthenName 51 = .ok (.bipush 16, 2) := by decide +kernel
theorem dX0_lengthenName_53 : decode cX0_lengthenName 53 = .ok (.if_icmp .gt 16, 3) := by decide +kernel
theorem dX0_lengthenName_56 : decode cX0_lengthenName 56 = .ok (.aload_n 0, 1) := by decide +kernel
theorem dX0_lengthenName_57 : decode cX0_lengthenName 57 = .ok (.getfield 9, 3) := by decide +kernel
theorem dX0_lengthenName_60 : decode cX0_lengthenName 60 = .ok (.aload_n 0, 1) := by decide +kernel
theorem dX0_lengthenName_61 : decode cX0_lengthenName 61 = .ok (.getfield 35, 3) := by decide +kernel
theorem dX0_lengthenName_64 : decode cX0_lengthenName 64 = .ok (.iconst 1, 1) := by decide +kernel
theorem dX0_lengthenName_65 : decode cX0_lengthenName 65 = .ok (.isub, 1) := by decide +kernel
theorem dX0_lengthenName_66 : decode cX0_lengthenName 66 = .ok (.bipush 47, 2) := by decide +kernel
theorem dX0_lengthenName_68 : decode cX0_lengthenName 68 = .ok (.bastore, 1) := by decide +kernel
theorem dX0_lengthenName_69 : decode cX0_lengthenName 69 = .ok (.return_, 1) := by decide +kernel
theorem dX0_lacksData_0 : decode cX0_lacksData 0 = .ok (.aload_n 0, 1) := by decide +kernel
theorem dX0_lacksData_1 : decode cX0_lacksData 1 = .ok (.getfield 28, 3) := by decide +kernel
theorem dX0_lacksData_4 : decode cX0_lacksData 4 = .ok (.iconst 2, 1) := by decide +kernel
theorem dX0_lacksData_5 : decode cX0_lacksData 5 = .ok (.if_icmp .eq 14, 3) := by decide +kernel
theorem dX0_lacksData_8 : decode cX0_lacksData 8 = .ok (.aload_n 0, 1) := by decide +kernel
theorem dX0_lacksData_9 : decode cX0_lacksData 9 = .ok (.getfield 44, 3) := by decide +kernel
theorem dX0_lacksData_12 : decode cX0_lacksData 12 = .ok (.ifCond .ne 7, 3) := by decide +kernel
theorem dX0_lacksData_15 : decode cX0_lacksData 15 = .ok (.iconst 1, 1) := by decide +kernel
theorem dX0_lacksData_16 : decode cX0_lacksData 16 = .ok (.goto 4, 3) := by decide +kernel
theorem dX0_lacksData_19 : decode cX0_lacksData 19 = .ok (.iconst 0, 1) := by decide +kernel
theorem dX0_lacksData_20 : decode cX0_lacksData 20 = .ok (.ireturn, 1) := by decide +kernel
theorem dX0_hasNameOf_0 : decode cX0_hasNameOf 0 = .ok (.aload_n 0, 1) := by decide +kernel
theorem dX0_hasNameOf_1 : decode cX0_hasNameOf 1 = .ok (.getfield 35, 3) := by decide +kernel
theorem dX0_hasNameOf_4 : decode cX0_hasNameOf 4 = .ok (.aload_n 1, 1) := by decide +kernel
theorem dX0_hasNameOf_5 : decode cX0_hasNameOf 5 = .ok (.getfield 35, 3) := by decide +kernel
theorem dX0_hasNameOf_8 : decode cX0_hasNameOf 8 = .ok (.if_icmp .eq 5, 3) := by decide +kernel
theorem dX0_hasNameOf_11 : decode cX0_hasNameOf 11 = .ok (.iconst 0, 1) := by decide +kernel
theorem dX0_hasNameOf_12 : decode cX0_hasNameOf 12 = .ok (.ireturn, 1) := by decide +kernel
theorem dX0_hasNameOf_13 : decode cX0_hasNameOf 13 = .ok (.iconst 0, 1) := by decide +kernel
theorem dX0_hasNameOf_14 : decode cX0_hasNameOf 14 = .ok (.istore_n 2, 1) := by decide +kernel
theorem dX0_hasNameOf_15 : decode cX0_hasNameOf 15 = .ok (.iload_n 2, 1) := by decide +kernel
theorem dX0_hasNameOf_16 : decode cX0_hasNameOf 16 = .ok (.aload_n 0, 1) := by decide +kernel
theorem dX0_hasNameOf_17 : decode cX0_hasNameOf 17 = .ok (.getfield 35, 3) := by decide +kernel
theorem dX0_hasNameOf_20 : decode cX0_hasNameOf 20 = .ok (.if_icmp .ge 32, 3) := by decide +kernel
theorem dX0_hasNameOf_23 : decode cX0_hasNameOf 23 = .ok (.iload_n 2, 1) := by decide +kernel
theorem dX0_hasNameOf_24 : decode cX0_hasNameOf 24 = .ok (.bipush 16, 2) := by decide +kernel
theorem dX0_hasNameOf_26 : decode cX0_hasNameOf 26 = .ok (.if_icmp .ge 26, 3) := by decide +kernel
theorem dX0_hasNameOf_29 : decode cX0_hasNameOf 29 = .ok (.aload_n 0, 1) := by decide +kernel
theorem dX0_hasNameOf_30 : decode cX0_hasNameOf 30 = .ok (.getfield 9, 3) := by decide +kernel
theorem dX0_hasNameOf_33 : decode cX0_hasNameOf 33 = .ok (.iload_n 2, 1) := by decide +kernel
theorem dX0_hasNameOf_34 : decode cX0_hasNameOf 34 = .ok (.baload, 1) := by decide +kernel
theorem dX0_hasNameOf_35 : decode cX0_hasNameOf 35 = .ok (.aload_n 1, 1) := by decide +kernel
theorem dX0_hasNameOf_36 : decode cX0_hasNameOf 36 = .ok (.getfield 9, 3) := by decide +kernel
theorem dX0_hasNameOf_39 : decode cX0_hasNameOf 39 = .ok (.iload_n 2, 1) := by decide +kernel
theorem dX0_hasNameOf_40 : decode cX0_hasNameOf 40 = .ok (.baload, 1) := by decide +kernel
theorem dX0_hasNameOf_41 : decode cX0_hasNameOf 41 = .ok (.if_icmp .eq 5, 3) := by decide +kernel
theorem dX0_hasNameOf_44 : decode cX0_hasNameOf 44 = .ok (.iconst 0, 1) := by decide +kernel
theorem dX0_hasNameOf_45 : decode cX0_hasNameOf 45 = .ok (.ireturn, 1) := by decide +kernel
theorem dX0_hasNameOf_46 : decode cX0_hasNameOf 46 = .ok (.iinc 2 1, 3) := by decide +kernel
theorem dX0_hasNameOf_49 : decode cX0_hasNameOf 49 = .ok (.goto (-34), 3) := by decide +kernel
theorem dX0_hasNameOf_52 : decode cX0_hasNameOf 52 = .ok (.iconst 1, 1) := by decide +kernel
theorem dX0_hasNameOf_53 : decode cX0_hasNameOf 53 = .ok (.ireturn, 1) := by decide +kernel
theorem dX0_flags_0 : decode cX0_flags 0 = .ok (.aload_n 0, 1) := by decide +kernel
theorem dX0_flags_1 : decode cX0_flags 1 = .ok (.getfield 32, 3) := by decide +kernel
theorem dX0_flags_4 : decode cX0_flags 4 = .ok (.iconst 1, 1) := by decide +kernel
theorem dX0_flags_5 : decode cX0_flags 5 = .ok (.if_icmp .ne 8, 3) := by decide +kernel
theorem dX0_flags_8 : decode cX0_flags 8 = .ok (.bipush 8, 2) := by decide +kernel
theorem dX0_flags_10 : decode cX0_flags 10 = .ok (.goto 4, 3) := by decide +kernel
theorem dX0_flags_13 : decode cX0_flags 13 = .ok (.iconst 0, 1) := by decide +kernel
theorem dX0_flags_14 : decode cX0_flags 14 = .ok (.ireturn, 1) := by decide +kernel
theorem dX0_method_0 : decode cX0_method 0 = .ok (.aload_n 0, 1) := by decide +kernel
theorem dX0_method_1 : decode cX0_method 1 = .ok (.getfield 28, 3) := by decide +kernel
theorem dX0_method_4 : decode cX0_method 4 = .ok (.iconst 1, 1) := by decide +kernel
theorem dX0_method_5 : decode cX0_method 5 = .ok (.if_icmp .ne 8, 3) := by decide +kernel
theorem dX0_method_8 : decode cX0_method 8 = .ok (.bipush 8, 2) := by decide +kernel
theorem dX0_method_10 : decode cX0_method 10 = .ok (.goto 4, 3) := by decide +kernel
theorem dX0_method_13 : decode cX0_method 13 = .ok (.iconst 0, 1) := by decide +kernel
theorem dX0_method_14 : decode cX0_method 14 = .ok (.ireturn, 1) := by decide +kernel
theorem dX0_trueSize_0 : decode cX0_trueSize 0 = .ok (.aload_n 0, 1) := by decide +kernel
theorem dX0_trueSize_1 : decode cX0_trueSize 1 = .ok (.getfield 28, 3) := by decide +kernel
theorem dX0_trueSize_4 : decode cX0_trueSize 4 = .ok (.iconst 1, 1) := by decide +kernel
theorem dX0_trueSize_5 : decode cX0_trueSize 5 = .ok (.if_icmp .ne 10, 3) := by decide +kernel
theorem dX0_trueSize_8 : decode cX0_trueSize 8 = .ok (.aload_n 0, 1) := by decide +kernel
theorem dX0_trueSize_9 : decode cX0_trueSize 9 = .ok (.getfield 51, 3) := by decide +kernel
theorem dX0_trueSize_12 : decode cX0_trueSize 12 = .ok (.goto 7, 3) := by decide +kernel
theorem dX0_trueSize_15 : decode cX0_trueSize 15 = .ok (.aload_n 0, 1) := by decide +kernel
theorem dX0_trueSize_16 : decode cX0_trueSize 16 = .ok (.getfield 38, 3) := by decide +kernel
theorem dX0_trueSize_19 : decode cX0_trueSize 19 = .ok (.ireturn, 1) := by decide +kernel
theorem dX0_sum_0 : decode cX0_sum 0 = .ok (.aload_n 0, 1) := by decide +kernel
theorem dX0_sum_1 : decode cX0_sum 1 = .ok (.getfield 28, 3) := by decide +kernel
theorem dX0_sum_4 : decode cX0_sum 4 = .ok (.iconst 2, 1) := by decide +kernel
theorem dX0_sum_5 : decode cX0_sum 5 = .ok (.if_icmp .ne 5, 3) := by decide +kernel
theorem dX0_sum_8 : decode cX0_sum 8 = .ok (.iconst 0, 1) := by decide +kernel
theorem dX0_sum_9 : decode cX0_sum 9 = .ok (.ireturn, 1) := by decide +kernel
theorem dX0_sum_10 : decode cX0_sum 10 = .ok (.aload_n 0, 1) := by decide +kernel
theorem dX0_sum_11 : decode cX0_sum 11 = .ok (.getfield 28, 3) := by decide +kernel
theorem dX0_sum_14 : decode cX0_sum 14 = .ok (.iconst 1, 1) := by decide +kernel
theorem dX0_sum_15 : decode cX0_sum 15 = .ok (.if_icmp .eq 10, 3) := by decide +kernel
theorem dX0_sum_18 : decode cX0_sum 18 = .ok (.aload_n 0, 1) := by decide +kernel
theorem dX0_sum_19 : decode cX0_sum 19 = .ok (.getfield 48, 3) := by decide +kernel
theorem dX0_sum_22 : decode cX0_sum 22 = .ok (.ifCond .eq 10, 3) := by decide +kernel
theorem dX0_sum_25 : decode cX0_sum 25 = .ok (.aload_n 0, 1) := by decide +kernel
theorem dX0_sum_26 : decode cX0_sum 26 = .ok (.getfield 54, 3) := by decide +kernel
theorem dX0_sum_29 : decode cX0_sum 29 = .ok (.goto 14, 3) := by decide +kernel
theorem dX0_sum_32 : decode cX0_sum 32 = .ok (.aload_n 0, 1) := by decide +kernel
theorem dX0_sum_33 : decode cX0_sum 33 = .ok (.getfield 15, 3) := by decide +kernel
theorem dX0_sum_36 : decode cX0_sum 36 = .ok (.aload_n 0, 1) := by decide +kernel
theorem dX0_sum_37 : decode cX0_sum 37 = .ok (.getfield 38, 3) := by decide +kernel
theorem dX0_sum_40 : decode cX0_sum 40 = .ok (.invokestatic 73, 3) := by decide +kernel
theorem dX0_sum_43 : decode cX0_sum 43 = .ok (.ireturn, 1) := by decide +kernel
theorem dX0_extraLength_0 : decode cX0_extraLength 0 = .ok (.aload_n 0, 1) := by decide +kernel
theorem dX0_extraLength_1 : decode cX0_extraLength 1 = .ok (.getfield 32, 3) := by decide +kernel
theorem dX0_extraLength_4 : decode cX0_extraLength 4 = .ok (.iconst 2, 1) := by decide +kernel
theorem dX0_extraLength_5 : decode cX0_extraLength 5 = .ok (.if_icmp .ne 8, 3) := by decide +kernel
theorem dX0_extraLength_8 : decode cX0_extraLength 8 = .ok (.bipush 20, 2) := by decide +kernel
theorem dX0_extraLength_10 : decode cX0_extraLength 10 = .ok (.goto 4, 3) := by decide +kernel
theorem dX0_extraLength_13 : decode cX0_extraLength 13 = .ok (.iconst 0, 1) := by decide +kernel
theorem dX0_extraLength_14 : decode cX0_extraLength 14 = .ok (.istore_n 1, 1) := by decide +kernel
theorem dX0_extraLength_15 : decode cX0_extraLength 15 = .ok (.iconst 0, 1) := by decide +kernel
theorem dX0_extraLength_16 : decode cX0_extraLength 16 = .ok (.istore_n 2, 1) := by decide +kernel
theorem dX0_extraLength_17 : decode cX0_extraLength 17 = .ok (.iload_n 2, 1) := by decide +kernel
theorem dX0_extraLength_18 : decode cX0_extraLength 18 = .ok (.aload_n 0, 1) := by decide +kernel
theorem dX0_extraLength_19 : decode cX0_extraLength 19 = .ok (.getfield 41, 3) := by decide +kernel
theorem dX0_extraLength_22 : decode cX0_extraLength 22 = .ok (.if_icmp .ge 25, 3) := by decide +kernel
theorem dX0_extraLength_25 : decode cX0_extraLength 25 = .ok (.iload_n 2, 1) := by decide +kernel
theorem dX0_extraLength_26 : decode cX0_extraLength 26 = .ok (.iconst 3, 1) := by decide +kernel
theorem dX0_extraLength_27 : decode cX0_extraLength 27 = .ok (.if_icmp .ge 20, 3) := by decide +kernel
theorem dX0_extraLength_30 : decode cX0_extraLength 30 = .ok (.iload_n 1, 1) := by decide +kernel
theorem dX0_extraLength_31 : decode cX0_extraLength 31 = .ok (.iconst 4, 1) := by decide +kernel
theorem dX0_extraLength_32 : decode cX0_extraLength 32 = .ok (.aload_n 0, 1) := by decide +kernel
theorem dX0_extraLength_33 : decode cX0_extraLength 33 = .ok (.getfield 22, 3) := by decide +kernel
theorem dX0_extraLength_36 : decode cX0_extraLength 36 = .ok (.iload_n 2, 1) := by decide +kernel
theorem dX0_extraLength_37 : decode cX0_extraLength 37 = .ok (.iaload, 1) := by decide +kernel
theorem dX0_extraLength_38 : decode cX0_extraLength 38 = .ok (.iadd, 1) := by decide +kernel
theorem dX0_extraLength_39 : decode cX0_extraLength 39 = .ok (.iadd, 1) := by decide +kernel
theorem dX0_extraLength_40 : decode cX0_extraLength 40 = .ok (.istore_n 1, 1) := by decide +kernel
theorem dX0_extraLength_41 : decode cX0_extraLength 41 = .ok (.iinc 2 1, 3) := by decide +kernel
theorem dX0_extraLength_44 : decode cX0_extraLength 44 = .ok (.goto (-27), 3) := by decide +kernel
theorem dX0_extraLength_47 : decode cX0_extraLength 47 = .ok (.iload_n 1, 1) := by decide +kernel
theorem dX0_extraLength_48 : decode cX0_extraLength 48 = .ok (.ireturn, 1) := by decide +kernel
theorem dX0_localLength_0 : decode cX0_localLength 0 = .ok (.aload_n 0, 1) := by decide +kernel
theorem dX0_localLength_1 : decode cX0_localLength 1 = .ok (.getfield 32, 3) := by decide +kernel
theorem dX0_localLength_4 : decode cX0_localLength 4 = .ok (.iconst 1, 1) := by decide +kernel
theorem dX0_localLength_5 : decode cX0_localLength 5 = .ok (.if_icmp .ne 8, 3) := by decide +kernel
theorem dX0_localLength_8 : decode cX0_localLength 8 = .ok (.bipush 16, 2) := by decide +kernel
theorem dX0_localLength_10 : decode cX0_localLength 10 = .ok (.goto 4, 3) := by decide +kernel
theorem dX0_localLength_13 : decode cX0_localLength 13 = .ok (.iconst 0, 1) := by decide +kernel
theorem dX0_localLength_14 : decode cX0_localLength 14 = .ok (.istore_n 1, 1) := by decide +kernel
theorem dX0_localLength_15 : decode cX0_localLength 15 = .ok (.bipush 30, 2) := by decide +kernel
theorem dX0_localLength_17 : decode cX0_localLength 17 = .ok (.aload_n 0, 1) := by decide +kernel
theorem dX0_localLength_18 : decode cX0_localLength 18 = .ok (.getfield 35, 3) := by decide +kernel
theorem dX0_localLength_21 : decode cX0_localLength 21 = .ok (.iadd, 1) := by decide +kernel
theorem dX0_localLength_22 : decode cX0_localLength 22 = .ok (.aload_n 0, 1) := by decide +kernel
theorem dX0_localLength_23 : decode cX0_localLength 23 = .ok (.invokevirtual 77, 3) := by decide +kernel
theorem dX0_localLength_26 : decode cX0_localLength 26 = .ok (.iadd, 1) := by decide +kernel
theorem dX0_localLength_27 : decode cX0_localLength 27 = .ok (.aload_n 0, 1) := by decide +kernel
theorem dX0_localLength_28 : decode cX0_localLength 28 = .ok (.getfield 38, 3) := by decide +kernel
theorem dX0_localLength_31 : decode cX0_localLength 31 = .ok (.iadd, 1) := by decide +kernel
theorem dX0_localLength_32 : decode cX0_localLength 32 = .ok (.iload_n 1, 1) := by decide +kernel
theorem dX0_localLength_33 : decode cX0_localLength 33 = .ok (.iadd, 1) := by decide +kernel
theorem dX0_localLength_34 : decode cX0_localLength 34 = .ok (.ireturn, 1) := by decide +kernel
theorem dX0_centreLength_0 : decode cX0_centreLength 0 = .ok (.bipush 46, 2) := by decide +kernel
theorem dX0_centreLength_2 : decode cX0_centreLength 2 = .ok (.aload_n 0, 1) := by decide +kernel
theorem dX0_centreLength_3 : decode cX0_centreLength 3 = .ok (.getfield 35, 3) := by decide +kernel
theorem dX0_centreLength_6 : decode cX0_centreLength 6 = .ok (.iadd, 1) := by decide +kernel
theorem dX0_centreLength_7 : decode cX0_centreLength 7 = .ok (.aload_n 0, 1) := by decide +kernel
theorem dX0_centreLength_8 : decode cX0_centreLength 8 = .ok (.invokevirtual 77, 3) := by decide +kernel
theorem dX0_centreLength_11 : decode cX0_centreLength 11 = .ok (.iadd, 1) := by decide +kernel
theorem dX0_centreLength_12 : decode cX0_centreLength 12 = .ok (.ireturn, 1) := by decide +kernel
theorem dX0_putLocal_0 : decode cX0_putLocal 0 = .ok (.aload_n 0, 1) := by decide +kernel
theorem dX0_putLocal_1 : decode cX0_putLocal 1 = .ok (.aload_n 1, 1) := by decide +kernel
theorem dX0_putLocal_2 : decode cX0_putLocal 2 = .ok (.getfield 81, 3) := by decide +kernel
theorem dX0_putLocal_5 : decode cX0_putLocal 5 = .ok (.putfield 66, 3) := by decide +kernel
theorem dX0_putLocal_8 : decode cX0_putLocal 8 = .ok (.aload_n 1, 1) := by decide +kernel
theorem dX0_putLocal_9 : decode cX0_putLocal 9 = .ok (.ldc2_w 86, 3) := by decide +kernel
theorem dX0_putLocal_12 : decode cX0_putLocal 12 = .ok (.iconst 4, 1) := by decide +kernel
theorem dX0_putLocal_13 : decode cX0_putLocal 13 = .ok (.invokevirtual 88, 3) := by decide +kernel
theorem dX0_putLocal_16 : decode cX0_putLocal 16 = .ok (.aload_n 0, 1) := by decide +kernel
theorem dX0_putLocal_17 : decode cX0_putLocal 17 = .ok (.aload_n 1, 1) := by decide +kernel
theorem dX0_putLocal_18 : decode cX0_putLocal 18 = .ok (.invokevirtual 92, 3) := by decide +kernel
theorem dX0_putLocal_21 : decode cX0_putLocal 21 = .ok (.aload_n 0, 1) := by decide +kernel
theorem dX0_putLocal_22 : decode cX0_putLocal 22 = .ok (.getfield 32, 3) := by decide +kernel
theorem dX0_putLocal_25 : decode cX0_putLocal 25 = .ok (.iconst 1, 1) := by decide +kernel
theorem dX0_putLocal_26 : decode cX0_putLocal 26 = .ok (.if_icmp .ne 19, 3) := by decide +kernel
theorem dX0_putLocal_29 : decode cX0_putLocal 29 = .ok (.aload_n 1, 1) := by decide +kernel
theorem dX0_putLocal_30 : decode cX0_putLocal 30 = .ok (.lconst 0, 1) := by decide +kernel
theorem dX0_putLocal_31 : decode cX0_putLocal 31 = .ok (.iconst 4, 1) := by decide +kernel
theorem dX0_putLocal_32 : decode cX0_putLocal 32 = .ok (.invokevirtual 88, 3) := by decide +kernel
theorem dX0_putLocal_35 : decode cX0_putLocal 35 = .ok (.aload_n 1, 1) := by decide +kernel
theorem dX0_putLocal_36 : decode cX0_putLocal 36 = .ok (.lconst 0, 1) := by decide +kernel
theorem dX0_putLocal_37 : decode cX0_putLocal 37 = .ok (.bipush 8, 2) := by decide +kernel
theorem dX0_putLocal_39 : decode cX0_putLocal 39 = .ok (.invokevirtual 88, 3) := by decide +kernel
theorem dX0_putLocal_42 : decode cX0_putLocal 42 = .ok (.goto 8, 3) := by decide +kernel
theorem dX0_putLocal_45 : decode cX0_putLocal 45 = .ok (.aload_n 0, 1) := by decide +kernel
theorem dX0_putLocal_46 : decode cX0_putLocal 46 = .ok (.aload_n 1, 1) := by decide +kernel
theorem dX0_putLocal_47 : decode cX0_putLocal 47 = .ok (.invokevirtual 96, 3) := by decide +kernel
theorem dX0_putLocal_50 : decode cX0_putLocal 50 = .ok (.aload_n 1, 1) := by decide +kernel
theorem dX0_putLocal_51 : decode cX0_putLocal 51 = .ok (.aload_n 0, 1) := by decide +kernel
theorem dX0_putLocal_52 : decode cX0_putLocal 52 = .ok (.getfield 35, 3) := by decide +kernel
theorem dX0_putLocal_55 : decode cX0_putLocal 55 = .ok (.i2l, 1) := by decide +kernel
theorem dX0_putLocal_56 : decode cX0_putLocal 56 = .ok (.iconst 2, 1) := by decide +kernel
theorem dX0_putLocal_57 : decode cX0_putLocal 57 = .ok (.invokevirtual 88, 3) := by decide +kernel
theorem dX0_putLocal_60 : decode cX0_putLocal 60 = .ok (.aload_n 1, 1) := by decide +kernel
theorem dX0_putLocal_61 : decode cX0_putLocal 61 = .ok (.aload_n 0, 1) := by decide +kernel
theorem dX0_putLocal_62 : decode cX0_putLocal 62 = .ok (.invokevirtual 77, 3) := by decide +kernel
theorem dX0_putLocal_65 : decode cX0_putLocal 65 = .ok (.i2l, 1) := by decide +kernel
theorem dX0_putLocal_66 : decode cX0_putLocal 66 = .ok (.iconst 2, 1) := by decide +kernel
theorem dX0_putLocal_67 : decode cX0_putLocal 67 = .ok (.invokevirtual 88, 3) := by decide +kernel
theorem dX0_putLocal_70 : decode cX0_putLocal 70 = .ok (.aload_n 0, 1) := by decide +kernel
theorem dX0_putLocal_71 : decode cX0_putLocal 71 = .ok (.aload_n 1, 1) := by decide +kernel
theorem dX0_putLocal_72 : decode cX0_putLocal 72 = .ok (.invokevirtual 99, 3) := by decide +kernel
theorem dX0_putLocal_75 : decode cX0_putLocal 75 = .ok (.aload_n 1, 1) := by decide +kernel
theorem dX0_putLocal_76 : decode cX0_putLocal 76 = .ok (.aload_n 0, 1) := by decide +kernel
theorem dX0_putLocal_77 : decode cX0_putLocal 77 = .ok (.getfield 15, 3) := by decide +kernel
theorem dX0_putLocal_80 : decode cX0_putLocal 80 = .ok (.iconst 0, 1) := by decide +kernel
theorem dX0_putLocal_81 : decode cX0_putLocal 81 = .ok (.aload_n 0, 1) := by decide +kernel
theorem dX0_putLocal_82 : decode cX0_putLocal 82 = .ok (.getfield 38, 3) := by decide +kernel
theorem dX0_putLocal_85 : decode cX0_putLocal 85 = .ok (.invokevirtual 102, 3) := by decide +kernel
theorem dX0_putLocal_88 : decode cX0_putLocal 88 = .ok (.aload_n 0, 1) := by decide +kernel
theorem dX0_putLocal_89 : decode cX0_putLocal 89 = .ok (.getfield 32, 3) := by decide +kernel
theorem dX0_putLocal_92 : decode cX0_putLocal 92 = .ok (.iconst 1, 1) := by decide +kernel
theorem dX0_putLocal_93 : decode cX0_putLocal 93 = .ok (.if_icmp .ne 16, 3) := by decide +kernel
theorem dX0_putLocal_96 : decode cX0_putLocal 96 = .ok (.aload_n 1, 1) := by decide +kernel
theorem dX0_putLocal_97 : decode cX0_putLocal 97 = .ok (.ldc2_w 106, 3) := by decide +kernel
theorem dX0_putLocal_100 : decode cX0_putLocal 100 = .ok (.iconst 4, 1) := by decide +kernel
theorem dX0_putLocal_101 : decode cX0_putLocal 101 = .ok (.invokevirtual 88, 3) := by decide +kernel
theorem dX0_putLocal_104 : decode cX0_putLocal 104 = .ok (.aload_n 0, 1) := by decide +kernel
theorem dX0_putLocal_105 : decode cX0_putLocal 105 = .ok (.aload_n 1, 1) := by decide +kernel
theorem dX0_putLocal_106 : decode cX0_putLocal 106 = .ok (.invokevirtual 96, 3) := by decide +kernel
theorem dX0_putLocal_109 : decode cX0_putLocal 109 = .ok (.return_, 1) := by decide +kernel
theorem dX0_putCentre_0 : decode cX0_putCentre 0 = .ok (.aload_n 1, 1) := by decide +kernel
theorem dX0_putCentre_1 : decode cX0_putCentre 1 = .ok (.ldc2_w 108, 3) := by decide +kernel
theorem dX0_putCentre_4 : decode cX0_putCentre 4 = .ok (.iconst 4, 1) := by decide +kernel
theorem dX0_putCentre_5 : decode cX0_putCentre 5 = .ok (.invokevirtual 88, 3) := by decide +kernel
theorem dX0_putCentre_8 : decode cX0_putCentre 8 = .ok (.aload_n 1, 1) := by decide +kernel
theorem dX0_putCentre_9 : decode cX0_putCentre 9 = .ok (.ldc2_w 110, 3) := by decide +kernel
theorem dX0_putCentre_12 : decode cX0_putCentre 12 = .ok (.iconst 2, 1) := by decide +kernel
theorem dX0_putCentre_13 : decode cX0_putCentre 13 = .ok (.invokevirtual 88, 3) := by decide +kernel
theorem dX0_putCentre_16 : decode cX0_putCentre 16 = .ok (.aload_n 0, 1) := by decide +kernel
theorem dX0_putCentre_17 : decode cX0_putCentre 17 = .ok (.aload_n 1, 1) := by decide +kernel
theorem dX0_putCentre_18 : decode cX0_putCentre 18 = .ok (.invokevirtual 92, 3) := by decide +kernel
theorem dX0_putCentre_21 : decode cX0_putCentre 21 = .ok (.aload_n 0, 1) := by decide +kernel
theorem dX0_putCentre_22 : decode cX0_putCentre 22 = .ok (.aload_n 1, 1) := by decide +kernel
theorem dX0_putCentre_23 : decode cX0_putCentre 23 = .ok (.invokevirtual 96, 3) := by decide +kernel
theorem dX0_putCentre_26 : decode cX0_putCentre 26 = .ok (.aload_n 1, 1) := by decide +kernel
theorem dX0_putCentre_27 : decode cX0_putCentre 27 = .ok (.aload_n 0, 1) := by decide +kernel
theorem dX0_putCentre_28 : decode cX0_putCentre 28 = .ok (.getfield 35, 3) := by decide +kernel
theorem dX0_putCentre_31 : decode cX0_putCentre 31 = .ok (.i2l, 1) := by decide +kernel
theorem dX0_putCentre_32 : decode cX0_putCentre 32 = .ok (.iconst 2, 1) := by decide +kernel
theorem dX0_putCentre_33 : decode cX0_putCentre 33 = .ok (.invokevirtual 88, 3) := by decide +kernel
theorem dX0_putCentre_36 : decode cX0_putCentre 36 = .ok (.aload_n 1, 1) := by decide +kernel
theorem dX0_putCentre_37 : decode cX0_putCentre 37 = .ok (.aload_n 0, 1) := by decide +kernel
theorem dX0_putCentre_38 : decode cX0_putCentre 38 = .ok (.invokevirtual 77, 3) := by decide +kernel
theorem dX0_putCentre_41 : decode cX0_putCentre 41 = .ok (.i2l, 1) := by decide +kernel
theorem dX0_putCentre_42 : decode cX0_putCentre 42 = .ok (.iconst 2, 1) := by decide +kernel
theorem dX0_putCentre_43 : decode cX0_putCentre 43 = .ok (.invokevirtual 88, 3) := by decide +kernel
theorem dX0_putCentre_46 : decode cX0_putCentre 46 = .ok (.aload_n 1, 1) := by decide +kernel
theorem dX0_putCentre_47 : decode cX0_putCentre 47 = .ok (.lconst 0, 1) := by decide +kernel
theorem dX0_putCentre_48 : decode cX0_putCentre 48 = .ok (.bipush 6, 2) := by decide +kernel
theorem dX0_putCentre_50 : decode cX0_putCentre 50 = .ok (.invokevirtual 88, 3) := by decide +kernel
theorem dX0_putCentre_53 : decode cX0_putCentre 53 = .ok (.aload_n 1, 1) := by decide +kernel
theorem dX0_putCentre_54 : decode cX0_putCentre 54 = .ok (.aload_n 0, 1) := by decide +kernel
theorem dX0_putCentre_55 : decode cX0_putCentre 55 = .ok (.getfield 63, 3) := by decide +kernel
theorem dX0_putCentre_58 : decode cX0_putCentre 58 = .ok (.i2l, 1) := by decide +kernel
theorem dX0_putCentre_59 : decode cX0_putCentre 59 = .ok (.iconst 4, 1) := by decide +kernel
theorem dX0_putCentre_60 : decode cX0_putCentre 60 = .ok (.invokevirtual 88, 3) := by decide +kernel
theorem dX0_putCentre_63 : decode cX0_putCentre 63 = .ok (.aload_n 1, 1) := by decide +kernel
theorem dX0_putCentre_64 : decode cX0_putCentre 64 = .ok (.aload_n 0, 1) := by decide +kernel
theorem dX0_putCentre_65 : decode cX0_putCentre 65 = .ok (.getfield 66, 3) := by decide +kernel
theorem dX0_putCentre_68 : decode cX0_putCentre 68 = .ok (.i2l, 1) := by decide +kernel
theorem dX0_putCentre_69 : decode cX0_putCentre 69 = .ok (.iconst 4, 1) := by decide +kernel
theorem dX0_putCentre_70 : decode cX0_putCentre 70 = .ok (.invokevirtual 88, 3) := by decide +kernel
theorem dX0_putCentre_73 : decode cX0_putCentre 73 = .ok (.aload_n 0, 1) := by decide +kernel
theorem dX0_putCentre_74 : decode cX0_putCentre 74 = .ok (.aload_n 1, 1) := by decide +kernel
theorem dX0_putCentre_75 : decode cX0_putCentre 75 = .ok (.invokevirtual 99, 3) := by decide +kernel
theorem dX0_putCentre_78 : decode cX0_putCentre 78 = .ok (.return_, 1) := by decide +kernel
theorem dX0_putKindOfRow_0 : decode cX0_putKindOfRow 0 = .ok (.aload_n 1, 1) := by decide +kernel
theorem dX0_putKindOfRow_1 : decode cX0_putKindOfRow 1 = .ok (.aload_n 0, 1) := by decide +kernel
theorem dX0_putKindOfRow_2 : decode cX0_putKindOfRow 2 = .ok (.getfield 32, 3) := by decide +kernel
theorem dX0_putKindOfRow_5 : decode cX0_putKindOfRow 5 = .ok (.iconst 2, 1) := by decide +kernel
theorem dX0_putKindOfRow_6 : decode cX0_putKindOfRow 6 = .ok (.if_icmp .ne 9, 3) := by decide +kernel
theorem dX0_putKindOfRow_9 : decode cX0_putKindOfRow 9 = .ok (.ldc2_w 112, 3) := by decide +kernel
theorem dX0_putKindOfRow_12 : decode cX0_putKindOfRow 12 = .ok (.goto 6, 3) := by decide +kernel
theorem dX0_putKindOfRow_15 : decode cX0_putKindOfRow 15 = .ok (.ldc2_w 110, 3) := by decide +kernel
theorem dX0_putKindOfRow_18 : decode cX0_putKindOfRow 18 = .ok (.iconst 2, 1) := by decide +kernel
theorem dX0_putKindOfRow_19 : decode cX0_putKindOfRow 19 = .ok (.invokevirtual 88, 3) := by decide +kernel
theorem dX0_putKindOfRow_22 : decode cX0_putKindOfRow 22 = .ok (.aload_n 1, 1) := by decide +kernel
theorem dX0_putKindOfRow_23 : decode cX0_putKindOfRow 23 = .ok (.aload_n 0, 1) := by decide +kernel
theorem dX0_putKindOfRow_24 : decode cX0_putKindOfRow 24 = .ok (.invokevirtual 114, 3) := by decide +kernel
theorem dX0_putKindOfRow_27 : decode cX0_putKindOfRow 27 = .ok (.i2l, 1) := by decide +kernel
theorem dX0_putKindOfRow_28 : decode cX0_putKindOfRow 28 = .ok (.iconst 2, 1) := by decide +kernel
theorem dX0_putKindOfRow_29 : decode cX0_putKindOfRow 29 = .ok (.invokevirtual 88, 3) := by decide +kernel
theorem dX0_putKindOfRow_32 : decode cX0_putKindOfRow 32 = .ok (.aload_n 1, 1) := by decide +kernel
theorem dX0_putKindOfRow_33 : decode cX0_putKindOfRow 33 = .ok (.aload_n 0, 1) := by decide +kernel
theorem dX0_putKindOfRow_34 : decode cX0_putKindOfRow 34 = .ok (.invokevirtual 117, 3) := by decide +kernel
theorem dX0_putKindOfRow_37 : decode cX0_putKindOfRow 37 = .ok (.i2l, 1) := by decide +kernel
theorem dX0_putKindOfRow_38 : decode cX0_putKindOfRow 38 = .ok (.iconst 2, 1) := by decide +kernel
theorem dX0_putKindOfRow_39 : decode cX0_putKindOfRow 39 = .ok (.invokevirtual 88, 3) := by decide +kernel
theorem dX0_putKindOfRow_42 : decode cX0_putKindOfRow 42 = .ok (.aload_n 1, 1) := by decide +kernel
theorem dX0_putKindOfRow_43 : decode cX0_putKindOfRow 43 = .ok (.aload_n 0, 1) := by decide +kernel
theorem dX0_putKindOfRow_44 : decode cX0_putKindOfRow 44 = .ok (.getfield 57, 3) := by decide +kernel
theorem dX0_putKindOfRow_47 : decode cX0_putKindOfRow 47 = .ok (.i2l, 1) := by decide +kernel
theorem dX0_putKindOfRow_48 : decode cX0_putKindOfRow 48 = .ok (.iconst 2, 1) := by decide +kernel
theorem dX0_putKindOfRow_49 : decode cX0_putKindOfRow 49 = .ok (.invokevirtual 88, 3) := by decide +kernel
theorem dX0_putKindOfRow_52 : decode cX0_putKindOfRow 52 = .ok (.aload_n 1, 1) := by decide +kernel
theorem dX0_putKindOfRow_53 : decode cX0_putKindOfRow 53 = .ok (.aload_n 0, 1) := by decide +kernel
theorem dX0_putKindOfRow_54 : decode cX0_putKindOfRow 54 = .ok (.getfield 60, 3) := by decide +kernel
theorem dX0_putKindOfRow_57 : decode cX0_putKindOfRow 57 = .ok (.i2l, 1) := by decide +kernel
theorem dX0_putKindOfRow_58 : decode cX0_putKindOfRow 58 = .ok (.iconst 2, 1) := by decide +kernel
theorem dX0_putKindOfRow_59 : decode cX0_putKindOfRow 59 = .ok (.invokevirtual 88, 3) := by decide +kernel
theorem dX0_putKindOfRow_62 : decode cX0_putKindOfRow 62 = .ok (.return_, 1) := by decide +kernel
theorem dX0_putSumAndSizes_0 : decode cX0_putSumAndSizes 0 = .ok (.aload_n 1, 1) := by decide +kernel
theorem dX0_putSumAndSizes_1 : decode cX0_putSumAndSizes 1 = .ok (.aload_n 0, 1) := by decide +kernel
theorem dX0_putSumAndSizes_2 : decode cX0_putSumAndSizes 2 = .ok (.invokevirtual 120, 3) := by decide +kernel
theorem dX0_putSumAndSizes_5 : decode cX0_putSumAndSizes 5 = .ok (.i2l, 1) := by decide +kernel
theorem dX0_putSumAndSizes_6 : decode cX0_putSumAndSizes 6 = .ok (.iconst 4, 1) := by decide +kernel
theorem dX0_putSumAndSizes_7 : decode cX0_putSumAndSizes 7 = .ok (.invokevirtual 88, 3) := by decide +kernel
theorem dX0_putSumAndSizes_10 : decode cX0_putSumAndSizes 10 = .ok (.aload_n 1, 1) := by decide +kernel
theorem dX0_putSumAndSizes_11 : decode cX0_putSumAndSizes 11 = .ok (.aload_n 0, 1) := by decide +kernel
theorem dX0_putSumAndSizes_12 : decode cX0_putSumAndSizes 12 = .ok (.getfield 32, 3) := by decide +kernel
theorem dX0_putSumAndSizes_15 : decode cX0_putSumAndSizes 15 = .ok (.iconst 2, 1) := by decide +kernel
theorem dX0_putSumAndSizes_16 : decode cX0_putSumAndSizes 16 = .ok (.if_icmp .ne 9, 3) := by decide +kernel
theorem dX0_putSumAndSizes_19 : decode cX0_putSumAndSizes 19 = .ok (.ldc2_w 123, 3) := by decide +kernel
theorem dX0_putSumAndSizes_22 : decode cX0_putSumAndSizes 22 = .ok (.goto 8, 3) := by decide +kernel
theorem dX0_putSumAndSizes_25 : decode cX0_putSumAndSizes 25 = .ok (.aload_n 0, 1) := by decide +kernel
theorem dX0_putSumAndSizes_26 : decode cX0_putSumAndSizes 26 = .ok (.getfield 38, 3) := by decide +kernel
theorem dX0_putSumAndSizes_29 : decode cX0_putSumAndSizes 29 = .ok (.i2l, 1) := by decide +kernel
theorem dX0_putSumAndSizes_30 : decode cX0_putSumAndSizes 30 = .ok (.iconst 4, 1) := by decide +kernel
theorem dX0_putSumAndSizes_31 : decode cX0_putSumAndSizes 31 = .ok (.invokevirtual 88, 3) := by decide +kernel
theorem dX0_putSumAndSizes_34 : decode cX0_putSumAndSizes 34 = .ok (.aload_n 1, 1) := by decide +kernel
theorem dX0_putSumAndSizes_35 : decode cX0_putSumAndSizes 35 = .ok (.aload_n 0, 1) := by decide +kernel
theorem dX0_putSumAndSizes_36 : decode cX0_putSumAndSizes 36 = .ok (.getfield 32, 3) := by decide +kernel
theorem dX0_putSumAndSizes_39 : decode cX0_putSumAndSizes 39 = .ok (.iconst 2, 1) := by decide +kernel
theorem dX0_putSumAndSizes_40 : decode cX0_putSumAndSizes 40 = .ok (.if_icmp .ne 9, 3) := by decide +kernel
theorem dX0_putSumAndSizes_43 : decode cX0_putSumAndSizes 43 = .ok (.ldc2_w 123, 3) := by decide +kernel
theorem dX0_putSumAndSizes_46 : decode cX0_putSumAndSizes 46 = .ok (.goto 8, 3) := by decide +kernel
theorem dX0_putSumAndSizes_49 : decode cX0_putSumAndSizes 49 = .ok (.aload_n 0, 1) := by decide +kernel
theorem dX0_putSumAndSizes_50 : decode cX0_putSumAndSizes 50 = .ok (.invokevirtual 125, 3) := by decide +kernel
theorem dX0_putSumAndSizes_53 : decode cX0_putSumAndSizes 53 = .ok (.i2l, 1) := by decide +kernel
theorem dX0_putSumAndSizes_54 : decode cX0_putSumAndSizes 54 = .ok (.iconst 4, 1) := by decide +kernel
theorem dX0_putSumAndSizes_55 : decode cX0_putSumAndSizes 55 = .ok (.invokevirtual 88, 3) := by decide +kernel
theorem dX0_putSumAndSizes_58 : decode cX0_putSumAndSizes 58 = .ok (.return_, 1) := by decide +kernel
theorem dX0_putNameAndExtra_0 : decode cX0_putNameAndExtra 0 = .ok (.aload_n 1, 1) := by decide +kernel
theorem dX0_putNameAndExtra_1 : decode cX0_putNameAndExtra 1 = .ok (.aload_n 0, 1) := by decide +kernel
theorem dX0_putNameAndExtra_2 : decode cX0_putNameAndExtra 2 = .ok (.getfield 9, 3) := by decide +kernel
theorem dX0_putNameAndExtra_5 : decode cX0_putNameAndExtra 5 = .ok (.iconst 0, 1) := by decide +kernel
theorem dX0_putNameAndExtra_6 : decode cX0_putNameAndExtra 6 = .ok (.aload_n 0, 1) := by decide +kernel
theorem dX0_putNameAndExtra_7 : decode cX0_putNameAndExtra 7 = .ok (.getfield 35, 3) := by decide +kernel
theorem dX0_putNameAndExtra_10 : decode cX0_putNameAndExtra 10 = .ok (.invokevirtual 102, 3) := by decide +kernel
theorem dX0_putNameAndExtra_13 : decode cX0_putNameAndExtra 13 = .ok (.aload_n 0, 1) := by decide +kernel
theorem dX0_putNameAndExtra_14 : decode cX0_putNameAndExtra 14 = .ok (.getfield 32, 3) := by decide +kernel
theorem dX0_putNameAndExtra_17 : decode cX0_putNameAndExtra 17 = .ok (.iconst 2, 1) := by decide +kernel
theorem dX0_putNameAndExtra_18 : decode cX0_putNameAndExtra 18 = .ok (.if_icmp .ne 39, 3) := by decide +kernel
theorem dX0_putNameAndExtra_21 : decode cX0_putNameAndExtra 21 = .ok (.aload_n 1, 1) := by decide +kernel
theorem dX0_putNameAndExtra_22 : decode cX0_putNameAndExtra 22 = .ok (.lconst 1, 1) := by decide +kernel
theorem dX0_putNameAndExtra_23 : decode cX0_putNameAndExtra 23 = .ok (.iconst 2, 1) := by decide +kernel
theorem dX0_putNameAndExtra_24 : decode cX0_putNameAndExtra 24 = .ok (.invokevirtual 88, 3) := by decide +kernel
theorem dX0_putNameAndExtra_27 : decode cX0_putNameAndExtra 27 = .ok (.aload_n 1, 1) := by decide +kernel
theorem dX0_putNameAndExtra_28 : decode cX0_putNameAndExtra 28 = .ok (.ldc2_w 128, 3) := by decide +kernel
theorem dX0_putNameAndExtra_31 : decode cX0_putNameAndExtra 31 = .ok (.iconst 2, 1) := by decide +kernel
theorem dX0_putNameAndExtra_32 : decode cX0_putNameAndExtra 32 = .ok (.invokevirtual 88, 3) := by decide +kernel
theorem dX0_putNameAndExtra_35 : decode cX0_putNameAndExtra 35 = .ok (.aload_n 1, 1) := by decide +kernel
theorem dX0_putNameAndExtra_36 : decode cX0_putNameAndExtra 36 = .ok (.aload_n 0, 1) := by decide +kernel
theorem dX0_putNameAndExtra_37 : decode cX0_putNameAndExtra 37 = .ok (.invokevirtual 125, 3) := by decide +kernel
theorem dX0_putNameAndExtra_40 : decode cX0_putNameAndExtra 40 = .ok (.i2l, 1) := by decide +kernel
theorem dX0_putNameAndExtra_41 : decode cX0_putNameAndExtra 41 = .ok (.bipush 8, 2) := by decide +kernel
theorem dX0_putNameAndExtra_43 : decode cX0_putNameAndExtra 43 = .ok (.invokevirtual 88, 3) := by decide +kernel
theorem dX0_putNameAndExtra_46 : decode cX0_putNameAndExtra 46 = .ok (.aload_n 1, 1) := by decide +kernel
theorem dX0_putNameAndExtra_47 : decode cX0_putNameAndExtra 47 = .ok (.aload_n 0, 1) := by decide +kernel
theorem dX0_putNameAndExtra_48 : decode cX0_putNameAndExtra 48 = .ok (.getfield 38, 3) := by decide +kernel
theorem dX0_putNameAndExtra_51 : decode cX0_putNameAndExtra 51 = .ok (.i2l, 1) := by decide +kernel
theorem dX0_putNameAndExtra_52 : decode cX0_putNameAndExtra 52 = .ok (.bipush 8, 2) := by decide +kernel
theorem dX0_putNameAndExtra_54 : decode cX0_putNameAndExtra 54 = .ok (.invokevirtual 88, 3) := by decide +kernel
theorem dX0_putNameAndExtra_57 : decode cX0_putNameAndExtra 57 = .ok (.iconst 0, 1) := by decide +kernel
theorem dX0_putNameAndExtra_58 : decode cX0_putNameAndExtra 58 = .ok (.istore_n 2, 1) := by decide +kernel
theorem dX0_putNameAndExtra_59 : decode cX0_putNameAndExtra 59 = .ok (.iload_n 2, 1) := by decide +kernel
theorem dX0_putNameAndExtra_60 : decode cX0_putNameAndExtra 60 = .ok (.aload_n 0, 1) := by decide +kernel
theorem dX0_putNameAndExtra_61 : decode cX0_putNameAndExtra 61 = .ok (.getfield 41, 3) := by decide +kernel
theorem dX0_putNameAndExtra_64 : decode cX0_putNameAndExtra 64 = .ok (.if_icmp .ge 56, 3) := by decide +kernel
theorem dX0_putNameAndExtra_67 : decode cX0_putNameAndExtra 67 = .ok (.iload_n 2, 1) := by decide +kernel
theorem dX0_putNameAndExtra_68 : decode cX0_putNameAndExtra 68 = .ok (.iconst 3, 1) := by decide +kernel
theorem dX0_putNameAndExtra_69 : decode cX0_putNameAndExtra 69 = .ok (.if_icmp .ge 51, 3) := by decide +kernel
theorem dX0_putNameAndExtra_72 : decode cX0_putNameAndExtra 72 = .ok (.aload_n 1, 1) := by decide +kernel
theorem dX0_putNameAndExtra_73 : decode cX0_putNameAndExtra 73 = .ok (.aload_n 0, 1) := by decide +kernel
theorem dX0_putNameAndExtra_74 : decode cX0_putNameAndExtra 74 = .ok (.getfield 18, 3) := by decide +kernel
theorem dX0_putNameAndExtra_77 : decode cX0_putNameAndExtra 77 = .ok (.iload_n 2, 1) := by decide +kernel
theorem dX0_putNameAndExtra_78 : decode cX0_putNameAndExtra 78 = .ok (.iaload, 1) := by decide +kernel
theorem dX0_putNameAndExtra_79 : decode cX0_putNameAndExtra 79 = .ok (.i2l, 1) := by decide +kernel
theorem dX0_putNameAndExtra_80 : decode cX0_putNameAndExtra 80 = .ok (.iconst 2, 1) := by decide +kernel
theorem dX0_putNameAndExtra_81 : decode cX0_putNameAndExtra 81 = .ok (.invokevirtual 88, 3) := by decide +kernel
theorem dX0_putNameAndExtra_84 : decode cX0_putNameAndExtra 84 = .ok (.aload_n 1, 1) := by decide +kernel
theorem dX0_putNameAndExtra_85 : decode cX0_putNameAndExtra 85 = .ok (.aload_n 0, 1) := by decide +kernel
theorem dX0_putNameAndExtra_86 : decode cX0_putNameAndExtra 86 = .ok (.getfield 22, 3) := by decide +kernel
theorem dX0_putNameAndExtra_89 : decode cX0_putNameAndExtra 89 = .ok (.iload_n 2, 1) := by decide +kernel
theorem dX0_putNameAndExtra_90 : decode cX0_putNameAndExtra 90 = .ok (.iaload, 1) := by decide +kernel
theorem dX0_putNameAndExtra_91 : decode cX0_putNameAndExtra 91 = .ok (.i2l, 1) := by decide +kernel
theorem dX0_putNameAndExtra_92 : decode cX0_putNameAndExtra 92 = .ok (.iconst 2, 1) := by decide +kernel
theorem dX0_putNameAndExtra_93 : decode cX0_putNameAndExtra 93 = .ok (.invokevirtual 88, 3) := by decide +kernel
theorem dX0_putNameAndExtra_96 : decode cX0_putNameAndExtra 96 = .ok (.aload_n 1, 1) := by decide +kernel
theorem dX0_putNameAndExtra_97 : decode cX0_putNameAndExtra 97 = .ok (.aload_n 0, 1) := by decide +kernel
theorem dX0_putNameAndExtra_98 : decode cX0_putNameAndExtra 98 = .ok (.getfield 25, 3) := by decide +kernel
theorem dX0_putNameAndExtra_101 : decode cX0_putNameAndExtra 101 = .ok (.iload_n 2, 1) := by decide +kernel
theorem dX0_putNameAndExtra_102 : decode cX0_putNameAndExtra 102 = .ok (.bipush 8, 2) := by decide +kernel
theorem dX0_putNameAndExtra_104 : decode cX0_putNameAndExtra 104 = .ok (.imul, 1) := by decide +kernel
theorem dX0_putNameAndExtra_105 : decode cX0_putNameAndExtra 105 = .ok (.aload_n 0, 1) := by decide +kernel
theorem dX0_putNameAndExtra_106 : decode cX0_putNameAndExtra 106 = .ok (.getfield 22, 3) := by decide +kernel
theorem dX0_putNameAndExtra_109 : decode cX0_putNameAndExtra 109 = .ok (.iload_n 2, 1) := by decide +kernel
theorem dX0_putNameAndExtra_110 : decode cX0_putNameAndExtra 110 = .ok (.iaload, 1) := by decide +kernel
theorem dX0_putNameAndExtra_111 : decode cX0_putNameAndExtra 111 = .ok (.invokevirtual 102, 3) := by decide +kernel
theorem dX0_putNameAndExtra_114 : decode cX0_putNameAndExtra 114 = .ok (.iinc 2 1, 3) := by decide +kernel
theorem dX0_putNameAndExtra_117 : decode cX0_putNameAndExtra 117 = .ok (.goto (-58), 3) := by decide +kernel
theorem dX0_putNameAndExtra_120 : decode cX0_putNameAndExtra 120 = .ok (.return_, 1) := by decide +kernel
theorem dX0_takeFrom_0 : decode cX0_takeFrom 0 = .ok (.aload_n 0, 1) := by decide +kernel
theorem dX0_takeFrom_1 : decode cX0_takeFrom 1 = .ok (.aload_n 1, 1) := by decide +kernel
theorem dX0_takeFrom_2 : decode cX0_takeFrom 2 = .ok (.invokevirtual 130, 3) := by decide +kernel
theorem dX0_takeFrom_5 : decode cX0_takeFrom 5 = .ok (.aload_n 1, 1) := by decide +kernel
theorem dX0_takeFrom_6 : decode cX0_takeFrom 6 = .ok (.invokevirtual 134, 3) := by decide +kernel
theorem dX0_takeFrom_9 : decode cX0_takeFrom 9 = .ok (.invokevirtual 136, 3) := by decide +kernel
theorem dX0_takeFrom_12 : decode cX0_takeFrom 12 = .ok (.aload_n 0, 1) := by decide +kernel
theorem dX0_takeFrom_13 : decode cX0_takeFrom 13 = .ok (.aload_n 1, 1) := by decide +kernel
theorem dX0_takeFrom_14 : decode cX0_takeFrom 14 = .ok (.getfield 140, 3) := by decide +kernel
theorem dX0_takeFrom_17 : decode cX0_takeFrom 17 = .ok (.putfield 35, 3) := by decide +kernel
theorem dX0_takeFrom_20 : decode cX0_takeFrom 20 = .ok (.aload_n 2, 1) := by decide +kernel
theorem dX0_takeFrom_21 : decode cX0_takeFrom 21 = .ok (.aload_n 1, 1) := by decide +kernel
theorem dX0_takeFrom_22 : decode cX0_takeFrom 22 = .ok (.invokevirtual 143, 3) := by decide +kernel
theorem dX0_takeFrom_25 : decode cX0_takeFrom 25 = .ok (.aload_n 0, 1) := by decide +kernel
theorem dX0_takeFrom_26 : decode cX0_takeFrom 26 = .ok (.getfield 35, 3) := by decide +kernel
theorem dX0_takeFrom_29 : decode cX0_takeFrom 29 = .ok (.aload_n 0, 1) := by decide +kernel
theorem dX0_takeFrom_30 : decode cX0_takeFrom 30 = .ok (.getfield 9, 3) := by decide +kernel
theorem dX0_takeFrom_33 : decode cX0_takeFrom 33 = .ok (.iconst 0, 1) := by decide +kernel
theorem dX0_takeFrom_34 : decode cX0_takeFrom 34 = .ok (.invokevirtual 146, 3) := by decide +kernel
theorem dX0_takeFrom_37 : decode cX0_takeFrom 37 = .ok (.aload_n 0, 1) := by decide +kernel
theorem dX0_takeFrom_38 : decode cX0_takeFrom 38 = .ok (.aload_n 1, 1) := by decide +kernel
theorem dX0_takeFrom_39 : decode cX0_takeFrom 39 = .ok (.getfield 150, 3) := by decide +kernel
theorem dX0_takeFrom_42 : decode cX0_takeFrom 42 = .ok (.putfield 57, 3) := by decide +kernel
theorem dX0_takeFrom_45 : decode cX0_takeFrom 45 = .ok (.aload_n 0, 1) := by decide +kernel
theorem dX0_takeFrom_46 : decode cX0_takeFrom 46 = .ok (.aload_n 1, 1) := by decide +kernel
theorem dX0_takeFrom_47 : decode cX0_takeFrom 47 = .ok (.getfield 151, 3) := by decide +kernel
theorem dX0_takeFrom_50 : decode cX0_takeFrom 50 = .ok (.putfield 60, 3) := by decide +kernel
theorem dX0_takeFrom_53 : decode cX0_takeFrom 53 = .ok (.aload_n 0, 1) := by decide +kernel
theorem dX0_takeFrom_54 : decode cX0_takeFrom 54 = .ok (.aload_n 1, 1) := by decide +kernel
theorem dX0_takeFrom_55 : decode cX0_takeFrom 55 = .ok (.getfield 152, 3) := by decide +kernel
theorem dX0_takeFrom_58 : decode cX0_takeFrom 58 = .ok (.putfield 63, 3) := by decide +kernel
theorem dX0_takeFrom_61 : decode cX0_takeFrom 61 = .ok (.aload_n 0, 1) := by decide +kernel
theorem dX0_takeFrom_62 : decode cX0_takeFrom 62 = .ok (.aload_n 1, 1) := by decide +kernel
theorem dX0_takeFrom_63 : decode cX0_takeFrom 63 = .ok (.getfield 153, 3) := by decide +kernel
theorem dX0_takeFrom_66 : decode cX0_takeFrom 66 = .ok (.l2i, 1) := by decide +kernel
theorem dX0_takeFrom_67 : decode cX0_takeFrom 67 = .ok (.putfield 66, 3) := by decide +kernel
theorem dX0_takeFrom_70 : decode cX0_takeFrom 70 = .ok (.aload_n 0, 1) := by decide +kernel
theorem dX0_takeFrom_71 : decode cX0_takeFrom 71 = .ok (.aload_n 1, 1) := by decide +kernel
theorem dX0_takeFrom_72 : decode cX0_takeFrom 72 = .ok (.aload_n 2, 1) := by decide +kernel
theorem dX0_takeFrom_73 : decode cX0_takeFrom 73 = .ok (.invokevirtual 156, 3) := by decide +kernel
theorem dX0_takeFrom_76 : decode cX0_takeFrom 76 = .ok (.aload_n 0, 1) := by decide +kernel
theorem dX0_takeFrom_77 : decode cX0_takeFrom 77 = .ok (.getfield 28, 3) := by decide +kernel
theorem dX0_takeFrom_80 : decode cX0_takeFrom 80 = .ok (.iconst 2, 1) := by decide +kernel
theorem dX0_takeFrom_81 : decode cX0_takeFrom 81 = .ok (.if_icmp .ne 4, 3) := by decide +kernel
theorem dX0_takeFrom_84 : decode cX0_takeFrom 84 = .ok (.return_, 1) := by decide +kernel
theorem dX0_takeFrom_85 : decode cX0_takeFrom 85 = .ok (.aload_n 0, 1) := by decide +kernel
theorem dX0_takeFrom_86 : decode cX0_takeFrom 86 = .ok (.iconst 1, 1) := by decide +kernel
theorem dX0_takeFrom_87 : decode cX0_takeFrom 87 = .ok (.putfield 44, 3) := by decide +kernel
theorem dX0_takeFrom_90 : decode cX0_takeFrom 90 = .ok (.aload_n 0, 1) := by decide +kernel
theorem dX0_takeFrom_91 : decode cX0_takeFrom 91 = .ok (.aload_n 1, 1) := by decide +kernel
theorem dX0_takeFrom_92 : decode cX0_takeFrom 92 = .ok (.getfield 160, 3) := by decide +kernel
theorem dX0_takeFrom_95 : decode cX0_takeFrom 95 = .ok (.l2i, 1) := by decide +kernel
theorem dX0_takeFrom_96 : decode cX0_takeFrom 96 = .ok (.putfield 38, 3) := by decide +kernel
theorem dX0_takeFrom_99 : decode cX0_takeFrom 99 = .ok (.aload_n 2, 1) := by decide +kernel
theorem dX0_takeFrom_100 : decode cX0_takeFrom 100 = .ok (.aload_n 1, 1) := by decide +kernel
theorem dX0_takeFrom_101 : decode cX0_takeFrom 101 = .ok (.invokevirtual 163, 3) := by decide +kernel
theorem dX0_takeFrom_104 : decode cX0_takeFrom 104 = .ok (.aload_n 0, 1) := by decide +kernel
theorem dX0_takeFrom_105 : decode cX0_takeFrom 105 = .ok (.getfield 38, 3) := by decide +kernel
theorem dX0_takeFrom_108 : decode cX0_takeFrom 108 = .ok (.aload_n 0, 1) := by decide +kernel
theorem dX0_takeFrom_109 : decode cX0_takeFrom 109 = .ok (.getfield 15, 3) := by decide +kernel
theorem dX0_takeFrom_112 : decode cX0_takeFrom 112 = .ok (.iconst 0, 1) := by decide +kernel
theorem dX0_takeFrom_113 : decode cX0_takeFrom 113 = .ok (.invokevirtual 146, 3) := by decide +kernel
theorem dX0_takeFrom_116 : decode cX0_takeFrom 116 = .ok (.aload_n 0, 1) := by decide +kernel
theorem dX0_takeFrom_117 : decode cX0_takeFrom 117 = .ok (.iconst 1, 1) := by decide +kernel
theorem dX0_takeFrom_118 : decode cX0_takeFrom 118 = .ok (.putfield 48, 3) := by decide +kernel
theorem dX0_takeFrom_121 : decode cX0_takeFrom 121 = .ok (.aload_n 0, 1) := by decide +kernel
theorem dX0_takeFrom_122 : decode cX0_takeFrom 122 = .ok (.aload_n 1, 1) := by decide +kernel
theorem dX0_takeFrom_123 : decode cX0_takeFrom 123 = .ok (.getfield 166, 3) := by decide +kernel
theorem dX0_takeFrom_126 : decode cX0_takeFrom 126 = .ok (.l2i, 1) := by decide +kernel
theorem dX0_takeFrom_127 : decode cX0_takeFrom 127 = .ok (.putfield 54, 3) := by decide +kernel
theorem dX0_takeFrom_130 : decode cX0_takeFrom 130 = .ok (.aload_n 0, 1) := by decide +kernel
theorem dX0_takeFrom_131 : decode cX0_takeFrom 131 = .ok (.aload_n 0, 1) := by decide +kernel
theorem dX0_takeFrom_132 : decode cX0_takeFrom 132 = .ok (.getfield 28, 3) := by decide +kernel
theorem dX0_takeFrom_135 : decode cX0_takeFrom 135 = .ok (.iconst 1, 1) := by decide +kernel
theorem dX0_takeFrom_136 : decode cX0_takeFrom 136 = .ok (.if_icmp .ne 11, 3) := by decide +kernel
theorem dX0_takeFrom_139 : decode cX0_takeFrom 139 = .ok (.aload_n 1, 1) := by decide +kernel
theorem dX0_takeFrom_140 : decode cX0_takeFrom 140 = .ok (.getfield 169, 3) := by decide +kernel
theorem dX0_takeFrom_143 : decode cX0_takeFrom 143 = .ok (.l2i, 1) := by decide +kernel
theorem dX0_takeFrom_144 : decode cX0_takeFrom 144 = .ok (.goto 4, 3) := by decide +kernel
theorem dX0_takeFrom_147 : decode cX0_takeFrom 147 = .ok (.iconst 0, 1) := by decide +kernel
theorem dX0_takeFrom_148 : decode cX0_takeFrom 148 = .ok (.putfield 51, 3) := by decide +kernel
theorem dX0_takeFrom_151 : decode cX0_takeFrom 151 = .ok (.return_, 1) := by decide +kernel
theorem dX0_takeParts_0 : decode cX0_takeParts 0 = .ok (.aload_n 1, 1) := by decide +kernel
theorem dX0_takeParts_1 : decode cX0_takeParts 1 = .ok (.getfield 171, 3) := by decide +kernel
theorem dX0_takeParts_4 : decode cX0_takeParts 4 = .ok (.istore_n 3, 1) := by decide +kernel
theorem dX0_takeParts_5 : decode cX0_takeParts 5 = .ok (.aload_n 0, 1) := by decide +kernel
theorem dX0_takeParts_6 : decode cX0_takeParts 6 = .ok (.aload_n 1, 1) := by decide +kernel
theorem dX0_takeParts_7 : decode cX0_takeParts 7 = .ok (.getfield 174, 3) := by decide +kernel
theorem dX0_takeParts_10 : decode cX0_takeParts 10 = .ok (.putfield 41, 3) := by decide +kernel
theorem dX0_takeParts_13 : decode cX0_takeParts 13 = .ok (.iconst 0, 1) := by decide +kernel
theorem dX0_takeParts_14 : decode cX0_takeParts 14 = .ok (.istore 4, 2) := by decide +kernel
theorem dX0_takeParts_16 : decode cX0_takeParts 16 = .ok (.iload 4, 2) := by decide +kernel
theorem dX0_takeParts_18 : decode cX0_takeParts 18 = .ok (.aload_n 0, 1) := by decide +kernel
theorem dX0_takeParts_19 : decode cX0_takeParts 19 = .ok (.getfield 41, 3) := by decide +kernel
theorem dX0_takeParts_22 : decode cX0_takeParts 22 = .ok (.if_icmp .ge 76, 3) := by decide +kernel
theorem dX0_takeParts_25 : decode cX0_takeParts 25 = .ok (.iload 4, 2) := by decide +kernel
theorem dX0_takeParts_27 : decode cX0_takeParts 27 = .ok (.iconst 3, 1) := by decide +kernel
theorem dX0_takeParts_28 : decode cX0_takeParts 28 = .ok (.if_icmp .ge 70, 3) := by decide +kernel
theorem dX0_takeParts_31 : decode cX0_takeParts 31 = .ok (.aload_n 0, 1) := by decide +kernel
theorem dX0_takeParts_32 : decode cX0_takeParts 32 = .ok (.getfield 18, 3) := by decide +kernel
theorem dX0_takeParts_35 : decode cX0_takeParts 35 = .ok (.iload 4, 2) := by decide +kernel
theorem dX0_takeParts_37 : decode cX0_takeParts 37 = .ok (.aload_n 2, 1) := by decide +kernel
theorem dX0_takeParts_38 : decode cX0_takeParts 38 = .ok (.iload_n 3, 1) := by decide +kernel
theorem dX0_takeParts_39 : decode cX0_takeParts 39 = .ok (.invokevirtual 175, 3) := by decide +kernel
theorem dX0_takeParts_42 : decode cX0_takeParts 42 = .ok (.iastore, 1) := by decide +kernel
theorem dX0_takeParts_43 : decode cX0_takeParts 43 = .ok (.aload_n 0, 1) := by decide +kernel
theorem dX0_takeParts_44 : decode cX0_takeParts 44 = .ok (.getfield 22, 3) := by decide +kernel
theorem dX0_takeParts_47 : decode cX0_takeParts 47 = .ok (.iload 4, 2) := by decide +kernel
theorem dX0_takeParts_49 : decode cX0_takeParts 49 = .ok (.aload_n 2, 1) := by decide +kernel
theorem dX0_takeParts_50 : decode cX0_takeParts 50 = .ok (.iload_n 3, 1) := by decide +kernel
theorem dX0_takeParts_51 : decode cX0_takeParts 51 = .ok (.iconst 2, 1) := by decide +kernel
theorem dX0_takeParts_52 : decode cX0_takeParts 52 = .ok (.iadd, 1) := by decide +kernel
theorem dX0_takeParts_53 : decode cX0_takeParts 53 = .ok (.invokevirtual 175, 3) := by decide +kernel
theorem dX0_takeParts_56 : decode cX0_takeParts 56 = .ok (.iastore, 1) := by decide +kernel
theorem dX0_takeParts_57 : decode cX0_takeParts 57 = .ok (.aload_n 2, 1) := by decide +kernel
theorem dX0_takeParts_58 : decode cX0_takeParts 58 = .ok (.iload_n 3, 1) := by decide +kernel
theorem dX0_takeParts_59 : decode cX0_takeParts 59 = .ok (.iconst 4, 1) := by decide +kernel
theorem dX0_takeParts_60 : decode cX0_takeParts 60 = .ok (.iadd, 1) := by decide +kernel
theorem dX0_takeParts_61 : decode cX0_takeParts 61 = .ok (.aload_n 0, 1) := by decide +kernel
theorem dX0_takeParts_62 : decode cX0_takeParts 62 = .ok (.getfield 22, 3) := by decide +kernel
theorem dX0_takeParts_65 : decode cX0_takeParts 65 = .ok (.iload 4, 2) := by decide +kernel
theorem dX0_takeParts_67 : decode cX0_takeParts 67 = .ok (.iaload, 1) := by decide +kernel
theorem dX0_takeParts_68 : decode cX0_takeParts 68 = .ok (.aload_n 0, 1) := by decide +kernel
theorem dX0_takeParts_69 : decode cX0_takeParts 69 = .ok (.getfield 25, 3) := by decide +kernel
theorem dX0_takeParts_72 : decode cX0_takeParts 72 = .ok (.iload 4, 2) := by decide +kernel
theorem dX0_takeParts_74 : decode cX0_takeParts 74 = .ok (.bipush 8, 2) := by decide +kernel
theorem dX0_takeParts_76 : decode cX0_takeParts 76 = .ok (.imul, 1) := by decide +kernel
theorem dX0_takeParts_77 : decode cX0_takeParts 77 = .ok (.invokevirtual 146, 3) := by decide +kernel
theorem dX0_takeParts_80 : decode cX0_takeParts 80 = .ok (.iload_n 3, 1) := by decide +kernel
theorem dX0_takeParts_81 : decode cX0_takeParts 81 = .ok (.iconst 4, 1) := by decide +kernel
theorem dX0_takeParts_82 : decode cX0_takeParts 82 = .ok (.aload_n 0, 1) := by decide +kernel
theorem dX0_takeParts_83 : decode cX0_takeParts 83 = .ok (.getfield 22, 3) := by decide +kernel
theorem dX0_takeParts_86 : decode cX0_takeParts 86 = .ok (.iload 4, 2) := by decide +kernel
theorem dX0_takeParts_88 : decode cX0_takeParts 88 = .ok (.iaload, 1) := by decide +kernel
theorem dX0_takeParts_89 : decode cX0_takeParts 89 = .ok (.iadd, 1) := by decide +kernel
theorem dX0_takeParts_90 : decode cX0_takeParts 90 = .ok (.iadd, 1) := by decide +kernel
theorem dX0_takeParts_91 : decode cX0_takeParts 91 = .ok (.istore_n 3, 1) := by decide +kernel
theorem dX0_takeParts_92 : decode cX0_takeParts 92 = .ok (.iinc 4 1, 3) := by decide +kernel
theorem dX0_takeParts_95 : decode cX0_takeParts 95 = .ok (.goto (-79), 3) := by decide +kernel
theorem dX0_takeParts_98 : decode cX0_takeParts 98 = .ok (.return_, 1) := by decide +kernel
theorem dX1_init_0 : decode cX1_init 0 = .ok (.aload_n 0, 1) := by decide +kernel
theorem dX1_init_1 : decode cX1_init 1 = .ok (.invokespecial 3, 3) := by decide +kernel
theorem dX1_init_4 : decode cX1_init 4 = .ok (.aload_n 0, 1) := by decide +kernel
theorem dX1_init_5 : decode cX1_init 5 = .ok (.bipush 12, 2) := by decide +kernel
theorem dX1_init_7 : decode cX1_init 7 = .ok (.anewarray 9, 3) := by decide +kernel
theorem dX1_init_10 : decode cX1_init 10 = .ok (.putfield 11, 3) := by decide +kernel
theorem dX1_init_13 : decode cX1_init 13 = .ok (.aload_n 0, 1) := by decide +kernel
theorem dX1_init_14 : decode cX1_init 14 = .ok (.iconst 0, 1) := by decide +kernel
theorem dX1_init_15 : decode cX1_init 15 = .ok (.putfield 17, 3) := by decide +kernel
theorem dX1_init_18 : decode cX1_init 18 = .ok (.aload_n 0, 1) := by decide +kernel
theorem dX1_init_19 : decode cX1_init 19 = .ok (.iconst 0, 1) := by decide +kernel
theorem dX1_init_20 : decode cX1_init 20 = .ok (.putfield 21, 3) := by decide +kernel
theorem dX1_init_23 : decode cX1_init 23 = .ok (.aload_n 0, 1) := by decide +kernel
theorem dX1_init_24 : decode cX1_init 24 = .ok (.iconst 0, 1) := by decide +kernel
theorem dX1_init_25 : decode cX1_init 25 = .ok (.putfield 24, 3) := by decide +kernel
theorem dX1_init_28 : decode cX1_init 28 = .ok (.aload_n 0, 1) := by decide +kernel
theorem dX1_init_29 : decode cX1_init 29 = .ok (.iconst 0, 1) := by decide +kernel
theorem dX1_init_30 : decode cX1_init 30 = .ok (.putfield 27, 3) := by decide +kernel
theorem dX1_init_33 : decode cX1_init 33 = .ok (.aload_n 0, 1) := by decide +kernel
theorem dX1_init_34 : decode cX1_init 34 = .ok (.iconst 0, 1) := by decide +kernel
theorem dX1_init_35 : decode cX1_init 35 = .ok (.putfield 30, 3) := by decide +kernel
theorem dX1_init_38 : decode cX1_init 38 = .ok (.aload_n 0, 1) := by decide +kernel
theorem dX1_init_39 : decode cX1_init 39 = .ok (.iconst 0, 1) := by decide +kernel
theorem dX1_init_40 : decode cX1_init 40 = .ok (.putfield 33, 3) := by decide +kernel
theorem dX1_init_43 : decode cX1_init 43 = .ok (.aload_n 0, 1) := by decide +kernel
theorem dX1_init_44 : decode cX1_init 44 = .ok (.iconst (-1), 1) := by decide +kernel
theorem dX1_init_45 : decode cX1_init 45 = .ok (.putfield 36, 3) := by decide +kernel
theorem dX1_init_48 : decode cX1_init 48 = .ok (.aload_n 0, 1) := by decide +kernel
theorem dX1_init_49 : decode cX1_init 49 = .ok (.aload_n 1, 1) := by decide +kernel
theorem dX1_init_50 : decode cX1_init 50 = .ok (.putfield 39, 3) := by decide +kernel
theorem dX1_init_53 : decode cX1_init 53 = .ok (.iconst 0, 1) := by decide +kernel
theorem dX1_init_54 : decode cX1_init 54 = .ok (.istore_n 2, 1) := by decide +kernel
theorem dX1_init_55 : decode cX1_init 55 = .ok (.iload_n 2, 1) := by decide +kernel
theorem dX1_init_56 : decode cX1_init 56 = .ok (.bipush 12, 2) := by decide +kernel
theorem dX1_init_58 : decode cX1_init 58 = .ok (.if_icmp .ge 22, 3) := by decide +kernel
theorem dX1_init_61 : decode cX1_init 61 = .ok (.aload_n 0, 1) := by decide +kernel
theorem dX1_init_62 : decode cX1_init 62 = .ok (.getfield 11, 3) := by decide +kernel
theorem dX1_init_65 : decode cX1_init 65 = .ok (.iload_n 2, 1) := by decide +kernel
theorem dX1_init_66 : decode cX1_init 66 = .ok (.new 9, 3) := by decide +kernel
theorem dX1_init_69 : decode cX1_init 69 = .ok (.dup, 1) := by decide +kernel
theorem dX1_init_70 : decode cX1_init 70 = .ok (.invokespecial 43, 3) := by decide +kernel
theorem dX1_init_73 : decode cX1_init 73 = .ok (.aastore, 1) := by decide +kernel
theorem dX1_init_74 : decode cX1_init 74 = .ok (.iinc 2 1, 3) := by decide +kernel
theorem dX1_init_77 : decode cX1_init 77 = .ok (.goto (-22), 3) := by decide +kernel
theorem dX1_init_80 : decode cX1_init 80 = .ok (.return_, 1) := by decide +kernel
theorem dX1_isWhole_0 : decode cX1_isWhole 0 = .ok (.aload_n 0, 1) := by decide +kernel
theorem dX1_isWhole_1 : decode cX1_isWhole 1 = .ok (.invokevirtual 44, 3) := by decide +kernel
theorem dX1_isWhole_4 : decode cX1_isWhole 4 = .ok (.ifCond .eq 17, 3) := by decide +kernel
theorem dX1_isWhole_7 : decode cX1_isWhole 7 = .ok (.aload_n 0, 1) := by decide +kernel
theorem dX1_isWhole_8 : decode cX1_isWhole 8 = .ok (.invokevirtual 48, 3) := by decide +kernel
theorem dX1_isWhole_11 : decode cX1_isWhole 11 = .ok (.ifCond .eq 10, 3) := by decide +kernel
theorem dX1_isWhole_14 : decode cX1_isWhole 14 = .ok (.aload_n 0, 1) := by decide +kernel
theorem dX1_isWhole_15 : decode cX1_isWhole 15 = .ok (.invokevirtual 51, 3) := by decide +kernel
theorem dX1_isWhole_18 : decode cX1_isWhole 18 = .ok (.ifCond .ne 5, 3) := by decide +kernel
theorem dX1_isWhole_21 : decode cX1_isWhole 21 = .ok (.iconst 0, 1) := by decide +kernel
theorem dX1_isWhole_22 : decode cX1_isWhole 22 = .ok (.ireturn, 1) := by decide +kernel
theorem dX1_isWhole_23 : decode cX1_isWhole 23 = .ok (.iconst 0, 1) := by decide +kernel
theorem dX1_isWhole_24 : decode cX1_isWhole 24 = .ok (.istore_n 1, 1) := by decide +kernel
theorem dX1_isWhole_25 : decode cX1_isWhole 25 = .ok (.iload_n 1, 1) := by decide +kernel
theorem dX1_isWhole_26 : decode cX1_isWhole 26 = .ok (.aload_n 0, 1) := by decide +kernel
theorem dX1_isWhole_27 : decode cX1_isWhole 27 = .ok (.getfield 17, 3) := by decide +kernel
theorem dX1_isWhole_30 : decode cX1_isWhole 30 = .ok (.if_icmp .ge 25, 3) := by decide +kernel
theorem dX1_isWhole_33 : decode cX1_isWhole 33 = .ok (.iload_n 1, 1) := by decide +kernel
theorem dX1_isWhole_34 : decode cX1_isWhole 34 = .ok (.bipush 12, 2) := by decide +kernel
theorem dX1_isWhole_36 : decode cX1_isWhole 36 = .ok (.if_icmp .ge 19, 3) := by decide +kernel
theorem dX1_isWhole_39 : decode cX1_isWhole 39 = .ok (.aload_n 0, 1) := by decide +kernel
theorem dX1_isWhole_40 : decode cX1_isWhole 40 = .ok (.iload_n 1, 1) := by decide +kernel
theorem dX1_isWhole_41 : decode cX1_isWhole 41 = .ok (.invokevirtual 54, 3) := by decide +kernel
theorem dX1_isWhole_44 : decode cX1_isWhole 44 = .ok (.ifCond .ne 5, 3) := by decide +kernel
theorem dX1_isWhole_47 : decode cX1_isWhole 47 = .ok (.iconst 0, 1) := by decide +kernel
theorem dX1_isWhole_48 : decode cX1_isWhole 48 = .ok (.ireturn, 1) := by decide +kernel
theorem dX1_isWhole_49 : decode cX1_isWhole 49 = .ok (.iinc 1 1, 3) := by decide +kernel
theorem dX1_isWhole_52 : decode cX1_isWhole 52 = .ok (.goto (-27), 3) := by decide +kernel
theorem dX1_isWhole_55 : decode cX1_isWhole 55 = .ok (.iconst 1, 1) := by decide +kernel
theorem dX1_isWhole_56 : decode cX1_isWhole 56 = .ok (.ireturn, 1) := by decide +kernel
theorem dX1_fail_0 : decode cX1_fail 0 = .ok (.aload_n 0, 1) := by decide +kernel
theorem dX1_fail_1 : decode cX1_fail 1 = .ok (.iload_n 1, 1) := by decide +kernel
theorem dX1_fail_2 : decode cX1_fail 2 = .ok (.putfield 33, 3) := by decide +kernel
theorem dX1_fail_5 : decode cX1_fail 5 = .ok (.aload_n 0, 1) := by decide +kernel
theorem dX1_fail_6 : decode cX1_fail 6 = .ok (.iload_n 2, 1) := by decide +kernel
theorem dX1_fail_7 : decode cX1_fail 7 = .ok (.putfield 36, 3) := by decide +kernel
theorem dX1_fail_10 : decode cX1_fail 10 = .ok (.iconst 0, 1) := by decide +kernel
theorem dX1_fail_11 : decode cX1_fail 11 = .ok (.ireturn, 1) := by decide +kernel
theorem dX1_findEnd_0 : decode cX1_findEnd 0 = .ok (.iconst 0, 1) := by decide +kernel
theorem dX1_findEnd_1 : decode cX1_findEnd 1 = .ok (.istore_n 1, 1) := by decide +kernel
theorem dX1_findEnd_2 : decode cX1_findEnd 2 = .ok (.iload_n 1, 1) := by decide +kernel
theorem dX1_findEnd_3 : decode cX1_findEnd 3 = .ok (.bipush 12, 2) := by decide +kernel
theorem dX1_findEnd_5 : decode cX1_findEnd 5 = .ok (.if_icmp .gt 68, 3) := by decide +kernel
theorem dX1_findEnd_8 : decode cX1_findEnd 8 = .ok (.aload_n 0, 1) := by decide +kernel
theorem dX1_findEnd_9 : decode cX1_findEnd 9 = .ok (.getfield 39, 3) := by decide +kernel
theorem dX1_findEnd_12 : decode cX1_findEnd 12 = .ok (.getfield 58, 3) := by decide +kernel
theorem dX1_findEnd_15 : decode cX1_findEnd 15 = .ok (.bipush 22, 2) := by decide +kernel
theorem dX1_findEnd_17 : decode cX1_findEnd 17 = .ok (.isub, 1) := by decide +kernel
theorem dX1_findEnd_18 : decode cX1_findEnd 18 = .ok (.iload_n 1, 1) := by decide +kernel
theorem dX1_findEnd_19 : decode cX1_findEnd 19 = .ok (.isub, 1) := by decide +kernel
theorem dX1_findEnd_20 : decode cX1_findEnd 20 = .ok (.istore_n 2, 1) := by decide +kernel
theorem dX1_findEnd_21 : decode cX1_findEnd 21 = .ok (.iload_n 2, 1) := by decide +kernel
theorem dX1_findEnd_22 : decode cX1_findEnd 22 = .ok (.ifCond .lt 45, 3) := by decide +kernel
theorem dX1_findEnd_25 : decode cX1_findEnd 25 = .ok (.aload_n 0, 1) := by decide +kernel
theorem dX1_findEnd_26 : decode cX1_findEnd 26 = .ok (.getfield 39, 3) := by decide +kernel
theorem dX1_findEnd_29 : decode cX1_findEnd 29 = .ok (.iload_n 2, 1) := by decide +kernel
theorem dX1_findEnd_30 : decode cX1_findEnd 30 = .ok (.invokevirtual 63, 3) := by decide +kernel
theorem dX1_findEnd_33 : decode cX1_findEnd 33 = .ok (.ldc2_w 67, 3) := by decide +kernel
theorem dX1_findEnd_36 : decode cX1_findEnd 36 = .ok (.lcmp, 1) := by decide +kernel
theorem dX1_findEnd_37 : decode cX1_findEnd 37 = .ok (.ifCond .ne 30, 3) := by decide +kernel
theorem dX1_findEnd_40 : decode cX1_findEnd 40 = .ok (.aload_n 0, 1) := by decide +kernel
theorem dX1_findEnd_41 : decode cX1_findEnd 41 = .ok (.getfield 39, 3) := by decide +kernel
theorem dX1_findEnd_44 : decode cX1_findEnd 44 = .ok (.iload_n 2, 1) := by decide +kernel
theorem dX1_findEnd_45 : decode cX1_findEnd 45 = .ok (.bipush 20, 2) := by decide +kernel
theorem dX1_findEnd_47 : decode cX1_findEnd 47 = .ok (.iadd, 1) := by decide +kernel
theorem dX1_findEnd_48 : decode cX1_findEnd 48 = .ok (.invokevirtual 69, 3) := by decide +kernel
theorem dX1_findEnd_51 : decode cX1_findEnd 51 = .ok (.iload_n 1, 1) := by decide +kernel
theorem dX1_findEnd_52 : decode cX1_findEnd 52 = .ok (.if_icmp .ne 15, 3) := by decide +kernel
theorem dX1_findEnd_55 : decode cX1_findEnd 55 = .ok (.aload_n 0, 1) := by decide +kernel
theorem dX1_findEnd_56 : decode cX1_findEnd 56 = .ok (.iload_n 2, 1) := by decide +kernel
theorem dX1_findEnd_57 : decode cX1_findEnd 57 = .ok (.putfield 21, 3) := by decide +kernel
theorem dX1_findEnd_60 : decode cX1_findEnd 60 = .ok (.aload_n 0, 1) := by decide +kernel
theorem dX1_findEnd_61 : decode cX1_findEnd 61 = .ok (.iload_n 1, 1) := by decide +kernel
theorem dX1_findEnd_62 : decode cX1_findEnd 62 = .ok (.putfield 24, 3) := by decide +kernel
theorem dX1_findEnd_65 : decode cX1_findEnd 65 = .ok (.iconst 1, 1) := by decide +kernel
theorem dX1_findEnd_66 : decode cX1_findEnd 66 = .ok (.ireturn, 1) := by decide +kernel
theorem dX1_findEnd_67 : decode cX1_findEnd 67 = .ok (.iinc 1 1, 3) := by decide +kernel
theorem dX1_findEnd_70 : decode cX1_findEnd 70 = .ok (.goto (-68), 3) := by decide +kernel
theorem dX1_findEnd_73 : decode cX1_findEnd 73 = .ok (.aload_n 0, 1) := by decide +kernel
theorem dX1_findEnd_74 : decode cX1_findEnd 74 = .ok (.iconst 1, 1) := by decide +kernel
theorem dX1_findEnd_75 : decode cX1_findEnd 75 = .ok (.aload_n 0, 1) := by decide +kernel
theorem dX1_findEnd_76 : decode cX1_findEnd 76 = .ok (.getfield 39, 3) := by decide +kernel
theorem dX1_findEnd_79 : decode cX1_findEnd 79 = .ok (.getfield 58, 3) := by decide +kernel
theorem dX1_findEnd_82 : decode cX1_findEnd 82 = .ok (.invokevirtual 73, 3) := by decide +kernel
theorem dX1_findEnd_85 : decode cX1_findEnd 85 = .ok (.ireturn, 1) := by decide +kernel
theorem dX1_takeEnd_0 : decode cX1_takeEnd 0 = .ok (.aload_n 0, 1) := by decide +kernel
theorem dX1_takeEnd_1 : decode cX1_takeEnd 1 = .ok (.getfield 39, 3) := by decide +kernel
theorem dX1_takeEnd_4 : decode cX1_takeEnd 4 = .ok (.aload_n 0, 1) := by decide +kernel
theorem dX1_takeEnd_5 : decode cX1_takeEnd 5 = .ok (.getfield 21, 3) := by decide +kernel
theorem dX1_takeEnd_8 : decode cX1_takeEnd 8 = .ok (.bipush 8, 2) := by decide +kernel
theorem dX1_takeEnd_10 : decode cX1_takeEnd 10 = .ok (.iadd, 1) := by decide +kernel
theorem dX1_takeEnd_11 : decode cX1_takeEnd 11 = .ok (.invokevirtual 69, 3) := by decide +kernel
theorem dX1_takeEnd_14 : decode cX1_takeEnd 14 = .ok (.istore_n 1, 1) := by decide +kernel
theorem dX1_takeEnd_15 : decode cX1_takeEnd 15 = .ok (.aload_n 0, 1) := by decide +kernel
theorem dX1_takeEnd_16 : decode cX1_takeEnd 16 = .ok (.getfield 39, 3) := by decide +kernel
theorem dX1_takeEnd_19 : decode cX1_takeEnd 19 = .ok (.aload_n 0, 1) := by decide +kernel
theorem dX1_takeEnd_20 : decode cX1_takeEnd 20 = .ok (.getfield 21, 3) := by decide +kernel
theorem dX1_takeEnd_23 : decode cX1_takeEnd 23 = .ok (.bipush 12, 2) := by decide +kernel
theorem dX1_takeEnd_25 : decode cX1_takeEnd 25 = .ok (.iadd, 1) := by decide +kernel
theorem dX1_takeEnd_26 : decode cX1_takeEnd 26 = .ok (.invokevirtual 63, 3) := by decide +kernel
theorem dX1_takeEnd_29 : decode cX1_takeEnd 29 = .ok (.lstore_n 2, 1) := by decide +kernel
theorem dX1_takeEnd_30 : decode cX1_takeEnd 30 = .ok (.aload_n 0, 1) := by decide +kernel
theorem dX1_takeEnd_31 : decode cX1_takeEnd 31 = .ok (.getfield 39, 3) := by decide +kernel
theorem dX1_takeEnd_34 : decode cX1_takeEnd 34 = .ok (.aload_n 0, 1) := by decide +kernel
theorem dX1_takeEnd_35 : decode cX1_takeEnd 35 = .ok (.getfield 21, 3) := by decide +kernel
theorem dX1_takeEnd_38 : decode cX1_takeEnd 38 = .ok (.bipush 16, 2) := by decide +kernel
theorem dX1_takeEnd_40 : decode cX1_takeEnd 40 = .ok (.iadd, 1) := by decide +kernel
theorem dX1_takeEnd_41 : decode cX1_takeEnd 41 = .ok (.invokevirtual 63, 3) := by decide +kernel
theorem dX1_takeEnd_44 : decode cX1_takeEnd 44 = .ok (.lstore 4, 2) := by decide +kernel
theorem dX1_takeEnd_46 : decode cX1_takeEnd 46 = .ok (.lload 4, 2) := by decide +kernel
theorem dX1_takeEnd_48 : decode cX1_takeEnd 48 = .ok (.lload_n 2, 1) := by decide +kernel
theorem dX1_takeEnd_49 : decode cX1_takeEnd 49 = .ok (.ladd, 1) := by decide +kernel
theorem dX1_takeEnd_50 : decode cX1_takeEnd 50 = .ok (.aload_n 0, 1) := by decide +kernel
theorem dX1_takeEnd_51 : decode cX1_takeEnd 51 = .ok (.getfield 21, 3) := by decide +kernel
theorem dX1_takeEnd_54 : decode cX1_takeEnd 54 = .ok (.i2l, 1) := by decide +kernel
theorem dX1_takeEnd_55 : decode cX1_takeEnd 55 = .ok (.lcmp, 1) := by decide +kernel
theorem dX1_takeEnd_56 : decode cX1_takeEnd 56 = .ok (.ifCond .gt 27, 3) := by decide +kernel
theorem dX1_takeEnd_59 : decode cX1_takeEnd 59 = .ok (.iload_n 1, 1) := by decide +kernel
theorem dX1_takeEnd_60 : decode cX1_takeEnd 60 = .ok (.bipush 12, 2) := by decide +kernel
theorem dX1_takeEnd_62 : decode cX1_takeEnd 62 = .ok (.if_icmp .gt 21, 3) := by decide +kernel
theorem dX1_takeEnd_65 : decode cX1_takeEnd 65 = .ok (.iload_n 1, 1) := by decide +kernel
theorem dX1_takeEnd_66 : decode cX1_takeEnd 66 = .ok (.aload_n 0, 1) := by decide +kernel
theorem dX1_takeEnd_67 : decode cX1_takeEnd 67 = .ok (.getfield 39, 3) := by decide +kernel
theorem dX1_takeEnd_70 : decode cX1_takeEnd 70 = .ok (.aload_n 0, 1) := by decide +kernel
theorem dX1_takeEnd_71 : decode cX1_takeEnd 71 = .ok (.getfield 21, 3) := by decide +kernel
theorem dX1_takeEnd_74 : decode cX1_takeEnd 74 = .ok (.bipush 10, 2) := by decide +kernel
theorem dX1_takeEnd_76 : decode cX1_takeEnd 76 = .ok (.iadd, 1) := by decide +kernel
theorem dX1_takeEnd_77 : decode cX1_takeEnd 77 = .ok (.invokevirtual 69, 3) := by decide +kernel
theorem dX1_takeEnd_80 : decode cX1_takeEnd 80 = .ok (.if_icmp .eq 13, 3) := by decide +kernel
theorem dX1_takeEnd_83 : decode cX1_takeEnd 83 = .ok (.aload_n 0, 1) := by decide +kernel
theorem dX1_takeEnd_84 : decode cX1_takeEnd 84 = .ok (.iconst 2, 1) := by decide +kernel
theorem dX1_takeEnd_85 : decode cX1_takeEnd 85 = .ok (.aload_n 0, 1) := by decide +kernel
theorem dX1_takeEnd_86 : decode cX1_takeEnd 86 = .ok (.getfield 21, 3) := by decide +kernel
theorem dX1_takeEnd_89 : decode cX1_takeEnd 89 = .ok (.invokevirtual 73, 3) := by decide +kernel
theorem dX1_takeEnd_92 : decode cX1_takeEnd 92 = .ok (.ireturn, 1) := by decide +kernel
theorem dX1_takeEnd_93 : decode cX1_takeEnd 93 = .ok (.aload_n 0, 1) := by decide +kernel
theorem dX1_takeEnd_94 : decode cX1_takeEnd 94 = .ok (.iload_n 1, 1) := by decide +kernel
theorem dX1_takeEnd_95 : decode cX1_takeEnd 95 = .ok (.putfield 17, 3) := by decide +kernel
theorem dX1_takeEnd_98 : decode cX1_takeEnd 98 = .ok (.aload_n 0, 1) := by decide +kernel
theorem dX1_takeEnd_99 : decode cX1_takeEnd 99 = .ok (.lload 4, 2) := by decide +kernel
theorem dX1_takeEnd_101 : decode cX1_takeEnd 101 = .ok (.l2i, 1) := by decide +kernel
theorem dX1_takeEnd_102 : decode cX1_takeEnd 102 = .ok (.putfield 27, 3) := by decide +kernel
theorem dX1_takeEnd_105 : decode cX1_takeEnd 105 = .ok (.aload_n 0, 1) := by decide +kernel
theorem dX1_takeEnd_106 : decode cX1_takeEnd 106 = .ok (.lload 4, 2) := by decide +kernel
theorem dX1_takeEnd_108 : decode cX1_takeEnd 108 = .ok (.lload_n 2, 1) := by decide +kernel
theorem dX1_takeEnd_109 : decode cX1_takeEnd 109 = .ok (.ladd, 1) := by decide +kernel
theorem dX1_takeEnd_110 : decode cX1_takeEnd 110 = .ok (.l2i, 1) := by decide +kernel
theorem dX1_takeEnd_111 : decode cX1_takeEnd 111 = .ok (.putfield 30, 3) := by decide +kernel
theorem dX1_takeEnd_114 : decode cX1_takeEnd 114 = .ok (.iconst 1, 1) := by decide +kernel
theorem dX1_takeEnd_115 : decode cX1_takeEnd 115 = .ok (.ireturn, 1) := by decide +kernel
theorem dX1_takeRows_0 : decode cX1_takeRows 0 = .ok (.aload_n 0, 1) := by decide +kernel
theorem dX1_takeRows_1 : decode cX1_takeRows 1 = .ok (.getfield 27, 3) := by decide +kernel
theorem dX1_takeRows_4 : decode cX1_takeRows 4 = .ok (.istore_n 1, 1) := by decide +kernel
theorem dX1_takeRows_5 : decode cX1_takeRows 5 = .ok (.iconst 0, 1) := by decide +kernel
theorem dX1_takeRows_6 : decode cX1_takeRows 6 = .ok (.istore_n 2, 1) := by decide +kernel
theorem dX1_takeRows_7 : decode cX1_takeRows 7 = .ok (.iload_n 2, 1) := by decide +kernel
theorem dX1_takeRows_8 : decode cX1_takeRows 8 = .ok (.aload_n 0, 1) := by decide +kernel
theorem dX1_takeRows_9 : decode cX1_takeRows 9 = .ok (.getfield 17, 3) := by decide +kernel
theorem dX1_takeRows_12 : decode cX1_takeRows 12 = .ok (.if_icmp .ge 46, 3) := by decide +kernel
theorem dX1_takeRows_15 : decode cX1_takeRows 15 = .ok (.iload_n 2, 1) := by decide +kernel
theorem dX1_takeRows_16 : decode cX1_takeRows 16 = .ok (.bipush 12, 2) := by decide +kernel
theorem dX1_takeRows_18 : decode cX1_takeRows 18 = .ok (.if_icmp .ge 40, 3) := by decide +kernel
theorem dX1_takeRows_21 : decode cX1_takeRows 21 = .ok (.aload_n 0, 1) := by decide +kernel
theorem dX1_takeRows_22 : decode cX1_takeRows 22 = .ok (.aload_n 0, 1) := by decide +kernel
theorem dX1_takeRows_23 : decode cX1_takeRows 23 = .ok (.getfield 11, 3) := by decide +kernel
theorem dX1_takeRows_26 : decode cX1_takeRows 26 = .ok (.iload_n 2, 1) := by decide +kernel
theorem dX1_takeRows_27 : decode cX1_takeRows 27 = .ok (.aaload, 1) := by decide +kernel
theorem dX1_takeRows_28 : decode cX1_takeRows 28 = .ok (.iload_n 1, 1) := by decide +kernel
theorem dX1_takeRows_29 : decode cX1_takeRows 29 = .ok (.invokevirtual 77, 3) := by decide +kernel
theorem dX1_takeRows_32 : decode cX1_takeRows 32 = .ok (.ifCond .ne 10, 3) := by decide +kernel
theorem dX1_takeRows_35 : decode cX1_takeRows 35 = .ok (.aload_n 0, 1) := by decide +kernel
theorem dX1_takeRows_36 : decode cX1_takeRows 36 = .ok (.iconst 3, 1) := by decide +kernel
theorem dX1_takeRows_37 : decode cX1_takeRows 37 = .ok (.iload_n 1, 1) := by decide +kernel
theorem dX1_takeRows_38 : decode cX1_takeRows 38 = .ok (.invokevirtual 73, 3) := by decide +kernel
theorem dX1_takeRows_41 : decode cX1_takeRows 41 = .ok (.ireturn, 1) := by decide +kernel
theorem dX1_takeRows_42 : decode cX1_takeRows 42 = .ok (.aload_n 0, 1) := by decide +kernel
theorem dX1_takeRows_43 : decode cX1_takeRows 43 = .ok (.getfield 11, 3) := by decide +kernel
theorem dX1_takeRows_46 : decode cX1_takeRows 46 = .ok (.iload_n 2, 1) := by decide +kernel
theorem dX1_takeRows_47 : decode cX1_takeRows 47 = .ok (.aaload, 1) := by decide +kernel
theorem dX1_takeRows_48 : decode cX1_takeRows 48 = .ok (.invokevirtual 81, 3) := by decide +kernel
theorem dX1_takeRows_51 : decode cX1_takeRows 51 = .ok (.istore_n 1, 1) := by decide +kernel
theorem dX1_takeRows_52 : decode cX1_takeRows 52 = .ok (.iinc 2 1, 3) := by decide +kernel
theorem dX1_takeRows_55 : decode cX1_takeRows 55 = .ok (.goto (-48), 3) := by decide +kernel
theorem dX1_takeRows_58 : decode cX1_takeRows 58 = .ok (.iload_n 1, 1) := by decide +kernel
theorem dX1_takeRows_59 : decode cX1_takeRows 59 = .ok (.aload_n 0, 1) := by decide +kernel
theorem dX1_takeRows_60 : decode cX1_takeRows 60 = .ok (.getfield 30, 3) := by decide +kernel
theorem dX1_takeRows_63 : decode cX1_takeRows 63 = .ok (.if_icmp .eq 12, 3) := by decide +kernel
theorem dX1_takeRows_66 : decode cX1_takeRows 66 = .ok (.aload_n 0, 1) := by decide +kernel
theorem dX1_takeRows_67 : decode cX1_takeRows 67 = .ok (.iconst 3, 1) := by decide +kernel
theorem dX1_takeRows_68 : decode cX1_takeRows 68 = .ok (.iload_n 1, 1) := by decide +kernel
theorem dX1_takeRows_69 : decode cX1_takeRows 69 = .ok (.invokevirtual 73, 3) := by decide +kernel
theorem dX1_takeRows_72 : decode cX1_takeRows 72 = .ok (.ifCond .eq 7, 3) := by decide +kernel
theorem dX1_takeRows_75 : decode cX1_takeRows 75 = .ok (.iconst 1, 1) := by decide +kernel
theorem dX1_takeRows_76 : decode cX1_takeRows 76 = .ok (.goto 4, 3) := by decide +kernel
theorem dX1_takeRows_79 : decode cX1_takeRows 79 = .ok (.iconst 0, 1) := by decide +kernel
theorem dX1_takeRows_80 : decode cX1_takeRows 80 = .ok (.ireturn, 1) := by decide +kernel
theorem dX1_takeRow_0 : decode cX1_takeRow 0 = .ok (.iload_n 2, 1) := by decide +kernel
theorem dX1_takeRow_1 : decode cX1_takeRow 1 = .ok (.bipush 46, 2) := by decide +kernel
theorem dX1_takeRow_3 : decode cX1_takeRow 3 = .ok (.iadd, 1) := by decide +kernel
theorem dX1_takeRow_4 : decode cX1_takeRow 4 = .ok (.aload_n 0, 1) := by decide +kernel
theorem dX1_takeRow_5 : decode cX1_takeRow 5 = .ok (.getfield 30, 3) := by decide +kernel
theorem dX1_takeRow_8 : decode cX1_takeRow 8 = .ok (.if_icmp .gt 18, 3) := by decide +kernel
theorem dX1_takeRow_11 : decode cX1_takeRow 11 = .ok (.aload_n 0, 1) := by decide +kernel
theorem dX1_takeRow_12 : decode cX1_takeRow 12 = .ok (.getfield 39, 3) := by decide +kernel
theorem dX1_takeRow_15 : decode cX1_takeRow 15 = .ok (.iload_n 2, 1) := by decide +kernel
theorem dX1_takeRow_16 : decode cX1_takeRow 16 = .ok (.invokevirtual 63, 3) := by decide +kernel
theorem dX1_takeRow_19 : decode cX1_takeRow 19 = .ok (.ldc2_w 84, 3) := by decide +kernel
theorem dX1_takeRow_22 : decode cX1_takeRow 22 = .ok (.lcmp, 1) := by decide +kernel
theorem dX1_takeRow_23 : decode cX1_takeRow 23 = .ok (.ifCond .eq 5, 3) := by decide +kernel
theorem dX1_takeRow_26 : decode cX1_takeRow 26 = .ok (.iconst 0, 1) := by decide +kernel
theorem dX1_takeRow_27 : decode cX1_takeRow 27 = .ok (.ireturn, 1) := by decide +kernel
theorem dX1_takeRow_28 : decode cX1_takeRow 28 = .ok (.aload_n 1, 1) := by decide +kernel
theorem dX1_takeRow_29 : decode cX1_takeRow 29 = .ok (.aload_n 0, 1) := by decide +kernel
theorem dX1_takeRow_30 : decode cX1_takeRow 30 = .ok (.getfield 39, 3) := by decide +kernel
theorem dX1_takeRow_33 : decode cX1_takeRow 33 = .ok (.iload_n 2, 1) := by decide +kernel
theorem dX1_takeRow_34 : decode cX1_takeRow 34 = .ok (.invokevirtual 86, 3) := by decide +kernel
theorem dX1_takeRow_37 : decode cX1_takeRow 37 = .ok (.aload_n 0, 1) := by decide +kernel
theorem dX1_takeRow_38 : decode cX1_takeRow 38 = .ok (.getfield 39, 3) := by decide +kernel
theorem dX1_takeRow_41 : decode cX1_takeRow 41 = .ok (.iload_n 2, 1) := by decide +kernel
theorem dX1_takeRow_42 : decode cX1_takeRow 42 = .ok (.bipush 32, 2) := by decide +kernel
theorem dX1_takeRow_44 : decode cX1_takeRow 44 = .ok (.iadd, 1) := by decide +kernel
theorem dX1_takeRow_45 : decode cX1_takeRow 45 = .ok (.invokevirtual 69, 3) := by decide +kernel
theorem dX1_takeRow_48 : decode cX1_takeRow 48 = .ok (.ifCond .ne 18, 3) := by decide +kernel
theorem dX1_takeRow_51 : decode cX1_takeRow 51 = .ok (.aload_n 1, 1) := by decide +kernel
theorem dX1_takeRow_52 : decode cX1_takeRow 52 = .ok (.invokevirtual 81, 3) := by decide +kernel
theorem dX1_takeRow_55 : decode cX1_takeRow 55 = .ok (.aload_n 0, 1) := by decide +kernel
theorem dX1_takeRow_56 : decode cX1_takeRow 56 = .ok (.getfield 30, 3) := by decide +kernel
theorem dX1_takeRow_59 : decode cX1_takeRow 59 = .ok (.if_icmp .gt 7, 3) := by decide +kernel
theorem dX1_takeRow_62 : decode cX1_takeRow 62 = .ok (.iconst 1, 1) := by decide +kernel
theorem dX1_takeRow_63 : decode cX1_takeRow 63 = .ok (.goto 4, 3) := by decide +kernel
theorem dX1_takeRow_66 : decode cX1_takeRow 66 = .ok (.iconst 0, 1) := by decide +kernel
theorem dX1_takeRow_67 : decode cX1_takeRow 67 = .ok (.ireturn, 1) := by decide +kernel
theorem dX1_isGoodEntry_0 : decode cX1_isGoodEntry 0 = .ok (.aload_n 0, 1) := by decide +kernel
theorem dX1_isGoodEntry_1 : decode cX1_isGoodEntry 1 = .ok (.getfield 11, 3) := by decide +kernel
theorem dX1_isGoodEntry_4 : decode cX1_isGoodEntry 4 = .ok (.iload_n 1, 1) := by decide +kernel
theorem dX1_isGoodEntry_5 : decode cX1_isGoodEntry 5 = .ok (.aaload, 1) := by decide +kernel
theorem dX1_isGoodEntry_6 : decode cX1_isGoodEntry 6 = .ok (.astore_n 2, 1) := by decide +kernel
theorem dX1_isGoodEntry_7 : decode cX1_isGoodEntry 7 = .ok (.aload_n 2, 1) := by decide +kernel
theorem dX1_isGoodEntry_8 : decode cX1_isGoodEntry 8 = .ok (.aload_n 0, 1) := by decide +kernel
theorem dX1_isGoodEntry_9 : decode cX1_isGoodEntry 9 = .ok (.getfield 39, 3) := by decide +kernel
theorem dX1_isGoodEntry_12 : decode cX1_isGoodEntry 12 = .ok (.invokevirtual 90, 3) := by decide +kernel
theorem dX1_isGoodEntry_15 : decode cX1_isGoodEntry 15 = .ok (.ifCond .ne 13, 3) := by decide +kernel
theorem dX1_isGoodEntry_18 : decode cX1_isGoodEntry 18 = .ok (.aload_n 0, 1) := by decide +kernel
theorem dX1_isGoodEntry_19 : decode cX1_isGoodEntry 19 = .ok (.iconst 4, 1) := by decide +kernel
theorem dX1_isGoodEntry_20 : decode cX1_isGoodEntry 20 = .ok (.aload_n 2, 1) := by decide +kernel
theorem dX1_isGoodEntry_21 : decode cX1_isGoodEntry 21 = .ok (.getfield 94, 3) := by decide +kernel
theorem dX1_isGoodEntry_24 : decode cX1_isGoodEntry 24 = .ok (.invokevirtual 73, 3) := by decide +kernel
theorem dX1_isGoodEntry_27 : decode cX1_isGoodEntry 27 = .ok (.ireturn, 1) := by decide +kernel
theorem dX1_isGoodEntry_28 : decode cX1_isGoodEntry 28 = .ok (.aload_n 2, 1) := by decide +kernel
theorem dX1_isGoodEntry_29 : decode cX1_isGoodEntry 29 = .ok (.invokevirtual 97, 3) := by decide +kernel
theorem dX1_isGoodEntry_32 : decode cX1_isGoodEntry 32 = .ok (.ifCond .ne 13, 3) := by decide +kernel
theorem dX1_isGoodEntry_35 : decode cX1_isGoodEntry 35 = .ok (.aload_n 0, 1) := by decide +kernel
theorem dX1_isGoodEntry_36 : decode cX1_isGoodEntry 36 = .ok (.iconst 5, 1) := by decide +kernel
theorem dX1_isGoodEntry_37 : decode cX1_isGoodEntry 37 = .ok (.aload_n 2, 1) := by decide +kernel
theorem dX1_isGoodEntry_38 : decode cX1_isGoodEntry 38 = .ok (.getfield 94, 3) := by decide +kernel
theorem dX1_isGoodEntry_41 : decode cX1_isGoodEntry 41 = .ok (.invokevirtual 73, 3) := by decide +kernel
theorem dX1_isGoodEntry_44 : decode cX1_isGoodEntry 44 = .ok (.ireturn, 1) := by decide +kernel
theorem dX1_isGoodEntry_45 : decode cX1_isGoodEntry 45 = .ok (.aload_n 0, 1) := by decide +kernel
theorem dX1_isGoodEntry_46 : decode cX1_isGoodEntry 46 = .ok (.aload_n 2, 1) := by decide +kernel
theorem dX1_isGoodEntry_47 : decode cX1_isGoodEntry 47 = .ok (.invokevirtual 100, 3) := by decide +kernel
theorem dX1_isGoodEntry_50 : decode cX1_isGoodEntry 50 = .ok (.ifCond .ne 15, 3) := by decide +kernel
theorem dX1_isGoodEntry_53 : decode cX1_isGoodEntry 53 = .ok (.aload_n 0, 1) := by decide +kernel
theorem dX1_isGoodEntry_54 : decode cX1_isGoodEntry 54 = .ok (.bipush 6, 2) := by decide +kernel
theorem dX1_isGoodEntry_56 : decode cX1_isGoodEntry 56 = .ok (.aload_n 2, 1) := by decide +kernel
theorem dX1_isGoodEntry_57 : decode cX1_isGoodEntry 57 = .ok (.getfield 104, 3) := by decide +kernel
theorem dX1_isGoodEntry_60 : decode cX1_isGoodEntry 60 = .ok (.l2i, 1) := by decide +kernel
theorem dX1_isGoodEntry_61 : decode cX1_isGoodEntry 61 = .ok (.invokevirtual 73, 3) := by decide +kernel
theorem dX1_isGoodEntry_64 : decode cX1_isGoodEntry 64 = .ok (.ireturn, 1) := by decide +kernel
theorem dX1_isGoodEntry_65 : decode cX1_isGoodEntry 65 = .ok (.aload_n 0, 1) := by decide +kernel
theorem dX1_isGoodEntry_66 : decode cX1_isGoodEntry 66 = .ok (.aload_n 2, 1) := by decide +kernel
theorem dX1_isGoodEntry_67 : decode cX1_isGoodEntry 67 = .ok (.invokevirtual 108, 3) := by decide +kernel
theorem dX1_isGoodEntry_70 : decode cX1_isGoodEntry 70 = .ok (.ifCond .ne 15, 3) := by decide +kernel
theorem dX1_isGoodEntry_73 : decode cX1_isGoodEntry 73 = .ok (.aload_n 0, 1) := by decide +kernel
theorem dX1_isGoodEntry_74 : decode cX1_isGoodEntry 74 = .ok (.bipush 7, 2) := by decide +kernel
theorem dX1_isGoodEntry_76 : decode cX1_isGoodEntry 76 = .ok (.aload_n 2, 1) := by decide +kernel
theorem dX1_isGoodEntry_77 : decode cX1_isGoodEntry 77 = .ok (.getfield 104, 3) := by decide +kernel
theorem dX1_isGoodEntry_80 : decode cX1_isGoodEntry 80 = .ok (.l2i, 1) := by decide +kernel
theorem dX1_isGoodEntry_81 : decode cX1_isGoodEntry 81 = .ok (.invokevirtual 73, 3) := by decide +kernel
theorem dX1_isGoodEntry_84 : decode cX1_isGoodEntry 84 = .ok (.ireturn, 1) := by decide +kernel
theorem dX1_isGoodEntry_85 : decode cX1_isGoodEntry 85 = .ok (.aload_n 0, 1) := by decide +kernel
theorem dX1_isGoodEntry_86 : decode cX1_isGoodEntry 86 = .ok (.aload_n 2, 1) := by decide +kernel
theorem dX1_isGoodEntry_87 : decode cX1_isGoodEntry 87 = .ok (.invokevirtual 111, 3) := by decide +kernel
theorem dX1_isGoodEntry_90 : decode cX1_isGoodEntry 90 = .ok (.ifCond .ne 14, 3) := by decide +kernel
theorem dX1_isGoodEntry_93 : decode cX1_isGoodEntry 93 = .ok (.aload_n 0, 1) := by decide +kernel
theorem dX1_isGoodEntry_94 : decode cX1_isGoodEntry 94 = .ok (.bipush 8, 2) := by decide +kernel
theorem dX1_isGoodEntry_96 : decode cX1_isGoodEntry 96 = .ok (.aload_n 2, 1) := by decide +kernel
theorem dX1_isGoodEntry_97 : decode cX1_isGoodEntry 97 = .ok (.invokevirtual 114, 3) := by decide +kernel
theorem dX1_isGoodEntry_100 : decode cX1_isGoodEntry 100 = .ok (.invokevirtual 73, 3) := by decide +kernel
theorem dX1_isGoodEntry_103 : decode cX1_isGoodEntry 103 = .ok (.ireturn, 1) := by decide +kernel
theorem dX1_isGoodEntry_104 : decode cX1_isGoodEntry 104 = .ok (.aload_n 0, 1) := by decide +kernel
theorem dX1_isGoodEntry_105 : decode cX1_isGoodEntry 105 = .ok (.iload_n 1, 1) := by decide +kernel
theorem dX1_isGoodEntry_106 : decode cX1_isGoodEntry 106 = .ok (.invokevirtual 117, 3) := by decide +kernel
theorem dX1_isGoodEntry_109 : decode cX1_isGoodEntry 109 = .ok (.ifCond .eq 15, 3) := by decide +kernel
theorem dX1_isGoodEntry_112 : decode cX1_isGoodEntry 112 = .ok (.aload_n 0, 1) := by decide +kernel
theorem dX1_isGoodEntry_113 : decode cX1_isGoodEntry 113 = .ok (.bipush 9, 2) := by decide +kernel
theorem dX1_isGoodEntry_115 : decode cX1_isGoodEntry 115 = .ok (.aload_n 2, 1) := by decide +kernel
theorem dX1_isGoodEntry_116 : decode cX1_isGoodEntry 116 = .ok (.getfield 104, 3) := by decide +kernel
theorem dX1_isGoodEntry_119 : decode cX1_isGoodEntry 119 = .ok (.l2i, 1) := by decide +kernel
theorem dX1_isGoodEntry_120 : decode cX1_isGoodEntry 120 = .ok (.invokevirtual 73, 3) := by decide +kernel
theorem dX1_isGoodEntry_123 : decode cX1_isGoodEntry 123 = .ok (.ireturn, 1) := by decide +kernel
theorem dX1_isGoodEntry_124 : decode cX1_isGoodEntry 124 = .ok (.aload_n 2, 1) := by decide +kernel
theorem dX1_isGoodEntry_125 : decode cX1_isGoodEntry 125 = .ok (.aload_n 0, 1) := by decide +kernel
theorem dX1_isGoodEntry_126 : decode cX1_isGoodEntry 126 = .ok (.getfield 39, 3) := by decide +kernel
theorem dX1_isGoodEntry_129 : decode cX1_isGoodEntry 129 = .ok (.invokevirtual 120, 3) := by decide +kernel
theorem dX1_isGoodEntry_132 : decode cX1_isGoodEntry 132 = .ok (.ifCond .ne 16, 3) := by decide +kernel
theorem dX1_isGoodEntry_135 : decode cX1_isGoodEntry 135 = .ok (.aload_n 0, 1) := by decide +kernel
theorem dX1_isGoodEntry_136 : decode cX1_isGoodEntry 136 = .ok (.bipush 10, 2) := by decide +kernel
theorem dX1_isGoodEntry_138 : decode cX1_isGoodEntry 138 = .ok (.aload_n 2, 1) := by decide +kernel
theorem dX1_isGoodEntry_139 : decode cX1_isGoodEntry 139 = .ok (.getfield 94, 3) := by decide +kernel
theorem dX1_isGoodEntry_142 : decode cX1_isGoodEntry 142 = .ok (.invokevirtual 73, 3) := by decide +kernel
theorem dX1_isGoodEntry_145 : decode cX1_isGoodEntry 145 = .ok (.ifCond .eq 7, 3) := by decide +kernel
theorem dX1_isGoodEntry_148 : decode cX1_isGoodEntry 148 = .ok (.iconst 1, 1) := by decide +kernel
theorem dX1_isGoodEntry_149 : decode cX1_isGoodEntry 149 = .ok (.goto 4, 3) := by decide +kernel
theorem dX1_isGoodEntry_152 : decode cX1_isGoodEntry 152 = .ok (.iconst 0, 1) := by decide +kernel
theorem dX1_isGoodEntry_153 : decode cX1_isGoodEntry 153 = .ok (.ireturn, 1) := by decide +kernel
theorem dX1_hasLocal_0 : decode cX1_hasLocal 0 = .ok (.aload_n 1, 1) := by decide +kernel
theorem dX1_hasLocal_1 : decode cX1_hasLocal 1 = .ok (.getfield 104, 3) := by decide +kernel
theorem dX1_hasLocal_4 : decode cX1_hasLocal 4 = .ok (.ldc2_w 123, 3) := by decide +kernel
theorem dX1_hasLocal_7 : decode cX1_hasLocal 7 = .ok (.ladd, 1) := by decide +kernel
theorem dX1_hasLocal_8 : decode cX1_hasLocal 8 = .ok (.aload_n 0, 1) := by decide +kernel
theorem dX1_hasLocal_9 : decode cX1_hasLocal 9 = .ok (.getfield 27, 3) := by decide +kernel
theorem dX1_hasLocal_12 : decode cX1_hasLocal 12 = .ok (.i2l, 1) := by decide +kernel
theorem dX1_hasLocal_13 : decode cX1_hasLocal 13 = .ok (.lcmp, 1) := by decide +kernel
theorem dX1_hasLocal_14 : decode cX1_hasLocal 14 = .ok (.ifCond .le 5, 3) := by decide +kernel
theorem dX1_hasLocal_17 : decode cX1_hasLocal 17 = .ok (.iconst 0, 1) := by decide +kernel
theorem dX1_hasLocal_18 : decode cX1_hasLocal 18 = .ok (.ireturn, 1) := by decide +kernel
theorem dX1_hasLocal_19 : decode cX1_hasLocal 19 = .ok (.aload_n 1, 1) := by decide +kernel
theorem dX1_hasLocal_20 : decode cX1_hasLocal 20 = .ok (.getfield 104, 3) := by decide +kernel
theorem dX1_hasLocal_23 : decode cX1_hasLocal 23 = .ok (.l2i, 1) := by decide +kernel
theorem dX1_hasLocal_24 : decode cX1_hasLocal 24 = .ok (.istore_n 2, 1) := by decide +kernel
theorem dX1_hasLocal_25 : decode cX1_hasLocal 25 = .ok (.bipush 30, 2) := by decide +kernel
theorem dX1_hasLocal_27 : decode cX1_hasLocal 27 = .ok (.aload_n 0, 1) := by decide +kernel
theorem dX1_hasLocal_28 : decode cX1_hasLocal 28 = .ok (.getfield 39, 3) := by decide +kernel
theorem dX1_hasLocal_31 : decode cX1_hasLocal 31 = .ok (.iload_n 2, 1) := by decide +kernel
theorem dX1_hasLocal_32 : decode cX1_hasLocal 32 = .ok (.bipush 26, 2) := by decide +kernel
theorem dX1_hasLocal_34 : decode cX1_hasLocal 34 = .ok (.iadd, 1) := by decide +kernel
theorem dX1_hasLocal_35 : decode cX1_hasLocal 35 = .ok (.invokevirtual 69, 3) := by decide +kernel
theorem dX1_hasLocal_38 : decode cX1_hasLocal 38 = .ok (.iadd, 1) := by decide +kernel
theorem dX1_hasLocal_39 : decode cX1_hasLocal 39 = .ok (.aload_n 0, 1) := by decide +kernel
theorem dX1_hasLocal_40 : decode cX1_hasLocal 40 = .ok (.getfield 39, 3) := by decide +kernel
theorem dX1_hasLocal_43 : decode cX1_hasLocal 43 = .ok (.iload_n 2, 1) := by decide +kernel
theorem dX1_hasLocal_44 : decode cX1_hasLocal 44 = .ok (.bipush 28, 2) := by decide +kernel
theorem dX1_hasLocal_46 : decode cX1_hasLocal 46 = .ok (.iadd, 1) := by decide +kernel
theorem dX1_hasLocal_47 : decode cX1_hasLocal 47 = .ok (.invokevirtual 69, 3) := by decide +kernel
theorem dX1_hasLocal_50 : decode cX1_hasLocal 50 = .ok (.iadd, 1) := by decide +kernel
theorem dX1_hasLocal_51 : decode cX1_hasLocal 51 = .ok (.istore_n 3, 1) := by decide +kernel
theorem dX1_hasLocal_52 : decode cX1_hasLocal 52 = .ok (.aload_n 0, 1) := by decide +kernel
theorem dX1_hasLocal_53 : decode cX1_hasLocal 53 = .ok (.getfield 39, 3) := by decide +kernel
theorem dX1_hasLocal_56 : decode cX1_hasLocal 56 = .ok (.iload_n 2, 1) := by decide +kernel
theorem dX1_hasLocal_57 : decode cX1_hasLocal 57 = .ok (.invokevirtual 63, 3) := by decide +kernel
theorem dX1_hasLocal_60 : decode cX1_hasLocal 60 = .ok (.ldc2_w 125, 3) := by decide +kernel
theorem dX1_hasLocal_63 : decode cX1_hasLocal 63 = .ok (.lcmp, 1) := by decide +kernel
theorem dX1_hasLocal_64 : decode cX1_hasLocal 64 = .ok (.ifCond .ne 17, 3) := by decide +kernel
theorem dX1_hasLocal_67 : decode cX1_hasLocal 67 = .ok (.iload_n 2, 1) := by decide +kernel
theorem dX1_hasLocal_68 : decode cX1_hasLocal 68 = .ok (.iload_n 3, 1) := by decide +kernel
theorem dX1_hasLocal_69 : decode cX1_hasLocal 69 = .ok (.iadd, 1) := by decide +kernel
theorem dX1_hasLocal_70 : decode cX1_hasLocal 70 = .ok (.aload_n 0, 1) := by decide +kernel
theorem dX1_hasLocal_71 : decode cX1_hasLocal 71 = .ok (.getfield 27, 3) := by decide +kernel
theorem dX1_hasLocal_74 : decode cX1_hasLocal 74 = .ok (.if_icmp .gt 7, 3) := by decide +kernel
theorem dX1_hasLocal_77 : decode cX1_hasLocal 77 = .ok (.iconst 1, 1) := by decide +kernel
theorem dX1_hasLocal_78 : decode cX1_hasLocal 78 = .ok (.goto 4, 3) := by decide +kernel
theorem dX1_hasLocal_81 : decode cX1_hasLocal 81 = .ok (.iconst 0, 1) := by decide +kernel
theorem dX1_hasLocal_82 : decode cX1_hasLocal 82 = .ok (.ireturn, 1) := by decide +kernel
theorem dX1_isLocalAsTold_0 : decode cX1_isLocalAsTold 0 = .ok (.aload_n 1, 1) := by decide +kernel
theorem dX1_isLocalAsTold_1 : decode cX1_isLocalAsTold 1 = .ok (.getfield 104, 3) := by decide +kernel
theorem dX1_isLocalAsTold_4 : decode cX1_isLocalAsTold 4 = .ok (.l2i, 1) := by decide +kernel
theorem dX1_isLocalAsTold_5 : decode cX1_isLocalAsTold 5 = .ok (.istore_n 2, 1) := by decide +kernel
theorem dX1_isLocalAsTold_6 : decode cX1_isLocalAsTold 6 = .ok (.aload_n 0, 1) := by decide +kernel
theorem dX1_isLocalAsTold_7 : decode cX1_isLocalAsTold 7 = .ok (.getfield 39, 3) := by decide +kernel
theorem dX1_isLocalAsTold_10 : decode cX1_isLocalAsTold 10 = .ok (.iload_n 2, 1) := by decide +kernel
theorem dX1_isLocalAsTold_11 : decode cX1_isLocalAsTold 11 = .ok (.iconst 4, 1) := by decide +kernel
theorem dX1_isLocalAsTold_12 : decode cX1_isLocalAsTold 12 = .ok (.iadd, 1) := by decide +kernel
theorem dX1_isLocalAsTold_13 : decode cX1_isLocalAsTold 13 = .ok (.aload_n 1, 1) := by decide +kernel
theorem dX1_isLocalAsTold_14 : decode cX1_isLocalAsTold 14 = .ok (.getfield 94, 3) := by decide +kernel
theorem dX1_isLocalAsTold_17 : decode cX1_isLocalAsTold 17 = .ok (.bipush 6, 2) := by decide +kernel
theorem dX1_isLocalAsTold_19 : decode cX1_isLocalAsTold 19 = .ok (.iadd, 1) := by decide +kernel
theorem dX1_isLocalAsTold_20 : decode cX1_isLocalAsTold 20 = .ok (.bipush 10, 2) := by decide +kernel
theorem dX1_isLocalAsTold_22 : decode cX1_isLocalAsTold 22 = .ok (.invokevirtual 127, 3) := by decide +kernel
theorem dX1_isLocalAsTold_25 : decode cX1_isLocalAsTold 25 = .ok (.ifCond .eq 25, 3) := by decide +kernel
theorem dX1_isLocalAsTold_28 : decode cX1_isLocalAsTold 28 = .ok (.aload_n 0, 1) := by decide +kernel
theorem dX1_isLocalAsTold_29 : decode cX1_isLocalAsTold 29 = .ok (.getfield 39, 3) := by decide +kernel
theorem dX1_isLocalAsTold_32 : decode cX1_isLocalAsTold 32 = .ok (.iload_n 2, 1) := by decide +kernel
theorem dX1_isLocalAsTold_33 : decode cX1_isLocalAsTold 33 = .ok (.bipush 26, 2) := by decide +kernel
theorem dX1_isLocalAsTold_35 : decode cX1_isLocalAsTold 35 = .ok (.iadd, 1) := by decide +kernel
theorem dX1_isLocalAsTold_36 : decode cX1_isLocalAsTold 36 = .ok (.aload_n 1, 1) := by decide +kernel
theorem dX1_isLocalAsTold_37 : decode cX1_isLocalAsTold 37 = .ok (.getfield 94, 3) := by decide +kernel
theorem dX1_isLocalAsTold_40 : decode cX1_isLocalAsTold 40 = .ok (.bipush 28, 2) := by decide +kernel
theorem dX1_isLocalAsTold_42 : decode cX1_isLocalAsTold 42 = .ok (.iadd, 1) := by decide +kernel
theorem dX1_isLocalAsTold_43 : decode cX1_isLocalAsTold 43 = .ok (.iconst 4, 1) := by decide +kernel
theorem dX1_isLocalAsTold_44 : decode cX1_isLocalAsTold 44 = .ok (.invokevirtual 127, 3) := by decide +kernel
theorem dX1_isLocalAsTold_47 : decode cX1_isLocalAsTold 47 = .ok (.ifCond .ne 5, 3) := by decide +kernel
theorem dX1_isLocalAsTold_50 : decode cX1_isLocalAsTold 50 = .ok (.iconst 0, 1) := by decide +kernel
theorem dX1_isLocalAsTold_51 : decode cX1_isLocalAsTold 51 = .ok (.ireturn, 1) := by decide +kernel
theorem dX1_isLocalAsTold_52 : decode cX1_isLocalAsTold 52 = .ok (.aload_n 0, 1) := by decide +kernel
theorem dX1_isLocalAsTold_53 : decode cX1_isLocalAsTold 53 = .ok (.getfield 39, 3) := by decide +kernel
theorem dX1_isLocalAsTold_56 : decode cX1_isLocalAsTold 56 = .ok (.iload_n 2, 1) := by decide +kernel
theorem dX1_isLocalAsTold_57 : decode cX1_isLocalAsTold 57 = .ok (.bipush 30, 2) := by decide +kernel
theorem dX1_isLocalAsTold_59 : decode cX1_isLocalAsTold 59 = .ok (.iadd, 1) := by decide +kernel
theorem dX1_isLocalAsTold_60 : decode cX1_isLocalAsTold 60 = .ok (.aload_n 1, 1) := by decide +kernel
theorem dX1_isLocalAsTold_61 : decode cX1_isLocalAsTold 61 = .ok (.invokevirtual 131, 3) := by decide +kernel
theorem dX1_isLocalAsTold_64 : decode cX1_isLocalAsTold 64 = .ok (.aload_n 1, 1) := by decide +kernel
theorem dX1_isLocalAsTold_65 : decode cX1_isLocalAsTold 65 = .ok (.getfield 134, 3) := by decide +kernel
theorem dX1_isLocalAsTold_68 : decode cX1_isLocalAsTold 68 = .ok (.aload_n 1, 1) := by decide +kernel
theorem dX1_isLocalAsTold_69 : decode cX1_isLocalAsTold 69 = .ok (.getfield 137, 3) := by decide +kernel
theorem dX1_isLocalAsTold_72 : decode cX1_isLocalAsTold 72 = .ok (.iadd, 1) := by decide +kernel
theorem dX1_isLocalAsTold_73 : decode cX1_isLocalAsTold 73 = .ok (.invokevirtual 127, 3) := by decide +kernel
theorem dX1_isLocalAsTold_76 : decode cX1_isLocalAsTold 76 = .ok (.ifCond .ne 5, 3) := by decide +kernel
theorem dX1_isLocalAsTold_79 : decode cX1_isLocalAsTold 79 = .ok (.iconst 0, 1) := by decide +kernel
theorem dX1_isLocalAsTold_80 : decode cX1_isLocalAsTold 80 = .ok (.ireturn, 1) := by decide +kernel
theorem dX1_isLocalAsTold_81 : decode cX1_isLocalAsTold 81 = .ok (.aload_n 1, 1) := by decide +kernel
theorem dX1_isLocalAsTold_82 : decode cX1_isLocalAsTold 82 = .ok (.invokevirtual 140, 3) := by decide +kernel
theorem dX1_isLocalAsTold_85 : decode cX1_isLocalAsTold 85 = .ok (.iconst 1, 1) := by decide +kernel
theorem dX1_isLocalAsTold_86 : decode cX1_isLocalAsTold 86 = .ok (.if_icmp .ne 41, 3) := by decide +kernel
theorem dX1_isLocalAsTold_89 : decode cX1_isLocalAsTold 89 = .ok (.aload_n 0, 1) := by decide +kernel
theorem dX1_isLocalAsTold_90 : decode cX1_isLocalAsTold 90 = .ok (.getfield 39, 3) := by decide +kernel
theorem dX1_isLocalAsTold_93 : decode cX1_isLocalAsTold 93 = .ok (.iload_n 2, 1) := by decide +kernel
theorem dX1_isLocalAsTold_94 : decode cX1_isLocalAsTold 94 = .ok (.bipush 14, 2) := by decide +kernel
theorem dX1_isLocalAsTold_96 : decode cX1_isLocalAsTold 96 = .ok (.iadd, 1) := by decide +kernel
theorem dX1_isLocalAsTold_97 : decode cX1_isLocalAsTold 97 = .ok (.invokevirtual 63, 3) := by decide +kernel
theorem dX1_isLocalAsTold_100 : decode cX1_isLocalAsTold 100 = .ok (.lconst 0, 1) := by decide +kernel
theorem dX1_isLocalAsTold_101 : decode cX1_isLocalAsTold 101 = .ok (.lcmp, 1) := by decide +kernel
theorem dX1_isLocalAsTold_102 : decode cX1_isLocalAsTold 102 = .ok (.ifCond .ne 23, 3) := by decide +kernel
theorem dX1_isLocalAsTold_105 : decode cX1_isLocalAsTold 105 = .ok (.aload_n 0, 1) := by decide +kernel
theorem dX1_isLocalAsTold_106 : decode cX1_isLocalAsTold 106 = .ok (.getfield 39, 3) := by decide +kernel
theorem dX1_isLocalAsTold_109 : decode cX1_isLocalAsTold 109 = .ok (.iload_n 2, 1) := by decide +kernel
theorem dX1_isLocalAsTold_110 : decode cX1_isLocalAsTold 110 = .ok (.bipush 18, 2) := by decide +kernel
theorem dX1_isLocalAsTold_112 : decode cX1_isLocalAsTold 112 = .ok (.iadd, 1) := by decide +kernel
theorem dX1_isLocalAsTold_113 : decode cX1_isLocalAsTold 113 = .ok (.invokevirtual 143, 3) := by decide +kernel
theorem dX1_isLocalAsTold_116 : decode cX1_isLocalAsTold 116 = .ok (.lconst 0, 1) := by decide +kernel
theorem dX1_isLocalAsTold_117 : decode cX1_isLocalAsTold 117 = .ok (.lcmp, 1) := by decide +kernel
theorem dX1_isLocalAsTold_118 : decode cX1_isLocalAsTold 118 = .ok (.ifCond .ne 7, 3) := by decide +kernel
theorem dX1_isLocalAsTold_121 : decode cX1_isLocalAsTold 121 = .ok (.iconst 1, 1) := by decide +kernel
theorem dX1_isLocalAsTold_122 : decode cX1_isLocalAsTold 122 = .ok (.goto 4, 3) := by decide +kernel
theorem dX1_isLocalAsTold_125 : decode cX1_isLocalAsTold 125 = .ok (.iconst 0, 1) := by decide +kernel
theorem dX1_isLocalAsTold_126 : decode cX1_isLocalAsTold 126 = .ok (.ireturn, 1) := by decide +kernel
theorem dX1_isLocalAsTold_127 : decode cX1_isLocalAsTold 127 = .ok (.aload_n 0, 1) := by decide +kernel
theorem dX1_isLocalAsTold_128 : decode cX1_isLocalAsTold 128 = .ok (.getfield 39, 3) := by decide +kernel
theorem dX1_isLocalAsTold_131 : decode cX1_isLocalAsTold 131 = .ok (.iload_n 2, 1) := by decide +kernel
theorem dX1_isLocalAsTold_132 : decode cX1_isLocalAsTold 132 = .ok (.bipush 14, 2) := by decide +kernel
theorem dX1_isLocalAsTold_134 : decode cX1_isLocalAsTold 134 = .ok (.iadd, 1) := by decide +kernel
theorem dX1_isLocalAsTold_135 : decode cX1_isLocalAsTold 135 = .ok (.aload_n 1, 1) := by decide +kernel
theorem dX1_isLocalAsTold_136 : decode cX1_isLocalAsTold 136 = .ok (.getfield 94, 3) := by decide +kernel
theorem dX1_isLocalAsTold_139 : decode cX1_isLocalAsTold 139 = .ok (.bipush 16, 2) := by decide +kernel
theorem dX1_isLocalAsTold_141 : decode cX1_isLocalAsTold 141 = .ok (.iadd, 1) := by decide +kernel
theorem dX1_isLocalAsTold_142 : decode cX1_isLocalAsTold 142 = .ok (.bipush 12, 2) := by decide +kernel
theorem dX1_isLocalAsTold_144 : decode cX1_isLocalAsTold 144 = .ok (.invokevirtual 127, 3) := by decide +kernel
theorem dX1_isLocalAsTold_147 : decode cX1_isLocalAsTold 147 = .ok (.ireturn, 1) := by decide +kernel
theorem dX1_hasDataAsTold_0 : decode cX1_hasDataAsTold 0 = .ok (.aload_n 1, 1) := by decide +kernel
theorem dX1_hasDataAsTold_1 : decode cX1_hasDataAsTold 1 = .ok (.invokevirtual 114, 3) := by decide +kernel
theorem dX1_hasDataAsTold_4 : decode cX1_hasDataAsTold 4 = .ok (.aload_n 1, 1) := by decide +kernel
theorem dX1_hasDataAsTold_5 : decode cX1_hasDataAsTold 5 = .ok (.getfield 146, 3) := by decide +kernel
theorem dX1_hasDataAsTold_8 : decode cX1_hasDataAsTold 8 = .ok (.l2i, 1) := by decide +kernel
theorem dX1_hasDataAsTold_9 : decode cX1_hasDataAsTold 9 = .ok (.iadd, 1) := by decide +kernel
theorem dX1_hasDataAsTold_10 : decode cX1_hasDataAsTold 10 = .ok (.istore_n 2, 1) := by decide +kernel
theorem dX1_hasDataAsTold_11 : decode cX1_hasDataAsTold 11 = .ok (.aload_n 1, 1) := by decide +kernel
theorem dX1_hasDataAsTold_12 : decode cX1_hasDataAsTold 12 = .ok (.invokevirtual 140, 3) := by decide +kernel
theorem dX1_hasDataAsTold_15 : decode cX1_hasDataAsTold 15 = .ok (.iconst 1, 1) := by decide +kernel
theorem dX1_hasDataAsTold_16 : decode cX1_hasDataAsTold 16 = .ok (.if_icmp .ne 7, 3) := by decide +kernel
theorem dX1_hasDataAsTold_19 : decode cX1_hasDataAsTold 19 = .ok (.iconst 1, 1) := by decide +kernel
theorem dX1_hasDataAsTold_20 : decode cX1_hasDataAsTold 20 = .ok (.goto 4, 3) := by decide +kernel
theorem dX1_hasDataAsTold_23 : decode cX1_hasDataAsTold 23 = .ok (.iconst 0, 1) := by decide +kernel
theorem dX1_hasDataAsTold_24 : decode cX1_hasDataAsTold 24 = .ok (.istore_n 3, 1) := by decide +kernel
theorem dX1_hasDataAsTold_25 : decode cX1_hasDataAsTold 25 = .ok (.aload_n 1, 1) := by decide +kernel
theorem dX1_hasDataAsTold_26 : decode cX1_hasDataAsTold 26 = .ok (.iload_n 3, 1) := by decide +kernel
theorem dX1_hasDataAsTold_27 : decode cX1_hasDataAsTold 27 = .ok (.ifCond .eq 10, 3) := by decide +kernel
theorem dX1_hasDataAsTold_30 : decode cX1_hasDataAsTold 30 = .ok (.iload_n 2, 1) := by decide +kernel
theorem dX1_hasDataAsTold_31 : decode cX1_hasDataAsTold 31 = .ok (.bipush 16, 2) := by decide +kernel
theorem dX1_hasDataAsTold_33 : decode cX1_hasDataAsTold 33 = .ok (.iadd, 1) := by decide +kernel
theorem dX1_hasDataAsTold_34 : decode cX1_hasDataAsTold 34 = .ok (.goto 4, 3) := by decide +kernel
theorem dX1_hasDataAsTold_37 : decode cX1_hasDataAsTold 37 = .ok (.iload_n 2, 1) := by decide +kernel
theorem dX1_hasDataAsTold_38 : decode cX1_hasDataAsTold 38 = .ok (.putfield 149, 3) := by decide +kernel
theorem dX1_hasDataAsTold_41 : decode cX1_hasDataAsTold 41 = .ok (.aload_n 1, 1) := by decide +kernel
theorem dX1_hasDataAsTold_42 : decode cX1_hasDataAsTold 42 = .ok (.getfield 149, 3) := by decide +kernel
theorem dX1_hasDataAsTold_45 : decode cX1_hasDataAsTold 45 = .ok (.aload_n 0, 1) := by decide +kernel
theorem dX1_hasDataAsTold_46 : decode cX1_hasDataAsTold 46 = .ok (.getfield 27, 3) := by decide +kernel
theorem dX1_hasDataAsTold_49 : decode cX1_hasDataAsTold 49 = .ok (.if_icmp .le 5, 3) := by decide +kernel
theorem dX1_hasDataAsTold_52 : decode cX1_hasDataAsTold 52 = .ok (.iconst 0, 1) := by decide +kernel
theorem dX1_hasDataAsTold_53 : decode cX1_hasDataAsTold 53 = .ok (.ireturn, 1) := by decide +kernel
theorem dX1_hasDataAsTold_54 : decode cX1_hasDataAsTold 54 = .ok (.iload_n 3, 1) := by decide +kernel
theorem dX1_hasDataAsTold_55 : decode cX1_hasDataAsTold 55 = .ok (.ifCond .eq 40, 3) := by decide +kernel
theorem dX1_hasDataAsTold_58 : decode cX1_hasDataAsTold 58 = .ok (.aload_n 0, 1) := by decide +kernel
theorem dX1_hasDataAsTold_59 : decode cX1_hasDataAsTold 59 = .ok (.getfield 39, 3) := by decide +kernel
theorem dX1_hasDataAsTold_62 : decode cX1_hasDataAsTold 62 = .ok (.iload_n 2, 1) := by decide +kernel
theorem dX1_hasDataAsTold_63 : decode cX1_hasDataAsTold 63 = .ok (.invokevirtual 63, 3) := by decide +kernel
theorem dX1_hasDataAsTold_66 : decode cX1_hasDataAsTold 66 = .ok (.ldc2_w 152, 3) := by decide +kernel
theorem dX1_hasDataAsTold_69 : decode cX1_hasDataAsTold 69 = .ok (.lcmp, 1) := by decide +kernel
theorem dX1_hasDataAsTold_70 : decode cX1_hasDataAsTold 70 = .ok (.ifCond .ne 29, 3) := by decide +kernel
theorem dX1_hasDataAsTold_73 : decode cX1_hasDataAsTold 73 = .ok (.aload_n 0, 1) := by decide +kernel
theorem dX1_hasDataAsTold_74 : decode cX1_hasDataAsTold 74 = .ok (.getfield 39, 3) := by decide +kernel
theorem dX1_hasDataAsTold_77 : decode cX1_hasDataAsTold 77 = .ok (.iload_n 2, 1) := by decide +kernel
theorem dX1_hasDataAsTold_78 : decode cX1_hasDataAsTold 78 = .ok (.iconst 4, 1) := by decide +kernel
theorem dX1_hasDataAsTold_79 : decode cX1_hasDataAsTold 79 = .ok (.iadd, 1) := by decide +kernel
theorem dX1_hasDataAsTold_80 : decode cX1_hasDataAsTold 80 = .ok (.aload_n 1, 1) := by decide +kernel
theorem dX1_hasDataAsTold_81 : decode cX1_hasDataAsTold 81 = .ok (.getfield 94, 3) := by decide +kernel
theorem dX1_hasDataAsTold_84 : decode cX1_hasDataAsTold 84 = .ok (.bipush 16, 2) := by decide +kernel
theorem dX1_hasDataAsTold_86 : decode cX1_hasDataAsTold 86 = .ok (.iadd, 1) := by decide +kernel
theorem dX1_hasDataAsTold_87 : decode cX1_hasDataAsTold 87 = .ok (.bipush 12, 2) := by decide +kernel
theorem dX1_hasDataAsTold_89 : decode cX1_hasDataAsTold 89 = .ok (.invokevirtual 127, 3) := by decide +kernel
theorem dX1_hasDataAsTold_92 : decode cX1_hasDataAsTold 92 = .ok (.ifCond .eq 7, 3) := by decide +kernel
theorem dX1_hasDataAsTold_95 : decode cX1_hasDataAsTold 95 = .ok (.iconst 1, 1) := by decide +kernel
theorem dX1_hasDataAsTold_96 : decode cX1_hasDataAsTold 96 = .ok (.goto 4, 3) := by decide +kernel
theorem dX1_hasDataAsTold_99 : decode cX1_hasDataAsTold 99 = .ok (.iconst 0, 1) := by decide +kernel
theorem dX1_hasDataAsTold_100 : decode cX1_hasDataAsTold 100 = .ok (.ireturn, 1) := by decide +kernel
theorem dX1_sharesBytes_0 : decode cX1_sharesBytes 0 = .ok (.aload_n 0, 1) := by decide +kernel
theorem dX1_sharesBytes_1 : decode cX1_sharesBytes 1 = .ok (.getfield 11, 3) := by decide +kernel
theorem dX1_sharesBytes_4 : decode cX1_sharesBytes 4 = .ok (.iload_n 1, 1) := by decide +kernel
theorem dX1_sharesBytes_5 : decode cX1_sharesBytes 5 = .ok (.aaload, 1) := by decide +kernel
theorem dX1_sharesBytes_6 : decode cX1_sharesBytes 6 = .ok (.astore_n 2, 1) := by decide +kernel
theorem dX1_sharesBytes_7 : decode cX1_sharesBytes 7 = .ok (.iconst 0, 1) := by decide +kernel
theorem dX1_sharesBytes_8 : decode cX1_sharesBytes 8 = .ok (.istore_n 3, 1) := by decide +kernel
theorem dX1_sharesBytes_9 : decode cX1_sharesBytes 9 = .ok (.iload_n 3, 1) := by decide +kernel
theorem dX1_sharesBytes_10 : decode cX1_sharesBytes 10 = .ok (.iload_n 1, 1) := by decide +kernel
theorem dX1_sharesBytes_11 : decode cX1_sharesBytes 11 = .ok (.if_icmp .ge 47, 3) := by decide +kernel
theorem dX1_sharesBytes_14 : decode cX1_sharesBytes 14 = .ok (.aload_n 2, 1) := by decide +kernel
theorem dX1_sharesBytes_15 : decode cX1_sharesBytes 15 = .ok (.getfield 104, 3) := by decide +kernel
theorem dX1_sharesBytes_18 : decode cX1_sharesBytes 18 = .ok (.aload_n 0, 1) := by decide +kernel
theorem dX1_sharesBytes_19 : decode cX1_sharesBytes 19 = .ok (.getfield 11, 3) := by decide +kernel
theorem dX1_sharesBytes_22 : decode cX1_sharesBytes 22 = .ok (.iload_n 3, 1) := by decide +kernel
theorem dX1_sharesBytes_23 : decode cX1_sharesBytes 23 = .ok (.aaload, 1) := by decide +kernel
theorem dX1_sharesBytes_24 : decode cX1_sharesBytes 24 = .ok (.getfield 149, 3) := by decide +kernel
theorem dX1_sharesBytes_27 : decode cX1_sharesBytes 27 = .ok (.i2l, 1) := by decide +kernel
theorem dX1_sharesBytes_28 : decode cX1_sharesBytes 28 = .ok (.lcmp, 1) := by decide +kernel
theorem dX1_sharesBytes_29 : decode cX1_sharesBytes 29 = .ok (.ifCond .ge 23, 3) := by decide +kernel
theorem dX1_sharesBytes_32 : decode cX1_sharesBytes 32 = .ok (.aload_n 0, 1) := by decide +kernel
theorem dX1_sharesBytes_33 : decode cX1_sharesBytes 33 = .ok (.getfield 11, 3) := by decide +kernel
theorem dX1_sharesBytes_36 : decode cX1_sharesBytes 36 = .ok (.iload_n 3, 1) := by decide +kernel
theorem dX1_sharesBytes_37 : decode cX1_sharesBytes 37 = .ok (.aaload, 1) := by decide +kernel
theorem dX1_sharesBytes_38 : decode cX1_sharesBytes 38 = .ok (.getfield 104, 3) := by decide +kernel
theorem dX1_sharesBytes_41 : decode cX1_sharesBytes 41 = .ok (.aload_n 2, 1) := by decide +kernel
theorem dX1_sharesBytes_42 : decode cX1_sharesBytes 42 = .ok (.getfield 149, 3) := by decide +kernel
theorem dX1_sharesBytes_45 : decode cX1_sharesBytes 45 = .ok (.i2l, 1) := by decide +kernel
theorem dX1_sharesBytes_46 : decode cX1_sharesBytes 46 = .ok (.lcmp, 1) := by decide +kernel
theorem dX1_sharesBytes_47 : decode cX1_sharesBytes 47 = .ok (.ifCond .ge 5, 3) := by decide +kernel
theorem dX1_sharesBytes_50 : decode cX1_sharesBytes 50 = .ok (.iconst 1, 1) := by decide +kernel
theorem dX1_sharesBytes_51 : decode cX1_sharesBytes 51 = .ok (.ireturn, 1) := by decide +kernel
theorem dX1_sharesBytes_52 : decode cX1_sharesBytes 52 = .ok (.iinc 3 1, 3) := by decide +kernel
theorem dX1_sharesBytes_55 : decode cX1_sharesBytes 55 = .ok (.goto (-46), 3) := by decide +kernel
theorem dX1_sharesBytes_58 : decode cX1_sharesBytes 58 = .ok (.iconst 0, 1) := by decide +kernel
theorem dX1_sharesBytes_59 : decode cX1_sharesBytes 59 = .ok (.ireturn, 1) := by decide +kernel
theorem dX2_init_0 : decode cX2_init 0 = .ok (.aload_n 0, 1) := by decide +kernel
theorem dX2_init_1 : decode cX2_init 1 = .ok (.invokespecial 3, 3) := by decide +kernel
theorem dX2_init_4 : decode cX2_init 4 = .ok (.aload_n 0, 1) := by decide +kernel
theorem dX2_init_5 : decode cX2_init 5 = .ok (.iconst 0, 1) := by decide +kernel
theorem dX2_init_6 : decode cX2_init 6 = .ok (.putfield 9, 3) := by decide +kernel
theorem dX2_init_9 : decode cX2_init 9 = .ok (.aload_n 0, 1) := by decide +kernel
theorem dX2_init_10 : decode cX2_init 10 = .ok (.iconst 0, 1) := by decide +kernel
theorem dX2_init_11 : decode cX2_init 11 = .ok (.putfield 15, 3) := by decide +kernel
theorem dX2_init_14 : decode cX2_init 14 = .ok (.aload_n 0, 1) := by decide +kernel
theorem dX2_init_15 : decode cX2_init 15 = .ok (.iconst 0, 1) := by decide +kernel
theorem dX2_init_16 : decode cX2_init 16 = .ok (.putfield 18, 3) := by decide +kernel
theorem dX2_init_19 : decode cX2_init 19 = .ok (.aload_n 0, 1) := by decide +kernel
theorem dX2_init_20 : decode cX2_init 20 = .ok (.iconst 0, 1) := by decide +kernel
theorem dX2_init_21 : decode cX2_init 21 = .ok (.putfield 21, 3) := by decide +kernel
theorem dX2_init_24 : decode cX2_init 24 = .ok (.aload_n 0, 1) := by decide +kernel
theorem dX2_init_25 : decode cX2_init 25 = .ok (.iconst 0, 1) := by decide +kernel
theorem dX2_init_26 : decode cX2_init 26 = .ok (.putfield 24, 3) := by decide +kernel
theorem dX2_init_29 : decode cX2_init 29 = .ok (.aload_n 0, 1) := by decide +kernel
theorem dX2_init_30 : decode cX2_init 30 = .ok (.iconst 0, 1) := by decide +kernel
theorem dX2_init_31 : decode cX2_init 31 = .ok (.putfield 27, 3) := by decide +kernel
theorem dX2_init_34 : decode cX2_init 34 = .ok (.aload_n 0, 1) := by decide +kernel
theorem dX2_init_35 : decode cX2_init 35 = .ok (.iconst 0, 1) := by decide +kernel
theorem dX2_init_36 : decode cX2_init 36 = .ok (.putfield 30, 3) := by decide +kernel
theorem dX2_init_39 : decode cX2_init 39 = .ok (.aload_n 0, 1) := by decide +kernel
theorem dX2_init_40 : decode cX2_init 40 = .ok (.iconst 0, 1) := by decide +kernel
theorem dX2_init_41 : decode cX2_init 41 = .ok (.putfield 33, 3) := by decide +kernel
theorem dX2_init_44 : decode cX2_init 44 = .ok (.aload_n 0, 1) := by decide +kernel
theorem dX2_init_45 : decode cX2_init 45 = .ok (.iconst 0, 1) := by decide +kernel
theorem dX2_init_46 : decode cX2_init 46 = .ok (.putfield 36, 3) := by decide +kernel
theorem dX2_init_49 : decode cX2_init 49 = .ok (.aload_n 0, 1) := by decide +kernel
theorem dX2_init_50 : decode cX2_init 50 = .ok (.iconst 0, 1) := by decide +kernel
theorem dX2_init_51 : decode cX2_init 51 = .ok (.putfield 39, 3) := by decide +kernel
theorem dX2_init_54 : decode cX2_init 54 = .ok (.aload_n 0, 1) := by decide +kernel
theorem dX2_init_55 : decode cX2_init 55 = .ok (.iconst 0, 1) := by decide +kernel
theorem dX2_init_56 : decode cX2_init 56 = .ok (.putfield 42, 3) := by decide +kernel
theorem dX2_init_59 : decode cX2_init 59 = .ok (.aload_n 0, 1) := by decide +kernel
theorem dX2_init_60 : decode cX2_init 60 = .ok (.iconst 0, 1) := by decide +kernel
theorem dX2_init_61 : decode cX2_init 61 = .ok (.putfield 46, 3) := by decide +kernel
theorem dX2_init_64 : decode cX2_init 64 = .ok (.aload_n 0, 1) := by decide +kernel
theorem dX2_init_65 : decode cX2_init 65 = .ok (.lconst 0, 1) := by decide +kernel
theorem dX2_init_66 : decode cX2_init 66 = .ok (.putfield 49, 3) := by decide +kernel
theorem dX2_init_69 : decode cX2_init 69 = .ok (.aload_n 0, 1) := by decide +kernel
theorem dX2_init_70 : decode cX2_init 70 = .ok (.lconst 0, 1) := by decide +kernel
theorem dX2_init_71 : decode cX2_init 71 = .ok (.putfield 53, 3) := by decide +kernel
theorem dX2_init_74 : decode cX2_init 74 = .ok (.aload_n 0, 1) := by decide +kernel
theorem dX2_init_75 : decode cX2_init 75 = .ok (.lconst 0, 1) := by decide +kernel
theorem dX2_init_76 : decode cX2_init 76 = .ok (.putfield 56, 3) := by decide +kernel
theorem dX2_init_79 : decode cX2_init 79 = .ok (.aload_n 0, 1) := by decide +kernel
theorem dX2_init_80 : decode cX2_init 80 = .ok (.lconst 0, 1) := by decide +kernel
theorem dX2_init_81 : decode cX2_init 81 = .ok (.putfield 59, 3) := by decide +kernel
theorem dX2_init_84 : decode cX2_init 84 = .ok (.aload_n 0, 1) := by decide +kernel
theorem dX2_init_85 : decode cX2_init 85 = .ok (.lconst 0, 1) := by decide +kernel
theorem dX2_init_86 : decode cX2_init 86 = .ok (.putfield 62, 3) := by decide +kernel
theorem dX2_init_89 : decode cX2_init 89 = .ok (.aload_n 0, 1) := by decide +kernel
theorem dX2_init_90 : decode cX2_init 90 = .ok (.lconst 0, 1) := by decide +kernel
theorem dX2_init_91 : decode cX2_init 91 = .ok (.putfield 65, 3) := by decide +kernel
theorem dX2_init_94 : decode cX2_init 94 = .ok (.aload_n 0, 1) := by decide +kernel
theorem dX2_init_95 : decode cX2_init 95 = .ok (.iconst 0, 1) := by decide +kernel
theorem dX2_init_96 : decode cX2_init 96 = .ok (.putfield 68, 3) := by decide +kernel
theorem dX2_init_99 : decode cX2_init 99 = .ok (.return_, 1) := by decide +kernel
theorem dX2_takeFixed_0 : decode cX2_takeFixed 0 = .ok (.aload_n 0, 1) := by decide +kernel
theorem dX2_takeFixed_1 : decode cX2_takeFixed 1 = .ok (.iload_n 2, 1) := by decide +kernel
theorem dX2_takeFixed_2 : decode cX2_takeFixed 2 = .ok (.putfield 9, 3) := by decide +kernel
theorem dX2_takeFixed_5 : decode cX2_takeFixed 5 = .ok (.aload_n 0, 1) := by decide +kernel
theorem dX2_takeFixed_6 : decode cX2_takeFixed 6 = .ok (.aload_n 1, 1) := by decide +kernel
theorem dX2_takeFixed_7 : decode cX2_takeFixed 7 = .ok (.aload_n 0, 1) := by decide +kernel
theorem dX2_takeFixed_8 : decode cX2_takeFixed 8 = .ok (.getfield 9, 3) := by decide +kernel
theorem dX2_takeFixed_11 : decode cX2_takeFixed 11 = .ok (.bipush 8, 2) := by decide +kernel
theorem dX2_takeFixed_13 : decode cX2_takeFixed 13 = .ok (.iadd, 1) := by decide +kernel
theorem dX2_takeFixed_14 : decode cX2_takeFixed 14 = .ok (.invokevirtual 71, 3) := by decide +kernel
theorem dX2_takeFixed_17 : decode cX2_takeFixed 17 = .ok (.putfield 15, 3) := by decide +kernel
theorem dX2_takeFixed_20 : decode cX2_takeFixed 20 = .ok (.aload_n 0, 1) := by decide +kernel
theorem dX2_takeFixed_21 : decode cX2_takeFixed 21 = .ok (.aload_n 1, 1) := by decide +kernel
theorem dX2_takeFixed_22 : decode cX2_takeFixed 22 = .ok (.aload_n 0, 1) := by decide +kernel
theorem dX2_takeFixed_23 : decode cX2_takeFixed 23 = .ok (.getfield 9, 3) := by decide +kernel
theorem dX2_takeFixed_26 : decode cX2_takeFixed 26 = .ok (.bipush 10, 2) := by decide +kernel
theorem dX2_takeFixed_28 : decode cX2_takeFixed 28 = .ok (.iadd, 1) := by decide +kernel
theorem dX2_takeFixed_29 : decode cX2_takeFixed 29 = .ok (.invokevirtual 71, 3) := by decide +kernel
theorem dX2_takeFixed_32 : decode cX2_takeFixed 32 = .ok (.putfield 18, 3) := by decide +kernel
theorem dX2_takeFixed_35 : decode cX2_takeFixed 35 = .ok (.aload_n 0, 1) := by decide +kernel
theorem dX2_takeFixed_36 : decode cX2_takeFixed 36 = .ok (.aload_n 1, 1) := by decide +kernel
theorem dX2_takeFixed_37 : decode cX2_takeFixed 37 = .ok (.aload_n 0, 1) := by decide +kernel
theorem dX2_takeFixed_38 : decode cX2_takeFixed 38 = .ok (.getfield 9, 3) := by decide +kernel
theorem dX2_takeFixed_41 : decode cX2_takeFixed 41 = .ok (.bipush 12, 2) := by decide +kernel
theorem dX2_takeFixed_43 : decode cX2_takeFixed 43 = .ok (.iadd, 1) := by decide +kernel
theorem dX2_takeFixed_44 : decode cX2_takeFixed 44 = .ok (.invokevirtual 71, 3) := by decide +kernel
theorem dX2_takeFixed_47 : decode cX2_takeFixed 47 = .ok (.putfield 21, 3) := by decide +kernel
theorem dX2_takeFixed_50 : decode cX2_takeFixed 50 = .ok (.aload_n 0, 1) := by decide +kernel
theorem dX2_takeFixed_51 : decode cX2_takeFixed 51 = .ok (.aload_n 1, 1) := by decide +kernel
theorem dX2_takeFixed_52 : decode cX2_takeFixed 52 = .ok (.aload_n 0, 1) := by decide +kernel
theorem dX2_takeFixed_53 : decode cX2_takeFixed 53 = .ok (.getfield 9, 3) := by decide +kernel
theorem dX2_takeFixed_56 : decode cX2_takeFixed 56 = .ok (.bipush 14, 2) := by decide +kernel
theorem dX2_takeFixed_58 : decode cX2_takeFixed 58 = .ok (.iadd, 1) := by decide +kernel
theorem dX2_takeFixed_59 : decode cX2_takeFixed 59 = .ok (.invokevirtual 71, 3) := by decide +kernel
theorem dX2_takeFixed_62 : decode cX2_takeFixed 62 = .ok (.putfield 24, 3) := by decide +kernel
theorem dX2_takeFixed_65 : decode cX2_takeFixed 65 = .ok (.aload_n 0, 1) := by decide +kernel
theorem dX2_takeFixed_66 : decode cX2_takeFixed 66 = .ok (.aload_n 1, 1) := by decide +kernel
theorem dX2_takeFixed_67 : decode cX2_takeFixed 67 = .ok (.aload_n 0, 1) := by decide +kernel
theorem dX2_takeFixed_68 : decode cX2_takeFixed 68 = .ok (.getfield 9, 3) := by decide +kernel
theorem dX2_takeFixed_71 : decode cX2_takeFixed 71 = .ok (.bipush 16, 2) := by decide +kernel
theorem dX2_takeFixed_73 : decode cX2_takeFixed 73 = .ok (.iadd, 1) := by decide +kernel
theorem dX2_takeFixed_74 : decode cX2_takeFixed 74 = .ok (.invokevirtual 77, 3) := by decide +kernel
theorem dX2_takeFixed_77 : decode cX2_takeFixed 77 = .ok (.putfield 49, 3) := by decide +kernel
theorem dX2_takeFixed_80 : decode cX2_takeFixed 80 = .ok (.aload_n 0, 1) := by decide +kernel
theorem dX2_takeFixed_81 : decode cX2_takeFixed 81 = .ok (.aload_n 1, 1) := by decide +kernel
theorem dX2_takeFixed_82 : decode cX2_takeFixed 82 = .ok (.aload_n 0, 1) := by decide +kernel
theorem dX2_takeFixed_83 : decode cX2_takeFixed 83 = .ok (.getfield 9, 3) := by decide +kernel
theorem dX2_takeFixed_86 : decode cX2_takeFixed 86 = .ok (.bipush 20, 2) := by decide +kernel
theorem dX2_takeFixed_88 : decode cX2_takeFixed 88 = .ok (.iadd, 1) := by decide +kernel
theorem dX2_takeFixed_89 : decode cX2_takeFixed 89 = .ok (.invokevirtual 77, 3) := by decide +kernel
theorem dX2_takeFixed_92 : decode cX2_takeFixed 92 = .ok (.putfield 53, 3) := by decide +kernel
theorem dX2_takeFixed_95 : decode cX2_takeFixed 95 = .ok (.aload_n 0, 1) := by decide +kernel
theorem dX2_takeFixed_96 : decode cX2_takeFixed 96 = .ok (.aload_n 1, 1) := by decide +kernel
theorem dX2_takeFixed_97 : decode cX2_takeFixed 97 = .ok (.aload_n 0, 1) := by decide +kernel
theorem dX2_takeFixed_98 : decode cX2_takeFixed 98 = .ok (.getfield 9, 3) := by decide +kernel
theorem dX2_takeFixed_101 : decode cX2_takeFixed 101 = .ok (.bipush 24, 2) := by decide +kernel
theorem dX2_takeFixed_103 : decode cX2_takeFixed 103 = .ok (.iadd, 1) := by decide +kernel
theorem dX2_takeFixed_104 : decode cX2_takeFixed 104 = .ok (.invokevirtual 77, 3) := by decide +kernel
theorem dX2_takeFixed_107 : decode cX2_takeFixed 107 = .ok (.putfield 56, 3) := by decide +kernel
theorem dX2_takeFixed_110 : decode cX2_takeFixed 110 = .ok (.aload_n 0, 1) := by decide +kernel
theorem dX2_takeFixed_111 : decode cX2_takeFixed 111 = .ok (.aload_n 1, 1) := by decide +kernel
theorem dX2_takeFixed_112 : decode cX2_takeFixed 112 = .ok (.aload_n 0, 1) := by decide +kernel
theorem dX2_takeFixed_113 : decode cX2_takeFixed 113 = .ok (.getfield 9, 3) := by decide +kernel
theorem dX2_takeFixed_116 : decode cX2_takeFixed 116 = .ok (.bipush 28, 2) := by decide +kernel
theorem dX2_takeFixed_118 : decode cX2_takeFixed 118 = .ok (.iadd, 1) := by decide +kernel
theorem dX2_takeFixed_119 : decode cX2_takeFixed 119 = .ok (.invokevirtual 71, 3) := by decide +kernel
theorem dX2_takeFixed_122 : decode cX2_takeFixed 122 = .ok (.putfield 30, 3) := by decide +kernel
theorem dX2_takeFixed_125 : decode cX2_takeFixed 125 = .ok (.aload_n 0, 1) := by decide +kernel
theorem dX2_takeFixed_126 : decode cX2_takeFixed 126 = .ok (.aload_n 1, 1) := by decide +kernel
theorem dX2_takeFixed_127 : decode cX2_takeFixed 127 = .ok (.aload_n 0, 1) := by decide +kernel
theorem dX2_takeFixed_128 : decode cX2_takeFixed 128 = .ok (.getfield 9, 3) := by decide +kernel
theorem dX2_takeFixed_131 : decode cX2_takeFixed 131 = .ok (.bipush 30, 2) := by decide +kernel
theorem dX2_takeFixed_133 : decode cX2_takeFixed 133 = .ok (.iadd, 1) := by decide +kernel
theorem dX2_takeFixed_134 : decode cX2_takeFixed 134 = .ok (.invokevirtual 71, 3) := by decide +kernel
theorem dX2_takeFixed_137 : decode cX2_takeFixed 137 = .ok (.putfield 33, 3) := by decide +kernel
theorem dX2_takeFixed_140 : decode cX2_takeFixed 140 = .ok (.aload_n 0, 1) := by decide +kernel
theorem dX2_takeFixed_141 : decode cX2_takeFixed 141 = .ok (.aload_n 1, 1) := by decide +kernel
theorem dX2_takeFixed_142 : decode cX2_takeFixed 142 = .ok (.aload_n 0, 1) := by decide +kernel
theorem dX2_takeFixed_143 : decode cX2_takeFixed 143 = .ok (.getfield 9, 3) := by decide +kernel
theorem dX2_takeFixed_146 : decode cX2_takeFixed 146 = .ok (.bipush 38, 2) := by decide +kernel
theorem dX2_takeFixed_148 : decode cX2_takeFixed 148 = .ok (.iadd, 1) := by decide +kernel
theorem dX2_takeFixed_149 : decode cX2_takeFixed 149 = .ok (.invokevirtual 77, 3) := by decide +kernel
theorem dX2_takeFixed_152 : decode cX2_takeFixed 152 = .ok (.l2i, 1) := by decide +kernel
theorem dX2_takeFixed_153 : decode cX2_takeFixed 153 = .ok (.putfield 27, 3) := by decide +kernel
theorem dX2_takeFixed_156 : decode cX2_takeFixed 156 = .ok (.aload_n 0, 1) := by decide +kernel
theorem dX2_takeFixed_157 : decode cX2_takeFixed 157 = .ok (.aload_n 1, 1) := by decide +kernel
theorem dX2_takeFixed_158 : decode cX2_takeFixed 158 = .ok (.aload_n 0, 1) := by decide +kernel
theorem dX2_takeFixed_159 : decode cX2_takeFixed 159 = .ok (.getfield 9, 3) := by decide +kernel
theorem dX2_takeFixed_162 : decode cX2_takeFixed 162 = .ok (.bipush 42, 2) := by decide +kernel
theorem dX2_takeFixed_164 : decode cX2_takeFixed 164 = .ok (.iadd, 1) := by decide +kernel
theorem dX2_takeFixed_165 : decode cX2_takeFixed 165 = .ok (.invokevirtual 77, 3) := by decide +kernel
theorem dX2_takeFixed_168 : decode cX2_takeFixed 168 = .ok (.putfield 65, 3) := by decide +kernel
theorem dX2_takeFixed_171 : decode cX2_takeFixed 171 = .ok (.aload_n 0, 1) := by decide +kernel
theorem dX2_takeFixed_172 : decode cX2_takeFixed 172 = .ok (.aload_n 0, 1) := by decide +kernel
theorem dX2_takeFixed_173 : decode cX2_takeFixed 173 = .ok (.getfield 30, 3) := by decide +kernel
theorem dX2_takeFixed_176 : decode cX2_takeFixed 176 = .ok (.ifCond .le 27, 3) := by decide +kernel
theorem dX2_takeFixed_179 : decode cX2_takeFixed 179 = .ok (.aload_n 1, 1) := by decide +kernel
theorem dX2_takeFixed_180 : decode cX2_takeFixed 180 = .ok (.aload_n 0, 1) := by decide +kernel
theorem dX2_takeFixed_181 : decode cX2_takeFixed 181 = .ok (.invokevirtual 81, 3) := by decide +kernel
theorem dX2_takeFixed_184 : decode cX2_takeFixed 184 = .ok (.aload_n 0, 1) := by decide +kernel
theorem dX2_takeFixed_185 : decode cX2_takeFixed 185 = .ok (.getfield 30, 3) := by decide +kernel
theorem dX2_takeFixed_188 : decode cX2_takeFixed 188 = .ok (.iadd, 1) := by decide +kernel
theorem dX2_takeFixed_189 : decode cX2_takeFixed 189 = .ok (.iconst 1, 1) := by decide +kernel
theorem dX2_takeFixed_190 : decode cX2_takeFixed 190 = .ok (.isub, 1) := by decide +kernel
theorem dX2_takeFixed_191 : decode cX2_takeFixed 191 = .ok (.invokevirtual 85, 3) := by decide +kernel
theorem dX2_takeFixed_194 : decode cX2_takeFixed 194 = .ok (.bipush 47, 2) := by decide +kernel
theorem dX2_takeFixed_196 : decode cX2_takeFixed 196 = .ok (.if_icmp .ne 7, 3) := by decide +kernel
theorem dX2_takeFixed_199 : decode cX2_takeFixed 199 = .ok (.iconst 1, 1) := by decide +kernel
theorem dX2_takeFixed_200 : decode cX2_takeFixed 200 = .ok (.goto 4, 3) := by decide +kernel
theorem dX2_takeFixed_203 : decode cX2_takeFixed 203 = .ok (.iconst 0, 1) := by decide +kernel
theorem dX2_takeFixed_204 : decode cX2_takeFixed 204 = .ok (.putfield 46, 3) := by decide +kernel
theorem dX2_takeFixed_207 : decode cX2_takeFixed 207 = .ok (.return_, 1) := by decide +kernel
theorem dX2_namePlace_0 : decode cX2_namePlace 0 = .ok (.aload_n 0, 1) := by decide +kernel
theorem dX2_namePlace_1 : decode cX2_namePlace 1 = .ok (.getfield 9, 3) := by decide +kernel
theorem dX2_namePlace_4 : decode cX2_namePlace 4 = .ok (.bipush 46, 2) := by decide +kernel
theorem dX2_namePlace_6 : decode cX2_namePlace 6 = .ok (.iadd, 1) := by decide +kernel
theorem dX2_namePlace_7 : decode cX2_namePlace 7 = .ok (.ireturn, 1) := by decide +kernel
theorem dX2_endPlace_0 : decode cX2_endPlace 0 = .ok (.aload_n 0, 1) := by decide +kernel
theorem dX2_endPlace_1 : decode cX2_endPlace 1 = .ok (.getfield 9, 3) := by decide +kernel
theorem dX2_endPlace_4 : decode cX2_endPlace 4 = .ok (.bipush 46, 2) := by decide +kernel
theorem dX2_endPlace_6 : decode cX2_endPlace 6 = .ok (.iadd, 1) := by decide +kernel
theorem dX2_endPlace_7 : decode cX2_endPlace 7 = .ok (.aload_n 0, 1) := by decide +kernel
theorem dX2_endPlace_8 : decode cX2_endPlace 8 = .ok (.getfield 30, 3) := by decide +kernel
theorem dX2_endPlace_11 : decode cX2_endPlace 11 = .ok (.iadd, 1) := by decide +kernel
theorem dX2_endPlace_12 : decode cX2_endPlace 12 = .ok (.aload_n 0, 1) := by decide +kernel
theorem dX2_endPlace_13 : decode cX2_endPlace 13 = .ok (.getfield 33, 3) := by decide +kernel
theorem dX2_endPlace_16 : decode cX2_endPlace 16 = .ok (.iadd, 1) := by decide +kernel
theorem dX2_endPlace_17 : decode cX2_endPlace 17 = .ok (.ireturn, 1) := by decide +kernel
theorem dX2_dataPlace_0 : decode cX2_dataPlace 0 = .ok (.aload_n 0, 1) := by decide +kernel
theorem dX2_dataPlace_1 : decode cX2_dataPlace 1 = .ok (.getfield 65, 3) := by decide +kernel
theorem dX2_dataPlace_4 : decode cX2_dataPlace 4 = .ok (.l2i, 1) := by decide +kernel
theorem dX2_dataPlace_5 : decode cX2_dataPlace 5 = .ok (.bipush 30, 2) := by decide +kernel
theorem dX2_dataPlace_7 : decode cX2_dataPlace 7 = .ok (.iadd, 1) := by decide +kernel
theorem dX2_dataPlace_8 : decode cX2_dataPlace 8 = .ok (.aload_n 0, 1) := by decide +kernel
theorem dX2_dataPlace_9 : decode cX2_dataPlace 9 = .ok (.getfield 30, 3) := by decide +kernel
theorem dX2_dataPlace_12 : decode cX2_dataPlace 12 = .ok (.iadd, 1) := by decide +kernel
theorem dX2_dataPlace_13 : decode cX2_dataPlace 13 = .ok (.aload_n 0, 1) := by decide +kernel
theorem dX2_dataPlace_14 : decode cX2_dataPlace 14 = .ok (.getfield 33, 3) := by decide +kernel
theorem dX2_dataPlace_17 : decode cX2_dataPlace 17 = .ok (.iadd, 1) := by decide +kernel
theorem dX2_dataPlace_18 : decode cX2_dataPlace 18 = .ok (.ireturn, 1) := by decide +kernel
theorem dX2_kind_0 : decode cX2_kind 0 = .ok (.aload_n 0, 1) := by decide +kernel
theorem dX2_kind_1 : decode cX2_kind 1 = .ok (.getfield 46, 3) := by decide +kernel
theorem dX2_kind_4 : decode cX2_kind 4 = .ok (.ifCond .eq 5, 3) := by decide +kernel
theorem dX2_kind_7 : decode cX2_kind 7 = .ok (.iconst 2, 1) := by decide +kernel
theorem dX2_kind_8 : decode cX2_kind 8 = .ok (.ireturn, 1) := by decide +kernel
theorem dX2_kind_9 : decode cX2_kind 9 = .ok (.aload_n 0, 1) := by decide +kernel
theorem dX2_kind_10 : decode cX2_kind 10 = .ok (.getfield 18, 3) := by decide +kernel
theorem dX2_kind_13 : decode cX2_kind 13 = .ok (.bipush 8, 2) := by decide +kernel
theorem dX2_kind_15 : decode cX2_kind 15 = .ok (.if_icmp .ne 7, 3) := by decide +kernel
theorem dX2_kind_18 : decode cX2_kind 18 = .ok (.iconst 1, 1) := by decide +kernel
theorem dX2_kind_19 : decode cX2_kind 19 = .ok (.goto 4, 3) := by decide +kernel
theorem dX2_kind_22 : decode cX2_kind 22 = .ok (.iconst 0, 1) := by decide +kernel
theorem dX2_kind_23 : decode cX2_kind 23 = .ok (.ireturn, 1) := by decide +kernel
theorem dX2_form_0 : decode cX2_form 0 = .ok (.aload_n 0, 1) := by decide +kernel
theorem dX2_form_1 : decode cX2_form 1 = .ok (.getfield 42, 3) := by decide +kernel
theorem dX2_form_4 : decode cX2_form 4 = .ok (.ifCond .eq 5, 3) := by decide +kernel
theorem dX2_form_7 : decode cX2_form 7 = .ok (.iconst 2, 1) := by decide +kernel
theorem dX2_form_8 : decode cX2_form 8 = .ok (.ireturn, 1) := by decide +kernel
theorem dX2_form_9 : decode cX2_form 9 = .ok (.aload_n 0, 1) := by decide +kernel
theorem dX2_form_10 : decode cX2_form 10 = .ok (.getfield 15, 3) := by decide +kernel
theorem dX2_form_13 : decode cX2_form 13 = .ok (.bipush 8, 2) := by decide +kernel
theorem dX2_form_15 : decode cX2_form 15 = .ok (.if_icmp .ne 7, 3) := by decide +kernel
theorem dX2_form_18 : decode cX2_form 18 = .ok (.iconst 1, 1) := by decide +kernel
theorem dX2_form_19 : decode cX2_form 19 = .ok (.goto 4, 3) := by decide +kernel
theorem dX2_form_22 : decode cX2_form 22 = .ok (.iconst 0, 1) := by decide +kernel
theorem dX2_form_23 : decode cX2_form 23 = .ok (.ireturn, 1) := by decide +kernel
theorem dX2_hasKnownForm_0 : decode cX2_hasKnownForm 0 = .ok (.aload_n 0, 1) := by decide +kernel
theorem dX2_hasKnownForm_1 : decode cX2_hasKnownForm 1 = .ok (.getfield 18, 3) := by decide +kernel
theorem dX2_hasKnownForm_4 : decode cX2_hasKnownForm 4 = .ok (.ifCond .eq 12, 3) := by decide +kernel
theorem dX2_hasKnownForm_7 : decode cX2_hasKnownForm 7 = .ok (.aload_n 0, 1) := by decide +kernel
theorem dX2_hasKnownForm_8 : decode cX2_hasKnownForm 8 = .ok (.getfield 18, 3) := by decide +kernel
theorem dX2_hasKnownForm_11 : decode cX2_hasKnownForm 11 = .ok (.bipush 8, 2) := by decide +kernel
theorem dX2_hasKnownForm_13 : decode cX2_hasKnownForm 13 = .ok (.if_icmp .ne 19, 3) := by decide +kernel
theorem dX2_hasKnownForm_16 : decode cX2_hasKnownForm 16 = .ok (.aload_n 0, 1) := by decide +kernel
theorem dX2_hasKnownForm_17 : decode cX2_hasKnownForm 17 = .ok (.getfield 15, 3) := by decide +kernel
theorem dX2_hasKnownForm_20 : decode cX2_hasKnownForm 20 = .ok (.ifCond .eq 14, 3) := by decide +kernel
theorem dX2_hasKnownForm_23 : decode cX2_hasKnownForm 23 = .ok (.aload_n 0, 1) := by decide +kernel
theorem dX2_hasKnownForm_24 : decode cX2_hasKnownForm 24 = .ok (.getfield 15, 3) := by decide +kernel
theorem dX2_hasKnownForm_27 : decode cX2_hasKnownForm 27 = .ok (.bipush 8, 2) := by decide +kernel
theorem dX2_hasKnownForm_29 : decode cX2_hasKnownForm 29 = .ok (.if_icmp .eq 5, 3) := by decide +kernel
theorem dX2_hasKnownForm_32 : decode cX2_hasKnownForm 32 = .ok (.iconst 0, 1) := by decide +kernel
theorem dX2_hasKnownForm_33 : decode cX2_hasKnownForm 33 = .ok (.ireturn, 1) := by decide +kernel
theorem dX2_hasKnownForm_34 : decode cX2_hasKnownForm 34 = .ok (.aload_n 0, 1) := by decide +kernel
theorem dX2_hasKnownForm_35 : decode cX2_hasKnownForm 35 = .ok (.getfield 30, 3) := by decide +kernel
theorem dX2_hasKnownForm_38 : decode cX2_hasKnownForm 38 = .ok (.iconst 1, 1) := by decide +kernel
theorem dX2_hasKnownForm_39 : decode cX2_hasKnownForm 39 = .ok (.if_icmp .lt 24, 3) := by decide +kernel
theorem dX2_hasKnownForm_42 : decode cX2_hasKnownForm 42 = .ok (.aload_n 0, 1) := by decide +kernel
theorem dX2_hasKnownForm_43 : decode cX2_hasKnownForm 43 = .ok (.getfield 30, 3) := by decide +kernel
theorem dX2_hasKnownForm_46 : decode cX2_hasKnownForm 46 = .ok (.bipush 16, 2) := by decide +kernel
theorem dX2_hasKnownForm_48 : decode cX2_hasKnownForm 48 = .ok (.if_icmp .gt 15, 3) := by decide +kernel
theorem dX2_hasKnownForm_51 : decode cX2_hasKnownForm 51 = .ok (.aload_n 0, 1) := by decide +kernel
theorem dX2_hasKnownForm_52 : decode cX2_hasKnownForm 52 = .ok (.aload_n 1, 1) := by decide +kernel
theorem dX2_hasKnownForm_53 : decode cX2_hasKnownForm 53 = .ok (.invokevirtual 88, 3) := by decide +kernel
theorem dX2_hasKnownForm_56 : decode cX2_hasKnownForm 56 = .ok (.ifCond .eq 7, 3) := by decide +kernel
theorem dX2_hasKnownForm_59 : decode cX2_hasKnownForm 59 = .ok (.iconst 1, 1) := by decide +kernel
theorem dX2_hasKnownForm_60 : decode cX2_hasKnownForm 60 = .ok (.goto 4, 3) := by decide +kernel
theorem dX2_hasKnownForm_63 : decode cX2_hasKnownForm 63 = .ok (.iconst 0, 1) := by decide +kernel
theorem dX2_hasKnownForm_64 : decode cX2_hasKnownForm 64 = .ok (.ireturn, 1) := by decide +kernel
theorem dX2_takeExtra_0 : decode cX2_takeExtra 0 = .ok (.aload_n 0, 1) := by decide +kernel
theorem dX2_takeExtra_1 : decode cX2_takeExtra 1 = .ok (.invokevirtual 92, 3) := by decide +kernel
theorem dX2_takeExtra_4 : decode cX2_takeExtra 4 = .ok (.istore_n 2, 1) := by decide +kernel
theorem dX2_takeExtra_5 : decode cX2_takeExtra 5 = .ok (.aload_n 0, 1) := by decide +kernel
theorem dX2_takeExtra_6 : decode cX2_takeExtra 6 = .ok (.invokevirtual 81, 3) := by decide +kernel
theorem dX2_takeExtra_9 : decode cX2_takeExtra 9 = .ok (.aload_n 0, 1) := by decide +kernel
theorem dX2_takeExtra_10 : decode cX2_takeExtra 10 = .ok (.getfield 30, 3) := by decide +kernel
theorem dX2_takeExtra_13 : decode cX2_takeExtra 13 = .ok (.iadd, 1) := by decide +kernel
theorem dX2_takeExtra_14 : decode cX2_takeExtra 14 = .ok (.istore_n 3, 1) := by decide +kernel
theorem dX2_takeExtra_15 : decode cX2_takeExtra 15 = .ok (.aload_n 0, 1) := by decide +kernel
theorem dX2_takeExtra_16 : decode cX2_takeExtra 16 = .ok (.aload_n 0, 1) := by decide +kernel
theorem dX2_takeExtra_17 : decode cX2_takeExtra 17 = .ok (.getfield 33, 3) := by decide +kernel
theorem dX2_takeExtra_20 : decode cX2_takeExtra 20 = .ok (.bipush 20, 2) := by decide +kernel
theorem dX2_takeExtra_22 : decode cX2_takeExtra 22 = .ok (.if_icmp .lt 28, 3) := by decide +kernel
theorem dX2_takeExtra_25 : decode cX2_takeExtra 25 = .ok (.aload_n 1, 1) := by decide +kernel
theorem dX2_takeExtra_26 : decode cX2_takeExtra 26 = .ok (.iload_n 3, 1) := by decide +kernel
theorem dX2_takeExtra_27 : decode cX2_takeExtra 27 = .ok (.invokevirtual 71, 3) := by decide +kernel
theorem dX2_takeExtra_30 : decode cX2_takeExtra 30 = .ok (.iconst 1, 1) := by decide +kernel
theorem dX2_takeExtra_31 : decode cX2_takeExtra 31 = .ok (.if_icmp .ne 19, 3) := by decide +kernel
theorem dX2_takeExtra_34 : decode cX2_takeExtra 34 = .ok (.aload_n 1, 1) := by decide +kernel
theorem dX2_takeExtra_35 : decode cX2_takeExtra 35 = .ok (.iload_n 3, 1) := by decide +kernel
theorem dX2_takeExtra_36 : decode cX2_takeExtra 36 = .ok (.iconst 2, 1) := by decide +kernel
theorem dX2_takeExtra_37 : decode cX2_takeExtra 37 = .ok (.iadd, 1) := by decide +kernel
theorem dX2_takeExtra_38 : decode cX2_takeExtra 38 = .ok (.invokevirtual 71, 3) := by decide +kernel
theorem dX2_takeExtra_41 : decode cX2_takeExtra 41 = .ok (.bipush 16, 2) := by decide +kernel
theorem dX2_takeExtra_43 : decode cX2_takeExtra 43 = .ok (.if_icmp .ne 7, 3) := by decide +kernel
theorem dX2_takeExtra_46 : decode cX2_takeExtra 46 = .ok (.iconst 1, 1) := by decide +kernel
theorem dX2_takeExtra_47 : decode cX2_takeExtra 47 = .ok (.goto 4, 3) := by decide +kernel
theorem dX2_takeExtra_50 : decode cX2_takeExtra 50 = .ok (.iconst 0, 1) := by decide +kernel
theorem dX2_takeExtra_51 : decode cX2_takeExtra 51 = .ok (.putfield 42, 3) := by decide +kernel
theorem dX2_takeExtra_54 : decode cX2_takeExtra 54 = .ok (.aload_n 0, 1) := by decide +kernel
theorem dX2_takeExtra_55 : decode cX2_takeExtra 55 = .ok (.aload_n 0, 1) := by decide +kernel
theorem dX2_takeExtra_56 : decode cX2_takeExtra 56 = .ok (.getfield 53, 3) := by decide +kernel
theorem dX2_takeExtra_59 : decode cX2_takeExtra 59 = .ok (.putfield 59, 3) := by decide +kernel
theorem dX2_takeExtra_62 : decode cX2_takeExtra 62 = .ok (.aload_n 0, 1) := by decide +kernel
theorem dX2_takeExtra_63 : decode cX2_takeExtra 63 = .ok (.aload_n 0, 1) := by decide +kernel
theorem dX2_takeExtra_64 : decode cX2_takeExtra 64 = .ok (.getfield 56, 3) := by decide +kernel
theorem dX2_takeExtra_67 : decode cX2_takeExtra 67 = .ok (.putfield 62, 3) := by decide +kernel
theorem dX2_takeExtra_70 : decode cX2_takeExtra 70 = .ok (.aload_n 0, 1) := by decide +kernel
theorem dX2_takeExtra_71 : decode cX2_takeExtra 71 = .ok (.getfield 42, 3) := by decide +kernel
theorem dX2_takeExtra_74 : decode cX2_takeExtra 74 = .ok (.ifCond .eq 31, 3) := by decide +kernel
theorem dX2_takeExtra_77 : decode cX2_takeExtra 77 = .ok (.aload_n 0, 1) := by decide +kernel
theorem dX2_takeExtra_78 : decode cX2_takeExtra 78 = .ok (.aload_n 1, 1) := by decide +kernel
theorem dX2_takeExtra_79 : decode cX2_takeExtra 79 = .ok (.iload_n 3, 1) := by decide +kernel
theorem dX2_takeExtra_80 : decode cX2_takeExtra 80 = .ok (.iconst 4, 1) := by decide +kernel
theorem dX2_takeExtra_81 : decode cX2_takeExtra 81 = .ok (.iadd, 1) := by decide +kernel
theorem dX2_takeExtra_82 : decode cX2_takeExtra 82 = .ok (.invokevirtual 95, 3) := by decide +kernel
theorem dX2_takeExtra_85 : decode cX2_takeExtra 85 = .ok (.putfield 62, 3) := by decide +kernel
theorem dX2_takeExtra_88 : decode cX2_takeExtra 88 = .ok (.aload_n 0, 1) := by decide +kernel
theorem dX2_takeExtra_89 : decode cX2_takeExtra 89 = .ok (.aload_n 1, 1) := by decide +kernel
theorem dX2_takeExtra_90 : decode cX2_takeExtra 90 = .ok (.iload_n 3, 1) := by decide +kernel
theorem dX2_takeExtra_91 : decode cX2_takeExtra 91 = .ok (.iconst 4, 1) := by decide +kernel
theorem dX2_takeExtra_92 : decode cX2_takeExtra 92 = .ok (.iadd, 1) := by decide +kernel
theorem dX2_takeExtra_93 : decode cX2_takeExtra 93 = .ok (.bipush 8, 2) := by decide +kernel
theorem dX2_takeExtra_95 : decode cX2_takeExtra 95 = .ok (.iadd, 1) := by decide +kernel
theorem dX2_takeExtra_96 : decode cX2_takeExtra 96 = .ok (.invokevirtual 95, 3) := by decide +kernel
theorem dX2_takeExtra_99 : decode cX2_takeExtra 99 = .ok (.putfield 59, 3) := by decide +kernel
theorem dX2_takeExtra_102 : decode cX2_takeExtra 102 = .ok (.iinc 3 20, 3) := by decide +kernel
theorem dX2_takeExtra_105 : decode cX2_takeExtra 105 = .ok (.aload_n 0, 1) := by decide +kernel
theorem dX2_takeExtra_106 : decode cX2_takeExtra 106 = .ok (.iload_n 3, 1) := by decide +kernel
theorem dX2_takeExtra_107 : decode cX2_takeExtra 107 = .ok (.putfield 36, 3) := by decide +kernel
theorem dX2_takeExtra_110 : decode cX2_takeExtra 110 = .ok (.aload_n 0, 1) := by decide +kernel
theorem dX2_takeExtra_111 : decode cX2_takeExtra 111 = .ok (.iconst 0, 1) := by decide +kernel
theorem dX2_takeExtra_112 : decode cX2_takeExtra 112 = .ok (.putfield 39, 3) := by decide +kernel
theorem dX2_takeExtra_115 : decode cX2_takeExtra 115 = .ok (.aload_n 0, 1) := by decide +kernel
theorem dX2_takeExtra_116 : decode cX2_takeExtra 116 = .ok (.getfield 39, 3) := by decide +kernel
theorem dX2_takeExtra_119 : decode cX2_takeExtra 119 = .ok (.iconst 3, 1) := by decide +kernel
theorem dX2_takeExtra_120 : decode cX2_takeExtra 120 = .ok (.if_icmp .ge 57, 3) := by decide +kernel
theorem dX2_takeExtra_123 : decode cX2_takeExtra 123 = .ok (.iload_n 3, 1) := by decide +kernel
theorem dX2_takeExtra_124 : decode cX2_takeExtra 124 = .ok (.iconst 4, 1) := by decide +kernel
theorem dX2_takeExtra_125 : decode cX2_takeExtra 125 = .ok (.iadd, 1) := by decide +kernel
theorem dX2_takeExtra_126 : decode cX2_takeExtra 126 = .ok (.iload_n 2, 1) := by decide +kernel
theorem dX2_takeExtra_127 : decode cX2_takeExtra 127 = .ok (.if_icmp .gt 50, 3) := by decide +kernel
theorem dX2_takeExtra_130 : decode cX2_takeExtra 130 = .ok (.aload_n 1, 1) := by decide +kernel
theorem dX2_takeExtra_131 : decode cX2_takeExtra 131 = .ok (.iload_n 3, 1) := by decide +kernel
theorem dX2_takeExtra_132 : decode cX2_takeExtra 132 = .ok (.iconst 2, 1) := by decide +kernel
theorem dX2_takeExtra_133 : decode cX2_takeExtra 133 = .ok (.iadd, 1) := by decide +kernel
theorem dX2_takeExtra_134 : decode cX2_takeExtra 134 = .ok (.invokevirtual 71, 3) := by decide +kernel
theorem dX2_takeExtra_137 : decode cX2_takeExtra 137 = .ok (.istore 4, 2) := by decide +kernel
theorem dX2_takeExtra_139 : decode cX2_takeExtra 139 = .ok (.aload_n 1, 1) := by decide +kernel
theorem dX2_takeExtra_140 : decode cX2_takeExtra 140 = .ok (.iload_n 3, 1) := by decide +kernel
theorem dX2_takeExtra_141 : decode cX2_takeExtra 141 = .ok (.invokevirtual 71, 3) := by decide +kernel
theorem dX2_takeExtra_144 : decode cX2_takeExtra 144 = .ok (.iconst 1, 1) := by decide +kernel
theorem dX2_takeExtra_145 : decode cX2_takeExtra 145 = .ok (.if_icmp .le 10, 3) := by decide +kernel
theorem dX2_takeExtra_148 : decode cX2_takeExtra 148 = .ok (.iload 4, 2) := by decide +kernel
theorem dX2_takeExtra_150 : decode cX2_takeExtra 150 = .ok (.bipush 8, 2) := by decide +kernel
theorem dX2_takeExtra_152 : decode cX2_takeExtra 152 = .ok (.if_icmp .le 5, 3) := by decide +kernel
theorem dX2_takeExtra_155 : decode cX2_takeExtra 155 = .ok (.iconst 0, 1) := by decide +kernel
theorem dX2_takeExtra_156 : decode cX2_takeExtra 156 = .ok (.ireturn, 1) := by decide +kernel
theorem dX2_takeExtra_157 : decode cX2_takeExtra 157 = .ok (.iload_n 3, 1) := by decide +kernel
theorem dX2_takeExtra_158 : decode cX2_takeExtra 158 = .ok (.iconst 4, 1) := by decide +kernel
theorem dX2_takeExtra_159 : decode cX2_takeExtra 159 = .ok (.iload 4, 2) := by decide +kernel
theorem dX2_takeExtra_161 : decode cX2_takeExtra 161 = .ok (.iadd, 1) := by decide +kernel
theorem dX2_takeExtra_162 : decode cX2_takeExtra 162 = .ok (.iadd, 1) := by decide +kernel
theorem dX2_takeExtra_163 : decode cX2_takeExtra 163 = .ok (.istore_n 3, 1) := by decide +kernel
theorem dX2_takeExtra_164 : decode cX2_takeExtra 164 = .ok (.aload_n 0, 1) := by decide +kernel
theorem dX2_takeExtra_165 : decode cX2_takeExtra 165 = .ok (.dup, 1) := by decide +kernel
theorem dX2_takeExtra_166 : decode cX2_takeExtra 166 = .ok (.getfield 39, 3) := by decide +kernel
theorem dX2_takeExtra_169 : decode cX2_takeExtra 169 = .ok (.iconst 1, 1) := by decide +kernel
theorem dX2_takeExtra_170 : decode cX2_takeExtra 170 = .ok (.iadd, 1) := by decide +kernel
theorem dX2_takeExtra_171 : decode cX2_takeExtra 171 = .ok (.putfield 39, 3) := by decide +kernel
theorem dX2_takeExtra_174 : decode cX2_takeExtra 174 = .ok (.goto (-59), 3) := by decide +kernel
theorem dX2_takeExtra_177 : decode cX2_takeExtra 177 = .ok (.iload_n 3, 1) := by decide +kernel
theorem dX2_takeExtra_178 : decode cX2_takeExtra 178 = .ok (.iload_n 2, 1) := by decide +kernel
theorem dX2_takeExtra_179 : decode cX2_takeExtra 179 = .ok (.if_icmp .ne 7, 3) := by decide +kernel
theorem dX2_takeExtra_182 : decode cX2_takeExtra 182 = .ok (.iconst 1, 1) := by decide +kernel
theorem dX2_takeExtra_183 : decode cX2_takeExtra 183 = .ok (.goto 4, 3) := by decide +kernel
theorem dX2_takeExtra_186 : decode cX2_takeExtra 186 = .ok (.iconst 0, 1) := by decide +kernel
theorem dX2_takeExtra_187 : decode cX2_takeExtra 187 = .ok (.ireturn, 1) := by decide +kernel
theorem dX2_hasKnownSizes_0 : decode cX2_hasKnownSizes 0 = .ok (.aload_n 0, 1) := by decide +kernel
theorem dX2_hasKnownSizes_1 : decode cX2_hasKnownSizes 1 = .ok (.getfield 53, 3) := by decide +kernel
theorem dX2_hasKnownSizes_4 : decode cX2_hasKnownSizes 4 = .ok (.ldc2_w 98, 3) := by decide +kernel
theorem dX2_hasKnownSizes_7 : decode cX2_hasKnownSizes 7 = .ok (.lcmp, 1) := by decide +kernel
theorem dX2_hasKnownSizes_8 : decode cX2_hasKnownSizes 8 = .ok (.ifCond .ne 18, 3) := by decide +kernel
theorem dX2_hasKnownSizes_11 : decode cX2_hasKnownSizes 11 = .ok (.aload_n 0, 1) := by decide +kernel
theorem dX2_hasKnownSizes_12 : decode cX2_hasKnownSizes 12 = .ok (.getfield 56, 3) := by decide +kernel
theorem dX2_hasKnownSizes_15 : decode cX2_hasKnownSizes 15 = .ok (.ldc2_w 98, 3) := by decide +kernel
theorem dX2_hasKnownSizes_18 : decode cX2_hasKnownSizes 18 = .ok (.lcmp, 1) := by decide +kernel
theorem dX2_hasKnownSizes_19 : decode cX2_hasKnownSizes 19 = .ok (.ifCond .ne 7, 3) := by decide +kernel
theorem dX2_hasKnownSizes_22 : decode cX2_hasKnownSizes 22 = .ok (.iconst 1, 1) := by decide +kernel
theorem dX2_hasKnownSizes_23 : decode cX2_hasKnownSizes 23 = .ok (.goto 4, 3) := by decide +kernel
theorem dX2_hasKnownSizes_26 : decode cX2_hasKnownSizes 26 = .ok (.iconst 0, 1) := by decide +kernel
theorem dX2_hasKnownSizes_27 : decode cX2_hasKnownSizes 27 = .ok (.istore_n 1, 1) := by decide +kernel
theorem dX2_hasKnownSizes_28 : decode cX2_hasKnownSizes 28 = .ok (.iload_n 1, 1) := by decide +kernel
theorem dX2_hasKnownSizes_29 : decode cX2_hasKnownSizes 29 = .ok (.aload_n 0, 1) := by decide +kernel
theorem dX2_hasKnownSizes_30 : decode cX2_hasKnownSizes 30 = .ok (.getfield 42, 3) := by decide +kernel
theorem dX2_hasKnownSizes_33 : decode cX2_hasKnownSizes 33 = .ok (.if_icmp .eq 5, 3) := by decide +kernel
theorem dX2_hasKnownSizes_36 : decode cX2_hasKnownSizes 36 = .ok (.iconst 0, 1) := by decide +kernel
theorem dX2_hasKnownSizes_37 : decode cX2_hasKnownSizes 37 = .ok (.ireturn, 1) := by decide +kernel
theorem dX2_hasKnownSizes_38 : decode cX2_hasKnownSizes 38 = .ok (.aload_n 0, 1) := by decide +kernel
theorem dX2_hasKnownSizes_39 : decode cX2_hasKnownSizes 39 = .ok (.getfield 59, 3) := by decide +kernel
theorem dX2_hasKnownSizes_42 : decode cX2_hasKnownSizes 42 = .ok (.lconst 0, 1) := by decide +kernel
theorem dX2_hasKnownSizes_43 : decode cX2_hasKnownSizes 43 = .ok (.lcmp, 1) := by decide +kernel
theorem dX2_hasKnownSizes_44 : decode cX2_hasKnownSizes 44 = .ok (.ifCond .lt 34, 3) := by decide +kernel
theorem dX2_hasKnownSizes_47 : decode cX2_hasKnownSizes 47 = .ok (.aload_n 0, 1) := by decide +kernel
theorem dX2_hasKnownSizes_48 : decode cX2_hasKnownSizes 48 = .ok (.getfield 59, 3) := by decide +kernel
theorem dX2_hasKnownSizes_51 : decode cX2_hasKnownSizes 51 = .ok (.ldc2_w 100, 3) := by decide +kernel
theorem dX2_hasKnownSizes_54 : decode cX2_hasKnownSizes 54 = .ok (.lcmp, 1) := by decide +kernel
theorem dX2_hasKnownSizes_55 : decode cX2_hasKnownSizes 55 = .ok (.ifCond .gt 23, 3) := by decide +kernel
theorem dX2_hasKnownSizes_58 : decode cX2_hasKnownSizes 58 = .ok (.aload_n 0, 1) := by decide +kernel
theorem dX2_hasKnownSizes_59 : decode cX2_hasKnownSizes 59 = .ok (.getfield 62, 3) := by decide +kernel
theorem dX2_hasKnownSizes_62 : decode cX2_hasKnownSizes 62 = .ok (.lconst 0, 1) := by decide +kernel
theorem dX2_hasKnownSizes_63 : decode cX2_hasKnownSizes 63 = .ok (.lcmp, 1) := by decide +kernel
theorem dX2_hasKnownSizes_64 : decode cX2_hasKnownSizes 64 = .ok (.ifCond .lt 14, 3) := by decide +kernel
theorem dX2_hasKnownSizes_67 : decode cX2_hasKnownSizes 67 = .ok (.aload_n 0, 1) := by decide +kernel
theorem dX2_hasKnownSizes_68 : decode cX2_hasKnownSizes 68 = .ok (.getfield 62, 3) := by decide +kernel
theorem dX2_hasKnownSizes_71 : decode cX2_hasKnownSizes 71 = .ok (.ldc2_w 102, 3) := by decide +kernel
theorem dX2_hasKnownSizes_74 : decode cX2_hasKnownSizes 74 = .ok (.lcmp, 1) := by decide +kernel
theorem dX2_hasKnownSizes_75 : decode cX2_hasKnownSizes 75 = .ok (.ifCond .le 5, 3) := by decide +kernel
theorem dX2_hasKnownSizes_78 : decode cX2_hasKnownSizes 78 = .ok (.iconst 0, 1) := by decide +kernel
theorem dX2_hasKnownSizes_79 : decode cX2_hasKnownSizes 79 = .ok (.ireturn, 1) := by decide +kernel
theorem dX2_hasKnownSizes_80 : decode cX2_hasKnownSizes 80 = .ok (.aload_n 0, 1) := by decide +kernel
theorem dX2_hasKnownSizes_81 : decode cX2_hasKnownSizes 81 = .ok (.getfield 18, 3) := by decide +kernel
theorem dX2_hasKnownSizes_84 : decode cX2_hasKnownSizes 84 = .ok (.ifCond .ne 15, 3) := by decide +kernel
theorem dX2_hasKnownSizes_87 : decode cX2_hasKnownSizes 87 = .ok (.aload_n 0, 1) := by decide +kernel
theorem dX2_hasKnownSizes_88 : decode cX2_hasKnownSizes 88 = .ok (.getfield 59, 3) := by decide +kernel
theorem dX2_hasKnownSizes_91 : decode cX2_hasKnownSizes 91 = .ok (.aload_n 0, 1) := by decide +kernel
theorem dX2_hasKnownSizes_92 : decode cX2_hasKnownSizes 92 = .ok (.getfield 62, 3) := by decide +kernel
theorem dX2_hasKnownSizes_95 : decode cX2_hasKnownSizes 95 = .ok (.lcmp, 1) := by decide +kernel
theorem dX2_hasKnownSizes_96 : decode cX2_hasKnownSizes 96 = .ok (.ifCond .ne 19, 3) := by decide +kernel
theorem dX2_hasKnownSizes_99 : decode cX2_hasKnownSizes 99 = .ok (.aload_n 0, 1) := by decide +kernel
theorem dX2_hasKnownSizes_100 : decode cX2_hasKnownSizes 100 = .ok (.getfield 15, 3) := by decide +kernel
theorem dX2_hasKnownSizes_103 : decode cX2_hasKnownSizes 103 = .ok (.bipush 8, 2) := by decide +kernel
theorem dX2_hasKnownSizes_105 : decode cX2_hasKnownSizes 105 = .ok (.if_icmp .ne 12, 3) := by decide +kernel
theorem dX2_hasKnownSizes_108 : decode cX2_hasKnownSizes 108 = .ok (.aload_n 0, 1) := by decide +kernel
theorem dX2_hasKnownSizes_109 : decode cX2_hasKnownSizes 109 = .ok (.getfield 42, 3) := by decide +kernel
theorem dX2_hasKnownSizes_112 : decode cX2_hasKnownSizes 112 = .ok (.ifCond .eq 5, 3) := by decide +kernel
theorem dX2_hasKnownSizes_115 : decode cX2_hasKnownSizes 115 = .ok (.iconst 0, 1) := by decide +kernel
theorem dX2_hasKnownSizes_116 : decode cX2_hasKnownSizes 116 = .ok (.ireturn, 1) := by decide +kernel
theorem dX2_hasKnownSizes_117 : decode cX2_hasKnownSizes 117 = .ok (.aload_n 0, 1) := by decide +kernel
theorem dX2_hasKnownSizes_118 : decode cX2_hasKnownSizes 118 = .ok (.getfield 46, 3) := by decide +kernel
theorem dX2_hasKnownSizes_121 : decode cX2_hasKnownSizes 121 = .ok (.ifCond .eq 42, 3) := by decide +kernel
theorem dX2_hasKnownSizes_124 : decode cX2_hasKnownSizes 124 = .ok (.aload_n 0, 1) := by decide +kernel
theorem dX2_hasKnownSizes_125 : decode cX2_hasKnownSizes 125 = .ok (.getfield 59, 3) := by decide +kernel
theorem dX2_hasKnownSizes_128 : decode cX2_hasKnownSizes 128 = .ok (.lconst 0, 1) := by decide +kernel
theorem dX2_hasKnownSizes_129 : decode cX2_hasKnownSizes 129 = .ok (.lcmp, 1) := by decide +kernel
theorem dX2_hasKnownSizes_130 : decode cX2_hasKnownSizes 130 = .ok (.ifCond .ne 37, 3) := by decide +kernel
theorem dX2_hasKnownSizes_133 : decode cX2_hasKnownSizes 133 = .ok (.aload_n 0, 1) := by decide +kernel
theorem dX2_hasKnownSizes_134 : decode cX2_hasKnownSizes 134 = .ok (.getfield 62, 3) := by decide +kernel
theorem dX2_hasKnownSizes_137 : decode cX2_hasKnownSizes 137 = .ok (.lconst 0, 1) := by decide +kernel
theorem dX2_hasKnownSizes_138 : decode cX2_hasKnownSizes 138 = .ok (.lcmp, 1) := by decide +kernel
theorem dX2_hasKnownSizes_139 : decode cX2_hasKnownSizes 139 = .ok (.ifCond .ne 28, 3) := by decide +kernel
theorem dX2_hasKnownSizes_142 : decode cX2_hasKnownSizes 142 = .ok (.aload_n 0, 1) := by decide +kernel
theorem dX2_hasKnownSizes_143 : decode cX2_hasKnownSizes 143 = .ok (.getfield 18, 3) := by decide +kernel
theorem dX2_hasKnownSizes_146 : decode cX2_hasKnownSizes 146 = .ok (.ifCond .ne 21, 3) := by decide +kernel
theorem dX2_hasKnownSizes_149 : decode cX2_hasKnownSizes 149 = .ok (.aload_n 0, 1) := by decide +kernel
theorem dX2_hasKnownSizes_150 : decode cX2_hasKnownSizes 150 = .ok (.getfield 15, 3) := by decide +kernel
theorem dX2_hasKnownSizes_153 : decode cX2_hasKnownSizes 153 = .ok (.ifCond .ne 14, 3) := by decide +kernel
theorem dX2_hasKnownSizes_156 : decode cX2_hasKnownSizes 156 = .ok (.aload_n 0, 1) := by decide +kernel
theorem dX2_hasKnownSizes_157 : decode cX2_hasKnownSizes 157 = .ok (.getfield 42, 3) := by decide +kernel
theorem dX2_hasKnownSizes_160 : decode cX2_hasKnownSizes 160 = .ok (.ifCond .ne 7, 3) := by decide +kernel
theorem dX2_hasKnownSizes_163 : decode cX2_hasKnownSizes 163 = .ok (.iconst 1, 1) := by decide +kernel
theorem dX2_hasKnownSizes_164 : decode cX2_hasKnownSizes 164 = .ok (.goto 4, 3) := by decide +kernel
theorem dX2_hasKnownSizes_167 : decode cX2_hasKnownSizes 167 = .ok (.iconst 0, 1) := by decide +kernel
theorem dX2_hasKnownSizes_168 : decode cX2_hasKnownSizes 168 = .ok (.ireturn, 1) := by decide +kernel
theorem dX2_isSafe_0 : decode cX2_isSafe 0 = .ok (.aload_n 0, 1) := by decide +kernel
theorem dX2_isSafe_1 : decode cX2_isSafe 1 = .ok (.invokevirtual 81, 3) := by decide +kernel
theorem dX2_isSafe_4 : decode cX2_isSafe 4 = .ok (.istore_n 2, 1) := by decide +kernel
theorem dX2_isSafe_5 : decode cX2_isSafe 5 = .ok (.iconst 0, 1) := by decide +kernel
theorem dX2_isSafe_6 : decode cX2_isSafe 6 = .ok (.istore_n 3, 1) := by decide +kernel
theorem dX2_isSafe_7 : decode cX2_isSafe 7 = .ok (.iconst 0, 1) := by decide +kernel
theorem dX2_isSafe_8 : decode cX2_isSafe 8 = .ok (.istore 4, 2) := by decide +kernel
theorem dX2_isSafe_10 : decode cX2_isSafe 10 = .ok (.iload 4, 2) := by decide +kernel
theorem dX2_isSafe_12 : decode cX2_isSafe 12 = .ok (.aload_n 0, 1) := by decide +kernel
theorem dX2_isSafe_13 : decode cX2_isSafe 13 = .ok (.getfield 30, 3) := by decide +kernel
theorem dX2_isSafe_16 : decode cX2_isSafe 16 = .ok (.if_icmp .ge 61, 3) := by decide +kernel
theorem dX2_isSafe_19 : decode cX2_isSafe 19 = .ok (.aload_n 1, 1) := by decide +kernel
theorem dX2_isSafe_20 : decode cX2_isSafe 20 = .ok (.iload_n 2, 1) := by decide +kernel
theorem dX2_isSafe_21 : decode cX2_isSafe 21 = .ok (.iload 4, 2) := by decide +kernel
theorem dX2_isSafe_23 : decode cX2_isSafe 23 = .ok (.iadd, 1) := by decide +kernel
theorem dX2_isSafe_24 : decode cX2_isSafe 24 = .ok (.invokevirtual 85, 3) := by decide +kernel
theorem dX2_isSafe_27 : decode cX2_isSafe 27 = .ok (.istore 5, 2) := by decide +kernel
theorem dX2_isSafe_29 : decode cX2_isSafe 29 = .ok (.iload 5, 2) := by decide +kernel
theorem dX2_isSafe_31 : decode cX2_isSafe 31 = .ok (.bipush 92, 2) := by decide +kernel
theorem dX2_isSafe_33 : decode cX2_isSafe 33 = .ok (.if_icmp .eq 24, 3) := by decide +kernel
theorem dX2_isSafe_36 : decode cX2_isSafe 36 = .ok (.iload 5, 2) := by decide +kernel
theorem dX2_isSafe_38 : decode cX2_isSafe 38 = .ok (.bipush 47, 2) := by decide +kernel
theorem dX2_isSafe_40 : decode cX2_isSafe 40 = .ok (.if_icmp .ne 19, 3) := by decide +kernel
theorem dX2_isSafe_43 : decode cX2_isSafe 43 = .ok (.aload_n 1, 1) := by decide +kernel
theorem dX2_isSafe_44 : decode cX2_isSafe 44 = .ok (.iload_n 2, 1) := by decide +kernel
theorem dX2_isSafe_45 : decode cX2_isSafe 45 = .ok (.iload_n 3, 1) := by decide +kernel
theorem dX2_isSafe_46 : decode cX2_isSafe 46 = .ok (.iadd, 1) := by decide +kernel
theorem dX2_isSafe_47 : decode cX2_isSafe 47 = .ok (.iload 4, 2) := by decide +kernel
theorem dX2_isSafe_49 : decode cX2_isSafe 49 = .ok (.iload_n 3, 1) := by decide +kernel
theorem dX2_isSafe_50 : decode cX2_isSafe 50 = .ok (.isub, 1) := by decide +kernel
theorem dX2_isSafe_51 : decode cX2_isSafe 51 = .ok (.invokestatic 104, 3) := by decide +kernel
theorem dX2_isSafe_54 : decode cX2_isSafe 54 = .ok (.ifCond .ne 5, 3) := by decide +kernel
theorem dX2_isSafe_57 : decode cX2_isSafe 57 = .ok (.iconst 0, 1) := by decide +kernel
theorem dX2_isSafe_58 : decode cX2_isSafe 58 = .ok (.ireturn, 1) := by decide +kernel
theorem dX2_isSafe_59 : decode cX2_isSafe 59 = .ok (.iload 5, 2) := by decide +kernel
theorem dX2_isSafe_61 : decode cX2_isSafe 61 = .ok (.bipush 47, 2) := by decide +kernel
theorem dX2_isSafe_63 : decode cX2_isSafe 63 = .ok (.if_icmp .ne 8, 3) := by decide +kernel
theorem dX2_isSafe_66 : decode cX2_isSafe 66 = .ok (.iload 4, 2) := by decide +kernel
theorem dX2_isSafe_68 : decode cX2_isSafe 68 = .ok (.iconst 1, 1) := by decide +kernel
theorem dX2_isSafe_69 : decode cX2_isSafe 69 = .ok (.iadd, 1) := by decide +kernel
theorem dX2_isSafe_70 : decode cX2_isSafe 70 = .ok (.istore_n 3, 1) := by decide +kernel
theorem dX2_isSafe_71 : decode cX2_isSafe 71 = .ok (.iinc 4 1, 3) := by decide +kernel
theorem dX2_isSafe_74 : decode cX2_isSafe 74 = .ok (.goto (-64), 3) := by decide +kernel
theorem dX2_isSafe_77 : decode cX2_isSafe 77 = .ok (.iload_n 3, 1) := by decide +kernel
theorem dX2_isSafe_78 : decode cX2_isSafe 78 = .ok (.aload_n 0, 1) := by decide +kernel
theorem dX2_isSafe_79 : decode cX2_isSafe 79 = .ok (.getfield 30, 3) := by decide +kernel
theorem dX2_isSafe_82 : decode cX2_isSafe 82 = .ok (.if_icmp .eq 19, 3) := by decide +kernel
theorem dX2_isSafe_85 : decode cX2_isSafe 85 = .ok (.aload_n 1, 1) := by decide +kernel
theorem dX2_isSafe_86 : decode cX2_isSafe 86 = .ok (.iload_n 2, 1) := by decide +kernel
theorem dX2_isSafe_87 : decode cX2_isSafe 87 = .ok (.iload_n 3, 1) := by decide +kernel
theorem dX2_isSafe_88 : decode cX2_isSafe 88 = .ok (.iadd, 1) := by decide +kernel
theorem dX2_isSafe_89 : decode cX2_isSafe 89 = .ok (.aload_n 0, 1) := by decide +kernel
theorem dX2_isSafe_90 : decode cX2_isSafe 90 = .ok (.getfield 30, 3) := by decide +kernel
theorem dX2_isSafe_93 : decode cX2_isSafe 93 = .ok (.iload_n 3, 1) := by decide +kernel
theorem dX2_isSafe_94 : decode cX2_isSafe 94 = .ok (.isub, 1) := by decide +kernel
theorem dX2_isSafe_95 : decode cX2_isSafe 95 = .ok (.invokestatic 104, 3) := by decide +kernel
theorem dX2_isSafe_98 : decode cX2_isSafe 98 = .ok (.ifCond .eq 7, 3) := by decide +kernel
theorem dX2_isSafe_101 : decode cX2_isSafe 101 = .ok (.iconst 1, 1) := by decide +kernel
theorem dX2_isSafe_102 : decode cX2_isSafe 102 = .ok (.goto 4, 3) := by decide +kernel
theorem dX2_isSafe_105 : decode cX2_isSafe 105 = .ok (.iconst 0, 1) := by decide +kernel
theorem dX2_isSafe_106 : decode cX2_isSafe 106 = .ok (.ireturn, 1) := by decide +kernel
theorem dX2_isSafeStep_0 : decode cX2_isSafeStep 0 = .ok (.iload_n 2, 1) := by decide +kernel
theorem dX2_isSafeStep_1 : decode cX2_isSafeStep 1 = .ok (.iconst 2, 1) := by decide +kernel
theorem dX2_isSafeStep_2 : decode cX2_isSafeStep 2 = .ok (.if_icmp .ne 29, 3) := by decide +kernel
theorem dX2_isSafeStep_5 : decode cX2_isSafeStep 5 = .ok (.aload_n 0, 1) := by decide +kernel
theorem dX2_isSafeStep_6 : decode cX2_isSafeStep 6 = .ok (.iload_n 1, 1) := by decide +kernel
theorem dX2_isSafeStep_7 : decode cX2_isSafeStep 7 = .ok (.invokevirtual 85, 3) := by decide +kernel
theorem dX2_isSafeStep_10 : decode cX2_isSafeStep 10 = .ok (.bipush 46, 2) := by decide +kernel
theorem dX2_isSafeStep_12 : decode cX2_isSafeStep 12 = .ok (.if_icmp .ne 19, 3) := by decide +kernel
theorem dX2_isSafeStep_15 : decode cX2_isSafeStep 15 = .ok (.aload_n 0, 1) := by decide +kernel
theorem dX2_isSafeStep_16 : decode cX2_isSafeStep 16 = .ok (.iload_n 1, 1) := by decide +kernel
theorem dX2_isSafeStep_17 : decode cX2_isSafeStep 17 = .ok (.iconst 1, 1) := by decide +kernel
theorem dX2_isSafeStep_18 : decode cX2_isSafeStep 18 = .ok (.iadd, 1) := by decide +kernel
theorem dX2_isSafeStep_19 : decode cX2_isSafeStep 19 = .ok (.invokevirtual 85, 3) := by decide +kernel
theorem dX2_isSafeStep_22 : decode cX2_isSafeStep 22 = .ok (.bipush 46, 2) := by decide +kernel
theorem dX2_isSafeStep_24 : decode cX2_isSafeStep 24 = .ok (.if_icmp .ne 7, 3) := by decide +kernel
theorem dX2_isSafeStep_27 : decode cX2_isSafeStep 27 = .ok (.iconst 1, 1) := by decide +kernel
theorem dX2_isSafeStep_28 : decode cX2_isSafeStep 28 = .ok (.goto 4, 3) := by decide +kernel
theorem dX2_isSafeStep_31 : decode cX2_isSafeStep 31 = .ok (.iconst 0, 1) := by decide +kernel
theorem dX2_isSafeStep_32 : decode cX2_isSafeStep 32 = .ok (.istore_n 3, 1) := by decide +kernel
theorem dX2_isSafeStep_33 : decode cX2_isSafeStep 33 = .ok (.iload_n 2, 1) := by decide +kernel
theorem dX2_isSafeStep_34 : decode cX2_isSafeStep 34 = .ok (.ifCond .eq 11, 3) := by decide +kernel
theorem dX2_isSafeStep_37 : decode cX2_isSafeStep 37 = .ok (.iload_n 3, 1) := by decide +kernel
theorem dX2_isSafeStep_38 : decode cX2_isSafeStep 38 = .ok (.ifCond .ne 7, 3) := by decide +kernel
theorem dX2_isSafeStep_41 : decode cX2_isSafeStep 41 = .ok (.iconst 1, 1) := by decide +kernel
theorem dX2_isSafeStep_42 : decode cX2_isSafeStep 42 = .ok (.goto 4, 3) := by decide +kernel
theorem dX2_isSafeStep_45 : decode cX2_isSafeStep 45 = .ok (.iconst 0, 1) := by decide +kernel
theorem dX2_isSafeStep_46 : decode cX2_isSafeStep 46 = .ok (.ireturn, 1) := by decide +kernel
theorem dX3_init_0 : decode cX3_init 0 = .ok (.aload_n 0, 1) := by decide +kernel
theorem dX3_init_1 : decode cX3_init 1 = .ok (.invokespecial 3, 3) := by decide +kernel
theorem dX3_init_4 : decode cX3_init 4 = .ok (.aload_n 0, 1) := by decide +kernel
theorem dX3_init_5 : decode cX3_init 5 = .ok (.sipush 2000, 3) := by decide +kernel
theorem dX3_init_8 : decode cX3_init 8 = .ok (.newarray .byte, 2) := by decide +kernel
theorem dX3_init_10 : decode cX3_init 10 = .ok (.putfield 9, 3) := by decide +kernel
theorem dX3_init_13 : decode cX3_init 13 = .ok (.aload_n 0, 1) := by decide +kernel
theorem dX3_init_14 : decode cX3_init 14 = .ok (.iconst 0, 1) := by decide +kernel
theorem dX3_init_15 : decode cX3_init 15 = .ok (.putfield 15, 3) := by decide +kernel
theorem dX3_init_18 : decode cX3_init 18 = .ok (.return_, 1) := by decide +kernel
theorem dX3_holds_0 : decode cX3_holds 0 = .ok (.iload_n 1, 1) := by decide +kernel
theorem dX3_holds_1 : decode cX3_holds 1 = .ok (.ifCond .lt 17, 3) := by decide +kernel
theorem dX3_holds_4 : decode cX3_holds 4 = .ok (.iload_n 1, 1) := by decide +kernel
theorem dX3_holds_5 : decode cX3_holds 5 = .ok (.aload_n 0, 1) := by decide +kernel
theorem dX3_holds_6 : decode cX3_holds 6 = .ok (.getfield 15, 3) := by decide +kernel
theorem dX3_holds_9 : decode cX3_holds 9 = .ok (.iload_n 2, 1) := by decide +kernel
theorem dX3_holds_10 : decode cX3_holds 10 = .ok (.isub, 1) := by decide +kernel
theorem dX3_holds_11 : decode cX3_holds 11 = .ok (.if_icmp .gt 7, 3) := by decide +kernel
theorem dX3_holds_14 : decode cX3_holds 14 = .ok (.iconst 1, 1) := by decide +kernel
theorem dX3_holds_15 : decode cX3_holds 15 = .ok (.goto 4, 3) := by decide +kernel
theorem dX3_holds_18 : decode cX3_holds 18 = .ok (.iconst 0, 1) := by decide +kernel
theorem dX3_holds_19 : decode cX3_holds 19 = .ok (.ireturn, 1) := by decide +kernel
theorem dX3_number1_0 : decode cX3_number1 0 = .ok (.iload_n 1, 1) := by decide +kernel
theorem dX3_number1_1 : decode cX3_number1 1 = .ok (.ifCond .lt 10, 3) := by decide +kernel
theorem dX3_number1_4 : decode cX3_number1 4 = .ok (.iload_n 1, 1) := by decide +kernel
theorem dX3_number1_5 : decode cX3_number1 5 = .ok (.sipush 2000, 3) := by decide +kernel
theorem dX3_number1_8 : decode cX3_number1 8 = .ok (.if_icmp .lt 7, 3) := by decide +kernel
theorem dX3_number1_11 : decode cX3_number1 11 = .ok (.iconst 0, 1) := by decide +kernel
theorem dX3_number1_12 : decode cX3_number1 12 = .ok (.goto 13, 3) := by decide +kernel
theorem dX3_number1_15 : decode cX3_number1 15 = .ok (.aload_n 0, 1) := by decide +kernel
theorem dX3_number1_16 : decode cX3_number1 16 = .ok (.getfield 9, 3) := by decide +kernel
theorem dX3_number1_19 : decode cX3_number1 19 = .ok (.iload_n 1, 1) := by decide +kernel
theorem dX3_number1_20 : decode cX3_number1 20 = .ok (.baload, 1) := by decide +kernel
theorem dX3_number1_21 : decode cX3_number1 21 = .ok (.sipush 255, 3) := by decide +kernel
theorem dX3_number1_24 : decode cX3_number1 24 = .ok (.iand, 1) := by decide +kernel
theorem dX3_number1_25 : decode cX3_number1 25 = .ok (.ireturn, 1) := by decide +kernel
theorem dX3_number2_0 : decode cX3_number2 0 = .ok (.aload_n 0, 1) := by decide +kernel
theorem dX3_number2_1 : decode cX3_number2 1 = .ok (.iload_n 1, 1) := by decide +kernel
theorem dX3_number2_2 : decode cX3_number2 2 = .ok (.invokevirtual 19, 3) := by decide +kernel
theorem dX3_number2_5 : decode cX3_number2 5 = .ok (.aload_n 0, 1) := by decide +kernel
theorem dX3_number2_6 : decode cX3_number2 6 = .ok (.iload_n 1, 1) := by decide +kernel
theorem dX3_number2_7 : decode cX3_number2 7 = .ok (.iconst 1, 1) := by decide +kernel
theorem dX3_number2_8 : decode cX3_number2 8 = .ok (.iadd, 1) := by decide +kernel
theorem dX3_number2_9 : decode cX3_number2 9 = .ok (.invokevirtual 19, 3) := by decide +kernel
theorem dX3_number2_12 : decode cX3_number2 12 = .ok (.bipush 8, 2) := by decide +kernel
theorem dX3_number2_14 : decode cX3_number2 14 = .ok (.ishl, 1) := by decide +kernel
theorem dX3_number2_15 : decode cX3_number2 15 = .ok (.ior, 1) := by decide +kernel
theorem dX3_number2_16 : decode cX3_number2 16 = .ok (.ireturn, 1) := by decide +kernel
theorem dX3_number4_0 : decode cX3_number4 0 = .ok (.aload_n 0, 1) := by decide +kernel
theorem dX3_number4_1 : decode cX3_number4 1 = .ok (.iload_n 1, 1) := by decide +kernel
theorem dX3_number4_2 : decode cX3_number4 2 = .ok (.iconst 4, 1) := by decide +kernel
theorem dX3_number4_3 : decode cX3_number4 3 = .ok (.invokevirtual 23, 3) := by decide +kernel
theorem dX3_number4_6 : decode cX3_number4 6 = .ok (.lreturn, 1) := by decide +kernel
theorem dX3_number8_0 : decode cX3_number8 0 = .ok (.aload_n 0, 1) := by decide +kernel
theorem dX3_number8_1 : decode cX3_number8 1 = .ok (.iload_n 1, 1) := by decide +kernel
theorem dX3_number8_2 : decode cX3_number8 2 = .ok (.bipush 8, 2) := by decide +kernel
theorem dX3_number8_4 : decode cX3_number8 4 = .ok (.invokevirtual 23, 3) := by decide +kernel
theorem dX3_number8_7 : decode cX3_number8 7 = .ok (.lreturn, 1) := by decide +kernel
theorem dX3_longNumber_0 : decode cX3_longNumber 0 = .ok (.lconst 0, 1) := by decide +kernel
theorem dX3_longNumber_1 : decode cX3_longNumber 1 = .ok (.lstore_n 3, 1) := by decide +kernel
theorem dX3_longNumber_2 : decode cX3_longNumber 2 = .ok (.iconst 0, 1) := by decide +kernel
theorem dX3_longNumber_3 : decode cX3_longNumber 3 = .ok (.istore 5, 2) := by decide +kernel
theorem dX3_longNumber_5 : decode cX3_longNumber 5 = .ok (.iload 5, 2) := by decide +kernel
theorem dX3_longNumber_7 : decode cX3_longNumber 7 = .ok (.iload_n 2, 1) := by decide +kernel
theorem dX3_longNumber_8 : decode cX3_longNumber 8 = .ok (.if_icmp .ge 27, 3) := by decide +kernel
theorem dX3_longNumber_11 : decode cX3_longNumber 11 = .ok (.lload_n 3, 1) := by decide +kernel
theorem dX3_longNumber_12 : decode cX3_longNumber 12 = .ok (.aload_n 0, 1) := by decide +kernel
theorem dX3_longNumber_13 : decode cX3_longNumber 13 = .ok (.iload_n 1, 1) := by decide +kernel
theorem dX3_longNumber_14 : decode cX3_longNumber 14 = .ok (.iload 5, 2) := by decide +kernel
theorem dX3_longNumber_16 : decode cX3_longNumber 16 = .ok (.iadd, 1) := by decide +kernel
theorem dX3_longNumber_17 : decode cX3_longNumber 17 = .ok (.invokevirtual 19, 3) := by decide +kernel
theorem dX3_longNumber_20 : decode cX3_longNumber 20 = .ok (.i2l, 1) := by decide +kernel
theorem dX3_longNumber_21 : decode cX3_longNumber 21 = .ok (.bipush 8, 2) := by decide +kernel
theorem dX3_longNumber_23 : decode cX3_longNumber 23 = .ok (.iload 5, 2) := by decide +kernel
theorem dX3_longNumber_25 : decode cX3_longNumber 25 = .ok (.imul, 1) := by decide +kernel
theorem dX3_longNumber_26 : decode cX3_longNumber 26 = .ok (.lshl, 1) := by decide +kernel
theorem dX3_longNumber_27 : decode cX3_longNumber 27 = .ok (.lor, 1) := by decide +kernel
theorem dX3_longNumber_28 : decode cX3_longNumber 28 = .ok (.lstore_n 3, 1) := by decide +kernel
theorem dX3_longNumber_29 : decode cX3_longNumber 29 = .ok (.iinc 5 1, 3) := by decide +kernel
theorem dX3_longNumber_32 : decode cX3_longNumber 32 = .ok (.goto (-27), 3) := by decide +kernel
theorem dX3_longNumber_35 : decode cX3_longNumber 35 = .ok (.lload_n 3, 1) := by decide +kernel
theorem dX3_longNumber_36 : decode cX3_longNumber 36 = .ok (.lreturn, 1) := by decide +kernel
theorem dX3_isSame_0 : decode cX3_isSame 0 = .ok (.iconst 0, 1) := by decide +kernel
theorem dX3_isSame_1 : decode cX3_isSame 1 = .ok (.istore 4, 2) := by decide +kernel
theorem dX3_isSame_3 : decode cX3_isSame 3 = .ok (.iload 4, 2) := by decide +kernel
theorem dX3_isSame_5 : decode cX3_isSame 5 = .ok (.iload_n 3, 1) := by decide +kernel
theorem dX3_isSame_6 : decode cX3_isSame 6 = .ok (.if_icmp .ge 30, 3) := by decide +kernel
theorem dX3_isSame_9 : decode cX3_isSame 9 = .ok (.aload_n 0, 1) := by decide +kernel
theorem dX3_isSame_10 : decode cX3_isSame 10 = .ok (.iload_n 1, 1) := by decide +kernel
theorem dX3_isSame_11 : decode cX3_isSame 11 = .ok (.iload 4, 2) := by decide +kernel
theorem dX3_isSame_13 : decode cX3_isSame 13 = .ok (.iadd, 1) := by decide +kernel
theorem dX3_isSame_14 : decode cX3_isSame 14 = .ok (.invokevirtual 19, 3) := by decide +kernel
theorem dX3_isSame_17 : decode cX3_isSame 17 = .ok (.aload_n 0, 1) := by decide +kernel
theorem dX3_isSame_18 : decode cX3_isSame 18 = .ok (.iload_n 2, 1) := by decide +kernel
theorem dX3_isSame_19 : decode cX3_isSame 19 = .ok (.iload 4, 2) := by decide +kernel
theorem dX3_isSame_21 : decode cX3_isSame 21 = .ok (.iadd, 1) := by decide +kernel
theorem dX3_isSame_22 : decode cX3_isSame 22 = .ok (.invokevirtual 19, 3) := by decide +kernel
theorem dX3_isSame_25 : decode cX3_isSame 25 = .ok (.if_icmp .eq 5, 3) := by decide +kernel
theorem dX3_isSame_28 : decode cX3_isSame 28 = .ok (.iconst 0, 1) := by decide +kernel
theorem dX3_isSame_29 : decode cX3_isSame 29 = .ok (.ireturn, 1) := by decide +kernel
theorem dX3_isSame_30 : decode cX3_isSame 30 = .ok (.iinc 4 1, 3) := by decide +kernel
theorem dX3_isSame_33 : decode cX3_isSame 33 = .ok (.goto (-30), 3) := by decide +kernel
theorem dX3_isSame_36 : decode cX3_isSame 36 = .ok (.iconst 1, 1) := by decide +kernel
theorem dX3_isSame_37 : decode cX3_isSame 37 = .ok (.ireturn, 1) := by decide +kernel
theorem dX3_copyTo_0 : decode cX3_copyTo 0 = .ok (.iconst 0, 1) := by decide +kernel
theorem dX3_copyTo_1 : decode cX3_copyTo 1 = .ok (.istore 5, 2) := by decide +kernel
theorem dX3_copyTo_3 : decode cX3_copyTo 3 = .ok (.iload 5, 2) := by decide +kernel
theorem dX3_copyTo_5 : decode cX3_copyTo 5 = .ok (.iload_n 2, 1) := by decide +kernel
theorem dX3_copyTo_6 : decode cX3_copyTo 6 = .ok (.if_icmp .ge 35, 3) := by decide +kernel
theorem dX3_copyTo_9 : decode cX3_copyTo 9 = .ok (.iload 4, 2) := by decide +kernel
theorem dX3_copyTo_11 : decode cX3_copyTo 11 = .ok (.iload 5, 2) := by decide +kernel
theorem dX3_copyTo_13 : decode cX3_copyTo 13 = .ok (.iadd, 1) := by decide +kernel
theorem dX3_copyTo_14 : decode cX3_copyTo 14 = .ok (.aload_n 3, 1) := by decide +kernel
theorem dX3_copyTo_15 : decode cX3_copyTo 15 = .ok (.arraylength, 1) := by decide +kernel
theorem dX3_copyTo_16 : decode cX3_copyTo 16 = .ok (.if_icmp .ge 25, 3) := by decide +kernel
theorem dX3_copyTo_19 : decode cX3_copyTo 19 = .ok (.aload_n 3, 1) := by decide +kernel
theorem dX3_copyTo_20 : decode cX3_copyTo 20 = .ok (.iload 4, 2) := by decide +kernel
theorem dX3_copyTo_22 : decode cX3_copyTo 22 = .ok (.iload 5, 2) := by decide +kernel
theorem dX3_copyTo_24 : decode cX3_copyTo 24 = .ok (.iadd, 1) := by decide +kernel
theorem dX3_copyTo_25 : decode cX3_copyTo 25 = .ok (.aload_n 0, 1) := by decide +kernel
theorem dX3_copyTo_26 : decode cX3_copyTo 26 = .ok (.iload_n 1, 1) := by decide +kernel
theorem dX3_copyTo_27 : decode cX3_copyTo 27 = .ok (.iload 5, 2) := by decide +kernel
theorem dX3_copyTo_29 : decode cX3_copyTo 29 = .ok (.iadd, 1) := by decide +kernel
theorem dX3_copyTo_30 : decode cX3_copyTo 30 = .ok (.invokevirtual 19, 3) := by decide +kernel
theorem dX3_copyTo_33 : decode cX3_copyTo 33 = .ok (.i2b, 1) := by decide +kernel
theorem dX3_copyTo_34 : decode cX3_copyTo 34 = .ok (.bastore, 1) := by decide +kernel
theorem dX3_copyTo_35 : decode cX3_copyTo 35 = .ok (.iinc 5 1, 3) := by decide +kernel
theorem dX3_copyTo_38 : decode cX3_copyTo 38 = .ok (.goto (-35), 3) := by decide +kernel
theorem dX3_copyTo_41 : decode cX3_copyTo 41 = .ok (.return_, 1) := by decide +kernel
theorem dX3_putNumber_0 : decode cX3_putNumber 0 = .ok (.iconst 0, 1) := by decide +kernel
theorem dX3_putNumber_1 : decode cX3_putNumber 1 = .ok (.istore 4, 2) := by decide +kernel
theorem dX3_putNumber_3 : decode cX3_putNumber 3 = .ok (.iload 4, 2) := by decide +kernel
theorem dX3_putNumber_5 : decode cX3_putNumber 5 = .ok (.iload_n 3, 1) := by decide +kernel
theorem dX3_putNumber_6 : decode cX3_putNumber 6 = .ok (.if_icmp .ge 22, 3) := by decide +kernel
theorem dX3_putNumber_9 : decode cX3_putNumber 9 = .ok (.aload_n 0, 1) := by decide +kernel
theorem dX3_putNumber_10 : decode cX3_putNumber 10 = .ok (.lload_n 1, 1) := by decide +kernel
theorem dX3_putNumber_11 : decode cX3_putNumber 11 = .ok (.bipush 8, 2) := by decide +kernel
theorem dX3_putNumber_13 : decode cX3_putNumber 13 = .ok (.iload 4, 2) := by decide +kernel
theorem dX3_putNumber_15 : decode cX3_putNumber 15 = .ok (.imul, 1) := by decide +kernel
theorem dX3_putNumber_16 : decode cX3_putNumber 16 = .ok (.lushr, 1) := by decide +kernel
theorem dX3_putNumber_17 : decode cX3_putNumber 17 = .ok (.l2i, 1) := by decide +kernel
theorem dX3_putNumber_18 : decode cX3_putNumber 18 = .ok (.i2b, 1) := by decide +kernel
theorem dX3_putNumber_19 : decode cX3_putNumber 19 = .ok (.invokevirtual 27, 3) := by decide +kernel
theorem dX3_putNumber_22 : decode cX3_putNumber 22 = .ok (.iinc 4 1, 3) := by decide +kernel
theorem dX3_putNumber_25 : decode cX3_putNumber 25 = .ok (.goto (-22), 3) := by decide +kernel
theorem dX3_putNumber_28 : decode cX3_putNumber 28 = .ok (.return_, 1) := by decide +kernel
theorem dX3_putCells_0 : decode cX3_putCells 0 = .ok (.iconst 0, 1) := by decide +kernel
theorem dX3_putCells_1 : decode cX3_putCells 1 = .ok (.istore 4, 2) := by decide +kernel
theorem dX3_putCells_3 : decode cX3_putCells 3 = .ok (.iload 4, 2) := by decide +kernel
theorem dX3_putCells_5 : decode cX3_putCells 5 = .ok (.iload_n 3, 1) := by decide +kernel
theorem dX3_putCells_6 : decode cX3_putCells 6 = .ok (.if_icmp .ge 28, 3) := by decide +kernel
theorem dX3_putCells_9 : decode cX3_putCells 9 = .ok (.iload_n 2, 1) := by decide +kernel
theorem dX3_putCells_10 : decode cX3_putCells 10 = .ok (.iload 4, 2) := by decide +kernel
theorem dX3_putCells_12 : decode cX3_putCells 12 = .ok (.iadd, 1) := by decide +kernel
theorem dX3_putCells_13 : decode cX3_putCells 13 = .ok (.aload_n 1, 1) := by decide +kernel
theorem dX3_putCells_14 : decode cX3_putCells 14 = .ok (.arraylength, 1) := by decide +kernel
theorem dX3_putCells_15 : decode cX3_putCells 15 = .ok (.if_icmp .ge 19, 3) := by decide +kernel
theorem dX3_putCells_18 : decode cX3_putCells 18 = .ok (.aload_n 0, 1) := by decide +kernel
theorem dX3_putCells_19 : decode cX3_putCells 19 = .ok (.aload_n 1, 1) := by decide +kernel
theorem dX3_putCells_20 : decode cX3_putCells 20 = .ok (.iload_n 2, 1) := by decide +kernel
theorem dX3_putCells_21 : decode cX3_putCells 21 = .ok (.iload 4, 2) := by decide +kernel
theorem dX3_putCells_23 : decode cX3_putCells 23 = .ok (.iadd, 1) := by decide +kernel
theorem dX3_putCells_24 : decode cX3_putCells 24 = .ok (.baload, 1) := by decide +kernel
theorem dX3_putCells_25 : decode cX3_putCells 25 = .ok (.invokevirtual 27, 3) := by decide +kernel
theorem dX3_putCells_28 : decode cX3_putCells 28 = .ok (.iinc 4 1, 3) := by decide +kernel
theorem dX3_putCells_31 : decode cX3_putCells 31 = .ok (.goto (-28), 3) := by decide +kernel
theorem dX3_putCells_34 : decode cX3_putCells 34 = .ok (.return_, 1) := by decide +kernel
theorem dX3_putCell_0 : decode cX3_putCell 0 = .ok (.aload_n 0, 1) := by decide +kernel
theorem dX3_putCell_1 : decode cX3_putCell 1 = .ok (.getfield 15, 3) := by decide +kernel
theorem dX3_putCell_4 : decode cX3_putCell 4 = .ok (.sipush 2000, 3) := by decide +kernel
theorem dX3_putCell_7 : decode cX3_putCell 7 = .ok (.if_icmp .ge 23, 3) := by decide +kernel
theorem dX3_putCell_10 : decode cX3_putCell 10 = .ok (.aload_n 0, 1) := by decide +kernel
theorem dX3_putCell_11 : decode cX3_putCell 11 = .ok (.getfield 9, 3) := by decide +kernel
theorem dX3_putCell_14 : decode cX3_putCell 14 = .ok (.aload_n 0, 1) := by decide +kernel
theorem dX3_putCell_15 : decode cX3_putCell 15 = .ok (.getfield 15, 3) := by decide +kernel
theorem dX3_putCell_18 : decode cX3_putCell 18 = .ok (.iload_n 1, 1) := by decide +kernel
theorem dX3_putCell_19 : decode cX3_putCell 19 = .ok (.bastore, 1) := by decide +kernel
theorem dX3_putCell_20 : decode cX3_putCell 20 = .ok (.aload_n 0, 1) := by decide +kernel
theorem dX3_putCell_21 : decode cX3_putCell 21 = .ok (.dup, 1) := by decide +kernel
theorem dX3_putCell_22 : decode cX3_putCell 22 = .ok (.getfield 15, 3) := by decide +kernel
theorem dX3_putCell_25 : decode cX3_putCell 25 = .ok (.iconst 1, 1) := by decide +kernel
theorem dX3_putCell_26 : decode cX3_putCell 26 = .ok (.iadd, 1) := by decide +kernel
theorem dX3_putCell_27 : decode cX3_putCell 27 = .ok (.putfield 15, 3) := by decide +kernel
theorem dX3_putCell_30 : decode cX3_putCell 30 = .ok (.return_, 1) := by decide +kernel
