theorem dX4_init_0 : decode cX4_init 0 = .ok (.aload_n 0, 1) := by decide +kernel
theorem dX4_init_1 : decode cX4_init 1 = .ok (.invokespecial 1, 3) := by decide +kernel
theorem dX4_init_4 : decode cX4_init 4 = .ok (.aload_n 0, 1) := by decide +kernel
theorem dX4_init_5 : decode cX4_init 5 = .ok (.bipush 12, 2) := by decide +kernel
theorem dX4_init_7 : decode cX4_init 7 = .ok (.anewarray 9, 3) := by decide +kernel
theorem dX4_init_10 : decode cX4_init 10 = .ok (.putfield 11, 3) := by decide +kernel
theorem dX4_init_13 : decode cX4_init 13 = .ok (.aload_n 0, 1) := by decide +kernel
theorem dX4_init_14 : decode cX4_init 14 = .ok (.new 15, 3) := by decide +kernel
theorem dX4_init_17 : decode cX4_init 17 = .ok (.dup, 1) := by decide +kernel
theorem dX4_init_18 : decode cX4_init 18 = .ok (.invokespecial 17, 3) := by decide +kernel
theorem dX4_init_21 : decode cX4_init 21 = .ok (.putfield 18, 3) := by decide +kernel
theorem dX4_init_24 : decode cX4_init 24 = .ok (.aload_n 0, 1) := by decide +kernel
theorem dX4_init_25 : decode cX4_init 25 = .ok (.new 22, 3) := by decide +kernel
theorem dX4_init_28 : decode cX4_init 28 = .ok (.dup, 1) := by decide +kernel
theorem dX4_init_29 : decode cX4_init 29 = .ok (.aload_n 0, 1) := by decide +kernel
theorem dX4_init_30 : decode cX4_init 30 = .ok (.getfield 18, 3) := by decide +kernel
theorem dX4_init_33 : decode cX4_init 33 = .ok (.invokespecial 24, 3) := by decide +kernel
theorem dX4_init_36 : decode cX4_init 36 = .ok (.putfield 27, 3) := by decide +kernel
theorem dX4_init_39 : decode cX4_init 39 = .ok (.aload_n 0, 1) := by decide +kernel
theorem dX4_init_40 : decode cX4_init 40 = .ok (.bipush 12, 2) := by decide +kernel
theorem dX4_init_42 : decode cX4_init 42 = .ok (.newarray .byte, 2) := by decide +kernel
theorem dX4_init_44 : decode cX4_init 44 = .ok (.putfield 31, 3) := by decide +kernel
theorem dX4_init_47 : decode cX4_init 47 = .ok (.aload_n 0, 1) := by decide +kernel
theorem dX4_init_48 : decode cX4_init 48 = .ok (.iconst 0, 1) := by decide +kernel
theorem dX4_init_49 : decode cX4_init 49 = .ok (.putfield 35, 3) := by decide +kernel
theorem dX4_init_52 : decode cX4_init 52 = .ok (.aload_n 0, 1) := by decide +kernel
theorem dX4_init_53 : decode cX4_init 53 = .ok (.iconst 0, 1) := by decide +kernel
theorem dX4_init_54 : decode cX4_init 54 = .ok (.putfield 39, 3) := by decide +kernel
theorem dX4_init_57 : decode cX4_init 57 = .ok (.aload_n 0, 1) := by decide +kernel
theorem dX4_init_58 : decode cX4_init 58 = .ok (.iconst 0, 1) := by decide +kernel
theorem dX4_init_59 : decode cX4_init 59 = .ok (.putfield 42, 3) := by decide +kernel
theorem dX4_init_62 : decode cX4_init 62 = .ok (.aload_n 0, 1) := by decide +kernel
theorem dX4_init_63 : decode cX4_init 63 = .ok (.iconst (-1), 1) := by decide +kernel
theorem dX4_init_64 : decode cX4_init 64 = .ok (.putfield 45, 3) := by decide +kernel
theorem dX4_init_67 : decode cX4_init 67 = .ok (.iconst 0, 1) := by decide +kernel
theorem dX4_init_68 : decode cX4_init 68 = .ok (.istore_n 1, 1) := by decide +kernel
theorem dX4_init_69 : decode cX4_init 69 = .ok (.iload_n 1, 1) := by decide +kernel
theorem dX4_init_70 : decode cX4_init 70 = .ok (.bipush 12, 2) := by decide +kernel
theorem dX4_init_72 : decode cX4_init 72 = .ok (.if_icmp .ge 22, 3) := by decide +kernel
theorem dX4_init_75 : decode cX4_init 75 = .ok (.aload_n 0, 1) := by decide +kernel
theorem dX4_init_76 : decode cX4_init 76 = .ok (.getfield 11, 3) := by decide +kernel
theorem dX4_init_79 : decode cX4_init 79 = .ok (.iload_n 1, 1) := by decide +kernel
theorem dX4_init_80 : decode cX4_init 80 = .ok (.new 9, 3) := by decide +kernel
theorem dX4_init_83 : decode cX4_init 83 = .ok (.dup, 1) := by decide +kernel
theorem dX4_init_84 : decode cX4_init 84 = .ok (.invokespecial 48, 3) := by decide +kernel
theorem dX4_init_87 : decode cX4_init 87 = .ok (.aastore, 1) := by decide +kernel
theorem dX4_init_88 : decode cX4_init 88 = .ok (.iinc 1 1, 3) := by decide +kernel
theorem dX4_init_91 : decode cX4_init 91 = .ok (.goto (-22), 3) := by decide +kernel
theorem dX4_init_94 : decode cX4_init 94 = .ok (.return_, 1) := by decide +kernel
theorem dX4_entry_0 : decode cX4_entry 0 = .ok (.iload_n 1, 1) := by decide +kernel
theorem dX4_entry_1 : decode cX4_entry 1 = .ok (.ifCond .lt 26, 3) := by decide +kernel
theorem dX4_entry_4 : decode cX4_entry 4 = .ok (.iload_n 1, 1) := by decide +kernel
theorem dX4_entry_5 : decode cX4_entry 5 = .ok (.iconst 2, 1) := by decide +kernel
theorem dX4_entry_6 : decode cX4_entry 6 = .ok (.if_icmp .gt 21, 3) := by decide +kernel
theorem dX4_entry_9 : decode cX4_entry 9 = .ok (.iload_n 2, 1) := by decide +kernel
theorem dX4_entry_10 : decode cX4_entry 10 = .ok (.ifCond .lt 17, 3) := by decide +kernel
theorem dX4_entry_13 : decode cX4_entry 13 = .ok (.iload_n 2, 1) := by decide +kernel
theorem dX4_entry_14 : decode cX4_entry 14 = .ok (.iconst 2, 1) := by decide +kernel
theorem dX4_entry_15 : decode cX4_entry 15 = .ok (.if_icmp .gt 12, 3) := by decide +kernel
theorem dX4_entry_18 : decode cX4_entry 18 = .ok (.iload_n 1, 1) := by decide +kernel
theorem dX4_entry_19 : decode cX4_entry 19 = .ok (.iconst 2, 1) := by decide +kernel
theorem dX4_entry_20 : decode cX4_entry 20 = .ok (.if_icmp .ne 10, 3) := by decide +kernel
theorem dX4_entry_23 : decode cX4_entry 23 = .ok (.iload_n 2, 1) := by decide +kernel
theorem dX4_entry_24 : decode cX4_entry 24 = .ok (.ifCond .eq 6, 3) := by decide +kernel
theorem dX4_entry_27 : decode cX4_entry 27 = .ok (.bipush (-3), 2) := by decide +kernel
theorem dX4_entry_29 : decode cX4_entry 29 = .ok (.ireturn, 1) := by decide +kernel
theorem dX4_entry_30 : decode cX4_entry 30 = .ok (.iload_n 1, 1) := by decide +kernel
theorem dX4_entry_31 : decode cX4_entry 31 = .ok (.lload_n 3, 1) := by decide +kernel
theorem dX4_entry_32 : decode cX4_entry 32 = .ok (.iload 5, 2) := by decide +kernel
theorem dX4_entry_34 : decode cX4_entry 34 = .ok (.invokestatic 49, 3) := by decide +kernel
theorem dX4_entry_37 : decode cX4_entry 37 = .ok (.ifCond .ne 6, 3) := by decide +kernel
theorem dX4_entry_40 : decode cX4_entry 40 = .ok (.bipush (-3), 2) := by decide +kernel
theorem dX4_entry_42 : decode cX4_entry 42 = .ok (.ireturn, 1) := by decide +kernel
theorem dX4_entry_43 : decode cX4_entry 43 = .ok (.aload_n 0, 1) := by decide +kernel
theorem dX4_entry_44 : decode cX4_entry 44 = .ok (.getfield 35, 3) := by decide +kernel
theorem dX4_entry_47 : decode cX4_entry 47 = .ok (.bipush 12, 2) := by decide +kernel
theorem dX4_entry_49 : decode cX4_entry 49 = .ok (.if_icmp .lt 6, 3) := by decide +kernel
theorem dX4_entry_52 : decode cX4_entry 52 = .ok (.bipush (-5), 2) := by decide +kernel
theorem dX4_entry_54 : decode cX4_entry 54 = .ok (.ireturn, 1) := by decide +kernel
theorem dX4_entry_55 : decode cX4_entry 55 = .ok (.aload_n 0, 1) := by decide +kernel
theorem dX4_entry_56 : decode cX4_entry 56 = .ok (.getfield 11, 3) := by decide +kernel
theorem dX4_entry_59 : decode cX4_entry 59 = .ok (.aload_n 0, 1) := by decide +kernel
theorem dX4_entry_60 : decode cX4_entry 60 = .ok (.getfield 35, 3) := by decide +kernel
theorem dX4_entry_63 : decode cX4_entry 63 = .ok (.aaload, 1) := by decide +kernel
theorem dX4_entry_64 : decode cX4_entry 64 = .ok (.astore 6, 2) := by decide +kernel
theorem dX4_entry_66 : decode cX4_entry 66 = .ok (.aload 6, 2) := by decide +kernel
theorem dX4_entry_68 : decode cX4_entry 68 = .ok (.iload_n 1, 1) := by decide +kernel
theorem dX4_entry_69 : decode cX4_entry 69 = .ok (.iload_n 2, 1) := by decide +kernel
theorem dX4_entry_70 : decode cX4_entry 70 = .ok (.invokevirtual 53, 3) := by decide +kernel
theorem dX4_entry_73 : decode cX4_entry 73 = .ok (.aload 6, 2) := by decide +kernel
theorem dX4_entry_75 : decode cX4_entry 75 = .ok (.lload_n 3, 1) := by decide +kernel
theorem dX4_entry_76 : decode cX4_entry 76 = .ok (.iload 5, 2) := by decide +kernel
theorem dX4_entry_78 : decode cX4_entry 78 = .ok (.invokevirtual 57, 3) := by decide +kernel
theorem dX4_entry_81 : decode cX4_entry 81 = .ok (.aload_n 0, 1) := by decide +kernel
theorem dX4_entry_82 : decode cX4_entry 82 = .ok (.dup, 1) := by decide +kernel
theorem dX4_entry_83 : decode cX4_entry 83 = .ok (.getfield 35, 3) := by decide +kernel
theorem dX4_entry_86 : decode cX4_entry 86 = .ok (.iconst 1, 1) := by decide +kernel
theorem dX4_entry_87 : decode cX4_entry 87 = .ok (.iadd, 1) := by decide +kernel
theorem dX4_entry_88 : decode cX4_entry 88 = .ok (.putfield 35, 3) := by decide +kernel
theorem dX4_entry_91 : decode cX4_entry 91 = .ok (.aload_n 0, 1) := by decide +kernel
theorem dX4_entry_92 : decode cX4_entry 92 = .ok (.getfield 35, 3) := by decide +kernel
theorem dX4_entry_95 : decode cX4_entry 95 = .ok (.iconst 1, 1) := by decide +kernel
theorem dX4_entry_96 : decode cX4_entry 96 = .ok (.isub, 1) := by decide +kernel
theorem dX4_entry_97 : decode cX4_entry 97 = .ok (.ireturn, 1) := by decide +kernel
theorem dX4_name_0 : decode cX4_name 0 = .ok (.aload_n 0, 1) := by decide +kernel
theorem dX4_name_1 : decode cX4_name 1 = .ok (.iload_n 1, 1) := by decide +kernel
theorem dX4_name_2 : decode cX4_name 2 = .ok (.invokevirtual 61, 3) := by decide +kernel
theorem dX4_name_5 : decode cX4_name 5 = .ok (.ifCond .eq 6, 3) := by decide +kernel
theorem dX4_name_8 : decode cX4_name 8 = .ok (.bipush (-2), 2) := by decide +kernel
theorem dX4_name_10 : decode cX4_name 10 = .ok (.ireturn, 1) := by decide +kernel
theorem dX4_name_11 : decode cX4_name 11 = .ok (.aload_n 0, 1) := by decide +kernel
theorem dX4_name_12 : decode cX4_name 12 = .ok (.getfield 11, 3) := by decide +kernel
theorem dX4_name_15 : decode cX4_name 15 = .ok (.iload_n 1, 1) := by decide +kernel
theorem dX4_name_16 : decode cX4_name 16 = .ok (.aaload, 1) := by decide +kernel
theorem dX4_name_17 : decode cX4_name 17 = .ok (.astore 5, 2) := by decide +kernel
theorem dX4_name_19 : decode cX4_name 19 = .ok (.aload 5, 2) := by decide +kernel
theorem dX4_name_21 : decode cX4_name 21 = .ok (.getfield 65, 3) := by decide +kernel
theorem dX4_name_24 : decode cX4_name 24 = .ok (.lload_n 2, 1) := by decide +kernel
theorem dX4_name_25 : decode cX4_name 25 = .ok (.iload 4, 2) := by decide +kernel
theorem dX4_name_27 : decode cX4_name 27 = .ok (.invokestatic 49, 3) := by decide +kernel
theorem dX4_name_30 : decode cX4_name 30 = .ok (.ifCond .ne 6, 3) := by decide +kernel
theorem dX4_name_33 : decode cX4_name 33 = .ok (.bipush (-3), 2) := by decide +kernel
theorem dX4_name_35 : decode cX4_name 35 = .ok (.ireturn, 1) := by decide +kernel
theorem dX4_name_36 : decode cX4_name 36 = .ok (.aload 5, 2) := by decide +kernel
theorem dX4_name_38 : decode cX4_name 38 = .ok (.getfield 68, 3) := by decide +kernel
theorem dX4_name_41 : decode cX4_name 41 = .ok (.iload 4, 2) := by decide +kernel
theorem dX4_name_43 : decode cX4_name 43 = .ok (.iadd, 1) := by decide +kernel
theorem dX4_name_44 : decode cX4_name 44 = .ok (.bipush 16, 2) := by decide +kernel
theorem dX4_name_46 : decode cX4_name 46 = .ok (.if_icmp .le 6, 3) := by decide +kernel
theorem dX4_name_49 : decode cX4_name 49 = .ok (.bipush (-5), 2) := by decide +kernel
theorem dX4_name_51 : decode cX4_name 51 = .ok (.ireturn, 1) := by decide +kernel
theorem dX4_name_52 : decode cX4_name 52 = .ok (.aload 5, 2) := by decide +kernel
theorem dX4_name_54 : decode cX4_name 54 = .ok (.lload_n 2, 1) := by decide +kernel
theorem dX4_name_55 : decode cX4_name 55 = .ok (.iload 4, 2) := by decide +kernel
theorem dX4_name_57 : decode cX4_name 57 = .ok (.invokevirtual 57, 3) := by decide +kernel
theorem dX4_name_60 : decode cX4_name 60 = .ok (.aload 5, 2) := by decide +kernel
theorem dX4_name_62 : decode cX4_name 62 = .ok (.getfield 68, 3) := by decide +kernel
theorem dX4_name_65 : decode cX4_name 65 = .ok (.ireturn, 1) := by decide +kernel
theorem dX4_data_0 : decode cX4_data 0 = .ok (.aload_n 0, 1) := by decide +kernel
theorem dX4_data_1 : decode cX4_data 1 = .ok (.iload_n 1, 1) := by decide +kernel
theorem dX4_data_2 : decode cX4_data 2 = .ok (.invokevirtual 61, 3) := by decide +kernel
theorem dX4_data_5 : decode cX4_data 5 = .ok (.ifCond .eq 6, 3) := by decide +kernel
theorem dX4_data_8 : decode cX4_data 8 = .ok (.bipush (-2), 2) := by decide +kernel
theorem dX4_data_10 : decode cX4_data 10 = .ok (.ireturn, 1) := by decide +kernel
theorem dX4_data_11 : decode cX4_data 11 = .ok (.iload 4, 2) := by decide +kernel
theorem dX4_data_13 : decode cX4_data 13 = .ok (.ifCond .lt 10, 3) := by decide +kernel
theorem dX4_data_16 : decode cX4_data 16 = .ok (.iload 4, 2) := by decide +kernel
theorem dX4_data_18 : decode cX4_data 18 = .ok (.bipush 8, 2) := by decide +kernel
theorem dX4_data_20 : decode cX4_data 20 = .ok (.if_icmp .le 6, 3) := by decide +kernel
theorem dX4_data_23 : decode cX4_data 23 = .ok (.bipush (-3), 2) := by decide +kernel
theorem dX4_data_25 : decode cX4_data 25 = .ok (.ireturn, 1) := by decide +kernel
theorem dX4_data_26 : decode cX4_data 26 = .ok (.aload_n 0, 1) := by decide +kernel
theorem dX4_data_27 : decode cX4_data 27 = .ok (.getfield 11, 3) := by decide +kernel
theorem dX4_data_30 : decode cX4_data 30 = .ok (.iload_n 1, 1) := by decide +kernel
theorem dX4_data_31 : decode cX4_data 31 = .ok (.aaload, 1) := by decide +kernel
theorem dX4_data_32 : decode cX4_data 32 = .ok (.astore 5, 2) := by decide +kernel
theorem dX4_data_34 : decode cX4_data 34 = .ok (.aload 5, 2) := by decide +kernel
theorem dX4_data_36 : decode cX4_data 36 = .ok (.getfield 65, 3) := by decide +kernel
theorem dX4_data_39 : decode cX4_data 39 = .ok (.iconst 2, 1) := by decide +kernel
theorem dX4_data_40 : decode cX4_data 40 = .ok (.if_icmp .ne 9, 3) := by decide +kernel
theorem dX4_data_43 : decode cX4_data 43 = .ok (.aload_n 0, 1) := by decide +kernel
theorem dX4_data_44 : decode cX4_data 44 = .ok (.iconst 2, 1) := by decide +kernel
theorem dX4_data_45 : decode cX4_data 45 = .ok (.invokevirtual 71, 3) := by decide +kernel
theorem dX4_data_48 : decode cX4_data 48 = .ok (.ireturn, 1) := by decide +kernel
theorem dX4_data_49 : decode cX4_data 49 = .ok (.aload 5, 2) := by decide +kernel
theorem dX4_data_51 : decode cX4_data 51 = .ok (.getfield 75, 3) := by decide +kernel
theorem dX4_data_54 : decode cX4_data 54 = .ok (.iload 4, 2) := by decide +kernel
theorem dX4_data_56 : decode cX4_data 56 = .ok (.iadd, 1) := by decide +kernel
theorem dX4_data_57 : decode cX4_data 57 = .ok (.bipush 40, 2) := by decide +kernel
theorem dX4_data_59 : decode cX4_data 59 = .ok (.if_icmp .le 6, 3) := by decide +kernel
theorem dX4_data_62 : decode cX4_data 62 = .ok (.bipush (-5), 2) := by decide +kernel
theorem dX4_data_64 : decode cX4_data 64 = .ok (.ireturn, 1) := by decide +kernel
theorem dX4_data_65 : decode cX4_data 65 = .ok (.lload_n 2, 1) := by decide +kernel
theorem dX4_data_66 : decode cX4_data 66 = .ok (.iload 4, 2) := by decide +kernel
theorem dX4_data_68 : decode cX4_data 68 = .ok (.aload 5, 2) := by decide +kernel
theorem dX4_data_70 : decode cX4_data 70 = .ok (.getfield 78, 3) := by decide +kernel
theorem dX4_data_73 : decode cX4_data 73 = .ok (.aload 5, 2) := by decide +kernel
theorem dX4_data_75 : decode cX4_data 75 = .ok (.getfield 75, 3) := by decide +kernel
theorem dX4_data_78 : decode cX4_data 78 = .ok (.invokestatic 81, 3) := by decide +kernel
theorem dX4_data_81 : decode cX4_data 81 = .ok (.aload 5, 2) := by decide +kernel
theorem dX4_data_83 : decode cX4_data 83 = .ok (.dup, 1) := by decide +kernel
theorem dX4_data_84 : decode cX4_data 84 = .ok (.getfield 75, 3) := by decide +kernel
theorem dX4_data_87 : decode cX4_data 87 = .ok (.iload 4, 2) := by decide +kernel
theorem dX4_data_89 : decode cX4_data 89 = .ok (.iadd, 1) := by decide +kernel
theorem dX4_data_90 : decode cX4_data 90 = .ok (.putfield 75, 3) := by decide +kernel
theorem dX4_data_93 : decode cX4_data 93 = .ok (.aload 5, 2) := by decide +kernel
theorem dX4_data_95 : decode cX4_data 95 = .ok (.iconst 1, 1) := by decide +kernel
theorem dX4_data_96 : decode cX4_data 96 = .ok (.putfield 85, 3) := by decide +kernel
theorem dX4_data_99 : decode cX4_data 99 = .ok (.aload 5, 2) := by decide +kernel
theorem dX4_data_101 : decode cX4_data 101 = .ok (.iconst 0, 1) := by decide +kernel
theorem dX4_data_102 : decode cX4_data 102 = .ok (.putfield 89, 3) := by decide +kernel
theorem dX4_data_105 : decode cX4_data 105 = .ok (.aload 5, 2) := by decide +kernel
theorem dX4_data_107 : decode cX4_data 107 = .ok (.getfield 75, 3) := by decide +kernel
theorem dX4_data_110 : decode cX4_data 110 = .ok (.ireturn, 1) := by decide +kernel
theorem dX4_packed_0 : decode cX4_packed 0 = .ok (.aload_n 0, 1) := by decide +kernel
theorem dX4_packed_1 : decode cX4_packed 1 = .ok (.iload_n 1, 1) := by decide +kernel
theorem dX4_packed_2 : decode cX4_packed 2 = .ok (.invokevirtual 61, 3) := by decide +kernel
theorem dX4_packed_5 : decode cX4_packed 5 = .ok (.ifCond .eq 6, 3) := by decide +kernel
theorem dX4_packed_8 : decode cX4_packed 8 = .ok (.bipush (-2), 2) := by decide +kernel
theorem dX4_packed_10 : decode cX4_packed 10 = .ok (.ireturn, 1) := by decide +kernel
theorem dX4_packed_11 : decode cX4_packed 11 = .ok (.iload_n 2, 1) := by decide +kernel
theorem dX4_packed_12 : decode cX4_packed 12 = .ok (.ifCond .lt 9, 3) := by decide +kernel
theorem dX4_packed_15 : decode cX4_packed 15 = .ok (.iload_n 2, 1) := by decide +kernel
theorem dX4_packed_16 : decode cX4_packed 16 = .ok (.ldc 92, 2) := by decide +kernel
theorem dX4_packed_18 : decode cX4_packed 18 = .ok (.if_icmp .le 6, 3) := by decide +kernel
theorem dX4_packed_21 : decode cX4_packed 21 = .ok (.bipush (-3), 2) := by decide +kernel
theorem dX4_packed_23 : decode cX4_packed 23 = .ok (.ireturn, 1) := by decide +kernel
theorem dX4_packed_24 : decode cX4_packed 24 = .ok (.aload_n 0, 1) := by decide +kernel
theorem dX4_packed_25 : decode cX4_packed 25 = .ok (.getfield 11, 3) := by decide +kernel
theorem dX4_packed_28 : decode cX4_packed 28 = .ok (.iload_n 1, 1) := by decide +kernel
theorem dX4_packed_29 : decode cX4_packed 29 = .ok (.aaload, 1) := by decide +kernel
theorem dX4_packed_30 : decode cX4_packed 30 = .ok (.astore 4, 2) := by decide +kernel
theorem dX4_packed_32 : decode cX4_packed 32 = .ok (.aload 4, 2) := by decide +kernel
theorem dX4_packed_34 : decode cX4_packed 34 = .ok (.getfield 65, 3) := by decide +kernel
theorem dX4_packed_37 : decode cX4_packed 37 = .ok (.iconst 1, 1) := by decide +kernel
theorem dX4_packed_38 : decode cX4_packed 38 = .ok (.if_icmp .eq 9, 3) := by decide +kernel
theorem dX4_packed_41 : decode cX4_packed 41 = .ok (.aload_n 0, 1) := by decide +kernel
theorem dX4_packed_42 : decode cX4_packed 42 = .ok (.iconst 2, 1) := by decide +kernel
theorem dX4_packed_43 : decode cX4_packed 43 = .ok (.invokevirtual 71, 3) := by decide +kernel
theorem dX4_packed_46 : decode cX4_packed 46 = .ok (.ireturn, 1) := by decide +kernel
theorem dX4_packed_47 : decode cX4_packed 47 = .ok (.aload 4, 2) := by decide +kernel
theorem dX4_packed_49 : decode cX4_packed 49 = .ok (.iload_n 2, 1) := by decide +kernel
theorem dX4_packed_50 : decode cX4_packed 50 = .ok (.putfield 93, 3) := by decide +kernel
theorem dX4_packed_53 : decode cX4_packed 53 = .ok (.aload 4, 2) := by decide +kernel
theorem dX4_packed_55 : decode cX4_packed 55 = .ok (.iload_n 3, 1) := by decide +kernel
theorem dX4_packed_56 : decode cX4_packed 56 = .ok (.putfield 96, 3) := by decide +kernel
theorem dX4_packed_59 : decode cX4_packed 59 = .ok (.iconst 1, 1) := by decide +kernel
theorem dX4_packed_60 : decode cX4_packed 60 = .ok (.ireturn, 1) := by decide +kernel
theorem dX4_part_0 : decode cX4_part 0 = .ok (.aload_n 0, 1) := by decide +kernel
theorem dX4_part_1 : decode cX4_part 1 = .ok (.iload_n 1, 1) := by decide +kernel
theorem dX4_part_2 : decode cX4_part 2 = .ok (.invokevirtual 61, 3) := by decide +kernel
theorem dX4_part_5 : decode cX4_part 5 = .ok (.ifCond .eq 6, 3) := by decide +kernel
theorem dX4_part_8 : decode cX4_part 8 = .ok (.bipush (-2), 2) := by decide +kernel
theorem dX4_part_10 : decode cX4_part 10 = .ok (.ireturn, 1) := by decide +kernel
theorem dX4_part_11 : decode cX4_part 11 = .ok (.iload_n 2, 1) := by decide +kernel
theorem dX4_part_12 : decode cX4_part 12 = .ok (.iconst 1, 1) := by decide +kernel
theorem dX4_part_13 : decode cX4_part 13 = .ok (.if_icmp .le 21, 3) := by decide +kernel
theorem dX4_part_16 : decode cX4_part 16 = .ok (.iload_n 2, 1) := by decide +kernel
theorem dX4_part_17 : decode cX4_part 17 = .ok (.ldc 99, 2) := by decide +kernel
theorem dX4_part_19 : decode cX4_part 19 = .ok (.if_icmp .gt 15, 3) := by decide +kernel
theorem dX4_part_22 : decode cX4_part 22 = .ok (.iload 5, 2) := by decide +kernel
theorem dX4_part_24 : decode cX4_part 24 = .ok (.ifCond .lt 10, 3) := by decide +kernel
theorem dX4_part_27 : decode cX4_part 27 = .ok (.iload 5, 2) := by decide +kernel
theorem dX4_part_29 : decode cX4_part 29 = .ok (.bipush 8, 2) := by decide +kernel
theorem dX4_part_31 : decode cX4_part 31 = .ok (.if_icmp .le 6, 3) := by decide +kernel
theorem dX4_part_34 : decode cX4_part 34 = .ok (.bipush (-3), 2) := by decide +kernel
theorem dX4_part_36 : decode cX4_part 36 = .ok (.ireturn, 1) := by decide +kernel
theorem dX4_part_37 : decode cX4_part 37 = .ok (.aload_n 0, 1) := by decide +kernel
theorem dX4_part_38 : decode cX4_part 38 = .ok (.getfield 11, 3) := by decide +kernel
theorem dX4_part_41 : decode cX4_part 41 = .ok (.iload_n 1, 1) := by decide +kernel
theorem dX4_part_42 : decode cX4_part 42 = .ok (.aaload, 1) := by decide +kernel
theorem dX4_part_43 : decode cX4_part 43 = .ok (.astore 6, 2) := by decide +kernel
theorem dX4_part_45 : decode cX4_part 45 = .ok (.aload 6, 2) := by decide +kernel
theorem dX4_part_47 : decode cX4_part 47 = .ok (.getfield 100, 3) := by decide +kernel
theorem dX4_part_50 : decode cX4_part 50 = .ok (.iconst 3, 1) := by decide +kernel
theorem dX4_part_51 : decode cX4_part 51 = .ok (.if_icmp .lt 6, 3) := by decide +kernel
theorem dX4_part_54 : decode cX4_part 54 = .ok (.bipush (-5), 2) := by decide +kernel
theorem dX4_part_56 : decode cX4_part 56 = .ok (.ireturn, 1) := by decide +kernel
theorem dX4_part_57 : decode cX4_part 57 = .ok (.aload 6, 2) := by decide +kernel
theorem dX4_part_59 : decode cX4_part 59 = .ok (.getfield 103, 3) := by decide +kernel
theorem dX4_part_62 : decode cX4_part 62 = .ok (.aload 6, 2) := by decide +kernel
theorem dX4_part_64 : decode cX4_part 64 = .ok (.getfield 100, 3) := by decide +kernel
theorem dX4_part_67 : decode cX4_part 67 = .ok (.iload_n 2, 1) := by decide +kernel
theorem dX4_part_68 : decode cX4_part 68 = .ok (.iastore, 1) := by decide +kernel
theorem dX4_part_69 : decode cX4_part 69 = .ok (.aload 6, 2) := by decide +kernel
theorem dX4_part_71 : decode cX4_part 71 = .ok (.getfield 107, 3) := by decide +kernel
theorem dX4_part_74 : decode cX4_part 74 = .ok (.aload 6, 2) := by decide +kernel
theorem dX4_part_76 : decode cX4_part 76 = .ok (.getfield 100, 3) := by decide +kernel
theorem dX4_part_79 : decode cX4_part 79 = .ok (.iload 5, 2) := by decide +kernel
theorem dX4_part_81 : decode cX4_part 81 = .ok (.iastore, 1) := by decide +kernel
theorem dX4_part_82 : decode cX4_part 82 = .ok (.lload_n 3, 1) := by decide +kernel
theorem dX4_part_83 : decode cX4_part 83 = .ok (.iload 5, 2) := by decide +kernel
theorem dX4_part_85 : decode cX4_part 85 = .ok (.aload 6, 2) := by decide +kernel
theorem dX4_part_87 : decode cX4_part 87 = .ok (.getfield 110, 3) := by decide +kernel
theorem dX4_part_90 : decode cX4_part 90 = .ok (.aload 6, 2) := by decide +kernel
theorem dX4_part_92 : decode cX4_part 92 = .ok (.getfield 100, 3) := by decide +kernel
theorem dX4_part_95 : decode cX4_part 95 = .ok (.bipush 8, 2) := by decide +kernel
theorem dX4_part_97 : decode cX4_part 97 = .ok (.imul, 1) := by decide +kernel
theorem dX4_part_98 : decode cX4_part 98 = .ok (.invokestatic 81, 3) := by decide +kernel
theorem dX4_part_101 : decode cX4_part 101 = .ok (.aload 6, 2) := by decide +kernel
theorem dX4_part_103 : decode cX4_part 103 = .ok (.dup, 1) := by decide +kernel
theorem dX4_part_104 : decode cX4_part 104 = .ok (.getfield 100, 3) := by decide +kernel
theorem dX4_part_107 : decode cX4_part 107 = .ok (.iconst 1, 1) := by decide +kernel
theorem dX4_part_108 : decode cX4_part 108 = .ok (.iadd, 1) := by decide +kernel
theorem dX4_part_109 : decode cX4_part 109 = .ok (.putfield 100, 3) := by decide +kernel
theorem dX4_part_112 : decode cX4_part 112 = .ok (.aload 6, 2) := by decide +kernel
theorem dX4_part_114 : decode cX4_part 114 = .ok (.getfield 100, 3) := by decide +kernel
theorem dX4_part_117 : decode cX4_part 117 = .ok (.ireturn, 1) := by decide +kernel
theorem dX4_stamp_0 : decode cX4_stamp 0 = .ok (.aload_n 0, 1) := by decide +kernel
theorem dX4_stamp_1 : decode cX4_stamp 1 = .ok (.iload_n 1, 1) := by decide +kernel
theorem dX4_stamp_2 : decode cX4_stamp 2 = .ok (.invokevirtual 61, 3) := by decide +kernel
theorem dX4_stamp_5 : decode cX4_stamp 5 = .ok (.ifCond .eq 6, 3) := by decide +kernel
theorem dX4_stamp_8 : decode cX4_stamp 8 = .ok (.bipush (-2), 2) := by decide +kernel
theorem dX4_stamp_10 : decode cX4_stamp 10 = .ok (.ireturn, 1) := by decide +kernel
theorem dX4_stamp_11 : decode cX4_stamp 11 = .ok (.iload_n 2, 1) := by decide +kernel
theorem dX4_stamp_12 : decode cX4_stamp 12 = .ok (.sipush 1980, 3) := by decide +kernel
theorem dX4_stamp_15 : decode cX4_stamp 15 = .ok (.if_icmp .lt 34, 3) := by decide +kernel
theorem dX4_stamp_18 : decode cX4_stamp 18 = .ok (.iload_n 2, 1) := by decide +kernel
theorem dX4_stamp_19 : decode cX4_stamp 19 = .ok (.sipush 2107, 3) := by decide +kernel
theorem dX4_stamp_22 : decode cX4_stamp 22 = .ok (.if_icmp .gt 27, 3) := by decide +kernel
theorem dX4_stamp_25 : decode cX4_stamp 25 = .ok (.iload_n 3, 1) := by decide +kernel
theorem dX4_stamp_26 : decode cX4_stamp 26 = .ok (.iconst 1, 1) := by decide +kernel
theorem dX4_stamp_27 : decode cX4_stamp 27 = .ok (.if_icmp .lt 22, 3) := by decide +kernel
theorem dX4_stamp_30 : decode cX4_stamp 30 = .ok (.iload_n 3, 1) := by decide +kernel
theorem dX4_stamp_31 : decode cX4_stamp 31 = .ok (.bipush 12, 2) := by decide +kernel
theorem dX4_stamp_33 : decode cX4_stamp 33 = .ok (.if_icmp .gt 16, 3) := by decide +kernel
theorem dX4_stamp_36 : decode cX4_stamp 36 = .ok (.iload 4, 2) := by decide +kernel
theorem dX4_stamp_38 : decode cX4_stamp 38 = .ok (.iconst 1, 1) := by decide +kernel
theorem dX4_stamp_39 : decode cX4_stamp 39 = .ok (.if_icmp .lt 10, 3) := by decide +kernel
theorem dX4_stamp_42 : decode cX4_stamp 42 = .ok (.iload 4, 2) := by decide +kernel
theorem dX4_stamp_44 : decode cX4_stamp 44 = .ok (.bipush 31, 2) := by decide +kernel
theorem dX4_stamp_46 : decode cX4_stamp 46 = .ok (.if_icmp .le 6, 3) := by decide +kernel
theorem dX4_stamp_49 : decode cX4_stamp 49 = .ok (.bipush (-3), 2) := by decide +kernel
theorem dX4_stamp_51 : decode cX4_stamp 51 = .ok (.ireturn, 1) := by decide +kernel
theorem dX4_stamp_52 : decode cX4_stamp 52 = .ok (.iload 5, 2) := by decide +kernel
theorem dX4_stamp_54 : decode cX4_stamp 54 = .ok (.ifCond .lt 10, 3) := by decide +kernel
theorem dX4_stamp_57 : decode cX4_stamp 57 = .ok (.iload 5, 2) := by decide +kernel
theorem dX4_stamp_59 : decode cX4_stamp 59 = .ok (.ldc 113, 2) := by decide +kernel
theorem dX4_stamp_61 : decode cX4_stamp 61 = .ok (.if_icmp .le 6, 3) := by decide +kernel
theorem dX4_stamp_64 : decode cX4_stamp 64 = .ok (.bipush (-3), 2) := by decide +kernel
theorem dX4_stamp_66 : decode cX4_stamp 66 = .ok (.ireturn, 1) := by decide +kernel
theorem dX4_stamp_67 : decode cX4_stamp 67 = .ok (.aload_n 0, 1) := by decide +kernel
theorem dX4_stamp_68 : decode cX4_stamp 68 = .ok (.getfield 11, 3) := by decide +kernel
theorem dX4_stamp_71 : decode cX4_stamp 71 = .ok (.iload_n 1, 1) := by decide +kernel
theorem dX4_stamp_72 : decode cX4_stamp 72 = .ok (.aaload, 1) := by decide +kernel
theorem dX4_stamp_73 : decode cX4_stamp 73 = .ok (.astore 6, 2) := by decide +kernel
theorem dX4_stamp_75 : decode cX4_stamp 75 = .ok (.aload 6, 2) := by decide +kernel
theorem dX4_stamp_77 : decode cX4_stamp 77 = .ok (.iload_n 2, 1) := by decide +kernel
theorem dX4_stamp_78 : decode cX4_stamp 78 = .ok (.sipush 1980, 3) := by decide +kernel
theorem dX4_stamp_81 : decode cX4_stamp 81 = .ok (.isub, 1) := by decide +kernel
theorem dX4_stamp_82 : decode cX4_stamp 82 = .ok (.sipush 512, 3) := by decide +kernel
theorem dX4_stamp_85 : decode cX4_stamp 85 = .ok (.imul, 1) := by decide +kernel
theorem dX4_stamp_86 : decode cX4_stamp 86 = .ok (.iload_n 3, 1) := by decide +kernel
theorem dX4_stamp_87 : decode cX4_stamp 87 = .ok (.bipush 32, 2) := by decide +kernel
theorem dX4_stamp_89 : decode cX4_stamp 89 = .ok (.imul, 1) := by decide +kernel
theorem dX4_stamp_90 : decode cX4_stamp 90 = .ok (.iadd, 1) := by decide +kernel
theorem dX4_stamp_91 : decode cX4_stamp 91 = .ok (.iload 4, 2) := by decide +kernel
theorem dX4_stamp_93 : decode cX4_stamp 93 = .ok (.iadd, 1) := by decide +kernel
theorem dX4_stamp_94 : decode cX4_stamp 94 = .ok (.putfield 114, 3) := by decide +kernel
theorem dX4_stamp_97 : decode cX4_stamp 97 = .ok (.aload 6, 2) := by decide +kernel
theorem dX4_stamp_99 : decode cX4_stamp 99 = .ok (.iload 5, 2) := by decide +kernel
theorem dX4_stamp_101 : decode cX4_stamp 101 = .ok (.sipush 3600, 3) := by decide +kernel
theorem dX4_stamp_104 : decode cX4_stamp 104 = .ok (.idiv, 1) := by decide +kernel
theorem dX4_stamp_105 : decode cX4_stamp 105 = .ok (.sipush 2048, 3) := by decide +kernel
theorem dX4_stamp_108 : decode cX4_stamp 108 = .ok (.imul, 1) := by decide +kernel
theorem dX4_stamp_109 : decode cX4_stamp 109 = .ok (.iload 5, 2) := by decide +kernel
theorem dX4_stamp_111 : decode cX4_stamp 111 = .ok (.bipush 60, 2) := by decide +kernel
theorem dX4_stamp_113 : decode cX4_stamp 113 = .ok (.idiv, 1) := by decide +kernel
theorem dX4_stamp_114 : decode cX4_stamp 114 = .ok (.bipush 60, 2) := by decide +kernel
theorem dX4_stamp_116 : decode cX4_stamp 116 = .ok (.irem, 1) := by decide +kernel
theorem dX4_stamp_117 : decode cX4_stamp 117 = .ok (.bipush 32, 2) := by decide +kernel
theorem dX4_stamp_119 : decode cX4_stamp 119 = .ok (.imul, 1) := by decide +kernel
theorem dX4_stamp_120 : decode cX4_stamp 120 = .ok (.iadd, 1) := by decide +kernel
theorem dX4_stamp_121 : decode cX4_stamp 121 = .ok (.iload 5, 2) := by decide +kernel
theorem dX4_stamp_123 : decode cX4_stamp 123 = .ok (.bipush 60, 2) := by decide +kernel
theorem dX4_stamp_125 : decode cX4_stamp 125 = .ok (.irem, 1) := by decide +kernel
theorem dX4_stamp_126 : decode cX4_stamp 126 = .ok (.iconst 2, 1) := by decide +kernel
theorem dX4_stamp_127 : decode cX4_stamp 127 = .ok (.idiv, 1) := by decide +kernel
theorem dX4_stamp_128 : decode cX4_stamp 128 = .ok (.iadd, 1) := by decide +kernel
theorem dX4_stamp_129 : decode cX4_stamp 129 = .ok (.putfield 117, 3) := by decide +kernel
theorem dX4_stamp_132 : decode cX4_stamp 132 = .ok (.iconst 1, 1) := by decide +kernel
theorem dX4_stamp_133 : decode cX4_stamp 133 = .ok (.ireturn, 1) := by decide +kernel
theorem dX4_attributes_0 : decode cX4_attributes 0 = .ok (.aload_n 0, 1) := by decide +kernel
theorem dX4_attributes_1 : decode cX4_attributes 1 = .ok (.iload_n 1, 1) := by decide +kernel
theorem dX4_attributes_2 : decode cX4_attributes 2 = .ok (.invokevirtual 61, 3) := by decide +kernel
theorem dX4_attributes_5 : decode cX4_attributes 5 = .ok (.ifCond .eq 6, 3) := by decide +kernel
theorem dX4_attributes_8 : decode cX4_attributes 8 = .ok (.bipush (-2), 2) := by decide +kernel
theorem dX4_attributes_10 : decode cX4_attributes 10 = .ok (.ireturn, 1) := by decide +kernel
theorem dX4_attributes_11 : decode cX4_attributes 11 = .ok (.aload_n 0, 1) := by decide +kernel
theorem dX4_attributes_12 : decode cX4_attributes 12 = .ok (.getfield 11, 3) := by decide +kernel
theorem dX4_attributes_15 : decode cX4_attributes 15 = .ok (.iload_n 1, 1) := by decide +kernel
theorem dX4_attributes_16 : decode cX4_attributes 16 = .ok (.aaload, 1) := by decide +kernel
theorem dX4_attributes_17 : decode cX4_attributes 17 = .ok (.iload_n 2, 1) := by decide +kernel
theorem dX4_attributes_18 : decode cX4_attributes 18 = .ok (.putfield 120, 3) := by decide +kernel
theorem dX4_attributes_21 : decode cX4_attributes 21 = .ok (.iconst 1, 1) := by decide +kernel
theorem dX4_attributes_22 : decode cX4_attributes 22 = .ok (.ireturn, 1) := by decide +kernel
theorem dX4_clear_0 : decode cX4_clear 0 = .ok (.aload_n 0, 1) := by decide +kernel
theorem dX4_clear_1 : decode cX4_clear 1 = .ok (.getfield 35, 3) := by decide +kernel
theorem dX4_clear_4 : decode cX4_clear 4 = .ok (.istore_n 1, 1) := by decide +kernel
theorem dX4_clear_5 : decode cX4_clear 5 = .ok (.aload_n 0, 1) := by decide +kernel
theorem dX4_clear_6 : decode cX4_clear 6 = .ok (.iconst 0, 1) := by decide +kernel
theorem dX4_clear_7 : decode cX4_clear 7 = .ok (.putfield 35, 3) := by decide +kernel
theorem dX4_clear_10 : decode cX4_clear 10 = .ok (.iload_n 1, 1) := by decide +kernel
theorem dX4_clear_11 : decode cX4_clear 11 = .ok (.ireturn, 1) := by decide +kernel
theorem dX4_comment_0 : decode cX4_comment 0 = .ok (.iload_n 3, 1) := by decide +kernel
theorem dX4_comment_1 : decode cX4_comment 1 = .ok (.ifCond .lt 9, 3) := by decide +kernel
theorem dX4_comment_4 : decode cX4_comment 4 = .ok (.iload_n 3, 1) := by decide +kernel
theorem dX4_comment_5 : decode cX4_comment 5 = .ok (.bipush 8, 2) := by decide +kernel
theorem dX4_comment_7 : decode cX4_comment 7 = .ok (.if_icmp .le 6, 3) := by decide +kernel
theorem dX4_comment_10 : decode cX4_comment 10 = .ok (.bipush (-3), 2) := by decide +kernel
theorem dX4_comment_12 : decode cX4_comment 12 = .ok (.ireturn, 1) := by decide +kernel
theorem dX4_comment_13 : decode cX4_comment 13 = .ok (.lload_n 1, 1) := by decide +kernel
theorem dX4_comment_14 : decode cX4_comment 14 = .ok (.iload_n 3, 1) := by decide +kernel
theorem dX4_comment_15 : decode cX4_comment 15 = .ok (.aload_n 0, 1) := by decide +kernel
theorem dX4_comment_16 : decode cX4_comment 16 = .ok (.getfield 31, 3) := by decide +kernel
theorem dX4_comment_19 : decode cX4_comment 19 = .ok (.iconst 0, 1) := by decide +kernel
theorem dX4_comment_20 : decode cX4_comment 20 = .ok (.invokestatic 81, 3) := by decide +kernel
theorem dX4_comment_23 : decode cX4_comment 23 = .ok (.aload_n 0, 1) := by decide +kernel
theorem dX4_comment_24 : decode cX4_comment 24 = .ok (.iload_n 3, 1) := by decide +kernel
theorem dX4_comment_25 : decode cX4_comment 25 = .ok (.putfield 39, 3) := by decide +kernel
theorem dX4_comment_28 : decode cX4_comment 28 = .ok (.iconst 1, 1) := by decide +kernel
theorem dX4_comment_29 : decode cX4_comment 29 = .ok (.ireturn, 1) := by decide +kernel
theorem dX4_write_0 : decode cX4_write 0 = .ok (.aload_n 0, 1) := by decide +kernel
theorem dX4_write_1 : decode cX4_write 1 = .ok (.invokevirtual 123, 3) := by decide +kernel
theorem dX4_write_4 : decode cX4_write 4 = .ok (.ifCond .eq 9, 3) := by decide +kernel
theorem dX4_write_7 : decode cX4_write 7 = .ok (.aload_n 0, 1) := by decide +kernel
theorem dX4_write_8 : decode cX4_write 8 = .ok (.iconst 1, 1) := by decide +kernel
theorem dX4_write_9 : decode cX4_write 9 = .ok (.invokevirtual 71, 3) := by decide +kernel
theorem dX4_write_12 : decode cX4_write 12 = .ok (.ireturn, 1) := by decide +kernel
theorem dX4_write_13 : decode cX4_write 13 = .ok (.aload_n 0, 1) := by decide +kernel
theorem dX4_write_14 : decode cX4_write 14 = .ok (.iconst 0, 1) := by decide +kernel
theorem dX4_write_15 : decode cX4_write 15 = .ok (.invokevirtual 127, 3) := by decide +kernel
theorem dX4_write_18 : decode cX4_write 18 = .ok (.sipush 2000, 3) := by decide +kernel
theorem dX4_write_21 : decode cX4_write 21 = .ok (.if_icmp .le 6, 3) := by decide +kernel
theorem dX4_write_24 : decode cX4_write 24 = .ok (.bipush (-5), 2) := by decide +kernel
theorem dX4_write_26 : decode cX4_write 26 = .ok (.ireturn, 1) := by decide +kernel
theorem dX4_write_27 : decode cX4_write 27 = .ok (.aload_n 0, 1) := by decide +kernel
theorem dX4_write_28 : decode cX4_write 28 = .ok (.getfield 18, 3) := by decide +kernel
theorem dX4_write_31 : decode cX4_write 31 = .ok (.iconst 0, 1) := by decide +kernel
theorem dX4_write_32 : decode cX4_write 32 = .ok (.putfield 130, 3) := by decide +kernel
theorem dX4_write_35 : decode cX4_write 35 = .ok (.aload_n 0, 1) := by decide +kernel
theorem dX4_write_36 : decode cX4_write 36 = .ok (.iconst 0, 1) := by decide +kernel
theorem dX4_write_37 : decode cX4_write 37 = .ok (.invokevirtual 133, 3) := by decide +kernel
theorem dX4_write_40 : decode cX4_write 40 = .ok (.ireturn, 1) := by decide +kernel
theorem dX4_add_0 : decode cX4_add 0 = .ok (.iload_n 1, 1) := by decide +kernel
theorem dX4_add_1 : decode cX4_add 1 = .ok (.ifCond .lt 11, 3) := by decide +kernel
theorem dX4_add_4 : decode cX4_add 4 = .ok (.iload_n 1, 1) := by decide +kernel
theorem dX4_add_5 : decode cX4_add 5 = .ok (.aload_n 0, 1) := by decide +kernel
theorem dX4_add_6 : decode cX4_add 6 = .ok (.getfield 35, 3) := by decide +kernel
theorem dX4_add_9 : decode cX4_add 9 = .ok (.if_icmp .le 6, 3) := by decide +kernel
theorem dX4_add_12 : decode cX4_add 12 = .ok (.bipush (-2), 2) := by decide +kernel
theorem dX4_add_14 : decode cX4_add 14 = .ok (.ireturn, 1) := by decide +kernel
theorem dX4_add_15 : decode cX4_add 15 = .ok (.aload_n 0, 1) := by decide +kernel
theorem dX4_add_16 : decode cX4_add 16 = .ok (.iload_n 1, 1) := by decide +kernel
theorem dX4_add_17 : decode cX4_add 17 = .ok (.invokevirtual 136, 3) := by decide +kernel
theorem dX4_add_20 : decode cX4_add 20 = .ok (.ifCond .ne 6, 3) := by decide +kernel
theorem dX4_add_23 : decode cX4_add 23 = .ok (.bipush (-4), 2) := by decide +kernel
theorem dX4_add_25 : decode cX4_add 25 = .ok (.ireturn, 1) := by decide +kernel
theorem dX4_add_26 : decode cX4_add 26 = .ok (.aload_n 0, 1) := by decide +kernel
theorem dX4_add_27 : decode cX4_add 27 = .ok (.invokevirtual 123, 3) := by decide +kernel
theorem dX4_add_30 : decode cX4_add 30 = .ok (.ifCond .eq 9, 3) := by decide +kernel
theorem dX4_add_33 : decode cX4_add 33 = .ok (.aload_n 0, 1) := by decide +kernel
theorem dX4_add_34 : decode cX4_add 34 = .ok (.iconst 1, 1) := by decide +kernel
theorem dX4_add_35 : decode cX4_add 35 = .ok (.invokevirtual 71, 3) := by decide +kernel
theorem dX4_add_38 : decode cX4_add 38 = .ok (.ireturn, 1) := by decide +kernel
theorem dX4_add_39 : decode cX4_add 39 = .ok (.aload_n 0, 1) := by decide +kernel
theorem dX4_add_40 : decode cX4_add 40 = .ok (.getfield 18, 3) := by decide +kernel
theorem dX4_add_43 : decode cX4_add 43 = .ok (.getfield 130, 3) := by decide +kernel
theorem dX4_add_46 : decode cX4_add 46 = .ok (.aload_n 0, 1) := by decide +kernel
theorem dX4_add_47 : decode cX4_add 47 = .ok (.iload_n 1, 1) := by decide +kernel
theorem dX4_add_48 : decode cX4_add 48 = .ok (.invokevirtual 127, 3) := by decide +kernel
theorem dX4_add_51 : decode cX4_add 51 = .ok (.iadd, 1) := by decide +kernel
theorem dX4_add_52 : decode cX4_add 52 = .ok (.sipush 2000, 3) := by decide +kernel
theorem dX4_add_55 : decode cX4_add 55 = .ok (.if_icmp .le 6, 3) := by decide +kernel
theorem dX4_add_58 : decode cX4_add 58 = .ok (.bipush (-5), 2) := by decide +kernel
theorem dX4_add_60 : decode cX4_add 60 = .ok (.ireturn, 1) := by decide +kernel
theorem dX4_add_61 : decode cX4_add 61 = .ok (.aload_n 0, 1) := by decide +kernel
theorem dX4_add_62 : decode cX4_add 62 = .ok (.iload_n 1, 1) := by decide +kernel
theorem dX4_add_63 : decode cX4_add 63 = .ok (.invokevirtual 133, 3) := by decide +kernel
theorem dX4_add_66 : decode cX4_add 66 = .ok (.ireturn, 1) := by decide +kernel
theorem dX4_read_0 : decode cX4_read 0 = .ok (.aload_n 0, 1) := by decide +kernel
theorem dX4_read_1 : decode cX4_read 1 = .ok (.getfield 27, 3) := by decide +kernel
theorem dX4_read_4 : decode cX4_read 4 = .ok (.invokevirtual 139, 3) := by decide +kernel
theorem dX4_read_7 : decode cX4_read 7 = .ok (.ifCond .ne 25, 3) := by decide +kernel
theorem dX4_read_10 : decode cX4_read 10 = .ok (.aload_n 0, 1) := by decide +kernel
theorem dX4_read_11 : decode cX4_read 11 = .ok (.aload_n 0, 1) := by decide +kernel
theorem dX4_read_12 : decode cX4_read 12 = .ok (.getfield 27, 3) := by decide +kernel
theorem dX4_read_15 : decode cX4_read 15 = .ok (.getfield 142, 3) := by decide +kernel
theorem dX4_read_18 : decode cX4_read 18 = .ok (.putfield 45, 3) := by decide +kernel
theorem dX4_read_21 : decode cX4_read 21 = .ok (.bipush (-10), 2) := by decide +kernel
theorem dX4_read_23 : decode cX4_read 23 = .ok (.aload_n 0, 1) := by decide +kernel
theorem dX4_read_24 : decode cX4_read 24 = .ok (.getfield 27, 3) := by decide +kernel
theorem dX4_read_27 : decode cX4_read 27 = .ok (.getfield 143, 3) := by decide +kernel
theorem dX4_read_30 : decode cX4_read 30 = .ok (.isub, 1) := by decide +kernel
theorem dX4_read_31 : decode cX4_read 31 = .ok (.ireturn, 1) := by decide +kernel
theorem dX4_read_32 : decode cX4_read 32 = .ok (.aload_n 0, 1) := by decide +kernel
theorem dX4_read_33 : decode cX4_read 33 = .ok (.iconst (-1), 1) := by decide +kernel
theorem dX4_read_34 : decode cX4_read 34 = .ok (.putfield 45, 3) := by decide +kernel
theorem dX4_read_37 : decode cX4_read 37 = .ok (.aload_n 0, 1) := by decide +kernel
theorem dX4_read_38 : decode cX4_read 38 = .ok (.aload_n 0, 1) := by decide +kernel
theorem dX4_read_39 : decode cX4_read 39 = .ok (.getfield 27, 3) := by decide +kernel
theorem dX4_read_42 : decode cX4_read 42 = .ok (.getfield 146, 3) := by decide +kernel
theorem dX4_read_45 : decode cX4_read 45 = .ok (.putfield 35, 3) := by decide +kernel
theorem dX4_read_48 : decode cX4_read 48 = .ok (.iconst 0, 1) := by decide +kernel
theorem dX4_read_49 : decode cX4_read 49 = .ok (.istore_n 1, 1) := by decide +kernel
theorem dX4_read_50 : decode cX4_read 50 = .ok (.iload_n 1, 1) := by decide +kernel
theorem dX4_read_51 : decode cX4_read 51 = .ok (.aload_n 0, 1) := by decide +kernel
theorem dX4_read_52 : decode cX4_read 52 = .ok (.getfield 35, 3) := by decide +kernel
theorem dX4_read_55 : decode cX4_read 55 = .ok (.if_icmp .ge 37, 3) := by decide +kernel
theorem dX4_read_58 : decode cX4_read 58 = .ok (.iload_n 1, 1) := by decide +kernel
theorem dX4_read_59 : decode cX4_read 59 = .ok (.bipush 12, 2) := by decide +kernel
theorem dX4_read_61 : decode cX4_read 61 = .ok (.if_icmp .ge 31, 3) := by decide +kernel
theorem dX4_read_64 : decode cX4_read 64 = .ok (.aload_n 0, 1) := by decide +kernel
theorem dX4_read_65 : decode cX4_read 65 = .ok (.getfield 11, 3) := by decide +kernel
theorem dX4_read_68 : decode cX4_read 68 = .ok (.iload_n 1, 1) := by decide +kernel
theorem dX4_read_69 : decode cX4_read 69 = .ok (.aaload, 1) := by decide +kernel
theorem dX4_read_70 : decode cX4_read 70 = .ok (.aload_n 0, 1) := by decide +kernel
theorem dX4_read_71 : decode cX4_read 71 = .ok (.getfield 27, 3) := by decide +kernel
theorem dX4_read_74 : decode cX4_read 74 = .ok (.getfield 149, 3) := by decide +kernel
theorem dX4_read_77 : decode cX4_read 77 = .ok (.iload_n 1, 1) := by decide +kernel
theorem dX4_read_78 : decode cX4_read 78 = .ok (.aaload, 1) := by decide +kernel
theorem dX4_read_79 : decode cX4_read 79 = .ok (.aload_n 0, 1) := by decide +kernel
theorem dX4_read_80 : decode cX4_read 80 = .ok (.getfield 18, 3) := by decide +kernel
theorem dX4_read_83 : decode cX4_read 83 = .ok (.invokevirtual 153, 3) := by decide +kernel
theorem dX4_read_86 : decode cX4_read 86 = .ok (.iinc 1 1, 3) := by decide +kernel
theorem dX4_read_89 : decode cX4_read 89 = .ok (.goto (-39), 3) := by decide +kernel
theorem dX4_read_92 : decode cX4_read 92 = .ok (.aload_n 0, 1) := by decide +kernel
theorem dX4_read_93 : decode cX4_read 93 = .ok (.aload_n 0, 1) := by decide +kernel
theorem dX4_read_94 : decode cX4_read 94 = .ok (.getfield 27, 3) := by decide +kernel
theorem dX4_read_97 : decode cX4_read 97 = .ok (.getfield 157, 3) := by decide +kernel
theorem dX4_read_100 : decode cX4_read 100 = .ok (.putfield 39, 3) := by decide +kernel
theorem dX4_read_103 : decode cX4_read 103 = .ok (.aload_n 0, 1) := by decide +kernel
theorem dX4_read_104 : decode cX4_read 104 = .ok (.getfield 18, 3) := by decide +kernel
theorem dX4_read_107 : decode cX4_read 107 = .ok (.aload_n 0, 1) := by decide +kernel
theorem dX4_read_108 : decode cX4_read 108 = .ok (.getfield 27, 3) := by decide +kernel
theorem dX4_read_111 : decode cX4_read 111 = .ok (.getfield 158, 3) := by decide +kernel
theorem dX4_read_114 : decode cX4_read 114 = .ok (.bipush 22, 2) := by decide +kernel
theorem dX4_read_116 : decode cX4_read 116 = .ok (.iadd, 1) := by decide +kernel
theorem dX4_read_117 : decode cX4_read 117 = .ok (.aload_n 0, 1) := by decide +kernel
theorem dX4_read_118 : decode cX4_read 118 = .ok (.getfield 39, 3) := by decide +kernel
theorem dX4_read_121 : decode cX4_read 121 = .ok (.aload_n 0, 1) := by decide +kernel
theorem dX4_read_122 : decode cX4_read 122 = .ok (.getfield 31, 3) := by decide +kernel
theorem dX4_read_125 : decode cX4_read 125 = .ok (.iconst 0, 1) := by decide +kernel
theorem dX4_read_126 : decode cX4_read 126 = .ok (.invokevirtual 161, 3) := by decide +kernel
theorem dX4_read_129 : decode cX4_read 129 = .ok (.aload_n 0, 1) := by decide +kernel
theorem dX4_read_130 : decode cX4_read 130 = .ok (.getfield 35, 3) := by decide +kernel
theorem dX4_read_133 : decode cX4_read 133 = .ok (.ireturn, 1) := by decide +kernel
theorem dX4_place_0 : decode cX4_place 0 = .ok (.aload_n 0, 1) := by decide +kernel
theorem dX4_place_1 : decode cX4_place 1 = .ok (.getfield 45, 3) := by decide +kernel
theorem dX4_place_4 : decode cX4_place 4 = .ok (.ireturn, 1) := by decide +kernel
theorem dX4_feed_0 : decode cX4_feed 0 = .ok (.iload_n 3, 1) := by decide +kernel
theorem dX4_feed_1 : decode cX4_feed 1 = .ok (.iconst 1, 1) := by decide +kernel
theorem dX4_feed_2 : decode cX4_feed 2 = .ok (.if_icmp .lt 9, 3) := by decide +kernel
theorem dX4_feed_5 : decode cX4_feed 5 = .ok (.iload_n 3, 1) := by decide +kernel
theorem dX4_feed_6 : decode cX4_feed 6 = .ok (.bipush 8, 2) := by decide +kernel
theorem dX4_feed_8 : decode cX4_feed 8 = .ok (.if_icmp .le 6, 3) := by decide +kernel
theorem dX4_feed_11 : decode cX4_feed 11 = .ok (.bipush (-3), 2) := by decide +kernel
theorem dX4_feed_13 : decode cX4_feed 13 = .ok (.ireturn, 1) := by decide +kernel
theorem dX4_feed_14 : decode cX4_feed 14 = .ok (.aload_n 0, 1) := by decide +kernel
theorem dX4_feed_15 : decode cX4_feed 15 = .ok (.getfield 18, 3) := by decide +kernel
theorem dX4_feed_18 : decode cX4_feed 18 = .ok (.getfield 130, 3) := by decide +kernel
theorem dX4_feed_21 : decode cX4_feed 21 = .ok (.iload_n 3, 1) := by decide +kernel
theorem dX4_feed_22 : decode cX4_feed 22 = .ok (.iadd, 1) := by decide +kernel
theorem dX4_feed_23 : decode cX4_feed 23 = .ok (.sipush 2000, 3) := by decide +kernel
theorem dX4_feed_26 : decode cX4_feed 26 = .ok (.if_icmp .le 6, 3) := by decide +kernel
theorem dX4_feed_29 : decode cX4_feed 29 = .ok (.bipush (-5), 2) := by decide +kernel
theorem dX4_feed_31 : decode cX4_feed 31 = .ok (.ireturn, 1) := by decide +kernel
theorem dX4_feed_32 : decode cX4_feed 32 = .ok (.lload_n 1, 1) := by decide +kernel
theorem dX4_feed_33 : decode cX4_feed 33 = .ok (.iload_n 3, 1) := by decide +kernel
theorem dX4_feed_34 : decode cX4_feed 34 = .ok (.aload_n 0, 1) := by decide +kernel
theorem dX4_feed_35 : decode cX4_feed 35 = .ok (.getfield 18, 3) := by decide +kernel
theorem dX4_feed_38 : decode cX4_feed 38 = .ok (.getfield 165, 3) := by decide +kernel
theorem dX4_feed_41 : decode cX4_feed 41 = .ok (.aload_n 0, 1) := by decide +kernel
theorem dX4_feed_42 : decode cX4_feed 42 = .ok (.getfield 18, 3) := by decide +kernel
theorem dX4_feed_45 : decode cX4_feed 45 = .ok (.getfield 130, 3) := by decide +kernel
theorem dX4_feed_48 : decode cX4_feed 48 = .ok (.invokestatic 81, 3) := by decide +kernel
theorem dX4_feed_51 : decode cX4_feed 51 = .ok (.aload_n 0, 1) := by decide +kernel
theorem dX4_feed_52 : decode cX4_feed 52 = .ok (.getfield 18, 3) := by decide +kernel
theorem dX4_feed_55 : decode cX4_feed 55 = .ok (.dup, 1) := by decide +kernel
theorem dX4_feed_56 : decode cX4_feed 56 = .ok (.getfield 130, 3) := by decide +kernel
theorem dX4_feed_59 : decode cX4_feed 59 = .ok (.iload_n 3, 1) := by decide +kernel
theorem dX4_feed_60 : decode cX4_feed 60 = .ok (.iadd, 1) := by decide +kernel
theorem dX4_feed_61 : decode cX4_feed 61 = .ok (.putfield 130, 3) := by decide +kernel
theorem dX4_feed_64 : decode cX4_feed 64 = .ok (.aload_n 0, 1) := by decide +kernel
theorem dX4_feed_65 : decode cX4_feed 65 = .ok (.getfield 18, 3) := by decide +kernel
theorem dX4_feed_68 : decode cX4_feed 68 = .ok (.getfield 130, 3) := by decide +kernel
theorem dX4_feed_71 : decode cX4_feed 71 = .ok (.ireturn, 1) := by decide +kernel
theorem dX4_cut_0 : decode cX4_cut 0 = .ok (.iload_n 1, 1) := by decide +kernel
theorem dX4_cut_1 : decode cX4_cut 1 = .ok (.ifCond .lt 14, 3) := by decide +kernel
theorem dX4_cut_4 : decode cX4_cut 4 = .ok (.iload_n 1, 1) := by decide +kernel
theorem dX4_cut_5 : decode cX4_cut 5 = .ok (.aload_n 0, 1) := by decide +kernel
theorem dX4_cut_6 : decode cX4_cut 6 = .ok (.getfield 18, 3) := by decide +kernel
theorem dX4_cut_9 : decode cX4_cut 9 = .ok (.getfield 130, 3) := by decide +kernel
theorem dX4_cut_12 : decode cX4_cut 12 = .ok (.if_icmp .le 6, 3) := by decide +kernel
theorem dX4_cut_15 : decode cX4_cut 15 = .ok (.bipush (-3), 2) := by decide +kernel
theorem dX4_cut_17 : decode cX4_cut 17 = .ok (.ireturn, 1) := by decide +kernel
theorem dX4_cut_18 : decode cX4_cut 18 = .ok (.aload_n 0, 1) := by decide +kernel
theorem dX4_cut_19 : decode cX4_cut 19 = .ok (.getfield 18, 3) := by decide +kernel
theorem dX4_cut_22 : decode cX4_cut 22 = .ok (.getfield 130, 3) := by decide +kernel
theorem dX4_cut_25 : decode cX4_cut 25 = .ok (.iload_n 1, 1) := by decide +kernel
theorem dX4_cut_26 : decode cX4_cut 26 = .ok (.isub, 1) := by decide +kernel
theorem dX4_cut_27 : decode cX4_cut 27 = .ok (.istore_n 2, 1) := by decide +kernel
theorem dX4_cut_28 : decode cX4_cut 28 = .ok (.aload_n 0, 1) := by decide +kernel
theorem dX4_cut_29 : decode cX4_cut 29 = .ok (.getfield 18, 3) := by decide +kernel
theorem dX4_cut_32 : decode cX4_cut 32 = .ok (.iload_n 1, 1) := by decide +kernel
theorem dX4_cut_33 : decode cX4_cut 33 = .ok (.putfield 130, 3) := by decide +kernel
theorem dX4_cut_36 : decode cX4_cut 36 = .ok (.iload_n 2, 1) := by decide +kernel
theorem dX4_cut_37 : decode cX4_cut 37 = .ok (.ireturn, 1) := by decide +kernel
theorem dX4_poke_0 : decode cX4_poke 0 = .ok (.aload_n 0, 1) := by decide +kernel
theorem dX4_poke_1 : decode cX4_poke 1 = .ok (.getfield 18, 3) := by decide +kernel
theorem dX4_poke_4 : decode cX4_poke 4 = .ok (.iload_n 1, 1) := by decide +kernel
theorem dX4_poke_5 : decode cX4_poke 5 = .ok (.iconst 1, 1) := by decide +kernel
theorem dX4_poke_6 : decode cX4_poke 6 = .ok (.invokevirtual 168, 3) := by decide +kernel
theorem dX4_poke_9 : decode cX4_poke 9 = .ok (.ifCond .ne 6, 3) := by decide +kernel
theorem dX4_poke_12 : decode cX4_poke 12 = .ok (.bipush (-2), 2) := by decide +kernel
theorem dX4_poke_14 : decode cX4_poke 14 = .ok (.ireturn, 1) := by decide +kernel
theorem dX4_poke_15 : decode cX4_poke 15 = .ok (.iload_n 2, 1) := by decide +kernel
theorem dX4_poke_16 : decode cX4_poke 16 = .ok (.ifCond .lt 10, 3) := by decide +kernel
theorem dX4_poke_19 : decode cX4_poke 19 = .ok (.iload_n 2, 1) := by decide +kernel
theorem dX4_poke_20 : decode cX4_poke 20 = .ok (.sipush 255, 3) := by decide +kernel
theorem dX4_poke_23 : decode cX4_poke 23 = .ok (.if_icmp .le 6, 3) := by decide +kernel
theorem dX4_poke_26 : decode cX4_poke 26 = .ok (.bipush (-3), 2) := by decide +kernel
theorem dX4_poke_28 : decode cX4_poke 28 = .ok (.ireturn, 1) := by decide +kernel
theorem dX4_poke_29 : decode cX4_poke 29 = .ok (.aload_n 0, 1) := by decide +kernel
theorem dX4_poke_30 : decode cX4_poke 30 = .ok (.getfield 18, 3) := by decide +kernel
theorem dX4_poke_33 : decode cX4_poke 33 = .ok (.getfield 165, 3) := by decide +kernel
theorem dX4_poke_36 : decode cX4_poke 36 = .ok (.iload_n 1, 1) := by decide +kernel
theorem dX4_poke_37 : decode cX4_poke 37 = .ok (.aload_n 0, 1) := by decide +kernel
theorem dX4_poke_38 : decode cX4_poke 38 = .ok (.getfield 18, 3) := by decide +kernel
theorem dX4_poke_41 : decode cX4_poke 41 = .ok (.getfield 165, 3) := by decide +kernel
theorem dX4_poke_44 : decode cX4_poke 44 = .ok (.iload_n 1, 1) := by decide +kernel
theorem dX4_poke_45 : decode cX4_poke 45 = .ok (.baload, 1) := by decide +kernel
theorem dX4_poke_46 : decode cX4_poke 46 = .ok (.iload_n 2, 1) := by decide +kernel
theorem dX4_poke_47 : decode cX4_poke 47 = .ok (.ixor, 1) := by decide +kernel
theorem dX4_poke_48 : decode cX4_poke 48 = .ok (.i2b, 1) := by decide +kernel
theorem dX4_poke_49 : decode cX4_poke 49 = .ok (.bastore, 1) := by decide +kernel
theorem dX4_poke_50 : decode cX4_poke 50 = .ok (.aload_n 0, 1) := by decide +kernel
theorem dX4_poke_51 : decode cX4_poke 51 = .ok (.getfield 18, 3) := by decide +kernel
theorem dX4_poke_54 : decode cX4_poke 54 = .ok (.iload_n 1, 1) := by decide +kernel
theorem dX4_poke_55 : decode cX4_poke 55 = .ok (.invokevirtual 172, 3) := by decide +kernel
theorem dX4_poke_58 : decode cX4_poke 58 = .ok (.ireturn, 1) := by decide +kernel
theorem dX4_at_0 : decode cX4_at 0 = .ok (.aload_n 0, 1) := by decide +kernel
theorem dX4_at_1 : decode cX4_at 1 = .ok (.getfield 18, 3) := by decide +kernel
theorem dX4_at_4 : decode cX4_at 4 = .ok (.iload_n 1, 1) := by decide +kernel
theorem dX4_at_5 : decode cX4_at 5 = .ok (.iconst 1, 1) := by decide +kernel
theorem dX4_at_6 : decode cX4_at 6 = .ok (.invokevirtual 168, 3) := by decide +kernel
theorem dX4_at_9 : decode cX4_at 9 = .ok (.ifCond .eq 14, 3) := by decide +kernel
theorem dX4_at_12 : decode cX4_at 12 = .ok (.aload_n 0, 1) := by decide +kernel
theorem dX4_at_13 : decode cX4_at 13 = .ok (.getfield 18, 3) := by decide +kernel
theorem dX4_at_16 : decode cX4_at 16 = .ok (.iload_n 1, 1) := by decide +kernel
theorem dX4_at_17 : decode cX4_at 17 = .ok (.invokevirtual 172, 3) := by decide +kernel
theorem dX4_at_20 : decode cX4_at 20 = .ok (.goto 8, 3) := by decide +kernel
theorem dX4_at_23 : decode cX4_at 23 = .ok (.aload_n 0, 1) := by decide +kernel
theorem dX4_at_24 : decode cX4_at 24 = .ok (.iconst 3, 1) := by decide +kernel
theorem dX4_at_25 : decode cX4_at 25 = .ok (.invokevirtual 71, 3) := by decide +kernel
theorem dX4_at_28 : decode cX4_at 28 = .ok (.ireturn, 1) := by decide +kernel
theorem dX4_half_0 : decode cX4_half 0 = .ok (.aload_n 0, 1) := by decide +kernel
theorem dX4_half_1 : decode cX4_half 1 = .ok (.getfield 18, 3) := by decide +kernel
theorem dX4_half_4 : decode cX4_half 4 = .ok (.iload_n 1, 1) := by decide +kernel
theorem dX4_half_5 : decode cX4_half 5 = .ok (.iconst 2, 1) := by decide +kernel
theorem dX4_half_6 : decode cX4_half 6 = .ok (.invokevirtual 168, 3) := by decide +kernel
theorem dX4_half_9 : decode cX4_half 9 = .ok (.ifCond .eq 14, 3) := by decide +kernel
theorem dX4_half_12 : decode cX4_half 12 = .ok (.aload_n 0, 1) := by decide +kernel
theorem dX4_half_13 : decode cX4_half 13 = .ok (.getfield 18, 3) := by decide +kernel
theorem dX4_half_16 : decode cX4_half 16 = .ok (.iload_n 1, 1) := by decide +kernel
theorem dX4_half_17 : decode cX4_half 17 = .ok (.invokevirtual 175, 3) := by decide +kernel
theorem dX4_half_20 : decode cX4_half 20 = .ok (.goto 8, 3) := by decide +kernel
theorem dX4_half_23 : decode cX4_half 23 = .ok (.aload_n 0, 1) := by decide +kernel
theorem dX4_half_24 : decode cX4_half 24 = .ok (.iconst 3, 1) := by decide +kernel
theorem dX4_half_25 : decode cX4_half 25 = .ok (.invokevirtual 71, 3) := by decide +kernel
theorem dX4_half_28 : decode cX4_half 28 = .ok (.ireturn, 1) := by decide +kernel
theorem dX4_word_0 : decode cX4_word 0 = .ok (.aload_n 0, 1) := by decide +kernel
theorem dX4_word_1 : decode cX4_word 1 = .ok (.getfield 18, 3) := by decide +kernel
theorem dX4_word_4 : decode cX4_word 4 = .ok (.iload_n 1, 1) := by decide +kernel
theorem dX4_word_5 : decode cX4_word 5 = .ok (.iconst 4, 1) := by decide +kernel
theorem dX4_word_6 : decode cX4_word 6 = .ok (.invokevirtual 168, 3) := by decide +kernel
theorem dX4_word_9 : decode cX4_word 9 = .ok (.ifCond .eq 14, 3) := by decide +kernel
theorem dX4_word_12 : decode cX4_word 12 = .ok (.aload_n 0, 1) := by decide +kernel
theorem dX4_word_13 : decode cX4_word 13 = .ok (.getfield 18, 3) := by decide +kernel
theorem dX4_word_16 : decode cX4_word 16 = .ok (.iload_n 1, 1) := by decide +kernel
theorem dX4_word_17 : decode cX4_word 17 = .ok (.invokevirtual 178, 3) := by decide +kernel
theorem dX4_word_20 : decode cX4_word 20 = .ok (.goto 9, 3) := by decide +kernel
theorem dX4_word_23 : decode cX4_word 23 = .ok (.aload_n 0, 1) := by decide +kernel
theorem dX4_word_24 : decode cX4_word 24 = .ok (.iconst 3, 1) := by decide +kernel
theorem dX4_word_25 : decode cX4_word 25 = .ok (.invokevirtual 71, 3) := by decide +kernel
theorem dX4_word_28 : decode cX4_word 28 = .ok (.i2l, 1) := by decide +kernel
theorem dX4_word_29 : decode cX4_word 29 = .ok (.lreturn, 1) := by decide +kernel
theorem dX4_about_0 : decode cX4_about 0 = .ok (.aload_n 0, 1) := by decide +kernel
theorem dX4_about_1 : decode cX4_about 1 = .ok (.iload_n 1, 1) := by decide +kernel
theorem dX4_about_2 : decode cX4_about 2 = .ok (.invokevirtual 61, 3) := by decide +kernel
theorem dX4_about_5 : decode cX4_about 5 = .ok (.ifCond .eq 6, 3) := by decide +kernel
theorem dX4_about_8 : decode cX4_about 8 = .ok (.bipush (-2), 2) := by decide +kernel
theorem dX4_about_10 : decode cX4_about 10 = .ok (.ireturn, 1) := by decide +kernel
theorem dX4_about_11 : decode cX4_about 11 = .ok (.aload_n 0, 1) := by decide +kernel
theorem dX4_about_12 : decode cX4_about 12 = .ok (.getfield 11, 3) := by decide +kernel
theorem dX4_about_15 : decode cX4_about 15 = .ok (.iload_n 1, 1) := by decide +kernel
theorem dX4_about_16 : decode cX4_about 16 = .ok (.aaload, 1) := by decide +kernel
theorem dX4_about_17 : decode cX4_about 17 = .ok (.astore_n 3, 1) := by decide +kernel
theorem dX4_about_18 : decode cX4_about 18 = .ok (.iload_n 2, 1) := by decide +kernel
theorem dX4_about_19 : decode cX4_about 19 = .ok (.tableswitch 129 0 10 #[57, 62, 67, 72, 77, 82, 87, 92, 97, 111, 116], 57) := by decide +kernel
theorem dX4_about_76 : decode cX4_about 76 = .ok (.aload_n 3, 1) := by decide +kernel
theorem dX4_about_77 : decode cX4_about 77 = .ok (.getfield 65, 3) := by decide +kernel
theorem dX4_about_80 : decode cX4_about 80 = .ok (.ireturn, 1) := by decide +kernel
theorem dX4_about_81 : decode cX4_about 81 = .ok (.aload_n 3, 1) := by decide +kernel
theorem dX4_about_82 : decode cX4_about 82 = .ok (.getfield 68, 3) := by decide +kernel
theorem dX4_about_85 : decode cX4_about 85 = .ok (.ireturn, 1) := by decide +kernel
theorem dX4_about_86 : decode cX4_about 86 = .ok (.aload_n 3, 1) := by decide +kernel
theorem dX4_about_87 : decode cX4_about 87 = .ok (.invokevirtual 182, 3) := by decide +kernel
theorem dX4_about_90 : decode cX4_about 90 = .ok (.ireturn, 1) := by decide +kernel
theorem dX4_about_91 : decode cX4_about 91 = .ok (.aload_n 3, 1) := by decide +kernel
theorem dX4_about_92 : decode cX4_about 92 = .ok (.invokevirtual 186, 3) := by decide +kernel
theorem dX4_about_95 : decode cX4_about 95 = .ok (.ireturn, 1) := by decide +kernel
theorem dX4_about_96 : decode cX4_about 96 = .ok (.aload_n 3, 1) := by decide +kernel
theorem dX4_about_97 : decode cX4_about 97 = .ok (.getfield 117, 3) := by decide +kernel
theorem dX4_about_100 : decode cX4_about 100 = .ok (.ireturn, 1) := by decide +kernel
theorem dX4_about_101 : decode cX4_about 101 = .ok (.aload_n 3, 1) := by decide +kernel
theorem dX4_about_102 : decode cX4_about 102 = .ok (.getfield 114, 3) := by decide +kernel
theorem dX4_about_105 : decode cX4_about 105 = .ok (.ireturn, 1) := by decide +kernel
theorem dX4_about_106 : decode cX4_about 106 = .ok (.aload_n 3, 1) := by decide +kernel
theorem dX4_about_107 : decode cX4_about 107 = .ok (.getfield 120, 3) := by decide +kernel
theorem dX4_about_110 : decode cX4_about 110 = .ok (.ireturn, 1) := by decide +kernel
theorem dX4_about_111 : decode cX4_about 111 = .ok (.aload_n 3, 1) := by decide +kernel
theorem dX4_about_112 : decode cX4_about 112 = .ok (.getfield 100, 3) := by decide +kernel
theorem dX4_about_115 : decode cX4_about 115 = .ok (.ireturn, 1) := by decide +kernel
theorem dX4_about_116 : decode cX4_about 116 = .ok (.aload_n 3, 1) := by decide +kernel
theorem dX4_about_117 : decode cX4_about 117 = .ok (.getfield 189, 3) := by decide +kernel
theorem dX4_about_120 : decode cX4_about 120 = .ok (.iconst 2, 1) := by decide +kernel
theorem dX4_about_121 : decode cX4_about 121 = .ok (.if_icmp .ne 7, 3) := by decide +kernel
theorem dX4_about_124 : decode cX4_about 124 = .ok (.iconst 1, 1) := by decide +kernel
theorem dX4_about_125 : decode cX4_about 125 = .ok (.goto 4, 3) := by decide +kernel
theorem dX4_about_128 : decode cX4_about 128 = .ok (.iconst 0, 1) := by decide +kernel
theorem dX4_about_129 : decode cX4_about 129 = .ok (.ireturn, 1) := by decide +kernel
theorem dX4_about_130 : decode cX4_about 130 = .ok (.aload_n 3, 1) := by decide +kernel
theorem dX4_about_131 : decode cX4_about 131 = .ok (.getfield 192, 3) := by decide +kernel
theorem dX4_about_134 : decode cX4_about 134 = .ok (.ireturn, 1) := by decide +kernel
theorem dX4_about_135 : decode cX4_about 135 = .ok (.aload_n 3, 1) := by decide +kernel
theorem dX4_about_136 : decode cX4_about 136 = .ok (.getfield 85, 3) := by decide +kernel
theorem dX4_about_139 : decode cX4_about 139 = .ok (.ifCond .eq 7, 3) := by decide +kernel
theorem dX4_about_142 : decode cX4_about 142 = .ok (.iconst 0, 1) := by decide +kernel
theorem dX4_about_143 : decode cX4_about 143 = .ok (.goto 4, 3) := by decide +kernel
theorem dX4_about_146 : decode cX4_about 146 = .ok (.iconst 1, 1) := by decide +kernel
theorem dX4_about_147 : decode cX4_about 147 = .ok (.ireturn, 1) := by decide +kernel
theorem dX4_about_148 : decode cX4_about 148 = .ok (.bipush (-3), 2) := by decide +kernel
theorem dX4_about_150 : decode cX4_about 150 = .ok (.ireturn, 1) := by decide +kernel
theorem dX4_letter_0 : decode cX4_letter 0 = .ok (.aload_n 0, 1) := by decide +kernel
theorem dX4_letter_1 : decode cX4_letter 1 = .ok (.iload_n 1, 1) := by decide +kernel
theorem dX4_letter_2 : decode cX4_letter 2 = .ok (.invokevirtual 61, 3) := by decide +kernel
theorem dX4_letter_5 : decode cX4_letter 5 = .ok (.ifCond .eq 6, 3) := by decide +kernel
theorem dX4_letter_8 : decode cX4_letter 8 = .ok (.bipush (-2), 2) := by decide +kernel
theorem dX4_letter_10 : decode cX4_letter 10 = .ok (.ireturn, 1) := by decide +kernel
theorem dX4_letter_11 : decode cX4_letter 11 = .ok (.aload_n 0, 1) := by decide +kernel
theorem dX4_letter_12 : decode cX4_letter 12 = .ok (.getfield 11, 3) := by decide +kernel
theorem dX4_letter_15 : decode cX4_letter 15 = .ok (.iload_n 1, 1) := by decide +kernel
theorem dX4_letter_16 : decode cX4_letter 16 = .ok (.aaload, 1) := by decide +kernel
theorem dX4_letter_17 : decode cX4_letter 17 = .ok (.astore_n 3, 1) := by decide +kernel
theorem dX4_letter_18 : decode cX4_letter 18 = .ok (.iload_n 2, 1) := by decide +kernel
theorem dX4_letter_19 : decode cX4_letter 19 = .ok (.ifCond .lt 11, 3) := by decide +kernel
theorem dX4_letter_22 : decode cX4_letter 22 = .ok (.iload_n 2, 1) := by decide +kernel
theorem dX4_letter_23 : decode cX4_letter 23 = .ok (.aload_n 3, 1) := by decide +kernel
theorem dX4_letter_24 : decode cX4_letter 24 = .ok (.getfield 68, 3) := by decide +kernel
theorem dX4_letter_27 : decode cX4_letter 27 = .ok (.if_icmp .lt 9, 3) := by decide +kernel
theorem dX4_letter_30 : decode cX4_letter 30 = .ok (.aload_n 0, 1) := by decide +kernel
theorem dX4_letter_31 : decode cX4_letter 31 = .ok (.iconst 3, 1) := by decide +kernel
theorem dX4_letter_32 : decode cX4_letter 32 = .ok (.invokevirtual 71, 3) := by decide +kernel
theorem dX4_letter_35 : decode cX4_letter 35 = .ok (.ireturn, 1) := by decide +kernel
theorem dX4_letter_36 : decode cX4_letter 36 = .ok (.aload_n 3, 1) := by decide +kernel
theorem dX4_letter_37 : decode cX4_letter 37 = .ok (.getfield 195, 3) := by decide +kernel
theorem dX4_letter_40 : decode cX4_letter 40 = .ok (.iload_n 2, 1) := by decide +kernel
theorem dX4_letter_41 : decode cX4_letter 41 = .ok (.baload, 1) := by decide +kernel
theorem dX4_letter_42 : decode cX4_letter 42 = .ok (.sipush 255, 3) := by decide +kernel
theorem dX4_letter_45 : decode cX4_letter 45 = .ok (.iand, 1) := by decide +kernel
theorem dX4_letter_46 : decode cX4_letter 46 = .ok (.ireturn, 1) := by decide +kernel
theorem dX4_octet_0 : decode cX4_octet 0 = .ok (.aload_n 0, 1) := by decide +kernel
theorem dX4_octet_1 : decode cX4_octet 1 = .ok (.iload_n 1, 1) := by decide +kernel
theorem dX4_octet_2 : decode cX4_octet 2 = .ok (.invokevirtual 61, 3) := by decide +kernel
theorem dX4_octet_5 : decode cX4_octet 5 = .ok (.ifCond .eq 6, 3) := by decide +kernel
theorem dX4_octet_8 : decode cX4_octet 8 = .ok (.bipush (-2), 2) := by decide +kernel
theorem dX4_octet_10 : decode cX4_octet 10 = .ok (.ireturn, 1) := by decide +kernel
theorem dX4_octet_11 : decode cX4_octet 11 = .ok (.aload_n 0, 1) := by decide +kernel
theorem dX4_octet_12 : decode cX4_octet 12 = .ok (.getfield 11, 3) := by decide +kernel
theorem dX4_octet_15 : decode cX4_octet 15 = .ok (.iload_n 1, 1) := by decide +kernel
theorem dX4_octet_16 : decode cX4_octet 16 = .ok (.aaload, 1) := by decide +kernel
theorem dX4_octet_17 : decode cX4_octet 17 = .ok (.astore_n 3, 1) := by decide +kernel
theorem dX4_octet_18 : decode cX4_octet 18 = .ok (.aload_n 3, 1) := by decide +kernel
theorem dX4_octet_19 : decode cX4_octet 19 = .ok (.getfield 65, 3) := by decide +kernel
theorem dX4_octet_22 : decode cX4_octet 22 = .ok (.iconst 2, 1) := by decide +kernel
theorem dX4_octet_23 : decode cX4_octet 23 = .ok (.if_icmp .ne 9, 3) := by decide +kernel
theorem dX4_octet_26 : decode cX4_octet 26 = .ok (.aload_n 0, 1) := by decide +kernel
theorem dX4_octet_27 : decode cX4_octet 27 = .ok (.iconst 2, 1) := by decide +kernel
theorem dX4_octet_28 : decode cX4_octet 28 = .ok (.invokevirtual 71, 3) := by decide +kernel
theorem dX4_octet_31 : decode cX4_octet 31 = .ok (.ireturn, 1) := by decide +kernel
theorem dX4_octet_32 : decode cX4_octet 32 = .ok (.aload_n 3, 1) := by decide +kernel
theorem dX4_octet_33 : decode cX4_octet 33 = .ok (.invokevirtual 198, 3) := by decide +kernel
theorem dX4_octet_36 : decode cX4_octet 36 = .ok (.ifCond .eq 9, 3) := by decide +kernel
theorem dX4_octet_39 : decode cX4_octet 39 = .ok (.aload_n 0, 1) := by decide +kernel
theorem dX4_octet_40 : decode cX4_octet 40 = .ok (.iconst 1, 1) := by decide +kernel
theorem dX4_octet_41 : decode cX4_octet 41 = .ok (.invokevirtual 71, 3) := by decide +kernel
theorem dX4_octet_44 : decode cX4_octet 44 = .ok (.ireturn, 1) := by decide +kernel
theorem dX4_octet_45 : decode cX4_octet 45 = .ok (.iload_n 2, 1) := by decide +kernel
theorem dX4_octet_46 : decode cX4_octet 46 = .ok (.ifCond .lt 11, 3) := by decide +kernel
theorem dX4_octet_49 : decode cX4_octet 49 = .ok (.iload_n 2, 1) := by decide +kernel
theorem dX4_octet_50 : decode cX4_octet 50 = .ok (.aload_n 3, 1) := by decide +kernel
theorem dX4_octet_51 : decode cX4_octet 51 = .ok (.getfield 75, 3) := by decide +kernel
theorem dX4_octet_54 : decode cX4_octet 54 = .ok (.if_icmp .lt 9, 3) := by decide +kernel
theorem dX4_octet_57 : decode cX4_octet 57 = .ok (.aload_n 0, 1) := by decide +kernel
theorem dX4_octet_58 : decode cX4_octet 58 = .ok (.iconst 3, 1) := by decide +kernel
theorem dX4_octet_59 : decode cX4_octet 59 = .ok (.invokevirtual 71, 3) := by decide +kernel
theorem dX4_octet_62 : decode cX4_octet 62 = .ok (.ireturn, 1) := by decide +kernel
theorem dX4_octet_63 : decode cX4_octet 63 = .ok (.aload_n 3, 1) := by decide +kernel
theorem dX4_octet_64 : decode cX4_octet 64 = .ok (.getfield 78, 3) := by decide +kernel
theorem dX4_octet_67 : decode cX4_octet 67 = .ok (.iload_n 2, 1) := by decide +kernel
theorem dX4_octet_68 : decode cX4_octet 68 = .ok (.baload, 1) := by decide +kernel
theorem dX4_octet_69 : decode cX4_octet 69 = .ok (.sipush 255, 3) := by decide +kernel
theorem dX4_octet_72 : decode cX4_octet 72 = .ok (.iand, 1) := by decide +kernel
theorem dX4_octet_73 : decode cX4_octet 73 = .ok (.ireturn, 1) := by decide +kernel
theorem dX4_size_0 : decode cX4_size 0 = .ok (.aload_n 0, 1) := by decide +kernel
theorem dX4_size_1 : decode cX4_size 1 = .ok (.iload_n 1, 1) := by decide +kernel
theorem dX4_size_2 : decode cX4_size 2 = .ok (.invokevirtual 61, 3) := by decide +kernel
theorem dX4_size_5 : decode cX4_size 5 = .ok (.ifCond .eq 7, 3) := by decide +kernel
theorem dX4_size_8 : decode cX4_size 8 = .ok (.ldc2_w 199, 3) := by decide +kernel
theorem dX4_size_11 : decode cX4_size 11 = .ok (.lreturn, 1) := by decide +kernel
theorem dX4_size_12 : decode cX4_size 12 = .ok (.iload_n 2, 1) := by decide +kernel
theorem dX4_size_13 : decode cX4_size 13 = .ok (.ifCond .lt 8, 3) := by decide +kernel
theorem dX4_size_16 : decode cX4_size 16 = .ok (.iload_n 2, 1) := by decide +kernel
theorem dX4_size_17 : decode cX4_size 17 = .ok (.iconst 2, 1) := by decide +kernel
theorem dX4_size_18 : decode cX4_size 18 = .ok (.if_icmp .le 7, 3) := by decide +kernel
theorem dX4_size_21 : decode cX4_size 21 = .ok (.ldc2_w 201, 3) := by decide +kernel
theorem dX4_size_24 : decode cX4_size 24 = .ok (.lreturn, 1) := by decide +kernel
theorem dX4_size_25 : decode cX4_size 25 = .ok (.aload_n 0, 1) := by decide +kernel
theorem dX4_size_26 : decode cX4_size 26 = .ok (.getfield 11, 3) := by decide +kernel
theorem dX4_size_29 : decode cX4_size 29 = .ok (.iload_n 1, 1) := by decide +kernel
theorem dX4_size_30 : decode cX4_size 30 = .ok (.aaload, 1) := by decide +kernel
theorem dX4_size_31 : decode cX4_size 31 = .ok (.astore_n 3, 1) := by decide +kernel
theorem dX4_size_32 : decode cX4_size 32 = .ok (.aload_n 3, 1) := by decide +kernel
theorem dX4_size_33 : decode cX4_size 33 = .ok (.getfield 65, 3) := by decide +kernel
theorem dX4_size_36 : decode cX4_size 36 = .ok (.iconst 2, 1) := by decide +kernel
theorem dX4_size_37 : decode cX4_size 37 = .ok (.if_icmp .ne 10, 3) := by decide +kernel
theorem dX4_size_40 : decode cX4_size 40 = .ok (.aload_n 0, 1) := by decide +kernel
theorem dX4_size_41 : decode cX4_size 41 = .ok (.iconst 2, 1) := by decide +kernel
theorem dX4_size_42 : decode cX4_size 42 = .ok (.invokevirtual 71, 3) := by decide +kernel
theorem dX4_size_45 : decode cX4_size 45 = .ok (.i2l, 1) := by decide +kernel
theorem dX4_size_46 : decode cX4_size 46 = .ok (.lreturn, 1) := by decide +kernel
theorem dX4_size_47 : decode cX4_size 47 = .ok (.aload_n 3, 1) := by decide +kernel
theorem dX4_size_48 : decode cX4_size 48 = .ok (.getfield 65, 3) := by decide +kernel
theorem dX4_size_51 : decode cX4_size 51 = .ok (.iconst 1, 1) := by decide +kernel
theorem dX4_size_52 : decode cX4_size 52 = .ok (.if_icmp .ne 11, 3) := by decide +kernel
theorem dX4_size_55 : decode cX4_size 55 = .ok (.iload_n 2, 1) := by decide +kernel
theorem dX4_size_56 : decode cX4_size 56 = .ok (.ifCond .eq 7, 3) := by decide +kernel
theorem dX4_size_59 : decode cX4_size 59 = .ok (.iconst 1, 1) := by decide +kernel
theorem dX4_size_60 : decode cX4_size 60 = .ok (.goto 4, 3) := by decide +kernel
theorem dX4_size_63 : decode cX4_size 63 = .ok (.iconst 0, 1) := by decide +kernel
theorem dX4_size_64 : decode cX4_size 64 = .ok (.istore 4, 2) := by decide +kernel
theorem dX4_size_66 : decode cX4_size 66 = .ok (.iload 4, 2) := by decide +kernel
theorem dX4_size_68 : decode cX4_size 68 = .ok (.ifCond .ne 17, 3) := by decide +kernel
theorem dX4_size_71 : decode cX4_size 71 = .ok (.aload_n 3, 1) := by decide +kernel
theorem dX4_size_72 : decode cX4_size 72 = .ok (.invokevirtual 198, 3) := by decide +kernel
theorem dX4_size_75 : decode cX4_size 75 = .ok (.ifCond .eq 10, 3) := by decide +kernel
theorem dX4_size_78 : decode cX4_size 78 = .ok (.aload_n 0, 1) := by decide +kernel
theorem dX4_size_79 : decode cX4_size 79 = .ok (.iconst 1, 1) := by decide +kernel
theorem dX4_size_80 : decode cX4_size 80 = .ok (.invokevirtual 71, 3) := by decide +kernel
theorem dX4_size_83 : decode cX4_size 83 = .ok (.i2l, 1) := by decide +kernel
theorem dX4_size_84 : decode cX4_size 84 = .ok (.lreturn, 1) := by decide +kernel
theorem dX4_size_85 : decode cX4_size 85 = .ok (.iload_n 2, 1) := by decide +kernel
theorem dX4_size_86 : decode cX4_size 86 = .ok (.ifCond .ne 9, 3) := by decide +kernel
theorem dX4_size_89 : decode cX4_size 89 = .ok (.aload_n 3, 1) := by decide +kernel
theorem dX4_size_90 : decode cX4_size 90 = .ok (.getfield 75, 3) := by decide +kernel
theorem dX4_size_93 : decode cX4_size 93 = .ok (.i2l, 1) := by decide +kernel
theorem dX4_size_94 : decode cX4_size 94 = .ok (.lreturn, 1) := by decide +kernel
theorem dX4_size_95 : decode cX4_size 95 = .ok (.iload_n 2, 1) := by decide +kernel
theorem dX4_size_96 : decode cX4_size 96 = .ok (.iconst 1, 1) := by decide +kernel
theorem dX4_size_97 : decode cX4_size 97 = .ok (.if_icmp .ne 11, 3) := by decide +kernel
theorem dX4_size_100 : decode cX4_size 100 = .ok (.aload_n 3, 1) := by decide +kernel
theorem dX4_size_101 : decode cX4_size 101 = .ok (.invokevirtual 203, 3) := by decide +kernel
theorem dX4_size_104 : decode cX4_size 104 = .ok (.i2l, 1) := by decide +kernel
theorem dX4_size_105 : decode cX4_size 105 = .ok (.goto 12, 3) := by decide +kernel
theorem dX4_size_108 : decode cX4_size 108 = .ok (.aload_n 3, 1) := by decide +kernel
theorem dX4_size_109 : decode cX4_size 109 = .ok (.invokevirtual 206, 3) := by decide +kernel
theorem dX4_size_112 : decode cX4_size 112 = .ok (.i2l, 1) := by decide +kernel
theorem dX4_size_113 : decode cX4_size 113 = .ok (.ldc2_w 209, 3) := by decide +kernel
theorem dX4_size_116 : decode cX4_size 116 = .ok (.land, 1) := by decide +kernel
theorem dX4_size_117 : decode cX4_size 117 = .ok (.lreturn, 1) := by decide +kernel
theorem dX4_extra_0 : decode cX4_extra 0 = .ok (.aload_n 0, 1) := by decide +kernel
theorem dX4_extra_1 : decode cX4_extra 1 = .ok (.iload_n 1, 1) := by decide +kernel
theorem dX4_extra_2 : decode cX4_extra 2 = .ok (.invokevirtual 61, 3) := by decide +kernel
theorem dX4_extra_5 : decode cX4_extra 5 = .ok (.ifCond .eq 6, 3) := by decide +kernel
theorem dX4_extra_8 : decode cX4_extra 8 = .ok (.bipush (-2), 2) := by decide +kernel
theorem dX4_extra_10 : decode cX4_extra 10 = .ok (.ireturn, 1) := by decide +kernel
theorem dX4_extra_11 : decode cX4_extra 11 = .ok (.aload_n 0, 1) := by decide +kernel
theorem dX4_extra_12 : decode cX4_extra 12 = .ok (.getfield 11, 3) := by decide +kernel
theorem dX4_extra_15 : decode cX4_extra 15 = .ok (.iload_n 1, 1) := by decide +kernel
theorem dX4_extra_16 : decode cX4_extra 16 = .ok (.aaload, 1) := by decide +kernel
theorem dX4_extra_17 : decode cX4_extra 17 = .ok (.astore 5, 2) := by decide +kernel
theorem dX4_extra_19 : decode cX4_extra 19 = .ok (.iload_n 2, 1) := by decide +kernel
theorem dX4_extra_20 : decode cX4_extra 20 = .ok (.ifCond .lt 12, 3) := by decide +kernel
theorem dX4_extra_23 : decode cX4_extra 23 = .ok (.iload_n 2, 1) := by decide +kernel
theorem dX4_extra_24 : decode cX4_extra 24 = .ok (.aload 5, 2) := by decide +kernel
theorem dX4_extra_26 : decode cX4_extra 26 = .ok (.getfield 100, 3) := by decide +kernel
theorem dX4_extra_29 : decode cX4_extra 29 = .ok (.if_icmp .lt 6, 3) := by decide +kernel
theorem dX4_extra_32 : decode cX4_extra 32 = .ok (.bipush (-2), 2) := by decide +kernel
theorem dX4_extra_34 : decode cX4_extra 34 = .ok (.ireturn, 1) := by decide +kernel
theorem dX4_extra_35 : decode cX4_extra 35 = .ok (.iload_n 3, 1) := by decide +kernel
theorem dX4_extra_36 : decode cX4_extra 36 = .ok (.ifCond .lt 8, 3) := by decide +kernel
theorem dX4_extra_39 : decode cX4_extra 39 = .ok (.iload_n 3, 1) := by decide +kernel
theorem dX4_extra_40 : decode cX4_extra 40 = .ok (.iconst 2, 1) := by decide +kernel
theorem dX4_extra_41 : decode cX4_extra 41 = .ok (.if_icmp .le 6, 3) := by decide +kernel
theorem dX4_extra_44 : decode cX4_extra 44 = .ok (.bipush (-3), 2) := by decide +kernel
theorem dX4_extra_46 : decode cX4_extra 46 = .ok (.ireturn, 1) := by decide +kernel
theorem dX4_extra_47 : decode cX4_extra 47 = .ok (.iload_n 3, 1) := by decide +kernel
theorem dX4_extra_48 : decode cX4_extra 48 = .ok (.ifCond .ne 11, 3) := by decide +kernel
theorem dX4_extra_51 : decode cX4_extra 51 = .ok (.aload 5, 2) := by decide +kernel
theorem dX4_extra_53 : decode cX4_extra 53 = .ok (.getfield 103, 3) := by decide +kernel
theorem dX4_extra_56 : decode cX4_extra 56 = .ok (.iload_n 2, 1) := by decide +kernel
theorem dX4_extra_57 : decode cX4_extra 57 = .ok (.iaload, 1) := by decide +kernel
theorem dX4_extra_58 : decode cX4_extra 58 = .ok (.ireturn, 1) := by decide +kernel
theorem dX4_extra_59 : decode cX4_extra 59 = .ok (.iload_n 3, 1) := by decide +kernel
theorem dX4_extra_60 : decode cX4_extra 60 = .ok (.iconst 1, 1) := by decide +kernel
theorem dX4_extra_61 : decode cX4_extra 61 = .ok (.if_icmp .ne 11, 3) := by decide +kernel
theorem dX4_extra_64 : decode cX4_extra 64 = .ok (.aload 5, 2) := by decide +kernel
theorem dX4_extra_66 : decode cX4_extra 66 = .ok (.getfield 107, 3) := by decide +kernel
theorem dX4_extra_69 : decode cX4_extra 69 = .ok (.iload_n 2, 1) := by decide +kernel
theorem dX4_extra_70 : decode cX4_extra 70 = .ok (.iaload, 1) := by decide +kernel
theorem dX4_extra_71 : decode cX4_extra 71 = .ok (.ireturn, 1) := by decide +kernel
theorem dX4_extra_72 : decode cX4_extra 72 = .ok (.iload 4, 2) := by decide +kernel
theorem dX4_extra_74 : decode cX4_extra 74 = .ok (.ifCond .lt 15, 3) := by decide +kernel
theorem dX4_extra_77 : decode cX4_extra 77 = .ok (.iload 4, 2) := by decide +kernel
theorem dX4_extra_79 : decode cX4_extra 79 = .ok (.aload 5, 2) := by decide +kernel
theorem dX4_extra_81 : decode cX4_extra 81 = .ok (.getfield 107, 3) := by decide +kernel
theorem dX4_extra_84 : decode cX4_extra 84 = .ok (.iload_n 2, 1) := by decide +kernel
theorem dX4_extra_85 : decode cX4_extra 85 = .ok (.iaload, 1) := by decide +kernel
theorem dX4_extra_86 : decode cX4_extra 86 = .ok (.if_icmp .lt 9, 3) := by decide +kernel
theorem dX4_extra_89 : decode cX4_extra 89 = .ok (.aload_n 0, 1) := by decide +kernel
theorem dX4_extra_90 : decode cX4_extra 90 = .ok (.iconst 3, 1) := by decide +kernel
theorem dX4_extra_91 : decode cX4_extra 91 = .ok (.invokevirtual 71, 3) := by decide +kernel
theorem dX4_extra_94 : decode cX4_extra 94 = .ok (.ireturn, 1) := by decide +kernel
theorem dX4_extra_95 : decode cX4_extra 95 = .ok (.aload 5, 2) := by decide +kernel
theorem dX4_extra_97 : decode cX4_extra 97 = .ok (.getfield 110, 3) := by decide +kernel
theorem dX4_extra_100 : decode cX4_extra 100 = .ok (.iload_n 2, 1) := by decide +kernel
theorem dX4_extra_101 : decode cX4_extra 101 = .ok (.bipush 8, 2) := by decide +kernel
theorem dX4_extra_103 : decode cX4_extra 103 = .ok (.imul, 1) := by decide +kernel
theorem dX4_extra_104 : decode cX4_extra 104 = .ok (.iload 4, 2) := by decide +kernel
theorem dX4_extra_106 : decode cX4_extra 106 = .ok (.iadd, 1) := by decide +kernel
theorem dX4_extra_107 : decode cX4_extra 107 = .ok (.baload, 1) := by decide +kernel
theorem dX4_extra_108 : decode cX4_extra 108 = .ok (.sipush 255, 3) := by decide +kernel
theorem dX4_extra_111 : decode cX4_extra 111 = .ok (.iand, 1) := by decide +kernel
theorem dX4_extra_112 : decode cX4_extra 112 = .ok (.ireturn, 1) := by decide +kernel
theorem dX4_right_0 : decode cX4_right 0 = .ok (.aload_n 0, 1) := by decide +kernel
theorem dX4_right_1 : decode cX4_right 1 = .ok (.iload_n 1, 1) := by decide +kernel
theorem dX4_right_2 : decode cX4_right 2 = .ok (.invokevirtual 61, 3) := by decide +kernel
theorem dX4_right_5 : decode cX4_right 5 = .ok (.ifCond .eq 6, 3) := by decide +kernel
theorem dX4_right_8 : decode cX4_right 8 = .ok (.bipush (-2), 2) := by decide +kernel
theorem dX4_right_10 : decode cX4_right 10 = .ok (.ireturn, 1) := by decide +kernel
theorem dX4_right_11 : decode cX4_right 11 = .ok (.aload_n 0, 1) := by decide +kernel
theorem dX4_right_12 : decode cX4_right 12 = .ok (.getfield 11, 3) := by decide +kernel
theorem dX4_right_15 : decode cX4_right 15 = .ok (.iload_n 1, 1) := by decide +kernel
theorem dX4_right_16 : decode cX4_right 16 = .ok (.aaload, 1) := by decide +kernel
theorem dX4_right_17 : decode cX4_right 17 = .ok (.astore_n 2, 1) := by decide +kernel
theorem dX4_right_18 : decode cX4_right 18 = .ok (.aload_n 2, 1) := by decide +kernel
theorem dX4_right_19 : decode cX4_right 19 = .ok (.getfield 65, 3) := by decide +kernel
theorem dX4_right_22 : decode cX4_right 22 = .ok (.iconst 1, 1) := by decide +kernel
theorem dX4_right_23 : decode cX4_right 23 = .ok (.if_icmp .ne 6, 3) := by decide +kernel
theorem dX4_right_26 : decode cX4_right 26 = .ok (.bipush (-4), 2) := by decide +kernel
theorem dX4_right_28 : decode cX4_right 28 = .ok (.ireturn, 1) := by decide +kernel
theorem dX4_right_29 : decode cX4_right 29 = .ok (.aload_n 2, 1) := by decide +kernel
theorem dX4_right_30 : decode cX4_right 30 = .ok (.getfield 65, 3) := by decide +kernel
theorem dX4_right_33 : decode cX4_right 33 = .ok (.iconst 2, 1) := by decide +kernel
theorem dX4_right_34 : decode cX4_right 34 = .ok (.if_icmp .ne 9, 3) := by decide +kernel
theorem dX4_right_37 : decode cX4_right 37 = .ok (.aload_n 0, 1) := by decide +kernel
theorem dX4_right_38 : decode cX4_right 38 = .ok (.iconst 2, 1) := by decide +kernel
theorem dX4_right_39 : decode cX4_right 39 = .ok (.invokevirtual 71, 3) := by decide +kernel
theorem dX4_right_42 : decode cX4_right 42 = .ok (.ireturn, 1) := by decide +kernel
theorem dX4_right_43 : decode cX4_right 43 = .ok (.aload_n 2, 1) := by decide +kernel
theorem dX4_right_44 : decode cX4_right 44 = .ok (.invokevirtual 198, 3) := by decide +kernel
theorem dX4_right_47 : decode cX4_right 47 = .ok (.ifCond .eq 9, 3) := by decide +kernel
theorem dX4_right_50 : decode cX4_right 50 = .ok (.aload_n 0, 1) := by decide +kernel
theorem dX4_right_51 : decode cX4_right 51 = .ok (.iconst 1, 1) := by decide +kernel
theorem dX4_right_52 : decode cX4_right 52 = .ok (.invokevirtual 71, 3) := by decide +kernel
theorem dX4_right_55 : decode cX4_right 55 = .ok (.ireturn, 1) := by decide +kernel
theorem dX4_right_56 : decode cX4_right 56 = .ok (.aload_n 2, 1) := by decide +kernel
theorem dX4_right_57 : decode cX4_right 57 = .ok (.invokevirtual 206, 3) := by decide +kernel
theorem dX4_right_60 : decode cX4_right 60 = .ok (.aload_n 2, 1) := by decide +kernel
theorem dX4_right_61 : decode cX4_right 61 = .ok (.getfield 78, 3) := by decide +kernel
theorem dX4_right_64 : decode cX4_right 64 = .ok (.aload_n 2, 1) := by decide +kernel
theorem dX4_right_65 : decode cX4_right 65 = .ok (.getfield 75, 3) := by decide +kernel
theorem dX4_right_68 : decode cX4_right 68 = .ok (.invokestatic 211, 3) := by decide +kernel
theorem dX4_right_71 : decode cX4_right 71 = .ok (.if_icmp .ne 7, 3) := by decide +kernel
theorem dX4_right_74 : decode cX4_right 74 = .ok (.iconst 1, 1) := by decide +kernel
theorem dX4_right_75 : decode cX4_right 75 = .ok (.goto 4, 3) := by decide +kernel
theorem dX4_right_78 : decode cX4_right 78 = .ok (.iconst 0, 1) := by decide +kernel
theorem dX4_right_79 : decode cX4_right 79 = .ok (.ireturn, 1) := by decide +kernel
theorem dX4_same_0 : decode cX4_same 0 = .ok (.aload_n 0, 1) := by decide +kernel
theorem dX4_same_1 : decode cX4_same 1 = .ok (.iload_n 1, 1) := by decide +kernel
theorem dX4_same_2 : decode cX4_same 2 = .ok (.invokevirtual 61, 3) := by decide +kernel
theorem dX4_same_5 : decode cX4_same 5 = .ok (.ifCond .eq 6, 3) := by decide +kernel
theorem dX4_same_8 : decode cX4_same 8 = .ok (.bipush (-2), 2) := by decide +kernel
theorem dX4_same_10 : decode cX4_same 10 = .ok (.ireturn, 1) := by decide +kernel
theorem dX4_same_11 : decode cX4_same 11 = .ok (.iconst 0, 1) := by decide +kernel
theorem dX4_same_12 : decode cX4_same 12 = .ok (.istore_n 2, 1) := by decide +kernel
theorem dX4_same_13 : decode cX4_same 13 = .ok (.iload_n 2, 1) := by decide +kernel
theorem dX4_same_14 : decode cX4_same 14 = .ok (.iload_n 1, 1) := by decide +kernel
theorem dX4_same_15 : decode cX4_same 15 = .ok (.if_icmp .ge 27, 3) := by decide +kernel
theorem dX4_same_18 : decode cX4_same 18 = .ok (.aload_n 0, 1) := by decide +kernel
theorem dX4_same_19 : decode cX4_same 19 = .ok (.getfield 11, 3) := by decide +kernel
theorem dX4_same_22 : decode cX4_same 22 = .ok (.iload_n 2, 1) := by decide +kernel
theorem dX4_same_23 : decode cX4_same 23 = .ok (.aaload, 1) := by decide +kernel
theorem dX4_same_24 : decode cX4_same 24 = .ok (.aload_n 0, 1) := by decide +kernel
theorem dX4_same_25 : decode cX4_same 25 = .ok (.getfield 11, 3) := by decide +kernel
theorem dX4_same_28 : decode cX4_same 28 = .ok (.iload_n 1, 1) := by decide +kernel
theorem dX4_same_29 : decode cX4_same 29 = .ok (.aaload, 1) := by decide +kernel
theorem dX4_same_30 : decode cX4_same 30 = .ok (.invokevirtual 215, 3) := by decide +kernel
theorem dX4_same_33 : decode cX4_same 33 = .ok (.ifCond .ne 9, 3) := by decide +kernel
theorem dX4_same_36 : decode cX4_same 36 = .ok (.iinc 2 1, 3) := by decide +kernel
theorem dX4_same_39 : decode cX4_same 39 = .ok (.goto (-26), 3) := by decide +kernel
theorem dX4_same_42 : decode cX4_same 42 = .ok (.iload_n 2, 1) := by decide +kernel
theorem dX4_same_43 : decode cX4_same 43 = .ok (.ireturn, 1) := by decide +kernel
theorem dX4_told_0 : decode cX4_told 0 = .ok (.iload_n 1, 1) := by decide +kernel
theorem dX4_told_1 : decode cX4_told 1 = .ok (.tableswitch 54 0 3 #[31, 36, 44, 49], 31) := by decide +kernel
theorem dX4_told_32 : decode cX4_told 32 = .ok (.aload_n 0, 1) := by decide +kernel
theorem dX4_told_33 : decode cX4_told 33 = .ok (.getfield 35, 3) := by decide +kernel
theorem dX4_told_36 : decode cX4_told 36 = .ok (.ireturn, 1) := by decide +kernel
theorem dX4_told_37 : decode cX4_told 37 = .ok (.aload_n 0, 1) := by decide +kernel
theorem dX4_told_38 : decode cX4_told 38 = .ok (.getfield 18, 3) := by decide +kernel
theorem dX4_told_41 : decode cX4_told 41 = .ok (.getfield 130, 3) := by decide +kernel
theorem dX4_told_44 : decode cX4_told 44 = .ok (.ireturn, 1) := by decide +kernel
theorem dX4_told_45 : decode cX4_told 45 = .ok (.aload_n 0, 1) := by decide +kernel
theorem dX4_told_46 : decode cX4_told 46 = .ok (.getfield 39, 3) := by decide +kernel
theorem dX4_told_49 : decode cX4_told 49 = .ok (.ireturn, 1) := by decide +kernel
theorem dX4_told_50 : decode cX4_told 50 = .ok (.aload_n 0, 1) := by decide +kernel
theorem dX4_told_51 : decode cX4_told 51 = .ok (.getfield 42, 3) := by decide +kernel
theorem dX4_told_54 : decode cX4_told 54 = .ok (.ireturn, 1) := by decide +kernel
theorem dX4_told_55 : decode cX4_told 55 = .ok (.bipush (-3), 2) := by decide +kernel
theorem dX4_told_57 : decode cX4_told 57 = .ok (.ireturn, 1) := by decide +kernel
theorem dX4_isUnknown_0 : decode cX4_isUnknown 0 = .ok (.iload_n 1, 1) := by decide +kernel
theorem dX4_isUnknown_1 : decode cX4_isUnknown 1 = .ok (.ifCond .lt 17, 3) := by decide +kernel
theorem dX4_isUnknown_4 : decode cX4_isUnknown 4 = .ok (.iload_n 1, 1) := by decide +kernel
theorem dX4_isUnknown_5 : decode cX4_isUnknown 5 = .ok (.aload_n 0, 1) := by decide +kernel
theorem dX4_isUnknown_6 : decode cX4_isUnknown 6 = .ok (.getfield 35, 3) := by decide +kernel
theorem dX4_isUnknown_9 : decode cX4_isUnknown 9 = .ok (.if_icmp .ge 9, 3) := by decide +kernel
theorem dX4_isUnknown_12 : decode cX4_isUnknown 12 = .ok (.iload_n 1, 1) := by decide +kernel
theorem dX4_isUnknown_13 : decode cX4_isUnknown 13 = .ok (.bipush 12, 2) := by decide +kernel
theorem dX4_isUnknown_15 : decode cX4_isUnknown 15 = .ok (.if_icmp .lt 7, 3) := by decide +kernel
theorem dX4_isUnknown_18 : decode cX4_isUnknown 18 = .ok (.iconst 1, 1) := by decide +kernel
theorem dX4_isUnknown_19 : decode cX4_isUnknown 19 = .ok (.goto 4, 3) := by decide +kernel
theorem dX4_isUnknown_22 : decode cX4_isUnknown 22 = .ok (.iconst 0, 1) := by decide +kernel
theorem dX4_isUnknown_23 : decode cX4_isUnknown 23 = .ok (.ireturn, 1) := by decide +kernel
theorem dX4_faultOf_0 : decode cX4_faultOf 0 = .ok (.aload_n 0, 1) := by decide +kernel
theorem dX4_faultOf_1 : decode cX4_faultOf 1 = .ok (.iload_n 1, 1) := by decide +kernel
theorem dX4_faultOf_2 : decode cX4_faultOf 2 = .ok (.putfield 42, 3) := by decide +kernel
theorem dX4_faultOf_5 : decode cX4_faultOf 5 = .ok (.bipush (-30), 2) := by decide +kernel
theorem dX4_faultOf_7 : decode cX4_faultOf 7 = .ok (.iload_n 1, 1) := by decide +kernel
theorem dX4_faultOf_8 : decode cX4_faultOf 8 = .ok (.isub, 1) := by decide +kernel
theorem dX4_faultOf_9 : decode cX4_faultOf 9 = .ok (.ireturn, 1) := by decide +kernel
theorem dX4_lacksData_0 : decode cX4_lacksData 0 = .ok (.iconst 0, 1) := by decide +kernel
theorem dX4_lacksData_1 : decode cX4_lacksData 1 = .ok (.istore_n 1, 1) := by decide +kernel
theorem dX4_lacksData_2 : decode cX4_lacksData 2 = .ok (.iload_n 1, 1) := by decide +kernel
theorem dX4_lacksData_3 : decode cX4_lacksData 3 = .ok (.aload_n 0, 1) := by decide +kernel
theorem dX4_lacksData_4 : decode cX4_lacksData 4 = .ok (.getfield 35, 3) := by decide +kernel
theorem dX4_lacksData_7 : decode cX4_lacksData 7 = .ok (.if_icmp .ge 23, 3) := by decide +kernel
theorem dX4_lacksData_10 : decode cX4_lacksData 10 = .ok (.aload_n 0, 1) := by decide +kernel
theorem dX4_lacksData_11 : decode cX4_lacksData 11 = .ok (.getfield 11, 3) := by decide +kernel
theorem dX4_lacksData_14 : decode cX4_lacksData 14 = .ok (.iload_n 1, 1) := by decide +kernel
theorem dX4_lacksData_15 : decode cX4_lacksData 15 = .ok (.aaload, 1) := by decide +kernel
theorem dX4_lacksData_16 : decode cX4_lacksData 16 = .ok (.invokevirtual 198, 3) := by decide +kernel
theorem dX4_lacksData_19 : decode cX4_lacksData 19 = .ok (.ifCond .eq 5, 3) := by decide +kernel
theorem dX4_lacksData_22 : decode cX4_lacksData 22 = .ok (.iconst 1, 1) := by decide +kernel
theorem dX4_lacksData_23 : decode cX4_lacksData 23 = .ok (.ireturn, 1) := by decide +kernel
theorem dX4_lacksData_24 : decode cX4_lacksData 24 = .ok (.iinc 1 1, 3) := by decide +kernel
theorem dX4_lacksData_27 : decode cX4_lacksData 27 = .ok (.goto (-25), 3) := by decide +kernel
theorem dX4_lacksData_30 : decode cX4_lacksData 30 = .ok (.iconst 0, 1) := by decide +kernel
theorem dX4_lacksData_31 : decode cX4_lacksData 31 = .ok (.ireturn, 1) := by decide +kernel
theorem dX4_allPlacedBefore_0 : decode cX4_allPlacedBefore 0 = .ok (.iconst 0, 1) := by decide +kernel
theorem dX4_allPlacedBefore_1 : decode cX4_allPlacedBefore 1 = .ok (.istore_n 2, 1) := by decide +kernel
theorem dX4_allPlacedBefore_2 : decode cX4_allPlacedBefore 2 = .ok (.iload_n 2, 1) := by decide +kernel
theorem dX4_allPlacedBefore_3 : decode cX4_allPlacedBefore 3 = .ok (.iload_n 1, 1) := by decide +kernel
theorem dX4_allPlacedBefore_4 : decode cX4_allPlacedBefore 4 = .ok (.if_icmp .ge 24, 3) := by decide +kernel
theorem dX4_allPlacedBefore_7 : decode cX4_allPlacedBefore 7 = .ok (.aload_n 0, 1) := by decide +kernel
theorem dX4_allPlacedBefore_8 : decode cX4_allPlacedBefore 8 = .ok (.getfield 11, 3) := by decide +kernel
theorem dX4_allPlacedBefore_11 : decode cX4_allPlacedBefore 11 = .ok (.iload_n 2, 1) := by decide +kernel
theorem dX4_allPlacedBefore_12 : decode cX4_allPlacedBefore 12 = .ok (.aaload, 1) := by decide +kernel
theorem dX4_allPlacedBefore_13 : decode cX4_allPlacedBefore 13 = .ok (.getfield 192, 3) := by decide +kernel
theorem dX4_allPlacedBefore_16 : decode cX4_allPlacedBefore 16 = .ok (.iconst (-1), 1) := by decide +kernel
theorem dX4_allPlacedBefore_17 : decode cX4_allPlacedBefore 17 = .ok (.if_icmp .ne 5, 3) := by decide +kernel
theorem dX4_allPlacedBefore_20 : decode cX4_allPlacedBefore 20 = .ok (.iconst 0, 1) := by decide +kernel
theorem dX4_allPlacedBefore_21 : decode cX4_allPlacedBefore 21 = .ok (.ireturn, 1) := by decide +kernel
theorem dX4_allPlacedBefore_22 : decode cX4_allPlacedBefore 22 = .ok (.iinc 2 1, 3) := by decide +kernel
theorem dX4_allPlacedBefore_25 : decode cX4_allPlacedBefore 25 = .ok (.goto (-23), 3) := by decide +kernel
theorem dX4_allPlacedBefore_28 : decode cX4_allPlacedBefore 28 = .ok (.iconst 1, 1) := by decide +kernel
theorem dX4_allPlacedBefore_29 : decode cX4_allPlacedBefore 29 = .ok (.ireturn, 1) := by decide +kernel
theorem dX4_lengthFrom_0 : decode cX4_lengthFrom 0 = .ok (.bipush 22, 2) := by decide +kernel
theorem dX4_lengthFrom_2 : decode cX4_lengthFrom 2 = .ok (.aload_n 0, 1) := by decide +kernel
theorem dX4_lengthFrom_3 : decode cX4_lengthFrom 3 = .ok (.getfield 39, 3) := by decide +kernel
theorem dX4_lengthFrom_6 : decode cX4_lengthFrom 6 = .ok (.iadd, 1) := by decide +kernel
theorem dX4_lengthFrom_7 : decode cX4_lengthFrom 7 = .ok (.istore_n 2, 1) := by decide +kernel
theorem dX4_lengthFrom_8 : decode cX4_lengthFrom 8 = .ok (.iconst 0, 1) := by decide +kernel
theorem dX4_lengthFrom_9 : decode cX4_lengthFrom 9 = .ok (.istore_n 3, 1) := by decide +kernel
theorem dX4_lengthFrom_10 : decode cX4_lengthFrom 10 = .ok (.iload_n 3, 1) := by decide +kernel
theorem dX4_lengthFrom_11 : decode cX4_lengthFrom 11 = .ok (.aload_n 0, 1) := by decide +kernel
theorem dX4_lengthFrom_12 : decode cX4_lengthFrom 12 = .ok (.getfield 35, 3) := by decide +kernel
theorem dX4_lengthFrom_15 : decode cX4_lengthFrom 15 = .ok (.if_icmp .ge 38, 3) := by decide +kernel
theorem dX4_lengthFrom_18 : decode cX4_lengthFrom 18 = .ok (.iload_n 2, 1) := by decide +kernel
theorem dX4_lengthFrom_19 : decode cX4_lengthFrom 19 = .ok (.aload_n 0, 1) := by decide +kernel
theorem dX4_lengthFrom_20 : decode cX4_lengthFrom 20 = .ok (.getfield 11, 3) := by decide +kernel
theorem dX4_lengthFrom_23 : decode cX4_lengthFrom 23 = .ok (.iload_n 3, 1) := by decide +kernel
theorem dX4_lengthFrom_24 : decode cX4_lengthFrom 24 = .ok (.aaload, 1) := by decide +kernel
theorem dX4_lengthFrom_25 : decode cX4_lengthFrom 25 = .ok (.invokevirtual 219, 3) := by decide +kernel
theorem dX4_lengthFrom_28 : decode cX4_lengthFrom 28 = .ok (.iadd, 1) := by decide +kernel
theorem dX4_lengthFrom_29 : decode cX4_lengthFrom 29 = .ok (.istore_n 2, 1) := by decide +kernel
theorem dX4_lengthFrom_30 : decode cX4_lengthFrom 30 = .ok (.iload_n 3, 1) := by decide +kernel
theorem dX4_lengthFrom_31 : decode cX4_lengthFrom 31 = .ok (.iload_n 1, 1) := by decide +kernel
theorem dX4_lengthFrom_32 : decode cX4_lengthFrom 32 = .ok (.if_icmp .lt 15, 3) := by decide +kernel
theorem dX4_lengthFrom_35 : decode cX4_lengthFrom 35 = .ok (.iload_n 2, 1) := by decide +kernel
theorem dX4_lengthFrom_36 : decode cX4_lengthFrom 36 = .ok (.aload_n 0, 1) := by decide +kernel
theorem dX4_lengthFrom_37 : decode cX4_lengthFrom 37 = .ok (.getfield 11, 3) := by decide +kernel
theorem dX4_lengthFrom_40 : decode cX4_lengthFrom 40 = .ok (.iload_n 3, 1) := by decide +kernel
theorem dX4_lengthFrom_41 : decode cX4_lengthFrom 41 = .ok (.aaload, 1) := by decide +kernel
theorem dX4_lengthFrom_42 : decode cX4_lengthFrom 42 = .ok (.invokevirtual 222, 3) := by decide +kernel
theorem dX4_lengthFrom_45 : decode cX4_lengthFrom 45 = .ok (.iadd, 1) := by decide +kernel
theorem dX4_lengthFrom_46 : decode cX4_lengthFrom 46 = .ok (.istore_n 2, 1) := by decide +kernel
theorem dX4_lengthFrom_47 : decode cX4_lengthFrom 47 = .ok (.iinc 3 1, 3) := by decide +kernel
theorem dX4_lengthFrom_50 : decode cX4_lengthFrom 50 = .ok (.goto (-40), 3) := by decide +kernel
theorem dX4_lengthFrom_53 : decode cX4_lengthFrom 53 = .ok (.iload_n 2, 1) := by decide +kernel
theorem dX4_lengthFrom_54 : decode cX4_lengthFrom 54 = .ok (.ireturn, 1) := by decide +kernel
theorem dX4_putFrom_0 : decode cX4_putFrom 0 = .ok (.iload_n 1, 1) := by decide +kernel
theorem dX4_putFrom_1 : decode cX4_putFrom 1 = .ok (.istore_n 2, 1) := by decide +kernel
theorem dX4_putFrom_2 : decode cX4_putFrom 2 = .ok (.iload_n 2, 1) := by decide +kernel
theorem dX4_putFrom_3 : decode cX4_putFrom 3 = .ok (.aload_n 0, 1) := by decide +kernel
theorem dX4_putFrom_4 : decode cX4_putFrom 4 = .ok (.getfield 35, 3) := by decide +kernel
theorem dX4_putFrom_7 : decode cX4_putFrom 7 = .ok (.if_icmp .ge 22, 3) := by decide +kernel
theorem dX4_putFrom_10 : decode cX4_putFrom 10 = .ok (.aload_n 0, 1) := by decide +kernel
theorem dX4_putFrom_11 : decode cX4_putFrom 11 = .ok (.getfield 11, 3) := by decide +kernel
theorem dX4_putFrom_14 : decode cX4_putFrom 14 = .ok (.iload_n 2, 1) := by decide +kernel
theorem dX4_putFrom_15 : decode cX4_putFrom 15 = .ok (.aaload, 1) := by decide +kernel
theorem dX4_putFrom_16 : decode cX4_putFrom 16 = .ok (.aload_n 0, 1) := by decide +kernel
theorem dX4_putFrom_17 : decode cX4_putFrom 17 = .ok (.getfield 18, 3) := by decide +kernel
theorem dX4_putFrom_20 : decode cX4_putFrom 20 = .ok (.invokevirtual 225, 3) := by decide +kernel
theorem dX4_putFrom_23 : decode cX4_putFrom 23 = .ok (.iinc 2 1, 3) := by decide +kernel
theorem dX4_putFrom_26 : decode cX4_putFrom 26 = .ok (.goto (-24), 3) := by decide +kernel
theorem dX4_putFrom_29 : decode cX4_putFrom 29 = .ok (.aload_n 0, 1) := by decide +kernel
theorem dX4_putFrom_30 : decode cX4_putFrom 30 = .ok (.getfield 18, 3) := by decide +kernel
theorem dX4_putFrom_33 : decode cX4_putFrom 33 = .ok (.getfield 130, 3) := by decide +kernel
theorem dX4_putFrom_36 : decode cX4_putFrom 36 = .ok (.istore_n 2, 1) := by decide +kernel
theorem dX4_putFrom_37 : decode cX4_putFrom 37 = .ok (.iconst 0, 1) := by decide +kernel
theorem dX4_putFrom_38 : decode cX4_putFrom 38 = .ok (.istore_n 3, 1) := by decide +kernel
theorem dX4_putFrom_39 : decode cX4_putFrom 39 = .ok (.iload_n 3, 1) := by decide +kernel
theorem dX4_putFrom_40 : decode cX4_putFrom 40 = .ok (.aload_n 0, 1) := by decide +kernel
theorem dX4_putFrom_41 : decode cX4_putFrom 41 = .ok (.getfield 35, 3) := by decide +kernel
theorem dX4_putFrom_44 : decode cX4_putFrom 44 = .ok (.if_icmp .ge 22, 3) := by decide +kernel
theorem dX4_putFrom_47 : decode cX4_putFrom 47 = .ok (.aload_n 0, 1) := by decide +kernel
theorem dX4_putFrom_48 : decode cX4_putFrom 48 = .ok (.getfield 11, 3) := by decide +kernel
theorem dX4_putFrom_51 : decode cX4_putFrom 51 = .ok (.iload_n 3, 1) := by decide +kernel
theorem dX4_putFrom_52 : decode cX4_putFrom 52 = .ok (.aaload, 1) := by decide +kernel
theorem dX4_putFrom_53 : decode cX4_putFrom 53 = .ok (.aload_n 0, 1) := by decide +kernel
theorem dX4_putFrom_54 : decode cX4_putFrom 54 = .ok (.getfield 18, 3) := by decide +kernel
theorem dX4_putFrom_57 : decode cX4_putFrom 57 = .ok (.invokevirtual 228, 3) := by decide +kernel
theorem dX4_putFrom_60 : decode cX4_putFrom 60 = .ok (.iinc 3 1, 3) := by decide +kernel
theorem dX4_putFrom_63 : decode cX4_putFrom 63 = .ok (.goto (-24), 3) := by decide +kernel
theorem dX4_putFrom_66 : decode cX4_putFrom 66 = .ok (.aload_n 0, 1) := by decide +kernel
theorem dX4_putFrom_67 : decode cX4_putFrom 67 = .ok (.iload_n 2, 1) := by decide +kernel
theorem dX4_putFrom_68 : decode cX4_putFrom 68 = .ok (.invokevirtual 231, 3) := by decide +kernel
theorem dX4_putFrom_71 : decode cX4_putFrom 71 = .ok (.aload_n 0, 1) := by decide +kernel
theorem dX4_putFrom_72 : decode cX4_putFrom 72 = .ok (.getfield 18, 3) := by decide +kernel
theorem dX4_putFrom_75 : decode cX4_putFrom 75 = .ok (.getfield 130, 3) := by decide +kernel
theorem dX4_putFrom_78 : decode cX4_putFrom 78 = .ok (.ireturn, 1) := by decide +kernel
theorem dX4_putEnd_0 : decode cX4_putEnd 0 = .ok (.aload_n 0, 1) := by decide +kernel
theorem dX4_putEnd_1 : decode cX4_putEnd 1 = .ok (.getfield 18, 3) := by decide +kernel
theorem dX4_putEnd_4 : decode cX4_putEnd 4 = .ok (.getfield 130, 3) := by decide +kernel
theorem dX4_putEnd_7 : decode cX4_putEnd 7 = .ok (.iload_n 1, 1) := by decide +kernel
theorem dX4_putEnd_8 : decode cX4_putEnd 8 = .ok (.isub, 1) := by decide +kernel
theorem dX4_putEnd_9 : decode cX4_putEnd 9 = .ok (.istore_n 2, 1) := by decide +kernel
theorem dX4_putEnd_10 : decode cX4_putEnd 10 = .ok (.aload_n 0, 1) := by decide +kernel
theorem dX4_putEnd_11 : decode cX4_putEnd 11 = .ok (.getfield 18, 3) := by decide +kernel
theorem dX4_putEnd_14 : decode cX4_putEnd 14 = .ok (.ldc2_w 235, 3) := by decide +kernel
theorem dX4_putEnd_17 : decode cX4_putEnd 17 = .ok (.iconst 4, 1) := by decide +kernel
theorem dX4_putEnd_18 : decode cX4_putEnd 18 = .ok (.invokevirtual 237, 3) := by decide +kernel
theorem dX4_putEnd_21 : decode cX4_putEnd 21 = .ok (.aload_n 0, 1) := by decide +kernel
theorem dX4_putEnd_22 : decode cX4_putEnd 22 = .ok (.getfield 18, 3) := by decide +kernel
theorem dX4_putEnd_25 : decode cX4_putEnd 25 = .ok (.lconst 0, 1) := by decide +kernel
theorem dX4_putEnd_26 : decode cX4_putEnd 26 = .ok (.iconst 4, 1) := by decide +kernel
theorem dX4_putEnd_27 : decode cX4_putEnd 27 = .ok (.invokevirtual 237, 3) := by decide +kernel
theorem dX4_putEnd_30 : decode cX4_putEnd 30 = .ok (.aload_n 0, 1) := by decide +kernel
theorem dX4_putEnd_31 : decode cX4_putEnd 31 = .ok (.getfield 18, 3) := by decide +kernel
theorem dX4_putEnd_34 : decode cX4_putEnd 34 = .ok (.aload_n 0, 1) := by decide +kernel
theorem dX4_putEnd_35 : decode cX4_putEnd 35 = .ok (.getfield 35, 3) := by decide +kernel
theorem dX4_putEnd_38 : decode cX4_putEnd 38 = .ok (.i2l, 1) := by decide +kernel
theorem dX4_putEnd_39 : decode cX4_putEnd 39 = .ok (.iconst 2, 1) := by decide +kernel
theorem dX4_putEnd_40 : decode cX4_putEnd 40 = .ok (.invokevirtual 237, 3) := by decide +kernel
theorem dX4_putEnd_43 : decode cX4_putEnd 43 = .ok (.aload_n 0, 1) := by decide +kernel
theorem dX4_putEnd_44 : decode cX4_putEnd 44 = .ok (.getfield 18, 3) := by decide +kernel
theorem dX4_putEnd_47 : decode cX4_putEnd 47 = .ok (.aload_n 0, 1) := by decide +kernel
theorem dX4_putEnd_48 : decode cX4_putEnd 48 = .ok (.getfield 35, 3) := by decide +kernel
theorem dX4_putEnd_51 : decode cX4_putEnd 51 = .ok (.i2l, 1) := by decide +kernel
theorem dX4_putEnd_52 : decode cX4_putEnd 52 = .ok (.iconst 2, 1) := by decide +kernel
theorem dX4_putEnd_53 : decode cX4_putEnd 53 = .ok (.invokevirtual 237, 3) := by decide +kernel
theorem dX4_putEnd_56 : decode cX4_putEnd 56 = .ok (.aload_n 0, 1) := by decide +kernel
theorem dX4_putEnd_57 : decode cX4_putEnd 57 = .ok (.getfield 18, 3) := by decide +kernel
theorem dX4_putEnd_60 : decode cX4_putEnd 60 = .ok (.iload_n 2, 1) := by decide +kernel
theorem dX4_putEnd_61 : decode cX4_putEnd 61 = .ok (.i2l, 1) := by decide +kernel
theorem dX4_putEnd_62 : decode cX4_putEnd 62 = .ok (.iconst 4, 1) := by decide +kernel
theorem dX4_putEnd_63 : decode cX4_putEnd 63 = .ok (.invokevirtual 237, 3) := by decide +kernel
theorem dX4_putEnd_66 : decode cX4_putEnd 66 = .ok (.aload_n 0, 1) := by decide +kernel
theorem dX4_putEnd_67 : decode cX4_putEnd 67 = .ok (.getfield 18, 3) := by decide +kernel
theorem dX4_putEnd_70 : decode cX4_putEnd 70 = .ok (.iload_n 1, 1) := by decide +kernel
theorem dX4_putEnd_71 : decode cX4_putEnd 71 = .ok (.i2l, 1) := by decide +kernel
theorem dX4_putEnd_72 : decode cX4_putEnd 72 = .ok (.iconst 4, 1) := by decide +kernel
theorem dX4_putEnd_73 : decode cX4_putEnd 73 = .ok (.invokevirtual 237, 3) := by decide +kernel
theorem dX4_putEnd_76 : decode cX4_putEnd 76 = .ok (.aload_n 0, 1) := by decide +kernel
theorem dX4_putEnd_77 : decode cX4_putEnd 77 = .ok (.getfield 18, 3) := by decide +kernel
theorem dX4_putEnd_80 : decode cX4_putEnd 80 = .ok (.aload_n 0, 1) := by decide +kernel
theorem dX4_putEnd_81 : decode cX4_putEnd 81 = .ok (.getfield 39, 3) := by decide +kernel
theorem dX4_putEnd_84 : decode cX4_putEnd 84 = .ok (.i2l, 1) := by decide +kernel
theorem dX4_putEnd_85 : decode cX4_putEnd 85 = .ok (.iconst 2, 1) := by decide +kernel
theorem dX4_putEnd_86 : decode cX4_putEnd 86 = .ok (.invokevirtual 237, 3) := by decide +kernel
theorem dX4_putEnd_89 : decode cX4_putEnd 89 = .ok (.aload_n 0, 1) := by decide +kernel
theorem dX4_putEnd_90 : decode cX4_putEnd 90 = .ok (.getfield 18, 3) := by decide +kernel
theorem dX4_putEnd_93 : decode cX4_putEnd 93 = .ok (.aload_n 0, 1) := by decide +kernel
theorem dX4_putEnd_94 : decode cX4_putEnd 94 = .ok (.getfield 31, 3) := by decide +kernel
theorem dX4_putEnd_97 : decode cX4_putEnd 97 = .ok (.iconst 0, 1) := by decide +kernel
theorem dX4_putEnd_98 : decode cX4_putEnd 98 = .ok (.aload_n 0, 1) := by decide +kernel
theorem dX4_putEnd_99 : decode cX4_putEnd 99 = .ok (.getfield 39, 3) := by decide +kernel
theorem dX4_putEnd_102 : decode cX4_putEnd 102 = .ok (.invokevirtual 240, 3) := by decide +kernel
theorem dX4_putEnd_105 : decode cX4_putEnd 105 = .ok (.return_, 1) := by decide +kernel
theorem dX4_fitsName_0 : decode cX4_fitsName 0 = .ok (.iload_n 3, 1) := by decide +kernel
theorem dX4_fitsName_1 : decode cX4_fitsName 1 = .ok (.iconst 1, 1) := by decide +kernel
theorem dX4_fitsName_2 : decode cX4_fitsName 2 = .ok (.if_icmp .lt 9, 3) := by decide +kernel
theorem dX4_fitsName_5 : decode cX4_fitsName 5 = .ok (.iload_n 3, 1) := by decide +kernel
theorem dX4_fitsName_6 : decode cX4_fitsName 6 = .ok (.bipush 8, 2) := by decide +kernel
theorem dX4_fitsName_8 : decode cX4_fitsName 8 = .ok (.if_icmp .le 5, 3) := by decide +kernel
theorem dX4_fitsName_11 : decode cX4_fitsName 11 = .ok (.iconst 0, 1) := by decide +kernel
theorem dX4_fitsName_12 : decode cX4_fitsName 12 = .ok (.ireturn, 1) := by decide +kernel
theorem dX4_fitsName_13 : decode cX4_fitsName 13 = .ok (.iconst 0, 1) := by decide +kernel
theorem dX4_fitsName_14 : decode cX4_fitsName 14 = .ok (.istore 4, 2) := by decide +kernel
theorem dX4_fitsName_16 : decode cX4_fitsName 16 = .ok (.iload 4, 2) := by decide +kernel
theorem dX4_fitsName_18 : decode cX4_fitsName 18 = .ok (.iload_n 3, 1) := by decide +kernel
theorem dX4_fitsName_19 : decode cX4_fitsName 19 = .ok (.if_icmp .ge 21, 3) := by decide +kernel
theorem dX4_fitsName_22 : decode cX4_fitsName 22 = .ok (.lload_n 1, 1) := by decide +kernel
theorem dX4_fitsName_23 : decode cX4_fitsName 23 = .ok (.iload_n 3, 1) := by decide +kernel
theorem dX4_fitsName_24 : decode cX4_fitsName 24 = .ok (.iload 4, 2) := by decide +kernel
theorem dX4_fitsName_26 : decode cX4_fitsName 26 = .ok (.invokestatic 244, 3) := by decide +kernel
theorem dX4_fitsName_29 : decode cX4_fitsName 29 = .ok (.ifCond .ne 5, 3) := by decide +kernel
theorem dX4_fitsName_32 : decode cX4_fitsName 32 = .ok (.iconst 0, 1) := by decide +kernel
theorem dX4_fitsName_33 : decode cX4_fitsName 33 = .ok (.ireturn, 1) := by decide +kernel
theorem dX4_fitsName_34 : decode cX4_fitsName 34 = .ok (.iinc 4 1, 3) := by decide +kernel
theorem dX4_fitsName_37 : decode cX4_fitsName 37 = .ok (.goto (-21), 3) := by decide +kernel
theorem dX4_fitsName_40 : decode cX4_fitsName 40 = .ok (.iload_n 0, 1) := by decide +kernel
theorem dX4_fitsName_41 : decode cX4_fitsName 41 = .ok (.iconst 2, 1) := by decide +kernel
theorem dX4_fitsName_42 : decode cX4_fitsName 42 = .ok (.if_icmp .eq 16, 3) := by decide +kernel
theorem dX4_fitsName_45 : decode cX4_fitsName 45 = .ok (.lload_n 1, 1) := by decide +kernel
theorem dX4_fitsName_46 : decode cX4_fitsName 46 = .ok (.iload_n 3, 1) := by decide +kernel
theorem dX4_fitsName_47 : decode cX4_fitsName 47 = .ok (.iload_n 3, 1) := by decide +kernel
theorem dX4_fitsName_48 : decode cX4_fitsName 48 = .ok (.iconst 1, 1) := by decide +kernel
theorem dX4_fitsName_49 : decode cX4_fitsName 49 = .ok (.isub, 1) := by decide +kernel
theorem dX4_fitsName_50 : decode cX4_fitsName 50 = .ok (.invokestatic 244, 3) := by decide +kernel
theorem dX4_fitsName_53 : decode cX4_fitsName 53 = .ok (.bipush 47, 2) := by decide +kernel
theorem dX4_fitsName_55 : decode cX4_fitsName 55 = .ok (.if_icmp .eq 7, 3) := by decide +kernel
theorem dX4_fitsName_58 : decode cX4_fitsName 58 = .ok (.iconst 1, 1) := by decide +kernel
theorem dX4_fitsName_59 : decode cX4_fitsName 59 = .ok (.goto 4, 3) := by decide +kernel
theorem dX4_fitsName_62 : decode cX4_fitsName 62 = .ok (.iconst 0, 1) := by decide +kernel
theorem dX4_fitsName_63 : decode cX4_fitsName 63 = .ok (.ireturn, 1) := by decide +kernel
theorem dX4_octetOf_0 : decode cX4_octetOf 0 = .ok (.lload_n 0, 1) := by decide +kernel
theorem dX4_octetOf_1 : decode cX4_octetOf 1 = .ok (.bipush 8, 2) := by decide +kernel
theorem dX4_octetOf_3 : decode cX4_octetOf 3 = .ok (.iload_n 2, 1) := by decide +kernel
theorem dX4_octetOf_4 : decode cX4_octetOf 4 = .ok (.iconst 1, 1) := by decide +kernel
theorem dX4_octetOf_5 : decode cX4_octetOf 5 = .ok (.isub, 1) := by decide +kernel
theorem dX4_octetOf_6 : decode cX4_octetOf 6 = .ok (.iload_n 3, 1) := by decide +kernel
theorem dX4_octetOf_7 : decode cX4_octetOf 7 = .ok (.isub, 1) := by decide +kernel
theorem dX4_octetOf_8 : decode cX4_octetOf 8 = .ok (.imul, 1) := by decide +kernel
theorem dX4_octetOf_9 : decode cX4_octetOf 9 = .ok (.lushr, 1) := by decide +kernel
theorem dX4_octetOf_10 : decode cX4_octetOf 10 = .ok (.l2i, 1) := by decide +kernel
theorem dX4_octetOf_11 : decode cX4_octetOf 11 = .ok (.sipush 255, 3) := by decide +kernel
theorem dX4_octetOf_14 : decode cX4_octetOf 14 = .ok (.iand, 1) := by decide +kernel
theorem dX4_octetOf_15 : decode cX4_octetOf 15 = .ok (.ireturn, 1) := by decide +kernel
theorem dX4_spread_0 : decode cX4_spread 0 = .ok (.iconst 0, 1) := by decide +kernel
theorem dX4_spread_1 : decode cX4_spread 1 = .ok (.istore 5, 2) := by decide +kernel
theorem dX4_spread_3 : decode cX4_spread 3 = .ok (.iload 5, 2) := by decide +kernel
theorem dX4_spread_5 : decode cX4_spread 5 = .ok (.iload_n 2, 1) := by decide +kernel
theorem dX4_spread_6 : decode cX4_spread 6 = .ok (.if_icmp .ge 34, 3) := by decide +kernel
theorem dX4_spread_9 : decode cX4_spread 9 = .ok (.iload 4, 2) := by decide +kernel
theorem dX4_spread_11 : decode cX4_spread 11 = .ok (.iload 5, 2) := by decide +kernel
theorem dX4_spread_13 : decode cX4_spread 13 = .ok (.iadd, 1) := by decide +kernel
theorem dX4_spread_14 : decode cX4_spread 14 = .ok (.aload_n 3, 1) := by decide +kernel
theorem dX4_spread_15 : decode cX4_spread 15 = .ok (.arraylength, 1) := by decide +kernel
theorem dX4_spread_16 : decode cX4_spread 16 = .ok (.if_icmp .ge 24, 3) := by decide +kernel
theorem dX4_spread_19 : decode cX4_spread 19 = .ok (.aload_n 3, 1) := by decide +kernel
theorem dX4_spread_20 : decode cX4_spread 20 = .ok (.iload 4, 2) := by decide +kernel
theorem dX4_spread_22 : decode cX4_spread 22 = .ok (.iload 5, 2) := by decide +kernel
theorem dX4_spread_24 : decode cX4_spread 24 = .ok (.iadd, 1) := by decide +kernel
theorem dX4_spread_25 : decode cX4_spread 25 = .ok (.lload_n 0, 1) := by decide +kernel
theorem dX4_spread_26 : decode cX4_spread 26 = .ok (.iload_n 2, 1) := by decide +kernel
theorem dX4_spread_27 : decode cX4_spread 27 = .ok (.iload 5, 2) := by decide +kernel
theorem dX4_spread_29 : decode cX4_spread 29 = .ok (.invokestatic 244, 3) := by decide +kernel
theorem dX4_spread_32 : decode cX4_spread 32 = .ok (.i2b, 1) := by decide +kernel
theorem dX4_spread_33 : decode cX4_spread 33 = .ok (.bastore, 1) := by decide +kernel
theorem dX4_spread_34 : decode cX4_spread 34 = .ok (.iinc 5 1, 3) := by decide +kernel
theorem dX4_spread_37 : decode cX4_spread 37 = .ok (.goto (-34), 3) := by decide +kernel
theorem dX4_spread_40 : decode cX4_spread 40 = .ok (.return_, 1) := by decide +kernel
theorem dX4_sumOf_0 : decode cX4_sumOf 0 = .ok (.iconst (-1), 1) := by decide +kernel
theorem dX4_sumOf_1 : decode cX4_sumOf 1 = .ok (.istore_n 2, 1) := by decide +kernel
theorem dX4_sumOf_2 : decode cX4_sumOf 2 = .ok (.iconst 0, 1) := by decide +kernel
theorem dX4_sumOf_3 : decode cX4_sumOf 3 = .ok (.istore_n 3, 1) := by decide +kernel
theorem dX4_sumOf_4 : decode cX4_sumOf 4 = .ok (.iload_n 3, 1) := by decide +kernel
theorem dX4_sumOf_5 : decode cX4_sumOf 5 = .ok (.iload_n 1, 1) := by decide +kernel
theorem dX4_sumOf_6 : decode cX4_sumOf 6 = .ok (.if_icmp .ge 60, 3) := by decide +kernel
theorem dX4_sumOf_9 : decode cX4_sumOf 9 = .ok (.iload_n 3, 1) := by decide +kernel
theorem dX4_sumOf_10 : decode cX4_sumOf 10 = .ok (.aload_n 0, 1) := by decide +kernel
theorem dX4_sumOf_11 : decode cX4_sumOf 11 = .ok (.arraylength, 1) := by decide +kernel
theorem dX4_sumOf_12 : decode cX4_sumOf 12 = .ok (.if_icmp .ge 54, 3) := by decide +kernel
theorem dX4_sumOf_15 : decode cX4_sumOf 15 = .ok (.iload_n 2, 1) := by decide +kernel
theorem dX4_sumOf_16 : decode cX4_sumOf 16 = .ok (.aload_n 0, 1) := by decide +kernel
theorem dX4_sumOf_17 : decode cX4_sumOf 17 = .ok (.iload_n 3, 1) := by decide +kernel
theorem dX4_sumOf_18 : decode cX4_sumOf 18 = .ok (.baload, 1) := by decide +kernel
theorem dX4_sumOf_19 : decode cX4_sumOf 19 = .ok (.sipush 255, 3) := by decide +kernel
theorem dX4_sumOf_22 : decode cX4_sumOf 22 = .ok (.iand, 1) := by decide +kernel
theorem dX4_sumOf_23 : decode cX4_sumOf 23 = .ok (.ixor, 1) := by decide +kernel
theorem dX4_sumOf_24 : decode cX4_sumOf 24 = .ok (.istore_n 2, 1) := by decide +kernel
theorem dX4_sumOf_25 : decode cX4_sumOf 25 = .ok (.iconst 0, 1) := by decide +kernel
theorem dX4_sumOf_26 : decode cX4_sumOf 26 = .ok (.istore 4, 2) := by decide +kernel
theorem dX4_sumOf_28 : decode cX4_sumOf 28 = .ok (.iload 4, 2) := by decide +kernel
theorem dX4_sumOf_30 : decode cX4_sumOf 30 = .ok (.bipush 8, 2) := by decide +kernel
theorem dX4_sumOf_32 : decode cX4_sumOf 32 = .ok (.if_icmp .ge 28, 3) := by decide +kernel
theorem dX4_sumOf_35 : decode cX4_sumOf 35 = .ok (.iload_n 2, 1) := by decide +kernel
theorem dX4_sumOf_36 : decode cX4_sumOf 36 = .ok (.iconst 1, 1) := by decide +kernel
theorem dX4_sumOf_37 : decode cX4_sumOf 37 = .ok (.iand, 1) := by decide +kernel
theorem dX4_sumOf_38 : decode cX4_sumOf 38 = .ok (.ifCond .ne 9, 3) := by decide +kernel
theorem dX4_sumOf_41 : decode cX4_sumOf 41 = .ok (.iload_n 2, 1) := by decide +kernel
theorem dX4_sumOf_42 : decode cX4_sumOf 42 = .ok (.iconst 1, 1) := by decide +kernel
theorem dX4_sumOf_43 : decode cX4_sumOf 43 = .ok (.iushr, 1) := by decide +kernel
theorem dX4_sumOf_44 : decode cX4_sumOf 44 = .ok (.goto 9, 3) := by decide +kernel
theorem dX4_sumOf_47 : decode cX4_sumOf 47 = .ok (.iload_n 2, 1) := by decide +kernel
theorem dX4_sumOf_48 : decode cX4_sumOf 48 = .ok (.iconst 1, 1) := by decide +kernel
theorem dX4_sumOf_49 : decode cX4_sumOf 49 = .ok (.iushr, 1) := by decide +kernel
theorem dX4_sumOf_50 : decode cX4_sumOf 50 = .ok (.ldc 248, 2) := by decide +kernel
theorem dX4_sumOf_52 : decode cX4_sumOf 52 = .ok (.ixor, 1) := by decide +kernel
theorem dX4_sumOf_53 : decode cX4_sumOf 53 = .ok (.istore_n 2, 1) := by decide +kernel
theorem dX4_sumOf_54 : decode cX4_sumOf 54 = .ok (.iinc 4 1, 3) := by decide +kernel
theorem dX4_sumOf_57 : decode cX4_sumOf 57 = .ok (.goto (-29), 3) := by decide +kernel
theorem dX4_sumOf_60 : decode cX4_sumOf 60 = .ok (.iinc 3 1, 3) := by decide +kernel
theorem dX4_sumOf_63 : decode cX4_sumOf 63 = .ok (.goto (-59), 3) := by decide +kernel
theorem dX4_sumOf_66 : decode cX4_sumOf 66 = .ok (.iload_n 2, 1) := by decide +kernel
theorem dX4_sumOf_67 : decode cX4_sumOf 67 = .ok (.iconst (-1), 1) := by decide +kernel
theorem dX4_sumOf_68 : decode cX4_sumOf 68 = .ok (.ixor, 1) := by decide +kernel
theorem dX4_sumOf_69 : decode cX4_sumOf 69 = .ok (.ireturn, 1) := by decide +kernel
theorem dL_law_0 : decode cL_law 0 = .ok (.new 7, 3) := by decide +kernel
theorem dL_law_3 : decode cL_law 3 = .ok (.dup, 1) := by decide +kernel
theorem dL_law_4 : decode cL_law 4 = .ok (.invokespecial 9, 3) := by decide +kernel
theorem dL_law_7 : decode cL_law 7 = .ok (.astore_n 1, 1) := by decide +kernel
theorem dL_law_8 : decode cL_law 8 = .ok (.new 10, 3) := by decide +kernel
theorem dL_law_11 : decode cL_law 11 = .ok (.dup, 1) := by decide +kernel
theorem dL_law_12 : decode cL_law 12 = .ok (.invokespecial 12, 3) := by decide +kernel
theorem dL_law_15 : decode cL_law 15 = .ok (.astore_n 2, 1) := by decide +kernel
theorem dL_law_16 : decode cL_law 16 = .ok (.iconst 0, 1) := by decide +kernel
theorem dL_law_17 : decode cL_law 17 = .ok (.istore_n 3, 1) := by decide +kernel
theorem dL_law_18 : decode cL_law 18 = .ok (.iload_n 3, 1) := by decide +kernel
theorem dL_law_19 : decode cL_law 19 = .ok (.aload_n 0, 1) := by decide +kernel
theorem dL_law_20 : decode cL_law 20 = .ok (.arraylength, 1) := by decide +kernel
theorem dL_law_21 : decode cL_law 21 = .ok (.bipush 6, 2) := by decide +kernel
theorem dL_law_23 : decode cL_law 23 = .ok (.isub, 1) := by decide +kernel
theorem dL_law_24 : decode cL_law 24 = .ok (.if_icmp .gt 1171, 3) := by decide +kernel
theorem dL_law_27 : decode cL_law 27 = .ok (.aload_n 0, 1) := by decide +kernel
theorem dL_law_28 : decode cL_law 28 = .ok (.iload_n 3, 1) := by decide +kernel
theorem dL_law_29 : decode cL_law 29 = .ok (.iaload, 1) := by decide +kernel
theorem dL_law_30 : decode cL_law 30 = .ok (.bipush 31, 2) := by decide +kernel
theorem dL_law_32 : decode cL_law 32 = .ok (.iand, 1) := by decide +kernel
theorem dL_law_33 : decode cL_law 33 = .ok (.tableswitch 1156 0 26 #[123, 206, 279, 352, 395, 478, 541, 574, 587, 650, 663, 686, 699, 712, 775, 798, 831, 854, 877, 901, 934, 967, 1000, 1034, 1087, 1110, 1133], 123) := by decide +kernel
theorem dL_law_156 : decode cL_law 156 = .ok (.aload_n 1, 1) := by decide +kernel
theorem dL_law_157 : decode cL_law 157 = .ok (.aload_n 0, 1) := by decide +kernel
theorem dL_law_158 : decode cL_law 158 = .ok (.iload_n 3, 1) := by decide +kernel
theorem dL_law_159 : decode cL_law 159 = .ok (.iconst 1, 1) := by decide +kernel
theorem dL_law_160 : decode cL_law 160 = .ok (.iadd, 1) := by decide +kernel
theorem dL_law_161 : decode cL_law 161 = .ok (.iaload, 1) := by decide +kernel
theorem dL_law_162 : decode cL_law 162 = .ok (.aload_n 0, 1) := by decide +kernel
theorem dL_law_163 : decode cL_law 163 = .ok (.iload_n 3, 1) := by decide +kernel
theorem dL_law_164 : decode cL_law 164 = .ok (.iconst 2, 1) := by decide +kernel
theorem dL_law_165 : decode cL_law 165 = .ok (.iadd, 1) := by decide +kernel
theorem dL_law_166 : decode cL_law 166 = .ok (.iaload, 1) := by decide +kernel
theorem dL_law_167 : decode cL_law 167 = .ok (.aload_n 0, 1) := by decide +kernel
theorem dL_law_168 : decode cL_law 168 = .ok (.iload_n 3, 1) := by decide +kernel
theorem dL_law_169 : decode cL_law 169 = .ok (.iconst 3, 1) := by decide +kernel
theorem dL_law_170 : decode cL_law 170 = .ok (.iadd, 1) := by decide +kernel
theorem dL_law_171 : decode cL_law 171 = .ok (.iaload, 1) := by decide +kernel
theorem dL_law_172 : decode cL_law 172 = .ok (.i2l, 1) := by decide +kernel
theorem dL_law_173 : decode cL_law 173 = .ok (.bipush 32, 2) := by decide +kernel
theorem dL_law_175 : decode cL_law 175 = .ok (.lshl, 1) := by decide +kernel
theorem dL_law_176 : decode cL_law 176 = .ok (.aload_n 0, 1) := by decide +kernel
theorem dL_law_177 : decode cL_law 177 = .ok (.iload_n 3, 1) := by decide +kernel
theorem dL_law_178 : decode cL_law 178 = .ok (.iconst 4, 1) := by decide +kernel
theorem dL_law_179 : decode cL_law 179 = .ok (.iadd, 1) := by decide +kernel
theorem dL_law_180 : decode cL_law 180 = .ok (.iaload, 1) := by decide +kernel
theorem dL_law_181 : decode cL_law 181 = .ok (.i2l, 1) := by decide +kernel
theorem dL_law_182 : decode cL_law 182 = .ok (.ldc2_w 13, 3) := by decide +kernel
theorem dL_law_185 : decode cL_law 185 = .ok (.land, 1) := by decide +kernel
theorem dL_law_186 : decode cL_law 186 = .ok (.lor, 1) := by decide +kernel
theorem dL_law_187 : decode cL_law 187 = .ok (.aload_n 0, 1) := by decide +kernel
theorem dL_law_188 : decode cL_law 188 = .ok (.iload_n 3, 1) := by decide +kernel
theorem dL_law_189 : decode cL_law 189 = .ok (.iconst 5, 1) := by decide +kernel
theorem dL_law_190 : decode cL_law 190 = .ok (.iadd, 1) := by decide +kernel
theorem dL_law_191 : decode cL_law 191 = .ok (.iaload, 1) := by decide +kernel
theorem dL_law_192 : decode cL_law 192 = .ok (.invokevirtual 15, 3) := by decide +kernel
theorem dL_law_195 : decode cL_law 195 = .ok (.aload_n 2, 1) := by decide +kernel
theorem dL_law_196 : decode cL_law 196 = .ok (.aload_n 0, 1) := by decide +kernel
theorem dL_law_197 : decode cL_law 197 = .ok (.iload_n 3, 1) := by decide +kernel
theorem dL_law_198 : decode cL_law 198 = .ok (.iconst 1, 1) := by decide +kernel
theorem dL_law_199 : decode cL_law 199 = .ok (.iadd, 1) := by decide +kernel
theorem dL_law_200 : decode cL_law 200 = .ok (.iaload, 1) := by decide +kernel
theorem dL_law_201 : decode cL_law 201 = .ok (.aload_n 0, 1) := by decide +kernel
theorem dL_law_202 : decode cL_law 202 = .ok (.iload_n 3, 1) := by decide +kernel
theorem dL_law_203 : decode cL_law 203 = .ok (.iconst 2, 1) := by decide +kernel
theorem dL_law_204 : decode cL_law 204 = .ok (.iadd, 1) := by decide +kernel
theorem dL_law_205 : decode cL_law 205 = .ok (.iaload, 1) := by decide +kernel
theorem dL_law_206 : decode cL_law 206 = .ok (.aload_n 0, 1) := by decide +kernel
theorem dL_law_207 : decode cL_law 207 = .ok (.iload_n 3, 1) := by decide +kernel
theorem dL_law_208 : decode cL_law 208 = .ok (.iconst 3, 1) := by decide +kernel
theorem dL_law_209 : decode cL_law 209 = .ok (.iadd, 1) := by decide +kernel
theorem dL_law_210 : decode cL_law 210 = .ok (.iaload, 1) := by decide +kernel
theorem dL_law_211 : decode cL_law 211 = .ok (.i2l, 1) := by decide +kernel
theorem dL_law_212 : decode cL_law 212 = .ok (.bipush 32, 2) := by decide +kernel
theorem dL_law_214 : decode cL_law 214 = .ok (.lshl, 1) := by decide +kernel
theorem dL_law_215 : decode cL_law 215 = .ok (.aload_n 0, 1) := by decide +kernel
theorem dL_law_216 : decode cL_law 216 = .ok (.iload_n 3, 1) := by decide +kernel
theorem dL_law_217 : decode cL_law 217 = .ok (.iconst 4, 1) := by decide +kernel
theorem dL_law_218 : decode cL_law 218 = .ok (.iadd, 1) := by decide +kernel
theorem dL_law_219 : decode cL_law 219 = .ok (.iaload, 1) := by decide +kernel
theorem dL_law_220 : decode cL_law 220 = .ok (.i2l, 1) := by decide +kernel
theorem dL_law_221 : decode cL_law 221 = .ok (.ldc2_w 13, 3) := by decide +kernel
theorem dL_law_224 : decode cL_law 224 = .ok (.land, 1) := by decide +kernel
theorem dL_law_225 : decode cL_law 225 = .ok (.lor, 1) := by decide +kernel
theorem dL_law_226 : decode cL_law 226 = .ok (.aload_n 0, 1) := by decide +kernel
theorem dL_law_227 : decode cL_law 227 = .ok (.iload_n 3, 1) := by decide +kernel
theorem dL_law_228 : decode cL_law 228 = .ok (.iconst 5, 1) := by decide +kernel
theorem dL_law_229 : decode cL_law 229 = .ok (.iadd, 1) := by decide +kernel
theorem dL_law_230 : decode cL_law 230 = .ok (.iaload, 1) := by decide +kernel
theorem dL_law_231 : decode cL_law 231 = .ok (.invokevirtual 19, 3) := by decide +kernel
theorem dL_law_234 : decode cL_law 234 = .ok (.if_icmp .eq 955, 3) := by decide +kernel
theorem dL_law_237 : decode cL_law 237 = .ok (.iconst 0, 1) := by decide +kernel
theorem dL_law_238 : decode cL_law 238 = .ok (.ireturn, 1) := by decide +kernel
theorem dL_law_239 : decode cL_law 239 = .ok (.aload_n 1, 1) := by decide +kernel
theorem dL_law_240 : decode cL_law 240 = .ok (.aload_n 0, 1) := by decide +kernel
theorem dL_law_241 : decode cL_law 241 = .ok (.iload_n 3, 1) := by decide +kernel
theorem dL_law_242 : decode cL_law 242 = .ok (.iconst 1, 1) := by decide +kernel
theorem dL_law_243 : decode cL_law 243 = .ok (.iadd, 1) := by decide +kernel
theorem dL_law_244 : decode cL_law 244 = .ok (.iaload, 1) := by decide +kernel
theorem dL_law_245 : decode cL_law 245 = .ok (.aload_n 0, 1) := by decide +kernel
theorem dL_law_246 : decode cL_law 246 = .ok (.iload_n 3, 1) := by decide +kernel
theorem dL_law_247 : decode cL_law 247 = .ok (.iconst 2, 1) := by decide +kernel
theorem dL_law_248 : decode cL_law 248 = .ok (.iadd, 1) := by decide +kernel
theorem dL_law_249 : decode cL_law 249 = .ok (.iaload, 1) := by decide +kernel
theorem dL_law_250 : decode cL_law 250 = .ok (.i2l, 1) := by decide +kernel
theorem dL_law_251 : decode cL_law 251 = .ok (.bipush 32, 2) := by decide +kernel
theorem dL_law_253 : decode cL_law 253 = .ok (.lshl, 1) := by decide +kernel
theorem dL_law_254 : decode cL_law 254 = .ok (.aload_n 0, 1) := by decide +kernel
theorem dL_law_255 : decode cL_law 255 = .ok (.iload_n 3, 1) := by decide +kernel
theorem dL_law_256 : decode cL_law 256 = .ok (.iconst 3, 1) := by decide +kernel
theorem dL_law_257 : decode cL_law 257 = .ok (.iadd, 1) := by decide +kernel
theorem dL_law_258 : decode cL_law 258 = .ok (.iaload, 1) := by decide +kernel
theorem dL_law_259 : decode cL_law 259 = .ok (.i2l, 1) := by decide +kernel
theorem dL_law_260 : decode cL_law 260 = .ok (.ldc2_w 13, 3) := by decide +kernel
theorem dL_law_263 : decode cL_law 263 = .ok (.land, 1) := by decide +kernel
theorem dL_law_264 : decode cL_law 264 = .ok (.lor, 1) := by decide +kernel
theorem dL_law_265 : decode cL_law 265 = .ok (.aload_n 0, 1) := by decide +kernel
theorem dL_law_266 : decode cL_law 266 = .ok (.iload_n 3, 1) := by decide +kernel
theorem dL_law_267 : decode cL_law 267 = .ok (.iconst 4, 1) := by decide +kernel
theorem dL_law_268 : decode cL_law 268 = .ok (.iadd, 1) := by decide +kernel
theorem dL_law_269 : decode cL_law 269 = .ok (.iaload, 1) := by decide +kernel
theorem dL_law_270 : decode cL_law 270 = .ok (.invokevirtual 20, 3) := by decide +kernel
theorem dL_law_273 : decode cL_law 273 = .ok (.aload_n 2, 1) := by decide +kernel
theorem dL_law_274 : decode cL_law 274 = .ok (.aload_n 0, 1) := by decide +kernel
theorem dL_law_275 : decode cL_law 275 = .ok (.iload_n 3, 1) := by decide +kernel
theorem dL_law_276 : decode cL_law 276 = .ok (.iconst 1, 1) := by decide +kernel
theorem dL_law_277 : decode cL_law 277 = .ok (.iadd, 1) := by decide +kernel
theorem dL_law_278 : decode cL_law 278 = .ok (.iaload, 1) := by decide +kernel
theorem dL_law_279 : decode cL_law 279 = .ok (.aload_n 0, 1) := by decide +kernel
theorem dL_law_280 : decode cL_law 280 = .ok (.iload_n 3, 1) := by decide +kernel
theorem dL_law_281 : decode cL_law 281 = .ok (.iconst 2, 1) := by decide +kernel
theorem dL_law_282 : decode cL_law 282 = .ok (.iadd, 1) := by decide +kernel
theorem dL_law_283 : decode cL_law 283 = .ok (.iaload, 1) := by decide +kernel
theorem dL_law_284 : decode cL_law 284 = .ok (.i2l, 1) := by decide +kernel
theorem dL_law_285 : decode cL_law 285 = .ok (.bipush 32, 2) := by decide +kernel
theorem dL_law_287 : decode cL_law 287 = .ok (.lshl, 1) := by decide +kernel
theorem dL_law_288 : decode cL_law 288 = .ok (.aload_n 0, 1) := by decide +kernel
theorem dL_law_289 : decode cL_law 289 = .ok (.iload_n 3, 1) := by decide +kernel
theorem dL_law_290 : decode cL_law 290 = .ok (.iconst 3, 1) := by decide +kernel
theorem dL_law_291 : decode cL_law 291 = .ok (.iadd, 1) := by decide +kernel
theorem dL_law_292 : decode cL_law 292 = .ok (.iaload, 1) := by decide +kernel
theorem dL_law_293 : decode cL_law 293 = .ok (.i2l, 1) := by decide +kernel
theorem dL_law_294 : decode cL_law 294 = .ok (.ldc2_w 13, 3) := by decide +kernel
theorem dL_law_297 : decode cL_law 297 = .ok (.land, 1) := by decide +kernel
theorem dL_law_298 : decode cL_law 298 = .ok (.lor, 1) := by decide +kernel
theorem dL_law_299 : decode cL_law 299 = .ok (.aload_n 0, 1) := by decide +kernel
theorem dL_law_300 : decode cL_law 300 = .ok (.iload_n 3, 1) := by decide +kernel
theorem dL_law_301 : decode cL_law 301 = .ok (.iconst 4, 1) := by decide +kernel
theorem dL_law_302 : decode cL_law 302 = .ok (.iadd, 1) := by decide +kernel
theorem dL_law_303 : decode cL_law 303 = .ok (.iaload, 1) := by decide +kernel
theorem dL_law_304 : decode cL_law 304 = .ok (.invokevirtual 24, 3) := by decide +kernel
theorem dL_law_307 : decode cL_law 307 = .ok (.if_icmp .eq 882, 3) := by decide +kernel
theorem dL_law_310 : decode cL_law 310 = .ok (.iconst 0, 1) := by decide +kernel
theorem dL_law_311 : decode cL_law 311 = .ok (.ireturn, 1) := by decide +kernel
theorem dL_law_312 : decode cL_law 312 = .ok (.aload_n 1, 1) := by decide +kernel
theorem dL_law_313 : decode cL_law 313 = .ok (.aload_n 0, 1) := by decide +kernel
theorem dL_law_314 : decode cL_law 314 = .ok (.iload_n 3, 1) := by decide +kernel
theorem dL_law_315 : decode cL_law 315 = .ok (.iconst 1, 1) := by decide +kernel
theorem dL_law_316 : decode cL_law 316 = .ok (.iadd, 1) := by decide +kernel
theorem dL_law_317 : decode cL_law 317 = .ok (.iaload, 1) := by decide +kernel
theorem dL_law_318 : decode cL_law 318 = .ok (.aload_n 0, 1) := by decide +kernel
theorem dL_law_319 : decode cL_law 319 = .ok (.iload_n 3, 1) := by decide +kernel
theorem dL_law_320 : decode cL_law 320 = .ok (.iconst 2, 1) := by decide +kernel
theorem dL_law_321 : decode cL_law 321 = .ok (.iadd, 1) := by decide +kernel
theorem dL_law_322 : decode cL_law 322 = .ok (.iaload, 1) := by decide +kernel
theorem dL_law_323 : decode cL_law 323 = .ok (.i2l, 1) := by decide +kernel
theorem dL_law_324 : decode cL_law 324 = .ok (.bipush 32, 2) := by decide +kernel
theorem dL_law_326 : decode cL_law 326 = .ok (.lshl, 1) := by decide +kernel
theorem dL_law_327 : decode cL_law 327 = .ok (.aload_n 0, 1) := by decide +kernel
theorem dL_law_328 : decode cL_law 328 = .ok (.iload_n 3, 1) := by decide +kernel
theorem dL_law_329 : decode cL_law 329 = .ok (.iconst 3, 1) := by decide +kernel
theorem dL_law_330 : decode cL_law 330 = .ok (.iadd, 1) := by decide +kernel
theorem dL_law_331 : decode cL_law 331 = .ok (.iaload, 1) := by decide +kernel
theorem dL_law_332 : decode cL_law 332 = .ok (.i2l, 1) := by decide +kernel
theorem dL_law_333 : decode cL_law 333 = .ok (.ldc2_w 13, 3) := by decide +kernel
theorem dL_law_336 : decode cL_law 336 = .ok (.land, 1) := by decide +kernel
theorem dL_law_337 : decode cL_law 337 = .ok (.lor, 1) := by decide +kernel
theorem dL_law_338 : decode cL_law 338 = .ok (.aload_n 0, 1) := by decide +kernel
theorem dL_law_339 : decode cL_law 339 = .ok (.iload_n 3, 1) := by decide +kernel
theorem dL_law_340 : decode cL_law 340 = .ok (.iconst 4, 1) := by decide +kernel
theorem dL_law_341 : decode cL_law 341 = .ok (.iadd, 1) := by decide +kernel
theorem dL_law_342 : decode cL_law 342 = .ok (.iaload, 1) := by decide +kernel
theorem dL_law_343 : decode cL_law 343 = .ok (.invokevirtual 25, 3) := by decide +kernel
theorem dL_law_346 : decode cL_law 346 = .ok (.aload_n 2, 1) := by decide +kernel
theorem dL_law_347 : decode cL_law 347 = .ok (.aload_n 0, 1) := by decide +kernel
theorem dL_law_348 : decode cL_law 348 = .ok (.iload_n 3, 1) := by decide +kernel
theorem dL_law_349 : decode cL_law 349 = .ok (.iconst 1, 1) := by decide +kernel
theorem dL_law_350 : decode cL_law 350 = .ok (.iadd, 1) := by decide +kernel
theorem dL_law_351 : decode cL_law 351 = .ok (.iaload, 1) := by decide +kernel
theorem dL_law_352 : decode cL_law 352 = .ok (.aload_n 0, 1) := by decide +kernel
theorem dL_law_353 : decode cL_law 353 = .ok (.iload_n 3, 1) := by decide +kernel
theorem dL_law_354 : decode cL_law 354 = .ok (.iconst 2, 1) := by decide +kernel
theorem dL_law_355 : decode cL_law 355 = .ok (.iadd, 1) := by decide +kernel
theorem dL_law_356 : decode cL_law 356 = .ok (.iaload, 1) := by decide +kernel
theorem dL_law_357 : decode cL_law 357 = .ok (.i2l, 1) := by decide +kernel
theorem dL_law_358 : decode cL_law 358 = .ok (.bipush 32, 2) := by decide +kernel
theorem dL_law_360 : decode cL_law 360 = .ok (.lshl, 1) := by decide +kernel
theorem dL_law_361 : decode cL_law 361 = .ok (.aload_n 0, 1) := by decide +kernel
theorem dL_law_362 : decode cL_law 362 = .ok (.iload_n 3, 1) := by decide +kernel
theorem dL_law_363 : decode cL_law 363 = .ok (.iconst 3, 1) := by decide +kernel
theorem dL_law_364 : decode cL_law 364 = .ok (.iadd, 1) := by decide +kernel
theorem dL_law_365 : decode cL_law 365 = .ok (.iaload, 1) := by decide +kernel
theorem dL_law_366 : decode cL_law 366 = .ok (.i2l, 1) := by decide +kernel
theorem dL_law_367 : decode cL_law 367 = .ok (.ldc2_w 13, 3) := by decide +kernel
theorem dL_law_370 : decode cL_law 370 = .ok (.land, 1) := by decide +kernel
theorem dL_law_371 : decode cL_law 371 = .ok (.lor, 1) := by decide +kernel
theorem dL_law_372 : decode cL_law 372 = .ok (.aload_n 0, 1) := by decide +kernel
theorem dL_law_373 : decode cL_law 373 = .ok (.iload_n 3, 1) := by decide +kernel
theorem dL_law_374 : decode cL_law 374 = .ok (.iconst 4, 1) := by decide +kernel
theorem dL_law_375 : decode cL_law 375 = .ok (.iadd, 1) := by decide +kernel
theorem dL_law_376 : decode cL_law 376 = .ok (.iaload, 1) := by decide +kernel
theorem dL_law_377 : decode cL_law 377 = .ok (.invokevirtual 28, 3) := by decide +kernel
theorem dL_law_380 : decode cL_law 380 = .ok (.if_icmp .eq 809, 3) := by decide +kernel
theorem dL_law_383 : decode cL_law 383 = .ok (.iconst 0, 1) := by decide +kernel
theorem dL_law_384 : decode cL_law 384 = .ok (.ireturn, 1) := by decide +kernel
theorem dL_law_385 : decode cL_law 385 = .ok (.aload_n 1, 1) := by decide +kernel
theorem dL_law_386 : decode cL_law 386 = .ok (.aload_n 0, 1) := by decide +kernel
theorem dL_law_387 : decode cL_law 387 = .ok (.iload_n 3, 1) := by decide +kernel
theorem dL_law_388 : decode cL_law 388 = .ok (.iconst 1, 1) := by decide +kernel
theorem dL_law_389 : decode cL_law 389 = .ok (.iadd, 1) := by decide +kernel
theorem dL_law_390 : decode cL_law 390 = .ok (.iaload, 1) := by decide +kernel
theorem dL_law_391 : decode cL_law 391 = .ok (.aload_n 0, 1) := by decide +kernel
theorem dL_law_392 : decode cL_law 392 = .ok (.iload_n 3, 1) := by decide +kernel
theorem dL_law_393 : decode cL_law 393 = .ok (.iconst 2, 1) := by decide +kernel
theorem dL_law_394 : decode cL_law 394 = .ok (.iadd, 1) := by decide +kernel
theorem dL_law_395 : decode cL_law 395 = .ok (.iaload, 1) := by decide +kernel
theorem dL_law_396 : decode cL_law 396 = .ok (.aload_n 0, 1) := by decide +kernel
theorem dL_law_397 : decode cL_law 397 = .ok (.iload_n 3, 1) := by decide +kernel
theorem dL_law_398 : decode cL_law 398 = .ok (.iconst 3, 1) := by decide +kernel
theorem dL_law_399 : decode cL_law 399 = .ok (.iadd, 1) := by decide +kernel
theorem dL_law_400 : decode cL_law 400 = .ok (.iaload, 1) := by decide +kernel
theorem dL_law_401 : decode cL_law 401 = .ok (.invokevirtual 29, 3) := by decide +kernel
theorem dL_law_404 : decode cL_law 404 = .ok (.aload_n 2, 1) := by decide +kernel
theorem dL_law_405 : decode cL_law 405 = .ok (.aload_n 0, 1) := by decide +kernel
theorem dL_law_406 : decode cL_law 406 = .ok (.iload_n 3, 1) := by decide +kernel
theorem dL_law_407 : decode cL_law 407 = .ok (.iconst 1, 1) := by decide +kernel
theorem dL_law_408 : decode cL_law 408 = .ok (.iadd, 1) := by decide +kernel
theorem dL_law_409 : decode cL_law 409 = .ok (.iaload, 1) := by decide +kernel
theorem dL_law_410 : decode cL_law 410 = .ok (.aload_n 0, 1) := by decide +kernel
theorem dL_law_411 : decode cL_law 411 = .ok (.iload_n 3, 1) := by decide +kernel
theorem dL_law_412 : decode cL_law 412 = .ok (.iconst 2, 1) := by decide +kernel
theorem dL_law_413 : decode cL_law 413 = .ok (.iadd, 1) := by decide +kernel
theorem dL_law_414 : decode cL_law 414 = .ok (.iaload, 1) := by decide +kernel
theorem dL_law_415 : decode cL_law 415 = .ok (.aload_n 0, 1) := by decide +kernel
theorem dL_law_416 : decode cL_law 416 = .ok (.iload_n 3, 1) := by decide +kernel
theorem dL_law_417 : decode cL_law 417 = .ok (.iconst 3, 1) := by decide +kernel
theorem dL_law_418 : decode cL_law 418 = .ok (.iadd, 1) := by decide +kernel
theorem dL_law_419 : decode cL_law 419 = .ok (.iaload, 1) := by decide +kernel
theorem dL_law_420 : decode cL_law 420 = .ok (.invokevirtual 33, 3) := by decide +kernel
theorem dL_law_423 : decode cL_law 423 = .ok (.if_icmp .eq 766, 3) := by decide +kernel
theorem dL_law_426 : decode cL_law 426 = .ok (.iconst 0, 1) := by decide +kernel
theorem dL_law_427 : decode cL_law 427 = .ok (.ireturn, 1) := by decide +kernel
theorem dL_law_428 : decode cL_law 428 = .ok (.aload_n 1, 1) := by decide +kernel
theorem dL_law_429 : decode cL_law 429 = .ok (.aload_n 0, 1) := by decide +kernel
theorem dL_law_430 : decode cL_law 430 = .ok (.iload_n 3, 1) := by decide +kernel
theorem dL_law_431 : decode cL_law 431 = .ok (.iconst 1, 1) := by decide +kernel
theorem dL_law_432 : decode cL_law 432 = .ok (.iadd, 1) := by decide +kernel
theorem dL_law_433 : decode cL_law 433 = .ok (.iaload, 1) := by decide +kernel
theorem dL_law_434 : decode cL_law 434 = .ok (.aload_n 0, 1) := by decide +kernel
theorem dL_law_435 : decode cL_law 435 = .ok (.iload_n 3, 1) := by decide +kernel
theorem dL_law_436 : decode cL_law 436 = .ok (.iconst 2, 1) := by decide +kernel
theorem dL_law_437 : decode cL_law 437 = .ok (.iadd, 1) := by decide +kernel
theorem dL_law_438 : decode cL_law 438 = .ok (.iaload, 1) := by decide +kernel
theorem dL_law_439 : decode cL_law 439 = .ok (.aload_n 0, 1) := by decide +kernel
theorem dL_law_440 : decode cL_law 440 = .ok (.iload_n 3, 1) := by decide +kernel
theorem dL_law_441 : decode cL_law 441 = .ok (.iconst 3, 1) := by decide +kernel
theorem dL_law_442 : decode cL_law 442 = .ok (.iadd, 1) := by decide +kernel
theorem dL_law_443 : decode cL_law 443 = .ok (.iaload, 1) := by decide +kernel
theorem dL_law_444 : decode cL_law 444 = .ok (.i2l, 1) := by decide +kernel
theorem dL_law_445 : decode cL_law 445 = .ok (.bipush 32, 2) := by decide +kernel
theorem dL_law_447 : decode cL_law 447 = .ok (.lshl, 1) := by decide +kernel
theorem dL_law_448 : decode cL_law 448 = .ok (.aload_n 0, 1) := by decide +kernel
theorem dL_law_449 : decode cL_law 449 = .ok (.iload_n 3, 1) := by decide +kernel
theorem dL_law_450 : decode cL_law 450 = .ok (.iconst 4, 1) := by decide +kernel
theorem dL_law_451 : decode cL_law 451 = .ok (.iadd, 1) := by decide +kernel
theorem dL_law_452 : decode cL_law 452 = .ok (.iaload, 1) := by decide +kernel
theorem dL_law_453 : decode cL_law 453 = .ok (.i2l, 1) := by decide +kernel
theorem dL_law_454 : decode cL_law 454 = .ok (.ldc2_w 13, 3) := by decide +kernel
theorem dL_law_457 : decode cL_law 457 = .ok (.land, 1) := by decide +kernel
theorem dL_law_458 : decode cL_law 458 = .ok (.lor, 1) := by decide +kernel
theorem dL_law_459 : decode cL_law 459 = .ok (.aload_n 0, 1) := by decide +kernel
theorem dL_law_460 : decode cL_law 460 = .ok (.iload_n 3, 1) := by decide +kernel
theorem dL_law_461 : decode cL_law 461 = .ok (.iconst 5, 1) := by decide +kernel
theorem dL_law_462 : decode cL_law 462 = .ok (.iadd, 1) := by decide +kernel
theorem dL_law_463 : decode cL_law 463 = .ok (.iaload, 1) := by decide +kernel
theorem dL_law_464 : decode cL_law 464 = .ok (.invokevirtual 34, 3) := by decide +kernel
theorem dL_law_467 : decode cL_law 467 = .ok (.aload_n 2, 1) := by decide +kernel
theorem dL_law_468 : decode cL_law 468 = .ok (.aload_n 0, 1) := by decide +kernel
theorem dL_law_469 : decode cL_law 469 = .ok (.iload_n 3, 1) := by decide +kernel
theorem dL_law_470 : decode cL_law 470 = .ok (.iconst 1, 1) := by decide +kernel
theorem dL_law_471 : decode cL_law 471 = .ok (.iadd, 1) := by decide +kernel
theorem dL_law_472 : decode cL_law 472 = .ok (.iaload, 1) := by decide +kernel
theorem dL_law_473 : decode cL_law 473 = .ok (.aload_n 0, 1) := by decide +kernel
theorem dL_law_474 : decode cL_law 474 = .ok (.iload_n 3, 1) := by decide +kernel
theorem dL_law_475 : decode cL_law 475 = .ok (.iconst 2, 1) := by decide +kernel
theorem dL_law_476 : decode cL_law 476 = .ok (.iadd, 1) := by decide +kernel
theorem dL_law_477 : decode cL_law 477 = .ok (.iaload, 1) := by decide +kernel
theorem dL_law_478 : decode cL_law 478 = .ok (.aload_n 0, 1) := by decide +kernel
theorem dL_law_479 : decode cL_law 479 = .ok (.iload_n 3, 1) := by decide +kernel
theorem dL_law_480 : decode cL_law 480 = .ok (.iconst 3, 1) := by decide +kernel
theorem dL_law_481 : decode cL_law 481 = .ok (.iadd, 1) := by decide +kernel
theorem dL_law_482 : decode cL_law 482 = .ok (.iaload, 1) := by decide +kernel
theorem dL_law_483 : decode cL_law 483 = .ok (.i2l, 1) := by decide +kernel
theorem dL_law_484 : decode cL_law 484 = .ok (.bipush 32, 2) := by decide +kernel
theorem dL_law_486 : decode cL_law 486 = .ok (.lshl, 1) := by decide +kernel
theorem dL_law_487 : decode cL_law 487 = .ok (.aload_n 0, 1) := by decide +kernel
theorem dL_law_488 : decode cL_law 488 = .ok (.iload_n 3, 1) := by decide +kernel
theorem dL_law_489 : decode cL_law 489 = .ok (.iconst 4, 1) := by decide +kernel
theorem dL_law_490 : decode cL_law 490 = .ok (.iadd, 1) := by decide +kernel
theorem dL_law_491 : decode cL_law 491 = .ok (.iaload, 1) := by decide +kernel
theorem dL_law_492 : decode cL_law 492 = .ok (.i2l, 1) := by decide +kernel
theorem dL_law_493 : decode cL_law 493 = .ok (.ldc2_w 13, 3) := by decide +kernel
theorem dL_law_496 : decode cL_law 496 = .ok (.land, 1) := by decide +kernel
theorem dL_law_497 : decode cL_law 497 = .ok (.lor, 1) := by decide +kernel
theorem dL_law_498 : decode cL_law 498 = .ok (.aload_n 0, 1) := by decide +kernel
theorem dL_law_499 : decode cL_law 499 = .ok (.iload_n 3, 1) := by decide +kernel
theorem dL_law_500 : decode cL_law 500 = .ok (.iconst 5, 1) := by decide +kernel
theorem dL_law_501 : decode cL_law 501 = .ok (.iadd, 1) := by decide +kernel
theorem dL_law_502 : decode cL_law 502 = .ok (.iaload, 1) := by decide +kernel
theorem dL_law_503 : decode cL_law 503 = .ok (.invokevirtual 37, 3) := by decide +kernel
theorem dL_law_506 : decode cL_law 506 = .ok (.if_icmp .eq 683, 3) := by decide +kernel
theorem dL_law_509 : decode cL_law 509 = .ok (.iconst 0, 1) := by decide +kernel
theorem dL_law_510 : decode cL_law 510 = .ok (.ireturn, 1) := by decide +kernel
theorem dL_law_511 : decode cL_law 511 = .ok (.aload_n 1, 1) := by decide +kernel
theorem dL_law_512 : decode cL_law 512 = .ok (.aload_n 0, 1) := by decide +kernel
theorem dL_law_513 : decode cL_law 513 = .ok (.iload_n 3, 1) := by decide +kernel
theorem dL_law_514 : decode cL_law 514 = .ok (.iconst 1, 1) := by decide +kernel
theorem dL_law_515 : decode cL_law 515 = .ok (.iadd, 1) := by decide +kernel
theorem dL_law_516 : decode cL_law 516 = .ok (.iaload, 1) := by decide +kernel
theorem dL_law_517 : decode cL_law 517 = .ok (.aload_n 0, 1) := by decide +kernel
theorem dL_law_518 : decode cL_law 518 = .ok (.iload_n 3, 1) := by decide +kernel
theorem dL_law_519 : decode cL_law 519 = .ok (.iconst 2, 1) := by decide +kernel
theorem dL_law_520 : decode cL_law 520 = .ok (.iadd, 1) := by decide +kernel
theorem dL_law_521 : decode cL_law 521 = .ok (.iaload, 1) := by decide +kernel
theorem dL_law_522 : decode cL_law 522 = .ok (.aload_n 0, 1) := by decide +kernel
theorem dL_law_523 : decode cL_law 523 = .ok (.iload_n 3, 1) := by decide +kernel
theorem dL_law_524 : decode cL_law 524 = .ok (.iconst 3, 1) := by decide +kernel
theorem dL_law_525 : decode cL_law 525 = .ok (.iadd, 1) := by decide +kernel
theorem dL_law_526 : decode cL_law 526 = .ok (.iaload, 1) := by decide +kernel
theorem dL_law_527 : decode cL_law 527 = .ok (.aload_n 0, 1) := by decide +kernel
theorem dL_law_528 : decode cL_law 528 = .ok (.iload_n 3, 1) := by decide +kernel
theorem dL_law_529 : decode cL_law 529 = .ok (.iconst 4, 1) := by decide +kernel
theorem dL_law_530 : decode cL_law 530 = .ok (.iadd, 1) := by decide +kernel
theorem dL_law_531 : decode cL_law 531 = .ok (.iaload, 1) := by decide +kernel
theorem dL_law_532 : decode cL_law 532 = .ok (.aload_n 0, 1) := by decide +kernel
theorem dL_law_533 : decode cL_law 533 = .ok (.iload_n 3, 1) := by decide +kernel
theorem dL_law_534 : decode cL_law 534 = .ok (.iconst 5, 1) := by decide +kernel
theorem dL_law_535 : decode cL_law 535 = .ok (.iadd, 1) := by decide +kernel
theorem dL_law_536 : decode cL_law 536 = .ok (.iaload, 1) := by decide +kernel
theorem dL_law_537 : decode cL_law 537 = .ok (.invokevirtual 38, 3) := by decide +kernel
theorem dL_law_540 : decode cL_law 540 = .ok (.aload_n 2, 1) := by decide +kernel
theorem dL_law_541 : decode cL_law 541 = .ok (.aload_n 0, 1) := by decide +kernel
theorem dL_law_542 : decode cL_law 542 = .ok (.iload_n 3, 1) := by decide +kernel
theorem dL_law_543 : decode cL_law 543 = .ok (.iconst 1, 1) := by decide +kernel
theorem dL_law_544 : decode cL_law 544 = .ok (.iadd, 1) := by decide +kernel
theorem dL_law_545 : decode cL_law 545 = .ok (.iaload, 1) := by decide +kernel
theorem dL_law_546 : decode cL_law 546 = .ok (.aload_n 0, 1) := by decide +kernel
theorem dL_law_547 : decode cL_law 547 = .ok (.iload_n 3, 1) := by decide +kernel
theorem dL_law_548 : decode cL_law 548 = .ok (.iconst 2, 1) := by decide +kernel
theorem dL_law_549 : decode cL_law 549 = .ok (.iadd, 1) := by decide +kernel
theorem dL_law_550 : decode cL_law 550 = .ok (.iaload, 1) := by decide +kernel
theorem dL_law_551 : decode cL_law 551 = .ok (.aload_n 0, 1) := by decide +kernel
theorem dL_law_552 : decode cL_law 552 = .ok (.iload_n 3, 1) := by decide +kernel
theorem dL_law_553 : decode cL_law 553 = .ok (.iconst 3, 1) := by decide +kernel
theorem dL_law_554 : decode cL_law 554 = .ok (.iadd, 1) := by decide +kernel
theorem dL_law_555 : decode cL_law 555 = .ok (.iaload, 1) := by decide +kernel
theorem dL_law_556 : decode cL_law 556 = .ok (.aload_n 0, 1) := by decide +kernel
theorem dL_law_557 : decode cL_law 557 = .ok (.iload_n 3, 1) := by decide +kernel
theorem dL_law_558 : decode cL_law 558 = .ok (.iconst 4, 1) := by decide +kernel
theorem dL_law_559 : decode cL_law 559 = .ok (.iadd, 1) := by decide +kernel
theorem dL_law_560 : decode cL_law 560 = .ok (.iaload, 1) := by decide +kernel
theorem dL_law_561 : decode cL_law 561 = .ok (.aload_n 0, 1) := by decide +kernel
theorem dL_law_562 : decode cL_law 562 = .ok (.iload_n 3, 1) := by decide +kernel
theorem dL_law_563 : decode cL_law 563 = .ok (.iconst 5, 1) := by decide +kernel
theorem dL_law_564 : decode cL_law 564 = .ok (.iadd, 1) := by decide +kernel
theorem dL_law_565 : decode cL_law 565 = .ok (.iaload, 1) := by decide +kernel
theorem dL_law_566 : decode cL_law 566 = .ok (.invokevirtual 42, 3) := by decide +kernel
theorem dL_law_569 : decode cL_law 569 = .ok (.if_icmp .eq 620, 3) := by decide +kernel
theorem dL_law_572 : decode cL_law 572 = .ok (.iconst 0, 1) := by decide +kernel
theorem dL_law_573 : decode cL_law 573 = .ok (.ireturn, 1) := by decide +kernel
theorem dL_law_574 : decode cL_law 574 = .ok (.aload_n 1, 1) := by decide +kernel
theorem dL_law_575 : decode cL_law 575 = .ok (.aload_n 0, 1) := by decide +kernel
theorem dL_law_576 : decode cL_law 576 = .ok (.iload_n 3, 1) := by decide +kernel
theorem dL_law_577 : decode cL_law 577 = .ok (.iconst 1, 1) := by decide +kernel
theorem dL_law_578 : decode cL_law 578 = .ok (.iadd, 1) := by decide +kernel
theorem dL_law_579 : decode cL_law 579 = .ok (.iaload, 1) := by decide +kernel
theorem dL_law_580 : decode cL_law 580 = .ok (.aload_n 0, 1) := by decide +kernel
theorem dL_law_581 : decode cL_law 581 = .ok (.iload_n 3, 1) := by decide +kernel
theorem dL_law_582 : decode cL_law 582 = .ok (.iconst 2, 1) := by decide +kernel
theorem dL_law_583 : decode cL_law 583 = .ok (.iadd, 1) := by decide +kernel
theorem dL_law_584 : decode cL_law 584 = .ok (.iaload, 1) := by decide +kernel
theorem dL_law_585 : decode cL_law 585 = .ok (.invokevirtual 43, 3) := by decide +kernel
theorem dL_law_588 : decode cL_law 588 = .ok (.aload_n 2, 1) := by decide +kernel
theorem dL_law_589 : decode cL_law 589 = .ok (.aload_n 0, 1) := by decide +kernel
theorem dL_law_590 : decode cL_law 590 = .ok (.iload_n 3, 1) := by decide +kernel
theorem dL_law_591 : decode cL_law 591 = .ok (.iconst 1, 1) := by decide +kernel
theorem dL_law_592 : decode cL_law 592 = .ok (.iadd, 1) := by decide +kernel
theorem dL_law_593 : decode cL_law 593 = .ok (.iaload, 1) := by decide +kernel
theorem dL_law_594 : decode cL_law 594 = .ok (.aload_n 0, 1) := by decide +kernel
theorem dL_law_595 : decode cL_law 595 = .ok (.iload_n 3, 1) := by decide +kernel
theorem dL_law_596 : decode cL_law 596 = .ok (.iconst 2, 1) := by decide +kernel
theorem dL_law_597 : decode cL_law 597 = .ok (.iadd, 1) := by decide +kernel
theorem dL_law_598 : decode cL_law 598 = .ok (.iaload, 1) := by decide +kernel
theorem dL_law_599 : decode cL_law 599 = .ok (.invokevirtual 47, 3) := by decide +kernel
theorem dL_law_602 : decode cL_law 602 = .ok (.if_icmp .eq 587, 3) := by decide +kernel
theorem dL_law_605 : decode cL_law 605 = .ok (.iconst 0, 1) := by decide +kernel
theorem dL_law_606 : decode cL_law 606 = .ok (.ireturn, 1) := by decide +kernel
theorem dL_law_607 : decode cL_law 607 = .ok (.aload_n 1, 1) := by decide +kernel
theorem dL_law_608 : decode cL_law 608 = .ok (.invokevirtual 48, 3) := by decide +kernel
theorem dL_law_611 : decode cL_law 611 = .ok (.aload_n 2, 1) := by decide +kernel
theorem dL_law_612 : decode cL_law 612 = .ok (.invokevirtual 52, 3) := by decide +kernel
theorem dL_law_615 : decode cL_law 615 = .ok (.if_icmp .eq 574, 3) := by decide +kernel
theorem dL_law_618 : decode cL_law 618 = .ok (.iconst 0, 1) := by decide +kernel
theorem dL_law_619 : decode cL_law 619 = .ok (.ireturn, 1) := by decide +kernel
theorem dL_law_620 : decode cL_law 620 = .ok (.aload_n 1, 1) := by decide +kernel
theorem dL_law_621 : decode cL_law 621 = .ok (.aload_n 0, 1) := by decide +kernel
theorem dL_law_622 : decode cL_law 622 = .ok (.iload_n 3, 1) := by decide +kernel
theorem dL_law_623 : decode cL_law 623 = .ok (.iconst 1, 1) := by decide +kernel
theorem dL_law_624 : decode cL_law 624 = .ok (.iadd, 1) := by decide +kernel
theorem dL_law_625 : decode cL_law 625 = .ok (.iaload, 1) := by decide +kernel
theorem dL_law_626 : decode cL_law 626 = .ok (.i2l, 1) := by decide +kernel
theorem dL_law_627 : decode cL_law 627 = .ok (.bipush 32, 2) := by decide +kernel
theorem dL_law_629 : decode cL_law 629 = .ok (.lshl, 1) := by decide +kernel
theorem dL_law_630 : decode cL_law 630 = .ok (.aload_n 0, 1) := by decide +kernel
theorem dL_law_631 : decode cL_law 631 = .ok (.iload_n 3, 1) := by decide +kernel
theorem dL_law_632 : decode cL_law 632 = .ok (.iconst 2, 1) := by decide +kernel
theorem dL_law_633 : decode cL_law 633 = .ok (.iadd, 1) := by decide +kernel
theorem dL_law_634 : decode cL_law 634 = .ok (.iaload, 1) := by decide +kernel
theorem dL_law_635 : decode cL_law 635 = .ok (.i2l, 1) := by decide +kernel
theorem dL_law_636 : decode cL_law 636 = .ok (.ldc2_w 13, 3) := by decide +kernel
theorem dL_law_639 : decode cL_law 639 = .ok (.land, 1) := by decide +kernel
theorem dL_law_640 : decode cL_law 640 = .ok (.lor, 1) := by decide +kernel
theorem dL_law_641 : decode cL_law 641 = .ok (.aload_n 0, 1) := by decide +kernel
theorem dL_law_642 : decode cL_law 642 = .ok (.iload_n 3, 1) := by decide +kernel
theorem dL_law_643 : decode cL_law 643 = .ok (.iconst 3, 1) := by decide +kernel
theorem dL_law_644 : decode cL_law 644 = .ok (.iadd, 1) := by decide +kernel
theorem dL_law_645 : decode cL_law 645 = .ok (.iaload, 1) := by decide +kernel
theorem dL_law_646 : decode cL_law 646 = .ok (.invokevirtual 53, 3) := by decide +kernel
theorem dL_law_649 : decode cL_law 649 = .ok (.aload_n 2, 1) := by decide +kernel
theorem dL_law_650 : decode cL_law 650 = .ok (.aload_n 0, 1) := by decide +kernel
theorem dL_law_651 : decode cL_law 651 = .ok (.iload_n 3, 1) := by decide +kernel
theorem dL_law_652 : decode cL_law 652 = .ok (.iconst 1, 1) := by decide +kernel
theorem dL_law_653 : decode cL_law 653 = .ok (.iadd, 1) := by decide +kernel
theorem dL_law_654 : decode cL_law 654 = .ok (.iaload, 1) := by decide +kernel
theorem dL_law_655 : decode cL_law 655 = .ok (.i2l, 1) := by decide +kernel
theorem dL_law_656 : decode cL_law 656 = .ok (.bipush 32, 2) := by decide +kernel
theorem dL_law_658 : decode cL_law 658 = .ok (.lshl, 1) := by decide +kernel
theorem dL_law_659 : decode cL_law 659 = .ok (.aload_n 0, 1) := by decide +kernel
theorem dL_law_660 : decode cL_law 660 = .ok (.iload_n 3, 1) := by decide +kernel
theorem dL_law_661 : decode cL_law 661 = .ok (.iconst 2, 1) := by decide +kernel
theorem dL_law_662 : decode cL_law 662 = .ok (.iadd, 1) := by decide +kernel
theorem dL_law_663 : decode cL_law 663 = .ok (.iaload, 1) := by decide +kernel
theorem dL_law_664 : decode cL_law 664 = .ok (.i2l, 1) := by decide +kernel
theorem dL_law_665 : decode cL_law 665 = .ok (.ldc2_w 13, 3) := by decide +kernel
theorem dL_law_668 : decode cL_law 668 = .ok (.land, 1) := by decide +kernel
theorem dL_law_669 : decode cL_law 669 = .ok (.lor, 1) := by decide +kernel
theorem dL_law_670 : decode cL_law 670 = .ok (.aload_n 0, 1) := by decide +kernel
theorem dL_law_671 : decode cL_law 671 = .ok (.iload_n 3, 1) := by decide +kernel
theorem dL_law_672 : decode cL_law 672 = .ok (.iconst 3, 1) := by decide +kernel
theorem dL_law_673 : decode cL_law 673 = .ok (.iadd, 1) := by decide +kernel
theorem dL_law_674 : decode cL_law 674 = .ok (.iaload, 1) := by decide +kernel
theorem dL_law_675 : decode cL_law 675 = .ok (.invokevirtual 57, 3) := by decide +kernel
theorem dL_law_678 : decode cL_law 678 = .ok (.if_icmp .eq 511, 3) := by decide +kernel
theorem dL_law_681 : decode cL_law 681 = .ok (.iconst 0, 1) := by decide +kernel
theorem dL_law_682 : decode cL_law 682 = .ok (.ireturn, 1) := by decide +kernel
theorem dL_law_683 : decode cL_law 683 = .ok (.aload_n 1, 1) := by decide +kernel
theorem dL_law_684 : decode cL_law 684 = .ok (.invokevirtual 58, 3) := by decide +kernel
theorem dL_law_687 : decode cL_law 687 = .ok (.aload_n 2, 1) := by decide +kernel
theorem dL_law_688 : decode cL_law 688 = .ok (.invokevirtual 61, 3) := by decide +kernel
theorem dL_law_691 : decode cL_law 691 = .ok (.if_icmp .eq 498, 3) := by decide +kernel
theorem dL_law_694 : decode cL_law 694 = .ok (.iconst 0, 1) := by decide +kernel
theorem dL_law_695 : decode cL_law 695 = .ok (.ireturn, 1) := by decide +kernel
theorem dL_law_696 : decode cL_law 696 = .ok (.aload_n 1, 1) := by decide +kernel
theorem dL_law_697 : decode cL_law 697 = .ok (.aload_n 0, 1) := by decide +kernel
theorem dL_law_698 : decode cL_law 698 = .ok (.iload_n 3, 1) := by decide +kernel
theorem dL_law_699 : decode cL_law 699 = .ok (.iconst 1, 1) := by decide +kernel
theorem dL_law_700 : decode cL_law 700 = .ok (.iadd, 1) := by decide +kernel
theorem dL_law_701 : decode cL_law 701 = .ok (.iaload, 1) := by decide +kernel
theorem dL_law_702 : decode cL_law 702 = .ok (.invokevirtual 62, 3) := by decide +kernel
theorem dL_law_705 : decode cL_law 705 = .ok (.aload_n 2, 1) := by decide +kernel
theorem dL_law_706 : decode cL_law 706 = .ok (.aload_n 0, 1) := by decide +kernel
theorem dL_law_707 : decode cL_law 707 = .ok (.iload_n 3, 1) := by decide +kernel
theorem dL_law_708 : decode cL_law 708 = .ok (.iconst 1, 1) := by decide +kernel
theorem dL_law_709 : decode cL_law 709 = .ok (.iadd, 1) := by decide +kernel
theorem dL_law_710 : decode cL_law 710 = .ok (.iaload, 1) := by decide +kernel
theorem dL_law_711 : decode cL_law 711 = .ok (.invokevirtual 66, 3) := by decide +kernel
theorem dL_law_714 : decode cL_law 714 = .ok (.if_icmp .eq 475, 3) := by decide +kernel
theorem dL_law_717 : decode cL_law 717 = .ok (.iconst 0, 1) := by decide +kernel
theorem dL_law_718 : decode cL_law 718 = .ok (.ireturn, 1) := by decide +kernel
theorem dL_law_719 : decode cL_law 719 = .ok (.aload_n 1, 1) := by decide +kernel
theorem dL_law_720 : decode cL_law 720 = .ok (.invokevirtual 67, 3) := by decide +kernel
theorem dL_law_723 : decode cL_law 723 = .ok (.aload_n 2, 1) := by decide +kernel
theorem dL_law_724 : decode cL_law 724 = .ok (.invokevirtual 70, 3) := by decide +kernel
theorem dL_law_727 : decode cL_law 727 = .ok (.if_icmp .eq 462, 3) := by decide +kernel
theorem dL_law_730 : decode cL_law 730 = .ok (.iconst 0, 1) := by decide +kernel
theorem dL_law_731 : decode cL_law 731 = .ok (.ireturn, 1) := by decide +kernel
theorem dL_law_732 : decode cL_law 732 = .ok (.aload_n 1, 1) := by decide +kernel
theorem dL_law_733 : decode cL_law 733 = .ok (.invokevirtual 71, 3) := by decide +kernel
theorem dL_law_736 : decode cL_law 736 = .ok (.aload_n 2, 1) := by decide +kernel
theorem dL_law_737 : decode cL_law 737 = .ok (.invokevirtual 74, 3) := by decide +kernel
theorem dL_law_740 : decode cL_law 740 = .ok (.if_icmp .eq 449, 3) := by decide +kernel
theorem dL_law_743 : decode cL_law 743 = .ok (.iconst 0, 1) := by decide +kernel
theorem dL_law_744 : decode cL_law 744 = .ok (.ireturn, 1) := by decide +kernel
theorem dL_law_745 : decode cL_law 745 = .ok (.aload_n 1, 1) := by decide +kernel
theorem dL_law_746 : decode cL_law 746 = .ok (.aload_n 0, 1) := by decide +kernel
theorem dL_law_747 : decode cL_law 747 = .ok (.iload_n 3, 1) := by decide +kernel
theorem dL_law_748 : decode cL_law 748 = .ok (.iconst 1, 1) := by decide +kernel
theorem dL_law_749 : decode cL_law 749 = .ok (.iadd, 1) := by decide +kernel
theorem dL_law_750 : decode cL_law 750 = .ok (.iaload, 1) := by decide +kernel
theorem dL_law_751 : decode cL_law 751 = .ok (.i2l, 1) := by decide +kernel
theorem dL_law_752 : decode cL_law 752 = .ok (.bipush 32, 2) := by decide +kernel
theorem dL_law_754 : decode cL_law 754 = .ok (.lshl, 1) := by decide +kernel
theorem dL_law_755 : decode cL_law 755 = .ok (.aload_n 0, 1) := by decide +kernel
theorem dL_law_756 : decode cL_law 756 = .ok (.iload_n 3, 1) := by decide +kernel
theorem dL_law_757 : decode cL_law 757 = .ok (.iconst 2, 1) := by decide +kernel
theorem dL_law_758 : decode cL_law 758 = .ok (.iadd, 1) := by decide +kernel
theorem dL_law_759 : decode cL_law 759 = .ok (.iaload, 1) := by decide +kernel
theorem dL_law_760 : decode cL_law 760 = .ok (.i2l, 1) := by decide +kernel
theorem dL_law_761 : decode cL_law 761 = .ok (.ldc2_w 13, 3) := by decide +kernel
theorem dL_law_764 : decode cL_law 764 = .ok (.land, 1) := by decide +kernel
theorem dL_law_765 : decode cL_law 765 = .ok (.lor, 1) := by decide +kernel
theorem dL_law_766 : decode cL_law 766 = .ok (.aload_n 0, 1) := by decide +kernel
theorem dL_law_767 : decode cL_law 767 = .ok (.iload_n 3, 1) := by decide +kernel
theorem dL_law_768 : decode cL_law 768 = .ok (.iconst 3, 1) := by decide +kernel
theorem dL_law_769 : decode cL_law 769 = .ok (.iadd, 1) := by decide +kernel
theorem dL_law_770 : decode cL_law 770 = .ok (.iaload, 1) := by decide +kernel
theorem dL_law_771 : decode cL_law 771 = .ok (.invokevirtual 75, 3) := by decide +kernel
theorem dL_law_774 : decode cL_law 774 = .ok (.aload_n 2, 1) := by decide +kernel
theorem dL_law_775 : decode cL_law 775 = .ok (.aload_n 0, 1) := by decide +kernel
theorem dL_law_776 : decode cL_law 776 = .ok (.iload_n 3, 1) := by decide +kernel
theorem dL_law_777 : decode cL_law 777 = .ok (.iconst 1, 1) := by decide +kernel
theorem dL_law_778 : decode cL_law 778 = .ok (.iadd, 1) := by decide +kernel
theorem dL_law_779 : decode cL_law 779 = .ok (.iaload, 1) := by decide +kernel
theorem dL_law_780 : decode cL_law 780 = .ok (.i2l, 1) := by decide +kernel
theorem dL_law_781 : decode cL_law 781 = .ok (.bipush 32, 2) := by decide +kernel
theorem dL_law_783 : decode cL_law 783 = .ok (.lshl, 1) := by decide +kernel
theorem dL_law_784 : decode cL_law 784 = .ok (.aload_n 0, 1) := by decide +kernel
theorem dL_law_785 : decode cL_law 785 = .ok (.iload_n 3, 1) := by decide +kernel
theorem dL_law_786 : decode cL_law 786 = .ok (.iconst 2, 1) := by decide +kernel
theorem dL_law_787 : decode cL_law 787 = .ok (.iadd, 1) := by decide +kernel
theorem dL_law_788 : decode cL_law 788 = .ok (.iaload, 1) := by decide +kernel
theorem dL_law_789 : decode cL_law 789 = .ok (.i2l, 1) := by decide +kernel
theorem dL_law_790 : decode cL_law 790 = .ok (.ldc2_w 13, 3) := by decide +kernel
theorem dL_law_793 : decode cL_law 793 = .ok (.land, 1) := by decide +kernel
theorem dL_law_794 : decode cL_law 794 = .ok (.lor, 1) := by decide +kernel
theorem dL_law_795 : decode cL_law 795 = .ok (.aload_n 0, 1) := by decide +kernel
theorem dL_law_796 : decode cL_law 796 = .ok (.iload_n 3, 1) := by decide +kernel
theorem dL_law_797 : decode cL_law 797 = .ok (.iconst 3, 1) := by decide +kernel
theorem dL_law_798 : decode cL_law 798 = .ok (.iadd, 1) := by decide +kernel
theorem dL_law_799 : decode cL_law 799 = .ok (.iaload, 1) := by decide +kernel
theorem dL_law_800 : decode cL_law 800 = .ok (.invokevirtual 78, 3) := by decide +kernel
theorem dL_law_803 : decode cL_law 803 = .ok (.if_icmp .eq 386, 3) := by decide +kernel
theorem dL_law_806 : decode cL_law 806 = .ok (.iconst 0, 1) := by decide +kernel
theorem dL_law_807 : decode cL_law 807 = .ok (.ireturn, 1) := by decide +kernel
theorem dL_law_808 : decode cL_law 808 = .ok (.aload_n 1, 1) := by decide +kernel
theorem dL_law_809 : decode cL_law 809 = .ok (.aload_n 0, 1) := by decide +kernel
theorem dL_law_810 : decode cL_law 810 = .ok (.iload_n 3, 1) := by decide +kernel
theorem dL_law_811 : decode cL_law 811 = .ok (.iconst 1, 1) := by decide +kernel
theorem dL_law_812 : decode cL_law 812 = .ok (.iadd, 1) := by decide +kernel
theorem dL_law_813 : decode cL_law 813 = .ok (.iaload, 1) := by decide +kernel
theorem dL_law_814 : decode cL_law 814 = .ok (.invokevirtual 79, 3) := by decide +kernel
theorem dL_law_817 : decode cL_law 817 = .ok (.aload_n 2, 1) := by decide +kernel
theorem dL_law_818 : decode cL_law 818 = .ok (.aload_n 0, 1) := by decide +kernel
theorem dL_law_819 : decode cL_law 819 = .ok (.iload_n 3, 1) := by decide +kernel
theorem dL_law_820 : decode cL_law 820 = .ok (.iconst 1, 1) := by decide +kernel
theorem dL_law_821 : decode cL_law 821 = .ok (.iadd, 1) := by decide +kernel
theorem dL_law_822 : decode cL_law 822 = .ok (.iaload, 1) := by decide +kernel
theorem dL_law_823 : decode cL_law 823 = .ok (.invokevirtual 82, 3) := by decide +kernel
theorem dL_law_826 : decode cL_law 826 = .ok (.if_icmp .eq 363, 3) := by decide +kernel
theorem dL_law_829 : decode cL_law 829 = .ok (.iconst 0, 1) := by decide +kernel
theorem dL_law_830 : decode cL_law 830 = .ok (.ireturn, 1) := by decide +kernel
theorem dL_law_831 : decode cL_law 831 = .ok (.aload_n 1, 1) := by decide +kernel
theorem dL_law_832 : decode cL_law 832 = .ok (.aload_n 0, 1) := by decide +kernel
theorem dL_law_833 : decode cL_law 833 = .ok (.iload_n 3, 1) := by decide +kernel
theorem dL_law_834 : decode cL_law 834 = .ok (.iconst 1, 1) := by decide +kernel
theorem dL_law_835 : decode cL_law 835 = .ok (.iadd, 1) := by decide +kernel
theorem dL_law_836 : decode cL_law 836 = .ok (.iaload, 1) := by decide +kernel
theorem dL_law_837 : decode cL_law 837 = .ok (.aload_n 0, 1) := by decide +kernel
theorem dL_law_838 : decode cL_law 838 = .ok (.iload_n 3, 1) := by decide +kernel
theorem dL_law_839 : decode cL_law 839 = .ok (.iconst 2, 1) := by decide +kernel
theorem dL_law_840 : decode cL_law 840 = .ok (.iadd, 1) := by decide +kernel
theorem dL_law_841 : decode cL_law 841 = .ok (.iaload, 1) := by decide +kernel
theorem dL_law_842 : decode cL_law 842 = .ok (.invokevirtual 83, 3) := by decide +kernel
theorem dL_law_845 : decode cL_law 845 = .ok (.aload_n 2, 1) := by decide +kernel
theorem dL_law_846 : decode cL_law 846 = .ok (.aload_n 0, 1) := by decide +kernel
theorem dL_law_847 : decode cL_law 847 = .ok (.iload_n 3, 1) := by decide +kernel
theorem dL_law_848 : decode cL_law 848 = .ok (.iconst 1, 1) := by decide +kernel
theorem dL_law_849 : decode cL_law 849 = .ok (.iadd, 1) := by decide +kernel
theorem dL_law_850 : decode cL_law 850 = .ok (.iaload, 1) := by decide +kernel
theorem dL_law_851 : decode cL_law 851 = .ok (.aload_n 0, 1) := by decide +kernel
theorem dL_law_852 : decode cL_law 852 = .ok (.iload_n 3, 1) := by decide +kernel
theorem dL_law_853 : decode cL_law 853 = .ok (.iconst 2, 1) := by decide +kernel
theorem dL_law_854 : decode cL_law 854 = .ok (.iadd, 1) := by decide +kernel
theorem dL_law_855 : decode cL_law 855 = .ok (.iaload, 1) := by decide +kernel
theorem dL_law_856 : decode cL_law 856 = .ok (.invokevirtual 86, 3) := by decide +kernel
theorem dL_law_859 : decode cL_law 859 = .ok (.if_icmp .eq 330, 3) := by decide +kernel
theorem dL_law_862 : decode cL_law 862 = .ok (.iconst 0, 1) := by decide +kernel
theorem dL_law_863 : decode cL_law 863 = .ok (.ireturn, 1) := by decide +kernel
theorem dL_law_864 : decode cL_law 864 = .ok (.aload_n 1, 1) := by decide +kernel
theorem dL_law_865 : decode cL_law 865 = .ok (.aload_n 0, 1) := by decide +kernel
theorem dL_law_866 : decode cL_law 866 = .ok (.iload_n 3, 1) := by decide +kernel
theorem dL_law_867 : decode cL_law 867 = .ok (.iconst 1, 1) := by decide +kernel
theorem dL_law_868 : decode cL_law 868 = .ok (.iadd, 1) := by decide +kernel
theorem dL_law_869 : decode cL_law 869 = .ok (.iaload, 1) := by decide +kernel
theorem dL_law_870 : decode cL_law 870 = .ok (.invokevirtual 87, 3) := by decide +kernel
theorem dL_law_873 : decode cL_law 873 = .ok (.aload_n 2, 1) := by decide +kernel
theorem dL_law_874 : decode cL_law 874 = .ok (.aload_n 0, 1) := by decide +kernel
theorem dL_law_875 : decode cL_law 875 = .ok (.iload_n 3, 1) := by decide +kernel
theorem dL_law_876 : decode cL_law 876 = .ok (.iconst 1, 1) := by decide +kernel
theorem dL_law_877 : decode cL_law 877 = .ok (.iadd, 1) := by decide +kernel
theorem dL_law_878 : decode cL_law 878 = .ok (.iaload, 1) := by decide +kernel
theorem dL_law_879 : decode cL_law 879 = .ok (.invokevirtual 90, 3) := by decide +kernel
theorem dL_law_882 : decode cL_law 882 = .ok (.if_icmp .eq 307, 3) := by decide +kernel
theorem dL_law_885 : decode cL_law 885 = .ok (.iconst 0, 1) := by decide +kernel
theorem dL_law_886 : decode cL_law 886 = .ok (.ireturn, 1) := by decide +kernel
theorem dL_law_887 : decode cL_law 887 = .ok (.aload_n 1, 1) := by decide +kernel
theorem dL_law_888 : decode cL_law 888 = .ok (.aload_n 0, 1) := by decide +kernel
theorem dL_law_889 : decode cL_law 889 = .ok (.iload_n 3, 1) := by decide +kernel
theorem dL_law_890 : decode cL_law 890 = .ok (.iconst 1, 1) := by decide +kernel
theorem dL_law_891 : decode cL_law 891 = .ok (.iadd, 1) := by decide +kernel
theorem dL_law_892 : decode cL_law 892 = .ok (.iaload, 1) := by decide +kernel
theorem dL_law_893 : decode cL_law 893 = .ok (.invokevirtual 91, 3) := by decide +kernel
theorem dL_law_896 : decode cL_law 896 = .ok (.aload_n 2, 1) := by decide +kernel
theorem dL_law_897 : decode cL_law 897 = .ok (.aload_n 0, 1) := by decide +kernel
theorem dL_law_898 : decode cL_law 898 = .ok (.iload_n 3, 1) := by decide +kernel
theorem dL_law_899 : decode cL_law 899 = .ok (.iconst 1, 1) := by decide +kernel
theorem dL_law_900 : decode cL_law 900 = .ok (.iadd, 1) := by decide +kernel
theorem dL_law_901 : decode cL_law 901 = .ok (.iaload, 1) := by decide +kernel
theorem dL_law_902 : decode cL_law 902 = .ok (.invokevirtual 94, 3) := by decide +kernel
theorem dL_law_905 : decode cL_law 905 = .ok (.if_icmp .eq 284, 3) := by decide +kernel
theorem dL_law_908 : decode cL_law 908 = .ok (.iconst 0, 1) := by decide +kernel
theorem dL_law_909 : decode cL_law 909 = .ok (.ireturn, 1) := by decide +kernel
theorem dL_law_910 : decode cL_law 910 = .ok (.aload_n 1, 1) := by decide +kernel
theorem dL_law_911 : decode cL_law 911 = .ok (.aload_n 0, 1) := by decide +kernel
theorem dL_law_912 : decode cL_law 912 = .ok (.iload_n 3, 1) := by decide +kernel
theorem dL_law_913 : decode cL_law 913 = .ok (.iconst 1, 1) := by decide +kernel
theorem dL_law_914 : decode cL_law 914 = .ok (.iadd, 1) := by decide +kernel
theorem dL_law_915 : decode cL_law 915 = .ok (.iaload, 1) := by decide +kernel
theorem dL_law_916 : decode cL_law 916 = .ok (.invokevirtual 95, 3) := by decide +kernel
theorem dL_law_919 : decode cL_law 919 = .ok (.aload_n 2, 1) := by decide +kernel
theorem dL_law_920 : decode cL_law 920 = .ok (.aload_n 0, 1) := by decide +kernel
theorem dL_law_921 : decode cL_law 921 = .ok (.iload_n 3, 1) := by decide +kernel
theorem dL_law_922 : decode cL_law 922 = .ok (.iconst 1, 1) := by decide +kernel
theorem dL_law_923 : decode cL_law 923 = .ok (.iadd, 1) := by decide +kernel
theorem dL_law_924 : decode cL_law 924 = .ok (.iaload, 1) := by decide +kernel
theorem dL_law_925 : decode cL_law 925 = .ok (.invokevirtual 99, 3) := by decide +kernel
theorem dL_law_928 : decode cL_law 928 = .ok (.lcmp, 1) := by decide +kernel
theorem dL_law_929 : decode cL_law 929 = .ok (.ifCond .eq 260, 3) := by decide +kernel
theorem dL_law_932 : decode cL_law 932 = .ok (.iconst 0, 1) := by decide +kernel
theorem dL_law_933 : decode cL_law 933 = .ok (.ireturn, 1) := by decide +kernel
theorem dL_law_934 : decode cL_law 934 = .ok (.aload_n 1, 1) := by decide +kernel
theorem dL_law_935 : decode cL_law 935 = .ok (.aload_n 0, 1) := by decide +kernel
theorem dL_law_936 : decode cL_law 936 = .ok (.iload_n 3, 1) := by decide +kernel
theorem dL_law_937 : decode cL_law 937 = .ok (.iconst 1, 1) := by decide +kernel
theorem dL_law_938 : decode cL_law 938 = .ok (.iadd, 1) := by decide +kernel
theorem dL_law_939 : decode cL_law 939 = .ok (.iaload, 1) := by decide +kernel
theorem dL_law_940 : decode cL_law 940 = .ok (.aload_n 0, 1) := by decide +kernel
theorem dL_law_941 : decode cL_law 941 = .ok (.iload_n 3, 1) := by decide +kernel
theorem dL_law_942 : decode cL_law 942 = .ok (.iconst 2, 1) := by decide +kernel
theorem dL_law_943 : decode cL_law 943 = .ok (.iadd, 1) := by decide +kernel
theorem dL_law_944 : decode cL_law 944 = .ok (.iaload, 1) := by decide +kernel
theorem dL_law_945 : decode cL_law 945 = .ok (.invokevirtual 100, 3) := by decide +kernel
theorem dL_law_948 : decode cL_law 948 = .ok (.aload_n 2, 1) := by decide +kernel
theorem dL_law_949 : decode cL_law 949 = .ok (.aload_n 0, 1) := by decide +kernel
theorem dL_law_950 : decode cL_law 950 = .ok (.iload_n 3, 1) := by decide +kernel
theorem dL_law_951 : decode cL_law 951 = .ok (.iconst 1, 1) := by decide +kernel
theorem dL_law_952 : decode cL_law 952 = .ok (.iadd, 1) := by decide +kernel
theorem dL_law_953 : decode cL_law 953 = .ok (.iaload, 1) := by decide +kernel
theorem dL_law_954 : decode cL_law 954 = .ok (.aload_n 0, 1) := by decide +kernel
theorem dL_law_955 : decode cL_law 955 = .ok (.iload_n 3, 1) := by decide +kernel
theorem dL_law_956 : decode cL_law 956 = .ok (.iconst 2, 1) := by decide +kernel
theorem dL_law_957 : decode cL_law 957 = .ok (.iadd, 1) := by decide +kernel
theorem dL_law_958 : decode cL_law 958 = .ok (.iaload, 1) := by decide +kernel
theorem dL_law_959 : decode cL_law 959 = .ok (.invokevirtual 103, 3) := by decide +kernel
theorem dL_law_962 : decode cL_law 962 = .ok (.if_icmp .eq 227, 3) := by decide +kernel
theorem dL_law_965 : decode cL_law 965 = .ok (.iconst 0, 1) := by decide +kernel
theorem dL_law_966 : decode cL_law 966 = .ok (.ireturn, 1) := by decide +kernel
theorem dL_law_967 : decode cL_law 967 = .ok (.aload_n 1, 1) := by decide +kernel
theorem dL_law_968 : decode cL_law 968 = .ok (.aload_n 0, 1) := by decide +kernel
theorem dL_law_969 : decode cL_law 969 = .ok (.iload_n 3, 1) := by decide +kernel
theorem dL_law_970 : decode cL_law 970 = .ok (.iconst 1, 1) := by decide +kernel
theorem dL_law_971 : decode cL_law 971 = .ok (.iadd, 1) := by decide +kernel
theorem dL_law_972 : decode cL_law 972 = .ok (.iaload, 1) := by decide +kernel
theorem dL_law_973 : decode cL_law 973 = .ok (.aload_n 0, 1) := by decide +kernel
theorem dL_law_974 : decode cL_law 974 = .ok (.iload_n 3, 1) := by decide +kernel
theorem dL_law_975 : decode cL_law 975 = .ok (.iconst 2, 1) := by decide +kernel
theorem dL_law_976 : decode cL_law 976 = .ok (.iadd, 1) := by decide +kernel
theorem dL_law_977 : decode cL_law 977 = .ok (.iaload, 1) := by decide +kernel
theorem dL_law_978 : decode cL_law 978 = .ok (.invokevirtual 104, 3) := by decide +kernel
theorem dL_law_981 : decode cL_law 981 = .ok (.aload_n 2, 1) := by decide +kernel
theorem dL_law_982 : decode cL_law 982 = .ok (.aload_n 0, 1) := by decide +kernel
theorem dL_law_983 : decode cL_law 983 = .ok (.iload_n 3, 1) := by decide +kernel
theorem dL_law_984 : decode cL_law 984 = .ok (.iconst 1, 1) := by decide +kernel
theorem dL_law_985 : decode cL_law 985 = .ok (.iadd, 1) := by decide +kernel
theorem dL_law_986 : decode cL_law 986 = .ok (.iaload, 1) := by decide +kernel
theorem dL_law_987 : decode cL_law 987 = .ok (.aload_n 0, 1) := by decide +kernel
theorem dL_law_988 : decode cL_law 988 = .ok (.iload_n 3, 1) := by decide +kernel
theorem dL_law_989 : decode cL_law 989 = .ok (.iconst 2, 1) := by decide +kernel
theorem dL_law_990 : decode cL_law 990 = .ok (.iadd, 1) := by decide +kernel
theorem dL_law_991 : decode cL_law 991 = .ok (.iaload, 1) := by decide +kernel
theorem dL_law_992 : decode cL_law 992 = .ok (.invokevirtual 107, 3) := by decide +kernel
theorem dL_law_995 : decode cL_law 995 = .ok (.if_icmp .eq 194, 3) := by decide +kernel
theorem dL_law_998 : decode cL_law 998 = .ok (.iconst 0, 1) := by decide +kernel
theorem dL_law_999 : decode cL_law 999 = .ok (.ireturn, 1) := by decide +kernel
theorem dL_law_1000 : decode cL_law 1000 = .ok (.aload_n 1, 1) := by decide +kernel
theorem dL_law_1001 : decode cL_law 1001 = .ok (.aload_n 0, 1) := by decide +kernel
theorem dL_law_1002 : decode cL_law 1002 = .ok (.iload_n 3, 1) := by decide +kernel
theorem dL_law_1003 : decode cL_law 1003 = .ok (.iconst 1, 1) := by decide +kernel
theorem dL_law_1004 : decode cL_law 1004 = .ok (.iadd, 1) := by decide +kernel
theorem dL_law_1005 : decode cL_law 1005 = .ok (.iaload, 1) := by decide +kernel
theorem dL_law_1006 : decode cL_law 1006 = .ok (.aload_n 0, 1) := by decide +kernel
theorem dL_law_1007 : decode cL_law 1007 = .ok (.iload_n 3, 1) := by decide +kernel
theorem dL_law_1008 : decode cL_law 1008 = .ok (.iconst 2, 1) := by decide +kernel
theorem dL_law_1009 : decode cL_law 1009 = .ok (.iadd, 1) := by decide +kernel
theorem dL_law_1010 : decode cL_law 1010 = .ok (.iaload, 1) := by decide +kernel
theorem dL_law_1011 : decode cL_law 1011 = .ok (.invokevirtual 108, 3) := by decide +kernel
theorem dL_law_1014 : decode cL_law 1014 = .ok (.aload_n 2, 1) := by decide +kernel
theorem dL_law_1015 : decode cL_law 1015 = .ok (.aload_n 0, 1) := by decide +kernel
theorem dL_law_1016 : decode cL_law 1016 = .ok (.iload_n 3, 1) := by decide +kernel
theorem dL_law_1017 : decode cL_law 1017 = .ok (.iconst 1, 1) := by decide +kernel
theorem dL_law_1018 : decode cL_law 1018 = .ok (.iadd, 1) := by decide +kernel
theorem dL_law_1019 : decode cL_law 1019 = .ok (.iaload, 1) := by decide +kernel
theorem dL_law_1020 : decode cL_law 1020 = .ok (.aload_n 0, 1) := by decide +kernel
theorem dL_law_1021 : decode cL_law 1021 = .ok (.iload_n 3, 1) := by decide +kernel
theorem dL_law_1022 : decode cL_law 1022 = .ok (.iconst 2, 1) := by decide +kernel
theorem dL_law_1023 : decode cL_law 1023 = .ok (.iadd, 1) := by decide +kernel
theorem dL_law_1024 : decode cL_law 1024 = .ok (.iaload, 1) := by decide +kernel
theorem dL_law_1025 : decode cL_law 1025 = .ok (.invokevirtual 111, 3) := by decide +kernel
theorem dL_law_1028 : decode cL_law 1028 = .ok (.if_icmp .eq 161, 3) := by decide +kernel
theorem dL_law_1031 : decode cL_law 1031 = .ok (.iconst 0, 1) := by decide +kernel
theorem dL_law_1032 : decode cL_law 1032 = .ok (.ireturn, 1) := by decide +kernel
theorem dL_law_1033 : decode cL_law 1033 = .ok (.aload_n 1, 1) := by decide +kernel
theorem dL_law_1034 : decode cL_law 1034 = .ok (.aload_n 0, 1) := by decide +kernel
theorem dL_law_1035 : decode cL_law 1035 = .ok (.iload_n 3, 1) := by decide +kernel
theorem dL_law_1036 : decode cL_law 1036 = .ok (.iconst 1, 1) := by decide +kernel
theorem dL_law_1037 : decode cL_law 1037 = .ok (.iadd, 1) := by decide +kernel
theorem dL_law_1038 : decode cL_law 1038 = .ok (.iaload, 1) := by decide +kernel
theorem dL_law_1039 : decode cL_law 1039 = .ok (.aload_n 0, 1) := by decide +kernel
theorem dL_law_1040 : decode cL_law 1040 = .ok (.iload_n 3, 1) := by decide +kernel
theorem dL_law_1041 : decode cL_law 1041 = .ok (.iconst 2, 1) := by decide +kernel
theorem dL_law_1042 : decode cL_law 1042 = .ok (.iadd, 1) := by decide +kernel
theorem dL_law_1043 : decode cL_law 1043 = .ok (.iaload, 1) := by decide +kernel
theorem dL_law_1044 : decode cL_law 1044 = .ok (.invokevirtual 112, 3) := by decide +kernel
theorem dL_law_1047 : decode cL_law 1047 = .ok (.aload_n 2, 1) := by decide +kernel
theorem dL_law_1048 : decode cL_law 1048 = .ok (.aload_n 0, 1) := by decide +kernel
theorem dL_law_1049 : decode cL_law 1049 = .ok (.iload_n 3, 1) := by decide +kernel
theorem dL_law_1050 : decode cL_law 1050 = .ok (.iconst 1, 1) := by decide +kernel
theorem dL_law_1051 : decode cL_law 1051 = .ok (.iadd, 1) := by decide +kernel
theorem dL_law_1052 : decode cL_law 1052 = .ok (.iaload, 1) := by decide +kernel
theorem dL_law_1053 : decode cL_law 1053 = .ok (.aload_n 0, 1) := by decide +kernel
theorem dL_law_1054 : decode cL_law 1054 = .ok (.iload_n 3, 1) := by decide +kernel
theorem dL_law_1055 : decode cL_law 1055 = .ok (.iconst 2, 1) := by decide +kernel
theorem dL_law_1056 : decode cL_law 1056 = .ok (.iadd, 1) := by decide +kernel
theorem dL_law_1057 : decode cL_law 1057 = .ok (.iaload, 1) := by decide +kernel
theorem dL_law_1058 : decode cL_law 1058 = .ok (.invokevirtual 116, 3) := by decide +kernel
theorem dL_law_1061 : decode cL_law 1061 = .ok (.lcmp, 1) := by decide +kernel
theorem dL_law_1062 : decode cL_law 1062 = .ok (.ifCond .eq 127, 3) := by decide +kernel
theorem dL_law_1065 : decode cL_law 1065 = .ok (.iconst 0, 1) := by decide +kernel
theorem dL_law_1066 : decode cL_law 1066 = .ok (.ireturn, 1) := by decide +kernel
theorem dL_law_1067 : decode cL_law 1067 = .ok (.aload_n 1, 1) := by decide +kernel
theorem dL_law_1068 : decode cL_law 1068 = .ok (.aload_n 0, 1) := by decide +kernel
theorem dL_law_1069 : decode cL_law 1069 = .ok (.iload_n 3, 1) := by decide +kernel
theorem dL_law_1070 : decode cL_law 1070 = .ok (.iconst 1, 1) := by decide +kernel
theorem dL_law_1071 : decode cL_law 1071 = .ok (.iadd, 1) := by decide +kernel
theorem dL_law_1072 : decode cL_law 1072 = .ok (.iaload, 1) := by decide +kernel
theorem dL_law_1073 : decode cL_law 1073 = .ok (.aload_n 0, 1) := by decide +kernel
theorem dL_law_1074 : decode cL_law 1074 = .ok (.iload_n 3, 1) := by decide +kernel
theorem dL_law_1075 : decode cL_law 1075 = .ok (.iconst 2, 1) := by decide +kernel
theorem dL_law_1076 : decode cL_law 1076 = .ok (.iadd, 1) := by decide +kernel
theorem dL_law_1077 : decode cL_law 1077 = .ok (.iaload, 1) := by decide +kernel
theorem dL_law_1078 : decode cL_law 1078 = .ok (.aload_n 0, 1) := by decide +kernel
theorem dL_law_1079 : decode cL_law 1079 = .ok (.iload_n 3, 1) := by decide +kernel
theorem dL_law_1080 : decode cL_law 1080 = .ok (.iconst 3, 1) := by decide +kernel
theorem dL_law_1081 : decode cL_law 1081 = .ok (.iadd, 1) := by decide +kernel
theorem dL_law_1082 : decode cL_law 1082 = .ok (.iaload, 1) := by decide +kernel
theorem dL_law_1083 : decode cL_law 1083 = .ok (.aload_n 0, 1) := by decide +kernel
theorem dL_law_1084 : decode cL_law 1084 = .ok (.iload_n 3, 1) := by decide +kernel
theorem dL_law_1085 : decode cL_law 1085 = .ok (.iconst 4, 1) := by decide +kernel
theorem dL_law_1086 : decode cL_law 1086 = .ok (.iadd, 1) := by decide +kernel
theorem dL_law_1087 : decode cL_law 1087 = .ok (.iaload, 1) := by decide +kernel
theorem dL_law_1088 : decode cL_law 1088 = .ok (.invokevirtual 117, 3) := by decide +kernel
theorem dL_law_1091 : decode cL_law 1091 = .ok (.aload_n 2, 1) := by decide +kernel
theorem dL_law_1092 : decode cL_law 1092 = .ok (.aload_n 0, 1) := by decide +kernel
theorem dL_law_1093 : decode cL_law 1093 = .ok (.iload_n 3, 1) := by decide +kernel
theorem dL_law_1094 : decode cL_law 1094 = .ok (.iconst 1, 1) := by decide +kernel
theorem dL_law_1095 : decode cL_law 1095 = .ok (.iadd, 1) := by decide +kernel
theorem dL_law_1096 : decode cL_law 1096 = .ok (.iaload, 1) := by decide +kernel
theorem dL_law_1097 : decode cL_law 1097 = .ok (.aload_n 0, 1) := by decide +kernel
theorem dL_law_1098 : decode cL_law 1098 = .ok (.iload_n 3, 1) := by decide +kernel
theorem dL_law_1099 : decode cL_law 1099 = .ok (.iconst 2, 1) := by decide +kernel
theorem dL_law_1100 : decode cL_law 1100 = .ok (.iadd, 1) := by decide +kernel
theorem dL_law_1101 : decode cL_law 1101 = .ok (.iaload, 1) := by decide +kernel
theorem dL_law_1102 : decode cL_law 1102 = .ok (.aload_n 0, 1) := by decide +kernel
theorem dL_law_1103 : decode cL_law 1103 = .ok (.iload_n 3, 1) := by decide +kernel
theorem dL_law_1104 : decode cL_law 1104 = .ok (.iconst 3, 1) := by decide +kernel
theorem dL_law_1105 : decode cL_law 1105 = .ok (.iadd, 1) := by decide +kernel
theorem dL_law_1106 : decode cL_law 1106 = .ok (.iaload, 1) := by decide +kernel
theorem dL_law_1107 : decode cL_law 1107 = .ok (.aload_n 0, 1) := by decide +kernel
theorem dL_law_1108 : decode cL_law 1108 = .ok (.iload_n 3, 1) := by decide +kernel
theorem dL_law_1109 : decode cL_law 1109 = .ok (.iconst 4, 1) := by decide +kernel
theorem dL_law_1110 : decode cL_law 1110 = .ok (.iadd, 1) := by decide +kernel
theorem dL_law_1111 : decode cL_law 1111 = .ok (.iaload, 1) := by decide +kernel
theorem dL_law_1112 : decode cL_law 1112 = .ok (.invokevirtual 121, 3) := by decide +kernel
theorem dL_law_1115 : decode cL_law 1115 = .ok (.if_icmp .eq 74, 3) := by decide +kernel
theorem dL_law_1118 : decode cL_law 1118 = .ok (.iconst 0, 1) := by decide +kernel
theorem dL_law_1119 : decode cL_law 1119 = .ok (.ireturn, 1) := by decide +kernel
theorem dL_law_1120 : decode cL_law 1120 = .ok (.aload_n 1, 1) := by decide +kernel
theorem dL_law_1121 : decode cL_law 1121 = .ok (.aload_n 0, 1) := by decide +kernel
theorem dL_law_1122 : decode cL_law 1122 = .ok (.iload_n 3, 1) := by decide +kernel
theorem dL_law_1123 : decode cL_law 1123 = .ok (.iconst 1, 1) := by decide +kernel
theorem dL_law_1124 : decode cL_law 1124 = .ok (.iadd, 1) := by decide +kernel
theorem dL_law_1125 : decode cL_law 1125 = .ok (.iaload, 1) := by decide +kernel
theorem dL_law_1126 : decode cL_law 1126 = .ok (.invokevirtual 122, 3) := by decide +kernel
theorem dL_law_1129 : decode cL_law 1129 = .ok (.aload_n 2, 1) := by decide +kernel
theorem dL_law_1130 : decode cL_law 1130 = .ok (.aload_n 0, 1) := by decide +kernel
theorem dL_law_1131 : decode cL_law 1131 = .ok (.iload_n 3, 1) := by decide +kernel
theorem dL_law_1132 : decode cL_law 1132 = .ok (.iconst 1, 1) := by decide +kernel
theorem dL_law_1133 : decode cL_law 1133 = .ok (.iadd, 1) := by decide +kernel
theorem dL_law_1134 : decode cL_law 1134 = .ok (.iaload, 1) := by decide +kernel
theorem dL_law_1135 : decode cL_law 1135 = .ok (.invokevirtual 125, 3) := by decide +kernel
theorem dL_law_1138 : decode cL_law 1138 = .ok (.if_icmp .eq 51, 3) := by decide +kernel
theorem dL_law_1141 : decode cL_law 1141 = .ok (.iconst 0, 1) := by decide +kernel
theorem dL_law_1142 : decode cL_law 1142 = .ok (.ireturn, 1) := by decide +kernel
theorem dL_law_1143 : decode cL_law 1143 = .ok (.aload_n 1, 1) := by decide +kernel
theorem dL_law_1144 : decode cL_law 1144 = .ok (.aload_n 0, 1) := by decide +kernel
theorem dL_law_1145 : decode cL_law 1145 = .ok (.iload_n 3, 1) := by decide +kernel
theorem dL_law_1146 : decode cL_law 1146 = .ok (.iconst 1, 1) := by decide +kernel
theorem dL_law_1147 : decode cL_law 1147 = .ok (.iadd, 1) := by decide +kernel
theorem dL_law_1148 : decode cL_law 1148 = .ok (.iaload, 1) := by decide +kernel
theorem dL_law_1149 : decode cL_law 1149 = .ok (.invokevirtual 126, 3) := by decide +kernel
theorem dL_law_1152 : decode cL_law 1152 = .ok (.aload_n 2, 1) := by decide +kernel
theorem dL_law_1153 : decode cL_law 1153 = .ok (.aload_n 0, 1) := by decide +kernel
theorem dL_law_1154 : decode cL_law 1154 = .ok (.iload_n 3, 1) := by decide +kernel
theorem dL_law_1155 : decode cL_law 1155 = .ok (.iconst 1, 1) := by decide +kernel
theorem dL_law_1156 : decode cL_law 1156 = .ok (.iadd, 1) := by decide +kernel
theorem dL_law_1157 : decode cL_law 1157 = .ok (.iaload, 1) := by decide +kernel
theorem dL_law_1158 : decode cL_law 1158 = .ok (.invokevirtual 129, 3) := by decide +kernel
theorem dL_law_1161 : decode cL_law 1161 = .ok (.if_icmp .eq 28, 3) := by decide +kernel
theorem dL_law_1164 : decode cL_law 1164 = .ok (.iconst 0, 1) := by decide +kernel
theorem dL_law_1165 : decode cL_law 1165 = .ok (.ireturn, 1) := by decide +kernel
theorem dL_law_1166 : decode cL_law 1166 = .ok (.aload_n 1, 1) := by decide +kernel
theorem dL_law_1167 : decode cL_law 1167 = .ok (.aload_n 0, 1) := by decide +kernel
theorem dL_law_1168 : decode cL_law 1168 = .ok (.iload_n 3, 1) := by decide +kernel
theorem dL_law_1169 : decode cL_law 1169 = .ok (.iconst 1, 1) := by decide +kernel
theorem dL_law_1170 : decode cL_law 1170 = .ok (.iadd, 1) := by decide +kernel
theorem dL_law_1171 : decode cL_law 1171 = .ok (.iaload, 1) := by decide +kernel
theorem dL_law_1172 : decode cL_law 1172 = .ok (.invokevirtual 130, 3) := by decide +kernel
theorem dL_law_1175 : decode cL_law 1175 = .ok (.aload_n 2, 1) := by decide +kernel
theorem dL_law_1176 : decode cL_law 1176 = .ok (.aload_n 0, 1) := by decide +kernel
theorem dL_law_1177 : decode cL_law 1177 = .ok (.iload_n 3, 1) := by decide +kernel
theorem dL_law_1178 : decode cL_law 1178 = .ok (.iconst 1, 1) := by decide +kernel
theorem dL_law_1179 : decode cL_law 1179 = .ok (.iadd, 1) := by decide +kernel
theorem dL_law_1180 : decode cL_law 1180 = .ok (.iaload, 1) := by decide +kernel
theorem dL_law_1181 : decode cL_law 1181 = .ok (.invokevirtual 133, 3) := by decide +kernel
theorem dL_law_1184 : decode cL_law 1184 = .ok (.if_icmp .eq 5, 3) := by decide +kernel
theorem dL_law_1187 : decode cL_law 1187 = .ok (.iconst 0, 1) := by decide +kernel
theorem dL_law_1188 : decode cL_law 1188 = .ok (.ireturn, 1) := by decide +kernel
theorem dL_law_1189 : decode cL_law 1189 = .ok (.iinc 3 6, 3) := by decide +kernel
theorem dL_law_1192 : decode cL_law 1192 = .ok (.goto (-1174), 3) := by decide +kernel
theorem dL_law_1195 : decode cL_law 1195 = .ok (.iconst 1, 1) := by decide +kernel
theorem dL_law_1196 : decode cL_law 1196 = .ok (.ireturn, 1) := by decide +kernel
