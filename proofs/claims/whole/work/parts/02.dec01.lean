theorem dX5_init_43 : decode cX5_init 43 = .ok (.return_, 1) := by decide +kernel
theorem dX5_enter_0 : decode cX5_enter 0 = .ok (.aload_n 0, 1) := by decide +kernel
theorem dX5_enter_1 : decode cX5_enter 1 = .ok (.getfield 16, 3) := by decide +kernel
theorem dX5_enter_4 : decode cX5_enter 4 = .ok (.getfield 30, 3) := by decide +kernel
theorem dX5_enter_7 : decode cX5_enter 7 = .ok (.istore 4, 2) := by decide +kernel
theorem dX5_enter_9 : decode cX5_enter 9 = .ok (.aload_n 0, 1) := by decide +kernel
theorem dX5_enter_10 : decode cX5_enter 10 = .ok (.getfield 16, 3) := by decide +kernel
theorem dX5_enter_13 : decode cX5_enter 13 = .ok (.dup, 1) := by decide +kernel
theorem dX5_enter_14 : decode cX5_enter 14 = .ok (.getfield 30, 3) := by decide +kernel
theorem dX5_enter_17 : decode cX5_enter 17 = .ok (.iconst 1, 1) := by decide +kernel
theorem dX5_enter_18 : decode cX5_enter 18 = .ok (.iadd, 1) := by decide +kernel
theorem dX5_enter_19 : decode cX5_enter 19 = .ok (.putfield 30, 3) := by decide +kernel
theorem dX5_enter_22 : decode cX5_enter 22 = .ok (.aload_n 0, 1) := by decide +kernel
theorem dX5_enter_23 : decode cX5_enter 23 = .ok (.getfield 16, 3) := by decide +kernel
theorem dX5_enter_26 : decode cX5_enter 26 = .ok (.iload 4, 2) := by decide +kernel
theorem dX5_enter_28 : decode cX5_enter 28 = .ok (.iconst 0, 1) := by decide +kernel
theorem dX5_enter_29 : decode cX5_enter 29 = .ok (.aload_n 1, 1) := by decide +kernel
theorem dX5_enter_30 : decode cX5_enter 30 = .ok (.getfield 34, 3) := by decide +kernel
theorem dX5_enter_33 : decode cX5_enter 33 = .ok (.invokevirtual 39, 3) := by decide +kernel
theorem dX5_enter_36 : decode cX5_enter 36 = .ok (.aload_n 0, 1) := by decide +kernel
theorem dX5_enter_37 : decode cX5_enter 37 = .ok (.getfield 16, 3) := by decide +kernel
theorem dX5_enter_40 : decode cX5_enter 40 = .ok (.iload 4, 2) := by decide +kernel
theorem dX5_enter_42 : decode cX5_enter 42 = .ok (.iconst 1, 1) := by decide +kernel
theorem dX5_enter_43 : decode cX5_enter 43 = .ok (.iload_n 2, 1) := by decide +kernel
theorem dX5_enter_44 : decode cX5_enter 44 = .ok (.invokevirtual 39, 3) := by decide +kernel
theorem dX5_enter_47 : decode cX5_enter 47 = .ok (.aload_n 0, 1) := by decide +kernel
theorem dX5_enter_48 : decode cX5_enter 48 = .ok (.getfield 16, 3) := by decide +kernel
theorem dX5_enter_51 : decode cX5_enter 51 = .ok (.iload 4, 2) := by decide +kernel
theorem dX5_enter_53 : decode cX5_enter 53 = .ok (.iconst 2, 1) := by decide +kernel
theorem dX5_enter_54 : decode cX5_enter 54 = .ok (.iload_n 3, 1) := by decide +kernel
theorem dX5_enter_55 : decode cX5_enter 55 = .ok (.invokevirtual 39, 3) := by decide +kernel
theorem dX5_enter_58 : decode cX5_enter 58 = .ok (.aload_n 0, 1) := by decide +kernel
theorem dX5_enter_59 : decode cX5_enter 59 = .ok (.getfield 16, 3) := by decide +kernel
theorem dX5_enter_62 : decode cX5_enter 62 = .ok (.iload 4, 2) := by decide +kernel
theorem dX5_enter_64 : decode cX5_enter 64 = .ok (.iconst 3, 1) := by decide +kernel
theorem dX5_enter_65 : decode cX5_enter 65 = .ok (.aload_n 1, 1) := by decide +kernel
theorem dX5_enter_66 : decode cX5_enter 66 = .ok (.getfield 43, 3) := by decide +kernel
theorem dX5_enter_69 : decode cX5_enter 69 = .ok (.invokevirtual 39, 3) := by decide +kernel
theorem dX5_enter_72 : decode cX5_enter 72 = .ok (.aload_n 0, 1) := by decide +kernel
theorem dX5_enter_73 : decode cX5_enter 73 = .ok (.getfield 16, 3) := by decide +kernel
theorem dX5_enter_76 : decode cX5_enter 76 = .ok (.iload 4, 2) := by decide +kernel
theorem dX5_enter_78 : decode cX5_enter 78 = .ok (.iconst 4, 1) := by decide +kernel
theorem dX5_enter_79 : decode cX5_enter 79 = .ok (.aload_n 1, 1) := by decide +kernel
theorem dX5_enter_80 : decode cX5_enter 80 = .ok (.getfield 46, 3) := by decide +kernel
theorem dX5_enter_83 : decode cX5_enter 83 = .ok (.invokevirtual 39, 3) := by decide +kernel
theorem dX5_enter_86 : decode cX5_enter 86 = .ok (.aload_n 1, 1) := by decide +kernel
theorem dX5_enter_87 : decode cX5_enter 87 = .ok (.getfield 49, 3) := by decide +kernel
theorem dX5_enter_90 : decode cX5_enter 90 = .ok (.iconst 0, 1) := by decide +kernel
theorem dX5_enter_91 : decode cX5_enter 91 = .ok (.aload_n 0, 1) := by decide +kernel
theorem dX5_enter_92 : decode cX5_enter 92 = .ok (.getfield 20, 3) := by decide +kernel
theorem dX5_enter_95 : decode cX5_enter 95 = .ok (.iload 4, 2) := by decide +kernel
theorem dX5_enter_97 : decode cX5_enter 97 = .ok (.bipush 120, 2) := by decide +kernel
theorem dX5_enter_99 : decode cX5_enter 99 = .ok (.imul, 1) := by decide +kernel
theorem dX5_enter_100 : decode cX5_enter 100 = .ok (.bipush 120, 2) := by decide +kernel
theorem dX5_enter_102 : decode cX5_enter 102 = .ok (.invokestatic 50, 3) := by decide +kernel
theorem dX5_enter_105 : decode cX5_enter 105 = .ok (.iload 4, 2) := by decide +kernel
theorem dX5_enter_107 : decode cX5_enter 107 = .ok (.ireturn, 1) := by decide +kernel
theorem dX5_tells_0 : decode cX5_tells 0 = .ok (.aload_n 0, 1) := by decide +kernel
theorem dX5_tells_1 : decode cX5_tells 1 = .ok (.iload_n 1, 1) := by decide +kernel
theorem dX5_tells_2 : decode cX5_tells 2 = .ok (.aload_n 2, 1) := by decide +kernel
theorem dX5_tells_3 : decode cX5_tells 3 = .ok (.iload_n 3, 1) := by decide +kernel
theorem dX5_tells_4 : decode cX5_tells 4 = .ok (.iload 4, 2) := by decide +kernel
theorem dX5_tells_6 : decode cX5_tells 6 = .ok (.invokevirtual 56, 3) := by decide +kernel
theorem dX5_tells_9 : decode cX5_tells 9 = .ok (.istore 5, 2) := by decide +kernel
theorem dX5_tells_11 : decode cX5_tells 11 = .ok (.iload 5, 2) := by decide +kernel
theorem dX5_tells_13 : decode cX5_tells 13 = .ok (.iconst (-1), 1) := by decide +kernel
theorem dX5_tells_14 : decode cX5_tells 14 = .ok (.if_icmp .ne 11, 3) := by decide +kernel
theorem dX5_tells_17 : decode cX5_tells 17 = .ok (.getstatic 60, 3) := by decide +kernel
theorem dX5_tells_20 : decode cX5_tells 20 = .ok (.iload_n 1, 1) := by decide +kernel
theorem dX5_tells_21 : decode cX5_tells 21 = .ok (.iaload, 1) := by decide +kernel
theorem dX5_tells_22 : decode cX5_tells 22 = .ok (.goto 20, 3) := by decide +kernel
theorem dX5_tells_25 : decode cX5_tells 25 = .ok (.aload_n 0, 1) := by decide +kernel
theorem dX5_tells_26 : decode cX5_tells 26 = .ok (.iload 5, 2) := by decide +kernel
theorem dX5_tells_28 : decode cX5_tells 28 = .ok (.iconst 0, 1) := by decide +kernel
theorem dX5_tells_29 : decode cX5_tells 29 = .ok (.aload_n 0, 1) := by decide +kernel
theorem dX5_tells_30 : decode cX5_tells 30 = .ok (.getfield 16, 3) := by decide +kernel
theorem dX5_tells_33 : decode cX5_tells 33 = .ok (.iload 5, 2) := by decide +kernel
theorem dX5_tells_35 : decode cX5_tells 35 = .ok (.iconst 3, 1) := by decide +kernel
theorem dX5_tells_36 : decode cX5_tells 36 = .ok (.invokevirtual 63, 3) := by decide +kernel
theorem dX5_tells_39 : decode cX5_tells 39 = .ok (.invokevirtual 67, 3) := by decide +kernel
theorem dX5_tells_42 : decode cX5_tells 42 = .ok (.ireturn, 1) := by decide +kernel
theorem dX5_find_0 : decode cX5_find 0 = .ok (.aload_n 0, 1) := by decide +kernel
theorem dX5_find_1 : decode cX5_find 1 = .ok (.aload_n 2, 1) := by decide +kernel
theorem dX5_find_2 : decode cX5_find 2 = .ok (.iload_n 3, 1) := by decide +kernel
theorem dX5_find_3 : decode cX5_find 3 = .ok (.iload 4, 2) := by decide +kernel
theorem dX5_find_5 : decode cX5_find 5 = .ok (.invokevirtual 71, 3) := by decide +kernel
theorem dX5_find_8 : decode cX5_find 8 = .ok (.aload_n 0, 1) := by decide +kernel
theorem dX5_find_9 : decode cX5_find 9 = .ok (.getfield 16, 3) := by decide +kernel
theorem dX5_find_12 : decode cX5_find 12 = .ok (.getfield 30, 3) := by decide +kernel
theorem dX5_find_15 : decode cX5_find 15 = .ok (.iconst 1, 1) := by decide +kernel
theorem dX5_find_16 : decode cX5_find 16 = .ok (.isub, 1) := by decide +kernel
theorem dX5_find_17 : decode cX5_find 17 = .ok (.istore 5, 2) := by decide +kernel
theorem dX5_find_19 : decode cX5_find 19 = .ok (.iload 5, 2) := by decide +kernel
theorem dX5_find_21 : decode cX5_find 21 = .ok (.ifCond .lt 116, 3) := by decide +kernel
theorem dX5_find_24 : decode cX5_find 24 = .ok (.aload_n 0, 1) := by decide +kernel
theorem dX5_find_25 : decode cX5_find 25 = .ok (.getfield 16, 3) := by decide +kernel
theorem dX5_find_28 : decode cX5_find 28 = .ok (.iload 5, 2) := by decide +kernel
theorem dX5_find_30 : decode cX5_find 30 = .ok (.iconst 1, 1) := by decide +kernel
theorem dX5_find_31 : decode cX5_find 31 = .ok (.invokevirtual 63, 3) := by decide +kernel
theorem dX5_find_34 : decode cX5_find 34 = .ok (.aload_n 2, 1) := by decide +kernel
theorem dX5_find_35 : decode cX5_find 35 = .ok (.getfield 75, 3) := by decide +kernel
theorem dX5_find_38 : decode cX5_find 38 = .ok (.if_icmp .gt 24, 3) := by decide +kernel
theorem dX5_find_41 : decode cX5_find 41 = .ok (.aload_n 2, 1) := by decide +kernel
theorem dX5_find_42 : decode cX5_find 42 = .ok (.getfield 75, 3) := by decide +kernel
theorem dX5_find_45 : decode cX5_find 45 = .ok (.aload_n 0, 1) := by decide +kernel
theorem dX5_find_46 : decode cX5_find 46 = .ok (.getfield 16, 3) := by decide +kernel
theorem dX5_find_49 : decode cX5_find 49 = .ok (.iload 5, 2) := by decide +kernel
theorem dX5_find_51 : decode cX5_find 51 = .ok (.iconst 2, 1) := by decide +kernel
theorem dX5_find_52 : decode cX5_find 52 = .ok (.invokevirtual 63, 3) := by decide +kernel
theorem dX5_find_55 : decode cX5_find 55 = .ok (.if_icmp .ge 7, 3) := by decide +kernel
theorem dX5_find_58 : decode cX5_find 58 = .ok (.iconst 1, 1) := by decide +kernel
theorem dX5_find_59 : decode cX5_find 59 = .ok (.goto 4, 3) := by decide +kernel
theorem dX5_find_62 : decode cX5_find 62 = .ok (.iconst 0, 1) := by decide +kernel
theorem dX5_find_63 : decode cX5_find 63 = .ok (.istore 6, 2) := by decide +kernel
theorem dX5_find_65 : decode cX5_find 65 = .ok (.iload 6, 2) := by decide +kernel
theorem dX5_find_67 : decode cX5_find 67 = .ok (.ifCond .eq 64, 3) := by decide +kernel
theorem dX5_find_70 : decode cX5_find 70 = .ok (.aload_n 0, 1) := by decide +kernel
theorem dX5_find_71 : decode cX5_find 71 = .ok (.getfield 16, 3) := by decide +kernel
theorem dX5_find_74 : decode cX5_find 74 = .ok (.iload 5, 2) := by decide +kernel
theorem dX5_find_76 : decode cX5_find 76 = .ok (.iconst 0, 1) := by decide +kernel
theorem dX5_find_77 : decode cX5_find 77 = .ok (.invokevirtual 63, 3) := by decide +kernel
theorem dX5_find_80 : decode cX5_find 80 = .ok (.iload_n 1, 1) := by decide +kernel
theorem dX5_find_81 : decode cX5_find 81 = .ok (.if_icmp .ne 50, 3) := by decide +kernel
theorem dX5_find_84 : decode cX5_find 84 = .ok (.aload_n 0, 1) := by decide +kernel
theorem dX5_find_85 : decode cX5_find 85 = .ok (.getfield 16, 3) := by decide +kernel
theorem dX5_find_88 : decode cX5_find 88 = .ok (.iload 5, 2) := by decide +kernel
theorem dX5_find_90 : decode cX5_find 90 = .ok (.iconst 3, 1) := by decide +kernel
theorem dX5_find_91 : decode cX5_find 91 = .ok (.invokevirtual 63, 3) := by decide +kernel
theorem dX5_find_94 : decode cX5_find 94 = .ok (.istore 7, 2) := by decide +kernel
theorem dX5_find_96 : decode cX5_find 96 = .ok (.aload_n 0, 1) := by decide +kernel
theorem dX5_find_97 : decode cX5_find 97 = .ok (.getfield 16, 3) := by decide +kernel
theorem dX5_find_100 : decode cX5_find 100 = .ok (.iload 5, 2) := by decide +kernel
theorem dX5_find_102 : decode cX5_find 102 = .ok (.iconst 4, 1) := by decide +kernel
theorem dX5_find_103 : decode cX5_find 103 = .ok (.invokevirtual 63, 3) := by decide +kernel
theorem dX5_find_106 : decode cX5_find 106 = .ok (.istore 8, 2) := by decide +kernel
theorem dX5_find_108 : decode cX5_find 108 = .ok (.iload 7, 2) := by decide +kernel
theorem dX5_find_110 : decode cX5_find 110 = .ok (.iload 8, 2) := by decide +kernel
theorem dX5_find_112 : decode cX5_find 112 = .ok (.if_icmp .eq 16, 3) := by decide +kernel
theorem dX5_find_115 : decode cX5_find 115 = .ok (.aload_n 0, 1) := by decide +kernel
theorem dX5_find_116 : decode cX5_find 116 = .ok (.iload 5, 2) := by decide +kernel
theorem dX5_find_118 : decode cX5_find 118 = .ok (.iload 7, 2) := by decide +kernel
theorem dX5_find_120 : decode cX5_find 120 = .ok (.iload 8, 2) := by decide +kernel
theorem dX5_find_122 : decode cX5_find 122 = .ok (.invokevirtual 67, 3) := by decide +kernel
theorem dX5_find_125 : decode cX5_find 125 = .ok (.ifCond .eq 6, 3) := by decide +kernel
theorem dX5_find_128 : decode cX5_find 128 = .ok (.iload 5, 2) := by decide +kernel
theorem dX5_find_130 : decode cX5_find 130 = .ok (.ireturn, 1) := by decide +kernel
theorem dX5_find_131 : decode cX5_find 131 = .ok (.iinc 5 (-1), 3) := by decide +kernel
theorem dX5_find_134 : decode cX5_find 134 = .ok (.goto (-115), 3) := by decide +kernel
theorem dX5_find_137 : decode cX5_find 137 = .ok (.iconst (-1), 1) := by decide +kernel
theorem dX5_find_138 : decode cX5_find 138 = .ok (.ireturn, 1) := by decide +kernel
theorem dX5_nameAll_0 : decode cX5_nameAll 0 = .ok (.aload_n 0, 1) := by decide +kernel
theorem dX5_nameAll_1 : decode cX5_nameAll 1 = .ok (.getfield 24, 3) := by decide +kernel
theorem dX5_nameAll_4 : decode cX5_nameAll 4 = .ok (.iconst 0, 1) := by decide +kernel
theorem dX5_nameAll_5 : decode cX5_nameAll 5 = .ok (.invokestatic 80, 3) := by decide +kernel
theorem dX5_nameAll_8 : decode cX5_nameAll 8 = .ok (.aload_n 0, 1) := by decide +kernel
theorem dX5_nameAll_9 : decode cX5_nameAll 9 = .ok (.getfield 24, 3) := by decide +kernel
theorem dX5_nameAll_12 : decode cX5_nameAll 12 = .ok (.iconst 0, 1) := by decide +kernel
theorem dX5_nameAll_13 : decode cX5_nameAll 13 = .ok (.iload_n 2, 1) := by decide +kernel
theorem dX5_nameAll_14 : decode cX5_nameAll 14 = .ok (.iastore, 1) := by decide +kernel
theorem dX5_nameAll_15 : decode cX5_nameAll 15 = .ok (.aload_n 0, 1) := by decide +kernel
theorem dX5_nameAll_16 : decode cX5_nameAll 16 = .ok (.getfield 24, 3) := by decide +kernel
theorem dX5_nameAll_19 : decode cX5_nameAll 19 = .ok (.iconst 1, 1) := by decide +kernel
theorem dX5_nameAll_20 : decode cX5_nameAll 20 = .ok (.aload_n 1, 1) := by decide +kernel
theorem dX5_nameAll_21 : decode cX5_nameAll 21 = .ok (.getfield 86, 3) := by decide +kernel
theorem dX5_nameAll_24 : decode cX5_nameAll 24 = .ok (.iload_n 2, 1) := by decide +kernel
theorem dX5_nameAll_25 : decode cX5_nameAll 25 = .ok (.iaload, 1) := by decide +kernel
theorem dX5_nameAll_26 : decode cX5_nameAll 26 = .ok (.iastore, 1) := by decide +kernel
theorem dX5_nameAll_27 : decode cX5_nameAll 27 = .ok (.aload_n 0, 1) := by decide +kernel
theorem dX5_nameAll_28 : decode cX5_nameAll 28 = .ok (.getfield 24, 3) := by decide +kernel
theorem dX5_nameAll_31 : decode cX5_nameAll 31 = .ok (.iconst 2, 1) := by decide +kernel
theorem dX5_nameAll_32 : decode cX5_nameAll 32 = .ok (.aload_n 1, 1) := by decide +kernel
theorem dX5_nameAll_33 : decode cX5_nameAll 33 = .ok (.getfield 75, 3) := by decide +kernel
theorem dX5_nameAll_36 : decode cX5_nameAll 36 = .ok (.iastore, 1) := by decide +kernel
theorem dX5_nameAll_37 : decode cX5_nameAll 37 = .ok (.aload_n 0, 1) := by decide +kernel
theorem dX5_nameAll_38 : decode cX5_nameAll 38 = .ok (.getfield 24, 3) := by decide +kernel
theorem dX5_nameAll_41 : decode cX5_nameAll 41 = .ok (.iconst 3, 1) := by decide +kernel
theorem dX5_nameAll_42 : decode cX5_nameAll 42 = .ok (.aload_n 1, 1) := by decide +kernel
theorem dX5_nameAll_43 : decode cX5_nameAll 43 = .ok (.invokevirtual 89, 3) := by decide +kernel
theorem dX5_nameAll_46 : decode cX5_nameAll 46 = .ok (.iastore, 1) := by decide +kernel
theorem dX5_nameAll_47 : decode cX5_nameAll 47 = .ok (.aload_n 0, 1) := by decide +kernel
theorem dX5_nameAll_48 : decode cX5_nameAll 48 = .ok (.getfield 24, 3) := by decide +kernel
theorem dX5_nameAll_51 : decode cX5_nameAll 51 = .ok (.iconst 4, 1) := by decide +kernel
theorem dX5_nameAll_52 : decode cX5_nameAll 52 = .ok (.aload_n 1, 1) := by decide +kernel
theorem dX5_nameAll_53 : decode cX5_nameAll 53 = .ok (.getfield 93, 3) := by decide +kernel
theorem dX5_nameAll_56 : decode cX5_nameAll 56 = .ok (.invokevirtual 97, 3) := by decide +kernel
theorem dX5_nameAll_59 : decode cX5_nameAll 59 = .ok (.iastore, 1) := by decide +kernel
theorem dX5_nameAll_60 : decode cX5_nameAll 60 = .ok (.iload_n 3, 1) := by decide +kernel
theorem dX5_nameAll_61 : decode cX5_nameAll 61 = .ok (.iconst (-1), 1) := by decide +kernel
theorem dX5_nameAll_62 : decode cX5_nameAll 62 = .ok (.if_icmp .eq 81, 3) := by decide +kernel
theorem dX5_nameAll_65 : decode cX5_nameAll 65 = .ok (.aload_n 0, 1) := by decide +kernel
theorem dX5_nameAll_66 : decode cX5_nameAll 66 = .ok (.getfield 24, 3) := by decide +kernel
theorem dX5_nameAll_69 : decode cX5_nameAll 69 = .ok (.iconst 5, 1) := by decide +kernel
theorem dX5_nameAll_70 : decode cX5_nameAll 70 = .ok (.aload_n 1, 1) := by decide +kernel
theorem dX5_nameAll_71 : decode cX5_nameAll 71 = .ok (.getfield 102, 3) := by decide +kernel
theorem dX5_nameAll_74 : decode cX5_nameAll 74 = .ok (.iload_n 3, 1) := by decide +kernel
theorem dX5_nameAll_75 : decode cX5_nameAll 75 = .ok (.iconst 3, 1) := by decide +kernel
theorem dX5_nameAll_76 : decode cX5_nameAll 76 = .ok (.invokevirtual 108, 3) := by decide +kernel
theorem dX5_nameAll_79 : decode cX5_nameAll 79 = .ok (.iastore, 1) := by decide +kernel
theorem dX5_nameAll_80 : decode cX5_nameAll 80 = .ok (.aload_n 0, 1) := by decide +kernel
theorem dX5_nameAll_81 : decode cX5_nameAll 81 = .ok (.getfield 24, 3) := by decide +kernel
theorem dX5_nameAll_84 : decode cX5_nameAll 84 = .ok (.bipush 6, 2) := by decide +kernel
theorem dX5_nameAll_86 : decode cX5_nameAll 86 = .ok (.aload_n 1, 1) := by decide +kernel
theorem dX5_nameAll_87 : decode cX5_nameAll 87 = .ok (.getfield 102, 3) := by decide +kernel
theorem dX5_nameAll_90 : decode cX5_nameAll 90 = .ok (.iload_n 3, 1) := by decide +kernel
theorem dX5_nameAll_91 : decode cX5_nameAll 91 = .ok (.iconst 4, 1) := by decide +kernel
theorem dX5_nameAll_92 : decode cX5_nameAll 92 = .ok (.invokevirtual 108, 3) := by decide +kernel
theorem dX5_nameAll_95 : decode cX5_nameAll 95 = .ok (.iastore, 1) := by decide +kernel
theorem dX5_nameAll_96 : decode cX5_nameAll 96 = .ok (.aload_n 0, 1) := by decide +kernel
theorem dX5_nameAll_97 : decode cX5_nameAll 97 = .ok (.getfield 24, 3) := by decide +kernel
theorem dX5_nameAll_100 : decode cX5_nameAll 100 = .ok (.bipush 7, 2) := by decide +kernel
theorem dX5_nameAll_102 : decode cX5_nameAll 102 = .ok (.aload_n 1, 1) := by decide +kernel
theorem dX5_nameAll_103 : decode cX5_nameAll 103 = .ok (.getfield 102, 3) := by decide +kernel
theorem dX5_nameAll_106 : decode cX5_nameAll 106 = .ok (.iload_n 3, 1) := by decide +kernel
theorem dX5_nameAll_107 : decode cX5_nameAll 107 = .ok (.iconst 0, 1) := by decide +kernel
theorem dX5_nameAll_108 : decode cX5_nameAll 108 = .ok (.invokevirtual 108, 3) := by decide +kernel
theorem dX5_nameAll_111 : decode cX5_nameAll 111 = .ok (.iastore, 1) := by decide +kernel
theorem dX5_nameAll_112 : decode cX5_nameAll 112 = .ok (.aload_n 0, 1) := by decide +kernel
theorem dX5_nameAll_113 : decode cX5_nameAll 113 = .ok (.getfield 24, 3) := by decide +kernel
theorem dX5_nameAll_116 : decode cX5_nameAll 116 = .ok (.bipush 8, 2) := by decide +kernel
theorem dX5_nameAll_118 : decode cX5_nameAll 118 = .ok (.aload_n 1, 1) := by decide +kernel
theorem dX5_nameAll_119 : decode cX5_nameAll 119 = .ok (.getfield 102, 3) := by decide +kernel
theorem dX5_nameAll_122 : decode cX5_nameAll 122 = .ok (.iload_n 3, 1) := by decide +kernel
theorem dX5_nameAll_123 : decode cX5_nameAll 123 = .ok (.iconst 1, 1) := by decide +kernel
theorem dX5_nameAll_124 : decode cX5_nameAll 124 = .ok (.invokevirtual 108, 3) := by decide +kernel
theorem dX5_nameAll_127 : decode cX5_nameAll 127 = .ok (.iastore, 1) := by decide +kernel
theorem dX5_nameAll_128 : decode cX5_nameAll 128 = .ok (.aload_n 0, 1) := by decide +kernel
theorem dX5_nameAll_129 : decode cX5_nameAll 129 = .ok (.getfield 24, 3) := by decide +kernel
theorem dX5_nameAll_132 : decode cX5_nameAll 132 = .ok (.bipush 9, 2) := by decide +kernel
theorem dX5_nameAll_134 : decode cX5_nameAll 134 = .ok (.aload_n 1, 1) := by decide +kernel
theorem dX5_nameAll_135 : decode cX5_nameAll 135 = .ok (.getfield 102, 3) := by decide +kernel
theorem dX5_nameAll_138 : decode cX5_nameAll 138 = .ok (.iload_n 3, 1) := by decide +kernel
theorem dX5_nameAll_139 : decode cX5_nameAll 139 = .ok (.invokevirtual 109, 3) := by decide +kernel
theorem dX5_nameAll_142 : decode cX5_nameAll 142 = .ok (.iastore, 1) := by decide +kernel
theorem dX5_nameAll_143 : decode cX5_nameAll 143 = .ok (.return_, 1) := by decide +kernel
theorem dX5_work_0 : decode cX5_work 0 = .ok (.iconst (-1), 1) := by decide +kernel
theorem dX5_work_1 : decode cX5_work 1 = .ok (.istore 4, 2) := by decide +kernel
theorem dX5_work_3 : decode cX5_work 3 = .ok (.iload_n 2, 1) := by decide +kernel
theorem dX5_work_4 : decode cX5_work 4 = .ok (.istore 5, 2) := by decide +kernel
theorem dX5_work_6 : decode cX5_work 6 = .ok (.iload 5, 2) := by decide +kernel
theorem dX5_work_8 : decode cX5_work 8 = .ok (.iload_n 3, 1) := by decide +kernel
theorem dX5_work_9 : decode cX5_work 9 = .ok (.if_icmp .ge 178, 3) := by decide +kernel
theorem dX5_work_12 : decode cX5_work 12 = .ok (.iload 5, 2) := by decide +kernel
theorem dX5_work_14 : decode cX5_work 14 = .ok (.bipush 120, 2) := by decide +kernel
theorem dX5_work_16 : decode cX5_work 16 = .ok (.if_icmp .ge 171, 3) := by decide +kernel
theorem dX5_work_19 : decode cX5_work 19 = .ok (.aload_n 0, 1) := by decide +kernel
theorem dX5_work_20 : decode cX5_work 20 = .ok (.getfield 20, 3) := by decide +kernel
theorem dX5_work_23 : decode cX5_work 23 = .ok (.iload_n 1, 1) := by decide +kernel
theorem dX5_work_24 : decode cX5_work 24 = .ok (.bipush 120, 2) := by decide +kernel
theorem dX5_work_26 : decode cX5_work 26 = .ok (.imul, 1) := by decide +kernel
theorem dX5_work_27 : decode cX5_work 27 = .ok (.iload 5, 2) := by decide +kernel
theorem dX5_work_29 : decode cX5_work 29 = .ok (.iadd, 1) := by decide +kernel
theorem dX5_work_30 : decode cX5_work 30 = .ok (.iaload, 1) := by decide +kernel
theorem dX5_work_31 : decode cX5_work 31 = .ok (.istore 6, 2) := by decide +kernel
theorem dX5_work_33 : decode cX5_work 33 = .ok (.iload 6, 2) := by decide +kernel
theorem dX5_work_35 : decode cX5_work 35 = .ok (.bipush (-11), 2) := by decide +kernel
theorem dX5_work_37 : decode cX5_work 37 = .ok (.if_icmp .le 42, 3) := by decide +kernel
theorem dX5_work_40 : decode cX5_work 40 = .ok (.iload 4, 2) := by decide +kernel
theorem dX5_work_42 : decode cX5_work 42 = .ok (.bipush 119, 2) := by decide +kernel
theorem dX5_work_44 : decode cX5_work 44 = .ok (.if_icmp .ge 137, 3) := by decide +kernel
theorem dX5_work_47 : decode cX5_work 47 = .ok (.iinc 4 1, 3) := by decide +kernel
theorem dX5_work_50 : decode cX5_work 50 = .ok (.aload_n 0, 1) := by decide +kernel
theorem dX5_work_51 : decode cX5_work 51 = .ok (.getfield 27, 3) := by decide +kernel
theorem dX5_work_54 : decode cX5_work 54 = .ok (.iload 4, 2) := by decide +kernel
theorem dX5_work_56 : decode cX5_work 56 = .ok (.iload 6, 2) := by decide +kernel
theorem dX5_work_58 : decode cX5_work 58 = .ok (.ifCond .lt 8, 3) := by decide +kernel
theorem dX5_work_61 : decode cX5_work 61 = .ok (.iload 6, 2) := by decide +kernel
theorem dX5_work_63 : decode cX5_work 63 = .ok (.goto 12, 3) := by decide +kernel
theorem dX5_work_66 : decode cX5_work 66 = .ok (.aload_n 0, 1) := by decide +kernel
theorem dX5_work_67 : decode cX5_work 67 = .ok (.getfield 24, 3) := by decide +kernel
theorem dX5_work_70 : decode cX5_work 70 = .ok (.iconst (-1), 1) := by decide +kernel
theorem dX5_work_71 : decode cX5_work 71 = .ok (.iload 6, 2) := by decide +kernel
theorem dX5_work_73 : decode cX5_work 73 = .ok (.isub, 1) := by decide +kernel
theorem dX5_work_74 : decode cX5_work 74 = .ok (.iaload, 1) := by decide +kernel
theorem dX5_work_75 : decode cX5_work 75 = .ok (.iastore, 1) := by decide +kernel
theorem dX5_work_76 : decode cX5_work 76 = .ok (.goto 105, 3) := by decide +kernel
theorem dX5_work_79 : decode cX5_work 79 = .ok (.iload 6, 2) := by decide +kernel
theorem dX5_work_81 : decode cX5_work 81 = .ok (.bipush (-20), 2) := by decide +kernel
theorem dX5_work_83 : decode cX5_work 83 = .ok (.if_icmp .eq 10, 3) := by decide +kernel
theorem dX5_work_86 : decode cX5_work 86 = .ok (.iload 6, 2) := by decide +kernel
theorem dX5_work_88 : decode cX5_work 88 = .ok (.bipush (-21), 2) := by decide +kernel
theorem dX5_work_90 : decode cX5_work 90 = .ok (.if_icmp .ne 51, 3) := by decide +kernel
theorem dX5_work_93 : decode cX5_work 93 = .ok (.iload 4, 2) := by decide +kernel
theorem dX5_work_95 : decode cX5_work 95 = .ok (.ifCond .lt 86, 3) := by decide +kernel
theorem dX5_work_98 : decode cX5_work 98 = .ok (.aload_n 0, 1) := by decide +kernel
theorem dX5_work_99 : decode cX5_work 99 = .ok (.getfield 27, 3) := by decide +kernel
theorem dX5_work_102 : decode cX5_work 102 = .ok (.iload 4, 2) := by decide +kernel
theorem dX5_work_104 : decode cX5_work 104 = .ok (.iload 6, 2) := by decide +kernel
theorem dX5_work_106 : decode cX5_work 106 = .ok (.bipush (-21), 2) := by decide +kernel
theorem dX5_work_108 : decode cX5_work 108 = .ok (.if_icmp .ne 14, 3) := by decide +kernel
theorem dX5_work_111 : decode cX5_work 111 = .ok (.aload_n 0, 1) := by decide +kernel
theorem dX5_work_112 : decode cX5_work 112 = .ok (.getfield 27, 3) := by decide +kernel
theorem dX5_work_115 : decode cX5_work 115 = .ok (.iload 4, 2) := by decide +kernel
theorem dX5_work_117 : decode cX5_work 117 = .ok (.iaload, 1) := by decide +kernel
theorem dX5_work_118 : decode cX5_work 118 = .ok (.ineg, 1) := by decide +kernel
theorem dX5_work_119 : decode cX5_work 119 = .ok (.goto 18, 3) := by decide +kernel
theorem dX5_work_122 : decode cX5_work 122 = .ok (.aload_n 0, 1) := by decide +kernel
theorem dX5_work_123 : decode cX5_work 123 = .ok (.getfield 27, 3) := by decide +kernel
theorem dX5_work_126 : decode cX5_work 126 = .ok (.iload 4, 2) := by decide +kernel
theorem dX5_work_128 : decode cX5_work 128 = .ok (.iaload, 1) := by decide +kernel
theorem dX5_work_129 : decode cX5_work 129 = .ok (.ifCond .ne 7, 3) := by decide +kernel
theorem dX5_work_132 : decode cX5_work 132 = .ok (.iconst 1, 1) := by decide +kernel
theorem dX5_work_133 : decode cX5_work 133 = .ok (.goto 4, 3) := by decide +kernel
theorem dX5_work_136 : decode cX5_work 136 = .ok (.iconst 0, 1) := by decide +kernel
theorem dX5_work_137 : decode cX5_work 137 = .ok (.iastore, 1) := by decide +kernel
theorem dX5_work_138 : decode cX5_work 138 = .ok (.goto 43, 3) := by decide +kernel
theorem dX5_work_141 : decode cX5_work 141 = .ok (.iload 4, 2) := by decide +kernel
theorem dX5_work_143 : decode cX5_work 143 = .ok (.iconst 1, 1) := by decide +kernel
theorem dX5_work_144 : decode cX5_work 144 = .ok (.if_icmp .lt 37, 3) := by decide +kernel
theorem dX5_work_147 : decode cX5_work 147 = .ok (.iinc 4 (-1), 3) := by decide +kernel
theorem dX5_work_150 : decode cX5_work 150 = .ok (.aload_n 0, 1) := by decide +kernel
theorem dX5_work_151 : decode cX5_work 151 = .ok (.getfield 27, 3) := by decide +kernel
theorem dX5_work_154 : decode cX5_work 154 = .ok (.iload 4, 2) := by decide +kernel
theorem dX5_work_156 : decode cX5_work 156 = .ok (.bipush (-100), 2) := by decide +kernel
theorem dX5_work_158 : decode cX5_work 158 = .ok (.iload 6, 2) := by decide +kernel
theorem dX5_work_160 : decode cX5_work 160 = .ok (.isub, 1) := by decide +kernel
theorem dX5_work_161 : decode cX5_work 161 = .ok (.aload_n 0, 1) := by decide +kernel
theorem dX5_work_162 : decode cX5_work 162 = .ok (.getfield 27, 3) := by decide +kernel
theorem dX5_work_165 : decode cX5_work 165 = .ok (.iload 4, 2) := by decide +kernel
theorem dX5_work_167 : decode cX5_work 167 = .ok (.iaload, 1) := by decide +kernel
theorem dX5_work_168 : decode cX5_work 168 = .ok (.aload_n 0, 1) := by decide +kernel
theorem dX5_work_169 : decode cX5_work 169 = .ok (.getfield 27, 3) := by decide +kernel
theorem dX5_work_172 : decode cX5_work 172 = .ok (.iload 4, 2) := by decide +kernel
theorem dX5_work_174 : decode cX5_work 174 = .ok (.iconst 1, 1) := by decide +kernel
theorem dX5_work_175 : decode cX5_work 175 = .ok (.iadd, 1) := by decide +kernel
theorem dX5_work_176 : decode cX5_work 176 = .ok (.iaload, 1) := by decide +kernel
theorem dX5_work_177 : decode cX5_work 177 = .ok (.invokestatic 113, 3) := by decide +kernel
theorem dX5_work_180 : decode cX5_work 180 = .ok (.iastore, 1) := by decide +kernel
theorem dX5_work_181 : decode cX5_work 181 = .ok (.iinc 5 1, 3) := by decide +kernel
theorem dX5_work_184 : decode cX5_work 184 = .ok (.goto (-178), 3) := by decide +kernel
theorem dX5_work_187 : decode cX5_work 187 = .ok (.iload 4, 2) := by decide +kernel
theorem dX5_work_189 : decode cX5_work 189 = .ok (.ifCond .lt 13, 3) := by decide +kernel
theorem dX5_work_192 : decode cX5_work 192 = .ok (.aload_n 0, 1) := by decide +kernel
theorem dX5_work_193 : decode cX5_work 193 = .ok (.getfield 27, 3) := by decide +kernel
theorem dX5_work_196 : decode cX5_work 196 = .ok (.iload 4, 2) := by decide +kernel
theorem dX5_work_198 : decode cX5_work 198 = .ok (.iaload, 1) := by decide +kernel
theorem dX5_work_199 : decode cX5_work 199 = .ok (.goto 4, 3) := by decide +kernel
theorem dX5_work_202 : decode cX5_work 202 = .ok (.iconst 0, 1) := by decide +kernel
theorem dX5_work_203 : decode cX5_work 203 = .ok (.ireturn, 1) := by decide +kernel
theorem dX5_joined_0 : decode cX5_joined 0 = .ok (.iload_n 0, 1) := by decide +kernel
theorem dX5_joined_1 : decode cX5_joined 1 = .ok (.lookupswitch 166 #[(5, 152), (37, 107), (42, 91), (43, 83), (45, 87), (47, 95), (60, 130), (61, 119), (62, 141)], 83) := by decide +kernel
theorem dX5_joined_84 : decode cX5_joined 84 = .ok (.iload_n 1, 1) := by decide +kernel
theorem dX5_joined_85 : decode cX5_joined 85 = .ok (.iload_n 2, 1) := by decide +kernel
theorem dX5_joined_86 : decode cX5_joined 86 = .ok (.iadd, 1) := by decide +kernel
theorem dX5_joined_87 : decode cX5_joined 87 = .ok (.ireturn, 1) := by decide +kernel
theorem dX5_joined_88 : decode cX5_joined 88 = .ok (.iload_n 1, 1) := by decide +kernel
theorem dX5_joined_89 : decode cX5_joined 89 = .ok (.iload_n 2, 1) := by decide +kernel
theorem dX5_joined_90 : decode cX5_joined 90 = .ok (.isub, 1) := by decide +kernel
theorem dX5_joined_91 : decode cX5_joined 91 = .ok (.ireturn, 1) := by decide +kernel
theorem dX5_joined_92 : decode cX5_joined 92 = .ok (.iload_n 1, 1) := by decide +kernel
theorem dX5_joined_93 : decode cX5_joined 93 = .ok (.iload_n 2, 1) := by decide +kernel
theorem dX5_joined_94 : decode cX5_joined 94 = .ok (.imul, 1) := by decide +kernel
theorem dX5_joined_95 : decode cX5_joined 95 = .ok (.ireturn, 1) := by decide +kernel
theorem dX5_joined_96 : decode cX5_joined 96 = .ok (.iload_n 2, 1) := by decide +kernel
theorem dX5_joined_97 : decode cX5_joined 97 = .ok (.ifCond .ne 7, 3) := by decide +kernel
theorem dX5_joined_100 : decode cX5_joined 100 = .ok (.iconst 0, 1) := by decide +kernel
theorem dX5_joined_101 : decode cX5_joined 101 = .ok (.goto 6, 3) := by decide +kernel
theorem dX5_joined_104 : decode cX5_joined 104 = .ok (.iload_n 1, 1) := by decide +kernel
theorem dX5_joined_105 : decode cX5_joined 105 = .ok (.iload_n 2, 1) := by decide +kernel
theorem dX5_joined_106 : decode cX5_joined 106 = .ok (.idiv, 1) := by decide +kernel
theorem dX5_joined_107 : decode cX5_joined 107 = .ok (.ireturn, 1) := by decide +kernel
theorem dX5_joined_108 : decode cX5_joined 108 = .ok (.iload_n 2, 1) := by decide +kernel
theorem dX5_joined_109 : decode cX5_joined 109 = .ok (.ifCond .ne 7, 3) := by decide +kernel
theorem dX5_joined_112 : decode cX5_joined 112 = .ok (.iconst 0, 1) := by decide +kernel
theorem dX5_joined_113 : decode cX5_joined 113 = .ok (.goto 6, 3) := by decide +kernel
theorem dX5_joined_116 : decode cX5_joined 116 = .ok (.iload_n 1, 1) := by decide +kernel
theorem dX5_joined_117 : decode cX5_joined 117 = .ok (.iload_n 2, 1) := by decide +kernel
theorem dX5_joined_118 : decode cX5_joined 118 = .ok (.irem, 1) := by decide +kernel
theorem dX5_joined_119 : decode cX5_joined 119 = .ok (.ireturn, 1) := by decide +kernel
theorem dX5_joined_120 : decode cX5_joined 120 = .ok (.iload_n 1, 1) := by decide +kernel
theorem dX5_joined_121 : decode cX5_joined 121 = .ok (.iload_n 2, 1) := by decide +kernel
theorem dX5_joined_122 : decode cX5_joined 122 = .ok (.if_icmp .ne 7, 3) := by decide +kernel
theorem dX5_joined_125 : decode cX5_joined 125 = .ok (.iconst 1, 1) := by decide +kernel
theorem dX5_joined_126 : decode cX5_joined 126 = .ok (.goto 4, 3) := by decide +kernel
theorem dX5_joined_129 : decode cX5_joined 129 = .ok (.iconst 0, 1) := by decide +kernel
theorem dX5_joined_130 : decode cX5_joined 130 = .ok (.ireturn, 1) := by decide +kernel
theorem dX5_joined_131 : decode cX5_joined 131 = .ok (.iload_n 1, 1) := by decide +kernel
theorem dX5_joined_132 : decode cX5_joined 132 = .ok (.iload_n 2, 1) := by decide +kernel
theorem dX5_joined_133 : decode cX5_joined 133 = .ok (.if_icmp .ge 7, 3) := by decide +kernel
theorem dX5_joined_136 : decode cX5_joined 136 = .ok (.iconst 1, 1) := by decide +kernel
theorem dX5_joined_137 : decode cX5_joined 137 = .ok (.goto 4, 3) := by decide +kernel
theorem dX5_joined_140 : decode cX5_joined 140 = .ok (.iconst 0, 1) := by decide +kernel
theorem dX5_joined_141 : decode cX5_joined 141 = .ok (.ireturn, 1) := by decide +kernel
theorem dX5_joined_142 : decode cX5_joined 142 = .ok (.iload_n 1, 1) := by decide +kernel
theorem dX5_joined_143 : decode cX5_joined 143 = .ok (.iload_n 2, 1) := by decide +kernel
theorem dX5_joined_144 : decode cX5_joined 144 = .ok (.if_icmp .le 7, 3) := by decide +kernel
theorem dX5_joined_147 : decode cX5_joined 147 = .ok (.iconst 1, 1) := by decide +kernel
theorem dX5_joined_148 : decode cX5_joined 148 = .ok (.goto 4, 3) := by decide +kernel
theorem dX5_joined_151 : decode cX5_joined 151 = .ok (.iconst 0, 1) := by decide +kernel
theorem dX5_joined_152 : decode cX5_joined 152 = .ok (.ireturn, 1) := by decide +kernel
theorem dX5_joined_153 : decode cX5_joined 153 = .ok (.iload_n 1, 1) := by decide +kernel
theorem dX5_joined_154 : decode cX5_joined 154 = .ok (.ifCond .ne 7, 3) := by decide +kernel
theorem dX5_joined_157 : decode cX5_joined 157 = .ok (.iload_n 2, 1) := by decide +kernel
theorem dX5_joined_158 : decode cX5_joined 158 = .ok (.ifCond .eq 7, 3) := by decide +kernel
theorem dX5_joined_161 : decode cX5_joined 161 = .ok (.iconst 1, 1) := by decide +kernel
theorem dX5_joined_162 : decode cX5_joined 162 = .ok (.goto 4, 3) := by decide +kernel
theorem dX5_joined_165 : decode cX5_joined 165 = .ok (.iconst 0, 1) := by decide +kernel
theorem dX5_joined_166 : decode cX5_joined 166 = .ok (.ireturn, 1) := by decide +kernel
theorem dX5_joined_167 : decode cX5_joined 167 = .ok (.iload_n 1, 1) := by decide +kernel
theorem dX5_joined_168 : decode cX5_joined 168 = .ok (.ifCond .eq 11, 3) := by decide +kernel
theorem dX5_joined_171 : decode cX5_joined 171 = .ok (.iload_n 2, 1) := by decide +kernel
theorem dX5_joined_172 : decode cX5_joined 172 = .ok (.ifCond .eq 7, 3) := by decide +kernel
theorem dX5_joined_175 : decode cX5_joined 175 = .ok (.iconst 1, 1) := by decide +kernel
theorem dX5_joined_176 : decode cX5_joined 176 = .ok (.goto 4, 3) := by decide +kernel
theorem dX5_joined_179 : decode cX5_joined 179 = .ok (.iconst 0, 1) := by decide +kernel
theorem dX5_joined_180 : decode cX5_joined 180 = .ok (.ireturn, 1) := by decide +kernel
theorem dX5_takeOver_0 : decode cX5_takeOver 0 = .ok (.aload_n 0, 1) := by decide +kernel
theorem dX5_takeOver_1 : decode cX5_takeOver 1 = .ok (.getfield 16, 3) := by decide +kernel
theorem dX5_takeOver_4 : decode cX5_takeOver 4 = .ok (.aload_n 1, 1) := by decide +kernel
theorem dX5_takeOver_5 : decode cX5_takeOver 5 = .ok (.getfield 16, 3) := by decide +kernel
theorem dX5_takeOver_8 : decode cX5_takeOver 8 = .ok (.invokevirtual 116, 3) := by decide +kernel
theorem dX5_takeOver_11 : decode cX5_takeOver 11 = .ok (.aload_n 1, 1) := by decide +kernel
theorem dX5_takeOver_12 : decode cX5_takeOver 12 = .ok (.getfield 20, 3) := by decide +kernel
theorem dX5_takeOver_15 : decode cX5_takeOver 15 = .ok (.iconst 0, 1) := by decide +kernel
theorem dX5_takeOver_16 : decode cX5_takeOver 16 = .ok (.aload_n 0, 1) := by decide +kernel
theorem dX5_takeOver_17 : decode cX5_takeOver 17 = .ok (.getfield 20, 3) := by decide +kernel
theorem dX5_takeOver_20 : decode cX5_takeOver 20 = .ok (.iconst 0, 1) := by decide +kernel
theorem dX5_takeOver_21 : decode cX5_takeOver 21 = .ok (.sipush 1440, 3) := by decide +kernel
theorem dX5_takeOver_24 : decode cX5_takeOver 24 = .ok (.invokestatic 50, 3) := by decide +kernel
theorem dX5_takeOver_27 : decode cX5_takeOver 27 = .ok (.return_, 1) := by decide +kernel
theorem dX6_init_0 : decode cX6_init 0 = .ok (.aload_n 0, 1) := by decide +kernel
theorem dX6_init_1 : decode cX6_init 1 = .ok (.invokespecial 3, 3) := by decide +kernel
theorem dX6_init_4 : decode cX6_init 4 = .ok (.aload_n 0, 1) := by decide +kernel
theorem dX6_init_5 : decode cX6_init 5 = .ok (.sipush 156, 3) := by decide +kernel
theorem dX6_init_8 : decode cX6_init 8 = .ok (.newarray .long, 2) := by decide +kernel
theorem dX6_init_10 : decode cX6_init 10 = .ok (.putfield 11, 3) := by decide +kernel
theorem dX6_init_13 : decode cX6_init 13 = .ok (.aload_n 0, 1) := by decide +kernel
theorem dX6_init_14 : decode cX6_init 14 = .ok (.sipush 156, 3) := by decide +kernel
theorem dX6_init_17 : decode cX6_init 17 = .ok (.newarray .long, 2) := by decide +kernel
theorem dX6_init_19 : decode cX6_init 19 = .ok (.putfield 15, 3) := by decide +kernel
theorem dX6_init_22 : decode cX6_init 22 = .ok (.aload_n 0, 1) := by decide +kernel
theorem dX6_init_23 : decode cX6_init 23 = .ok (.sipush 156, 3) := by decide +kernel
theorem dX6_init_26 : decode cX6_init 26 = .ok (.newarray .long, 2) := by decide +kernel
theorem dX6_init_28 : decode cX6_init 28 = .ok (.putfield 18, 3) := by decide +kernel
theorem dX6_init_31 : decode cX6_init 31 = .ok (.aload_n 0, 1) := by decide +kernel
theorem dX6_init_32 : decode cX6_init 32 = .ok (.bipush 12, 2) := by decide +kernel
theorem dX6_init_34 : decode cX6_init 34 = .ok (.newarray .long, 2) := by decide +kernel
theorem dX6_init_36 : decode cX6_init 36 = .ok (.putfield 21, 3) := by decide +kernel
theorem dX6_init_39 : decode cX6_init 39 = .ok (.return_, 1) := by decide +kernel
theorem dX6_settleAccount_0 : decode cX6_settleAccount 0 = .ok (.aload_n 1, 1) := by decide +kernel
theorem dX6_settleAccount_1 : decode cX6_settleAccount 1 = .ok (.iconst 1, 1) := by decide +kernel
theorem dX6_settleAccount_2 : decode cX6_settleAccount 2 = .ok (.putfield 24, 3) := by decide +kernel
theorem dX6_settleAccount_5 : decode cX6_settleAccount 5 = .ok (.aload_n 0, 1) := by decide +kernel
theorem dX6_settleAccount_6 : decode cX6_settleAccount 6 = .ok (.getfield 11, 3) := by decide +kernel
theorem dX6_settleAccount_9 : decode cX6_settleAccount 9 = .ok (.lconst 0, 1) := by decide +kernel
theorem dX6_settleAccount_10 : decode cX6_settleAccount 10 = .ok (.invokestatic 30, 3) := by decide +kernel
theorem dX6_settleAccount_13 : decode cX6_settleAccount 13 = .ok (.aload_n 1, 1) := by decide +kernel
theorem dX6_settleAccount_14 : decode cX6_settleAccount 14 = .ok (.getfield 36, 3) := by decide +kernel
theorem dX6_settleAccount_17 : decode cX6_settleAccount 17 = .ok (.lconst 0, 1) := by decide +kernel
theorem dX6_settleAccount_18 : decode cX6_settleAccount 18 = .ok (.invokestatic 30, 3) := by decide +kernel
theorem dX6_settleAccount_21 : decode cX6_settleAccount 21 = .ok (.aload_n 0, 1) := by decide +kernel
theorem dX6_settleAccount_22 : decode cX6_settleAccount 22 = .ok (.aload_n 1, 1) := by decide +kernel
theorem dX6_settleAccount_23 : decode cX6_settleAccount 23 = .ok (.iload_n 2, 1) := by decide +kernel
theorem dX6_settleAccount_24 : decode cX6_settleAccount 24 = .ok (.invokevirtual 39, 3) := by decide +kernel
theorem dX6_settleAccount_27 : decode cX6_settleAccount 27 = .ok (.aload_n 0, 1) := by decide +kernel
theorem dX6_settleAccount_28 : decode cX6_settleAccount 28 = .ok (.aload_n 1, 1) := by decide +kernel
theorem dX6_settleAccount_29 : decode cX6_settleAccount 29 = .ok (.invokevirtual 43, 3) := by decide +kernel
theorem dX6_settleAccount_32 : decode cX6_settleAccount 32 = .ok (.aload_n 0, 1) := by decide +kernel
theorem dX6_settleAccount_33 : decode cX6_settleAccount 33 = .ok (.aload_n 1, 1) := by decide +kernel
theorem dX6_settleAccount_34 : decode cX6_settleAccount 34 = .ok (.getfield 47, 3) := by decide +kernel
theorem dX6_settleAccount_37 : decode cX6_settleAccount 37 = .ok (.invokevirtual 51, 3) := by decide +kernel
theorem dX6_settleAccount_40 : decode cX6_settleAccount 40 = .ok (.aload_n 0, 1) := by decide +kernel
theorem dX6_settleAccount_41 : decode cX6_settleAccount 41 = .ok (.invokevirtual 55, 3) := by decide +kernel
theorem dX6_settleAccount_44 : decode cX6_settleAccount 44 = .ok (.aload_n 0, 1) := by decide +kernel
theorem dX6_settleAccount_45 : decode cX6_settleAccount 45 = .ok (.aload_n 1, 1) := by decide +kernel
theorem dX6_settleAccount_46 : decode cX6_settleAccount 46 = .ok (.getfield 47, 3) := by decide +kernel
theorem dX6_settleAccount_49 : decode cX6_settleAccount 49 = .ok (.invokevirtual 58, 3) := by decide +kernel
theorem dX6_settleAccount_52 : decode cX6_settleAccount 52 = .ok (.aload_n 0, 1) := by decide +kernel
theorem dX6_settleAccount_53 : decode cX6_settleAccount 53 = .ok (.aload_n 1, 1) := by decide +kernel
theorem dX6_settleAccount_54 : decode cX6_settleAccount 54 = .ok (.invokevirtual 61, 3) := by decide +kernel
theorem dX6_settleAccount_57 : decode cX6_settleAccount 57 = .ok (.aload_n 0, 1) := by decide +kernel
theorem dX6_settleAccount_58 : decode cX6_settleAccount 58 = .ok (.aload_n 1, 1) := by decide +kernel
theorem dX6_settleAccount_59 : decode cX6_settleAccount 59 = .ok (.getfield 64, 3) := by decide +kernel
theorem dX6_settleAccount_62 : decode cX6_settleAccount 62 = .ok (.iload_n 2, 1) := by decide +kernel
theorem dX6_settleAccount_63 : decode cX6_settleAccount 63 = .ok (.invokevirtual 68, 3) := by decide +kernel
theorem dX6_settleAccount_66 : decode cX6_settleAccount 66 = .ok (.aload_n 0, 1) := by decide +kernel
theorem dX6_settleAccount_67 : decode cX6_settleAccount 67 = .ok (.aload_n 1, 1) := by decide +kernel
theorem dX6_settleAccount_68 : decode cX6_settleAccount 68 = .ok (.invokevirtual 72, 3) := by decide +kernel
theorem dX6_settleAccount_71 : decode cX6_settleAccount 71 = .ok (.istore_n 3, 1) := by decide +kernel
theorem dX6_settleAccount_72 : decode cX6_settleAccount 72 = .ok (.aload_n 0, 1) := by decide +kernel
theorem dX6_settleAccount_73 : decode cX6_settleAccount 73 = .ok (.aload_n 1, 1) := by decide +kernel
theorem dX6_settleAccount_74 : decode cX6_settleAccount 74 = .ok (.invokevirtual 76, 3) := by decide +kernel
theorem dX6_settleAccount_77 : decode cX6_settleAccount 77 = .ok (.iload_n 3, 1) := by decide +kernel
theorem dX6_settleAccount_78 : decode cX6_settleAccount 78 = .ok (.ireturn, 1) := by decide +kernel
theorem dX6_owe_0 : decode cX6_owe 0 = .ok (.iload_n 1, 1) := by decide +kernel
theorem dX6_owe_1 : decode cX6_owe 1 = .ok (.iload_n 2, 1) := by decide +kernel
theorem dX6_owe_2 : decode cX6_owe 2 = .ok (.if_icmp .eq 18, 3) := by decide +kernel
theorem dX6_owe_5 : decode cX6_owe 5 = .ok (.aload_n 0, 1) := by decide +kernel
theorem dX6_owe_6 : decode cX6_owe 6 = .ok (.getfield 11, 3) := by decide +kernel
theorem dX6_owe_9 : decode cX6_owe 9 = .ok (.iload_n 1, 1) := by decide +kernel
theorem dX6_owe_10 : decode cX6_owe 10 = .ok (.bipush 13, 2) := by decide +kernel
theorem dX6_owe_12 : decode cX6_owe 12 = .ok (.imul, 1) := by decide +kernel
theorem dX6_owe_13 : decode cX6_owe 13 = .ok (.iload_n 2, 1) := by decide +kernel
theorem dX6_owe_14 : decode cX6_owe 14 = .ok (.iadd, 1) := by decide +kernel
theorem dX6_owe_15 : decode cX6_owe 15 = .ok (.dup2, 1) := by decide +kernel
theorem dX6_owe_16 : decode cX6_owe 16 = .ok (.laload, 1) := by decide +kernel
theorem dX6_owe_17 : decode cX6_owe 17 = .ok (.lload_n 3, 1) := by decide +kernel
theorem dX6_owe_18 : decode cX6_owe 18 = .ok (.ladd, 1) := by decide +kernel
theorem dX6_owe_19 : decode cX6_owe 19 = .ok (.lastore, 1) := by decide +kernel
theorem dX6_owe_20 : decode cX6_owe 20 = .ok (.return_, 1) := by decide +kernel
theorem dX6_oweDifferences_0 : decode cX6_oweDifferences 0 = .ok (.aload_n 1, 1) := by decide +kernel
theorem dX6_oweDifferences_1 : decode cX6_oweDifferences 1 = .ok (.getfield 64, 3) := by decide +kernel
theorem dX6_oweDifferences_4 : decode cX6_oweDifferences 4 = .ok (.astore_n 3, 1) := by decide +kernel
theorem dX6_oweDifferences_5 : decode cX6_oweDifferences 5 = .ok (.iconst 0, 1) := by decide +kernel
theorem dX6_oweDifferences_6 : decode cX6_oweDifferences 6 = .ok (.istore 4, 2) := by decide +kernel
theorem dX6_oweDifferences_8 : decode cX6_oweDifferences 8 = .ok (.iload 4, 2) := by decide +kernel
theorem dX6_oweDifferences_10 : decode cX6_oweDifferences 10 = .ok (.bipush 60, 2) := by decide +kernel
theorem dX6_oweDifferences_12 : decode cX6_oweDifferences 12 = .ok (.if_icmp .ge 71, 3) := by decide +kernel
theorem dX6_oweDifferences_15 : decode cX6_oweDifferences 15 = .ok (.aload_n 3, 1) := by decide +kernel
theorem dX6_oweDifferences_16 : decode cX6_oweDifferences 16 = .ok (.iload 4, 2) := by decide +kernel
theorem dX6_oweDifferences_18 : decode cX6_oweDifferences 18 = .ok (.iload_n 2, 1) := by decide +kernel
theorem dX6_oweDifferences_19 : decode cX6_oweDifferences 19 = .ok (.invokevirtual 79, 3) := by decide +kernel
theorem dX6_oweDifferences_22 : decode cX6_oweDifferences 22 = .ok (.ifCond .eq 55, 3) := by decide +kernel
theorem dX6_oweDifferences_25 : decode cX6_oweDifferences 25 = .ok (.aload_n 3, 1) := by decide +kernel
theorem dX6_oweDifferences_26 : decode cX6_oweDifferences 26 = .ok (.iload 4, 2) := by decide +kernel
theorem dX6_oweDifferences_28 : decode cX6_oweDifferences 28 = .ok (.iconst 4, 1) := by decide +kernel
theorem dX6_oweDifferences_29 : decode cX6_oweDifferences 29 = .ok (.invokevirtual 85, 3) := by decide +kernel
theorem dX6_oweDifferences_32 : decode cX6_oweDifferences 32 = .ok (.aload_n 1, 1) := by decide +kernel
theorem dX6_oweDifferences_33 : decode cX6_oweDifferences 33 = .ok (.getfield 89, 3) := by decide +kernel
theorem dX6_oweDifferences_36 : decode cX6_oweDifferences 36 = .ok (.aload_n 3, 1) := by decide +kernel
theorem dX6_oweDifferences_37 : decode cX6_oweDifferences 37 = .ok (.iload 4, 2) := by decide +kernel
theorem dX6_oweDifferences_39 : decode cX6_oweDifferences 39 = .ok (.iconst 2, 1) := by decide +kernel
theorem dX6_oweDifferences_40 : decode cX6_oweDifferences 40 = .ok (.invokevirtual 85, 3) := by decide +kernel
theorem dX6_oweDifferences_43 : decode cX6_oweDifferences 43 = .ok (.iaload, 1) := by decide +kernel
theorem dX6_oweDifferences_44 : decode cX6_oweDifferences 44 = .ok (.isub, 1) := by decide +kernel
theorem dX6_oweDifferences_45 : decode cX6_oweDifferences 45 = .ok (.istore 5, 2) := by decide +kernel
theorem dX6_oweDifferences_47 : decode cX6_oweDifferences 47 = .ok (.aload_n 0, 1) := by decide +kernel
theorem dX6_oweDifferences_48 : decode cX6_oweDifferences 48 = .ok (.aload_n 3, 1) := by decide +kernel
theorem dX6_oweDifferences_49 : decode cX6_oweDifferences 49 = .ok (.iload 4, 2) := by decide +kernel
theorem dX6_oweDifferences_51 : decode cX6_oweDifferences 51 = .ok (.iconst 1, 1) := by decide +kernel
theorem dX6_oweDifferences_52 : decode cX6_oweDifferences 52 = .ok (.invokevirtual 85, 3) := by decide +kernel
theorem dX6_oweDifferences_55 : decode cX6_oweDifferences 55 = .ok (.aload_n 3, 1) := by decide +kernel
theorem dX6_oweDifferences_56 : decode cX6_oweDifferences 56 = .ok (.iload 4, 2) := by decide +kernel
theorem dX6_oweDifferences_58 : decode cX6_oweDifferences 58 = .ok (.iconst 0, 1) := by decide +kernel
theorem dX6_oweDifferences_59 : decode cX6_oweDifferences 59 = .ok (.invokevirtual 85, 3) := by decide +kernel
theorem dX6_oweDifferences_62 : decode cX6_oweDifferences 62 = .ok (.aload_n 3, 1) := by decide +kernel
theorem dX6_oweDifferences_63 : decode cX6_oweDifferences 63 = .ok (.iload 4, 2) := by decide +kernel
theorem dX6_oweDifferences_65 : decode cX6_oweDifferences 65 = .ok (.iconst 3, 1) := by decide +kernel
theorem dX6_oweDifferences_66 : decode cX6_oweDifferences 66 = .ok (.invokevirtual 85, 3) := by decide +kernel
theorem dX6_oweDifferences_69 : decode cX6_oweDifferences 69 = .ok (.i2l, 1) := by decide +kernel
theorem dX6_oweDifferences_70 : decode cX6_oweDifferences 70 = .ok (.iload 5, 2) := by decide +kernel
theorem dX6_oweDifferences_72 : decode cX6_oweDifferences 72 = .ok (.i2l, 1) := by decide +kernel
theorem dX6_oweDifferences_73 : decode cX6_oweDifferences 73 = .ok (.lmul, 1) := by decide +kernel
theorem dX6_oweDifferences_74 : decode cX6_oweDifferences 74 = .ok (.invokevirtual 93, 3) := by decide +kernel
theorem dX6_oweDifferences_77 : decode cX6_oweDifferences 77 = .ok (.iinc 4 1, 3) := by decide +kernel
theorem dX6_oweDifferences_80 : decode cX6_oweDifferences 80 = .ok (.goto (-72), 3) := by decide +kernel
theorem dX6_oweDifferences_83 : decode cX6_oweDifferences 83 = .ok (.return_, 1) := by decide +kernel
theorem dX6_oweDeliveries_0 : decode cX6_oweDeliveries 0 = .ok (.aload_n 1, 1) := by decide +kernel
theorem dX6_oweDeliveries_1 : decode cX6_oweDeliveries 1 = .ok (.getfield 97, 3) := by decide +kernel
theorem dX6_oweDeliveries_4 : decode cX6_oweDeliveries 4 = .ok (.astore_n 2, 1) := by decide +kernel
theorem dX6_oweDeliveries_5 : decode cX6_oweDeliveries 5 = .ok (.aload_n 2, 1) := by decide +kernel
theorem dX6_oweDeliveries_6 : decode cX6_oweDeliveries 6 = .ok (.getfield 101, 3) := by decide +kernel
theorem dX6_oweDeliveries_9 : decode cX6_oweDeliveries 9 = .ok (.sipush 200, 3) := by decide +kernel
theorem dX6_oweDeliveries_12 : decode cX6_oweDeliveries 12 = .ok (.invokestatic 107, 3) := by decide +kernel
theorem dX6_oweDeliveries_15 : decode cX6_oweDeliveries 15 = .ok (.istore_n 3, 1) := by decide +kernel
theorem dX6_oweDeliveries_16 : decode cX6_oweDeliveries 16 = .ok (.iconst 0, 1) := by decide +kernel
theorem dX6_oweDeliveries_17 : decode cX6_oweDeliveries 17 = .ok (.istore 4, 2) := by decide +kernel
theorem dX6_oweDeliveries_19 : decode cX6_oweDeliveries 19 = .ok (.iload 4, 2) := by decide +kernel
theorem dX6_oweDeliveries_21 : decode cX6_oweDeliveries 21 = .ok (.iload_n 3, 1) := by decide +kernel
theorem dX6_oweDeliveries_22 : decode cX6_oweDeliveries 22 = .ok (.if_icmp .ge 198, 3) := by decide +kernel
theorem dX6_oweDeliveries_25 : decode cX6_oweDeliveries 25 = .ok (.aload_n 2, 1) := by decide +kernel
theorem dX6_oweDeliveries_26 : decode cX6_oweDeliveries 26 = .ok (.iload 4, 2) := by decide +kernel
theorem dX6_oweDeliveries_28 : decode cX6_oweDeliveries 28 = .ok (.iconst 0, 1) := by decide +kernel
theorem dX6_oweDeliveries_29 : decode cX6_oweDeliveries 29 = .ok (.invokevirtual 112, 3) := by decide +kernel
theorem dX6_oweDeliveries_32 : decode cX6_oweDeliveries 32 = .ok (.istore 5, 2) := by decide +kernel
theorem dX6_oweDeliveries_34 : decode cX6_oweDeliveries 34 = .ok (.aload_n 2, 1) := by decide +kernel
theorem dX6_oweDeliveries_35 : decode cX6_oweDeliveries 35 = .ok (.iload 4, 2) := by decide +kernel
theorem dX6_oweDeliveries_37 : decode cX6_oweDeliveries 37 = .ok (.iconst 1, 1) := by decide +kernel
theorem dX6_oweDeliveries_38 : decode cX6_oweDeliveries 38 = .ok (.invokevirtual 112, 3) := by decide +kernel
theorem dX6_oweDeliveries_41 : decode cX6_oweDeliveries 41 = .ok (.istore 6, 2) := by decide +kernel
theorem dX6_oweDeliveries_43 : decode cX6_oweDeliveries 43 = .ok (.aload_n 2, 1) := by decide +kernel
theorem dX6_oweDeliveries_44 : decode cX6_oweDeliveries 44 = .ok (.iload 4, 2) := by decide +kernel
theorem dX6_oweDeliveries_46 : decode cX6_oweDeliveries 46 = .ok (.iconst 2, 1) := by decide +kernel
theorem dX6_oweDeliveries_47 : decode cX6_oweDeliveries 47 = .ok (.invokevirtual 112, 3) := by decide +kernel
theorem dX6_oweDeliveries_50 : decode cX6_oweDeliveries 50 = .ok (.istore 7, 2) := by decide +kernel
theorem dX6_oweDeliveries_52 : decode cX6_oweDeliveries 52 = .ok (.aload_n 2, 1) := by decide +kernel
theorem dX6_oweDeliveries_53 : decode cX6_oweDeliveries 53 = .ok (.iload 4, 2) := by decide +kernel
theorem dX6_oweDeliveries_55 : decode cX6_oweDeliveries 55 = .ok (.iconst 3, 1) := by decide +kernel
theorem dX6_oweDeliveries_56 : decode cX6_oweDeliveries 56 = .ok (.invokevirtual 112, 3) := by decide +kernel
theorem dX6_oweDeliveries_59 : decode cX6_oweDeliveries 59 = .ok (.istore 8, 2) := by decide +kernel
theorem dX6_oweDeliveries_61 : decode cX6_oweDeliveries 61 = .ok (.iload 8, 2) := by decide +kernel
theorem dX6_oweDeliveries_63 : decode cX6_oweDeliveries 63 = .ok (.i2l, 1) := by decide +kernel
theorem dX6_oweDeliveries_64 : decode cX6_oweDeliveries 64 = .ok (.aload_n 1, 1) := by decide +kernel
theorem dX6_oweDeliveries_65 : decode cX6_oweDeliveries 65 = .ok (.getfield 89, 3) := by decide +kernel
theorem dX6_oweDeliveries_68 : decode cX6_oweDeliveries 68 = .ok (.iload 5, 2) := by decide +kernel
theorem dX6_oweDeliveries_70 : decode cX6_oweDeliveries 70 = .ok (.iaload, 1) := by decide +kernel
theorem dX6_oweDeliveries_71 : decode cX6_oweDeliveries 71 = .ok (.i2l, 1) := by decide +kernel
theorem dX6_oweDeliveries_72 : decode cX6_oweDeliveries 72 = .ok (.lmul, 1) := by decide +kernel
theorem dX6_oweDeliveries_73 : decode cX6_oweDeliveries 73 = .ok (.lstore 9, 2) := by decide +kernel
theorem dX6_oweDeliveries_75 : decode cX6_oweDeliveries 75 = .ok (.aload_n 0, 1) := by decide +kernel
theorem dX6_oweDeliveries_76 : decode cX6_oweDeliveries 76 = .ok (.iload 7, 2) := by decide +kernel
theorem dX6_oweDeliveries_78 : decode cX6_oweDeliveries 78 = .ok (.iload 6, 2) := by decide +kernel
theorem dX6_oweDeliveries_80 : decode cX6_oweDeliveries 80 = .ok (.lload 9, 2) := by decide +kernel
theorem dX6_oweDeliveries_82 : decode cX6_oweDeliveries 82 = .ok (.invokevirtual 93, 3) := by decide +kernel
theorem dX6_oweDeliveries_85 : decode cX6_oweDeliveries 85 = .ok (.aload_n 0, 1) := by decide +kernel
theorem dX6_oweDeliveries_86 : decode cX6_oweDeliveries 86 = .ok (.aload_n 1, 1) := by decide +kernel
theorem dX6_oweDeliveries_87 : decode cX6_oweDeliveries 87 = .ok (.getfield 47, 3) := by decide +kernel
theorem dX6_oweDeliveries_90 : decode cX6_oweDeliveries 90 = .ok (.iload 5, 2) := by decide +kernel
theorem dX6_oweDeliveries_92 : decode cX6_oweDeliveries 92 = .ok (.iload 6, 2) := by decide +kernel
theorem dX6_oweDeliveries_94 : decode cX6_oweDeliveries 94 = .ok (.iload 7, 2) := by decide +kernel
theorem dX6_oweDeliveries_96 : decode cX6_oweDeliveries 96 = .ok (.iload 8, 2) := by decide +kernel
theorem dX6_oweDeliveries_98 : decode cX6_oweDeliveries 98 = .ok (.invokevirtual 113, 3) := by decide +kernel
theorem dX6_oweDeliveries_101 : decode cX6_oweDeliveries 101 = .ok (.istore 11, 2) := by decide +kernel
theorem dX6_oweDeliveries_103 : decode cX6_oweDeliveries 103 = .ok (.aload_n 1, 1) := by decide +kernel
theorem dX6_oweDeliveries_104 : decode cX6_oweDeliveries 104 = .ok (.getfield 117, 3) := by decide +kernel
theorem dX6_oweDeliveries_107 : decode cX6_oweDeliveries 107 = .ok (.iconst 3, 1) := by decide +kernel
theorem dX6_oweDeliveries_108 : decode cX6_oweDeliveries 108 = .ok (.aload_n 1, 1) := by decide +kernel
theorem dX6_oweDeliveries_109 : decode cX6_oweDeliveries 109 = .ok (.iload 5, 2) := by decide +kernel
theorem dX6_oweDeliveries_111 : decode cX6_oweDeliveries 111 = .ok (.iconst (-1), 1) := by decide +kernel
theorem dX6_oweDeliveries_112 : decode cX6_oweDeliveries 112 = .ok (.invokevirtual 121, 3) := by decide +kernel
theorem dX6_oweDeliveries_115 : decode cX6_oweDeliveries 115 = .ok (.invokestatic 127, 3) := by decide +kernel
theorem dX6_oweDeliveries_118 : decode cX6_oweDeliveries 118 = .ok (.istore 12, 2) := by decide +kernel
theorem dX6_oweDeliveries_120 : decode cX6_oweDeliveries 120 = .ok (.aload_n 0, 1) := by decide +kernel
theorem dX6_oweDeliveries_121 : decode cX6_oweDeliveries 121 = .ok (.iload 6, 2) := by decide +kernel
theorem dX6_oweDeliveries_123 : decode cX6_oweDeliveries 123 = .ok (.bipush 12, 2) := by decide +kernel
theorem dX6_oweDeliveries_125 : decode cX6_oweDeliveries 125 = .ok (.iload 11, 2) := by decide +kernel
theorem dX6_oweDeliveries_127 : decode cX6_oweDeliveries 127 = .ok (.i2l, 1) := by decide +kernel
theorem dX6_oweDeliveries_128 : decode cX6_oweDeliveries 128 = .ok (.aload_n 1, 1) := by decide +kernel
theorem dX6_oweDeliveries_129 : decode cX6_oweDeliveries 129 = .ok (.getfield 89, 3) := by decide +kernel
theorem dX6_oweDeliveries_132 : decode cX6_oweDeliveries 132 = .ok (.iload 5, 2) := by decide +kernel
theorem dX6_oweDeliveries_134 : decode cX6_oweDeliveries 134 = .ok (.iaload, 1) := by decide +kernel
theorem dX6_oweDeliveries_135 : decode cX6_oweDeliveries 135 = .ok (.i2l, 1) := by decide +kernel
theorem dX6_oweDeliveries_136 : decode cX6_oweDeliveries 136 = .ok (.lmul, 1) := by decide +kernel
theorem dX6_oweDeliveries_137 : decode cX6_oweDeliveries 137 = .ok (.bipush 100, 2) := by decide +kernel
theorem dX6_oweDeliveries_139 : decode cX6_oweDeliveries 139 = .ok (.iload 12, 2) := by decide +kernel
theorem dX6_oweDeliveries_141 : decode cX6_oweDeliveries 141 = .ok (.iadd, 1) := by decide +kernel
theorem dX6_oweDeliveries_142 : decode cX6_oweDeliveries 142 = .ok (.i2l, 1) := by decide +kernel
theorem dX6_oweDeliveries_143 : decode cX6_oweDeliveries 143 = .ok (.lmul, 1) := by decide +kernel
theorem dX6_oweDeliveries_144 : decode cX6_oweDeliveries 144 = .ok (.ldc2_w 131, 3) := by decide +kernel
theorem dX6_oweDeliveries_147 : decode cX6_oweDeliveries 147 = .ok (.ldiv, 1) := by decide +kernel
theorem dX6_oweDeliveries_148 : decode cX6_oweDeliveries 148 = .ok (.invokevirtual 93, 3) := by decide +kernel
theorem dX6_oweDeliveries_151 : decode cX6_oweDeliveries 151 = .ok (.aload_n 1, 1) := by decide +kernel
theorem dX6_oweDeliveries_152 : decode cX6_oweDeliveries 152 = .ok (.getfield 36, 3) := by decide +kernel
theorem dX6_oweDeliveries_155 : decode cX6_oweDeliveries 155 = .ok (.iload 6, 2) := by decide +kernel
theorem dX6_oweDeliveries_157 : decode cX6_oweDeliveries 157 = .ok (.iconst 5, 1) := by decide +kernel
theorem dX6_oweDeliveries_158 : decode cX6_oweDeliveries 158 = .ok (.imul, 1) := by decide +kernel
theorem dX6_oweDeliveries_159 : decode cX6_oweDeliveries 159 = .ok (.iconst 4, 1) := by decide +kernel
theorem dX6_oweDeliveries_160 : decode cX6_oweDeliveries 160 = .ok (.iadd, 1) := by decide +kernel
theorem dX6_oweDeliveries_161 : decode cX6_oweDeliveries 161 = .ok (.dup2, 1) := by decide +kernel
theorem dX6_oweDeliveries_162 : decode cX6_oweDeliveries 162 = .ok (.laload, 1) := by decide +kernel
theorem dX6_oweDeliveries_163 : decode cX6_oweDeliveries 163 = .ok (.iload 11, 2) := by decide +kernel
theorem dX6_oweDeliveries_165 : decode cX6_oweDeliveries 165 = .ok (.i2l, 1) := by decide +kernel
theorem dX6_oweDeliveries_166 : decode cX6_oweDeliveries 166 = .ok (.ladd, 1) := by decide +kernel
theorem dX6_oweDeliveries_167 : decode cX6_oweDeliveries 167 = .ok (.lastore, 1) := by decide +kernel
theorem dX6_oweDeliveries_168 : decode cX6_oweDeliveries 168 = .ok (.aload_n 2, 1) := by decide +kernel
theorem dX6_oweDeliveries_169 : decode cX6_oweDeliveries 169 = .ok (.iload 4, 2) := by decide +kernel
theorem dX6_oweDeliveries_171 : decode cX6_oweDeliveries 171 = .ok (.iconst 5, 1) := by decide +kernel
theorem dX6_oweDeliveries_172 : decode cX6_oweDeliveries 172 = .ok (.invokevirtual 112, 3) := by decide +kernel
theorem dX6_oweDeliveries_175 : decode cX6_oweDeliveries 175 = .ok (.istore 13, 2) := by decide +kernel
theorem dX6_oweDeliveries_177 : decode cX6_oweDeliveries 177 = .ok (.iload 13, 2) := by decide +kernel
theorem dX6_oweDeliveries_179 : decode cX6_oweDeliveries 179 = .ok (.iconst (-1), 1) := by decide +kernel
theorem dX6_oweDeliveries_180 : decode cX6_oweDeliveries 180 = .ok (.if_icmp .eq 34, 3) := by decide +kernel
theorem dX6_oweDeliveries_183 : decode cX6_oweDeliveries 183 = .ok (.aload_n 0, 1) := by decide +kernel
theorem dX6_oweDeliveries_184 : decode cX6_oweDeliveries 184 = .ok (.iload 13, 2) := by decide +kernel
theorem dX6_oweDeliveries_186 : decode cX6_oweDeliveries 186 = .ok (.iload 7, 2) := by decide +kernel
theorem dX6_oweDeliveries_188 : decode cX6_oweDeliveries 188 = .ok (.lload 9, 2) := by decide +kernel
theorem dX6_oweDeliveries_190 : decode cX6_oweDeliveries 190 = .ok (.aload_n 1, 1) := by decide +kernel
theorem dX6_oweDeliveries_191 : decode cX6_oweDeliveries 191 = .ok (.getfield 117, 3) := by decide +kernel
theorem dX6_oweDeliveries_194 : decode cX6_oweDeliveries 194 = .ok (.iconst 2, 1) := by decide +kernel
theorem dX6_oweDeliveries_195 : decode cX6_oweDeliveries 195 = .ok (.aload_n 1, 1) := by decide +kernel
theorem dX6_oweDeliveries_196 : decode cX6_oweDeliveries 196 = .ok (.iload 5, 2) := by decide +kernel
theorem dX6_oweDeliveries_198 : decode cX6_oweDeliveries 198 = .ok (.iconst (-1), 1) := by decide +kernel
theorem dX6_oweDeliveries_199 : decode cX6_oweDeliveries 199 = .ok (.invokevirtual 121, 3) := by decide +kernel
theorem dX6_oweDeliveries_202 : decode cX6_oweDeliveries 202 = .ok (.invokestatic 127, 3) := by decide +kernel
theorem dX6_oweDeliveries_205 : decode cX6_oweDeliveries 205 = .ok (.i2l, 1) := by decide +kernel
theorem dX6_oweDeliveries_206 : decode cX6_oweDeliveries 206 = .ok (.lmul, 1) := by decide +kernel
theorem dX6_oweDeliveries_207 : decode cX6_oweDeliveries 207 = .ok (.ldc2_w 131, 3) := by decide +kernel
theorem dX6_oweDeliveries_210 : decode cX6_oweDeliveries 210 = .ok (.ldiv, 1) := by decide +kernel
theorem dX6_oweDeliveries_211 : decode cX6_oweDeliveries 211 = .ok (.invokevirtual 93, 3) := by decide +kernel
theorem dX6_oweDeliveries_214 : decode cX6_oweDeliveries 214 = .ok (.iinc 4 1, 3) := by decide +kernel
theorem dX6_oweDeliveries_217 : decode cX6_oweDeliveries 217 = .ok (.goto (-198), 3) := by decide +kernel
theorem dX6_oweDeliveries_220 : decode cX6_oweDeliveries 220 = .ok (.return_, 1) := by decide +kernel
theorem dX6_moveShares_0 : decode cX6_moveShares 0 = .ok (.iload 5, 2) := by decide +kernel
theorem dX6_moveShares_2 : decode cX6_moveShares 2 = .ok (.aload_n 1, 1) := by decide +kernel
theorem dX6_moveShares_3 : decode cX6_moveShares 3 = .ok (.getfield 133, 3) := by decide +kernel
theorem dX6_moveShares_6 : decode cX6_moveShares 6 = .ok (.iload_n 3, 1) := by decide +kernel
theorem dX6_moveShares_7 : decode cX6_moveShares 7 = .ok (.iload_n 2, 1) := by decide +kernel
theorem dX6_moveShares_8 : decode cX6_moveShares 8 = .ok (.invokestatic 138, 3) := by decide +kernel
theorem dX6_moveShares_11 : decode cX6_moveShares 11 = .ok (.iaload, 1) := by decide +kernel
theorem dX6_moveShares_12 : decode cX6_moveShares 12 = .ok (.invokestatic 107, 3) := by decide +kernel
theorem dX6_moveShares_15 : decode cX6_moveShares 15 = .ok (.istore 6, 2) := by decide +kernel
theorem dX6_moveShares_17 : decode cX6_moveShares 17 = .ok (.aload_n 1, 1) := by decide +kernel
theorem dX6_moveShares_18 : decode cX6_moveShares 18 = .ok (.getfield 133, 3) := by decide +kernel
theorem dX6_moveShares_21 : decode cX6_moveShares 21 = .ok (.iload_n 3, 1) := by decide +kernel
theorem dX6_moveShares_22 : decode cX6_moveShares 22 = .ok (.iload_n 2, 1) := by decide +kernel
theorem dX6_moveShares_23 : decode cX6_moveShares 23 = .ok (.invokestatic 138, 3) := by decide +kernel
theorem dX6_moveShares_26 : decode cX6_moveShares 26 = .ok (.dup2, 1) := by decide +kernel
theorem dX6_moveShares_27 : decode cX6_moveShares 27 = .ok (.iaload, 1) := by decide +kernel
theorem dX6_moveShares_28 : decode cX6_moveShares 28 = .ok (.iload 6, 2) := by decide +kernel
theorem dX6_moveShares_30 : decode cX6_moveShares 30 = .ok (.isub, 1) := by decide +kernel
theorem dX6_moveShares_31 : decode cX6_moveShares 31 = .ok (.iastore, 1) := by decide +kernel
theorem dX6_moveShares_32 : decode cX6_moveShares 32 = .ok (.aload_n 1, 1) := by decide +kernel
theorem dX6_moveShares_33 : decode cX6_moveShares 33 = .ok (.getfield 133, 3) := by decide +kernel
theorem dX6_moveShares_36 : decode cX6_moveShares 36 = .ok (.iload 4, 2) := by decide +kernel
theorem dX6_moveShares_38 : decode cX6_moveShares 38 = .ok (.iload_n 2, 1) := by decide +kernel
theorem dX6_moveShares_39 : decode cX6_moveShares 39 = .ok (.invokestatic 138, 3) := by decide +kernel
theorem dX6_moveShares_42 : decode cX6_moveShares 42 = .ok (.dup2, 1) := by decide +kernel
theorem dX6_moveShares_43 : decode cX6_moveShares 43 = .ok (.iaload, 1) := by decide +kernel
theorem dX6_moveShares_44 : decode cX6_moveShares 44 = .ok (.iload 5, 2) := by decide +kernel
theorem dX6_moveShares_46 : decode cX6_moveShares 46 = .ok (.iadd, 1) := by decide +kernel
theorem dX6_moveShares_47 : decode cX6_moveShares 47 = .ok (.iastore, 1) := by decide +kernel
theorem dX6_moveShares_48 : decode cX6_moveShares 48 = .ok (.iload 5, 2) := by decide +kernel
theorem dX6_moveShares_50 : decode cX6_moveShares 50 = .ok (.iload 6, 2) := by decide +kernel
theorem dX6_moveShares_52 : decode cX6_moveShares 52 = .ok (.isub, 1) := by decide +kernel
theorem dX6_moveShares_53 : decode cX6_moveShares 53 = .ok (.ireturn, 1) := by decide +kernel
theorem dX6_percent_0 : decode cX6_percent 0 = .ok (.iconst 0, 1) := by decide +kernel
theorem dX6_percent_1 : decode cX6_percent 1 = .ok (.iload_n 0, 1) := by decide +kernel
theorem dX6_percent_2 : decode cX6_percent 2 = .ok (.sipush 1000, 3) := by decide +kernel
theorem dX6_percent_5 : decode cX6_percent 5 = .ok (.invokestatic 107, 3) := by decide +kernel
theorem dX6_percent_8 : decode cX6_percent 8 = .ok (.invokestatic 141, 3) := by decide +kernel
theorem dX6_percent_11 : decode cX6_percent 11 = .ok (.ireturn, 1) := by decide +kernel
theorem dX6_oweExtra_0 : decode cX6_oweExtra 0 = .ok (.iconst 0, 1) := by decide +kernel
theorem dX6_oweExtra_1 : decode cX6_oweExtra 1 = .ok (.istore_n 2, 1) := by decide +kernel
theorem dX6_oweExtra_2 : decode cX6_oweExtra 2 = .ok (.iload_n 2, 1) := by decide +kernel
theorem dX6_oweExtra_3 : decode cX6_oweExtra 3 = .ok (.bipush 12, 2) := by decide +kernel
theorem dX6_oweExtra_5 : decode cX6_oweExtra 5 = .ok (.if_icmp .ge 40, 3) := by decide +kernel
theorem dX6_oweExtra_8 : decode cX6_oweExtra 8 = .ok (.iconst 0, 1) := by decide +kernel
theorem dX6_oweExtra_9 : decode cX6_oweExtra 9 = .ok (.istore_n 3, 1) := by decide +kernel
theorem dX6_oweExtra_10 : decode cX6_oweExtra 10 = .ok (.iload_n 3, 1) := by decide +kernel
theorem dX6_oweExtra_11 : decode cX6_oweExtra 11 = .ok (.bipush 12, 2) := by decide +kernel
theorem dX6_oweExtra_13 : decode cX6_oweExtra 13 = .ok (.if_icmp .ge 26, 3) := by decide +kernel
theorem dX6_oweExtra_16 : decode cX6_oweExtra 16 = .ok (.aload_n 0, 1) := by decide +kernel
theorem dX6_oweExtra_17 : decode cX6_oweExtra 17 = .ok (.iload_n 2, 1) := by decide +kernel
theorem dX6_oweExtra_18 : decode cX6_oweExtra 18 = .ok (.iload_n 3, 1) := by decide +kernel
theorem dX6_oweExtra_19 : decode cX6_oweExtra 19 = .ok (.aload_n 1, 1) := by decide +kernel
theorem dX6_oweExtra_20 : decode cX6_oweExtra 20 = .ok (.getfield 144, 3) := by decide +kernel
theorem dX6_oweExtra_23 : decode cX6_oweExtra 23 = .ok (.iload_n 2, 1) := by decide +kernel
theorem dX6_oweExtra_24 : decode cX6_oweExtra 24 = .ok (.bipush 12, 2) := by decide +kernel
theorem dX6_oweExtra_26 : decode cX6_oweExtra 26 = .ok (.imul, 1) := by decide +kernel
theorem dX6_oweExtra_27 : decode cX6_oweExtra 27 = .ok (.iload_n 3, 1) := by decide +kernel
theorem dX6_oweExtra_28 : decode cX6_oweExtra 28 = .ok (.iadd, 1) := by decide +kernel
theorem dX6_oweExtra_29 : decode cX6_oweExtra 29 = .ok (.laload, 1) := by decide +kernel
theorem dX6_oweExtra_30 : decode cX6_oweExtra 30 = .ok (.invokevirtual 93, 3) := by decide +kernel
theorem dX6_oweExtra_33 : decode cX6_oweExtra 33 = .ok (.iinc 3 1, 3) := by decide +kernel
theorem dX6_oweExtra_36 : decode cX6_oweExtra 36 = .ok (.goto (-26), 3) := by decide +kernel
theorem dX6_oweExtra_39 : decode cX6_oweExtra 39 = .ok (.iinc 2 1, 3) := by decide +kernel
theorem dX6_oweExtra_42 : decode cX6_oweExtra 42 = .ok (.goto (-40), 3) := by decide +kernel
theorem dX6_oweExtra_45 : decode cX6_oweExtra 45 = .ok (.aload_n 1, 1) := by decide +kernel
theorem dX6_oweExtra_46 : decode cX6_oweExtra 46 = .ok (.getfield 144, 3) := by decide +kernel
theorem dX6_oweExtra_49 : decode cX6_oweExtra 49 = .ok (.lconst 0, 1) := by decide +kernel
theorem dX6_oweExtra_50 : decode cX6_oweExtra 50 = .ok (.invokestatic 30, 3) := by decide +kernel
theorem dX6_oweExtra_53 : decode cX6_oweExtra 53 = .ok (.return_, 1) := by decide +kernel
theorem dX6_leaveTheRest_0 : decode cX6_leaveTheRest 0 = .ok (.iconst 0, 1) := by decide +kernel
theorem dX6_leaveTheRest_1 : decode cX6_leaveTheRest 1 = .ok (.istore_n 1, 1) := by decide +kernel
theorem dX6_leaveTheRest_2 : decode cX6_leaveTheRest 2 = .ok (.iload_n 1, 1) := by decide +kernel
theorem dX6_leaveTheRest_3 : decode cX6_leaveTheRest 3 = .ok (.bipush 12, 2) := by decide +kernel
theorem dX6_leaveTheRest_5 : decode cX6_leaveTheRest 5 = .ok (.if_icmp .ge 79, 3) := by decide +kernel
theorem dX6_leaveTheRest_8 : decode cX6_leaveTheRest 8 = .ok (.iconst 0, 1) := by decide +kernel
theorem dX6_leaveTheRest_9 : decode cX6_leaveTheRest 9 = .ok (.istore_n 2, 1) := by decide +kernel
theorem dX6_leaveTheRest_10 : decode cX6_leaveTheRest 10 = .ok (.iload_n 2, 1) := by decide +kernel
theorem dX6_leaveTheRest_11 : decode cX6_leaveTheRest 11 = .ok (.iload_n 1, 1) := by decide +kernel
theorem dX6_leaveTheRest_12 : decode cX6_leaveTheRest 12 = .ok (.if_icmp .ge 66, 3) := by decide +kernel
theorem dX6_leaveTheRest_15 : decode cX6_leaveTheRest 15 = .ok (.aload_n 0, 1) := by decide +kernel
theorem dX6_leaveTheRest_16 : decode cX6_leaveTheRest 16 = .ok (.getfield 11, 3) := by decide +kernel
theorem dX6_leaveTheRest_19 : decode cX6_leaveTheRest 19 = .ok (.iload_n 1, 1) := by decide +kernel
theorem dX6_leaveTheRest_20 : decode cX6_leaveTheRest 20 = .ok (.bipush 13, 2) := by decide +kernel
theorem dX6_leaveTheRest_22 : decode cX6_leaveTheRest 22 = .ok (.imul, 1) := by decide +kernel
theorem dX6_leaveTheRest_23 : decode cX6_leaveTheRest 23 = .ok (.iload_n 2, 1) := by decide +kernel
theorem dX6_leaveTheRest_24 : decode cX6_leaveTheRest 24 = .ok (.iadd, 1) := by decide +kernel
theorem dX6_leaveTheRest_25 : decode cX6_leaveTheRest 25 = .ok (.laload, 1) := by decide +kernel
theorem dX6_leaveTheRest_26 : decode cX6_leaveTheRest 26 = .ok (.aload_n 0, 1) := by decide +kernel
theorem dX6_leaveTheRest_27 : decode cX6_leaveTheRest 27 = .ok (.getfield 11, 3) := by decide +kernel
theorem dX6_leaveTheRest_30 : decode cX6_leaveTheRest 30 = .ok (.iload_n 2, 1) := by decide +kernel
theorem dX6_leaveTheRest_31 : decode cX6_leaveTheRest 31 = .ok (.bipush 13, 2) := by decide +kernel
theorem dX6_leaveTheRest_33 : decode cX6_leaveTheRest 33 = .ok (.imul, 1) := by decide +kernel
theorem dX6_leaveTheRest_34 : decode cX6_leaveTheRest 34 = .ok (.iload_n 1, 1) := by decide +kernel
theorem dX6_leaveTheRest_35 : decode cX6_leaveTheRest 35 = .ok (.iadd, 1) := by decide +kernel
theorem dX6_leaveTheRest_36 : decode cX6_leaveTheRest 36 = .ok (.laload, 1) := by decide +kernel
theorem dX6_leaveTheRest_37 : decode cX6_leaveTheRest 37 = .ok (.lsub, 1) := by decide +kernel
theorem dX6_leaveTheRest_38 : decode cX6_leaveTheRest 38 = .ok (.lstore_n 3, 1) := by decide +kernel
theorem dX6_leaveTheRest_39 : decode cX6_leaveTheRest 39 = .ok (.aload_n 0, 1) := by decide +kernel
theorem dX6_leaveTheRest_40 : decode cX6_leaveTheRest 40 = .ok (.getfield 11, 3) := by decide +kernel
theorem dX6_leaveTheRest_43 : decode cX6_leaveTheRest 43 = .ok (.iload_n 1, 1) := by decide +kernel
theorem dX6_leaveTheRest_44 : decode cX6_leaveTheRest 44 = .ok (.bipush 13, 2) := by decide +kernel
theorem dX6_leaveTheRest_46 : decode cX6_leaveTheRest 46 = .ok (.imul, 1) := by decide +kernel
theorem dX6_leaveTheRest_47 : decode cX6_leaveTheRest 47 = .ok (.iload_n 2, 1) := by decide +kernel
theorem dX6_leaveTheRest_48 : decode cX6_leaveTheRest 48 = .ok (.iadd, 1) := by decide +kernel
theorem dX6_leaveTheRest_49 : decode cX6_leaveTheRest 49 = .ok (.lload_n 3, 1) := by decide +kernel
theorem dX6_leaveTheRest_50 : decode cX6_leaveTheRest 50 = .ok (.lconst 0, 1) := by decide +kernel
theorem dX6_leaveTheRest_51 : decode cX6_leaveTheRest 51 = .ok (.invokestatic 147, 3) := by decide +kernel
theorem dX6_leaveTheRest_54 : decode cX6_leaveTheRest 54 = .ok (.lastore, 1) := by decide +kernel
theorem dX6_leaveTheRest_55 : decode cX6_leaveTheRest 55 = .ok (.aload_n 0, 1) := by decide +kernel
theorem dX6_leaveTheRest_56 : decode cX6_leaveTheRest 56 = .ok (.getfield 11, 3) := by decide +kernel
theorem dX6_leaveTheRest_59 : decode cX6_leaveTheRest 59 = .ok (.iload_n 2, 1) := by decide +kernel
theorem dX6_leaveTheRest_60 : decode cX6_leaveTheRest 60 = .ok (.bipush 13, 2) := by decide +kernel
theorem dX6_leaveTheRest_62 : decode cX6_leaveTheRest 62 = .ok (.imul, 1) := by decide +kernel
theorem dX6_leaveTheRest_63 : decode cX6_leaveTheRest 63 = .ok (.iload_n 1, 1) := by decide +kernel
theorem dX6_leaveTheRest_64 : decode cX6_leaveTheRest 64 = .ok (.iadd, 1) := by decide +kernel
theorem dX6_leaveTheRest_65 : decode cX6_leaveTheRest 65 = .ok (.lload_n 3, 1) := by decide +kernel
theorem dX6_leaveTheRest_66 : decode cX6_leaveTheRest 66 = .ok (.lneg, 1) := by decide +kernel
theorem dX6_leaveTheRest_67 : decode cX6_leaveTheRest 67 = .ok (.lconst 0, 1) := by decide +kernel
theorem dX6_leaveTheRest_68 : decode cX6_leaveTheRest 68 = .ok (.invokestatic 147, 3) := by decide +kernel
theorem dX6_leaveTheRest_71 : decode cX6_leaveTheRest 71 = .ok (.lastore, 1) := by decide +kernel
theorem dX6_leaveTheRest_72 : decode cX6_leaveTheRest 72 = .ok (.iinc 2 1, 3) := by decide +kernel
theorem dX6_leaveTheRest_75 : decode cX6_leaveTheRest 75 = .ok (.goto (-65), 3) := by decide +kernel
theorem dX6_leaveTheRest_78 : decode cX6_leaveTheRest 78 = .ok (.iinc 1 1, 3) := by decide +kernel
theorem dX6_leaveTheRest_81 : decode cX6_leaveTheRest 81 = .ok (.goto (-79), 3) := by decide +kernel
theorem dX6_leaveTheRest_84 : decode cX6_leaveTheRest 84 = .ok (.iconst 0, 1) := by decide +kernel
theorem dX6_leaveTheRest_85 : decode cX6_leaveTheRest 85 = .ok (.istore_n 1, 1) := by decide +kernel
theorem dX6_leaveTheRest_86 : decode cX6_leaveTheRest 86 = .ok (.iload_n 1, 1) := by decide +kernel
theorem dX6_leaveTheRest_87 : decode cX6_leaveTheRest 87 = .ok (.bipush 12, 2) := by decide +kernel
theorem dX6_leaveTheRest_89 : decode cX6_leaveTheRest 89 = .ok (.if_icmp .ge 24, 3) := by decide +kernel
theorem dX6_leaveTheRest_92 : decode cX6_leaveTheRest 92 = .ok (.aload_n 0, 1) := by decide +kernel
theorem dX6_leaveTheRest_93 : decode cX6_leaveTheRest 93 = .ok (.getfield 21, 3) := by decide +kernel
theorem dX6_leaveTheRest_96 : decode cX6_leaveTheRest 96 = .ok (.iload_n 1, 1) := by decide +kernel
theorem dX6_leaveTheRest_97 : decode cX6_leaveTheRest 97 = .ok (.aload_n 0, 1) := by decide +kernel
theorem dX6_leaveTheRest_98 : decode cX6_leaveTheRest 98 = .ok (.aload_n 0, 1) := by decide +kernel
theorem dX6_leaveTheRest_99 : decode cX6_leaveTheRest 99 = .ok (.getfield 11, 3) := by decide +kernel
theorem dX6_leaveTheRest_102 : decode cX6_leaveTheRest 102 = .ok (.iload_n 1, 1) := by decide +kernel
theorem dX6_leaveTheRest_103 : decode cX6_leaveTheRest 103 = .ok (.invokevirtual 150, 3) := by decide +kernel
theorem dX6_leaveTheRest_106 : decode cX6_leaveTheRest 106 = .ok (.lastore, 1) := by decide +kernel
theorem dX6_leaveTheRest_107 : decode cX6_leaveTheRest 107 = .ok (.iinc 1 1, 3) := by decide +kernel
theorem dX6_leaveTheRest_110 : decode cX6_leaveTheRest 110 = .ok (.goto (-24), 3) := by decide +kernel
theorem dX6_leaveTheRest_113 : decode cX6_leaveTheRest 113 = .ok (.return_, 1) := by decide +kernel
theorem dX6_sumOf_0 : decode cX6_sumOf 0 = .ok (.lconst 0, 1) := by decide +kernel
theorem dX6_sumOf_1 : decode cX6_sumOf 1 = .ok (.lstore_n 3, 1) := by decide +kernel
theorem dX6_sumOf_2 : decode cX6_sumOf 2 = .ok (.iconst 0, 1) := by decide +kernel
theorem dX6_sumOf_3 : decode cX6_sumOf 3 = .ok (.istore 5, 2) := by decide +kernel
theorem dX6_sumOf_5 : decode cX6_sumOf 5 = .ok (.iload 5, 2) := by decide +kernel
theorem dX6_sumOf_7 : decode cX6_sumOf 7 = .ok (.bipush 13, 2) := by decide +kernel
theorem dX6_sumOf_9 : decode cX6_sumOf 9 = .ok (.if_icmp .ge 21, 3) := by decide +kernel
theorem dX6_sumOf_12 : decode cX6_sumOf 12 = .ok (.lload_n 3, 1) := by decide +kernel
theorem dX6_sumOf_13 : decode cX6_sumOf 13 = .ok (.aload_n 1, 1) := by decide +kernel
theorem dX6_sumOf_14 : decode cX6_sumOf 14 = .ok (.iload_n 2, 1) := by decide +kernel
theorem dX6_sumOf_15 : decode cX6_sumOf 15 = .ok (.bipush 13, 2) := by decide +kernel
theorem dX6_sumOf_17 : decode cX6_sumOf 17 = .ok (.imul, 1) := by decide +kernel
theorem dX6_sumOf_18 : decode cX6_sumOf 18 = .ok (.iload 5, 2) := by decide +kernel
theorem dX6_sumOf_20 : decode cX6_sumOf 20 = .ok (.iadd, 1) := by decide +kernel
theorem dX6_sumOf_21 : decode cX6_sumOf 21 = .ok (.laload, 1) := by decide +kernel
theorem dX6_sumOf_22 : decode cX6_sumOf 22 = .ok (.ladd, 1) := by decide +kernel
theorem dX6_sumOf_23 : decode cX6_sumOf 23 = .ok (.lstore_n 3, 1) := by decide +kernel
theorem dX6_sumOf_24 : decode cX6_sumOf 24 = .ok (.iinc 5 1, 3) := by decide +kernel
theorem dX6_sumOf_27 : decode cX6_sumOf 27 = .ok (.goto (-22), 3) := by decide +kernel
theorem dX6_sumOf_30 : decode cX6_sumOf 30 = .ok (.lload_n 3, 1) := by decide +kernel
theorem dX6_sumOf_31 : decode cX6_sumOf 31 = .ok (.lreturn, 1) := by decide +kernel
theorem dX6_sumTo_0 : decode cX6_sumTo 0 = .ok (.lconst 0, 1) := by decide +kernel
theorem dX6_sumTo_1 : decode cX6_sumTo 1 = .ok (.lstore_n 3, 1) := by decide +kernel
theorem dX6_sumTo_2 : decode cX6_sumTo 2 = .ok (.iconst 0, 1) := by decide +kernel
theorem dX6_sumTo_3 : decode cX6_sumTo 3 = .ok (.istore 5, 2) := by decide +kernel
theorem dX6_sumTo_5 : decode cX6_sumTo 5 = .ok (.iload 5, 2) := by decide +kernel
theorem dX6_sumTo_7 : decode cX6_sumTo 7 = .ok (.bipush 12, 2) := by decide +kernel
theorem dX6_sumTo_9 : decode cX6_sumTo 9 = .ok (.if_icmp .ge 21, 3) := by decide +kernel
theorem dX6_sumTo_12 : decode cX6_sumTo 12 = .ok (.lload_n 3, 1) := by decide +kernel
theorem dX6_sumTo_13 : decode cX6_sumTo 13 = .ok (.aload_n 1, 1) := by decide +kernel
theorem dX6_sumTo_14 : decode cX6_sumTo 14 = .ok (.iload 5, 2) := by decide +kernel
theorem dX6_sumTo_16 : decode cX6_sumTo 16 = .ok (.bipush 13, 2) := by decide +kernel
theorem dX6_sumTo_18 : decode cX6_sumTo 18 = .ok (.imul, 1) := by decide +kernel
theorem dX6_sumTo_19 : decode cX6_sumTo 19 = .ok (.iload_n 2, 1) := by decide +kernel
theorem dX6_sumTo_20 : decode cX6_sumTo 20 = .ok (.iadd, 1) := by decide +kernel
theorem dX6_sumTo_21 : decode cX6_sumTo 21 = .ok (.laload, 1) := by decide +kernel
theorem dX6_sumTo_22 : decode cX6_sumTo 22 = .ok (.ladd, 1) := by decide +kernel
theorem dX6_sumTo_23 : decode cX6_sumTo 23 = .ok (.lstore_n 3, 1) := by decide +kernel
theorem dX6_sumTo_24 : decode cX6_sumTo 24 = .ok (.iinc 5 1, 3) := by decide +kernel
theorem dX6_sumTo_27 : decode cX6_sumTo 27 = .ok (.goto (-22), 3) := by decide +kernel
theorem dX6_sumTo_30 : decode cX6_sumTo 30 = .ok (.lload_n 3, 1) := by decide +kernel
theorem dX6_sumTo_31 : decode cX6_sumTo 31 = .ok (.lreturn, 1) := by decide +kernel
theorem dX6_payInRounds_0 : decode cX6_payInRounds 0 = .ok (.aload_n 0, 1) := by decide +kernel
theorem dX6_payInRounds_1 : decode cX6_payInRounds 1 = .ok (.getfield 15, 3) := by decide +kernel
theorem dX6_payInRounds_4 : decode cX6_payInRounds 4 = .ok (.lconst 0, 1) := by decide +kernel
theorem dX6_payInRounds_5 : decode cX6_payInRounds 5 = .ok (.invokestatic 30, 3) := by decide +kernel
theorem dX6_payInRounds_8 : decode cX6_payInRounds 8 = .ok (.iconst 1, 1) := by decide +kernel
theorem dX6_payInRounds_9 : decode cX6_payInRounds 9 = .ok (.istore_n 2, 1) := by decide +kernel
theorem dX6_payInRounds_10 : decode cX6_payInRounds 10 = .ok (.iconst 0, 1) := by decide +kernel
theorem dX6_payInRounds_11 : decode cX6_payInRounds 11 = .ok (.istore_n 3, 1) := by decide +kernel
theorem dX6_payInRounds_12 : decode cX6_payInRounds 12 = .ok (.iload_n 3, 1) := by decide +kernel
theorem dX6_payInRounds_13 : decode cX6_payInRounds 13 = .ok (.sipush 1000, 3) := by decide +kernel
theorem dX6_payInRounds_16 : decode cX6_payInRounds 16 = .ok (.if_icmp .ge 98, 3) := by decide +kernel
theorem dX6_payInRounds_19 : decode cX6_payInRounds 19 = .ok (.iload_n 2, 1) := by decide +kernel
theorem dX6_payInRounds_20 : decode cX6_payInRounds 20 = .ok (.ifCond .eq 94, 3) := by decide +kernel
theorem dX6_payInRounds_23 : decode cX6_payInRounds 23 = .ok (.aload_n 0, 1) := by decide +kernel
theorem dX6_payInRounds_24 : decode cX6_payInRounds 24 = .ok (.getfield 15, 3) := by decide +kernel
theorem dX6_payInRounds_27 : decode cX6_payInRounds 27 = .ok (.iconst 0, 1) := by decide +kernel
theorem dX6_payInRounds_28 : decode cX6_payInRounds 28 = .ok (.aload_n 0, 1) := by decide +kernel
theorem dX6_payInRounds_29 : decode cX6_payInRounds 29 = .ok (.getfield 18, 3) := by decide +kernel
theorem dX6_payInRounds_32 : decode cX6_payInRounds 32 = .ok (.iconst 0, 1) := by decide +kernel
theorem dX6_payInRounds_33 : decode cX6_payInRounds 33 = .ok (.sipush 156, 3) := by decide +kernel
theorem dX6_payInRounds_36 : decode cX6_payInRounds 36 = .ok (.invokestatic 154, 3) := by decide +kernel
theorem dX6_payInRounds_39 : decode cX6_payInRounds 39 = .ok (.iconst 0, 1) := by decide +kernel
theorem dX6_payInRounds_40 : decode cX6_payInRounds 40 = .ok (.istore_n 2, 1) := by decide +kernel
theorem dX6_payInRounds_41 : decode cX6_payInRounds 41 = .ok (.iconst 0, 1) := by decide +kernel
theorem dX6_payInRounds_42 : decode cX6_payInRounds 42 = .ok (.istore 4, 2) := by decide +kernel
theorem dX6_payInRounds_44 : decode cX6_payInRounds 44 = .ok (.iload 4, 2) := by decide +kernel
theorem dX6_payInRounds_46 : decode cX6_payInRounds 46 = .ok (.aload_n 1, 1) := by decide +kernel
theorem dX6_payInRounds_47 : decode cX6_payInRounds 47 = .ok (.getfield 160, 3) := by decide +kernel
theorem dX6_payInRounds_50 : decode cX6_payInRounds 50 = .ok (.if_icmp .ge 58, 3) := by decide +kernel
theorem dX6_payInRounds_53 : decode cX6_payInRounds 53 = .ok (.aload_n 0, 1) := by decide +kernel
theorem dX6_payInRounds_54 : decode cX6_payInRounds 54 = .ok (.getfield 21, 3) := by decide +kernel
theorem dX6_payInRounds_57 : decode cX6_payInRounds 57 = .ok (.iload 4, 2) := by decide +kernel
theorem dX6_payInRounds_59 : decode cX6_payInRounds 59 = .ok (.laload, 1) := by decide +kernel
theorem dX6_payInRounds_60 : decode cX6_payInRounds 60 = .ok (.lconst 0, 1) := by decide +kernel
theorem dX6_payInRounds_61 : decode cX6_payInRounds 61 = .ok (.lcmp, 1) := by decide +kernel
theorem dX6_payInRounds_62 : decode cX6_payInRounds 62 = .ok (.ifCond .le 40, 3) := by decide +kernel
theorem dX6_payInRounds_65 : decode cX6_payInRounds 65 = .ok (.aload_n 0, 1) := by decide +kernel
theorem dX6_payInRounds_66 : decode cX6_payInRounds 66 = .ok (.iload 4, 2) := by decide +kernel
theorem dX6_payInRounds_68 : decode cX6_payInRounds 68 = .ok (.aload_n 1, 1) := by decide +kernel
theorem dX6_payInRounds_69 : decode cX6_payInRounds 69 = .ok (.getfield 161, 3) := by decide +kernel
theorem dX6_payInRounds_72 : decode cX6_payInRounds 72 = .ok (.iload 4, 2) := by decide +kernel
theorem dX6_payInRounds_74 : decode cX6_payInRounds 74 = .ok (.laload, 1) := by decide +kernel
theorem dX6_payInRounds_75 : decode cX6_payInRounds 75 = .ok (.aload_n 0, 1) := by decide +kernel
theorem dX6_payInRounds_76 : decode cX6_payInRounds 76 = .ok (.aload_n 0, 1) := by decide +kernel
theorem dX6_payInRounds_77 : decode cX6_payInRounds 77 = .ok (.getfield 18, 3) := by decide +kernel
theorem dX6_payInRounds_80 : decode cX6_payInRounds 80 = .ok (.iload 4, 2) := by decide +kernel
theorem dX6_payInRounds_82 : decode cX6_payInRounds 82 = .ok (.invokevirtual 164, 3) := by decide +kernel
theorem dX6_payInRounds_85 : decode cX6_payInRounds 85 = .ok (.ladd, 1) := by decide +kernel
theorem dX6_payInRounds_86 : decode cX6_payInRounds 86 = .ok (.invokevirtual 167, 3) := by decide +kernel
theorem dX6_payInRounds_89 : decode cX6_payInRounds 89 = .ok (.ifCond .ne 7, 3) := by decide +kernel
theorem dX6_payInRounds_92 : decode cX6_payInRounds 92 = .ok (.iload_n 2, 1) := by decide +kernel
theorem dX6_payInRounds_93 : decode cX6_payInRounds 93 = .ok (.ifCond .eq 7, 3) := by decide +kernel
theorem dX6_payInRounds_96 : decode cX6_payInRounds 96 = .ok (.iconst 1, 1) := by decide +kernel
theorem dX6_payInRounds_97 : decode cX6_payInRounds 97 = .ok (.goto 4, 3) := by decide +kernel
theorem dX6_payInRounds_100 : decode cX6_payInRounds 100 = .ok (.iconst 0, 1) := by decide +kernel
theorem dX6_payInRounds_101 : decode cX6_payInRounds 101 = .ok (.istore_n 2, 1) := by decide +kernel
theorem dX6_payInRounds_102 : decode cX6_payInRounds 102 = .ok (.iinc 4 1, 3) := by decide +kernel
theorem dX6_payInRounds_105 : decode cX6_payInRounds 105 = .ok (.goto (-61), 3) := by decide +kernel
theorem dX6_payInRounds_108 : decode cX6_payInRounds 108 = .ok (.iinc 3 1, 3) := by decide +kernel
theorem dX6_payInRounds_111 : decode cX6_payInRounds 111 = .ok (.goto (-99), 3) := by decide +kernel
theorem dX6_payInRounds_114 : decode cX6_payInRounds 114 = .ok (.return_, 1) := by decide +kernel
theorem dX6_payOf_0 : decode cX6_payOf 0 = .ok (.iconst 0, 1) := by decide +kernel
theorem dX6_payOf_1 : decode cX6_payOf 1 = .ok (.istore 4, 2) := by decide +kernel
theorem dX6_payOf_3 : decode cX6_payOf 3 = .ok (.iconst 0, 1) := by decide +kernel
theorem dX6_payOf_4 : decode cX6_payOf 4 = .ok (.istore 5, 2) := by decide +kernel
theorem dX6_payOf_6 : decode cX6_payOf 6 = .ok (.iload 5, 2) := by decide +kernel
theorem dX6_payOf_8 : decode cX6_payOf 8 = .ok (.bipush 13, 2) := by decide +kernel
theorem dX6_payOf_10 : decode cX6_payOf 10 = .ok (.if_icmp .ge 93, 3) := by decide +kernel
theorem dX6_payOf_13 : decode cX6_payOf 13 = .ok (.iload_n 1, 1) := by decide +kernel
theorem dX6_payOf_14 : decode cX6_payOf 14 = .ok (.bipush 13, 2) := by decide +kernel
theorem dX6_payOf_16 : decode cX6_payOf 16 = .ok (.imul, 1) := by decide +kernel
theorem dX6_payOf_17 : decode cX6_payOf 17 = .ok (.iload 5, 2) := by decide +kernel
theorem dX6_payOf_19 : decode cX6_payOf 19 = .ok (.iadd, 1) := by decide +kernel
theorem dX6_payOf_20 : decode cX6_payOf 20 = .ok (.istore 6, 2) := by decide +kernel
theorem dX6_payOf_22 : decode cX6_payOf 22 = .ok (.aload_n 0, 1) := by decide +kernel
theorem dX6_payOf_23 : decode cX6_payOf 23 = .ok (.getfield 15, 3) := by decide +kernel
theorem dX6_payOf_26 : decode cX6_payOf 26 = .ok (.iload 6, 2) := by decide +kernel
theorem dX6_payOf_28 : decode cX6_payOf 28 = .ok (.lload_n 2, 1) := by decide +kernel
theorem dX6_payOf_29 : decode cX6_payOf 29 = .ok (.aload_n 0, 1) := by decide +kernel
theorem dX6_payOf_30 : decode cX6_payOf 30 = .ok (.getfield 21, 3) := by decide +kernel
theorem dX6_payOf_33 : decode cX6_payOf 33 = .ok (.iload_n 1, 1) := by decide +kernel
theorem dX6_payOf_34 : decode cX6_payOf 34 = .ok (.laload, 1) := by decide +kernel
theorem dX6_payOf_35 : decode cX6_payOf 35 = .ok (.lcmp, 1) := by decide +kernel
theorem dX6_payOf_36 : decode cX6_payOf 36 = .ok (.ifCond .ge 23, 3) := by decide +kernel
theorem dX6_payOf_39 : decode cX6_payOf 39 = .ok (.aload_n 0, 1) := by decide +kernel
theorem dX6_payOf_40 : decode cX6_payOf 40 = .ok (.getfield 11, 3) := by decide +kernel
theorem dX6_payOf_43 : decode cX6_payOf 43 = .ok (.iload 6, 2) := by decide +kernel
theorem dX6_payOf_45 : decode cX6_payOf 45 = .ok (.laload, 1) := by decide +kernel
theorem dX6_payOf_46 : decode cX6_payOf 46 = .ok (.lload_n 2, 1) := by decide +kernel
theorem dX6_payOf_47 : decode cX6_payOf 47 = .ok (.aload_n 0, 1) := by decide +kernel
theorem dX6_payOf_48 : decode cX6_payOf 48 = .ok (.getfield 21, 3) := by decide +kernel
theorem dX6_payOf_51 : decode cX6_payOf 51 = .ok (.iload_n 1, 1) := by decide +kernel
theorem dX6_payOf_52 : decode cX6_payOf 52 = .ok (.laload, 1) := by decide +kernel
theorem dX6_payOf_53 : decode cX6_payOf 53 = .ok (.invokestatic 171, 3) := by decide +kernel
theorem dX6_payOf_56 : decode cX6_payOf 56 = .ok (.goto 10, 3) := by decide +kernel
theorem dX6_payOf_59 : decode cX6_payOf 59 = .ok (.aload_n 0, 1) := by decide +kernel
theorem dX6_payOf_60 : decode cX6_payOf 60 = .ok (.getfield 11, 3) := by decide +kernel
theorem dX6_payOf_63 : decode cX6_payOf 63 = .ok (.iload 6, 2) := by decide +kernel
theorem dX6_payOf_65 : decode cX6_payOf 65 = .ok (.laload, 1) := by decide +kernel
theorem dX6_payOf_66 : decode cX6_payOf 66 = .ok (.lastore, 1) := by decide +kernel
theorem dX6_payOf_67 : decode cX6_payOf 67 = .ok (.iload 4, 2) := by decide +kernel
theorem dX6_payOf_69 : decode cX6_payOf 69 = .ok (.ifCond .ne 21, 3) := by decide +kernel
theorem dX6_payOf_72 : decode cX6_payOf 72 = .ok (.aload_n 0, 1) := by decide +kernel
theorem dX6_payOf_73 : decode cX6_payOf 73 = .ok (.getfield 15, 3) := by decide +kernel
theorem dX6_payOf_76 : decode cX6_payOf 76 = .ok (.iload 6, 2) := by decide +kernel
theorem dX6_payOf_78 : decode cX6_payOf 78 = .ok (.laload, 1) := by decide +kernel
theorem dX6_payOf_79 : decode cX6_payOf 79 = .ok (.aload_n 0, 1) := by decide +kernel
theorem dX6_payOf_80 : decode cX6_payOf 80 = .ok (.getfield 18, 3) := by decide +kernel
theorem dX6_payOf_83 : decode cX6_payOf 83 = .ok (.iload 6, 2) := by decide +kernel
theorem dX6_payOf_85 : decode cX6_payOf 85 = .ok (.laload, 1) := by decide +kernel
theorem dX6_payOf_86 : decode cX6_payOf 86 = .ok (.lcmp, 1) := by decide +kernel
theorem dX6_payOf_87 : decode cX6_payOf 87 = .ok (.ifCond .eq 7, 3) := by decide +kernel
theorem dX6_payOf_90 : decode cX6_payOf 90 = .ok (.iconst 1, 1) := by decide +kernel
theorem dX6_payOf_91 : decode cX6_payOf 91 = .ok (.goto 4, 3) := by decide +kernel
theorem dX6_payOf_94 : decode cX6_payOf 94 = .ok (.iconst 0, 1) := by decide +kernel
theorem dX6_payOf_95 : decode cX6_payOf 95 = .ok (.istore 4, 2) := by decide +kernel
theorem dX6_payOf_97 : decode cX6_payOf 97 = .ok (.iinc 5 1, 3) := by decide +kernel
theorem dX6_payOf_100 : decode cX6_payOf 100 = .ok (.goto (-94), 3) := by decide +kernel
theorem dX6_payOf_103 : decode cX6_payOf 103 = .ok (.iload 4, 2) := by decide +kernel
theorem dX6_payOf_105 : decode cX6_payOf 105 = .ok (.ireturn, 1) := by decide +kernel
theorem dX6_part_0 : decode cX6_part 0 = .ok (.lload 4, 2) := by decide +kernel
theorem dX6_part_2 : decode cX6_part 2 = .ok (.lconst 0, 1) := by decide +kernel
theorem dX6_part_3 : decode cX6_part 3 = .ok (.lcmp, 1) := by decide +kernel
theorem dX6_part_4 : decode cX6_part 4 = .ok (.ifCond .gt 5, 3) := by decide +kernel
theorem dX6_part_7 : decode cX6_part 7 = .ok (.lconst 0, 1) := by decide +kernel
theorem dX6_part_8 : decode cX6_part 8 = .ok (.lreturn, 1) := by decide +kernel
theorem dX6_part_9 : decode cX6_part 9 = .ok (.lload_n 0, 1) := by decide +kernel
theorem dX6_part_10 : decode cX6_part 10 = .ok (.lload_n 2, 1) := by decide +kernel
theorem dX6_part_11 : decode cX6_part 11 = .ok (.bipush 20, 2) := by decide +kernel
theorem dX6_part_13 : decode cX6_part 13 = .ok (.lshr, 1) := by decide +kernel
theorem dX6_part_14 : decode cX6_part 14 = .ok (.lmul, 1) := by decide +kernel
theorem dX6_part_15 : decode cX6_part 15 = .ok (.lstore 6, 2) := by decide +kernel
theorem dX6_part_17 : decode cX6_part 17 = .ok (.lload_n 0, 1) := by decide +kernel
theorem dX6_part_18 : decode cX6_part 18 = .ok (.lload_n 2, 1) := by decide +kernel
theorem dX6_part_19 : decode cX6_part 19 = .ok (.ldc2_w 175, 3) := by decide +kernel
theorem dX6_part_22 : decode cX6_part 22 = .ok (.land, 1) := by decide +kernel
theorem dX6_part_23 : decode cX6_part 23 = .ok (.lmul, 1) := by decide +kernel
theorem dX6_part_24 : decode cX6_part 24 = .ok (.lstore 8, 2) := by decide +kernel
theorem dX6_part_26 : decode cX6_part 26 = .ok (.lload 6, 2) := by decide +kernel
theorem dX6_part_28 : decode cX6_part 28 = .ok (.lload 4, 2) := by decide +kernel
theorem dX6_part_30 : decode cX6_part 30 = .ok (.ldiv, 1) := by decide +kernel
theorem dX6_part_31 : decode cX6_part 31 = .ok (.bipush 20, 2) := by decide +kernel
theorem dX6_part_33 : decode cX6_part 33 = .ok (.lshl, 1) := by decide +kernel
theorem dX6_part_34 : decode cX6_part 34 = .ok (.lload 6, 2) := by decide +kernel
theorem dX6_part_36 : decode cX6_part 36 = .ok (.lload 4, 2) := by decide +kernel
theorem dX6_part_38 : decode cX6_part 38 = .ok (.lrem, 1) := by decide +kernel
theorem dX6_part_39 : decode cX6_part 39 = .ok (.bipush 20, 2) := by decide +kernel
theorem dX6_part_41 : decode cX6_part 41 = .ok (.lshl, 1) := by decide +kernel
theorem dX6_part_42 : decode cX6_part 42 = .ok (.lload 8, 2) := by decide +kernel
theorem dX6_part_44 : decode cX6_part 44 = .ok (.ladd, 1) := by decide +kernel
theorem dX6_part_45 : decode cX6_part 45 = .ok (.lload 4, 2) := by decide +kernel
theorem dX6_part_47 : decode cX6_part 47 = .ok (.ldiv, 1) := by decide +kernel
theorem dX6_part_48 : decode cX6_part 48 = .ok (.ladd, 1) := by decide +kernel
theorem dX6_part_49 : decode cX6_part 49 = .ok (.lreturn, 1) := by decide +kernel
theorem dX6_moveCoin_0 : decode cX6_moveCoin 0 = .ok (.iconst 0, 1) := by decide +kernel
theorem dX6_moveCoin_1 : decode cX6_moveCoin 1 = .ok (.istore_n 2, 1) := by decide +kernel
theorem dX6_moveCoin_2 : decode cX6_moveCoin 2 = .ok (.iload_n 2, 1) := by decide +kernel
theorem dX6_moveCoin_3 : decode cX6_moveCoin 3 = .ok (.aload_n 1, 1) := by decide +kernel
theorem dX6_moveCoin_4 : decode cX6_moveCoin 4 = .ok (.getfield 47, 3) := by decide +kernel
theorem dX6_moveCoin_7 : decode cX6_moveCoin 7 = .ok (.getfield 160, 3) := by decide +kernel
theorem dX6_moveCoin_10 : decode cX6_moveCoin 10 = .ok (.if_icmp .ge 108, 3) := by decide +kernel
theorem dX6_moveCoin_13 : decode cX6_moveCoin 13 = .ok (.aload_n 0, 1) := by decide +kernel
theorem dX6_moveCoin_14 : decode cX6_moveCoin 14 = .ok (.aload_n 0, 1) := by decide +kernel
theorem dX6_moveCoin_15 : decode cX6_moveCoin 15 = .ok (.getfield 15, 3) := by decide +kernel
theorem dX6_moveCoin_18 : decode cX6_moveCoin 18 = .ok (.iload_n 2, 1) := by decide +kernel
theorem dX6_moveCoin_19 : decode cX6_moveCoin 19 = .ok (.invokevirtual 150, 3) := by decide +kernel
theorem dX6_moveCoin_22 : decode cX6_moveCoin 22 = .ok (.lstore_n 3, 1) := by decide +kernel
theorem dX6_moveCoin_23 : decode cX6_moveCoin 23 = .ok (.aload_n 0, 1) := by decide +kernel
theorem dX6_moveCoin_24 : decode cX6_moveCoin 24 = .ok (.aload_n 0, 1) := by decide +kernel
theorem dX6_moveCoin_25 : decode cX6_moveCoin 25 = .ok (.getfield 15, 3) := by decide +kernel
theorem dX6_moveCoin_28 : decode cX6_moveCoin 28 = .ok (.iload_n 2, 1) := by decide +kernel
theorem dX6_moveCoin_29 : decode cX6_moveCoin 29 = .ok (.invokevirtual 164, 3) := by decide +kernel
theorem dX6_moveCoin_32 : decode cX6_moveCoin 32 = .ok (.lstore 5, 2) := by decide +kernel
theorem dX6_moveCoin_34 : decode cX6_moveCoin 34 = .ok (.aload_n 1, 1) := by decide +kernel
theorem dX6_moveCoin_35 : decode cX6_moveCoin 35 = .ok (.getfield 47, 3) := by decide +kernel
theorem dX6_moveCoin_38 : decode cX6_moveCoin 38 = .ok (.getfield 161, 3) := by decide +kernel
theorem dX6_moveCoin_41 : decode cX6_moveCoin 41 = .ok (.iload_n 2, 1) := by decide +kernel
theorem dX6_moveCoin_42 : decode cX6_moveCoin 42 = .ok (.dup2, 1) := by decide +kernel
theorem dX6_moveCoin_43 : decode cX6_moveCoin 43 = .ok (.laload, 1) := by decide +kernel
theorem dX6_moveCoin_44 : decode cX6_moveCoin 44 = .ok (.lload 5, 2) := by decide +kernel
theorem dX6_moveCoin_46 : decode cX6_moveCoin 46 = .ok (.lload_n 3, 1) := by decide +kernel
theorem dX6_moveCoin_47 : decode cX6_moveCoin 47 = .ok (.lsub, 1) := by decide +kernel
theorem dX6_moveCoin_48 : decode cX6_moveCoin 48 = .ok (.ladd, 1) := by decide +kernel
theorem dX6_moveCoin_49 : decode cX6_moveCoin 49 = .ok (.lastore, 1) := by decide +kernel
theorem dX6_moveCoin_50 : decode cX6_moveCoin 50 = .ok (.iload_n 2, 1) := by decide +kernel
theorem dX6_moveCoin_51 : decode cX6_moveCoin 51 = .ok (.iconst 5, 1) := by decide +kernel
theorem dX6_moveCoin_52 : decode cX6_moveCoin 52 = .ok (.imul, 1) := by decide +kernel
theorem dX6_moveCoin_53 : decode cX6_moveCoin 53 = .ok (.istore 7, 2) := by decide +kernel
theorem dX6_moveCoin_55 : decode cX6_moveCoin 55 = .ok (.aload_n 1, 1) := by decide +kernel
theorem dX6_moveCoin_56 : decode cX6_moveCoin 56 = .ok (.getfield 36, 3) := by decide +kernel
theorem dX6_moveCoin_59 : decode cX6_moveCoin 59 = .ok (.iload 7, 2) := by decide +kernel
theorem dX6_moveCoin_61 : decode cX6_moveCoin 61 = .ok (.iconst 0, 1) := by decide +kernel
theorem dX6_moveCoin_62 : decode cX6_moveCoin 62 = .ok (.iadd, 1) := by decide +kernel
theorem dX6_moveCoin_63 : decode cX6_moveCoin 63 = .ok (.aload_n 0, 1) := by decide +kernel
theorem dX6_moveCoin_64 : decode cX6_moveCoin 64 = .ok (.getfield 21, 3) := by decide +kernel
theorem dX6_moveCoin_67 : decode cX6_moveCoin 67 = .ok (.iload_n 2, 1) := by decide +kernel
theorem dX6_moveCoin_68 : decode cX6_moveCoin 68 = .ok (.laload, 1) := by decide +kernel
theorem dX6_moveCoin_69 : decode cX6_moveCoin 69 = .ok (.lastore, 1) := by decide +kernel
theorem dX6_moveCoin_70 : decode cX6_moveCoin 70 = .ok (.aload_n 1, 1) := by decide +kernel
theorem dX6_moveCoin_71 : decode cX6_moveCoin 71 = .ok (.getfield 36, 3) := by decide +kernel
theorem dX6_moveCoin_74 : decode cX6_moveCoin 74 = .ok (.iload 7, 2) := by decide +kernel
theorem dX6_moveCoin_76 : decode cX6_moveCoin 76 = .ok (.iconst 1, 1) := by decide +kernel
theorem dX6_moveCoin_77 : decode cX6_moveCoin 77 = .ok (.iadd, 1) := by decide +kernel
theorem dX6_moveCoin_78 : decode cX6_moveCoin 78 = .ok (.lload_n 3, 1) := by decide +kernel
theorem dX6_moveCoin_79 : decode cX6_moveCoin 79 = .ok (.lastore, 1) := by decide +kernel
theorem dX6_moveCoin_80 : decode cX6_moveCoin 80 = .ok (.aload_n 1, 1) := by decide +kernel
theorem dX6_moveCoin_81 : decode cX6_moveCoin 81 = .ok (.getfield 36, 3) := by decide +kernel
theorem dX6_moveCoin_84 : decode cX6_moveCoin 84 = .ok (.iload 7, 2) := by decide +kernel
theorem dX6_moveCoin_86 : decode cX6_moveCoin 86 = .ok (.iconst 2, 1) := by decide +kernel
theorem dX6_moveCoin_87 : decode cX6_moveCoin 87 = .ok (.iadd, 1) := by decide +kernel
theorem dX6_moveCoin_88 : decode cX6_moveCoin 88 = .ok (.lload 5, 2) := by decide +kernel
theorem dX6_moveCoin_90 : decode cX6_moveCoin 90 = .ok (.lastore, 1) := by decide +kernel
theorem dX6_moveCoin_91 : decode cX6_moveCoin 91 = .ok (.aload_n 1, 1) := by decide +kernel
theorem dX6_moveCoin_92 : decode cX6_moveCoin 92 = .ok (.getfield 36, 3) := by decide +kernel
theorem dX6_moveCoin_95 : decode cX6_moveCoin 95 = .ok (.iload 7, 2) := by decide +kernel
theorem dX6_moveCoin_97 : decode cX6_moveCoin 97 = .ok (.iconst 3, 1) := by decide +kernel
theorem dX6_moveCoin_98 : decode cX6_moveCoin 98 = .ok (.iadd, 1) := by decide +kernel
theorem dX6_moveCoin_99 : decode cX6_moveCoin 99 = .ok (.aload_n 0, 1) := by decide +kernel
theorem dX6_moveCoin_100 : decode cX6_moveCoin 100 = .ok (.getfield 11, 3) := by decide +kernel
theorem dX6_moveCoin_103 : decode cX6_moveCoin 103 = .ok (.iload_n 2, 1) := by decide +kernel
theorem dX6_moveCoin_104 : decode cX6_moveCoin 104 = .ok (.bipush 13, 2) := by decide +kernel
theorem dX6_moveCoin_106 : decode cX6_moveCoin 106 = .ok (.imul, 1) := by decide +kernel
theorem dX6_moveCoin_107 : decode cX6_moveCoin 107 = .ok (.bipush 12, 2) := by decide +kernel
theorem dX6_moveCoin_109 : decode cX6_moveCoin 109 = .ok (.iadd, 1) := by decide +kernel
theorem dX6_moveCoin_110 : decode cX6_moveCoin 110 = .ok (.laload, 1) := by decide +kernel
theorem dX6_moveCoin_111 : decode cX6_moveCoin 111 = .ok (.lastore, 1) := by decide +kernel
theorem dX6_moveCoin_112 : decode cX6_moveCoin 112 = .ok (.iinc 2 1, 3) := by decide +kernel
theorem dX6_moveCoin_115 : decode cX6_moveCoin 115 = .ok (.goto (-113), 3) := by decide +kernel
theorem dX6_moveCoin_118 : decode cX6_moveCoin 118 = .ok (.return_, 1) := by decide +kernel
theorem dX6_endBargains_0 : decode cX6_endBargains 0 = .ok (.iconst 0, 1) := by decide +kernel
theorem dX6_endBargains_1 : decode cX6_endBargains 1 = .ok (.istore_n 3, 1) := by decide +kernel
theorem dX6_endBargains_2 : decode cX6_endBargains 2 = .ok (.iload_n 3, 1) := by decide +kernel
theorem dX6_endBargains_3 : decode cX6_endBargains 3 = .ok (.bipush 60, 2) := by decide +kernel
theorem dX6_endBargains_5 : decode cX6_endBargains 5 = .ok (.if_icmp .ge 24, 3) := by decide +kernel
theorem dX6_endBargains_8 : decode cX6_endBargains 8 = .ok (.aload_n 1, 1) := by decide +kernel
theorem dX6_endBargains_9 : decode cX6_endBargains 9 = .ok (.iload_n 3, 1) := by decide +kernel
theorem dX6_endBargains_10 : decode cX6_endBargains 10 = .ok (.iload_n 2, 1) := by decide +kernel
theorem dX6_endBargains_11 : decode cX6_endBargains 11 = .ok (.invokevirtual 79, 3) := by decide +kernel
theorem dX6_endBargains_14 : decode cX6_endBargains 14 = .ok (.ifCond .eq 9, 3) := by decide +kernel
theorem dX6_endBargains_17 : decode cX6_endBargains 17 = .ok (.aload_n 1, 1) := by decide +kernel
theorem dX6_endBargains_18 : decode cX6_endBargains 18 = .ok (.iload_n 3, 1) := by decide +kernel
theorem dX6_endBargains_19 : decode cX6_endBargains 19 = .ok (.iconst 2, 1) := by decide +kernel
theorem dX6_endBargains_20 : decode cX6_endBargains 20 = .ok (.invokevirtual 177, 3) := by decide +kernel
theorem dX6_endBargains_23 : decode cX6_endBargains 23 = .ok (.iinc 3 1, 3) := by decide +kernel
theorem dX6_endBargains_26 : decode cX6_endBargains 26 = .ok (.goto (-24), 3) := by decide +kernel
theorem dX6_endBargains_29 : decode cX6_endBargains 29 = .ok (.return_, 1) := by decide +kernel
theorem dX6_hammer_0 : decode cX6_hammer 0 = .ok (.iconst 0, 1) := by decide +kernel
theorem dX6_hammer_1 : decode cX6_hammer 1 = .ok (.istore_n 2, 1) := by decide +kernel
theorem dX6_hammer_2 : decode cX6_hammer 2 = .ok (.iconst 0, 1) := by decide +kernel
theorem dX6_hammer_3 : decode cX6_hammer 3 = .ok (.istore_n 3, 1) := by decide +kernel
theorem dX6_hammer_4 : decode cX6_hammer 4 = .ok (.iload_n 3, 1) := by decide +kernel
theorem dX6_hammer_5 : decode cX6_hammer 5 = .ok (.aload_n 1, 1) := by decide +kernel
theorem dX6_hammer_6 : decode cX6_hammer 6 = .ok (.getfield 47, 3) := by decide +kernel
theorem dX6_hammer_9 : decode cX6_hammer 9 = .ok (.getfield 160, 3) := by decide +kernel
theorem dX6_hammer_12 : decode cX6_hammer 12 = .ok (.if_icmp .ge 44, 3) := by decide +kernel
theorem dX6_hammer_15 : decode cX6_hammer 15 = .ok (.aload_n 0, 1) := by decide +kernel
theorem dX6_hammer_16 : decode cX6_hammer 16 = .ok (.aload_n 0, 1) := by decide +kernel
theorem dX6_hammer_17 : decode cX6_hammer 17 = .ok (.getfield 15, 3) := by decide +kernel
theorem dX6_hammer_20 : decode cX6_hammer 20 = .ok (.iload_n 3, 1) := by decide +kernel
theorem dX6_hammer_21 : decode cX6_hammer 21 = .ok (.invokevirtual 150, 3) := by decide +kernel
theorem dX6_hammer_24 : decode cX6_hammer 24 = .ok (.aload_n 0, 1) := by decide +kernel
theorem dX6_hammer_25 : decode cX6_hammer 25 = .ok (.getfield 21, 3) := by decide +kernel
theorem dX6_hammer_28 : decode cX6_hammer 28 = .ok (.iload_n 3, 1) := by decide +kernel
theorem dX6_hammer_29 : decode cX6_hammer 29 = .ok (.laload, 1) := by decide +kernel
theorem dX6_hammer_30 : decode cX6_hammer 30 = .ok (.lcmp, 1) := by decide +kernel
theorem dX6_hammer_31 : decode cX6_hammer 31 = .ok (.ifCond .ge 19, 3) := by decide +kernel
theorem dX6_hammer_34 : decode cX6_hammer 34 = .ok (.aload_n 1, 1) := by decide +kernel
theorem dX6_hammer_35 : decode cX6_hammer 35 = .ok (.getfield 47, 3) := by decide +kernel
theorem dX6_hammer_38 : decode cX6_hammer 38 = .ok (.getfield 181, 3) := by decide +kernel
theorem dX6_hammer_41 : decode cX6_hammer 41 = .ok (.iload_n 3, 1) := by decide +kernel
theorem dX6_hammer_42 : decode cX6_hammer 42 = .ok (.aload_n 1, 1) := by decide +kernel
theorem dX6_hammer_43 : decode cX6_hammer 43 = .ok (.getfield 184, 3) := by decide +kernel
theorem dX6_hammer_46 : decode cX6_hammer 46 = .ok (.iastore, 1) := by decide +kernel
theorem dX6_hammer_47 : decode cX6_hammer 47 = .ok (.iinc 2 1, 3) := by decide +kernel
theorem dX6_hammer_50 : decode cX6_hammer 50 = .ok (.iinc 3 1, 3) := by decide +kernel
theorem dX6_hammer_53 : decode cX6_hammer 53 = .ok (.goto (-49), 3) := by decide +kernel
theorem dX6_hammer_56 : decode cX6_hammer 56 = .ok (.iload_n 2, 1) := by decide +kernel
theorem dX6_hammer_57 : decode cX6_hammer 57 = .ok (.ireturn, 1) := by decide +kernel
theorem dX6_voidOthers_0 : decode cX6_voidOthers 0 = .ok (.iconst 0, 1) := by decide +kernel
theorem dX6_voidOthers_1 : decode cX6_voidOthers 1 = .ok (.istore_n 2, 1) := by decide +kernel
theorem dX6_voidOthers_2 : decode cX6_voidOthers 2 = .ok (.iload_n 2, 1) := by decide +kernel
theorem dX6_voidOthers_3 : decode cX6_voidOthers 3 = .ok (.aload_n 1, 1) := by decide +kernel
theorem dX6_voidOthers_4 : decode cX6_voidOthers 4 = .ok (.getfield 47, 3) := by decide +kernel
theorem dX6_voidOthers_7 : decode cX6_voidOthers 7 = .ok (.getfield 160, 3) := by decide +kernel
theorem dX6_voidOthers_10 : decode cX6_voidOthers 10 = .ok (.if_icmp .ge 35, 3) := by decide +kernel
theorem dX6_voidOthers_13 : decode cX6_voidOthers 13 = .ok (.aload_n 1, 1) := by decide +kernel
theorem dX6_voidOthers_14 : decode cX6_voidOthers 14 = .ok (.getfield 47, 3) := by decide +kernel
theorem dX6_voidOthers_17 : decode cX6_voidOthers 17 = .ok (.iload_n 2, 1) := by decide +kernel
theorem dX6_voidOthers_18 : decode cX6_voidOthers 18 = .ok (.invokevirtual 187, 3) := by decide +kernel
theorem dX6_voidOthers_21 : decode cX6_voidOthers 21 = .ok (.ifCond .ne 18, 3) := by decide +kernel
theorem dX6_voidOthers_24 : decode cX6_voidOthers 24 = .ok (.aload_n 0, 1) := by decide +kernel
theorem dX6_voidOthers_25 : decode cX6_voidOthers 25 = .ok (.aload_n 1, 1) := by decide +kernel
theorem dX6_voidOthers_26 : decode cX6_voidOthers 26 = .ok (.iload_n 2, 1) := by decide +kernel
theorem dX6_voidOthers_27 : decode cX6_voidOthers 27 = .ok (.invokevirtual 191, 3) := by decide +kernel
theorem dX6_voidOthers_30 : decode cX6_voidOthers 30 = .ok (.aload_n 0, 1) := by decide +kernel
theorem dX6_voidOthers_31 : decode cX6_voidOthers 31 = .ok (.aload_n 1, 1) := by decide +kernel
theorem dX6_voidOthers_32 : decode cX6_voidOthers 32 = .ok (.getfield 194, 3) := by decide +kernel
theorem dX6_voidOthers_35 : decode cX6_voidOthers 35 = .ok (.iload_n 2, 1) := by decide +kernel
theorem dX6_voidOthers_36 : decode cX6_voidOthers 36 = .ok (.invokevirtual 197, 3) := by decide +kernel
theorem dX6_voidOthers_39 : decode cX6_voidOthers 39 = .ok (.iinc 2 1, 3) := by decide +kernel
theorem dX6_voidOthers_42 : decode cX6_voidOthers 42 = .ok (.goto (-40), 3) := by decide +kernel
theorem dX6_voidOthers_45 : decode cX6_voidOthers 45 = .ok (.return_, 1) := by decide +kernel
theorem dX6_voidBargainsOf_0 : decode cX6_voidBargainsOf 0 = .ok (.aload_n 1, 1) := by decide +kernel
theorem dX6_voidBargainsOf_1 : decode cX6_voidBargainsOf 1 = .ok (.getfield 64, 3) := by decide +kernel
theorem dX6_voidBargainsOf_4 : decode cX6_voidBargainsOf 4 = .ok (.astore_n 3, 1) := by decide +kernel
theorem dX6_voidBargainsOf_5 : decode cX6_voidBargainsOf 5 = .ok (.iconst 0, 1) := by decide +kernel
theorem dX6_voidBargainsOf_6 : decode cX6_voidBargainsOf 6 = .ok (.istore 4, 2) := by decide +kernel
theorem dX6_voidBargainsOf_8 : decode cX6_voidBargainsOf 8 = .ok (.iload 4, 2) := by decide +kernel
theorem dX6_voidBargainsOf_10 : decode cX6_voidBargainsOf 10 = .ok (.bipush 60, 2) := by decide +kernel
theorem dX6_voidBargainsOf_12 : decode cX6_voidBargainsOf 12 = .ok (.if_icmp .ge 138, 3) := by decide +kernel
theorem dX6_voidBargainsOf_15 : decode cX6_voidBargainsOf 15 = .ok (.aload_n 3, 1) := by decide +kernel
theorem dX6_voidBargainsOf_16 : decode cX6_voidBargainsOf 16 = .ok (.iload 4, 2) := by decide +kernel
theorem dX6_voidBargainsOf_18 : decode cX6_voidBargainsOf 18 = .ok (.invokevirtual 201, 3) := by decide +kernel
theorem dX6_voidBargainsOf_21 : decode cX6_voidBargainsOf 21 = .ok (.ifCond .eq 123, 3) := by decide +kernel
theorem dX6_voidBargainsOf_24 : decode cX6_voidBargainsOf 24 = .ok (.aload_n 3, 1) := by decide +kernel
theorem dX6_voidBargainsOf_25 : decode cX6_voidBargainsOf 25 = .ok (.iload 4, 2) := by decide +kernel
theorem dX6_voidBargainsOf_27 : decode cX6_voidBargainsOf 27 = .ok (.iload_n 2, 1) := by decide +kernel
theorem dX6_voidBargainsOf_28 : decode cX6_voidBargainsOf 28 = .ok (.invokevirtual 204, 3) := by decide +kernel
theorem dX6_voidBargainsOf_31 : decode cX6_voidBargainsOf 31 = .ok (.iconst (-1), 1) := by decide +kernel
theorem dX6_voidBargainsOf_32 : decode cX6_voidBargainsOf 32 = .ok (.if_icmp .eq 112, 3) := by decide +kernel
theorem dX6_voidBargainsOf_35 : decode cX6_voidBargainsOf 35 = .ok (.aload_n 3, 1) := by decide +kernel
theorem dX6_voidBargainsOf_36 : decode cX6_voidBargainsOf 36 = .ok (.iload 4, 2) := by decide +kernel
theorem dX6_voidBargainsOf_38 : decode cX6_voidBargainsOf 38 = .ok (.iconst 0, 1) := by decide +kernel
theorem dX6_voidBargainsOf_39 : decode cX6_voidBargainsOf 39 = .ok (.invokevirtual 85, 3) := by decide +kernel
theorem dX6_voidBargainsOf_42 : decode cX6_voidBargainsOf 42 = .ok (.iload_n 2, 1) := by decide +kernel
theorem dX6_voidBargainsOf_43 : decode cX6_voidBargainsOf 43 = .ok (.if_icmp .ne 7, 3) := by decide +kernel
theorem dX6_voidBargainsOf_46 : decode cX6_voidBargainsOf 46 = .ok (.iconst 1, 1) := by decide +kernel
theorem dX6_voidBargainsOf_47 : decode cX6_voidBargainsOf 47 = .ok (.goto 4, 3) := by decide +kernel
theorem dX6_voidBargainsOf_50 : decode cX6_voidBargainsOf 50 = .ok (.iconst 0, 1) := by decide +kernel
theorem dX6_voidBargainsOf_51 : decode cX6_voidBargainsOf 51 = .ok (.istore 5, 2) := by decide +kernel
theorem dX6_voidBargainsOf_53 : decode cX6_voidBargainsOf 53 = .ok (.aload_n 3, 1) := by decide +kernel
theorem dX6_voidBargainsOf_54 : decode cX6_voidBargainsOf 54 = .ok (.iload 4, 2) := by decide +kernel
theorem dX6_voidBargainsOf_56 : decode cX6_voidBargainsOf 56 = .ok (.iload 5, 2) := by decide +kernel
theorem dX6_voidBargainsOf_58 : decode cX6_voidBargainsOf 58 = .ok (.ifCond .eq 7, 3) := by decide +kernel
theorem dX6_voidBargainsOf_61 : decode cX6_voidBargainsOf 61 = .ok (.iconst 1, 1) := by decide +kernel
theorem dX6_voidBargainsOf_62 : decode cX6_voidBargainsOf 62 = .ok (.goto 4, 3) := by decide +kernel
theorem dX6_voidBargainsOf_65 : decode cX6_voidBargainsOf 65 = .ok (.iconst 0, 1) := by decide +kernel
theorem dX6_voidBargainsOf_66 : decode cX6_voidBargainsOf 66 = .ok (.invokevirtual 85, 3) := by decide +kernel
theorem dX6_voidBargainsOf_69 : decode cX6_voidBargainsOf 69 = .ok (.istore 6, 2) := by decide +kernel
theorem dX6_voidBargainsOf_71 : decode cX6_voidBargainsOf 71 = .ok (.aload_n 1, 1) := by decide +kernel
theorem dX6_voidBargainsOf_72 : decode cX6_voidBargainsOf 72 = .ok (.getfield 89, 3) := by decide +kernel
theorem dX6_voidBargainsOf_75 : decode cX6_voidBargainsOf 75 = .ok (.aload_n 3, 1) := by decide +kernel
theorem dX6_voidBargainsOf_76 : decode cX6_voidBargainsOf 76 = .ok (.iload 4, 2) := by decide +kernel
theorem dX6_voidBargainsOf_78 : decode cX6_voidBargainsOf 78 = .ok (.iconst 2, 1) := by decide +kernel
theorem dX6_voidBargainsOf_79 : decode cX6_voidBargainsOf 79 = .ok (.invokevirtual 85, 3) := by decide +kernel
theorem dX6_voidBargainsOf_82 : decode cX6_voidBargainsOf 82 = .ok (.iaload, 1) := by decide +kernel
theorem dX6_voidBargainsOf_83 : decode cX6_voidBargainsOf 83 = .ok (.aload_n 3, 1) := by decide +kernel
theorem dX6_voidBargainsOf_84 : decode cX6_voidBargainsOf 84 = .ok (.iload 4, 2) := by decide +kernel
theorem dX6_voidBargainsOf_86 : decode cX6_voidBargainsOf 86 = .ok (.iconst 4, 1) := by decide +kernel
theorem dX6_voidBargainsOf_87 : decode cX6_voidBargainsOf 87 = .ok (.invokevirtual 85, 3) := by decide +kernel
theorem dX6_voidBargainsOf_90 : decode cX6_voidBargainsOf 90 = .ok (.isub, 1) := by decide +kernel
theorem dX6_voidBargainsOf_91 : decode cX6_voidBargainsOf 91 = .ok (.istore 7, 2) := by decide +kernel
theorem dX6_voidBargainsOf_93 : decode cX6_voidBargainsOf 93 = .ok (.aload_n 3, 1) := by decide +kernel
theorem dX6_voidBargainsOf_94 : decode cX6_voidBargainsOf 94 = .ok (.iload 4, 2) := by decide +kernel
theorem dX6_voidBargainsOf_96 : decode cX6_voidBargainsOf 96 = .ok (.iconst 3, 1) := by decide +kernel
theorem dX6_voidBargainsOf_97 : decode cX6_voidBargainsOf 97 = .ok (.invokevirtual 85, 3) := by decide +kernel
theorem dX6_voidBargainsOf_100 : decode cX6_voidBargainsOf 100 = .ok (.i2l, 1) := by decide +kernel
theorem dX6_voidBargainsOf_101 : decode cX6_voidBargainsOf 101 = .ok (.iload 5, 2) := by decide +kernel
theorem dX6_voidBargainsOf_103 : decode cX6_voidBargainsOf 103 = .ok (.ifCond .eq 8, 3) := by decide +kernel
theorem dX6_voidBargainsOf_106 : decode cX6_voidBargainsOf 106 = .ok (.iload 7, 2) := by decide +kernel
theorem dX6_voidBargainsOf_108 : decode cX6_voidBargainsOf 108 = .ok (.goto 6, 3) := by decide +kernel
theorem dX6_voidBargainsOf_111 : decode cX6_voidBargainsOf 111 = .ok (.iload 7, 2) := by decide +kernel
theorem dX6_voidBargainsOf_113 : decode cX6_voidBargainsOf 113 = .ok (.ineg, 1) := by decide +kernel
theorem dX6_voidBargainsOf_114 : decode cX6_voidBargainsOf 114 = .ok (.i2l, 1) := by decide +kernel
theorem dX6_voidBargainsOf_115 : decode cX6_voidBargainsOf 115 = .ok (.lmul, 1) := by decide +kernel
theorem dX6_voidBargainsOf_116 : decode cX6_voidBargainsOf 116 = .ok (.lstore 8, 2) := by decide +kernel
theorem dX6_voidBargainsOf_118 : decode cX6_voidBargainsOf 118 = .ok (.aload_n 1, 1) := by decide +kernel
theorem dX6_voidBargainsOf_119 : decode cX6_voidBargainsOf 119 = .ok (.getfield 47, 3) := by decide +kernel
theorem dX6_voidBargainsOf_122 : decode cX6_voidBargainsOf 122 = .ok (.getfield 207, 3) := by decide +kernel
theorem dX6_voidBargainsOf_125 : decode cX6_voidBargainsOf 125 = .ok (.iload 6, 2) := by decide +kernel
theorem dX6_voidBargainsOf_127 : decode cX6_voidBargainsOf 127 = .ok (.dup2, 1) := by decide +kernel
theorem dX6_voidBargainsOf_128 : decode cX6_voidBargainsOf 128 = .ok (.laload, 1) := by decide +kernel
theorem dX6_voidBargainsOf_129 : decode cX6_voidBargainsOf 129 = .ok (.lload 8, 2) := by decide +kernel
theorem dX6_voidBargainsOf_131 : decode cX6_voidBargainsOf 131 = .ok (.lconst 0, 1) := by decide +kernel
theorem dX6_voidBargainsOf_132 : decode cX6_voidBargainsOf 132 = .ok (.invokestatic 147, 3) := by decide +kernel
theorem dX6_voidBargainsOf_135 : decode cX6_voidBargainsOf 135 = .ok (.ladd, 1) := by decide +kernel
theorem dX6_voidBargainsOf_136 : decode cX6_voidBargainsOf 136 = .ok (.lastore, 1) := by decide +kernel
theorem dX6_voidBargainsOf_137 : decode cX6_voidBargainsOf 137 = .ok (.aload_n 3, 1) := by decide +kernel
theorem dX6_voidBargainsOf_138 : decode cX6_voidBargainsOf 138 = .ok (.iload 4, 2) := by decide +kernel
theorem dX6_voidBargainsOf_140 : decode cX6_voidBargainsOf 140 = .ok (.iconst 3, 1) := by decide +kernel
theorem dX6_voidBargainsOf_141 : decode cX6_voidBargainsOf 141 = .ok (.invokevirtual 177, 3) := by decide +kernel
theorem dX6_voidBargainsOf_144 : decode cX6_voidBargainsOf 144 = .ok (.iinc 4 1, 3) := by decide +kernel
theorem dX6_voidBargainsOf_147 : decode cX6_voidBargainsOf 147 = .ok (.goto (-139), 3) := by decide +kernel
theorem dX6_voidBargainsOf_150 : decode cX6_voidBargainsOf 150 = .ok (.return_, 1) := by decide +kernel
theorem dX6_endOptionsOf_0 : decode cX6_endOptionsOf 0 = .ok (.iconst 0, 1) := by decide +kernel
theorem dX6_endOptionsOf_1 : decode cX6_endOptionsOf 1 = .ok (.istore_n 3, 1) := by decide +kernel
theorem dX6_endOptionsOf_2 : decode cX6_endOptionsOf 2 = .ok (.iload_n 3, 1) := by decide +kernel
theorem dX6_endOptionsOf_3 : decode cX6_endOptionsOf 3 = .ok (.aload_n 1, 1) := by decide +kernel
theorem dX6_endOptionsOf_4 : decode cX6_endOptionsOf 4 = .ok (.getfield 101, 3) := by decide +kernel
theorem dX6_endOptionsOf_7 : decode cX6_endOptionsOf 7 = .ok (.if_icmp .ge 59, 3) := by decide +kernel
theorem dX6_endOptionsOf_10 : decode cX6_endOptionsOf 10 = .ok (.aload_n 1, 1) := by decide +kernel
theorem dX6_endOptionsOf_11 : decode cX6_endOptionsOf 11 = .ok (.iload_n 3, 1) := by decide +kernel
theorem dX6_endOptionsOf_12 : decode cX6_endOptionsOf 12 = .ok (.iconst 0, 1) := by decide +kernel
theorem dX6_endOptionsOf_13 : decode cX6_endOptionsOf 13 = .ok (.invokevirtual 112, 3) := by decide +kernel
theorem dX6_endOptionsOf_16 : decode cX6_endOptionsOf 16 = .ok (.iload_n 2, 1) := by decide +kernel
theorem dX6_endOptionsOf_17 : decode cX6_endOptionsOf 17 = .ok (.if_icmp .eq 13, 3) := by decide +kernel
theorem dX6_endOptionsOf_20 : decode cX6_endOptionsOf 20 = .ok (.aload_n 1, 1) := by decide +kernel
theorem dX6_endOptionsOf_21 : decode cX6_endOptionsOf 21 = .ok (.iload_n 3, 1) := by decide +kernel
theorem dX6_endOptionsOf_22 : decode cX6_endOptionsOf 22 = .ok (.iconst 1, 1) := by decide +kernel
theorem dX6_endOptionsOf_23 : decode cX6_endOptionsOf 23 = .ok (.invokevirtual 112, 3) := by decide +kernel
theorem dX6_endOptionsOf_26 : decode cX6_endOptionsOf 26 = .ok (.iload_n 2, 1) := by decide +kernel
theorem dX6_endOptionsOf_27 : decode cX6_endOptionsOf 27 = .ok (.if_icmp .ne 7, 3) := by decide +kernel
theorem dX6_endOptionsOf_30 : decode cX6_endOptionsOf 30 = .ok (.iconst 1, 1) := by decide +kernel
theorem dX6_endOptionsOf_31 : decode cX6_endOptionsOf 31 = .ok (.goto 4, 3) := by decide +kernel
theorem dX6_endOptionsOf_34 : decode cX6_endOptionsOf 34 = .ok (.iconst 0, 1) := by decide +kernel
theorem dX6_endOptionsOf_35 : decode cX6_endOptionsOf 35 = .ok (.istore 4, 2) := by decide +kernel
theorem dX6_endOptionsOf_37 : decode cX6_endOptionsOf 37 = .ok (.iload 4, 2) := by decide +kernel
theorem dX6_endOptionsOf_39 : decode cX6_endOptionsOf 39 = .ok (.ifCond .eq 21, 3) := by decide +kernel
theorem dX6_endOptionsOf_42 : decode cX6_endOptionsOf 42 = .ok (.aload_n 1, 1) := by decide +kernel
theorem dX6_endOptionsOf_43 : decode cX6_endOptionsOf 43 = .ok (.iload_n 3, 1) := by decide +kernel
theorem dX6_endOptionsOf_44 : decode cX6_endOptionsOf 44 = .ok (.bipush 6, 2) := by decide +kernel
theorem dX6_endOptionsOf_46 : decode cX6_endOptionsOf 46 = .ok (.invokevirtual 112, 3) := by decide +kernel
theorem dX6_endOptionsOf_49 : decode cX6_endOptionsOf 49 = .ok (.ifCond .ne 11, 3) := by decide +kernel
theorem dX6_endOptionsOf_52 : decode cX6_endOptionsOf 52 = .ok (.aload_n 1, 1) := by decide +kernel
theorem dX6_endOptionsOf_53 : decode cX6_endOptionsOf 53 = .ok (.iload_n 3, 1) := by decide +kernel
theorem dX6_endOptionsOf_54 : decode cX6_endOptionsOf 54 = .ok (.bipush 6, 2) := by decide +kernel
theorem dX6_endOptionsOf_56 : decode cX6_endOptionsOf 56 = .ok (.iconst 2, 1) := by decide +kernel
theorem dX6_endOptionsOf_57 : decode cX6_endOptionsOf 57 = .ok (.invokevirtual 210, 3) := by decide +kernel
theorem dX6_endOptionsOf_60 : decode cX6_endOptionsOf 60 = .ok (.iinc 3 1, 3) := by decide +kernel
theorem dX6_endOptionsOf_63 : decode cX6_endOptionsOf 63 = .ok (.goto (-61), 3) := by decide +kernel
theorem dX6_endOptionsOf_66 : decode cX6_endOptionsOf 66 = .ok (.return_, 1) := by decide +kernel
theorem dX7_init_0 : decode cX7_init 0 = .ok (.aload_n 0, 1) := by decide +kernel
theorem dX7_init_1 : decode cX7_init 1 = .ok (.invokespecial 5, 3) := by decide +kernel
theorem dX7_init_4 : decode cX7_init 4 = .ok (.aload_n 0, 1) := by decide +kernel
theorem dX7_init_5 : decode cX7_init 5 = .ok (.bipush 12, 2) := by decide +kernel
theorem dX7_init_7 : decode cX7_init 7 = .ok (.newarray .int, 2) := by decide +kernel
theorem dX7_init_9 : decode cX7_init 9 = .ok (.putfield 11, 3) := by decide +kernel
theorem dX7_init_12 : decode cX7_init 12 = .ok (.aload_n 0, 1) := by decide +kernel
theorem dX7_init_13 : decode cX7_init 13 = .ok (.bipush 10, 2) := by decide +kernel
theorem dX7_init_15 : decode cX7_init 15 = .ok (.newarray .int, 2) := by decide +kernel
theorem dX7_init_17 : decode cX7_init 17 = .ok (.putfield 15, 3) := by decide +kernel
theorem dX7_init_20 : decode cX7_init 20 = .ok (.aload_n 0, 1) := by decide +kernel
theorem dX7_init_21 : decode cX7_init 21 = .ok (.sipush 1024, 3) := by decide +kernel
theorem dX7_init_24 : decode cX7_init 24 = .ok (.newarray .int, 2) := by decide +kernel
theorem dX7_init_26 : decode cX7_init 26 = .ok (.putfield 18, 3) := by decide +kernel
theorem dX7_init_29 : decode cX7_init 29 = .ok (.aload_n 0, 1) := by decide +kernel
theorem dX7_init_30 : decode cX7_init 30 = .ok (.sipush 1024, 3) := by decide +kernel
theorem dX7_init_33 : decode cX7_init 33 = .ok (.newarray .int, 2) := by decide +kernel
theorem dX7_init_35 : decode cX7_init 35 = .ok (.putfield 21, 3) := by decide +kernel
theorem dX7_init_38 : decode cX7_init 38 = .ok (.aload_n 0, 1) := by decide +kernel
theorem dX7_init_39 : decode cX7_init 39 = .ok (.bipush 12, 2) := by decide +kernel
theorem dX7_init_41 : decode cX7_init 41 = .ok (.newarray .long, 2) := by decide +kernel
theorem dX7_init_43 : decode cX7_init 43 = .ok (.putfield 24, 3) := by decide +kernel
theorem dX7_init_46 : decode cX7_init 46 = .ok (.aload_n 0, 1) := by decide +kernel
theorem dX7_init_47 : decode cX7_init 47 = .ok (.bipush 12, 2) := by decide +kernel
theorem dX7_init_49 : decode cX7_init 49 = .ok (.newarray .long, 2) := by decide +kernel
theorem dX7_init_51 : decode cX7_init 51 = .ok (.putfield 28, 3) := by decide +kernel
theorem dX7_init_54 : decode cX7_init 54 = .ok (.aload_n 0, 1) := by decide +kernel
theorem dX7_init_55 : decode cX7_init 55 = .ok (.bipush 12, 2) := by decide +kernel
theorem dX7_init_57 : decode cX7_init 57 = .ok (.newarray .int, 2) := by decide +kernel
theorem dX7_init_59 : decode cX7_init 59 = .ok (.putfield 31, 3) := by decide +kernel
theorem dX7_init_62 : decode cX7_init 62 = .ok (.aload_n 0, 1) := by decide +kernel
theorem dX7_init_63 : decode cX7_init 63 = .ok (.bipush 12, 2) := by decide +kernel
theorem dX7_init_65 : decode cX7_init 65 = .ok (.newarray .long, 2) := by decide +kernel
theorem dX7_init_67 : decode cX7_init 67 = .ok (.putfield 34, 3) := by decide +kernel
theorem dX7_init_70 : decode cX7_init 70 = .ok (.return_, 1) := by decide +kernel
theorem dX7_fewestPasses_0 : decode cX7_fewestPasses 0 = .ok (.aload_n 1, 1) := by decide +kernel
theorem dX7_fewestPasses_1 : decode cX7_fewestPasses 1 = .ok (.getfield 37, 3) := by decide +kernel
theorem dX7_fewestPasses_4 : decode cX7_fewestPasses 4 = .ok (.aload_n 0, 1) := by decide +kernel
theorem dX7_fewestPasses_5 : decode cX7_fewestPasses 5 = .ok (.getfield 11, 3) := by decide +kernel
theorem dX7_fewestPasses_8 : decode cX7_fewestPasses 8 = .ok (.iload_n 2, 1) := by decide +kernel
theorem dX7_fewestPasses_9 : decode cX7_fewestPasses 9 = .ok (.iload_n 3, 1) := by decide +kernel
theorem dX7_fewestPasses_10 : decode cX7_fewestPasses 10 = .ok (.invokevirtual 43, 3) := by decide +kernel
theorem dX7_fewestPasses_13 : decode cX7_fewestPasses 13 = .ok (.iconst 0, 1) := by decide +kernel
theorem dX7_fewestPasses_14 : decode cX7_fewestPasses 14 = .ok (.istore 4, 2) := by decide +kernel
theorem dX7_fewestPasses_16 : decode cX7_fewestPasses 16 = .ok (.iconst 0, 1) := by decide +kernel
theorem dX7_fewestPasses_17 : decode cX7_fewestPasses 17 = .ok (.istore 5, 2) := by decide +kernel
theorem dX7_fewestPasses_19 : decode cX7_fewestPasses 19 = .ok (.iload 5, 2) := by decide +kernel
theorem dX7_fewestPasses_21 : decode cX7_fewestPasses 21 = .ok (.bipush 12, 2) := by decide +kernel
theorem dX7_fewestPasses_23 : decode cX7_fewestPasses 23 = .ok (.if_icmp .ge 45, 3) := by decide +kernel
theorem dX7_fewestPasses_26 : decode cX7_fewestPasses 26 = .ok (.aload_n 0, 1) := by decide +kernel
theorem dX7_fewestPasses_27 : decode cX7_fewestPasses 27 = .ok (.getfield 11, 3) := by decide +kernel
theorem dX7_fewestPasses_30 : decode cX7_fewestPasses 30 = .ok (.iload 5, 2) := by decide +kernel
theorem dX7_fewestPasses_32 : decode cX7_fewestPasses 32 = .ok (.iaload, 1) := by decide +kernel
theorem dX7_fewestPasses_33 : decode cX7_fewestPasses 33 = .ok (.ifCond .eq 29, 3) := by decide +kernel
theorem dX7_fewestPasses_36 : decode cX7_fewestPasses 36 = .ok (.iload 4, 2) := by decide +kernel
theorem dX7_fewestPasses_38 : decode cX7_fewestPasses 38 = .ok (.bipush 10, 2) := by decide +kernel
theorem dX7_fewestPasses_40 : decode cX7_fewestPasses 40 = .ok (.if_icmp .lt 5, 3) := by decide +kernel
theorem dX7_fewestPasses_43 : decode cX7_fewestPasses 43 = .ok (.iconst (-1), 1) := by decide +kernel
theorem dX7_fewestPasses_44 : decode cX7_fewestPasses 44 = .ok (.ireturn, 1) := by decide +kernel
theorem dX7_fewestPasses_45 : decode cX7_fewestPasses 45 = .ok (.aload_n 0, 1) := by decide +kernel
theorem dX7_fewestPasses_46 : decode cX7_fewestPasses 46 = .ok (.getfield 15, 3) := by decide +kernel
theorem dX7_fewestPasses_49 : decode cX7_fewestPasses 49 = .ok (.iload 4, 2) := by decide +kernel
theorem dX7_fewestPasses_51 : decode cX7_fewestPasses 51 = .ok (.aload_n 0, 1) := by decide +kernel
theorem dX7_fewestPasses_52 : decode cX7_fewestPasses 52 = .ok (.getfield 11, 3) := by decide +kernel
theorem dX7_fewestPasses_55 : decode cX7_fewestPasses 55 = .ok (.iload 5, 2) := by decide +kernel
theorem dX7_fewestPasses_57 : decode cX7_fewestPasses 57 = .ok (.iaload, 1) := by decide +kernel
theorem dX7_fewestPasses_58 : decode cX7_fewestPasses 58 = .ok (.iastore, 1) := by decide +kernel
theorem dX7_fewestPasses_59 : decode cX7_fewestPasses 59 = .ok (.iinc 4 1, 3) := by decide +kernel
theorem dX7_fewestPasses_62 : decode cX7_fewestPasses 62 = .ok (.iinc 5 1, 3) := by decide +kernel
theorem dX7_fewestPasses_65 : decode cX7_fewestPasses 65 = .ok (.goto (-46), 3) := by decide +kernel
theorem dX7_fewestPasses_68 : decode cX7_fewestPasses 68 = .ok (.iload 4, 2) := by decide +kernel
theorem dX7_fewestPasses_70 : decode cX7_fewestPasses 70 = .ok (.aload_n 0, 1) := by decide +kernel
theorem dX7_fewestPasses_71 : decode cX7_fewestPasses 71 = .ok (.iload 4, 2) := by decide +kernel
theorem dX7_fewestPasses_73 : decode cX7_fewestPasses 73 = .ok (.invokevirtual 49, 3) := by decide +kernel
theorem dX7_fewestPasses_76 : decode cX7_fewestPasses 76 = .ok (.isub, 1) := by decide +kernel
theorem dX7_fewestPasses_77 : decode cX7_fewestPasses 77 = .ok (.ireturn, 1) := by decide +kernel
theorem dX7_mostParts_0 : decode cX7_mostParts 0 = .ok (.iconst 1, 1) := by decide +kernel
theorem dX7_mostParts_1 : decode cX7_mostParts 1 = .ok (.iload_n 1, 1) := by decide +kernel
theorem dX7_mostParts_2 : decode cX7_mostParts 2 = .ok (.ishl, 1) := by decide +kernel
theorem dX7_mostParts_3 : decode cX7_mostParts 3 = .ok (.istore_n 2, 1) := by decide +kernel
theorem dX7_mostParts_4 : decode cX7_mostParts 4 = .ok (.aload_n 0, 1) := by decide +kernel
theorem dX7_mostParts_5 : decode cX7_mostParts 5 = .ok (.getfield 18, 3) := by decide +kernel
theorem dX7_mostParts_8 : decode cX7_mostParts 8 = .ok (.iconst 0, 1) := by decide +kernel
theorem dX7_mostParts_9 : decode cX7_mostParts 9 = .ok (.iconst 0, 1) := by decide +kernel
theorem dX7_mostParts_10 : decode cX7_mostParts 10 = .ok (.iastore, 1) := by decide +kernel
theorem dX7_mostParts_11 : decode cX7_mostParts 11 = .ok (.aload_n 0, 1) := by decide +kernel
theorem dX7_mostParts_12 : decode cX7_mostParts 12 = .ok (.getfield 21, 3) := by decide +kernel
theorem dX7_mostParts_15 : decode cX7_mostParts 15 = .ok (.iconst 0, 1) := by decide +kernel
theorem dX7_mostParts_16 : decode cX7_mostParts 16 = .ok (.iconst 0, 1) := by decide +kernel
theorem dX7_mostParts_17 : decode cX7_mostParts 17 = .ok (.iastore, 1) := by decide +kernel
theorem dX7_mostParts_18 : decode cX7_mostParts 18 = .ok (.iconst 1, 1) := by decide +kernel
theorem dX7_mostParts_19 : decode cX7_mostParts 19 = .ok (.istore_n 3, 1) := by decide +kernel
theorem dX7_mostParts_20 : decode cX7_mostParts 20 = .ok (.iload_n 3, 1) := by decide +kernel
theorem dX7_mostParts_21 : decode cX7_mostParts 21 = .ok (.iload_n 2, 1) := by decide +kernel
theorem dX7_mostParts_22 : decode cX7_mostParts 22 = .ok (.if_icmp .ge 103, 3) := by decide +kernel
theorem dX7_mostParts_25 : decode cX7_mostParts 25 = .ok (.iconst 0, 1) := by decide +kernel
theorem dX7_mostParts_26 : decode cX7_mostParts 26 = .ok (.istore 4, 2) := by decide +kernel
theorem dX7_mostParts_28 : decode cX7_mostParts 28 = .ok (.iconst 0, 1) := by decide +kernel
theorem dX7_mostParts_29 : decode cX7_mostParts 29 = .ok (.istore 5, 2) := by decide +kernel
theorem dX7_mostParts_31 : decode cX7_mostParts 31 = .ok (.iload 5, 2) := by decide +kernel
theorem dX7_mostParts_33 : decode cX7_mostParts 33 = .ok (.iload_n 1, 1) := by decide +kernel
theorem dX7_mostParts_34 : decode cX7_mostParts 34 = .ok (.if_icmp .ge 61, 3) := by decide +kernel
theorem dX7_mostParts_37 : decode cX7_mostParts 37 = .ok (.iload_n 3, 1) := by decide +kernel
theorem dX7_mostParts_38 : decode cX7_mostParts 38 = .ok (.iload 5, 2) := by decide +kernel
theorem dX7_mostParts_40 : decode cX7_mostParts 40 = .ok (.ishr, 1) := by decide +kernel
theorem dX7_mostParts_41 : decode cX7_mostParts 41 = .ok (.iconst 1, 1) := by decide +kernel
theorem dX7_mostParts_42 : decode cX7_mostParts 42 = .ok (.iand, 1) := by decide +kernel
theorem dX7_mostParts_43 : decode cX7_mostParts 43 = .ok (.ifCond .eq 46, 3) := by decide +kernel
theorem dX7_mostParts_46 : decode cX7_mostParts 46 = .ok (.iload_n 3, 1) := by decide +kernel
theorem dX7_mostParts_47 : decode cX7_mostParts 47 = .ok (.iconst 1, 1) := by decide +kernel
theorem dX7_mostParts_48 : decode cX7_mostParts 48 = .ok (.iload 5, 2) := by decide +kernel
theorem dX7_mostParts_50 : decode cX7_mostParts 50 = .ok (.ishl, 1) := by decide +kernel
theorem dX7_mostParts_51 : decode cX7_mostParts 51 = .ok (.ixor, 1) := by decide +kernel
theorem dX7_mostParts_52 : decode cX7_mostParts 52 = .ok (.istore 6, 2) := by decide +kernel
theorem dX7_mostParts_54 : decode cX7_mostParts 54 = .ok (.aload_n 0, 1) := by decide +kernel
theorem dX7_mostParts_55 : decode cX7_mostParts 55 = .ok (.getfield 18, 3) := by decide +kernel
theorem dX7_mostParts_58 : decode cX7_mostParts 58 = .ok (.iload_n 3, 1) := by decide +kernel
theorem dX7_mostParts_59 : decode cX7_mostParts 59 = .ok (.aload_n 0, 1) := by decide +kernel
theorem dX7_mostParts_60 : decode cX7_mostParts 60 = .ok (.getfield 18, 3) := by decide +kernel
theorem dX7_mostParts_63 : decode cX7_mostParts 63 = .ok (.iload 6, 2) := by decide +kernel
theorem dX7_mostParts_65 : decode cX7_mostParts 65 = .ok (.iaload, 1) := by decide +kernel
theorem dX7_mostParts_66 : decode cX7_mostParts 66 = .ok (.aload_n 0, 1) := by decide +kernel
theorem dX7_mostParts_67 : decode cX7_mostParts 67 = .ok (.getfield 15, 3) := by decide +kernel
theorem dX7_mostParts_70 : decode cX7_mostParts 70 = .ok (.iload 5, 2) := by decide +kernel
theorem dX7_mostParts_72 : decode cX7_mostParts 72 = .ok (.iaload, 1) := by decide +kernel
theorem dX7_mostParts_73 : decode cX7_mostParts 73 = .ok (.iadd, 1) := by decide +kernel
theorem dX7_mostParts_74 : decode cX7_mostParts 74 = .ok (.iastore, 1) := by decide +kernel
theorem dX7_mostParts_75 : decode cX7_mostParts 75 = .ok (.iload 4, 2) := by decide +kernel
theorem dX7_mostParts_77 : decode cX7_mostParts 77 = .ok (.aload_n 0, 1) := by decide +kernel
theorem dX7_mostParts_78 : decode cX7_mostParts 78 = .ok (.getfield 21, 3) := by decide +kernel
theorem dX7_mostParts_81 : decode cX7_mostParts 81 = .ok (.iload 6, 2) := by decide +kernel
theorem dX7_mostParts_83 : decode cX7_mostParts 83 = .ok (.iaload, 1) := by decide +kernel
theorem dX7_mostParts_84 : decode cX7_mostParts 84 = .ok (.invokestatic 53, 3) := by decide +kernel
theorem dX7_mostParts_87 : decode cX7_mostParts 87 = .ok (.istore 4, 2) := by decide +kernel
theorem dX7_mostParts_89 : decode cX7_mostParts 89 = .ok (.iinc 5 1, 3) := by decide +kernel
theorem dX7_mostParts_92 : decode cX7_mostParts 92 = .ok (.goto (-61), 3) := by decide +kernel
theorem dX7_mostParts_95 : decode cX7_mostParts 95 = .ok (.aload_n 0, 1) := by decide +kernel
theorem dX7_mostParts_96 : decode cX7_mostParts 96 = .ok (.getfield 21, 3) := by decide +kernel
theorem dX7_mostParts_99 : decode cX7_mostParts 99 = .ok (.iload_n 3, 1) := by decide +kernel
theorem dX7_mostParts_100 : decode cX7_mostParts 100 = .ok (.aload_n 0, 1) := by decide +kernel
theorem dX7_mostParts_101 : decode cX7_mostParts 101 = .ok (.getfield 18, 3) := by decide +kernel
theorem dX7_mostParts_104 : decode cX7_mostParts 104 = .ok (.iload_n 3, 1) := by decide +kernel
theorem dX7_mostParts_105 : decode cX7_mostParts 105 = .ok (.iaload, 1) := by decide +kernel
theorem dX7_mostParts_106 : decode cX7_mostParts 106 = .ok (.ifCond .ne 10, 3) := by decide +kernel
theorem dX7_mostParts_109 : decode cX7_mostParts 109 = .ok (.iload 4, 2) := by decide +kernel
theorem dX7_mostParts_111 : decode cX7_mostParts 111 = .ok (.iconst 1, 1) := by decide +kernel
theorem dX7_mostParts_112 : decode cX7_mostParts 112 = .ok (.iadd, 1) := by decide +kernel
theorem dX7_mostParts_113 : decode cX7_mostParts 113 = .ok (.goto 5, 3) := by decide +kernel
theorem dX7_mostParts_116 : decode cX7_mostParts 116 = .ok (.iload 4, 2) := by decide +kernel
theorem dX7_mostParts_118 : decode cX7_mostParts 118 = .ok (.iastore, 1) := by decide +kernel
theorem dX7_mostParts_119 : decode cX7_mostParts 119 = .ok (.iinc 3 1, 3) := by decide +kernel
theorem dX7_mostParts_122 : decode cX7_mostParts 122 = .ok (.goto (-102), 3) := by decide +kernel
theorem dX7_mostParts_125 : decode cX7_mostParts 125 = .ok (.aload_n 0, 1) := by decide +kernel
theorem dX7_mostParts_126 : decode cX7_mostParts 126 = .ok (.getfield 21, 3) := by decide +kernel
theorem dX7_mostParts_129 : decode cX7_mostParts 129 = .ok (.iload_n 2, 1) := by decide +kernel
theorem dX7_mostParts_130 : decode cX7_mostParts 130 = .ok (.iconst 1, 1) := by decide +kernel
theorem dX7_mostParts_131 : decode cX7_mostParts 131 = .ok (.isub, 1) := by decide +kernel
theorem dX7_mostParts_132 : decode cX7_mostParts 132 = .ok (.iaload, 1) := by decide +kernel
theorem dX7_mostParts_133 : decode cX7_mostParts 133 = .ok (.ireturn, 1) := by decide +kernel
theorem dX7_isGood_0 : decode cX7_isGood 0 = .ok (.aload_n 0, 1) := by decide +kernel
theorem dX7_isGood_1 : decode cX7_isGood 1 = .ok (.getfield 24, 3) := by decide +kernel
theorem dX7_isGood_4 : decode cX7_isGood 4 = .ok (.lconst 0, 1) := by decide +kernel
theorem dX7_isGood_5 : decode cX7_isGood 5 = .ok (.invokestatic 59, 3) := by decide +kernel
theorem dX7_isGood_8 : decode cX7_isGood 8 = .ok (.aload_n 0, 1) := by decide +kernel
theorem dX7_isGood_9 : decode cX7_isGood 9 = .ok (.getfield 28, 3) := by decide +kernel
theorem dX7_isGood_12 : decode cX7_isGood 12 = .ok (.lconst 0, 1) := by decide +kernel
theorem dX7_isGood_13 : decode cX7_isGood 13 = .ok (.invokestatic 59, 3) := by decide +kernel
theorem dX7_isGood_16 : decode cX7_isGood 16 = .ok (.iconst 0, 1) := by decide +kernel
theorem dX7_isGood_17 : decode cX7_isGood 17 = .ok (.istore 6, 2) := by decide +kernel
theorem dX7_isGood_19 : decode cX7_isGood 19 = .ok (.iload 6, 2) := by decide +kernel
theorem dX7_isGood_21 : decode cX7_isGood 21 = .ok (.iconst 2, 1) := by decide +kernel
theorem dX7_isGood_22 : decode cX7_isGood 22 = .ok (.iadd, 1) := by decide +kernel
theorem dX7_isGood_23 : decode cX7_isGood 23 = .ok (.iload 5, 2) := by decide +kernel
theorem dX7_isGood_25 : decode cX7_isGood 25 = .ok (.if_icmp .ge 126, 3) := by decide +kernel
theorem dX7_isGood_28 : decode cX7_isGood 28 = .ok (.aload 4, 2) := by decide +kernel
theorem dX7_isGood_30 : decode cX7_isGood 30 = .ok (.iload 6, 2) := by decide +kernel
theorem dX7_isGood_32 : decode cX7_isGood 32 = .ok (.iaload, 1) := by decide +kernel
theorem dX7_isGood_33 : decode cX7_isGood 33 = .ok (.istore 7, 2) := by decide +kernel
theorem dX7_isGood_35 : decode cX7_isGood 35 = .ok (.aload 4, 2) := by decide +kernel
theorem dX7_isGood_37 : decode cX7_isGood 37 = .ok (.iload 6, 2) := by decide +kernel
theorem dX7_isGood_39 : decode cX7_isGood 39 = .ok (.iconst 1, 1) := by decide +kernel
theorem dX7_isGood_40 : decode cX7_isGood 40 = .ok (.iadd, 1) := by decide +kernel
theorem dX7_isGood_41 : decode cX7_isGood 41 = .ok (.iaload, 1) := by decide +kernel
theorem dX7_isGood_42 : decode cX7_isGood 42 = .ok (.istore 8, 2) := by decide +kernel
theorem dX7_isGood_44 : decode cX7_isGood 44 = .ok (.iload 7, 2) := by decide +kernel
theorem dX7_isGood_46 : decode cX7_isGood 46 = .ok (.ifCond .lt 36, 3) := by decide +kernel
theorem dX7_isGood_49 : decode cX7_isGood 49 = .ok (.iload 7, 2) := by decide +kernel
theorem dX7_isGood_51 : decode cX7_isGood 51 = .ok (.aload_n 1, 1) := by decide +kernel
theorem dX7_isGood_52 : decode cX7_isGood 52 = .ok (.getfield 65, 3) := by decide +kernel
theorem dX7_isGood_55 : decode cX7_isGood 55 = .ok (.getfield 69, 3) := by decide +kernel
theorem dX7_isGood_58 : decode cX7_isGood 58 = .ok (.if_icmp .ge 24, 3) := by decide +kernel
theorem dX7_isGood_61 : decode cX7_isGood 61 = .ok (.iload 8, 2) := by decide +kernel
theorem dX7_isGood_63 : decode cX7_isGood 63 = .ok (.ifCond .lt 19, 3) := by decide +kernel
theorem dX7_isGood_66 : decode cX7_isGood 66 = .ok (.iload 8, 2) := by decide +kernel
theorem dX7_isGood_68 : decode cX7_isGood 68 = .ok (.aload_n 1, 1) := by decide +kernel
theorem dX7_isGood_69 : decode cX7_isGood 69 = .ok (.getfield 65, 3) := by decide +kernel
theorem dX7_isGood_72 : decode cX7_isGood 72 = .ok (.getfield 69, 3) := by decide +kernel
theorem dX7_isGood_75 : decode cX7_isGood 75 = .ok (.if_icmp .ge 7, 3) := by decide +kernel
theorem dX7_isGood_78 : decode cX7_isGood 78 = .ok (.iconst 1, 1) := by decide +kernel
theorem dX7_isGood_79 : decode cX7_isGood 79 = .ok (.goto 4, 3) := by decide +kernel
theorem dX7_isGood_82 : decode cX7_isGood 82 = .ok (.iconst 0, 1) := by decide +kernel
theorem dX7_isGood_83 : decode cX7_isGood 83 = .ok (.istore 9, 2) := by decide +kernel
theorem dX7_isGood_85 : decode cX7_isGood 85 = .ok (.iload 9, 2) := by decide +kernel
theorem dX7_isGood_87 : decode cX7_isGood 87 = .ok (.ifCond .eq 20, 3) := by decide +kernel
theorem dX7_isGood_90 : decode cX7_isGood 90 = .ok (.iload 7, 2) := by decide +kernel
theorem dX7_isGood_92 : decode cX7_isGood 92 = .ok (.iload 8, 2) := by decide +kernel
theorem dX7_isGood_94 : decode cX7_isGood 94 = .ok (.if_icmp .eq 13, 3) := by decide +kernel
theorem dX7_isGood_97 : decode cX7_isGood 97 = .ok (.aload 4, 2) := by decide +kernel
theorem dX7_isGood_99 : decode cX7_isGood 99 = .ok (.iload 6, 2) := by decide +kernel
theorem dX7_isGood_101 : decode cX7_isGood 101 = .ok (.iconst 2, 1) := by decide +kernel
theorem dX7_isGood_102 : decode cX7_isGood 102 = .ok (.iadd, 1) := by decide +kernel
theorem dX7_isGood_103 : decode cX7_isGood 103 = .ok (.iaload, 1) := by decide +kernel
theorem dX7_isGood_104 : decode cX7_isGood 104 = .ok (.ifCond .gt 5, 3) := by decide +kernel
theorem dX7_isGood_107 : decode cX7_isGood 107 = .ok (.iconst 0, 1) := by decide +kernel
theorem dX7_isGood_108 : decode cX7_isGood 108 = .ok (.ireturn, 1) := by decide +kernel
theorem dX7_isGood_109 : decode cX7_isGood 109 = .ok (.aload_n 0, 1) := by decide +kernel
theorem dX7_isGood_110 : decode cX7_isGood 110 = .ok (.getfield 24, 3) := by decide +kernel
theorem dX7_isGood_113 : decode cX7_isGood 113 = .ok (.iload 7, 2) := by decide +kernel
theorem dX7_isGood_115 : decode cX7_isGood 115 = .ok (.dup2, 1) := by decide +kernel
theorem dX7_isGood_116 : decode cX7_isGood 116 = .ok (.laload, 1) := by decide +kernel
theorem dX7_isGood_117 : decode cX7_isGood 117 = .ok (.aload 4, 2) := by decide +kernel
theorem dX7_isGood_119 : decode cX7_isGood 119 = .ok (.iload 6, 2) := by decide +kernel
theorem dX7_isGood_121 : decode cX7_isGood 121 = .ok (.iconst 2, 1) := by decide +kernel
theorem dX7_isGood_122 : decode cX7_isGood 122 = .ok (.iadd, 1) := by decide +kernel
theorem dX7_isGood_123 : decode cX7_isGood 123 = .ok (.iaload, 1) := by decide +kernel
theorem dX7_isGood_124 : decode cX7_isGood 124 = .ok (.i2l, 1) := by decide +kernel
theorem dX7_isGood_125 : decode cX7_isGood 125 = .ok (.ladd, 1) := by decide +kernel
theorem dX7_isGood_126 : decode cX7_isGood 126 = .ok (.lastore, 1) := by decide +kernel
theorem dX7_isGood_127 : decode cX7_isGood 127 = .ok (.aload_n 0, 1) := by decide +kernel
theorem dX7_isGood_128 : decode cX7_isGood 128 = .ok (.getfield 28, 3) := by decide +kernel
theorem dX7_isGood_131 : decode cX7_isGood 131 = .ok (.iload 8, 2) := by decide +kernel
theorem dX7_isGood_133 : decode cX7_isGood 133 = .ok (.dup2, 1) := by decide +kernel
theorem dX7_isGood_134 : decode cX7_isGood 134 = .ok (.laload, 1) := by decide +kernel
theorem dX7_isGood_135 : decode cX7_isGood 135 = .ok (.aload 4, 2) := by decide +kernel
theorem dX7_isGood_137 : decode cX7_isGood 137 = .ok (.iload 6, 2) := by decide +kernel
theorem dX7_isGood_139 : decode cX7_isGood 139 = .ok (.iconst 2, 1) := by decide +kernel
theorem dX7_isGood_140 : decode cX7_isGood 140 = .ok (.iadd, 1) := by decide +kernel
theorem dX7_isGood_141 : decode cX7_isGood 141 = .ok (.iaload, 1) := by decide +kernel
theorem dX7_isGood_142 : decode cX7_isGood 142 = .ok (.i2l, 1) := by decide +kernel
theorem dX7_isGood_143 : decode cX7_isGood 143 = .ok (.ladd, 1) := by decide +kernel
theorem dX7_isGood_144 : decode cX7_isGood 144 = .ok (.lastore, 1) := by decide +kernel
theorem dX7_isGood_145 : decode cX7_isGood 145 = .ok (.iinc 6 3, 3) := by decide +kernel
theorem dX7_isGood_148 : decode cX7_isGood 148 = .ok (.goto (-129), 3) := by decide +kernel
theorem dX7_isGood_151 : decode cX7_isGood 151 = .ok (.aload_n 0, 1) := by decide +kernel
theorem dX7_isGood_152 : decode cX7_isGood 152 = .ok (.aload_n 1, 1) := by decide +kernel
theorem dX7_isGood_153 : decode cX7_isGood 153 = .ok (.iload_n 2, 1) := by decide +kernel
theorem dX7_isGood_154 : decode cX7_isGood 154 = .ok (.iload_n 3, 1) := by decide +kernel
theorem dX7_isGood_155 : decode cX7_isGood 155 = .ok (.invokevirtual 75, 3) := by decide +kernel
theorem dX7_isGood_158 : decode cX7_isGood 158 = .ok (.ireturn, 1) := by decide +kernel
theorem dX7_isWhole_0 : decode cX7_isWhole 0 = .ok (.aload_n 1, 1) := by decide +kernel
theorem dX7_isWhole_1 : decode cX7_isWhole 1 = .ok (.getfield 37, 3) := by decide +kernel
theorem dX7_isWhole_4 : decode cX7_isWhole 4 = .ok (.aload_n 0, 1) := by decide +kernel
theorem dX7_isWhole_5 : decode cX7_isWhole 5 = .ok (.getfield 11, 3) := by decide +kernel
theorem dX7_isWhole_8 : decode cX7_isWhole 8 = .ok (.iload_n 2, 1) := by decide +kernel
theorem dX7_isWhole_9 : decode cX7_isWhole 9 = .ok (.iload_n 3, 1) := by decide +kernel
theorem dX7_isWhole_10 : decode cX7_isWhole 10 = .ok (.invokevirtual 43, 3) := by decide +kernel
theorem dX7_isWhole_13 : decode cX7_isWhole 13 = .ok (.iconst 0, 1) := by decide +kernel
theorem dX7_isWhole_14 : decode cX7_isWhole 14 = .ok (.istore 4, 2) := by decide +kernel
theorem dX7_isWhole_16 : decode cX7_isWhole 16 = .ok (.iload 4, 2) := by decide +kernel
theorem dX7_isWhole_18 : decode cX7_isWhole 18 = .ok (.bipush 12, 2) := by decide +kernel
theorem dX7_isWhole_20 : decode cX7_isWhole 20 = .ok (.if_icmp .ge 74, 3) := by decide +kernel
theorem dX7_isWhole_23 : decode cX7_isWhole 23 = .ok (.aload_n 0, 1) := by decide +kernel
theorem dX7_isWhole_24 : decode cX7_isWhole 24 = .ok (.getfield 24, 3) := by decide +kernel
theorem dX7_isWhole_27 : decode cX7_isWhole 27 = .ok (.iload 4, 2) := by decide +kernel
theorem dX7_isWhole_29 : decode cX7_isWhole 29 = .ok (.laload, 1) := by decide +kernel
theorem dX7_isWhole_30 : decode cX7_isWhole 30 = .ok (.lconst 0, 1) := by decide +kernel
theorem dX7_isWhole_31 : decode cX7_isWhole 31 = .ok (.lcmp, 1) := by decide +kernel
theorem dX7_isWhole_32 : decode cX7_isWhole 32 = .ok (.ifCond .le 19, 3) := by decide +kernel
theorem dX7_isWhole_35 : decode cX7_isWhole 35 = .ok (.aload_n 0, 1) := by decide +kernel
theorem dX7_isWhole_36 : decode cX7_isWhole 36 = .ok (.getfield 28, 3) := by decide +kernel
theorem dX7_isWhole_39 : decode cX7_isWhole 39 = .ok (.iload 4, 2) := by decide +kernel
theorem dX7_isWhole_41 : decode cX7_isWhole 41 = .ok (.laload, 1) := by decide +kernel
theorem dX7_isWhole_42 : decode cX7_isWhole 42 = .ok (.lconst 0, 1) := by decide +kernel
theorem dX7_isWhole_43 : decode cX7_isWhole 43 = .ok (.lcmp, 1) := by decide +kernel
theorem dX7_isWhole_44 : decode cX7_isWhole 44 = .ok (.ifCond .le 7, 3) := by decide +kernel
theorem dX7_isWhole_47 : decode cX7_isWhole 47 = .ok (.iconst 1, 1) := by decide +kernel
theorem dX7_isWhole_48 : decode cX7_isWhole 48 = .ok (.goto 4, 3) := by decide +kernel
theorem dX7_isWhole_51 : decode cX7_isWhole 51 = .ok (.iconst 0, 1) := by decide +kernel
theorem dX7_isWhole_52 : decode cX7_isWhole 52 = .ok (.istore 5, 2) := by decide +kernel
theorem dX7_isWhole_54 : decode cX7_isWhole 54 = .ok (.iload 5, 2) := by decide +kernel
theorem dX7_isWhole_56 : decode cX7_isWhole 56 = .ok (.ifCond .ne 30, 3) := by decide +kernel
theorem dX7_isWhole_59 : decode cX7_isWhole 59 = .ok (.aload_n 0, 1) := by decide +kernel
theorem dX7_isWhole_60 : decode cX7_isWhole 60 = .ok (.getfield 28, 3) := by decide +kernel
theorem dX7_isWhole_63 : decode cX7_isWhole 63 = .ok (.iload 4, 2) := by decide +kernel
theorem dX7_isWhole_65 : decode cX7_isWhole 65 = .ok (.laload, 1) := by decide +kernel
theorem dX7_isWhole_66 : decode cX7_isWhole 66 = .ok (.aload_n 0, 1) := by decide +kernel
theorem dX7_isWhole_67 : decode cX7_isWhole 67 = .ok (.getfield 24, 3) := by decide +kernel
theorem dX7_isWhole_70 : decode cX7_isWhole 70 = .ok (.iload 4, 2) := by decide +kernel
theorem dX7_isWhole_72 : decode cX7_isWhole 72 = .ok (.laload, 1) := by decide +kernel
theorem dX7_isWhole_73 : decode cX7_isWhole 73 = .ok (.lsub, 1) := by decide +kernel
theorem dX7_isWhole_74 : decode cX7_isWhole 74 = .ok (.aload_n 0, 1) := by decide +kernel
theorem dX7_isWhole_75 : decode cX7_isWhole 75 = .ok (.getfield 11, 3) := by decide +kernel
theorem dX7_isWhole_78 : decode cX7_isWhole 78 = .ok (.iload 4, 2) := by decide +kernel
theorem dX7_isWhole_80 : decode cX7_isWhole 80 = .ok (.iaload, 1) := by decide +kernel
theorem dX7_isWhole_81 : decode cX7_isWhole 81 = .ok (.i2l, 1) := by decide +kernel
theorem dX7_isWhole_82 : decode cX7_isWhole 82 = .ok (.lcmp, 1) := by decide +kernel
theorem dX7_isWhole_83 : decode cX7_isWhole 83 = .ok (.ifCond .eq 5, 3) := by decide +kernel
theorem dX7_isWhole_86 : decode cX7_isWhole 86 = .ok (.iconst 0, 1) := by decide +kernel
theorem dX7_isWhole_87 : decode cX7_isWhole 87 = .ok (.ireturn, 1) := by decide +kernel
theorem dX7_isWhole_88 : decode cX7_isWhole 88 = .ok (.iinc 4 1, 3) := by decide +kernel
theorem dX7_isWhole_91 : decode cX7_isWhole 91 = .ok (.goto (-75), 3) := by decide +kernel
theorem dX7_isWhole_94 : decode cX7_isWhole 94 = .ok (.iconst 1, 1) := by decide +kernel
theorem dX7_isWhole_95 : decode cX7_isWhole 95 = .ok (.ireturn, 1) := by decide +kernel
theorem dX7_takePositions_0 : decode cX7_takePositions 0 = .ok (.aload_n 1, 1) := by decide +kernel
theorem dX7_takePositions_1 : decode cX7_takePositions 1 = .ok (.getfield 37, 3) := by decide +kernel
theorem dX7_takePositions_4 : decode cX7_takePositions 4 = .ok (.aload_n 0, 1) := by decide +kernel
theorem dX7_takePositions_5 : decode cX7_takePositions 5 = .ok (.getfield 11, 3) := by decide +kernel
theorem dX7_takePositions_8 : decode cX7_takePositions 8 = .ok (.iload_n 2, 1) := by decide +kernel
theorem dX7_takePositions_9 : decode cX7_takePositions 9 = .ok (.aload_n 1, 1) := by decide +kernel
theorem dX7_takePositions_10 : decode cX7_takePositions 10 = .ok (.invokevirtual 79, 3) := by decide +kernel
theorem dX7_takePositions_13 : decode cX7_takePositions 13 = .ok (.invokevirtual 43, 3) := by decide +kernel
theorem dX7_takePositions_16 : decode cX7_takePositions 16 = .ok (.aload_n 0, 1) := by decide +kernel
theorem dX7_takePositions_17 : decode cX7_takePositions 17 = .ok (.getfield 31, 3) := by decide +kernel
theorem dX7_takePositions_20 : decode cX7_takePositions 20 = .ok (.iconst 0, 1) := by decide +kernel
theorem dX7_takePositions_21 : decode cX7_takePositions 21 = .ok (.invokestatic 83, 3) := by decide +kernel
theorem dX7_takePositions_24 : decode cX7_takePositions 24 = .ok (.iconst 0, 1) := by decide +kernel
theorem dX7_takePositions_25 : decode cX7_takePositions 25 = .ok (.istore_n 3, 1) := by decide +kernel
theorem dX7_takePositions_26 : decode cX7_takePositions 26 = .ok (.iload_n 3, 1) := by decide +kernel
theorem dX7_takePositions_27 : decode cX7_takePositions 27 = .ok (.aload_n 1, 1) := by decide +kernel
theorem dX7_takePositions_28 : decode cX7_takePositions 28 = .ok (.getfield 65, 3) := by decide +kernel
theorem dX7_takePositions_31 : decode cX7_takePositions 31 = .ok (.getfield 69, 3) := by decide +kernel
theorem dX7_takePositions_34 : decode cX7_takePositions 34 = .ok (.if_icmp .ge 46, 3) := by decide +kernel
theorem dX7_takePositions_37 : decode cX7_takePositions 37 = .ok (.aload_n 1, 1) := by decide +kernel
theorem dX7_takePositions_38 : decode cX7_takePositions 38 = .ok (.getfield 65, 3) := by decide +kernel
theorem dX7_takePositions_41 : decode cX7_takePositions 41 = .ok (.iload_n 3, 1) := by decide +kernel
theorem dX7_takePositions_42 : decode cX7_takePositions 42 = .ok (.invokevirtual 86, 3) := by decide +kernel
theorem dX7_takePositions_45 : decode cX7_takePositions 45 = .ok (.ifCond .eq 29, 3) := by decide +kernel
theorem dX7_takePositions_48 : decode cX7_takePositions 48 = .ok (.aload_n 0, 1) := by decide +kernel
theorem dX7_takePositions_49 : decode cX7_takePositions 49 = .ok (.getfield 31, 3) := by decide +kernel
theorem dX7_takePositions_52 : decode cX7_takePositions 52 = .ok (.iload_n 3, 1) := by decide +kernel
theorem dX7_takePositions_53 : decode cX7_takePositions 53 = .ok (.aload_n 1, 1) := by decide +kernel
theorem dX7_takePositions_54 : decode cX7_takePositions 54 = .ok (.getfield 65, 3) := by decide +kernel
theorem dX7_takePositions_57 : decode cX7_takePositions 57 = .ok (.getfield 90, 3) := by decide +kernel
theorem dX7_takePositions_60 : decode cX7_takePositions 60 = .ok (.iload_n 3, 1) := by decide +kernel
theorem dX7_takePositions_61 : decode cX7_takePositions 61 = .ok (.iload_n 2, 1) := by decide +kernel
theorem dX7_takePositions_62 : decode cX7_takePositions 62 = .ok (.invokestatic 93, 3) := by decide +kernel
theorem dX7_takePositions_65 : decode cX7_takePositions 65 = .ok (.iaload, 1) := by decide +kernel
theorem dX7_takePositions_66 : decode cX7_takePositions 66 = .ok (.aload_n 0, 1) := by decide +kernel
theorem dX7_takePositions_67 : decode cX7_takePositions 67 = .ok (.getfield 11, 3) := by decide +kernel
theorem dX7_takePositions_70 : decode cX7_takePositions 70 = .ok (.iload_n 3, 1) := by decide +kernel
theorem dX7_takePositions_71 : decode cX7_takePositions 71 = .ok (.iaload, 1) := by decide +kernel
theorem dX7_takePositions_72 : decode cX7_takePositions 72 = .ok (.iadd, 1) := by decide +kernel
theorem dX7_takePositions_73 : decode cX7_takePositions 73 = .ok (.iastore, 1) := by decide +kernel
theorem dX7_takePositions_74 : decode cX7_takePositions 74 = .ok (.iinc 3 1, 3) := by decide +kernel
theorem dX7_takePositions_77 : decode cX7_takePositions 77 = .ok (.goto (-51), 3) := by decide +kernel
theorem dX7_takePositions_80 : decode cX7_takePositions 80 = .ok (.return_, 1) := by decide +kernel
theorem dX7_needOfOthers_0 : decode cX7_needOfOthers 0 = .ok (.aload_n 0, 1) := by decide +kernel
theorem dX7_needOfOthers_1 : decode cX7_needOfOthers 1 = .ok (.aload_n 1, 1) := by decide +kernel
theorem dX7_needOfOthers_2 : decode cX7_needOfOthers 2 = .ok (.iload_n 2, 1) := by decide +kernel
theorem dX7_needOfOthers_3 : decode cX7_needOfOthers 3 = .ok (.invokevirtual 96, 3) := by decide +kernel
theorem dX7_needOfOthers_6 : decode cX7_needOfOthers 6 = .ok (.iconst 0, 1) := by decide +kernel
theorem dX7_needOfOthers_7 : decode cX7_needOfOthers 7 = .ok (.istore 4, 2) := by decide +kernel
theorem dX7_needOfOthers_9 : decode cX7_needOfOthers 9 = .ok (.iconst 0, 1) := by decide +kernel
theorem dX7_needOfOthers_10 : decode cX7_needOfOthers 10 = .ok (.istore 5, 2) := by decide +kernel
theorem dX7_needOfOthers_12 : decode cX7_needOfOthers 12 = .ok (.iload 5, 2) := by decide +kernel
theorem dX7_needOfOthers_14 : decode cX7_needOfOthers 14 = .ok (.bipush 12, 2) := by decide +kernel
theorem dX7_needOfOthers_16 : decode cX7_needOfOthers 16 = .ok (.if_icmp .ge 36, 3) := by decide +kernel
theorem dX7_needOfOthers_19 : decode cX7_needOfOthers 19 = .ok (.iload 4, 2) := by decide +kernel
theorem dX7_needOfOthers_21 : decode cX7_needOfOthers 21 = .ok (.iload 5, 2) := by decide +kernel
theorem dX7_needOfOthers_23 : decode cX7_needOfOthers 23 = .ok (.iload_n 3, 1) := by decide +kernel
theorem dX7_needOfOthers_24 : decode cX7_needOfOthers 24 = .ok (.if_icmp .ne 7, 3) := by decide +kernel
theorem dX7_needOfOthers_27 : decode cX7_needOfOthers 27 = .ok (.iconst 0, 1) := by decide +kernel
theorem dX7_needOfOthers_28 : decode cX7_needOfOthers 28 = .ok (.goto 15, 3) := by decide +kernel
theorem dX7_needOfOthers_31 : decode cX7_needOfOthers 31 = .ok (.aload_n 0, 1) := by decide +kernel
theorem dX7_needOfOthers_32 : decode cX7_needOfOthers 32 = .ok (.getfield 31, 3) := by decide +kernel
theorem dX7_needOfOthers_35 : decode cX7_needOfOthers 35 = .ok (.iload 5, 2) := by decide +kernel
theorem dX7_needOfOthers_37 : decode cX7_needOfOthers 37 = .ok (.iaload, 1) := by decide +kernel
theorem dX7_needOfOthers_38 : decode cX7_needOfOthers 38 = .ok (.ineg, 1) := by decide +kernel
theorem dX7_needOfOthers_39 : decode cX7_needOfOthers 39 = .ok (.iconst 0, 1) := by decide +kernel
theorem dX7_needOfOthers_40 : decode cX7_needOfOthers 40 = .ok (.invokestatic 53, 3) := by decide +kernel
theorem dX7_needOfOthers_43 : decode cX7_needOfOthers 43 = .ok (.iadd, 1) := by decide +kernel
theorem dX7_needOfOthers_44 : decode cX7_needOfOthers 44 = .ok (.istore 4, 2) := by decide +kernel
theorem dX7_needOfOthers_46 : decode cX7_needOfOthers 46 = .ok (.iinc 5 1, 3) := by decide +kernel
theorem dX7_needOfOthers_49 : decode cX7_needOfOthers 49 = .ok (.goto (-37), 3) := by decide +kernel
theorem dX7_needOfOthers_52 : decode cX7_needOfOthers 52 = .ok (.iload 4, 2) := by decide +kernel
theorem dX7_needOfOthers_54 : decode cX7_needOfOthers 54 = .ok (.ireturn, 1) := by decide +kernel
theorem dX7_haveOfOthers_0 : decode cX7_haveOfOthers 0 = .ok (.aload_n 0, 1) := by decide +kernel
theorem dX7_haveOfOthers_1 : decode cX7_haveOfOthers 1 = .ok (.aload_n 1, 1) := by decide +kernel
theorem dX7_haveOfOthers_2 : decode cX7_haveOfOthers 2 = .ok (.iload_n 2, 1) := by decide +kernel
theorem dX7_haveOfOthers_3 : decode cX7_haveOfOthers 3 = .ok (.invokevirtual 96, 3) := by decide +kernel
theorem dX7_haveOfOthers_6 : decode cX7_haveOfOthers 6 = .ok (.iconst 0, 1) := by decide +kernel
theorem dX7_haveOfOthers_7 : decode cX7_haveOfOthers 7 = .ok (.istore 4, 2) := by decide +kernel
theorem dX7_haveOfOthers_9 : decode cX7_haveOfOthers 9 = .ok (.iconst 0, 1) := by decide +kernel
theorem dX7_haveOfOthers_10 : decode cX7_haveOfOthers 10 = .ok (.istore 5, 2) := by decide +kernel
theorem dX7_haveOfOthers_12 : decode cX7_haveOfOthers 12 = .ok (.iload 5, 2) := by decide +kernel
theorem dX7_haveOfOthers_14 : decode cX7_haveOfOthers 14 = .ok (.bipush 12, 2) := by decide +kernel
theorem dX7_haveOfOthers_16 : decode cX7_haveOfOthers 16 = .ok (.if_icmp .ge 35, 3) := by decide +kernel
theorem dX7_haveOfOthers_19 : decode cX7_haveOfOthers 19 = .ok (.iload 4, 2) := by decide +kernel
theorem dX7_haveOfOthers_21 : decode cX7_haveOfOthers 21 = .ok (.iload 5, 2) := by decide +kernel
theorem dX7_haveOfOthers_23 : decode cX7_haveOfOthers 23 = .ok (.iload_n 3, 1) := by decide +kernel
theorem dX7_haveOfOthers_24 : decode cX7_haveOfOthers 24 = .ok (.if_icmp .ne 7, 3) := by decide +kernel
theorem dX7_haveOfOthers_27 : decode cX7_haveOfOthers 27 = .ok (.iconst 0, 1) := by decide +kernel
theorem dX7_haveOfOthers_28 : decode cX7_haveOfOthers 28 = .ok (.goto 14, 3) := by decide +kernel
theorem dX7_haveOfOthers_31 : decode cX7_haveOfOthers 31 = .ok (.aload_n 0, 1) := by decide +kernel
theorem dX7_haveOfOthers_32 : decode cX7_haveOfOthers 32 = .ok (.getfield 31, 3) := by decide +kernel
theorem dX7_haveOfOthers_35 : decode cX7_haveOfOthers 35 = .ok (.iload 5, 2) := by decide +kernel
theorem dX7_haveOfOthers_37 : decode cX7_haveOfOthers 37 = .ok (.iaload, 1) := by decide +kernel
theorem dX7_haveOfOthers_38 : decode cX7_haveOfOthers 38 = .ok (.iconst 0, 1) := by decide +kernel
theorem dX7_haveOfOthers_39 : decode cX7_haveOfOthers 39 = .ok (.invokestatic 53, 3) := by decide +kernel
theorem dX7_haveOfOthers_42 : decode cX7_haveOfOthers 42 = .ok (.iadd, 1) := by decide +kernel
theorem dX7_haveOfOthers_43 : decode cX7_haveOfOthers 43 = .ok (.istore 4, 2) := by decide +kernel
theorem dX7_haveOfOthers_45 : decode cX7_haveOfOthers 45 = .ok (.iinc 5 1, 3) := by decide +kernel
theorem dX7_haveOfOthers_48 : decode cX7_haveOfOthers 48 = .ok (.goto (-36), 3) := by decide +kernel
theorem dX7_haveOfOthers_51 : decode cX7_haveOfOthers 51 = .ok (.iload 4, 2) := by decide +kernel
theorem dX7_haveOfOthers_53 : decode cX7_haveOfOthers 53 = .ok (.ireturn, 1) := by decide +kernel
theorem dX7_leastCost_0 : decode cX7_leastCost 0 = .ok (.aload_n 0, 1) := by decide +kernel
theorem dX7_leastCost_1 : decode cX7_leastCost 1 = .ok (.aload_n 1, 1) := by decide +kernel
theorem dX7_leastCost_2 : decode cX7_leastCost 2 = .ok (.iload_n 2, 1) := by decide +kernel
theorem dX7_leastCost_3 : decode cX7_leastCost 3 = .ok (.iload_n 3, 1) := by decide +kernel
theorem dX7_leastCost_4 : decode cX7_leastCost 4 = .ok (.invokevirtual 100, 3) := by decide +kernel
theorem dX7_leastCost_7 : decode cX7_leastCost 7 = .ok (.istore 4, 2) := by decide +kernel
theorem dX7_leastCost_9 : decode cX7_leastCost 9 = .ok (.lconst 0, 1) := by decide +kernel
theorem dX7_leastCost_10 : decode cX7_leastCost 10 = .ok (.lstore 5, 2) := by decide +kernel
theorem dX7_leastCost_12 : decode cX7_leastCost 12 = .ok (.iconst 0, 1) := by decide +kernel
theorem dX7_leastCost_13 : decode cX7_leastCost 13 = .ok (.istore 7, 2) := by decide +kernel
theorem dX7_leastCost_15 : decode cX7_leastCost 15 = .ok (.iload 7, 2) := by decide +kernel
theorem dX7_leastCost_17 : decode cX7_leastCost 17 = .ok (.bipush 12, 2) := by decide +kernel
theorem dX7_leastCost_19 : decode cX7_leastCost 19 = .ok (.if_icmp .ge 88, 3) := by decide +kernel
theorem dX7_leastCost_22 : decode cX7_leastCost 22 = .ok (.iload 4, 2) := by decide +kernel
theorem dX7_leastCost_24 : decode cX7_leastCost 24 = .ok (.ifCond .le 83, 3) := by decide +kernel
theorem dX7_leastCost_27 : decode cX7_leastCost 27 = .ok (.aload_n 0, 1) := by decide +kernel
theorem dX7_leastCost_28 : decode cX7_leastCost 28 = .ok (.aload_n 1, 1) := by decide +kernel
theorem dX7_leastCost_29 : decode cX7_leastCost 29 = .ok (.getfield 65, 3) := by decide +kernel
theorem dX7_leastCost_32 : decode cX7_leastCost 32 = .ok (.iload_n 2, 1) := by decide +kernel
theorem dX7_leastCost_33 : decode cX7_leastCost 33 = .ok (.invokevirtual 104, 3) := by decide +kernel
theorem dX7_leastCost_36 : decode cX7_leastCost 36 = .ok (.istore 8, 2) := by decide +kernel
theorem dX7_leastCost_38 : decode cX7_leastCost 38 = .ok (.iload 8, 2) := by decide +kernel
theorem dX7_leastCost_40 : decode cX7_leastCost 40 = .ok (.iconst (-1), 1) := by decide +kernel
theorem dX7_leastCost_41 : decode cX7_leastCost 41 = .ok (.if_icmp .ne 7, 3) := by decide +kernel
theorem dX7_leastCost_44 : decode cX7_leastCost 44 = .ok (.ldc2_w 108, 3) := by decide +kernel
theorem dX7_leastCost_47 : decode cX7_leastCost 47 = .ok (.lreturn, 1) := by decide +kernel
theorem dX7_leastCost_48 : decode cX7_leastCost 48 = .ok (.iload 4, 2) := by decide +kernel
theorem dX7_leastCost_50 : decode cX7_leastCost 50 = .ok (.aload_n 0, 1) := by decide +kernel
theorem dX7_leastCost_51 : decode cX7_leastCost 51 = .ok (.getfield 31, 3) := by decide +kernel
theorem dX7_leastCost_54 : decode cX7_leastCost 54 = .ok (.iload 8, 2) := by decide +kernel
theorem dX7_leastCost_56 : decode cX7_leastCost 56 = .ok (.iaload, 1) := by decide +kernel
theorem dX7_leastCost_57 : decode cX7_leastCost 57 = .ok (.invokestatic 110, 3) := by decide +kernel
theorem dX7_leastCost_60 : decode cX7_leastCost 60 = .ok (.istore 9, 2) := by decide +kernel
theorem dX7_leastCost_62 : decode cX7_leastCost 62 = .ok (.lload 5, 2) := by decide +kernel
theorem dX7_leastCost_64 : decode cX7_leastCost 64 = .ok (.iload 9, 2) := by decide +kernel
theorem dX7_leastCost_66 : decode cX7_leastCost 66 = .ok (.i2l, 1) := by decide +kernel
theorem dX7_leastCost_67 : decode cX7_leastCost 67 = .ok (.aload_n 1, 1) := by decide +kernel
theorem dX7_leastCost_68 : decode cX7_leastCost 68 = .ok (.getfield 65, 3) := by decide +kernel
theorem dX7_leastCost_71 : decode cX7_leastCost 71 = .ok (.getfield 113, 3) := by decide +kernel
theorem dX7_leastCost_74 : decode cX7_leastCost 74 = .ok (.iload 8, 2) := by decide +kernel
theorem dX7_leastCost_76 : decode cX7_leastCost 76 = .ok (.iload_n 2, 1) := by decide +kernel
theorem dX7_leastCost_77 : decode cX7_leastCost 77 = .ok (.invokestatic 93, 3) := by decide +kernel
theorem dX7_leastCost_80 : decode cX7_leastCost 80 = .ok (.iaload, 1) := by decide +kernel
theorem dX7_leastCost_81 : decode cX7_leastCost 81 = .ok (.i2l, 1) := by decide +kernel
theorem dX7_leastCost_82 : decode cX7_leastCost 82 = .ok (.lmul, 1) := by decide +kernel
theorem dX7_leastCost_83 : decode cX7_leastCost 83 = .ok (.ladd, 1) := by decide +kernel
theorem dX7_leastCost_84 : decode cX7_leastCost 84 = .ok (.lstore 5, 2) := by decide +kernel
theorem dX7_leastCost_86 : decode cX7_leastCost 86 = .ok (.iload 4, 2) := by decide +kernel
theorem dX7_leastCost_88 : decode cX7_leastCost 88 = .ok (.iload 9, 2) := by decide +kernel
theorem dX7_leastCost_90 : decode cX7_leastCost 90 = .ok (.isub, 1) := by decide +kernel
theorem dX7_leastCost_91 : decode cX7_leastCost 91 = .ok (.istore 4, 2) := by decide +kernel
theorem dX7_leastCost_93 : decode cX7_leastCost 93 = .ok (.aload_n 0, 1) := by decide +kernel
theorem dX7_leastCost_94 : decode cX7_leastCost 94 = .ok (.getfield 31, 3) := by decide +kernel
theorem dX7_leastCost_97 : decode cX7_leastCost 97 = .ok (.iload 8, 2) := by decide +kernel
theorem dX7_leastCost_99 : decode cX7_leastCost 99 = .ok (.iconst 0, 1) := by decide +kernel
theorem dX7_leastCost_100 : decode cX7_leastCost 100 = .ok (.iastore, 1) := by decide +kernel
theorem dX7_leastCost_101 : decode cX7_leastCost 101 = .ok (.iinc 7 1, 3) := by decide +kernel
theorem dX7_leastCost_104 : decode cX7_leastCost 104 = .ok (.goto (-89), 3) := by decide +kernel
theorem dX7_leastCost_107 : decode cX7_leastCost 107 = .ok (.iload 4, 2) := by decide +kernel
theorem dX7_leastCost_109 : decode cX7_leastCost 109 = .ok (.ifCond .le 9, 3) := by decide +kernel
theorem dX7_leastCost_112 : decode cX7_leastCost 112 = .ok (.ldc2_w 108, 3) := by decide +kernel
theorem dX7_leastCost_115 : decode cX7_leastCost 115 = .ok (.goto 5, 3) := by decide +kernel
theorem dX7_leastCost_118 : decode cX7_leastCost 118 = .ok (.lload 5, 2) := by decide +kernel
theorem dX7_leastCost_120 : decode cX7_leastCost 120 = .ok (.lreturn, 1) := by decide +kernel
theorem dX7_cheapest_0 : decode cX7_cheapest 0 = .ok (.iconst (-1), 1) := by decide +kernel
theorem dX7_cheapest_1 : decode cX7_cheapest 1 = .ok (.istore_n 3, 1) := by decide +kernel
theorem dX7_cheapest_2 : decode cX7_cheapest 2 = .ok (.iconst 0, 1) := by decide +kernel
theorem dX7_cheapest_3 : decode cX7_cheapest 3 = .ok (.istore 4, 2) := by decide +kernel
theorem dX7_cheapest_5 : decode cX7_cheapest 5 = .ok (.iload 4, 2) := by decide +kernel
theorem dX7_cheapest_7 : decode cX7_cheapest 7 = .ok (.aload_n 1, 1) := by decide +kernel
theorem dX7_cheapest_8 : decode cX7_cheapest 8 = .ok (.getfield 69, 3) := by decide +kernel
theorem dX7_cheapest_11 : decode cX7_cheapest 11 = .ok (.if_icmp .ge 63, 3) := by decide +kernel
theorem dX7_cheapest_14 : decode cX7_cheapest 14 = .ok (.iload_n 3, 1) := by decide +kernel
theorem dX7_cheapest_15 : decode cX7_cheapest 15 = .ok (.iconst (-1), 1) := by decide +kernel
theorem dX7_cheapest_16 : decode cX7_cheapest 16 = .ok (.if_icmp .eq 27, 3) := by decide +kernel
theorem dX7_cheapest_19 : decode cX7_cheapest 19 = .ok (.aload_n 1, 1) := by decide +kernel
theorem dX7_cheapest_20 : decode cX7_cheapest 20 = .ok (.getfield 113, 3) := by decide +kernel
theorem dX7_cheapest_23 : decode cX7_cheapest 23 = .ok (.iload 4, 2) := by decide +kernel
theorem dX7_cheapest_25 : decode cX7_cheapest 25 = .ok (.iload_n 2, 1) := by decide +kernel
theorem dX7_cheapest_26 : decode cX7_cheapest 26 = .ok (.invokestatic 93, 3) := by decide +kernel
theorem dX7_cheapest_29 : decode cX7_cheapest 29 = .ok (.iaload, 1) := by decide +kernel
theorem dX7_cheapest_30 : decode cX7_cheapest 30 = .ok (.aload_n 1, 1) := by decide +kernel
theorem dX7_cheapest_31 : decode cX7_cheapest 31 = .ok (.getfield 113, 3) := by decide +kernel
theorem dX7_cheapest_34 : decode cX7_cheapest 34 = .ok (.iload_n 3, 1) := by decide +kernel
theorem dX7_cheapest_35 : decode cX7_cheapest 35 = .ok (.iload_n 2, 1) := by decide +kernel
theorem dX7_cheapest_36 : decode cX7_cheapest 36 = .ok (.invokestatic 93, 3) := by decide +kernel
theorem dX7_cheapest_39 : decode cX7_cheapest 39 = .ok (.iaload, 1) := by decide +kernel
theorem dX7_cheapest_40 : decode cX7_cheapest 40 = .ok (.if_icmp .ge 7, 3) := by decide +kernel
theorem dX7_cheapest_43 : decode cX7_cheapest 43 = .ok (.iconst 1, 1) := by decide +kernel
theorem dX7_cheapest_44 : decode cX7_cheapest 44 = .ok (.goto 4, 3) := by decide +kernel
theorem dX7_cheapest_47 : decode cX7_cheapest 47 = .ok (.iconst 0, 1) := by decide +kernel
theorem dX7_cheapest_48 : decode cX7_cheapest 48 = .ok (.istore 5, 2) := by decide +kernel
theorem dX7_cheapest_50 : decode cX7_cheapest 50 = .ok (.aload_n 0, 1) := by decide +kernel
theorem dX7_cheapest_51 : decode cX7_cheapest 51 = .ok (.getfield 31, 3) := by decide +kernel
theorem dX7_cheapest_54 : decode cX7_cheapest 54 = .ok (.iload 4, 2) := by decide +kernel
theorem dX7_cheapest_56 : decode cX7_cheapest 56 = .ok (.iaload, 1) := by decide +kernel
theorem dX7_cheapest_57 : decode cX7_cheapest 57 = .ok (.ifCond .le 11, 3) := by decide +kernel
theorem dX7_cheapest_60 : decode cX7_cheapest 60 = .ok (.iload 5, 2) := by decide +kernel
theorem dX7_cheapest_62 : decode cX7_cheapest 62 = .ok (.ifCond .eq 6, 3) := by decide +kernel
theorem dX7_cheapest_65 : decode cX7_cheapest 65 = .ok (.iload 4, 2) := by decide +kernel
theorem dX7_cheapest_67 : decode cX7_cheapest 67 = .ok (.istore_n 3, 1) := by decide +kernel
theorem dX7_cheapest_68 : decode cX7_cheapest 68 = .ok (.iinc 4 1, 3) := by decide +kernel
theorem dX7_cheapest_71 : decode cX7_cheapest 71 = .ok (.goto (-66), 3) := by decide +kernel
theorem dX7_cheapest_74 : decode cX7_cheapest 74 = .ok (.iload_n 3, 1) := by decide +kernel
theorem dX7_cheapest_75 : decode cX7_cheapest 75 = .ok (.ireturn, 1) := by decide +kernel
theorem dX7_failingByRolling_0 : decode cX7_failingByRolling 0 = .ok (.iload_n 2, 1) := by decide +kernel
theorem dX7_failingByRolling_1 : decode cX7_failingByRolling 1 = .ok (.sipush 700, 3) := by decide +kernel
theorem dX7_failingByRolling_4 : decode cX7_failingByRolling 4 = .ok (.if_icmp .le 5, 3) := by decide +kernel
theorem dX7_failingByRolling_7 : decode cX7_failingByRolling 7 = .ok (.iconst 0, 1) := by decide +kernel
theorem dX7_failingByRolling_8 : decode cX7_failingByRolling 8 = .ok (.ireturn, 1) := by decide +kernel
theorem dX7_failingByRolling_9 : decode cX7_failingByRolling 9 = .ok (.aload_n 1, 1) := by decide +kernel
theorem dX7_failingByRolling_10 : decode cX7_failingByRolling 10 = .ok (.getfield 65, 3) := by decide +kernel
theorem dX7_failingByRolling_13 : decode cX7_failingByRolling 13 = .ok (.getfield 116, 3) := by decide +kernel
theorem dX7_failingByRolling_16 : decode cX7_failingByRolling 16 = .ok (.iconst 0, 1) := by decide +kernel
theorem dX7_failingByRolling_17 : decode cX7_failingByRolling 17 = .ok (.aload_n 0, 1) := by decide +kernel
theorem dX7_failingByRolling_18 : decode cX7_failingByRolling 18 = .ok (.getfield 34, 3) := by decide +kernel
theorem dX7_failingByRolling_21 : decode cX7_failingByRolling 21 = .ok (.iconst 0, 1) := by decide +kernel
theorem dX7_failingByRolling_22 : decode cX7_failingByRolling 22 = .ok (.bipush 12, 2) := by decide +kernel
theorem dX7_failingByRolling_24 : decode cX7_failingByRolling 24 = .ok (.invokestatic 117, 3) := by decide +kernel
