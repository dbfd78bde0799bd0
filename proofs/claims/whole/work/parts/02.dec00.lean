theorem dX0_init_0 : decode cX0_init 0 = .ok (.aload_n 0, 1) := by decide +kernel
theorem dX0_init_1 : decode cX0_init 1 = .ok (.invokespecial 3, 3) := by decide +kernel
theorem dX0_init_4 : decode cX0_init 4 = .ok (.aload_n 0, 1) := by decide +kernel
theorem dX0_init_5 : decode cX0_init 5 = .ok (.new 9, 3) := by decide +kernel
theorem dX0_init_8 : decode cX0_init 8 = .ok (.dup, 1) := by decide +kernel
theorem dX0_init_9 : decode cX0_init 9 = .ok (.bipush 60, 2) := by decide +kernel
theorem dX0_init_11 : decode cX0_init 11 = .ok (.bipush 11, 2) := by decide +kernel
theorem dX0_init_13 : decode cX0_init 13 = .ok (.invokespecial 13, 3) := by decide +kernel
theorem dX0_init_16 : decode cX0_init 16 = .ok (.putfield 16, 3) := by decide +kernel
theorem dX0_init_19 : decode cX0_init 19 = .ok (.iconst 0, 1) := by decide +kernel
theorem dX0_init_20 : decode cX0_init 20 = .ok (.istore_n 1, 1) := by decide +kernel
theorem dX0_init_21 : decode cX0_init 21 = .ok (.iload_n 1, 1) := by decide +kernel
theorem dX0_init_22 : decode cX0_init 22 = .ok (.bipush 60, 2) := by decide +kernel
theorem dX0_init_24 : decode cX0_init 24 = .ok (.if_icmp .ge 20, 3) := by decide +kernel
theorem dX0_init_27 : decode cX0_init 27 = .ok (.aload_n 0, 1) := by decide +kernel
theorem dX0_init_28 : decode cX0_init 28 = .ok (.getfield 16, 3) := by decide +kernel
theorem dX0_init_31 : decode cX0_init 31 = .ok (.iload_n 1, 1) := by decide +kernel
theorem dX0_init_32 : decode cX0_init 32 = .ok (.bipush 7, 2) := by decide +kernel
theorem dX0_init_34 : decode cX0_init 34 = .ok (.iconst (-1), 1) := by decide +kernel
theorem dX0_init_35 : decode cX0_init 35 = .ok (.invokevirtual 20, 3) := by decide +kernel
theorem dX0_init_38 : decode cX0_init 38 = .ok (.iinc 1 1, 3) := by decide +kernel
theorem dX0_init_41 : decode cX0_init 41 = .ok (.goto (-20), 3) := by decide +kernel
theorem dX0_init_44 : decode cX0_init 44 = .ok (.return_, 1) := by decide +kernel
theorem dX0_at_0 : decode cX0_at 0 = .ok (.aload_n 0, 1) := by decide +kernel
theorem dX0_at_1 : decode cX0_at 1 = .ok (.getfield 16, 3) := by decide +kernel
theorem dX0_at_4 : decode cX0_at 4 = .ok (.iload_n 1, 1) := by decide +kernel
theorem dX0_at_5 : decode cX0_at 5 = .ok (.iload_n 2, 1) := by decide +kernel
theorem dX0_at_6 : decode cX0_at 6 = .ok (.invokevirtual 24, 3) := by decide +kernel
theorem dX0_at_9 : decode cX0_at 9 = .ok (.ireturn, 1) := by decide +kernel
theorem dX0_isThere_0 : decode cX0_isThere 0 = .ok (.iload_n 1, 1) := by decide +kernel
theorem dX0_isThere_1 : decode cX0_isThere 1 = .ok (.ifCond .lt 27, 3) := by decide +kernel
theorem dX0_isThere_4 : decode cX0_isThere 4 = .ok (.iload_n 1, 1) := by decide +kernel
theorem dX0_isThere_5 : decode cX0_isThere 5 = .ok (.bipush 60, 2) := by decide +kernel
theorem dX0_isThere_7 : decode cX0_isThere 7 = .ok (.if_icmp .ge 21, 3) := by decide +kernel
theorem dX0_isThere_10 : decode cX0_isThere 10 = .ok (.aload_n 0, 1) := by decide +kernel
theorem dX0_isThere_11 : decode cX0_isThere 11 = .ok (.getfield 16, 3) := by decide +kernel
theorem dX0_isThere_14 : decode cX0_isThere 14 = .ok (.iload_n 1, 1) := by decide +kernel
theorem dX0_isThere_15 : decode cX0_isThere 15 = .ok (.bipush 7, 2) := by decide +kernel
theorem dX0_isThere_17 : decode cX0_isThere 17 = .ok (.invokevirtual 24, 3) := by decide +kernel
theorem dX0_isThere_20 : decode cX0_isThere 20 = .ok (.iconst (-1), 1) := by decide +kernel
theorem dX0_isThere_21 : decode cX0_isThere 21 = .ok (.if_icmp .eq 7, 3) := by decide +kernel
theorem dX0_isThere_24 : decode cX0_isThere 24 = .ok (.iconst 1, 1) := by decide +kernel
theorem dX0_isThere_25 : decode cX0_isThere 25 = .ok (.goto 4, 3) := by decide +kernel
theorem dX0_isThere_28 : decode cX0_isThere 28 = .ok (.iconst 0, 1) := by decide +kernel
theorem dX0_isThere_29 : decode cX0_isThere 29 = .ok (.ireturn, 1) := by decide +kernel
theorem dX0_isLiving_0 : decode cX0_isLiving 0 = .ok (.aload_n 0, 1) := by decide +kernel
theorem dX0_isLiving_1 : decode cX0_isLiving 1 = .ok (.getfield 16, 3) := by decide +kernel
theorem dX0_isLiving_4 : decode cX0_isLiving 4 = .ok (.iload_n 1, 1) := by decide +kernel
theorem dX0_isLiving_5 : decode cX0_isLiving 5 = .ok (.bipush 7, 2) := by decide +kernel
theorem dX0_isLiving_7 : decode cX0_isLiving 7 = .ok (.invokevirtual 24, 3) := by decide +kernel
theorem dX0_isLiving_10 : decode cX0_isLiving 10 = .ok (.istore_n 2, 1) := by decide +kernel
theorem dX0_isLiving_11 : decode cX0_isLiving 11 = .ok (.iload_n 2, 1) := by decide +kernel
theorem dX0_isLiving_12 : decode cX0_isLiving 12 = .ok (.ifCond .eq 8, 3) := by decide +kernel
theorem dX0_isLiving_15 : decode cX0_isLiving 15 = .ok (.iload_n 2, 1) := by decide +kernel
theorem dX0_isLiving_16 : decode cX0_isLiving 16 = .ok (.iconst 1, 1) := by decide +kernel
theorem dX0_isLiving_17 : decode cX0_isLiving 17 = .ok (.if_icmp .ne 7, 3) := by decide +kernel
theorem dX0_isLiving_20 : decode cX0_isLiving 20 = .ok (.iconst 1, 1) := by decide +kernel
theorem dX0_isLiving_21 : decode cX0_isLiving 21 = .ok (.goto 4, 3) := by decide +kernel
theorem dX0_isLiving_24 : decode cX0_isLiving 24 = .ok (.iconst 0, 1) := by decide +kernel
theorem dX0_isLiving_25 : decode cX0_isLiving 25 = .ok (.ireturn, 1) := by decide +kernel
theorem dX0_standsFor_0 : decode cX0_standsFor 0 = .ok (.aload_n 0, 1) := by decide +kernel
theorem dX0_standsFor_1 : decode cX0_standsFor 1 = .ok (.getfield 16, 3) := by decide +kernel
theorem dX0_standsFor_4 : decode cX0_standsFor 4 = .ok (.iload_n 1, 1) := by decide +kernel
theorem dX0_standsFor_5 : decode cX0_standsFor 5 = .ok (.bipush 7, 2) := by decide +kernel
theorem dX0_standsFor_7 : decode cX0_standsFor 7 = .ok (.invokevirtual 24, 3) := by decide +kernel
theorem dX0_standsFor_10 : decode cX0_standsFor 10 = .ok (.iconst 1, 1) := by decide +kernel
theorem dX0_standsFor_11 : decode cX0_standsFor 11 = .ok (.if_icmp .ne 21, 3) := by decide +kernel
theorem dX0_standsFor_14 : decode cX0_standsFor 14 = .ok (.aload_n 0, 1) := by decide +kernel
theorem dX0_standsFor_15 : decode cX0_standsFor 15 = .ok (.getfield 16, 3) := by decide +kernel
theorem dX0_standsFor_18 : decode cX0_standsFor 18 = .ok (.iload_n 1, 1) := by decide +kernel
theorem dX0_standsFor_19 : decode cX0_standsFor 19 = .ok (.bipush 6, 2) := by decide +kernel
theorem dX0_standsFor_21 : decode cX0_standsFor 21 = .ok (.invokevirtual 24, 3) := by decide +kernel
theorem dX0_standsFor_24 : decode cX0_standsFor 24 = .ok (.iload_n 2, 1) := by decide +kernel
theorem dX0_standsFor_25 : decode cX0_standsFor 25 = .ok (.if_icmp .ne 7, 3) := by decide +kernel
theorem dX0_standsFor_28 : decode cX0_standsFor 28 = .ok (.iconst 1, 1) := by decide +kernel
theorem dX0_standsFor_29 : decode cX0_standsFor 29 = .ok (.goto 4, 3) := by decide +kernel
theorem dX0_standsFor_32 : decode cX0_standsFor 32 = .ok (.iconst 0, 1) := by decide +kernel
theorem dX0_standsFor_33 : decode cX0_standsFor 33 = .ok (.ireturn, 1) := by decide +kernel
theorem dX0_standsIn_0 : decode cX0_standsIn 0 = .ok (.aload_n 0, 1) := by decide +kernel
theorem dX0_standsIn_1 : decode cX0_standsIn 1 = .ok (.getfield 16, 3) := by decide +kernel
theorem dX0_standsIn_4 : decode cX0_standsIn 4 = .ok (.iload_n 1, 1) := by decide +kernel
theorem dX0_standsIn_5 : decode cX0_standsIn 5 = .ok (.iconst 2, 1) := by decide +kernel
theorem dX0_standsIn_6 : decode cX0_standsIn 6 = .ok (.invokevirtual 24, 3) := by decide +kernel
theorem dX0_standsIn_9 : decode cX0_standsIn 9 = .ok (.iload_n 2, 1) := by decide +kernel
theorem dX0_standsIn_10 : decode cX0_standsIn 10 = .ok (.if_icmp .ne 35, 3) := by decide +kernel
theorem dX0_standsIn_13 : decode cX0_standsIn 13 = .ok (.aload_n 0, 1) := by decide +kernel
theorem dX0_standsIn_14 : decode cX0_standsIn 14 = .ok (.getfield 16, 3) := by decide +kernel
theorem dX0_standsIn_17 : decode cX0_standsIn 17 = .ok (.iload_n 1, 1) := by decide +kernel
theorem dX0_standsIn_18 : decode cX0_standsIn 18 = .ok (.bipush 7, 2) := by decide +kernel
theorem dX0_standsIn_20 : decode cX0_standsIn 20 = .ok (.invokevirtual 24, 3) := by decide +kernel
theorem dX0_standsIn_23 : decode cX0_standsIn 23 = .ok (.iconst 1, 1) := by decide +kernel
theorem dX0_standsIn_24 : decode cX0_standsIn 24 = .ok (.if_icmp .ne 21, 3) := by decide +kernel
theorem dX0_standsIn_27 : decode cX0_standsIn 27 = .ok (.aload_n 0, 1) := by decide +kernel
theorem dX0_standsIn_28 : decode cX0_standsIn 28 = .ok (.getfield 16, 3) := by decide +kernel
theorem dX0_standsIn_31 : decode cX0_standsIn 31 = .ok (.iload_n 1, 1) := by decide +kernel
theorem dX0_standsIn_32 : decode cX0_standsIn 32 = .ok (.bipush 6, 2) := by decide +kernel
theorem dX0_standsIn_34 : decode cX0_standsIn 34 = .ok (.invokevirtual 24, 3) := by decide +kernel
theorem dX0_standsIn_37 : decode cX0_standsIn 37 = .ok (.iload_n 3, 1) := by decide +kernel
theorem dX0_standsIn_38 : decode cX0_standsIn 38 = .ok (.if_icmp .ne 7, 3) := by decide +kernel
theorem dX0_standsIn_41 : decode cX0_standsIn 41 = .ok (.iconst 1, 1) := by decide +kernel
theorem dX0_standsIn_42 : decode cX0_standsIn 42 = .ok (.goto 4, 3) := by decide +kernel
theorem dX0_standsIn_45 : decode cX0_standsIn 45 = .ok (.iconst 0, 1) := by decide +kernel
theorem dX0_standsIn_46 : decode cX0_standsIn 46 = .ok (.ireturn, 1) := by decide +kernel
theorem dX0_leastFree_0 : decode cX0_leastFree 0 = .ok (.iload_n 1, 1) := by decide +kernel
theorem dX0_leastFree_1 : decode cX0_leastFree 1 = .ok (.iconst 0, 1) := by decide +kernel
theorem dX0_leastFree_2 : decode cX0_leastFree 2 = .ok (.invokestatic 28, 3) := by decide +kernel
theorem dX0_leastFree_5 : decode cX0_leastFree 5 = .ok (.istore_n 2, 1) := by decide +kernel
theorem dX0_leastFree_6 : decode cX0_leastFree 6 = .ok (.iload_n 2, 1) := by decide +kernel
theorem dX0_leastFree_7 : decode cX0_leastFree 7 = .ok (.bipush 60, 2) := by decide +kernel
theorem dX0_leastFree_9 : decode cX0_leastFree 9 = .ok (.if_icmp .ge 25, 3) := by decide +kernel
theorem dX0_leastFree_12 : decode cX0_leastFree 12 = .ok (.aload_n 0, 1) := by decide +kernel
theorem dX0_leastFree_13 : decode cX0_leastFree 13 = .ok (.getfield 16, 3) := by decide +kernel
theorem dX0_leastFree_16 : decode cX0_leastFree 16 = .ok (.iload_n 2, 1) := by decide +kernel
theorem dX0_leastFree_17 : decode cX0_leastFree 17 = .ok (.bipush 7, 2) := by decide +kernel
theorem dX0_leastFree_19 : decode cX0_leastFree 19 = .ok (.invokevirtual 24, 3) := by decide +kernel
theorem dX0_leastFree_22 : decode cX0_leastFree 22 = .ok (.iconst (-1), 1) := by decide +kernel
theorem dX0_leastFree_23 : decode cX0_leastFree 23 = .ok (.if_icmp .ne 5, 3) := by decide +kernel
theorem dX0_leastFree_26 : decode cX0_leastFree 26 = .ok (.iload_n 2, 1) := by decide +kernel
theorem dX0_leastFree_27 : decode cX0_leastFree 27 = .ok (.ireturn, 1) := by decide +kernel
theorem dX0_leastFree_28 : decode cX0_leastFree 28 = .ok (.iinc 2 1, 3) := by decide +kernel
theorem dX0_leastFree_31 : decode cX0_leastFree 31 = .ok (.goto (-25), 3) := by decide +kernel
theorem dX0_leastFree_34 : decode cX0_leastFree 34 = .ok (.iconst (-1), 1) := by decide +kernel
theorem dX0_leastFree_35 : decode cX0_leastFree 35 = .ok (.ireturn, 1) := by decide +kernel
theorem dX0_write_0 : decode cX0_write 0 = .ok (.aload_n 0, 1) := by decide +kernel
theorem dX0_write_1 : decode cX0_write 1 = .ok (.getfield 16, 3) := by decide +kernel
theorem dX0_write_4 : decode cX0_write 4 = .ok (.iload_n 1, 1) := by decide +kernel
theorem dX0_write_5 : decode cX0_write 5 = .ok (.iconst 0, 1) := by decide +kernel
theorem dX0_write_6 : decode cX0_write 6 = .ok (.iload_n 2, 1) := by decide +kernel
theorem dX0_write_7 : decode cX0_write 7 = .ok (.invokevirtual 20, 3) := by decide +kernel
theorem dX0_write_10 : decode cX0_write 10 = .ok (.aload_n 0, 1) := by decide +kernel
theorem dX0_write_11 : decode cX0_write 11 = .ok (.getfield 16, 3) := by decide +kernel
theorem dX0_write_14 : decode cX0_write 14 = .ok (.iload_n 1, 1) := by decide +kernel
theorem dX0_write_15 : decode cX0_write 15 = .ok (.iconst 1, 1) := by decide +kernel
theorem dX0_write_16 : decode cX0_write 16 = .ok (.iload_n 3, 1) := by decide +kernel
theorem dX0_write_17 : decode cX0_write 17 = .ok (.invokevirtual 20, 3) := by decide +kernel
theorem dX0_write_20 : decode cX0_write 20 = .ok (.aload_n 0, 1) := by decide +kernel
theorem dX0_write_21 : decode cX0_write 21 = .ok (.getfield 16, 3) := by decide +kernel
theorem dX0_write_24 : decode cX0_write 24 = .ok (.iload_n 1, 1) := by decide +kernel
theorem dX0_write_25 : decode cX0_write 25 = .ok (.iconst 2, 1) := by decide +kernel
theorem dX0_write_26 : decode cX0_write 26 = .ok (.iload 4, 2) := by decide +kernel
theorem dX0_write_28 : decode cX0_write 28 = .ok (.invokevirtual 20, 3) := by decide +kernel
theorem dX0_write_31 : decode cX0_write 31 = .ok (.aload_n 0, 1) := by decide +kernel
theorem dX0_write_32 : decode cX0_write 32 = .ok (.getfield 16, 3) := by decide +kernel
theorem dX0_write_35 : decode cX0_write 35 = .ok (.iload_n 1, 1) := by decide +kernel
theorem dX0_write_36 : decode cX0_write 36 = .ok (.iconst 3, 1) := by decide +kernel
theorem dX0_write_37 : decode cX0_write 37 = .ok (.iload 5, 2) := by decide +kernel
theorem dX0_write_39 : decode cX0_write 39 = .ok (.invokevirtual 20, 3) := by decide +kernel
theorem dX0_write_42 : decode cX0_write 42 = .ok (.aload_n 0, 1) := by decide +kernel
theorem dX0_write_43 : decode cX0_write 43 = .ok (.getfield 16, 3) := by decide +kernel
theorem dX0_write_46 : decode cX0_write 46 = .ok (.iload_n 1, 1) := by decide +kernel
theorem dX0_write_47 : decode cX0_write 47 = .ok (.iconst 4, 1) := by decide +kernel
theorem dX0_write_48 : decode cX0_write 48 = .ok (.iload 6, 2) := by decide +kernel
theorem dX0_write_50 : decode cX0_write 50 = .ok (.invokevirtual 20, 3) := by decide +kernel
theorem dX0_write_53 : decode cX0_write 53 = .ok (.aload_n 0, 1) := by decide +kernel
theorem dX0_write_54 : decode cX0_write 54 = .ok (.getfield 16, 3) := by decide +kernel
theorem dX0_write_57 : decode cX0_write 57 = .ok (.iload_n 1, 1) := by decide +kernel
theorem dX0_write_58 : decode cX0_write 58 = .ok (.iconst 5, 1) := by decide +kernel
theorem dX0_write_59 : decode cX0_write 59 = .ok (.iload 7, 2) := by decide +kernel
theorem dX0_write_61 : decode cX0_write 61 = .ok (.invokevirtual 20, 3) := by decide +kernel
theorem dX0_write_64 : decode cX0_write 64 = .ok (.iload 7, 2) := by decide +kernel
theorem dX0_write_66 : decode cX0_write 66 = .ok (.bipush 14, 2) := by decide +kernel
theorem dX0_write_68 : decode cX0_write 68 = .ok (.irem, 1) := by decide +kernel
theorem dX0_write_69 : decode cX0_write 69 = .ok (.bipush 10, 2) := by decide +kernel
theorem dX0_write_71 : decode cX0_write 71 = .ok (.if_icmp .lt 7, 3) := by decide +kernel
theorem dX0_write_74 : decode cX0_write 74 = .ok (.iconst 1, 1) := by decide +kernel
theorem dX0_write_75 : decode cX0_write 75 = .ok (.goto 4, 3) := by decide +kernel
theorem dX0_write_78 : decode cX0_write 78 = .ok (.iconst 0, 1) := by decide +kernel
theorem dX0_write_79 : decode cX0_write 79 = .ok (.istore 8, 2) := by decide +kernel
theorem dX0_write_81 : decode cX0_write 81 = .ok (.aload_n 0, 1) := by decide +kernel
theorem dX0_write_82 : decode cX0_write 82 = .ok (.getfield 16, 3) := by decide +kernel
theorem dX0_write_85 : decode cX0_write 85 = .ok (.iload_n 1, 1) := by decide +kernel
theorem dX0_write_86 : decode cX0_write 86 = .ok (.bipush 6, 2) := by decide +kernel
theorem dX0_write_88 : decode cX0_write 88 = .ok (.iload 7, 2) := by decide +kernel
theorem dX0_write_90 : decode cX0_write 90 = .ok (.bipush 14, 2) := by decide +kernel
theorem dX0_write_92 : decode cX0_write 92 = .ok (.idiv, 1) := by decide +kernel
theorem dX0_write_93 : decode cX0_write 93 = .ok (.iload 8, 2) := by decide +kernel
theorem dX0_write_95 : decode cX0_write 95 = .ok (.ifCond .eq 7, 3) := by decide +kernel
theorem dX0_write_98 : decode cX0_write 98 = .ok (.iconst 1, 1) := by decide +kernel
theorem dX0_write_99 : decode cX0_write 99 = .ok (.goto 4, 3) := by decide +kernel
theorem dX0_write_102 : decode cX0_write 102 = .ok (.iconst 0, 1) := by decide +kernel
theorem dX0_write_103 : decode cX0_write 103 = .ok (.iadd, 1) := by decide +kernel
theorem dX0_write_104 : decode cX0_write 104 = .ok (.invokevirtual 20, 3) := by decide +kernel
theorem dX0_write_107 : decode cX0_write 107 = .ok (.aload_n 0, 1) := by decide +kernel
theorem dX0_write_108 : decode cX0_write 108 = .ok (.getfield 16, 3) := by decide +kernel
theorem dX0_write_111 : decode cX0_write 111 = .ok (.iload_n 1, 1) := by decide +kernel
theorem dX0_write_112 : decode cX0_write 112 = .ok (.bipush 7, 2) := by decide +kernel
theorem dX0_write_114 : decode cX0_write 114 = .ok (.iconst 0, 1) := by decide +kernel
theorem dX0_write_115 : decode cX0_write 115 = .ok (.invokevirtual 20, 3) := by decide +kernel
theorem dX0_write_118 : decode cX0_write 118 = .ok (.aload_n 0, 1) := by decide +kernel
theorem dX0_write_119 : decode cX0_write 119 = .ok (.getfield 16, 3) := by decide +kernel
theorem dX0_write_122 : decode cX0_write 122 = .ok (.iload_n 1, 1) := by decide +kernel
theorem dX0_write_123 : decode cX0_write 123 = .ok (.bipush 8, 2) := by decide +kernel
theorem dX0_write_125 : decode cX0_write 125 = .ok (.iconst (-1), 1) := by decide +kernel
theorem dX0_write_126 : decode cX0_write 126 = .ok (.invokevirtual 20, 3) := by decide +kernel
theorem dX0_write_129 : decode cX0_write 129 = .ok (.aload_n 0, 1) := by decide +kernel
theorem dX0_write_130 : decode cX0_write 130 = .ok (.getfield 16, 3) := by decide +kernel
theorem dX0_write_133 : decode cX0_write 133 = .ok (.iload_n 1, 1) := by decide +kernel
theorem dX0_write_134 : decode cX0_write 134 = .ok (.bipush 9, 2) := by decide +kernel
theorem dX0_write_136 : decode cX0_write 136 = .ok (.iconst (-1), 1) := by decide +kernel
theorem dX0_write_137 : decode cX0_write 137 = .ok (.invokevirtual 20, 3) := by decide +kernel
theorem dX0_write_140 : decode cX0_write 140 = .ok (.aload_n 0, 1) := by decide +kernel
theorem dX0_write_141 : decode cX0_write 141 = .ok (.getfield 16, 3) := by decide +kernel
theorem dX0_write_144 : decode cX0_write 144 = .ok (.iload_n 1, 1) := by decide +kernel
theorem dX0_write_145 : decode cX0_write 145 = .ok (.bipush 10, 2) := by decide +kernel
theorem dX0_write_147 : decode cX0_write 147 = .ok (.iconst 0, 1) := by decide +kernel
theorem dX0_write_148 : decode cX0_write 148 = .ok (.invokevirtual 20, 3) := by decide +kernel
theorem dX0_write_151 : decode cX0_write 151 = .ok (.return_, 1) := by decide +kernel
theorem dX0_putState_0 : decode cX0_putState 0 = .ok (.aload_n 0, 1) := by decide +kernel
theorem dX0_putState_1 : decode cX0_putState 1 = .ok (.getfield 16, 3) := by decide +kernel
theorem dX0_putState_4 : decode cX0_putState 4 = .ok (.iload_n 1, 1) := by decide +kernel
theorem dX0_putState_5 : decode cX0_putState 5 = .ok (.bipush 7, 2) := by decide +kernel
theorem dX0_putState_7 : decode cX0_putState 7 = .ok (.iload_n 2, 1) := by decide +kernel
theorem dX0_putState_8 : decode cX0_putState 8 = .ok (.invokevirtual 20, 3) := by decide +kernel
theorem dX0_putState_11 : decode cX0_putState 11 = .ok (.return_, 1) := by decide +kernel
theorem dX0_markColumnOf_0 : decode cX0_markColumnOf 0 = .ok (.aload_n 0, 1) := by decide +kernel
theorem dX0_markColumnOf_1 : decode cX0_markColumnOf 1 = .ok (.getfield 16, 3) := by decide +kernel
theorem dX0_markColumnOf_4 : decode cX0_markColumnOf 4 = .ok (.iload_n 1, 1) := by decide +kernel
theorem dX0_markColumnOf_5 : decode cX0_markColumnOf 5 = .ok (.iconst 0, 1) := by decide +kernel
theorem dX0_markColumnOf_6 : decode cX0_markColumnOf 6 = .ok (.invokevirtual 24, 3) := by decide +kernel
theorem dX0_markColumnOf_9 : decode cX0_markColumnOf 9 = .ok (.iload_n 2, 1) := by decide +kernel
theorem dX0_markColumnOf_10 : decode cX0_markColumnOf 10 = .ok (.if_icmp .ne 6, 3) := by decide +kernel
theorem dX0_markColumnOf_13 : decode cX0_markColumnOf 13 = .ok (.bipush 8, 2) := by decide +kernel
theorem dX0_markColumnOf_15 : decode cX0_markColumnOf 15 = .ok (.ireturn, 1) := by decide +kernel
theorem dX0_markColumnOf_16 : decode cX0_markColumnOf 16 = .ok (.aload_n 0, 1) := by decide +kernel
theorem dX0_markColumnOf_17 : decode cX0_markColumnOf 17 = .ok (.getfield 16, 3) := by decide +kernel
theorem dX0_markColumnOf_20 : decode cX0_markColumnOf 20 = .ok (.iload_n 1, 1) := by decide +kernel
theorem dX0_markColumnOf_21 : decode cX0_markColumnOf 21 = .ok (.iconst 1, 1) := by decide +kernel
theorem dX0_markColumnOf_22 : decode cX0_markColumnOf 22 = .ok (.invokevirtual 24, 3) := by decide +kernel
theorem dX0_markColumnOf_25 : decode cX0_markColumnOf 25 = .ok (.iload_n 2, 1) := by decide +kernel
theorem dX0_markColumnOf_26 : decode cX0_markColumnOf 26 = .ok (.if_icmp .ne 8, 3) := by decide +kernel
theorem dX0_markColumnOf_29 : decode cX0_markColumnOf 29 = .ok (.bipush 9, 2) := by decide +kernel
theorem dX0_markColumnOf_31 : decode cX0_markColumnOf 31 = .ok (.goto 4, 3) := by decide +kernel
theorem dX0_markColumnOf_34 : decode cX0_markColumnOf 34 = .ok (.iconst (-1), 1) := by decide +kernel
theorem dX0_markColumnOf_35 : decode cX0_markColumnOf 35 = .ok (.ireturn, 1) := by decide +kernel
theorem dX0_markBy_0 : decode cX0_markBy 0 = .ok (.aload_n 0, 1) := by decide +kernel
theorem dX0_markBy_1 : decode cX0_markBy 1 = .ok (.getfield 16, 3) := by decide +kernel
theorem dX0_markBy_4 : decode cX0_markBy 4 = .ok (.iload_n 1, 1) := by decide +kernel
theorem dX0_markBy_5 : decode cX0_markBy 5 = .ok (.iload_n 2, 1) := by decide +kernel
theorem dX0_markBy_6 : decode cX0_markBy 6 = .ok (.iload_n 3, 1) := by decide +kernel
theorem dX0_markBy_7 : decode cX0_markBy 7 = .ok (.invokevirtual 20, 3) := by decide +kernel
theorem dX0_markBy_10 : decode cX0_markBy 10 = .ok (.aload_n 0, 1) := by decide +kernel
theorem dX0_markBy_11 : decode cX0_markBy 11 = .ok (.getfield 16, 3) := by decide +kernel
theorem dX0_markBy_14 : decode cX0_markBy 14 = .ok (.iload_n 1, 1) := by decide +kernel
theorem dX0_markBy_15 : decode cX0_markBy 15 = .ok (.bipush 8, 2) := by decide +kernel
theorem dX0_markBy_17 : decode cX0_markBy 17 = .ok (.invokevirtual 24, 3) := by decide +kernel
theorem dX0_markBy_20 : decode cX0_markBy 20 = .ok (.iconst (-1), 1) := by decide +kernel
theorem dX0_markBy_21 : decode cX0_markBy 21 = .ok (.if_icmp .eq 21, 3) := by decide +kernel
theorem dX0_markBy_24 : decode cX0_markBy 24 = .ok (.aload_n 0, 1) := by decide +kernel
theorem dX0_markBy_25 : decode cX0_markBy 25 = .ok (.getfield 16, 3) := by decide +kernel
theorem dX0_markBy_28 : decode cX0_markBy 28 = .ok (.iload_n 1, 1) := by decide +kernel
theorem dX0_markBy_29 : decode cX0_markBy 29 = .ok (.bipush 9, 2) := by decide +kernel
theorem dX0_markBy_31 : decode cX0_markBy 31 = .ok (.invokevirtual 24, 3) := by decide +kernel
theorem dX0_markBy_34 : decode cX0_markBy 34 = .ok (.iconst (-1), 1) := by decide +kernel
theorem dX0_markBy_35 : decode cX0_markBy 35 = .ok (.if_icmp .eq 7, 3) := by decide +kernel
theorem dX0_markBy_38 : decode cX0_markBy 38 = .ok (.iconst 1, 1) := by decide +kernel
theorem dX0_markBy_39 : decode cX0_markBy 39 = .ok (.goto 4, 3) := by decide +kernel
theorem dX0_markBy_42 : decode cX0_markBy 42 = .ok (.iconst 0, 1) := by decide +kernel
theorem dX0_markBy_43 : decode cX0_markBy 43 = .ok (.istore 4, 2) := by decide +kernel
theorem dX0_markBy_45 : decode cX0_markBy 45 = .ok (.iload 4, 2) := by decide +kernel
theorem dX0_markBy_47 : decode cX0_markBy 47 = .ok (.ifCond .eq 14, 3) := by decide +kernel
theorem dX0_markBy_50 : decode cX0_markBy 50 = .ok (.aload_n 0, 1) := by decide +kernel
theorem dX0_markBy_51 : decode cX0_markBy 51 = .ok (.getfield 16, 3) := by decide +kernel
theorem dX0_markBy_54 : decode cX0_markBy 54 = .ok (.iload_n 1, 1) := by decide +kernel
theorem dX0_markBy_55 : decode cX0_markBy 55 = .ok (.bipush 7, 2) := by decide +kernel
theorem dX0_markBy_57 : decode cX0_markBy 57 = .ok (.iconst 1, 1) := by decide +kernel
theorem dX0_markBy_58 : decode cX0_markBy 58 = .ok (.invokevirtual 20, 3) := by decide +kernel
theorem dX0_markBy_61 : decode cX0_markBy 61 = .ok (.iload 4, 2) := by decide +kernel
theorem dX0_markBy_63 : decode cX0_markBy 63 = .ok (.ireturn, 1) := by decide +kernel
theorem dX0_makeStand_0 : decode cX0_makeStand 0 = .ok (.aload_n 0, 1) := by decide +kernel
theorem dX0_makeStand_1 : decode cX0_makeStand 1 = .ok (.getfield 16, 3) := by decide +kernel
theorem dX0_makeStand_4 : decode cX0_makeStand 4 = .ok (.iload_n 1, 1) := by decide +kernel
theorem dX0_makeStand_5 : decode cX0_makeStand 5 = .ok (.bipush 8, 2) := by decide +kernel
theorem dX0_makeStand_7 : decode cX0_makeStand 7 = .ok (.invokevirtual 24, 3) := by decide +kernel
theorem dX0_makeStand_10 : decode cX0_makeStand 10 = .ok (.iconst (-1), 1) := by decide +kernel
theorem dX0_makeStand_11 : decode cX0_makeStand 11 = .ok (.if_icmp .ne 14, 3) := by decide +kernel
theorem dX0_makeStand_14 : decode cX0_makeStand 14 = .ok (.aload_n 0, 1) := by decide +kernel
theorem dX0_makeStand_15 : decode cX0_makeStand 15 = .ok (.getfield 16, 3) := by decide +kernel
theorem dX0_makeStand_18 : decode cX0_makeStand 18 = .ok (.iload_n 1, 1) := by decide +kernel
theorem dX0_makeStand_19 : decode cX0_makeStand 19 = .ok (.bipush 8, 2) := by decide +kernel
theorem dX0_makeStand_21 : decode cX0_makeStand 21 = .ok (.iload_n 2, 1) := by decide +kernel
theorem dX0_makeStand_22 : decode cX0_makeStand 22 = .ok (.invokevirtual 20, 3) := by decide +kernel
theorem dX0_makeStand_25 : decode cX0_makeStand 25 = .ok (.aload_n 0, 1) := by decide +kernel
theorem dX0_makeStand_26 : decode cX0_makeStand 26 = .ok (.getfield 16, 3) := by decide +kernel
theorem dX0_makeStand_29 : decode cX0_makeStand 29 = .ok (.iload_n 1, 1) := by decide +kernel
theorem dX0_makeStand_30 : decode cX0_makeStand 30 = .ok (.bipush 9, 2) := by decide +kernel
theorem dX0_makeStand_32 : decode cX0_makeStand 32 = .ok (.invokevirtual 24, 3) := by decide +kernel
theorem dX0_makeStand_35 : decode cX0_makeStand 35 = .ok (.iconst (-1), 1) := by decide +kernel
theorem dX0_makeStand_36 : decode cX0_makeStand 36 = .ok (.if_icmp .ne 14, 3) := by decide +kernel
theorem dX0_makeStand_39 : decode cX0_makeStand 39 = .ok (.aload_n 0, 1) := by decide +kernel
theorem dX0_makeStand_40 : decode cX0_makeStand 40 = .ok (.getfield 16, 3) := by decide +kernel
theorem dX0_makeStand_43 : decode cX0_makeStand 43 = .ok (.iload_n 1, 1) := by decide +kernel
theorem dX0_makeStand_44 : decode cX0_makeStand 44 = .ok (.bipush 9, 2) := by decide +kernel
theorem dX0_makeStand_46 : decode cX0_makeStand 46 = .ok (.iload_n 2, 1) := by decide +kernel
theorem dX0_makeStand_47 : decode cX0_makeStand 47 = .ok (.invokevirtual 20, 3) := by decide +kernel
theorem dX0_makeStand_50 : decode cX0_makeStand 50 = .ok (.aload_n 0, 1) := by decide +kernel
theorem dX0_makeStand_51 : decode cX0_makeStand 51 = .ok (.getfield 16, 3) := by decide +kernel
theorem dX0_makeStand_54 : decode cX0_makeStand 54 = .ok (.iload_n 1, 1) := by decide +kernel
theorem dX0_makeStand_55 : decode cX0_makeStand 55 = .ok (.bipush 7, 2) := by decide +kernel
theorem dX0_makeStand_57 : decode cX0_makeStand 57 = .ok (.iconst 1, 1) := by decide +kernel
theorem dX0_makeStand_58 : decode cX0_makeStand 58 = .ok (.invokevirtual 20, 3) := by decide +kernel
theorem dX0_makeStand_61 : decode cX0_makeStand 61 = .ok (.return_, 1) := by decide +kernel
theorem dX0_makePutOff_0 : decode cX0_makePutOff 0 = .ok (.aload_n 0, 1) := by decide +kernel
theorem dX0_makePutOff_1 : decode cX0_makePutOff 1 = .ok (.getfield 16, 3) := by decide +kernel
theorem dX0_makePutOff_4 : decode cX0_makePutOff 4 = .ok (.iload_n 1, 1) := by decide +kernel
theorem dX0_makePutOff_5 : decode cX0_makePutOff 5 = .ok (.bipush 6, 2) := by decide +kernel
theorem dX0_makePutOff_7 : decode cX0_makePutOff 7 = .ok (.iload_n 2, 1) := by decide +kernel
theorem dX0_makePutOff_8 : decode cX0_makePutOff 8 = .ok (.invokevirtual 20, 3) := by decide +kernel
theorem dX0_makePutOff_11 : decode cX0_makePutOff 11 = .ok (.aload_n 0, 1) := by decide +kernel
theorem dX0_makePutOff_12 : decode cX0_makePutOff 12 = .ok (.getfield 16, 3) := by decide +kernel
theorem dX0_makePutOff_15 : decode cX0_makePutOff 15 = .ok (.iload_n 1, 1) := by decide +kernel
theorem dX0_makePutOff_16 : decode cX0_makePutOff 16 = .ok (.bipush 10, 2) := by decide +kernel
theorem dX0_makePutOff_18 : decode cX0_makePutOff 18 = .ok (.iconst 1, 1) := by decide +kernel
theorem dX0_makePutOff_19 : decode cX0_makePutOff 19 = .ok (.invokevirtual 20, 3) := by decide +kernel
theorem dX0_makePutOff_22 : decode cX0_makePutOff 22 = .ok (.aload_n 0, 1) := by decide +kernel
theorem dX0_makePutOff_23 : decode cX0_makePutOff 23 = .ok (.iload_n 1, 1) := by decide +kernel
theorem dX0_makePutOff_24 : decode cX0_makePutOff 24 = .ok (.iload_n 3, 1) := by decide +kernel
theorem dX0_makePutOff_25 : decode cX0_makePutOff 25 = .ok (.invokevirtual 33, 3) := by decide +kernel
theorem dX0_makePutOff_28 : decode cX0_makePutOff 28 = .ok (.return_, 1) := by decide +kernel
theorem dX0_marksOf_0 : decode cX0_marksOf 0 = .ok (.aload_n 0, 1) := by decide +kernel
theorem dX0_marksOf_1 : decode cX0_marksOf 1 = .ok (.getfield 16, 3) := by decide +kernel
theorem dX0_marksOf_4 : decode cX0_marksOf 4 = .ok (.iload_n 1, 1) := by decide +kernel
theorem dX0_marksOf_5 : decode cX0_marksOf 5 = .ok (.bipush 8, 2) := by decide +kernel
theorem dX0_marksOf_7 : decode cX0_marksOf 7 = .ok (.invokevirtual 24, 3) := by decide +kernel
theorem dX0_marksOf_10 : decode cX0_marksOf 10 = .ok (.iconst (-1), 1) := by decide +kernel
theorem dX0_marksOf_11 : decode cX0_marksOf 11 = .ok (.if_icmp .ne 7, 3) := by decide +kernel
theorem dX0_marksOf_14 : decode cX0_marksOf 14 = .ok (.iconst 0, 1) := by decide +kernel
theorem dX0_marksOf_15 : decode cX0_marksOf 15 = .ok (.goto 4, 3) := by decide +kernel
theorem dX0_marksOf_18 : decode cX0_marksOf 18 = .ok (.iconst 1, 1) := by decide +kernel
theorem dX0_marksOf_19 : decode cX0_marksOf 19 = .ok (.istore_n 2, 1) := by decide +kernel
theorem dX0_marksOf_20 : decode cX0_marksOf 20 = .ok (.aload_n 0, 1) := by decide +kernel
theorem dX0_marksOf_21 : decode cX0_marksOf 21 = .ok (.getfield 16, 3) := by decide +kernel
theorem dX0_marksOf_24 : decode cX0_marksOf 24 = .ok (.iload_n 1, 1) := by decide +kernel
theorem dX0_marksOf_25 : decode cX0_marksOf 25 = .ok (.bipush 9, 2) := by decide +kernel
theorem dX0_marksOf_27 : decode cX0_marksOf 27 = .ok (.invokevirtual 24, 3) := by decide +kernel
theorem dX0_marksOf_30 : decode cX0_marksOf 30 = .ok (.iconst (-1), 1) := by decide +kernel
theorem dX0_marksOf_31 : decode cX0_marksOf 31 = .ok (.if_icmp .ne 7, 3) := by decide +kernel
theorem dX0_marksOf_34 : decode cX0_marksOf 34 = .ok (.iload_n 2, 1) := by decide +kernel
theorem dX0_marksOf_35 : decode cX0_marksOf 35 = .ok (.goto 6, 3) := by decide +kernel
theorem dX0_marksOf_38 : decode cX0_marksOf 38 = .ok (.iload_n 2, 1) := by decide +kernel
theorem dX0_marksOf_39 : decode cX0_marksOf 39 = .ok (.iconst 2, 1) := by decide +kernel
theorem dX0_marksOf_40 : decode cX0_marksOf 40 = .ok (.iadd, 1) := by decide +kernel
theorem dX0_marksOf_41 : decode cX0_marksOf 41 = .ok (.ireturn, 1) := by decide +kernel
theorem dX0_gainOf_0 : decode cX0_gainOf 0 = .ok (.aload_n 0, 1) := by decide +kernel
theorem dX0_gainOf_1 : decode cX0_gainOf 1 = .ok (.getfield 16, 3) := by decide +kernel
theorem dX0_gainOf_4 : decode cX0_gainOf 4 = .ok (.iload_n 1, 1) := by decide +kernel
theorem dX0_gainOf_5 : decode cX0_gainOf 5 = .ok (.iconst 1, 1) := by decide +kernel
theorem dX0_gainOf_6 : decode cX0_gainOf 6 = .ok (.invokevirtual 24, 3) := by decide +kernel
theorem dX0_gainOf_9 : decode cX0_gainOf 9 = .ok (.iload_n 2, 1) := by decide +kernel
theorem dX0_gainOf_10 : decode cX0_gainOf 10 = .ok (.if_icmp .ne 13, 3) := by decide +kernel
theorem dX0_gainOf_13 : decode cX0_gainOf 13 = .ok (.aload_n 0, 1) := by decide +kernel
theorem dX0_gainOf_14 : decode cX0_gainOf 14 = .ok (.getfield 16, 3) := by decide +kernel
theorem dX0_gainOf_17 : decode cX0_gainOf 17 = .ok (.iload_n 1, 1) := by decide +kernel
theorem dX0_gainOf_18 : decode cX0_gainOf 18 = .ok (.iconst 3, 1) := by decide +kernel
theorem dX0_gainOf_19 : decode cX0_gainOf 19 = .ok (.invokevirtual 24, 3) := by decide +kernel
theorem dX0_gainOf_22 : decode cX0_gainOf 22 = .ok (.ireturn, 1) := by decide +kernel
theorem dX0_gainOf_23 : decode cX0_gainOf 23 = .ok (.aload_n 0, 1) := by decide +kernel
theorem dX0_gainOf_24 : decode cX0_gainOf 24 = .ok (.getfield 16, 3) := by decide +kernel
theorem dX0_gainOf_27 : decode cX0_gainOf 27 = .ok (.iload_n 1, 1) := by decide +kernel
theorem dX0_gainOf_28 : decode cX0_gainOf 28 = .ok (.iconst 0, 1) := by decide +kernel
theorem dX0_gainOf_29 : decode cX0_gainOf 29 = .ok (.invokevirtual 24, 3) := by decide +kernel
theorem dX0_gainOf_32 : decode cX0_gainOf 32 = .ok (.iload_n 2, 1) := by decide +kernel
theorem dX0_gainOf_33 : decode cX0_gainOf 33 = .ok (.if_icmp .ne 16, 3) := by decide +kernel
theorem dX0_gainOf_36 : decode cX0_gainOf 36 = .ok (.aload_n 0, 1) := by decide +kernel
theorem dX0_gainOf_37 : decode cX0_gainOf 37 = .ok (.getfield 16, 3) := by decide +kernel
theorem dX0_gainOf_40 : decode cX0_gainOf 40 = .ok (.iload_n 1, 1) := by decide +kernel
theorem dX0_gainOf_41 : decode cX0_gainOf 41 = .ok (.iconst 3, 1) := by decide +kernel
theorem dX0_gainOf_42 : decode cX0_gainOf 42 = .ok (.invokevirtual 24, 3) := by decide +kernel
theorem dX0_gainOf_45 : decode cX0_gainOf 45 = .ok (.ineg, 1) := by decide +kernel
theorem dX0_gainOf_46 : decode cX0_gainOf 46 = .ok (.goto 4, 3) := by decide +kernel
theorem dX0_gainOf_49 : decode cX0_gainOf 49 = .ok (.iconst 0, 1) := by decide +kernel
theorem dX0_gainOf_50 : decode cX0_gainOf 50 = .ok (.ireturn, 1) := by decide +kernel
theorem dX0_netOf_0 : decode cX0_netOf 0 = .ok (.iconst 0, 1) := by decide +kernel
theorem dX0_netOf_1 : decode cX0_netOf 1 = .ok (.istore 4, 2) := by decide +kernel
theorem dX0_netOf_3 : decode cX0_netOf 3 = .ok (.iconst 0, 1) := by decide +kernel
theorem dX0_netOf_4 : decode cX0_netOf 4 = .ok (.istore 5, 2) := by decide +kernel
theorem dX0_netOf_6 : decode cX0_netOf 6 = .ok (.iload 5, 2) := by decide +kernel
theorem dX0_netOf_8 : decode cX0_netOf 8 = .ok (.bipush 60, 2) := by decide +kernel
theorem dX0_netOf_10 : decode cX0_netOf 10 = .ok (.if_icmp .ge 32, 3) := by decide +kernel
theorem dX0_netOf_13 : decode cX0_netOf 13 = .ok (.aload_n 0, 1) := by decide +kernel
theorem dX0_netOf_14 : decode cX0_netOf 14 = .ok (.iload 5, 2) := by decide +kernel
theorem dX0_netOf_16 : decode cX0_netOf 16 = .ok (.iload_n 2, 1) := by decide +kernel
theorem dX0_netOf_17 : decode cX0_netOf 17 = .ok (.iload_n 3, 1) := by decide +kernel
theorem dX0_netOf_18 : decode cX0_netOf 18 = .ok (.invokevirtual 36, 3) := by decide +kernel
theorem dX0_netOf_21 : decode cX0_netOf 21 = .ok (.ifCond .eq 15, 3) := by decide +kernel
theorem dX0_netOf_24 : decode cX0_netOf 24 = .ok (.iload 4, 2) := by decide +kernel
theorem dX0_netOf_26 : decode cX0_netOf 26 = .ok (.aload_n 0, 1) := by decide +kernel
theorem dX0_netOf_27 : decode cX0_netOf 27 = .ok (.iload 5, 2) := by decide +kernel
theorem dX0_netOf_29 : decode cX0_netOf 29 = .ok (.iload_n 1, 1) := by decide +kernel
theorem dX0_netOf_30 : decode cX0_netOf 30 = .ok (.invokevirtual 40, 3) := by decide +kernel
theorem dX0_netOf_33 : decode cX0_netOf 33 = .ok (.iadd, 1) := by decide +kernel
theorem dX0_netOf_34 : decode cX0_netOf 34 = .ok (.istore 4, 2) := by decide +kernel
theorem dX0_netOf_36 : decode cX0_netOf 36 = .ok (.iinc 5 1, 3) := by decide +kernel
theorem dX0_netOf_39 : decode cX0_netOf 39 = .ok (.goto (-33), 3) := by decide +kernel
theorem dX0_netOf_42 : decode cX0_netOf 42 = .ok (.iload 4, 2) := by decide +kernel
theorem dX0_netOf_44 : decode cX0_netOf 44 = .ok (.ireturn, 1) := by decide +kernel
theorem dX0_netKnownOf_0 : decode cX0_netKnownOf 0 = .ok (.iconst 0, 1) := by decide +kernel
theorem dX0_netKnownOf_1 : decode cX0_netKnownOf 1 = .ok (.istore 5, 2) := by decide +kernel
theorem dX0_netKnownOf_3 : decode cX0_netKnownOf 3 = .ok (.iconst 0, 1) := by decide +kernel
theorem dX0_netKnownOf_4 : decode cX0_netKnownOf 4 = .ok (.istore 6, 2) := by decide +kernel
theorem dX0_netKnownOf_6 : decode cX0_netKnownOf 6 = .ok (.iload 6, 2) := by decide +kernel
theorem dX0_netKnownOf_8 : decode cX0_netKnownOf 8 = .ok (.bipush 60, 2) := by decide +kernel
theorem dX0_netKnownOf_10 : decode cX0_netKnownOf 10 = .ok (.if_icmp .ge 66, 3) := by decide +kernel
theorem dX0_netKnownOf_13 : decode cX0_netKnownOf 13 = .ok (.aload_n 0, 1) := by decide +kernel
theorem dX0_netKnownOf_14 : decode cX0_netKnownOf 14 = .ok (.getfield 16, 3) := by decide +kernel
theorem dX0_netKnownOf_17 : decode cX0_netKnownOf 17 = .ok (.iload 6, 2) := by decide +kernel
theorem dX0_netKnownOf_19 : decode cX0_netKnownOf 19 = .ok (.bipush 8, 2) := by decide +kernel
theorem dX0_netKnownOf_21 : decode cX0_netKnownOf 21 = .ok (.invokevirtual 24, 3) := by decide +kernel
theorem dX0_netKnownOf_24 : decode cX0_netKnownOf 24 = .ok (.aload_n 0, 1) := by decide +kernel
theorem dX0_netKnownOf_25 : decode cX0_netKnownOf 25 = .ok (.getfield 16, 3) := by decide +kernel
theorem dX0_netKnownOf_28 : decode cX0_netKnownOf 28 = .ok (.iload 6, 2) := by decide +kernel
theorem dX0_netKnownOf_30 : decode cX0_netKnownOf 30 = .ok (.bipush 9, 2) := by decide +kernel
theorem dX0_netKnownOf_32 : decode cX0_netKnownOf 32 = .ok (.invokevirtual 24, 3) := by decide +kernel
theorem dX0_netKnownOf_35 : decode cX0_netKnownOf 35 = .ok (.invokestatic 28, 3) := by decide +kernel
theorem dX0_netKnownOf_38 : decode cX0_netKnownOf 38 = .ok (.istore 7, 2) := by decide +kernel
theorem dX0_netKnownOf_40 : decode cX0_netKnownOf 40 = .ok (.aload_n 0, 1) := by decide +kernel
theorem dX0_netKnownOf_41 : decode cX0_netKnownOf 41 = .ok (.iload 6, 2) := by decide +kernel
theorem dX0_netKnownOf_43 : decode cX0_netKnownOf 43 = .ok (.iload_n 2, 1) := by decide +kernel
theorem dX0_netKnownOf_44 : decode cX0_netKnownOf 44 = .ok (.iload_n 3, 1) := by decide +kernel
theorem dX0_netKnownOf_45 : decode cX0_netKnownOf 45 = .ok (.invokevirtual 36, 3) := by decide +kernel
theorem dX0_netKnownOf_48 : decode cX0_netKnownOf 48 = .ok (.ifCond .eq 22, 3) := by decide +kernel
theorem dX0_netKnownOf_51 : decode cX0_netKnownOf 51 = .ok (.iload 7, 2) := by decide +kernel
theorem dX0_netKnownOf_53 : decode cX0_netKnownOf 53 = .ok (.iload 4, 2) := by decide +kernel
theorem dX0_netKnownOf_55 : decode cX0_netKnownOf 55 = .ok (.if_icmp .gt 15, 3) := by decide +kernel
theorem dX0_netKnownOf_58 : decode cX0_netKnownOf 58 = .ok (.iload 5, 2) := by decide +kernel
theorem dX0_netKnownOf_60 : decode cX0_netKnownOf 60 = .ok (.aload_n 0, 1) := by decide +kernel
theorem dX0_netKnownOf_61 : decode cX0_netKnownOf 61 = .ok (.iload 6, 2) := by decide +kernel
theorem dX0_netKnownOf_63 : decode cX0_netKnownOf 63 = .ok (.iload_n 1, 1) := by decide +kernel
theorem dX0_netKnownOf_64 : decode cX0_netKnownOf 64 = .ok (.invokevirtual 40, 3) := by decide +kernel
theorem dX0_netKnownOf_67 : decode cX0_netKnownOf 67 = .ok (.iadd, 1) := by decide +kernel
theorem dX0_netKnownOf_68 : decode cX0_netKnownOf 68 = .ok (.istore 5, 2) := by decide +kernel
theorem dX0_netKnownOf_70 : decode cX0_netKnownOf 70 = .ok (.iinc 6 1, 3) := by decide +kernel
theorem dX0_netKnownOf_73 : decode cX0_netKnownOf 73 = .ok (.goto (-67), 3) := by decide +kernel
theorem dX0_netKnownOf_76 : decode cX0_netKnownOf 76 = .ok (.iload 5, 2) := by decide +kernel
theorem dX0_netKnownOf_78 : decode cX0_netKnownOf 78 = .ok (.ireturn, 1) := by decide +kernel
theorem dX0_netsInto_0 : decode cX0_netsInto 0 = .ok (.aload_n 1, 1) := by decide +kernel
theorem dX0_netsInto_1 : decode cX0_netsInto 1 = .ok (.iconst 0, 1) := by decide +kernel
theorem dX0_netsInto_2 : decode cX0_netsInto 2 = .ok (.invokestatic 43, 3) := by decide +kernel
theorem dX0_netsInto_5 : decode cX0_netsInto 5 = .ok (.iconst 0, 1) := by decide +kernel
theorem dX0_netsInto_6 : decode cX0_netsInto 6 = .ok (.istore 4, 2) := by decide +kernel
theorem dX0_netsInto_8 : decode cX0_netsInto 8 = .ok (.iload 4, 2) := by decide +kernel
theorem dX0_netsInto_10 : decode cX0_netsInto 10 = .ok (.bipush 60, 2) := by decide +kernel
theorem dX0_netsInto_12 : decode cX0_netsInto 12 = .ok (.if_icmp .ge 70, 3) := by decide +kernel
theorem dX0_netsInto_15 : decode cX0_netsInto 15 = .ok (.aload_n 0, 1) := by decide +kernel
theorem dX0_netsInto_16 : decode cX0_netsInto 16 = .ok (.iload 4, 2) := by decide +kernel
theorem dX0_netsInto_18 : decode cX0_netsInto 18 = .ok (.iload_n 2, 1) := by decide +kernel
theorem dX0_netsInto_19 : decode cX0_netsInto 19 = .ok (.iload_n 3, 1) := by decide +kernel
theorem dX0_netsInto_20 : decode cX0_netsInto 20 = .ok (.invokevirtual 36, 3) := by decide +kernel
theorem dX0_netsInto_23 : decode cX0_netsInto 23 = .ok (.ifCond .eq 53, 3) := by decide +kernel
theorem dX0_netsInto_26 : decode cX0_netsInto 26 = .ok (.aload_n 1, 1) := by decide +kernel
theorem dX0_netsInto_27 : decode cX0_netsInto 27 = .ok (.aload_n 0, 1) := by decide +kernel
theorem dX0_netsInto_28 : decode cX0_netsInto 28 = .ok (.getfield 16, 3) := by decide +kernel
theorem dX0_netsInto_31 : decode cX0_netsInto 31 = .ok (.iload 4, 2) := by decide +kernel
theorem dX0_netsInto_33 : decode cX0_netsInto 33 = .ok (.iconst 1, 1) := by decide +kernel
theorem dX0_netsInto_34 : decode cX0_netsInto 34 = .ok (.invokevirtual 24, 3) := by decide +kernel
theorem dX0_netsInto_37 : decode cX0_netsInto 37 = .ok (.dup2, 1) := by decide +kernel
theorem dX0_netsInto_38 : decode cX0_netsInto 38 = .ok (.iaload, 1) := by decide +kernel
theorem dX0_netsInto_39 : decode cX0_netsInto 39 = .ok (.aload_n 0, 1) := by decide +kernel
theorem dX0_netsInto_40 : decode cX0_netsInto 40 = .ok (.getfield 16, 3) := by decide +kernel
theorem dX0_netsInto_43 : decode cX0_netsInto 43 = .ok (.iload 4, 2) := by decide +kernel
theorem dX0_netsInto_45 : decode cX0_netsInto 45 = .ok (.iconst 3, 1) := by decide +kernel
theorem dX0_netsInto_46 : decode cX0_netsInto 46 = .ok (.invokevirtual 24, 3) := by decide +kernel
theorem dX0_netsInto_49 : decode cX0_netsInto 49 = .ok (.iadd, 1) := by decide +kernel
theorem dX0_netsInto_50 : decode cX0_netsInto 50 = .ok (.iastore, 1) := by decide +kernel
theorem dX0_netsInto_51 : decode cX0_netsInto 51 = .ok (.aload_n 1, 1) := by decide +kernel
theorem dX0_netsInto_52 : decode cX0_netsInto 52 = .ok (.aload_n 0, 1) := by decide +kernel
theorem dX0_netsInto_53 : decode cX0_netsInto 53 = .ok (.getfield 16, 3) := by decide +kernel
theorem dX0_netsInto_56 : decode cX0_netsInto 56 = .ok (.iload 4, 2) := by decide +kernel
theorem dX0_netsInto_58 : decode cX0_netsInto 58 = .ok (.iconst 0, 1) := by decide +kernel
theorem dX0_netsInto_59 : decode cX0_netsInto 59 = .ok (.invokevirtual 24, 3) := by decide +kernel
theorem dX0_netsInto_62 : decode cX0_netsInto 62 = .ok (.dup2, 1) := by decide +kernel
theorem dX0_netsInto_63 : decode cX0_netsInto 63 = .ok (.iaload, 1) := by decide +kernel
theorem dX0_netsInto_64 : decode cX0_netsInto 64 = .ok (.aload_n 0, 1) := by decide +kernel
theorem dX0_netsInto_65 : decode cX0_netsInto 65 = .ok (.getfield 16, 3) := by decide +kernel
theorem dX0_netsInto_68 : decode cX0_netsInto 68 = .ok (.iload 4, 2) := by decide +kernel
theorem dX0_netsInto_70 : decode cX0_netsInto 70 = .ok (.iconst 3, 1) := by decide +kernel
theorem dX0_netsInto_71 : decode cX0_netsInto 71 = .ok (.invokevirtual 24, 3) := by decide +kernel
theorem dX0_netsInto_74 : decode cX0_netsInto 74 = .ok (.isub, 1) := by decide +kernel
theorem dX0_netsInto_75 : decode cX0_netsInto 75 = .ok (.iastore, 1) := by decide +kernel
theorem dX0_netsInto_76 : decode cX0_netsInto 76 = .ok (.iinc 4 1, 3) := by decide +kernel
theorem dX0_netsInto_79 : decode cX0_netsInto 79 = .ok (.goto (-71), 3) := by decide +kernel
theorem dX0_netsInto_82 : decode cX0_netsInto 82 = .ok (.return_, 1) := by decide +kernel
theorem dX0_livingOf_0 : decode cX0_livingOf 0 = .ok (.iconst 0, 1) := by decide +kernel
theorem dX0_livingOf_1 : decode cX0_livingOf 1 = .ok (.istore_n 2, 1) := by decide +kernel
theorem dX0_livingOf_2 : decode cX0_livingOf 2 = .ok (.iconst 0, 1) := by decide +kernel
theorem dX0_livingOf_3 : decode cX0_livingOf 3 = .ok (.istore_n 3, 1) := by decide +kernel
theorem dX0_livingOf_4 : decode cX0_livingOf 4 = .ok (.iload_n 3, 1) := by decide +kernel
theorem dX0_livingOf_5 : decode cX0_livingOf 5 = .ok (.bipush 60, 2) := by decide +kernel
theorem dX0_livingOf_7 : decode cX0_livingOf 7 = .ok (.if_icmp .ge 29, 3) := by decide +kernel
theorem dX0_livingOf_10 : decode cX0_livingOf 10 = .ok (.aload_n 0, 1) := by decide +kernel
theorem dX0_livingOf_11 : decode cX0_livingOf 11 = .ok (.iload_n 3, 1) := by decide +kernel
theorem dX0_livingOf_12 : decode cX0_livingOf 12 = .ok (.invokevirtual 49, 3) := by decide +kernel
theorem dX0_livingOf_15 : decode cX0_livingOf 15 = .ok (.ifCond .eq 15, 3) := by decide +kernel
theorem dX0_livingOf_18 : decode cX0_livingOf 18 = .ok (.aload_n 0, 1) := by decide +kernel
theorem dX0_livingOf_19 : decode cX0_livingOf 19 = .ok (.iload_n 3, 1) := by decide +kernel
theorem dX0_livingOf_20 : decode cX0_livingOf 20 = .ok (.iload_n 1, 1) := by decide +kernel
theorem dX0_livingOf_21 : decode cX0_livingOf 21 = .ok (.invokevirtual 40, 3) := by decide +kernel
theorem dX0_livingOf_24 : decode cX0_livingOf 24 = .ok (.ifCond .eq 6, 3) := by decide +kernel
theorem dX0_livingOf_27 : decode cX0_livingOf 27 = .ok (.iinc 2 1, 3) := by decide +kernel
theorem dX0_livingOf_30 : decode cX0_livingOf 30 = .ok (.iinc 3 1, 3) := by decide +kernel
theorem dX0_livingOf_33 : decode cX0_livingOf 33 = .ok (.goto (-29), 3) := by decide +kernel
theorem dX0_livingOf_36 : decode cX0_livingOf 36 = .ok (.iload_n 2, 1) := by decide +kernel
theorem dX0_livingOf_37 : decode cX0_livingOf 37 = .ok (.ireturn, 1) := by decide +kernel
theorem dX0_inState_0 : decode cX0_inState 0 = .ok (.iconst 0, 1) := by decide +kernel
theorem dX0_inState_1 : decode cX0_inState 1 = .ok (.istore_n 2, 1) := by decide +kernel
theorem dX0_inState_2 : decode cX0_inState 2 = .ok (.iconst 0, 1) := by decide +kernel
theorem dX0_inState_3 : decode cX0_inState 3 = .ok (.istore_n 3, 1) := by decide +kernel
theorem dX0_inState_4 : decode cX0_inState 4 = .ok (.iload_n 3, 1) := by decide +kernel
theorem dX0_inState_5 : decode cX0_inState 5 = .ok (.bipush 60, 2) := by decide +kernel
theorem dX0_inState_7 : decode cX0_inState 7 = .ok (.if_icmp .ge 26, 3) := by decide +kernel
theorem dX0_inState_10 : decode cX0_inState 10 = .ok (.aload_n 0, 1) := by decide +kernel
theorem dX0_inState_11 : decode cX0_inState 11 = .ok (.getfield 16, 3) := by decide +kernel
theorem dX0_inState_14 : decode cX0_inState 14 = .ok (.iload_n 3, 1) := by decide +kernel
theorem dX0_inState_15 : decode cX0_inState 15 = .ok (.bipush 7, 2) := by decide +kernel
theorem dX0_inState_17 : decode cX0_inState 17 = .ok (.invokevirtual 24, 3) := by decide +kernel
theorem dX0_inState_20 : decode cX0_inState 20 = .ok (.iload_n 1, 1) := by decide +kernel
theorem dX0_inState_21 : decode cX0_inState 21 = .ok (.if_icmp .ne 6, 3) := by decide +kernel
theorem dX0_inState_24 : decode cX0_inState 24 = .ok (.iinc 2 1, 3) := by decide +kernel
theorem dX0_inState_27 : decode cX0_inState 27 = .ok (.iinc 3 1, 3) := by decide +kernel
theorem dX0_inState_30 : decode cX0_inState 30 = .ok (.goto (-26), 3) := by decide +kernel
theorem dX0_inState_33 : decode cX0_inState 33 = .ok (.iload_n 2, 1) := by decide +kernel
theorem dX0_inState_34 : decode cX0_inState 34 = .ok (.ireturn, 1) := by decide +kernel
theorem dX1_init_0 : decode cX1_init 0 = .ok (.aload_n 0, 1) := by decide +kernel
theorem dX1_init_1 : decode cX1_init 1 = .ok (.invokespecial 3, 3) := by decide +kernel
theorem dX1_init_4 : decode cX1_init 4 = .ok (.aload_n 0, 1) := by decide +kernel
theorem dX1_init_5 : decode cX1_init 5 = .ok (.iconst 5, 1) := by decide +kernel
theorem dX1_init_6 : decode cX1_init 6 = .ok (.newarray .int, 2) := by decide +kernel
theorem dX1_init_8 : decode cX1_init 8 = .ok (.putfield 9, 3) := by decide +kernel
theorem dX1_init_11 : decode cX1_init 11 = .ok (.aload_n 0, 1) := by decide +kernel
theorem dX1_init_12 : decode cX1_init 12 = .ok (.new 15, 3) := by decide +kernel
theorem dX1_init_15 : decode cX1_init 15 = .ok (.dup, 1) := by decide +kernel
theorem dX1_init_16 : decode cX1_init 16 = .ok (.invokespecial 17, 3) := by decide +kernel
theorem dX1_init_19 : decode cX1_init 19 = .ok (.putfield 18, 3) := by decide +kernel
theorem dX1_init_22 : decode cX1_init 22 = .ok (.aload_n 0, 1) := by decide +kernel
theorem dX1_init_23 : decode cX1_init 23 = .ok (.new 22, 3) := by decide +kernel
theorem dX1_init_26 : decode cX1_init 26 = .ok (.dup, 1) := by decide +kernel
theorem dX1_init_27 : decode cX1_init 27 = .ok (.invokespecial 24, 3) := by decide +kernel
theorem dX1_init_30 : decode cX1_init 30 = .ok (.putfield 25, 3) := by decide +kernel
theorem dX1_init_33 : decode cX1_init 33 = .ok (.aload_n 0, 1) := by decide +kernel
theorem dX1_init_34 : decode cX1_init 34 = .ok (.new 29, 3) := by decide +kernel
theorem dX1_init_37 : decode cX1_init 37 = .ok (.dup, 1) := by decide +kernel
theorem dX1_init_38 : decode cX1_init 38 = .ok (.invokespecial 31, 3) := by decide +kernel
theorem dX1_init_41 : decode cX1_init 41 = .ok (.putfield 32, 3) := by decide +kernel
theorem dX1_init_44 : decode cX1_init 44 = .ok (.aload_n 0, 1) := by decide +kernel
theorem dX1_init_45 : decode cX1_init 45 = .ok (.new 36, 3) := by decide +kernel
theorem dX1_init_48 : decode cX1_init 48 = .ok (.dup, 1) := by decide +kernel
theorem dX1_init_49 : decode cX1_init 49 = .ok (.bipush 20, 2) := by decide +kernel
theorem dX1_init_51 : decode cX1_init 51 = .ok (.bipush 7, 2) := by decide +kernel
theorem dX1_init_53 : decode cX1_init 53 = .ok (.invokespecial 38, 3) := by decide +kernel
theorem dX1_init_56 : decode cX1_init 56 = .ok (.putfield 41, 3) := by decide +kernel
theorem dX1_init_59 : decode cX1_init 59 = .ok (.aload_n 0, 1) := by decide +kernel
theorem dX1_init_60 : decode cX1_init 60 = .ok (.new 36, 3) := by decide +kernel
theorem dX1_init_63 : decode cX1_init 63 = .ok (.dup, 1) := by decide +kernel
theorem dX1_init_64 : decode cX1_init 64 = .ok (.bipush 10, 2) := by decide +kernel
theorem dX1_init_66 : decode cX1_init 66 = .ok (.iconst 3, 1) := by decide +kernel
theorem dX1_init_67 : decode cX1_init 67 = .ok (.invokespecial 38, 3) := by decide +kernel
theorem dX1_init_70 : decode cX1_init 70 = .ok (.putfield 45, 3) := by decide +kernel
theorem dX1_init_73 : decode cX1_init 73 = .ok (.aload_n 0, 1) := by decide +kernel
theorem dX1_init_74 : decode cX1_init 74 = .ok (.new 36, 3) := by decide +kernel
theorem dX1_init_77 : decode cX1_init 77 = .ok (.dup, 1) := by decide +kernel
theorem dX1_init_78 : decode cX1_init 78 = .ok (.sipush 300, 3) := by decide +kernel
theorem dX1_init_81 : decode cX1_init 81 = .ok (.bipush 7, 2) := by decide +kernel
theorem dX1_init_83 : decode cX1_init 83 = .ok (.invokespecial 38, 3) := by decide +kernel
theorem dX1_init_86 : decode cX1_init 86 = .ok (.putfield 48, 3) := by decide +kernel
theorem dX1_init_89 : decode cX1_init 89 = .ok (.aload_n 0, 1) := by decide +kernel
theorem dX1_init_90 : decode cX1_init 90 = .ok (.new 36, 3) := by decide +kernel
theorem dX1_init_93 : decode cX1_init 93 = .ok (.dup, 1) := by decide +kernel
theorem dX1_init_94 : decode cX1_init 94 = .ok (.sipush 200, 3) := by decide +kernel
theorem dX1_init_97 : decode cX1_init 97 = .ok (.bipush 6, 2) := by decide +kernel
theorem dX1_init_99 : decode cX1_init 99 = .ok (.invokespecial 38, 3) := by decide +kernel
theorem dX1_init_102 : decode cX1_init 102 = .ok (.putfield 51, 3) := by decide +kernel
theorem dX1_init_105 : decode cX1_init 105 = .ok (.aload_n 0, 1) := by decide +kernel
theorem dX1_init_106 : decode cX1_init 106 = .ok (.bipush 60, 2) := by decide +kernel
theorem dX1_init_108 : decode cX1_init 108 = .ok (.newarray .long, 2) := by decide +kernel
theorem dX1_init_110 : decode cX1_init 110 = .ok (.putfield 54, 3) := by decide +kernel
theorem dX1_init_113 : decode cX1_init 113 = .ok (.return_, 1) := by decide +kernel
theorem dX1_account_0 : decode cX1_account 0 = .ok (.aload_n 0, 1) := by decide +kernel
theorem dX1_account_1 : decode cX1_account 1 = .ok (.getfield 58, 3) := by decide +kernel
theorem dX1_account_4 : decode cX1_account 4 = .ok (.bipush 14, 2) := by decide +kernel
theorem dX1_account_6 : decode cX1_account 6 = .ok (.idiv, 1) := by decide +kernel
theorem dX1_account_7 : decode cX1_account 7 = .ok (.ireturn, 1) := by decide +kernel
theorem dX1_place_0 : decode cX1_place 0 = .ok (.aload_n 0, 1) := by decide +kernel
theorem dX1_place_1 : decode cX1_place 1 = .ok (.getfield 58, 3) := by decide +kernel
theorem dX1_place_4 : decode cX1_place 4 = .ok (.bipush 14, 2) := by decide +kernel
theorem dX1_place_6 : decode cX1_place 6 = .ok (.irem, 1) := by decide +kernel
theorem dX1_place_7 : decode cX1_place 7 = .ok (.ireturn, 1) := by decide +kernel
theorem dX1_enterOption_0 : decode cX1_enterOption 0 = .ok (.aload_n 0, 1) := by decide +kernel
theorem dX1_enterOption_1 : decode cX1_enterOption 1 = .ok (.getfield 41, 3) := by decide +kernel
theorem dX1_enterOption_4 : decode cX1_enterOption 4 = .ok (.getfield 62, 3) := by decide +kernel
theorem dX1_enterOption_7 : decode cX1_enterOption 7 = .ok (.istore 6, 2) := by decide +kernel
theorem dX1_enterOption_9 : decode cX1_enterOption 9 = .ok (.aload_n 0, 1) := by decide +kernel
theorem dX1_enterOption_10 : decode cX1_enterOption 10 = .ok (.getfield 41, 3) := by decide +kernel
theorem dX1_enterOption_13 : decode cX1_enterOption 13 = .ok (.dup, 1) := by decide +kernel
theorem dX1_enterOption_14 : decode cX1_enterOption 14 = .ok (.getfield 62, 3) := by decide +kernel
theorem dX1_enterOption_17 : decode cX1_enterOption 17 = .ok (.iconst 1, 1) := by decide +kernel
theorem dX1_enterOption_18 : decode cX1_enterOption 18 = .ok (.iadd, 1) := by decide +kernel
theorem dX1_enterOption_19 : decode cX1_enterOption 19 = .ok (.putfield 62, 3) := by decide +kernel
theorem dX1_enterOption_22 : decode cX1_enterOption 22 = .ok (.aload_n 0, 1) := by decide +kernel
theorem dX1_enterOption_23 : decode cX1_enterOption 23 = .ok (.getfield 41, 3) := by decide +kernel
theorem dX1_enterOption_26 : decode cX1_enterOption 26 = .ok (.iload 6, 2) := by decide +kernel
theorem dX1_enterOption_28 : decode cX1_enterOption 28 = .ok (.iconst 0, 1) := by decide +kernel
theorem dX1_enterOption_29 : decode cX1_enterOption 29 = .ok (.iload_n 1, 1) := by decide +kernel
theorem dX1_enterOption_30 : decode cX1_enterOption 30 = .ok (.invokevirtual 65, 3) := by decide +kernel
theorem dX1_enterOption_33 : decode cX1_enterOption 33 = .ok (.aload_n 0, 1) := by decide +kernel
theorem dX1_enterOption_34 : decode cX1_enterOption 34 = .ok (.getfield 41, 3) := by decide +kernel
theorem dX1_enterOption_37 : decode cX1_enterOption 37 = .ok (.iload 6, 2) := by decide +kernel
theorem dX1_enterOption_39 : decode cX1_enterOption 39 = .ok (.iconst 1, 1) := by decide +kernel
theorem dX1_enterOption_40 : decode cX1_enterOption 40 = .ok (.iload_n 2, 1) := by decide +kernel
theorem dX1_enterOption_41 : decode cX1_enterOption 41 = .ok (.invokevirtual 65, 3) := by decide +kernel
theorem dX1_enterOption_44 : decode cX1_enterOption 44 = .ok (.aload_n 0, 1) := by decide +kernel
theorem dX1_enterOption_45 : decode cX1_enterOption 45 = .ok (.getfield 41, 3) := by decide +kernel
theorem dX1_enterOption_48 : decode cX1_enterOption 48 = .ok (.iload 6, 2) := by decide +kernel
theorem dX1_enterOption_50 : decode cX1_enterOption 50 = .ok (.iconst 2, 1) := by decide +kernel
theorem dX1_enterOption_51 : decode cX1_enterOption 51 = .ok (.iload_n 3, 1) := by decide +kernel
theorem dX1_enterOption_52 : decode cX1_enterOption 52 = .ok (.invokevirtual 65, 3) := by decide +kernel
theorem dX1_enterOption_55 : decode cX1_enterOption 55 = .ok (.aload_n 0, 1) := by decide +kernel
theorem dX1_enterOption_56 : decode cX1_enterOption 56 = .ok (.getfield 41, 3) := by decide +kernel
theorem dX1_enterOption_59 : decode cX1_enterOption 59 = .ok (.iload 6, 2) := by decide +kernel
theorem dX1_enterOption_61 : decode cX1_enterOption 61 = .ok (.iconst 3, 1) := by decide +kernel
theorem dX1_enterOption_62 : decode cX1_enterOption 62 = .ok (.iload 4, 2) := by decide +kernel
theorem dX1_enterOption_64 : decode cX1_enterOption 64 = .ok (.sipush 10000, 3) := by decide +kernel
theorem dX1_enterOption_67 : decode cX1_enterOption 67 = .ok (.idiv, 1) := by decide +kernel
theorem dX1_enterOption_68 : decode cX1_enterOption 68 = .ok (.invokevirtual 65, 3) := by decide +kernel
theorem dX1_enterOption_71 : decode cX1_enterOption 71 = .ok (.aload_n 0, 1) := by decide +kernel
theorem dX1_enterOption_72 : decode cX1_enterOption 72 = .ok (.getfield 41, 3) := by decide +kernel
theorem dX1_enterOption_75 : decode cX1_enterOption 75 = .ok (.iload 6, 2) := by decide +kernel
theorem dX1_enterOption_77 : decode cX1_enterOption 77 = .ok (.iconst 4, 1) := by decide +kernel
theorem dX1_enterOption_78 : decode cX1_enterOption 78 = .ok (.iload 4, 2) := by decide +kernel
theorem dX1_enterOption_80 : decode cX1_enterOption 80 = .ok (.sipush 10000, 3) := by decide +kernel
theorem dX1_enterOption_83 : decode cX1_enterOption 83 = .ok (.irem, 1) := by decide +kernel
theorem dX1_enterOption_84 : decode cX1_enterOption 84 = .ok (.invokevirtual 65, 3) := by decide +kernel
theorem dX1_enterOption_87 : decode cX1_enterOption 87 = .ok (.aload_n 0, 1) := by decide +kernel
theorem dX1_enterOption_88 : decode cX1_enterOption 88 = .ok (.getfield 41, 3) := by decide +kernel
theorem dX1_enterOption_91 : decode cX1_enterOption 91 = .ok (.iload 6, 2) := by decide +kernel
theorem dX1_enterOption_93 : decode cX1_enterOption 93 = .ok (.iconst 5, 1) := by decide +kernel
theorem dX1_enterOption_94 : decode cX1_enterOption 94 = .ok (.iload 5, 2) := by decide +kernel
theorem dX1_enterOption_96 : decode cX1_enterOption 96 = .ok (.invokevirtual 65, 3) := by decide +kernel
theorem dX1_enterOption_99 : decode cX1_enterOption 99 = .ok (.aload_n 0, 1) := by decide +kernel
theorem dX1_enterOption_100 : decode cX1_enterOption 100 = .ok (.getfield 41, 3) := by decide +kernel
theorem dX1_enterOption_103 : decode cX1_enterOption 103 = .ok (.iload 6, 2) := by decide +kernel
theorem dX1_enterOption_105 : decode cX1_enterOption 105 = .ok (.bipush 6, 2) := by decide +kernel
theorem dX1_enterOption_107 : decode cX1_enterOption 107 = .ok (.iconst 0, 1) := by decide +kernel
theorem dX1_enterOption_108 : decode cX1_enterOption 108 = .ok (.invokevirtual 65, 3) := by decide +kernel
theorem dX1_enterOption_111 : decode cX1_enterOption 111 = .ok (.iload 6, 2) := by decide +kernel
theorem dX1_enterOption_113 : decode cX1_enterOption 113 = .ok (.ireturn, 1) := by decide +kernel
theorem dX1_declareInto_0 : decode cX1_declareInto 0 = .ok (.aload_n 0, 1) := by decide +kernel
theorem dX1_declareInto_1 : decode cX1_declareInto 1 = .ok (.getfield 25, 3) := by decide +kernel
theorem dX1_declareInto_4 : decode cX1_declareInto 4 = .ok (.iload_n 2, 1) := by decide +kernel
theorem dX1_declareInto_5 : decode cX1_declareInto 5 = .ok (.aload_n 0, 1) := by decide +kernel
theorem dX1_declareInto_6 : decode cX1_declareInto 6 = .ok (.getfield 41, 3) := by decide +kernel
theorem dX1_declareInto_9 : decode cX1_declareInto 9 = .ok (.iload_n 1, 1) := by decide +kernel
theorem dX1_declareInto_10 : decode cX1_declareInto 10 = .ok (.iconst 1, 1) := by decide +kernel
theorem dX1_declareInto_11 : decode cX1_declareInto 11 = .ok (.invokevirtual 69, 3) := by decide +kernel
theorem dX1_declareInto_14 : decode cX1_declareInto 14 = .ok (.aload_n 0, 1) := by decide +kernel
theorem dX1_declareInto_15 : decode cX1_declareInto 15 = .ok (.getfield 41, 3) := by decide +kernel
theorem dX1_declareInto_18 : decode cX1_declareInto 18 = .ok (.iload_n 1, 1) := by decide +kernel
theorem dX1_declareInto_19 : decode cX1_declareInto 19 = .ok (.iconst 0, 1) := by decide +kernel
theorem dX1_declareInto_20 : decode cX1_declareInto 20 = .ok (.invokevirtual 69, 3) := by decide +kernel
theorem dX1_declareInto_23 : decode cX1_declareInto 23 = .ok (.aload_n 0, 1) := by decide +kernel
theorem dX1_declareInto_24 : decode cX1_declareInto 24 = .ok (.getfield 41, 3) := by decide +kernel
theorem dX1_declareInto_27 : decode cX1_declareInto 27 = .ok (.iload_n 1, 1) := by decide +kernel
theorem dX1_declareInto_28 : decode cX1_declareInto 28 = .ok (.iconst 2, 1) := by decide +kernel
theorem dX1_declareInto_29 : decode cX1_declareInto 29 = .ok (.invokevirtual 69, 3) := by decide +kernel
theorem dX1_declareInto_32 : decode cX1_declareInto 32 = .ok (.aload_n 0, 1) := by decide +kernel
theorem dX1_declareInto_33 : decode cX1_declareInto 33 = .ok (.getfield 41, 3) := by decide +kernel
theorem dX1_declareInto_36 : decode cX1_declareInto 36 = .ok (.iload_n 1, 1) := by decide +kernel
theorem dX1_declareInto_37 : decode cX1_declareInto 37 = .ok (.iconst 3, 1) := by decide +kernel
theorem dX1_declareInto_38 : decode cX1_declareInto 38 = .ok (.invokevirtual 69, 3) := by decide +kernel
theorem dX1_declareInto_41 : decode cX1_declareInto 41 = .ok (.aload_n 0, 1) := by decide +kernel
theorem dX1_declareInto_42 : decode cX1_declareInto 42 = .ok (.getfield 41, 3) := by decide +kernel
theorem dX1_declareInto_45 : decode cX1_declareInto 45 = .ok (.iload_n 1, 1) := by decide +kernel
theorem dX1_declareInto_46 : decode cX1_declareInto 46 = .ok (.iconst 4, 1) := by decide +kernel
theorem dX1_declareInto_47 : decode cX1_declareInto 47 = .ok (.invokevirtual 69, 3) := by decide +kernel
theorem dX1_declareInto_50 : decode cX1_declareInto 50 = .ok (.aload_n 0, 1) := by decide +kernel
theorem dX1_declareInto_51 : decode cX1_declareInto 51 = .ok (.getfield 58, 3) := by decide +kernel
theorem dX1_declareInto_54 : decode cX1_declareInto 54 = .ok (.invokevirtual 73, 3) := by decide +kernel
theorem dX1_declareInto_57 : decode cX1_declareInto 57 = .ok (.aload_n 0, 1) := by decide +kernel
theorem dX1_declareInto_58 : decode cX1_declareInto 58 = .ok (.getfield 25, 3) := by decide +kernel
theorem dX1_declareInto_61 : decode cX1_declareInto 61 = .ok (.iload_n 2, 1) := by decide +kernel
theorem dX1_declareInto_62 : decode cX1_declareInto 62 = .ok (.aload_n 0, 1) := by decide +kernel
theorem dX1_declareInto_63 : decode cX1_declareInto 63 = .ok (.getfield 58, 3) := by decide +kernel
theorem dX1_declareInto_66 : decode cX1_declareInto 66 = .ok (.invokevirtual 77, 3) := by decide +kernel
theorem dX1_declareInto_69 : decode cX1_declareInto 69 = .ok (.aload_n 0, 1) := by decide +kernel
theorem dX1_declareInto_70 : decode cX1_declareInto 70 = .ok (.getfield 41, 3) := by decide +kernel
theorem dX1_declareInto_73 : decode cX1_declareInto 73 = .ok (.iload_n 1, 1) := by decide +kernel
theorem dX1_declareInto_74 : decode cX1_declareInto 74 = .ok (.bipush 6, 2) := by decide +kernel
theorem dX1_declareInto_76 : decode cX1_declareInto 76 = .ok (.iconst 1, 1) := by decide +kernel
theorem dX1_declareInto_77 : decode cX1_declareInto 77 = .ok (.invokevirtual 65, 3) := by decide +kernel
theorem dX1_declareInto_80 : decode cX1_declareInto 80 = .ok (.return_, 1) := by decide +kernel
theorem dX1_enterDividend_0 : decode cX1_enterDividend 0 = .ok (.aload_n 0, 1) := by decide +kernel
theorem dX1_enterDividend_1 : decode cX1_enterDividend 1 = .ok (.getfield 45, 3) := by decide +kernel
theorem dX1_enterDividend_4 : decode cX1_enterDividend 4 = .ok (.getfield 62, 3) := by decide +kernel
theorem dX1_enterDividend_7 : decode cX1_enterDividend 7 = .ok (.istore 4, 2) := by decide +kernel
theorem dX1_enterDividend_9 : decode cX1_enterDividend 9 = .ok (.aload_n 0, 1) := by decide +kernel
theorem dX1_enterDividend_10 : decode cX1_enterDividend 10 = .ok (.getfield 45, 3) := by decide +kernel
theorem dX1_enterDividend_13 : decode cX1_enterDividend 13 = .ok (.dup, 1) := by decide +kernel
theorem dX1_enterDividend_14 : decode cX1_enterDividend 14 = .ok (.getfield 62, 3) := by decide +kernel
theorem dX1_enterDividend_17 : decode cX1_enterDividend 17 = .ok (.iconst 1, 1) := by decide +kernel
theorem dX1_enterDividend_18 : decode cX1_enterDividend 18 = .ok (.iadd, 1) := by decide +kernel
theorem dX1_enterDividend_19 : decode cX1_enterDividend 19 = .ok (.putfield 62, 3) := by decide +kernel
theorem dX1_enterDividend_22 : decode cX1_enterDividend 22 = .ok (.aload_n 0, 1) := by decide +kernel
theorem dX1_enterDividend_23 : decode cX1_enterDividend 23 = .ok (.getfield 45, 3) := by decide +kernel
theorem dX1_enterDividend_26 : decode cX1_enterDividend 26 = .ok (.iload 4, 2) := by decide +kernel
theorem dX1_enterDividend_28 : decode cX1_enterDividend 28 = .ok (.iconst 0, 1) := by decide +kernel
theorem dX1_enterDividend_29 : decode cX1_enterDividend 29 = .ok (.iload_n 1, 1) := by decide +kernel
theorem dX1_enterDividend_30 : decode cX1_enterDividend 30 = .ok (.invokevirtual 65, 3) := by decide +kernel
theorem dX1_enterDividend_33 : decode cX1_enterDividend 33 = .ok (.aload_n 0, 1) := by decide +kernel
theorem dX1_enterDividend_34 : decode cX1_enterDividend 34 = .ok (.getfield 45, 3) := by decide +kernel
theorem dX1_enterDividend_37 : decode cX1_enterDividend 37 = .ok (.iload 4, 2) := by decide +kernel
theorem dX1_enterDividend_39 : decode cX1_enterDividend 39 = .ok (.iconst 1, 1) := by decide +kernel
theorem dX1_enterDividend_40 : decode cX1_enterDividend 40 = .ok (.iload_n 2, 1) := by decide +kernel
theorem dX1_enterDividend_41 : decode cX1_enterDividend 41 = .ok (.invokevirtual 65, 3) := by decide +kernel
theorem dX1_enterDividend_44 : decode cX1_enterDividend 44 = .ok (.aload_n 0, 1) := by decide +kernel
theorem dX1_enterDividend_45 : decode cX1_enterDividend 45 = .ok (.getfield 45, 3) := by decide +kernel
theorem dX1_enterDividend_48 : decode cX1_enterDividend 48 = .ok (.iload 4, 2) := by decide +kernel
theorem dX1_enterDividend_50 : decode cX1_enterDividend 50 = .ok (.iconst 2, 1) := by decide +kernel
theorem dX1_enterDividend_51 : decode cX1_enterDividend 51 = .ok (.iload_n 3, 1) := by decide +kernel
theorem dX1_enterDividend_52 : decode cX1_enterDividend 52 = .ok (.invokevirtual 65, 3) := by decide +kernel
theorem dX1_enterDividend_55 : decode cX1_enterDividend 55 = .ok (.aload_n 0, 1) := by decide +kernel
theorem dX1_enterDividend_56 : decode cX1_enterDividend 56 = .ok (.getfield 45, 3) := by decide +kernel
theorem dX1_enterDividend_59 : decode cX1_enterDividend 59 = .ok (.getfield 62, 3) := by decide +kernel
theorem dX1_enterDividend_62 : decode cX1_enterDividend 62 = .ok (.ireturn, 1) := by decide +kernel
theorem dX1_takeOver_0 : decode cX1_takeOver 0 = .ok (.aload_n 0, 1) := by decide +kernel
theorem dX1_takeOver_1 : decode cX1_takeOver 1 = .ok (.aload_n 1, 1) := by decide +kernel
theorem dX1_takeOver_2 : decode cX1_takeOver 2 = .ok (.getfield 58, 3) := by decide +kernel
theorem dX1_takeOver_5 : decode cX1_takeOver 5 = .ok (.putfield 58, 3) := by decide +kernel
theorem dX1_takeOver_8 : decode cX1_takeOver 8 = .ok (.aload_n 0, 1) := by decide +kernel
theorem dX1_takeOver_9 : decode cX1_takeOver 9 = .ok (.aload_n 1, 1) := by decide +kernel
theorem dX1_takeOver_10 : decode cX1_takeOver 10 = .ok (.getfield 80, 3) := by decide +kernel
theorem dX1_takeOver_13 : decode cX1_takeOver 13 = .ok (.putfield 80, 3) := by decide +kernel
theorem dX1_takeOver_16 : decode cX1_takeOver 16 = .ok (.aload_n 1, 1) := by decide +kernel
theorem dX1_takeOver_17 : decode cX1_takeOver 17 = .ok (.getfield 9, 3) := by decide +kernel
theorem dX1_takeOver_20 : decode cX1_takeOver 20 = .ok (.iconst 0, 1) := by decide +kernel
theorem dX1_takeOver_21 : decode cX1_takeOver 21 = .ok (.aload_n 0, 1) := by decide +kernel
theorem dX1_takeOver_22 : decode cX1_takeOver 22 = .ok (.getfield 9, 3) := by decide +kernel
theorem dX1_takeOver_25 : decode cX1_takeOver 25 = .ok (.iconst 0, 1) := by decide +kernel
theorem dX1_takeOver_26 : decode cX1_takeOver 26 = .ok (.iconst 5, 1) := by decide +kernel
theorem dX1_takeOver_27 : decode cX1_takeOver 27 = .ok (.invokestatic 83, 3) := by decide +kernel
theorem dX1_takeOver_30 : decode cX1_takeOver 30 = .ok (.aload_n 0, 1) := by decide +kernel
theorem dX1_takeOver_31 : decode cX1_takeOver 31 = .ok (.getfield 18, 3) := by decide +kernel
theorem dX1_takeOver_34 : decode cX1_takeOver 34 = .ok (.aload_n 1, 1) := by decide +kernel
theorem dX1_takeOver_35 : decode cX1_takeOver 35 = .ok (.getfield 18, 3) := by decide +kernel
theorem dX1_takeOver_38 : decode cX1_takeOver 38 = .ok (.invokevirtual 89, 3) := by decide +kernel
theorem dX1_takeOver_41 : decode cX1_takeOver 41 = .ok (.aload_n 0, 1) := by decide +kernel
theorem dX1_takeOver_42 : decode cX1_takeOver 42 = .ok (.getfield 25, 3) := by decide +kernel
theorem dX1_takeOver_45 : decode cX1_takeOver 45 = .ok (.getfield 93, 3) := by decide +kernel
theorem dX1_takeOver_48 : decode cX1_takeOver 48 = .ok (.aload_n 1, 1) := by decide +kernel
theorem dX1_takeOver_49 : decode cX1_takeOver 49 = .ok (.getfield 25, 3) := by decide +kernel
theorem dX1_takeOver_52 : decode cX1_takeOver 52 = .ok (.getfield 93, 3) := by decide +kernel
theorem dX1_takeOver_55 : decode cX1_takeOver 55 = .ok (.invokevirtual 96, 3) := by decide +kernel
theorem dX1_takeOver_58 : decode cX1_takeOver 58 = .ok (.aload_n 0, 1) := by decide +kernel
theorem dX1_takeOver_59 : decode cX1_takeOver 59 = .ok (.getfield 32, 3) := by decide +kernel
theorem dX1_takeOver_62 : decode cX1_takeOver 62 = .ok (.aload_n 1, 1) := by decide +kernel
theorem dX1_takeOver_63 : decode cX1_takeOver 63 = .ok (.getfield 32, 3) := by decide +kernel
theorem dX1_takeOver_66 : decode cX1_takeOver 66 = .ok (.invokevirtual 99, 3) := by decide +kernel
theorem dX1_takeOver_69 : decode cX1_takeOver 69 = .ok (.aload_n 0, 1) := by decide +kernel
theorem dX1_takeOver_70 : decode cX1_takeOver 70 = .ok (.getfield 41, 3) := by decide +kernel
theorem dX1_takeOver_73 : decode cX1_takeOver 73 = .ok (.aload_n 1, 1) := by decide +kernel
theorem dX1_takeOver_74 : decode cX1_takeOver 74 = .ok (.getfield 41, 3) := by decide +kernel
theorem dX1_takeOver_77 : decode cX1_takeOver 77 = .ok (.invokevirtual 96, 3) := by decide +kernel
theorem dX1_takeOver_80 : decode cX1_takeOver 80 = .ok (.aload_n 0, 1) := by decide +kernel
theorem dX1_takeOver_81 : decode cX1_takeOver 81 = .ok (.getfield 45, 3) := by decide +kernel
theorem dX1_takeOver_84 : decode cX1_takeOver 84 = .ok (.aload_n 1, 1) := by decide +kernel
theorem dX1_takeOver_85 : decode cX1_takeOver 85 = .ok (.getfield 45, 3) := by decide +kernel
theorem dX1_takeOver_88 : decode cX1_takeOver 88 = .ok (.invokevirtual 96, 3) := by decide +kernel
theorem dX1_takeOver_91 : decode cX1_takeOver 91 = .ok (.aload_n 0, 1) := by decide +kernel
theorem dX1_takeOver_92 : decode cX1_takeOver 92 = .ok (.getfield 48, 3) := by decide +kernel
theorem dX1_takeOver_95 : decode cX1_takeOver 95 = .ok (.aload_n 1, 1) := by decide +kernel
theorem dX1_takeOver_96 : decode cX1_takeOver 96 = .ok (.getfield 48, 3) := by decide +kernel
theorem dX1_takeOver_99 : decode cX1_takeOver 99 = .ok (.invokevirtual 96, 3) := by decide +kernel
theorem dX1_takeOver_102 : decode cX1_takeOver 102 = .ok (.aload_n 0, 1) := by decide +kernel
theorem dX1_takeOver_103 : decode cX1_takeOver 103 = .ok (.getfield 51, 3) := by decide +kernel
theorem dX1_takeOver_106 : decode cX1_takeOver 106 = .ok (.aload_n 1, 1) := by decide +kernel
theorem dX1_takeOver_107 : decode cX1_takeOver 107 = .ok (.getfield 51, 3) := by decide +kernel
theorem dX1_takeOver_110 : decode cX1_takeOver 110 = .ok (.invokevirtual 96, 3) := by decide +kernel
theorem dX1_takeOver_113 : decode cX1_takeOver 113 = .ok (.aload_n 1, 1) := by decide +kernel
theorem dX1_takeOver_114 : decode cX1_takeOver 114 = .ok (.getfield 54, 3) := by decide +kernel
theorem dX1_takeOver_117 : decode cX1_takeOver 117 = .ok (.iconst 0, 1) := by decide +kernel
theorem dX1_takeOver_118 : decode cX1_takeOver 118 = .ok (.aload_n 0, 1) := by decide +kernel
theorem dX1_takeOver_119 : decode cX1_takeOver 119 = .ok (.getfield 54, 3) := by decide +kernel
theorem dX1_takeOver_122 : decode cX1_takeOver 122 = .ok (.iconst 0, 1) := by decide +kernel
theorem dX1_takeOver_123 : decode cX1_takeOver 123 = .ok (.bipush 60, 2) := by decide +kernel
theorem dX1_takeOver_125 : decode cX1_takeOver 125 = .ok (.invokestatic 83, 3) := by decide +kernel
theorem dX1_takeOver_128 : decode cX1_takeOver 128 = .ok (.aload_n 0, 1) := by decide +kernel
theorem dX1_takeOver_129 : decode cX1_takeOver 129 = .ok (.aload_n 1, 1) := by decide +kernel
theorem dX1_takeOver_130 : decode cX1_takeOver 130 = .ok (.getfield 102, 3) := by decide +kernel
theorem dX1_takeOver_133 : decode cX1_takeOver 133 = .ok (.putfield 102, 3) := by decide +kernel
theorem dX1_takeOver_136 : decode cX1_takeOver 136 = .ok (.aload_n 0, 1) := by decide +kernel
theorem dX1_takeOver_137 : decode cX1_takeOver 137 = .ok (.aload_n 1, 1) := by decide +kernel
theorem dX1_takeOver_138 : decode cX1_takeOver 138 = .ok (.getfield 106, 3) := by decide +kernel
theorem dX1_takeOver_141 : decode cX1_takeOver 141 = .ok (.putfield 106, 3) := by decide +kernel
theorem dX1_takeOver_144 : decode cX1_takeOver 144 = .ok (.return_, 1) := by decide +kernel
theorem dX2_init_0 : decode cX2_init 0 = .ok (.aload_n 0, 1) := by decide +kernel
theorem dX2_init_1 : decode cX2_init 1 = .ok (.invokespecial 3, 3) := by decide +kernel
theorem dX2_init_4 : decode cX2_init 4 = .ok (.return_, 1) := by decide +kernel
theorem dX2_judgeOpen_0 : decode cX2_judgeOpen 0 = .ok (.aload_n 1, 1) := by decide +kernel
theorem dX2_judgeOpen_1 : decode cX2_judgeOpen 1 = .ok (.getfield 9, 3) := by decide +kernel
theorem dX2_judgeOpen_4 : decode cX2_judgeOpen 4 = .ok (.astore_n 2, 1) := by decide +kernel
theorem dX2_judgeOpen_5 : decode cX2_judgeOpen 5 = .ok (.iconst 0, 1) := by decide +kernel
theorem dX2_judgeOpen_6 : decode cX2_judgeOpen 6 = .ok (.istore_n 3, 1) := by decide +kernel
theorem dX2_judgeOpen_7 : decode cX2_judgeOpen 7 = .ok (.iload_n 3, 1) := by decide +kernel
theorem dX2_judgeOpen_8 : decode cX2_judgeOpen 8 = .ok (.bipush 60, 2) := by decide +kernel
theorem dX2_judgeOpen_10 : decode cX2_judgeOpen 10 = .ok (.if_icmp .ge 81, 3) := by decide +kernel
theorem dX2_judgeOpen_13 : decode cX2_judgeOpen 13 = .ok (.aload_n 2, 1) := by decide +kernel
theorem dX2_judgeOpen_14 : decode cX2_judgeOpen 14 = .ok (.iload_n 3, 1) := by decide +kernel
theorem dX2_judgeOpen_15 : decode cX2_judgeOpen 15 = .ok (.bipush 7, 2) := by decide +kernel
theorem dX2_judgeOpen_17 : decode cX2_judgeOpen 17 = .ok (.invokevirtual 17, 3) := by decide +kernel
theorem dX2_judgeOpen_20 : decode cX2_judgeOpen 20 = .ok (.ifCond .ne 20, 3) := by decide +kernel
theorem dX2_judgeOpen_23 : decode cX2_judgeOpen 23 = .ok (.aload_n 2, 1) := by decide +kernel
theorem dX2_judgeOpen_24 : decode cX2_judgeOpen 24 = .ok (.iload_n 3, 1) := by decide +kernel
theorem dX2_judgeOpen_25 : decode cX2_judgeOpen 25 = .ok (.iconst 5, 1) := by decide +kernel
theorem dX2_judgeOpen_26 : decode cX2_judgeOpen 26 = .ok (.invokevirtual 17, 3) := by decide +kernel
theorem dX2_judgeOpen_29 : decode cX2_judgeOpen 29 = .ok (.aload_n 1, 1) := by decide +kernel
theorem dX2_judgeOpen_30 : decode cX2_judgeOpen 30 = .ok (.getfield 21, 3) := by decide +kernel
theorem dX2_judgeOpen_33 : decode cX2_judgeOpen 33 = .ok (.if_icmp .ge 7, 3) := by decide +kernel
theorem dX2_judgeOpen_36 : decode cX2_judgeOpen 36 = .ok (.iconst 1, 1) := by decide +kernel
theorem dX2_judgeOpen_37 : decode cX2_judgeOpen 37 = .ok (.goto 4, 3) := by decide +kernel
theorem dX2_judgeOpen_40 : decode cX2_judgeOpen 40 = .ok (.iconst 0, 1) := by decide +kernel
theorem dX2_judgeOpen_41 : decode cX2_judgeOpen 41 = .ok (.istore 4, 2) := by decide +kernel
theorem dX2_judgeOpen_43 : decode cX2_judgeOpen 43 = .ok (.iload 4, 2) := by decide +kernel
theorem dX2_judgeOpen_45 : decode cX2_judgeOpen 45 = .ok (.ifCond .eq 40, 3) := by decide +kernel
theorem dX2_judgeOpen_48 : decode cX2_judgeOpen 48 = .ok (.aload_n 1, 1) := by decide +kernel
theorem dX2_judgeOpen_49 : decode cX2_judgeOpen 49 = .ok (.getfield 25, 3) := by decide +kernel
theorem dX2_judgeOpen_52 : decode cX2_judgeOpen 52 = .ok (.iconst 4, 1) := by decide +kernel
theorem dX2_judgeOpen_53 : decode cX2_judgeOpen 53 = .ok (.aload_n 1, 1) := by decide +kernel
theorem dX2_judgeOpen_54 : decode cX2_judgeOpen 54 = .ok (.aload_n 2, 1) := by decide +kernel
theorem dX2_judgeOpen_55 : decode cX2_judgeOpen 55 = .ok (.iload_n 3, 1) := by decide +kernel
theorem dX2_judgeOpen_56 : decode cX2_judgeOpen 56 = .ok (.iconst 2, 1) := by decide +kernel
theorem dX2_judgeOpen_57 : decode cX2_judgeOpen 57 = .ok (.invokevirtual 17, 3) := by decide +kernel
theorem dX2_judgeOpen_60 : decode cX2_judgeOpen 60 = .ok (.iload_n 3, 1) := by decide +kernel
theorem dX2_judgeOpen_61 : decode cX2_judgeOpen 61 = .ok (.invokevirtual 29, 3) := by decide +kernel
theorem dX2_judgeOpen_64 : decode cX2_judgeOpen 64 = .ok (.ifCond .eq 15, 3) := by decide +kernel
theorem dX2_judgeOpen_67 : decode cX2_judgeOpen 67 = .ok (.aload_n 2, 1) := by decide +kernel
theorem dX2_judgeOpen_68 : decode cX2_judgeOpen 68 = .ok (.iload_n 3, 1) := by decide +kernel
theorem dX2_judgeOpen_69 : decode cX2_judgeOpen 69 = .ok (.aload_n 1, 1) := by decide +kernel
theorem dX2_judgeOpen_70 : decode cX2_judgeOpen 70 = .ok (.getfield 21, 3) := by decide +kernel
theorem dX2_judgeOpen_73 : decode cX2_judgeOpen 73 = .ok (.invokevirtual 35, 3) := by decide +kernel
theorem dX2_judgeOpen_76 : decode cX2_judgeOpen 76 = .ok (.goto 9, 3) := by decide +kernel
theorem dX2_judgeOpen_79 : decode cX2_judgeOpen 79 = .ok (.aload_n 2, 1) := by decide +kernel
theorem dX2_judgeOpen_80 : decode cX2_judgeOpen 80 = .ok (.iload_n 3, 1) := by decide +kernel
theorem dX2_judgeOpen_81 : decode cX2_judgeOpen 81 = .ok (.iconst 3, 1) := by decide +kernel
theorem dX2_judgeOpen_82 : decode cX2_judgeOpen 82 = .ok (.invokevirtual 39, 3) := by decide +kernel
theorem dX2_judgeOpen_85 : decode cX2_judgeOpen 85 = .ok (.iinc 3 1, 3) := by decide +kernel
theorem dX2_judgeOpen_88 : decode cX2_judgeOpen 88 = .ok (.goto (-81), 3) := by decide +kernel
theorem dX2_judgeOpen_91 : decode cX2_judgeOpen 91 = .ok (.return_, 1) := by decide +kernel
theorem dX2_payDividends_0 : decode cX2_payDividends 0 = .ok (.aload_n 1, 1) := by decide +kernel
theorem dX2_payDividends_1 : decode cX2_payDividends 1 = .ok (.getfield 42, 3) := by decide +kernel
theorem dX2_payDividends_4 : decode cX2_payDividends 4 = .ok (.astore_n 2, 1) := by decide +kernel
theorem dX2_payDividends_5 : decode cX2_payDividends 5 = .ok (.iconst 0, 1) := by decide +kernel
theorem dX2_payDividends_6 : decode cX2_payDividends 6 = .ok (.istore_n 3, 1) := by decide +kernel
theorem dX2_payDividends_7 : decode cX2_payDividends 7 = .ok (.aload_n 2, 1) := by decide +kernel
theorem dX2_payDividends_8 : decode cX2_payDividends 8 = .ok (.getfield 46, 3) := by decide +kernel
theorem dX2_payDividends_11 : decode cX2_payDividends 11 = .ok (.bipush 10, 2) := by decide +kernel
theorem dX2_payDividends_13 : decode cX2_payDividends 13 = .ok (.invokestatic 51, 3) := by decide +kernel
theorem dX2_payDividends_16 : decode cX2_payDividends 16 = .ok (.istore 4, 2) := by decide +kernel
theorem dX2_payDividends_18 : decode cX2_payDividends 18 = .ok (.iconst 0, 1) := by decide +kernel
theorem dX2_payDividends_19 : decode cX2_payDividends 19 = .ok (.istore 5, 2) := by decide +kernel
theorem dX2_payDividends_21 : decode cX2_payDividends 21 = .ok (.iload 5, 2) := by decide +kernel
theorem dX2_payDividends_23 : decode cX2_payDividends 23 = .ok (.iload 4, 2) := by decide +kernel
theorem dX2_payDividends_25 : decode cX2_payDividends 25 = .ok (.if_icmp .ge 93, 3) := by decide +kernel
theorem dX2_payDividends_28 : decode cX2_payDividends 28 = .ok (.aload_n 2, 1) := by decide +kernel
theorem dX2_payDividends_29 : decode cX2_payDividends 29 = .ok (.iload 5, 2) := by decide +kernel
theorem dX2_payDividends_31 : decode cX2_payDividends 31 = .ok (.iconst 0, 1) := by decide +kernel
theorem dX2_payDividends_32 : decode cX2_payDividends 32 = .ok (.invokevirtual 56, 3) := by decide +kernel
theorem dX2_payDividends_35 : decode cX2_payDividends 35 = .ok (.istore 6, 2) := by decide +kernel
theorem dX2_payDividends_37 : decode cX2_payDividends 37 = .ok (.aload_n 2, 1) := by decide +kernel
theorem dX2_payDividends_38 : decode cX2_payDividends 38 = .ok (.iload 5, 2) := by decide +kernel
theorem dX2_payDividends_40 : decode cX2_payDividends 40 = .ok (.iconst 1, 1) := by decide +kernel
theorem dX2_payDividends_41 : decode cX2_payDividends 41 = .ok (.invokevirtual 56, 3) := by decide +kernel
theorem dX2_payDividends_44 : decode cX2_payDividends 44 = .ok (.istore 7, 2) := by decide +kernel
theorem dX2_payDividends_46 : decode cX2_payDividends 46 = .ok (.aload_n 2, 1) := by decide +kernel
theorem dX2_payDividends_47 : decode cX2_payDividends 47 = .ok (.iload 5, 2) := by decide +kernel
theorem dX2_payDividends_49 : decode cX2_payDividends 49 = .ok (.iconst 2, 1) := by decide +kernel
theorem dX2_payDividends_50 : decode cX2_payDividends 50 = .ok (.invokevirtual 56, 3) := by decide +kernel
theorem dX2_payDividends_53 : decode cX2_payDividends 53 = .ok (.istore 8, 2) := by decide +kernel
theorem dX2_payDividends_55 : decode cX2_payDividends 55 = .ok (.iload 7, 2) := by decide +kernel
theorem dX2_payDividends_57 : decode cX2_payDividends 57 = .ok (.aload_n 1, 1) := by decide +kernel
theorem dX2_payDividends_58 : decode cX2_payDividends 58 = .ok (.getfield 21, 3) := by decide +kernel
theorem dX2_payDividends_61 : decode cX2_payDividends 61 = .ok (.if_icmp .ne 24, 3) := by decide +kernel
theorem dX2_payDividends_64 : decode cX2_payDividends 64 = .ok (.aload_n 0, 1) := by decide +kernel
theorem dX2_payDividends_65 : decode cX2_payDividends 65 = .ok (.aload_n 1, 1) := by decide +kernel
theorem dX2_payDividends_66 : decode cX2_payDividends 66 = .ok (.iload 6, 2) := by decide +kernel
theorem dX2_payDividends_68 : decode cX2_payDividends 68 = .ok (.iload 8, 2) := by decide +kernel
theorem dX2_payDividends_70 : decode cX2_payDividends 70 = .ok (.invokevirtual 57, 3) := by decide +kernel
theorem dX2_payDividends_73 : decode cX2_payDividends 73 = .ok (.aload_n 0, 1) := by decide +kernel
theorem dX2_payDividends_74 : decode cX2_payDividends 74 = .ok (.aload_n 1, 1) := by decide +kernel
theorem dX2_payDividends_75 : decode cX2_payDividends 75 = .ok (.iload 6, 2) := by decide +kernel
theorem dX2_payDividends_77 : decode cX2_payDividends 77 = .ok (.iload 8, 2) := by decide +kernel
theorem dX2_payDividends_79 : decode cX2_payDividends 79 = .ok (.invokevirtual 63, 3) := by decide +kernel
theorem dX2_payDividends_82 : decode cX2_payDividends 82 = .ok (.goto 30, 3) := by decide +kernel
theorem dX2_payDividends_85 : decode cX2_payDividends 85 = .ok (.aload_n 2, 1) := by decide +kernel
theorem dX2_payDividends_86 : decode cX2_payDividends 86 = .ok (.iload_n 3, 1) := by decide +kernel
theorem dX2_payDividends_87 : decode cX2_payDividends 87 = .ok (.iconst 0, 1) := by decide +kernel
theorem dX2_payDividends_88 : decode cX2_payDividends 88 = .ok (.iload 6, 2) := by decide +kernel
theorem dX2_payDividends_90 : decode cX2_payDividends 90 = .ok (.invokevirtual 66, 3) := by decide +kernel
theorem dX2_payDividends_93 : decode cX2_payDividends 93 = .ok (.aload_n 2, 1) := by decide +kernel
theorem dX2_payDividends_94 : decode cX2_payDividends 94 = .ok (.iload_n 3, 1) := by decide +kernel
theorem dX2_payDividends_95 : decode cX2_payDividends 95 = .ok (.iconst 1, 1) := by decide +kernel
theorem dX2_payDividends_96 : decode cX2_payDividends 96 = .ok (.iload 7, 2) := by decide +kernel
theorem dX2_payDividends_98 : decode cX2_payDividends 98 = .ok (.invokevirtual 66, 3) := by decide +kernel
theorem dX2_payDividends_101 : decode cX2_payDividends 101 = .ok (.aload_n 2, 1) := by decide +kernel
theorem dX2_payDividends_102 : decode cX2_payDividends 102 = .ok (.iload_n 3, 1) := by decide +kernel
theorem dX2_payDividends_103 : decode cX2_payDividends 103 = .ok (.iconst 2, 1) := by decide +kernel
theorem dX2_payDividends_104 : decode cX2_payDividends 104 = .ok (.iload 8, 2) := by decide +kernel
theorem dX2_payDividends_106 : decode cX2_payDividends 106 = .ok (.invokevirtual 66, 3) := by decide +kernel
theorem dX2_payDividends_109 : decode cX2_payDividends 109 = .ok (.iinc 3 1, 3) := by decide +kernel
theorem dX2_payDividends_112 : decode cX2_payDividends 112 = .ok (.iinc 5 1, 3) := by decide +kernel
theorem dX2_payDividends_115 : decode cX2_payDividends 115 = .ok (.goto (-94), 3) := by decide +kernel
theorem dX2_payDividends_118 : decode cX2_payDividends 118 = .ok (.aload_n 2, 1) := by decide +kernel
theorem dX2_payDividends_119 : decode cX2_payDividends 119 = .ok (.iload_n 3, 1) := by decide +kernel
theorem dX2_payDividends_120 : decode cX2_payDividends 120 = .ok (.putfield 46, 3) := by decide +kernel
theorem dX2_payDividends_123 : decode cX2_payDividends 123 = .ok (.return_, 1) := by decide +kernel
theorem dX2_payHolders_0 : decode cX2_payHolders 0 = .ok (.iconst 0, 1) := by decide +kernel
theorem dX2_payHolders_1 : decode cX2_payHolders 1 = .ok (.istore 4, 2) := by decide +kernel
theorem dX2_payHolders_3 : decode cX2_payHolders 3 = .ok (.iload 4, 2) := by decide +kernel
theorem dX2_payHolders_5 : decode cX2_payHolders 5 = .ok (.aload_n 1, 1) := by decide +kernel
theorem dX2_payHolders_6 : decode cX2_payHolders 6 = .ok (.getfield 70, 3) := by decide +kernel
theorem dX2_payHolders_9 : decode cX2_payHolders 9 = .ok (.getfield 74, 3) := by decide +kernel
theorem dX2_payHolders_12 : decode cX2_payHolders 12 = .ok (.if_icmp .ge 52, 3) := by decide +kernel
theorem dX2_payHolders_15 : decode cX2_payHolders 15 = .ok (.aload_n 1, 1) := by decide +kernel
theorem dX2_payHolders_16 : decode cX2_payHolders 16 = .ok (.getfield 70, 3) := by decide +kernel
theorem dX2_payHolders_19 : decode cX2_payHolders 19 = .ok (.iload 4, 2) := by decide +kernel
theorem dX2_payHolders_21 : decode cX2_payHolders 21 = .ok (.invokevirtual 77, 3) := by decide +kernel
theorem dX2_payHolders_24 : decode cX2_payHolders 24 = .ok (.ifCond .eq 34, 3) := by decide +kernel
theorem dX2_payHolders_27 : decode cX2_payHolders 27 = .ok (.aload_n 1, 1) := by decide +kernel
theorem dX2_payHolders_28 : decode cX2_payHolders 28 = .ok (.getfield 70, 3) := by decide +kernel
theorem dX2_payHolders_31 : decode cX2_payHolders 31 = .ok (.getfield 81, 3) := by decide +kernel
theorem dX2_payHolders_34 : decode cX2_payHolders 34 = .ok (.iload 4, 2) := by decide +kernel
theorem dX2_payHolders_36 : decode cX2_payHolders 36 = .ok (.dup2, 1) := by decide +kernel
theorem dX2_payHolders_37 : decode cX2_payHolders 37 = .ok (.laload, 1) := by decide +kernel
theorem dX2_payHolders_38 : decode cX2_payHolders 38 = .ok (.aload_n 1, 1) := by decide +kernel
theorem dX2_payHolders_39 : decode cX2_payHolders 39 = .ok (.getfield 70, 3) := by decide +kernel
theorem dX2_payHolders_42 : decode cX2_payHolders 42 = .ok (.getfield 85, 3) := by decide +kernel
theorem dX2_payHolders_45 : decode cX2_payHolders 45 = .ok (.iload 4, 2) := by decide +kernel
theorem dX2_payHolders_47 : decode cX2_payHolders 47 = .ok (.iload_n 2, 1) := by decide +kernel
theorem dX2_payHolders_48 : decode cX2_payHolders 48 = .ok (.invokestatic 89, 3) := by decide +kernel
theorem dX2_payHolders_51 : decode cX2_payHolders 51 = .ok (.iaload, 1) := by decide +kernel
theorem dX2_payHolders_52 : decode cX2_payHolders 52 = .ok (.i2l, 1) := by decide +kernel
theorem dX2_payHolders_53 : decode cX2_payHolders 53 = .ok (.iload_n 3, 1) := by decide +kernel
theorem dX2_payHolders_54 : decode cX2_payHolders 54 = .ok (.i2l, 1) := by decide +kernel
theorem dX2_payHolders_55 : decode cX2_payHolders 55 = .ok (.lmul, 1) := by decide +kernel
theorem dX2_payHolders_56 : decode cX2_payHolders 56 = .ok (.ladd, 1) := by decide +kernel
theorem dX2_payHolders_57 : decode cX2_payHolders 57 = .ok (.lastore, 1) := by decide +kernel
theorem dX2_payHolders_58 : decode cX2_payHolders 58 = .ok (.iinc 4 1, 3) := by decide +kernel
theorem dX2_payHolders_61 : decode cX2_payHolders 61 = .ok (.goto (-58), 3) := by decide +kernel
theorem dX2_payHolders_64 : decode cX2_payHolders 64 = .ok (.return_, 1) := by decide +kernel
theorem dX2_oweExtra_0 : decode cX2_oweExtra 0 = .ok (.aload_n 1, 1) := by decide +kernel
theorem dX2_oweExtra_1 : decode cX2_oweExtra 1 = .ok (.getfield 9, 3) := by decide +kernel
theorem dX2_oweExtra_4 : decode cX2_oweExtra 4 = .ok (.astore 4, 2) := by decide +kernel
theorem dX2_oweExtra_6 : decode cX2_oweExtra 6 = .ok (.iconst 0, 1) := by decide +kernel
theorem dX2_oweExtra_7 : decode cX2_oweExtra 7 = .ok (.istore 5, 2) := by decide +kernel
theorem dX2_oweExtra_9 : decode cX2_oweExtra 9 = .ok (.iload 5, 2) := by decide +kernel
theorem dX2_oweExtra_11 : decode cX2_oweExtra 11 = .ok (.bipush 60, 2) := by decide +kernel
theorem dX2_oweExtra_13 : decode cX2_oweExtra 13 = .ok (.if_icmp .ge 123, 3) := by decide +kernel
theorem dX2_oweExtra_16 : decode cX2_oweExtra 16 = .ok (.aload 4, 2) := by decide +kernel
theorem dX2_oweExtra_18 : decode cX2_oweExtra 18 = .ok (.iload 5, 2) := by decide +kernel
theorem dX2_oweExtra_20 : decode cX2_oweExtra 20 = .ok (.bipush 7, 2) := by decide +kernel
theorem dX2_oweExtra_22 : decode cX2_oweExtra 22 = .ok (.invokevirtual 17, 3) := by decide +kernel
theorem dX2_oweExtra_25 : decode cX2_oweExtra 25 = .ok (.iconst 1, 1) := by decide +kernel
theorem dX2_oweExtra_26 : decode cX2_oweExtra 26 = .ok (.if_icmp .ne 34, 3) := by decide +kernel
theorem dX2_oweExtra_29 : decode cX2_oweExtra 29 = .ok (.aload 4, 2) := by decide +kernel
theorem dX2_oweExtra_31 : decode cX2_oweExtra 31 = .ok (.iload 5, 2) := by decide +kernel
theorem dX2_oweExtra_33 : decode cX2_oweExtra 33 = .ok (.iconst 2, 1) := by decide +kernel
theorem dX2_oweExtra_34 : decode cX2_oweExtra 34 = .ok (.invokevirtual 17, 3) := by decide +kernel
theorem dX2_oweExtra_37 : decode cX2_oweExtra 37 = .ok (.iload_n 2, 1) := by decide +kernel
theorem dX2_oweExtra_38 : decode cX2_oweExtra 38 = .ok (.if_icmp .ne 22, 3) := by decide +kernel
theorem dX2_oweExtra_41 : decode cX2_oweExtra 41 = .ok (.aload 4, 2) := by decide +kernel
theorem dX2_oweExtra_43 : decode cX2_oweExtra 43 = .ok (.iload 5, 2) := by decide +kernel
theorem dX2_oweExtra_45 : decode cX2_oweExtra 45 = .ok (.iconst 5, 1) := by decide +kernel
theorem dX2_oweExtra_46 : decode cX2_oweExtra 46 = .ok (.invokevirtual 17, 3) := by decide +kernel
theorem dX2_oweExtra_49 : decode cX2_oweExtra 49 = .ok (.aload_n 1, 1) := by decide +kernel
theorem dX2_oweExtra_50 : decode cX2_oweExtra 50 = .ok (.getfield 21, 3) := by decide +kernel
theorem dX2_oweExtra_53 : decode cX2_oweExtra 53 = .ok (.if_icmp .ge 7, 3) := by decide +kernel
theorem dX2_oweExtra_56 : decode cX2_oweExtra 56 = .ok (.iconst 1, 1) := by decide +kernel
theorem dX2_oweExtra_57 : decode cX2_oweExtra 57 = .ok (.goto 4, 3) := by decide +kernel
theorem dX2_oweExtra_60 : decode cX2_oweExtra 60 = .ok (.iconst 0, 1) := by decide +kernel
theorem dX2_oweExtra_61 : decode cX2_oweExtra 61 = .ok (.istore 6, 2) := by decide +kernel
theorem dX2_oweExtra_63 : decode cX2_oweExtra 63 = .ok (.iload 6, 2) := by decide +kernel
theorem dX2_oweExtra_65 : decode cX2_oweExtra 65 = .ok (.ifCond .eq 65, 3) := by decide +kernel
theorem dX2_oweExtra_68 : decode cX2_oweExtra 68 = .ok (.aload_n 1, 1) := by decide +kernel
theorem dX2_oweExtra_69 : decode cX2_oweExtra 69 = .ok (.getfield 25, 3) := by decide +kernel
theorem dX2_oweExtra_72 : decode cX2_oweExtra 72 = .ok (.iconst 5, 1) := by decide +kernel
theorem dX2_oweExtra_73 : decode cX2_oweExtra 73 = .ok (.aload_n 1, 1) := by decide +kernel
theorem dX2_oweExtra_74 : decode cX2_oweExtra 74 = .ok (.iload_n 2, 1) := by decide +kernel
theorem dX2_oweExtra_75 : decode cX2_oweExtra 75 = .ok (.iload 5, 2) := by decide +kernel
theorem dX2_oweExtra_77 : decode cX2_oweExtra 77 = .ok (.invokevirtual 29, 3) := by decide +kernel
theorem dX2_oweExtra_80 : decode cX2_oweExtra 80 = .ok (.ifCond .eq 50, 3) := by decide +kernel
theorem dX2_oweExtra_83 : decode cX2_oweExtra 83 = .ok (.aload 4, 2) := by decide +kernel
theorem dX2_oweExtra_85 : decode cX2_oweExtra 85 = .ok (.iload 5, 2) := by decide +kernel
theorem dX2_oweExtra_87 : decode cX2_oweExtra 87 = .ok (.iconst 0, 1) := by decide +kernel
theorem dX2_oweExtra_88 : decode cX2_oweExtra 88 = .ok (.invokevirtual 17, 3) := by decide +kernel
theorem dX2_oweExtra_91 : decode cX2_oweExtra 91 = .ok (.bipush 12, 2) := by decide +kernel
theorem dX2_oweExtra_93 : decode cX2_oweExtra 93 = .ok (.imul, 1) := by decide +kernel
theorem dX2_oweExtra_94 : decode cX2_oweExtra 94 = .ok (.aload 4, 2) := by decide +kernel
theorem dX2_oweExtra_96 : decode cX2_oweExtra 96 = .ok (.iload 5, 2) := by decide +kernel
theorem dX2_oweExtra_98 : decode cX2_oweExtra 98 = .ok (.iconst 1, 1) := by decide +kernel
theorem dX2_oweExtra_99 : decode cX2_oweExtra 99 = .ok (.invokevirtual 17, 3) := by decide +kernel
theorem dX2_oweExtra_102 : decode cX2_oweExtra 102 = .ok (.iadd, 1) := by decide +kernel
theorem dX2_oweExtra_103 : decode cX2_oweExtra 103 = .ok (.istore 7, 2) := by decide +kernel
theorem dX2_oweExtra_105 : decode cX2_oweExtra 105 = .ok (.aload_n 1, 1) := by decide +kernel
theorem dX2_oweExtra_106 : decode cX2_oweExtra 106 = .ok (.getfield 70, 3) := by decide +kernel
theorem dX2_oweExtra_109 : decode cX2_oweExtra 109 = .ok (.getfield 92, 3) := by decide +kernel
theorem dX2_oweExtra_112 : decode cX2_oweExtra 112 = .ok (.iload 7, 2) := by decide +kernel
theorem dX2_oweExtra_114 : decode cX2_oweExtra 114 = .ok (.dup2, 1) := by decide +kernel
theorem dX2_oweExtra_115 : decode cX2_oweExtra 115 = .ok (.laload, 1) := by decide +kernel
theorem dX2_oweExtra_116 : decode cX2_oweExtra 116 = .ok (.aload 4, 2) := by decide +kernel
theorem dX2_oweExtra_118 : decode cX2_oweExtra 118 = .ok (.iload 5, 2) := by decide +kernel
theorem dX2_oweExtra_120 : decode cX2_oweExtra 120 = .ok (.iconst 3, 1) := by decide +kernel
theorem dX2_oweExtra_121 : decode cX2_oweExtra 121 = .ok (.invokevirtual 17, 3) := by decide +kernel
theorem dX2_oweExtra_124 : decode cX2_oweExtra 124 = .ok (.i2l, 1) := by decide +kernel
theorem dX2_oweExtra_125 : decode cX2_oweExtra 125 = .ok (.iload_n 3, 1) := by decide +kernel
theorem dX2_oweExtra_126 : decode cX2_oweExtra 126 = .ok (.i2l, 1) := by decide +kernel
theorem dX2_oweExtra_127 : decode cX2_oweExtra 127 = .ok (.lmul, 1) := by decide +kernel
theorem dX2_oweExtra_128 : decode cX2_oweExtra 128 = .ok (.ladd, 1) := by decide +kernel
theorem dX2_oweExtra_129 : decode cX2_oweExtra 129 = .ok (.lastore, 1) := by decide +kernel
theorem dX2_oweExtra_130 : decode cX2_oweExtra 130 = .ok (.iinc 5 1, 3) := by decide +kernel
theorem dX2_oweExtra_133 : decode cX2_oweExtra 133 = .ok (.goto (-124), 3) := by decide +kernel
theorem dX2_oweExtra_136 : decode cX2_oweExtra 136 = .ok (.return_, 1) := by decide +kernel
theorem dX2_makeUp_0 : decode cX2_makeUp 0 = .ok (.iconst 0, 1) := by decide +kernel
theorem dX2_makeUp_1 : decode cX2_makeUp 1 = .ok (.istore_n 2, 1) := by decide +kernel
theorem dX2_makeUp_2 : decode cX2_makeUp 2 = .ok (.iload_n 2, 1) := by decide +kernel
theorem dX2_makeUp_3 : decode cX2_makeUp 3 = .ok (.aload_n 1, 1) := by decide +kernel
theorem dX2_makeUp_4 : decode cX2_makeUp 4 = .ok (.getfield 95, 3) := by decide +kernel
theorem dX2_makeUp_7 : decode cX2_makeUp 7 = .ok (.if_icmp .ge 43, 3) := by decide +kernel
theorem dX2_makeUp_10 : decode cX2_makeUp 10 = .ok (.aload_n 0, 1) := by decide +kernel
theorem dX2_makeUp_11 : decode cX2_makeUp 11 = .ok (.aload_n 1, 1) := by decide +kernel
theorem dX2_makeUp_12 : decode cX2_makeUp 12 = .ok (.getfield 9, 3) := by decide +kernel
theorem dX2_makeUp_15 : decode cX2_makeUp 15 = .ok (.iload_n 2, 1) := by decide +kernel
theorem dX2_makeUp_16 : decode cX2_makeUp 16 = .ok (.aload_n 1, 1) := by decide +kernel
theorem dX2_makeUp_17 : decode cX2_makeUp 17 = .ok (.invokevirtual 98, 3) := by decide +kernel
theorem dX2_makeUp_20 : decode cX2_makeUp 20 = .ok (.invokevirtual 102, 3) := by decide +kernel
theorem dX2_makeUp_23 : decode cX2_makeUp 23 = .ok (.istore_n 3, 1) := by decide +kernel
theorem dX2_makeUp_24 : decode cX2_makeUp 24 = .ok (.iload_n 3, 1) := by decide +kernel
theorem dX2_makeUp_25 : decode cX2_makeUp 25 = .ok (.iconst (-1), 1) := by decide +kernel
theorem dX2_makeUp_26 : decode cX2_makeUp 26 = .ok (.if_icmp .eq 18, 3) := by decide +kernel
theorem dX2_makeUp_29 : decode cX2_makeUp 29 = .ok (.aload_n 1, 1) := by decide +kernel
theorem dX2_makeUp_30 : decode cX2_makeUp 30 = .ok (.getfield 106, 3) := by decide +kernel
theorem dX2_makeUp_33 : decode cX2_makeUp 33 = .ok (.iload_n 2, 1) := by decide +kernel
theorem dX2_makeUp_34 : decode cX2_makeUp 34 = .ok (.aload_n 1, 1) := by decide +kernel
theorem dX2_makeUp_35 : decode cX2_makeUp 35 = .ok (.getfield 9, 3) := by decide +kernel
theorem dX2_makeUp_38 : decode cX2_makeUp 38 = .ok (.iload_n 3, 1) := by decide +kernel
theorem dX2_makeUp_39 : decode cX2_makeUp 39 = .ok (.iconst 4, 1) := by decide +kernel
theorem dX2_makeUp_40 : decode cX2_makeUp 40 = .ok (.invokevirtual 17, 3) := by decide +kernel
theorem dX2_makeUp_43 : decode cX2_makeUp 43 = .ok (.iastore, 1) := by decide +kernel
theorem dX2_makeUp_44 : decode cX2_makeUp 44 = .ok (.iinc 2 1, 3) := by decide +kernel
theorem dX2_makeUp_47 : decode cX2_makeUp 47 = .ok (.goto (-45), 3) := by decide +kernel
theorem dX2_makeUp_50 : decode cX2_makeUp 50 = .ok (.return_, 1) := by decide +kernel
theorem dX2_lastMade_0 : decode cX2_lastMade 0 = .ok (.iconst (-1), 1) := by decide +kernel
theorem dX2_lastMade_1 : decode cX2_lastMade 1 = .ok (.istore 4, 2) := by decide +kernel
theorem dX2_lastMade_3 : decode cX2_lastMade 3 = .ok (.iconst 0, 1) := by decide +kernel
theorem dX2_lastMade_4 : decode cX2_lastMade 4 = .ok (.istore 5, 2) := by decide +kernel
theorem dX2_lastMade_6 : decode cX2_lastMade 6 = .ok (.iload 5, 2) := by decide +kernel
theorem dX2_lastMade_8 : decode cX2_lastMade 8 = .ok (.bipush 60, 2) := by decide +kernel
theorem dX2_lastMade_10 : decode cX2_lastMade 10 = .ok (.if_icmp .ge 75, 3) := by decide +kernel
theorem dX2_lastMade_13 : decode cX2_lastMade 13 = .ok (.aload_n 1, 1) := by decide +kernel
theorem dX2_lastMade_14 : decode cX2_lastMade 14 = .ok (.iload 5, 2) := by decide +kernel
theorem dX2_lastMade_16 : decode cX2_lastMade 16 = .ok (.iload_n 2, 1) := by decide +kernel
theorem dX2_lastMade_17 : decode cX2_lastMade 17 = .ok (.iload_n 3, 1) := by decide +kernel
theorem dX2_lastMade_18 : decode cX2_lastMade 18 = .ok (.invokevirtual 109, 3) := by decide +kernel
theorem dX2_lastMade_21 : decode cX2_lastMade 21 = .ok (.ifCond .eq 58, 3) := by decide +kernel
theorem dX2_lastMade_24 : decode cX2_lastMade 24 = .ok (.aload_n 1, 1) := by decide +kernel
theorem dX2_lastMade_25 : decode cX2_lastMade 25 = .ok (.iload 5, 2) := by decide +kernel
theorem dX2_lastMade_27 : decode cX2_lastMade 27 = .ok (.bipush 10, 2) := by decide +kernel
theorem dX2_lastMade_29 : decode cX2_lastMade 29 = .ok (.invokevirtual 17, 3) := by decide +kernel
theorem dX2_lastMade_32 : decode cX2_lastMade 32 = .ok (.ifCond .ne 47, 3) := by decide +kernel
theorem dX2_lastMade_35 : decode cX2_lastMade 35 = .ok (.iload 4, 2) := by decide +kernel
theorem dX2_lastMade_37 : decode cX2_lastMade 37 = .ok (.iconst (-1), 1) := by decide +kernel
theorem dX2_lastMade_38 : decode cX2_lastMade 38 = .ok (.if_icmp .eq 20, 3) := by decide +kernel
theorem dX2_lastMade_41 : decode cX2_lastMade 41 = .ok (.aload_n 1, 1) := by decide +kernel
theorem dX2_lastMade_42 : decode cX2_lastMade 42 = .ok (.iload 5, 2) := by decide +kernel
theorem dX2_lastMade_44 : decode cX2_lastMade 44 = .ok (.iconst 5, 1) := by decide +kernel
theorem dX2_lastMade_45 : decode cX2_lastMade 45 = .ok (.invokevirtual 17, 3) := by decide +kernel
theorem dX2_lastMade_48 : decode cX2_lastMade 48 = .ok (.aload_n 1, 1) := by decide +kernel
theorem dX2_lastMade_49 : decode cX2_lastMade 49 = .ok (.iload 4, 2) := by decide +kernel
theorem dX2_lastMade_51 : decode cX2_lastMade 51 = .ok (.iconst 5, 1) := by decide +kernel
theorem dX2_lastMade_52 : decode cX2_lastMade 52 = .ok (.invokevirtual 17, 3) := by decide +kernel
theorem dX2_lastMade_55 : decode cX2_lastMade 55 = .ok (.if_icmp .lt 7, 3) := by decide +kernel
theorem dX2_lastMade_58 : decode cX2_lastMade 58 = .ok (.iconst 1, 1) := by decide +kernel
theorem dX2_lastMade_59 : decode cX2_lastMade 59 = .ok (.goto 4, 3) := by decide +kernel
theorem dX2_lastMade_62 : decode cX2_lastMade 62 = .ok (.iconst 0, 1) := by decide +kernel
theorem dX2_lastMade_63 : decode cX2_lastMade 63 = .ok (.istore 6, 2) := by decide +kernel
theorem dX2_lastMade_65 : decode cX2_lastMade 65 = .ok (.iload 6, 2) := by decide +kernel
theorem dX2_lastMade_67 : decode cX2_lastMade 67 = .ok (.ifCond .eq 8, 3) := by decide +kernel
theorem dX2_lastMade_70 : decode cX2_lastMade 70 = .ok (.iload 5, 2) := by decide +kernel
theorem dX2_lastMade_72 : decode cX2_lastMade 72 = .ok (.goto 5, 3) := by decide +kernel
theorem dX2_lastMade_75 : decode cX2_lastMade 75 = .ok (.iload 4, 2) := by decide +kernel
theorem dX2_lastMade_77 : decode cX2_lastMade 77 = .ok (.istore 4, 2) := by decide +kernel
theorem dX2_lastMade_79 : decode cX2_lastMade 79 = .ok (.iinc 5 1, 3) := by decide +kernel
theorem dX2_lastMade_82 : decode cX2_lastMade 82 = .ok (.goto (-76), 3) := by decide +kernel
theorem dX2_lastMade_85 : decode cX2_lastMade 85 = .ok (.iload 4, 2) := by decide +kernel
theorem dX2_lastMade_87 : decode cX2_lastMade 87 = .ok (.ireturn, 1) := by decide +kernel
theorem dX2_endOptions_0 : decode cX2_endOptions 0 = .ok (.aload_n 1, 1) := by decide +kernel
theorem dX2_endOptions_1 : decode cX2_endOptions 1 = .ok (.getfield 113, 3) := by decide +kernel
theorem dX2_endOptions_4 : decode cX2_endOptions 4 = .ok (.astore_n 2, 1) := by decide +kernel
theorem dX2_endOptions_5 : decode cX2_endOptions 5 = .ok (.iconst 0, 1) := by decide +kernel
theorem dX2_endOptions_6 : decode cX2_endOptions 6 = .ok (.istore_n 3, 1) := by decide +kernel
theorem dX2_endOptions_7 : decode cX2_endOptions 7 = .ok (.iload_n 3, 1) := by decide +kernel
theorem dX2_endOptions_8 : decode cX2_endOptions 8 = .ok (.aload_n 2, 1) := by decide +kernel
theorem dX2_endOptions_9 : decode cX2_endOptions 9 = .ok (.getfield 46, 3) := by decide +kernel
theorem dX2_endOptions_12 : decode cX2_endOptions 12 = .ok (.if_icmp .ge 52, 3) := by decide +kernel
theorem dX2_endOptions_15 : decode cX2_endOptions 15 = .ok (.aload_n 2, 1) := by decide +kernel
theorem dX2_endOptions_16 : decode cX2_endOptions 16 = .ok (.iload_n 3, 1) := by decide +kernel
theorem dX2_endOptions_17 : decode cX2_endOptions 17 = .ok (.bipush 6, 2) := by decide +kernel
theorem dX2_endOptions_19 : decode cX2_endOptions 19 = .ok (.invokevirtual 56, 3) := by decide +kernel
theorem dX2_endOptions_22 : decode cX2_endOptions 22 = .ok (.ifCond .ne 20, 3) := by decide +kernel
theorem dX2_endOptions_25 : decode cX2_endOptions 25 = .ok (.aload_n 2, 1) := by decide +kernel
theorem dX2_endOptions_26 : decode cX2_endOptions 26 = .ok (.iload_n 3, 1) := by decide +kernel
theorem dX2_endOptions_27 : decode cX2_endOptions 27 = .ok (.iconst 5, 1) := by decide +kernel
theorem dX2_endOptions_28 : decode cX2_endOptions 28 = .ok (.invokevirtual 56, 3) := by decide +kernel
theorem dX2_endOptions_31 : decode cX2_endOptions 31 = .ok (.aload_n 1, 1) := by decide +kernel
theorem dX2_endOptions_32 : decode cX2_endOptions 32 = .ok (.getfield 21, 3) := by decide +kernel
theorem dX2_endOptions_35 : decode cX2_endOptions 35 = .ok (.if_icmp .ne 7, 3) := by decide +kernel
theorem dX2_endOptions_38 : decode cX2_endOptions 38 = .ok (.iconst 1, 1) := by decide +kernel
theorem dX2_endOptions_39 : decode cX2_endOptions 39 = .ok (.goto 4, 3) := by decide +kernel
theorem dX2_endOptions_42 : decode cX2_endOptions 42 = .ok (.iconst 0, 1) := by decide +kernel
theorem dX2_endOptions_43 : decode cX2_endOptions 43 = .ok (.istore 4, 2) := by decide +kernel
theorem dX2_endOptions_45 : decode cX2_endOptions 45 = .ok (.iload 4, 2) := by decide +kernel
theorem dX2_endOptions_47 : decode cX2_endOptions 47 = .ok (.ifCond .eq 11, 3) := by decide +kernel
theorem dX2_endOptions_50 : decode cX2_endOptions 50 = .ok (.aload_n 2, 1) := by decide +kernel
theorem dX2_endOptions_51 : decode cX2_endOptions 51 = .ok (.iload_n 3, 1) := by decide +kernel
theorem dX2_endOptions_52 : decode cX2_endOptions 52 = .ok (.bipush 6, 2) := by decide +kernel
theorem dX2_endOptions_54 : decode cX2_endOptions 54 = .ok (.iconst 2, 1) := by decide +kernel
theorem dX2_endOptions_55 : decode cX2_endOptions 55 = .ok (.invokevirtual 66, 3) := by decide +kernel
theorem dX2_endOptions_58 : decode cX2_endOptions 58 = .ok (.iinc 3 1, 3) := by decide +kernel
theorem dX2_endOptions_61 : decode cX2_endOptions 61 = .ok (.goto (-54), 3) := by decide +kernel
theorem dX2_endOptions_64 : decode cX2_endOptions 64 = .ok (.return_, 1) := by decide +kernel
theorem dX3_init_0 : decode cX3_init 0 = .ok (.aload_n 0, 1) := by decide +kernel
theorem dX3_init_1 : decode cX3_init 1 = .ok (.invokespecial 3, 3) := by decide +kernel
theorem dX3_init_4 : decode cX3_init 4 = .ok (.aload_n 0, 1) := by decide +kernel
theorem dX3_init_5 : decode cX3_init 5 = .ok (.bipush 12, 2) := by decide +kernel
theorem dX3_init_7 : decode cX3_init 7 = .ok (.newarray .long, 2) := by decide +kernel
theorem dX3_init_9 : decode cX3_init 9 = .ok (.putfield 9, 3) := by decide +kernel
theorem dX3_init_12 : decode cX3_init 12 = .ok (.aload_n 0, 1) := by decide +kernel
theorem dX3_init_13 : decode cX3_init 13 = .ok (.bipush 12, 2) := by decide +kernel
theorem dX3_init_15 : decode cX3_init 15 = .ok (.newarray .long, 2) := by decide +kernel
theorem dX3_init_17 : decode cX3_init 17 = .ok (.putfield 15, 3) := by decide +kernel
theorem dX3_init_20 : decode cX3_init 20 = .ok (.aload_n 0, 1) := by decide +kernel
theorem dX3_init_21 : decode cX3_init 21 = .ok (.sipush 144, 3) := by decide +kernel
theorem dX3_init_24 : decode cX3_init 24 = .ok (.newarray .long, 2) := by decide +kernel
theorem dX3_init_26 : decode cX3_init 26 = .ok (.putfield 18, 3) := by decide +kernel
theorem dX3_init_29 : decode cX3_init 29 = .ok (.aload_n 0, 1) := by decide +kernel
theorem dX3_init_30 : decode cX3_init 30 = .ok (.bipush 12, 2) := by decide +kernel
theorem dX3_init_32 : decode cX3_init 32 = .ok (.newarray .int, 2) := by decide +kernel
theorem dX3_init_34 : decode cX3_init 34 = .ok (.putfield 21, 3) := by decide +kernel
theorem dX3_init_37 : decode cX3_init 37 = .ok (.aload_n 0, 1) := by decide +kernel
theorem dX3_init_38 : decode cX3_init 38 = .ok (.bipush 12, 2) := by decide +kernel
theorem dX3_init_40 : decode cX3_init 40 = .ok (.newarray .int, 2) := by decide +kernel
theorem dX3_init_42 : decode cX3_init 42 = .ok (.putfield 25, 3) := by decide +kernel
theorem dX3_init_45 : decode cX3_init 45 = .ok (.aload_n 0, 1) := by decide +kernel
theorem dX3_init_46 : decode cX3_init 46 = .ok (.bipush 60, 2) := by decide +kernel
theorem dX3_init_48 : decode cX3_init 48 = .ok (.newarray .int, 2) := by decide +kernel
theorem dX3_init_50 : decode cX3_init 50 = .ok (.putfield 28, 3) := by decide +kernel
theorem dX3_init_53 : decode cX3_init 53 = .ok (.aload_n 0, 1) := by decide +kernel
theorem dX3_init_54 : decode cX3_init 54 = .ok (.bipush 60, 2) := by decide +kernel
theorem dX3_init_56 : decode cX3_init 56 = .ok (.newarray .int, 2) := by decide +kernel
theorem dX3_init_58 : decode cX3_init 58 = .ok (.putfield 31, 3) := by decide +kernel
theorem dX3_init_61 : decode cX3_init 61 = .ok (.return_, 1) := by decide +kernel
theorem dX3_place_0 : decode cX3_place 0 = .ok (.iload_n 0, 1) := by decide +kernel
theorem dX3_place_1 : decode cX3_place 1 = .ok (.iconst 5, 1) := by decide +kernel
theorem dX3_place_2 : decode cX3_place 2 = .ok (.imul, 1) := by decide +kernel
theorem dX3_place_3 : decode cX3_place 3 = .ok (.iload_n 1, 1) := by decide +kernel
theorem dX3_place_4 : decode cX3_place 4 = .ok (.iadd, 1) := by decide +kernel
theorem dX3_place_5 : decode cX3_place 5 = .ok (.ireturn, 1) := by decide +kernel
theorem dX3_enter_0 : decode cX3_enter 0 = .ok (.aload_n 0, 1) := by decide +kernel
theorem dX3_enter_1 : decode cX3_enter 1 = .ok (.getfield 34, 3) := by decide +kernel
theorem dX3_enter_4 : decode cX3_enter 4 = .ok (.istore_n 3, 1) := by decide +kernel
theorem dX3_enter_5 : decode cX3_enter 5 = .ok (.aload_n 0, 1) := by decide +kernel
theorem dX3_enter_6 : decode cX3_enter 6 = .ok (.dup, 1) := by decide +kernel
theorem dX3_enter_7 : decode cX3_enter 7 = .ok (.getfield 34, 3) := by decide +kernel
theorem dX3_enter_10 : decode cX3_enter 10 = .ok (.iconst 1, 1) := by decide +kernel
theorem dX3_enter_11 : decode cX3_enter 11 = .ok (.iadd, 1) := by decide +kernel
theorem dX3_enter_12 : decode cX3_enter 12 = .ok (.putfield 34, 3) := by decide +kernel
theorem dX3_enter_15 : decode cX3_enter 15 = .ok (.aload_n 0, 1) := by decide +kernel
theorem dX3_enter_16 : decode cX3_enter 16 = .ok (.getfield 9, 3) := by decide +kernel
theorem dX3_enter_19 : decode cX3_enter 19 = .ok (.iload_n 3, 1) := by decide +kernel
theorem dX3_enter_20 : decode cX3_enter 20 = .ok (.iload_n 1, 1) := by decide +kernel
theorem dX3_enter_21 : decode cX3_enter 21 = .ok (.i2l, 1) := by decide +kernel
theorem dX3_enter_22 : decode cX3_enter 22 = .ok (.lastore, 1) := by decide +kernel
theorem dX3_enter_23 : decode cX3_enter 23 = .ok (.aload_n 0, 1) := by decide +kernel
theorem dX3_enter_24 : decode cX3_enter 24 = .ok (.getfield 21, 3) := by decide +kernel
theorem dX3_enter_27 : decode cX3_enter 27 = .ok (.iload_n 3, 1) := by decide +kernel
theorem dX3_enter_28 : decode cX3_enter 28 = .ok (.iload_n 2, 1) := by decide +kernel
theorem dX3_enter_29 : decode cX3_enter 29 = .ok (.iastore, 1) := by decide +kernel
theorem dX3_enter_30 : decode cX3_enter 30 = .ok (.aload_n 0, 1) := by decide +kernel
theorem dX3_enter_31 : decode cX3_enter 31 = .ok (.getfield 25, 3) := by decide +kernel
theorem dX3_enter_34 : decode cX3_enter 34 = .ok (.iload_n 3, 1) := by decide +kernel
theorem dX3_enter_35 : decode cX3_enter 35 = .ok (.iconst (-1), 1) := by decide +kernel
theorem dX3_enter_36 : decode cX3_enter 36 = .ok (.iastore, 1) := by decide +kernel
theorem dX3_enter_37 : decode cX3_enter 37 = .ok (.iload_n 3, 1) := by decide +kernel
theorem dX3_enter_38 : decode cX3_enter 38 = .ok (.ireturn, 1) := by decide +kernel
theorem dX3_isUp_0 : decode cX3_isUp 0 = .ok (.aload_n 0, 1) := by decide +kernel
theorem dX3_isUp_1 : decode cX3_isUp 1 = .ok (.getfield 25, 3) := by decide +kernel
theorem dX3_isUp_4 : decode cX3_isUp 4 = .ok (.iload_n 1, 1) := by decide +kernel
theorem dX3_isUp_5 : decode cX3_isUp 5 = .ok (.iaload, 1) := by decide +kernel
theorem dX3_isUp_6 : decode cX3_isUp 6 = .ok (.iconst (-1), 1) := by decide +kernel
theorem dX3_isUp_7 : decode cX3_isUp 7 = .ok (.if_icmp .ne 7, 3) := by decide +kernel
theorem dX3_isUp_10 : decode cX3_isUp 10 = .ok (.iconst 1, 1) := by decide +kernel
theorem dX3_isUp_11 : decode cX3_isUp 11 = .ok (.goto 4, 3) := by decide +kernel
theorem dX3_isUp_14 : decode cX3_isUp 14 = .ok (.iconst 0, 1) := by decide +kernel
theorem dX3_isUp_15 : decode cX3_isUp 15 = .ok (.ireturn, 1) := by decide +kernel
theorem dX3_upCount_0 : decode cX3_upCount 0 = .ok (.iconst 0, 1) := by decide +kernel
theorem dX3_upCount_1 : decode cX3_upCount 1 = .ok (.istore_n 1, 1) := by decide +kernel
theorem dX3_upCount_2 : decode cX3_upCount 2 = .ok (.iconst 0, 1) := by decide +kernel
theorem dX3_upCount_3 : decode cX3_upCount 3 = .ok (.istore_n 2, 1) := by decide +kernel
theorem dX3_upCount_4 : decode cX3_upCount 4 = .ok (.iload_n 2, 1) := by decide +kernel
theorem dX3_upCount_5 : decode cX3_upCount 5 = .ok (.aload_n 0, 1) := by decide +kernel
theorem dX3_upCount_6 : decode cX3_upCount 6 = .ok (.getfield 34, 3) := by decide +kernel
theorem dX3_upCount_9 : decode cX3_upCount 9 = .ok (.if_icmp .ge 20, 3) := by decide +kernel
theorem dX3_upCount_12 : decode cX3_upCount 12 = .ok (.aload_n 0, 1) := by decide +kernel
theorem dX3_upCount_13 : decode cX3_upCount 13 = .ok (.iload_n 2, 1) := by decide +kernel
theorem dX3_upCount_14 : decode cX3_upCount 14 = .ok (.invokevirtual 38, 3) := by decide +kernel
theorem dX3_upCount_17 : decode cX3_upCount 17 = .ok (.ifCond .eq 6, 3) := by decide +kernel
theorem dX3_upCount_20 : decode cX3_upCount 20 = .ok (.iinc 1 1, 3) := by decide +kernel
theorem dX3_upCount_23 : decode cX3_upCount 23 = .ok (.iinc 2 1, 3) := by decide +kernel
theorem dX3_upCount_26 : decode cX3_upCount 26 = .ok (.goto (-22), 3) := by decide +kernel
theorem dX3_upCount_29 : decode cX3_upCount 29 = .ok (.iload_n 1, 1) := by decide +kernel
theorem dX3_upCount_30 : decode cX3_upCount 30 = .ok (.ireturn, 1) := by decide +kernel
theorem dX3_extraOwedBy_0 : decode cX3_extraOwedBy 0 = .ok (.lconst 0, 1) := by decide +kernel
theorem dX3_extraOwedBy_1 : decode cX3_extraOwedBy 1 = .ok (.lstore_n 2, 1) := by decide +kernel
theorem dX3_extraOwedBy_2 : decode cX3_extraOwedBy 2 = .ok (.iconst 0, 1) := by decide +kernel
theorem dX3_extraOwedBy_3 : decode cX3_extraOwedBy 3 = .ok (.istore 4, 2) := by decide +kernel
theorem dX3_extraOwedBy_5 : decode cX3_extraOwedBy 5 = .ok (.iload 4, 2) := by decide +kernel
theorem dX3_extraOwedBy_7 : decode cX3_extraOwedBy 7 = .ok (.bipush 12, 2) := by decide +kernel
theorem dX3_extraOwedBy_9 : decode cX3_extraOwedBy 9 = .ok (.if_icmp .ge 24, 3) := by decide +kernel
theorem dX3_extraOwedBy_12 : decode cX3_extraOwedBy 12 = .ok (.lload_n 2, 1) := by decide +kernel
theorem dX3_extraOwedBy_13 : decode cX3_extraOwedBy 13 = .ok (.aload_n 0, 1) := by decide +kernel
theorem dX3_extraOwedBy_14 : decode cX3_extraOwedBy 14 = .ok (.getfield 18, 3) := by decide +kernel
theorem dX3_extraOwedBy_17 : decode cX3_extraOwedBy 17 = .ok (.iload_n 1, 1) := by decide +kernel
theorem dX3_extraOwedBy_18 : decode cX3_extraOwedBy 18 = .ok (.bipush 12, 2) := by decide +kernel
theorem dX3_extraOwedBy_20 : decode cX3_extraOwedBy 20 = .ok (.imul, 1) := by decide +kernel
theorem dX3_extraOwedBy_21 : decode cX3_extraOwedBy 21 = .ok (.iload 4, 2) := by decide +kernel
theorem dX3_extraOwedBy_23 : decode cX3_extraOwedBy 23 = .ok (.iadd, 1) := by decide +kernel
theorem dX3_extraOwedBy_24 : decode cX3_extraOwedBy 24 = .ok (.laload, 1) := by decide +kernel
theorem dX3_extraOwedBy_25 : decode cX3_extraOwedBy 25 = .ok (.ladd, 1) := by decide +kernel
theorem dX3_extraOwedBy_26 : decode cX3_extraOwedBy 26 = .ok (.lstore_n 2, 1) := by decide +kernel
theorem dX3_extraOwedBy_27 : decode cX3_extraOwedBy 27 = .ok (.iinc 4 1, 3) := by decide +kernel
theorem dX3_extraOwedBy_30 : decode cX3_extraOwedBy 30 = .ok (.goto (-25), 3) := by decide +kernel
theorem dX3_extraOwedBy_33 : decode cX3_extraOwedBy 33 = .ok (.lload_n 2, 1) := by decide +kernel
theorem dX3_extraOwedBy_34 : decode cX3_extraOwedBy 34 = .ok (.lreturn, 1) := by decide +kernel
theorem dX3_takeOver_0 : decode cX3_takeOver 0 = .ok (.aload_n 0, 1) := by decide +kernel
theorem dX3_takeOver_1 : decode cX3_takeOver 1 = .ok (.aload_n 1, 1) := by decide +kernel
theorem dX3_takeOver_2 : decode cX3_takeOver 2 = .ok (.getfield 34, 3) := by decide +kernel
theorem dX3_takeOver_5 : decode cX3_takeOver 5 = .ok (.putfield 34, 3) := by decide +kernel
theorem dX3_takeOver_8 : decode cX3_takeOver 8 = .ok (.aload_n 1, 1) := by decide +kernel
theorem dX3_takeOver_9 : decode cX3_takeOver 9 = .ok (.getfield 9, 3) := by decide +kernel
theorem dX3_takeOver_12 : decode cX3_takeOver 12 = .ok (.iconst 0, 1) := by decide +kernel
theorem dX3_takeOver_13 : decode cX3_takeOver 13 = .ok (.aload_n 0, 1) := by decide +kernel
theorem dX3_takeOver_14 : decode cX3_takeOver 14 = .ok (.getfield 9, 3) := by decide +kernel
theorem dX3_takeOver_17 : decode cX3_takeOver 17 = .ok (.iconst 0, 1) := by decide +kernel
theorem dX3_takeOver_18 : decode cX3_takeOver 18 = .ok (.bipush 12, 2) := by decide +kernel
theorem dX3_takeOver_20 : decode cX3_takeOver 20 = .ok (.invokestatic 42, 3) := by decide +kernel
theorem dX3_takeOver_23 : decode cX3_takeOver 23 = .ok (.aload_n 1, 1) := by decide +kernel
theorem dX3_takeOver_24 : decode cX3_takeOver 24 = .ok (.getfield 15, 3) := by decide +kernel
theorem dX3_takeOver_27 : decode cX3_takeOver 27 = .ok (.iconst 0, 1) := by decide +kernel
theorem dX3_takeOver_28 : decode cX3_takeOver 28 = .ok (.aload_n 0, 1) := by decide +kernel
theorem dX3_takeOver_29 : decode cX3_takeOver 29 = .ok (.getfield 15, 3) := by decide +kernel
theorem dX3_takeOver_32 : decode cX3_takeOver 32 = .ok (.iconst 0, 1) := by decide +kernel
theorem dX3_takeOver_33 : decode cX3_takeOver 33 = .ok (.bipush 12, 2) := by decide +kernel
theorem dX3_takeOver_35 : decode cX3_takeOver 35 = .ok (.invokestatic 42, 3) := by decide +kernel
theorem dX3_takeOver_38 : decode cX3_takeOver 38 = .ok (.aload_n 1, 1) := by decide +kernel
theorem dX3_takeOver_39 : decode cX3_takeOver 39 = .ok (.getfield 18, 3) := by decide +kernel
theorem dX3_takeOver_42 : decode cX3_takeOver 42 = .ok (.iconst 0, 1) := by decide +kernel
theorem dX3_takeOver_43 : decode cX3_takeOver 43 = .ok (.aload_n 0, 1) := by decide +kernel
theorem dX3_takeOver_44 : decode cX3_takeOver 44 = .ok (.getfield 18, 3) := by decide +kernel
theorem dX3_takeOver_47 : decode cX3_takeOver 47 = .ok (.iconst 0, 1) := by decide +kernel
theorem dX3_takeOver_48 : decode cX3_takeOver 48 = .ok (.sipush 144, 3) := by decide +kernel
theorem dX3_takeOver_51 : decode cX3_takeOver 51 = .ok (.invokestatic 42, 3) := by decide +kernel
theorem dX3_takeOver_54 : decode cX3_takeOver 54 = .ok (.aload_n 1, 1) := by decide +kernel
theorem dX3_takeOver_55 : decode cX3_takeOver 55 = .ok (.getfield 21, 3) := by decide +kernel
theorem dX3_takeOver_58 : decode cX3_takeOver 58 = .ok (.iconst 0, 1) := by decide +kernel
theorem dX3_takeOver_59 : decode cX3_takeOver 59 = .ok (.aload_n 0, 1) := by decide +kernel
theorem dX3_takeOver_60 : decode cX3_takeOver 60 = .ok (.getfield 21, 3) := by decide +kernel
theorem dX3_takeOver_63 : decode cX3_takeOver 63 = .ok (.iconst 0, 1) := by decide +kernel
theorem dX3_takeOver_64 : decode cX3_takeOver 64 = .ok (.bipush 12, 2) := by decide +kernel
theorem dX3_takeOver_66 : decode cX3_takeOver 66 = .ok (.invokestatic 42, 3) := by decide +kernel
theorem dX3_takeOver_69 : decode cX3_takeOver 69 = .ok (.aload_n 1, 1) := by decide +kernel
theorem dX3_takeOver_70 : decode cX3_takeOver 70 = .ok (.getfield 25, 3) := by decide +kernel
theorem dX3_takeOver_73 : decode cX3_takeOver 73 = .ok (.iconst 0, 1) := by decide +kernel
theorem dX3_takeOver_74 : decode cX3_takeOver 74 = .ok (.aload_n 0, 1) := by decide +kernel
theorem dX3_takeOver_75 : decode cX3_takeOver 75 = .ok (.getfield 25, 3) := by decide +kernel
theorem dX3_takeOver_78 : decode cX3_takeOver 78 = .ok (.iconst 0, 1) := by decide +kernel
theorem dX3_takeOver_79 : decode cX3_takeOver 79 = .ok (.bipush 12, 2) := by decide +kernel
theorem dX3_takeOver_81 : decode cX3_takeOver 81 = .ok (.invokestatic 42, 3) := by decide +kernel
theorem dX3_takeOver_84 : decode cX3_takeOver 84 = .ok (.aload_n 1, 1) := by decide +kernel
theorem dX3_takeOver_85 : decode cX3_takeOver 85 = .ok (.getfield 28, 3) := by decide +kernel
theorem dX3_takeOver_88 : decode cX3_takeOver 88 = .ok (.iconst 0, 1) := by decide +kernel
theorem dX3_takeOver_89 : decode cX3_takeOver 89 = .ok (.aload_n 0, 1) := by decide +kernel
theorem dX3_takeOver_90 : decode cX3_takeOver 90 = .ok (.getfield 28, 3) := by decide +kernel
theorem dX3_takeOver_93 : decode cX3_takeOver 93 = .ok (.iconst 0, 1) := by decide +kernel
theorem dX3_takeOver_94 : decode cX3_takeOver 94 = .ok (.bipush 60, 2) := by decide +kernel
theorem dX3_takeOver_96 : decode cX3_takeOver 96 = .ok (.invokestatic 42, 3) := by decide +kernel
theorem dX3_takeOver_99 : decode cX3_takeOver 99 = .ok (.aload_n 1, 1) := by decide +kernel
theorem dX3_takeOver_100 : decode cX3_takeOver 100 = .ok (.getfield 31, 3) := by decide +kernel
theorem dX3_takeOver_103 : decode cX3_takeOver 103 = .ok (.iconst 0, 1) := by decide +kernel
theorem dX3_takeOver_104 : decode cX3_takeOver 104 = .ok (.aload_n 0, 1) := by decide +kernel
theorem dX3_takeOver_105 : decode cX3_takeOver 105 = .ok (.getfield 31, 3) := by decide +kernel
theorem dX3_takeOver_108 : decode cX3_takeOver 108 = .ok (.iconst 0, 1) := by decide +kernel
theorem dX3_takeOver_109 : decode cX3_takeOver 109 = .ok (.bipush 60, 2) := by decide +kernel
theorem dX3_takeOver_111 : decode cX3_takeOver 111 = .ok (.invokestatic 42, 3) := by decide +kernel
theorem dX3_takeOver_114 : decode cX3_takeOver 114 = .ok (.return_, 1) := by decide +kernel
theorem dX4_init_0 : decode cX4_init 0 = .ok (.aload_n 0, 1) := by decide +kernel
theorem dX4_init_1 : decode cX4_init 1 = .ok (.invokespecial 3, 3) := by decide +kernel
theorem dX4_init_4 : decode cX4_init 4 = .ok (.aload_n 0, 1) := by decide +kernel
theorem dX4_init_5 : decode cX4_init 5 = .ok (.sipush 128, 3) := by decide +kernel
theorem dX4_init_8 : decode cX4_init 8 = .ok (.newarray .int, 2) := by decide +kernel
theorem dX4_init_10 : decode cX4_init 10 = .ok (.putfield 11, 3) := by decide +kernel
theorem dX4_init_13 : decode cX4_init 13 = .ok (.aload_n 0, 1) := by decide +kernel
theorem dX4_init_14 : decode cX4_init 14 = .ok (.sipush 128, 3) := by decide +kernel
theorem dX4_init_17 : decode cX4_init 17 = .ok (.newarray .int, 2) := by decide +kernel
theorem dX4_init_19 : decode cX4_init 19 = .ok (.putfield 15, 3) := by decide +kernel
theorem dX4_init_22 : decode cX4_init 22 = .ok (.aload_n 0, 1) := by decide +kernel
theorem dX4_init_23 : decode cX4_init 23 = .ok (.sipush 128, 3) := by decide +kernel
theorem dX4_init_26 : decode cX4_init 26 = .ok (.newarray .int, 2) := by decide +kernel
theorem dX4_init_28 : decode cX4_init 28 = .ok (.putfield 18, 3) := by decide +kernel
theorem dX4_init_31 : decode cX4_init 31 = .ok (.aload_n 0, 1) := by decide +kernel
theorem dX4_init_32 : decode cX4_init 32 = .ok (.sipush 128, 3) := by decide +kernel
theorem dX4_init_35 : decode cX4_init 35 = .ok (.newarray .int, 2) := by decide +kernel
theorem dX4_init_37 : decode cX4_init 37 = .ok (.putfield 21, 3) := by decide +kernel
theorem dX4_init_40 : decode cX4_init 40 = .ok (.aload_n 0, 1) := by decide +kernel
theorem dX4_init_41 : decode cX4_init 41 = .ok (.sipush 128, 3) := by decide +kernel
theorem dX4_init_44 : decode cX4_init 44 = .ok (.newarray .int, 2) := by decide +kernel
theorem dX4_init_46 : decode cX4_init 46 = .ok (.putfield 24, 3) := by decide +kernel
theorem dX4_init_49 : decode cX4_init 49 = .ok (.aload_n 0, 1) := by decide +kernel
theorem dX4_init_50 : decode cX4_init 50 = .ok (.bipush 12, 2) := by decide +kernel
theorem dX4_init_52 : decode cX4_init 52 = .ok (.newarray .int, 2) := by decide +kernel
theorem dX4_init_54 : decode cX4_init 54 = .ok (.putfield 27, 3) := by decide +kernel
theorem dX4_init_57 : decode cX4_init 57 = .ok (.aload_n 0, 1) := by decide +kernel
theorem dX4_init_58 : decode cX4_init 58 = .ok (.bipush 60, 2) := by decide +kernel
theorem dX4_init_60 : decode cX4_init 60 = .ok (.newarray .int, 2) := by decide +kernel
theorem dX4_init_62 : decode cX4_init 62 = .ok (.putfield 30, 3) := by decide +kernel
theorem dX4_init_65 : decode cX4_init 65 = .ok (.return_, 1) := by decide +kernel
theorem dX4_nameAccount_0 : decode cX4_nameAccount 0 = .ok (.aload_n 1, 1) := by decide +kernel
theorem dX4_nameAccount_1 : decode cX4_nameAccount 1 = .ok (.iconst 1, 1) := by decide +kernel
theorem dX4_nameAccount_2 : decode cX4_nameAccount 2 = .ok (.putfield 33, 3) := by decide +kernel
theorem dX4_nameAccount_5 : decode cX4_nameAccount 5 = .ok (.aload_n 1, 1) := by decide +kernel
theorem dX4_nameAccount_6 : decode cX4_nameAccount 6 = .ok (.getfield 39, 3) := by decide +kernel
theorem dX4_nameAccount_9 : decode cX4_nameAccount 9 = .ok (.iconst 0, 1) := by decide +kernel
theorem dX4_nameAccount_10 : decode cX4_nameAccount 10 = .ok (.putfield 43, 3) := by decide +kernel
theorem dX4_nameAccount_13 : decode cX4_nameAccount 13 = .ok (.aload_n 1, 1) := by decide +kernel
theorem dX4_nameAccount_14 : decode cX4_nameAccount 14 = .ok (.getfield 49, 3) := by decide +kernel
theorem dX4_nameAccount_17 : decode cX4_nameAccount 17 = .ok (.iconst 0, 1) := by decide +kernel
theorem dX4_nameAccount_18 : decode cX4_nameAccount 18 = .ok (.putfield 43, 3) := by decide +kernel
theorem dX4_nameAccount_21 : decode cX4_nameAccount 21 = .ok (.iconst 0, 1) := by decide +kernel
theorem dX4_nameAccount_22 : decode cX4_nameAccount 22 = .ok (.istore_n 3, 1) := by decide +kernel
theorem dX4_nameAccount_23 : decode cX4_nameAccount 23 = .ok (.iload_n 3, 1) := by decide +kernel
theorem dX4_nameAccount_24 : decode cX4_nameAccount 24 = .ok (.aload_n 1, 1) := by decide +kernel
theorem dX4_nameAccount_25 : decode cX4_nameAccount 25 = .ok (.getfield 52, 3) := by decide +kernel
theorem dX4_nameAccount_28 : decode cX4_nameAccount 28 = .ok (.if_icmp .ge 61, 3) := by decide +kernel
theorem dX4_nameAccount_31 : decode cX4_nameAccount 31 = .ok (.aload_n 0, 1) := by decide +kernel
theorem dX4_nameAccount_32 : decode cX4_nameAccount 32 = .ok (.aload_n 1, 1) := by decide +kernel
theorem dX4_nameAccount_33 : decode cX4_nameAccount 33 = .ok (.iload_n 3, 1) := by decide +kernel
theorem dX4_nameAccount_34 : decode cX4_nameAccount 34 = .ok (.iload_n 2, 1) := by decide +kernel
theorem dX4_nameAccount_35 : decode cX4_nameAccount 35 = .ok (.invokevirtual 55, 3) := by decide +kernel
theorem dX4_nameAccount_38 : decode cX4_nameAccount 38 = .ok (.aload_n 1, 1) := by decide +kernel
theorem dX4_nameAccount_39 : decode cX4_nameAccount 39 = .ok (.getfield 59, 3) := by decide +kernel
theorem dX4_nameAccount_42 : decode cX4_nameAccount 42 = .ok (.iconst 1, 1) := by decide +kernel
theorem dX4_nameAccount_43 : decode cX4_nameAccount 43 = .ok (.aload_n 1, 1) := by decide +kernel
theorem dX4_nameAccount_44 : decode cX4_nameAccount 44 = .ok (.iload_n 3, 1) := by decide +kernel
theorem dX4_nameAccount_45 : decode cX4_nameAccount 45 = .ok (.iconst (-1), 1) := by decide +kernel
theorem dX4_nameAccount_46 : decode cX4_nameAccount 46 = .ok (.invokevirtual 63, 3) := by decide +kernel
theorem dX4_nameAccount_49 : decode cX4_nameAccount 49 = .ok (.istore 4, 2) := by decide +kernel
theorem dX4_nameAccount_51 : decode cX4_nameAccount 51 = .ok (.iconst 0, 1) := by decide +kernel
theorem dX4_nameAccount_52 : decode cX4_nameAccount 52 = .ok (.istore 5, 2) := by decide +kernel
theorem dX4_nameAccount_54 : decode cX4_nameAccount 54 = .ok (.iload 5, 2) := by decide +kernel
theorem dX4_nameAccount_56 : decode cX4_nameAccount 56 = .ok (.sipush 5952, 3) := by decide +kernel
theorem dX4_nameAccount_59 : decode cX4_nameAccount 59 = .ok (.if_icmp .ge 24, 3) := by decide +kernel
theorem dX4_nameAccount_62 : decode cX4_nameAccount 62 = .ok (.aload_n 0, 1) := by decide +kernel
theorem dX4_nameAccount_63 : decode cX4_nameAccount 63 = .ok (.getfield 69, 3) := by decide +kernel
theorem dX4_nameAccount_66 : decode cX4_nameAccount 66 = .ok (.ifCond .le 17, 3) := by decide +kernel
theorem dX4_nameAccount_69 : decode cX4_nameAccount 69 = .ok (.aload_n 0, 1) := by decide +kernel
theorem dX4_nameAccount_70 : decode cX4_nameAccount 70 = .ok (.aload_n 1, 1) := by decide +kernel
theorem dX4_nameAccount_71 : decode cX4_nameAccount 71 = .ok (.iload_n 3, 1) := by decide +kernel
theorem dX4_nameAccount_72 : decode cX4_nameAccount 72 = .ok (.iload 4, 2) := by decide +kernel
theorem dX4_nameAccount_74 : decode cX4_nameAccount 74 = .ok (.invokevirtual 72, 3) := by decide +kernel
theorem dX4_nameAccount_77 : decode cX4_nameAccount 77 = .ok (.iinc 5 1, 3) := by decide +kernel
theorem dX4_nameAccount_80 : decode cX4_nameAccount 80 = .ok (.goto (-26), 3) := by decide +kernel
theorem dX4_nameAccount_83 : decode cX4_nameAccount 83 = .ok (.iinc 3 1, 3) := by decide +kernel
theorem dX4_nameAccount_86 : decode cX4_nameAccount 86 = .ok (.goto (-63), 3) := by decide +kernel
theorem dX4_nameAccount_89 : decode cX4_nameAccount 89 = .ok (.return_, 1) := by decide +kernel
theorem dX4_layOut_0 : decode cX4_layOut 0 = .ok (.aload_n 1, 1) := by decide +kernel
theorem dX4_layOut_1 : decode cX4_layOut 1 = .ok (.getfield 75, 3) := by decide +kernel
theorem dX4_layOut_4 : decode cX4_layOut 4 = .ok (.aload_n 0, 1) := by decide +kernel
theorem dX4_layOut_5 : decode cX4_layOut 5 = .ok (.getfield 27, 3) := by decide +kernel
theorem dX4_layOut_8 : decode cX4_layOut 8 = .ok (.iload_n 2, 1) := by decide +kernel
theorem dX4_layOut_9 : decode cX4_layOut 9 = .ok (.iload_n 3, 1) := by decide +kernel
theorem dX4_layOut_10 : decode cX4_layOut 10 = .ok (.invokevirtual 79, 3) := by decide +kernel
theorem dX4_layOut_13 : decode cX4_layOut 13 = .ok (.iconst 0, 1) := by decide +kernel
theorem dX4_layOut_14 : decode cX4_layOut 14 = .ok (.istore 4, 2) := by decide +kernel
theorem dX4_layOut_16 : decode cX4_layOut 16 = .ok (.iload 4, 2) := by decide +kernel
theorem dX4_layOut_18 : decode cX4_layOut 18 = .ok (.bipush 60, 2) := by decide +kernel
theorem dX4_layOut_20 : decode cX4_layOut 20 = .ok (.if_icmp .ge 48, 3) := by decide +kernel
theorem dX4_layOut_23 : decode cX4_layOut 23 = .ok (.aload_n 1, 1) := by decide +kernel
theorem dX4_layOut_24 : decode cX4_layOut 24 = .ok (.getfield 75, 3) := by decide +kernel
theorem dX4_layOut_27 : decode cX4_layOut 27 = .ok (.iload 4, 2) := by decide +kernel
theorem dX4_layOut_29 : decode cX4_layOut 29 = .ok (.iload_n 2, 1) := by decide +kernel
theorem dX4_layOut_30 : decode cX4_layOut 30 = .ok (.iload_n 3, 1) := by decide +kernel
theorem dX4_layOut_31 : decode cX4_layOut 31 = .ok (.invokevirtual 85, 3) := by decide +kernel
theorem dX4_layOut_34 : decode cX4_layOut 34 = .ok (.istore 5, 2) := by decide +kernel
theorem dX4_layOut_36 : decode cX4_layOut 36 = .ok (.aload_n 0, 1) := by decide +kernel
theorem dX4_layOut_37 : decode cX4_layOut 37 = .ok (.getfield 30, 3) := by decide +kernel
theorem dX4_layOut_40 : decode cX4_layOut 40 = .ok (.iload 4, 2) := by decide +kernel
theorem dX4_layOut_42 : decode cX4_layOut 42 = .ok (.iload 5, 2) := by decide +kernel
theorem dX4_layOut_44 : decode cX4_layOut 44 = .ok (.ifCond .eq 16, 3) := by decide +kernel
theorem dX4_layOut_47 : decode cX4_layOut 47 = .ok (.aload_n 1, 1) := by decide +kernel
theorem dX4_layOut_48 : decode cX4_layOut 48 = .ok (.getfield 75, 3) := by decide +kernel
theorem dX4_layOut_51 : decode cX4_layOut 51 = .ok (.iload 4, 2) := by decide +kernel
theorem dX4_layOut_53 : decode cX4_layOut 53 = .ok (.iconst 3, 1) := by decide +kernel
theorem dX4_layOut_54 : decode cX4_layOut 54 = .ok (.invokevirtual 89, 3) := by decide +kernel
theorem dX4_layOut_57 : decode cX4_layOut 57 = .ok (.goto 4, 3) := by decide +kernel
theorem dX4_layOut_60 : decode cX4_layOut 60 = .ok (.iconst 0, 1) := by decide +kernel
theorem dX4_layOut_61 : decode cX4_layOut 61 = .ok (.iastore, 1) := by decide +kernel
theorem dX4_layOut_62 : decode cX4_layOut 62 = .ok (.iinc 4 1, 3) := by decide +kernel
theorem dX4_layOut_65 : decode cX4_layOut 65 = .ok (.goto (-49), 3) := by decide +kernel
theorem dX4_layOut_68 : decode cX4_layOut 68 = .ok (.aload_n 0, 1) := by decide +kernel
theorem dX4_layOut_69 : decode cX4_layOut 69 = .ok (.iconst 0, 1) := by decide +kernel
theorem dX4_layOut_70 : decode cX4_layOut 70 = .ok (.putfield 93, 3) := by decide +kernel
theorem dX4_layOut_73 : decode cX4_layOut 73 = .ok (.aload_n 0, 1) := by decide +kernel
theorem dX4_layOut_74 : decode cX4_layOut 74 = .ok (.iconst 0, 1) := by decide +kernel
theorem dX4_layOut_75 : decode cX4_layOut 75 = .ok (.putfield 69, 3) := by decide +kernel
theorem dX4_layOut_78 : decode cX4_layOut 78 = .ok (.iconst 0, 1) := by decide +kernel
theorem dX4_layOut_79 : decode cX4_layOut 79 = .ok (.istore 4, 2) := by decide +kernel
theorem dX4_layOut_81 : decode cX4_layOut 81 = .ok (.iload 4, 2) := by decide +kernel
theorem dX4_layOut_83 : decode cX4_layOut 83 = .ok (.bipush 12, 2) := by decide +kernel
theorem dX4_layOut_85 : decode cX4_layOut 85 = .ok (.if_icmp .ge 37, 3) := by decide +kernel
theorem dX4_layOut_88 : decode cX4_layOut 88 = .ok (.aload_n 0, 1) := by decide +kernel
theorem dX4_layOut_89 : decode cX4_layOut 89 = .ok (.getfield 27, 3) := by decide +kernel
theorem dX4_layOut_92 : decode cX4_layOut 92 = .ok (.iload 4, 2) := by decide +kernel
theorem dX4_layOut_94 : decode cX4_layOut 94 = .ok (.iaload, 1) := by decide +kernel
theorem dX4_layOut_95 : decode cX4_layOut 95 = .ok (.ifCond .le 21, 3) := by decide +kernel
theorem dX4_layOut_98 : decode cX4_layOut 98 = .ok (.aload_n 0, 1) := by decide +kernel
theorem dX4_layOut_99 : decode cX4_layOut 99 = .ok (.iload 4, 2) := by decide +kernel
theorem dX4_layOut_101 : decode cX4_layOut 101 = .ok (.iload 4, 2) := by decide +kernel
theorem dX4_layOut_103 : decode cX4_layOut 103 = .ok (.aload_n 0, 1) := by decide +kernel
theorem dX4_layOut_104 : decode cX4_layOut 104 = .ok (.getfield 27, 3) := by decide +kernel
theorem dX4_layOut_107 : decode cX4_layOut 107 = .ok (.iload 4, 2) := by decide +kernel
theorem dX4_layOut_109 : decode cX4_layOut 109 = .ok (.iaload, 1) := by decide +kernel
theorem dX4_layOut_110 : decode cX4_layOut 110 = .ok (.iconst 0, 1) := by decide +kernel
theorem dX4_layOut_111 : decode cX4_layOut 111 = .ok (.iconst (-1), 1) := by decide +kernel
theorem dX4_layOut_112 : decode cX4_layOut 112 = .ok (.invokevirtual 96, 3) := by decide +kernel
theorem dX4_layOut_115 : decode cX4_layOut 115 = .ok (.pop, 1) := by decide +kernel
theorem dX4_layOut_116 : decode cX4_layOut 116 = .ok (.iinc 4 1, 3) := by decide +kernel
theorem dX4_layOut_119 : decode cX4_layOut 119 = .ok (.goto (-38), 3) := by decide +kernel
theorem dX4_layOut_122 : decode cX4_layOut 122 = .ok (.return_, 1) := by decide +kernel
theorem dX4_line_0 : decode cX4_line 0 = .ok (.aload_n 0, 1) := by decide +kernel
theorem dX4_line_1 : decode cX4_line 1 = .ok (.getfield 93, 3) := by decide +kernel
theorem dX4_line_4 : decode cX4_line 4 = .ok (.aload_n 0, 1) := by decide +kernel
theorem dX4_line_5 : decode cX4_line 5 = .ok (.getfield 69, 3) := by decide +kernel
theorem dX4_line_8 : decode cX4_line 8 = .ok (.iadd, 1) := by decide +kernel
theorem dX4_line_9 : decode cX4_line 9 = .ok (.bipush 127, 2) := by decide +kernel
theorem dX4_line_11 : decode cX4_line 11 = .ok (.iand, 1) := by decide +kernel
theorem dX4_line_12 : decode cX4_line 12 = .ok (.istore 6, 2) := by decide +kernel
theorem dX4_line_14 : decode cX4_line 14 = .ok (.aload_n 0, 1) := by decide +kernel
theorem dX4_line_15 : decode cX4_line 15 = .ok (.getfield 11, 3) := by decide +kernel
theorem dX4_line_18 : decode cX4_line 18 = .ok (.iload 6, 2) := by decide +kernel
theorem dX4_line_20 : decode cX4_line 20 = .ok (.iload_n 1, 1) := by decide +kernel
theorem dX4_line_21 : decode cX4_line 21 = .ok (.iastore, 1) := by decide +kernel
theorem dX4_line_22 : decode cX4_line 22 = .ok (.aload_n 0, 1) := by decide +kernel
theorem dX4_line_23 : decode cX4_line 23 = .ok (.getfield 15, 3) := by decide +kernel
theorem dX4_line_26 : decode cX4_line 26 = .ok (.iload 6, 2) := by decide +kernel
theorem dX4_line_28 : decode cX4_line 28 = .ok (.iload_n 2, 1) := by decide +kernel
theorem dX4_line_29 : decode cX4_line 29 = .ok (.iastore, 1) := by decide +kernel
theorem dX4_line_30 : decode cX4_line 30 = .ok (.aload_n 0, 1) := by decide +kernel
theorem dX4_line_31 : decode cX4_line 31 = .ok (.getfield 18, 3) := by decide +kernel
theorem dX4_line_34 : decode cX4_line 34 = .ok (.iload 6, 2) := by decide +kernel
theorem dX4_line_36 : decode cX4_line 36 = .ok (.iload_n 3, 1) := by decide +kernel
theorem dX4_line_37 : decode cX4_line 37 = .ok (.iastore, 1) := by decide +kernel
theorem dX4_line_38 : decode cX4_line 38 = .ok (.aload_n 0, 1) := by decide +kernel
theorem dX4_line_39 : decode cX4_line 39 = .ok (.getfield 21, 3) := by decide +kernel
theorem dX4_line_42 : decode cX4_line 42 = .ok (.iload 6, 2) := by decide +kernel
theorem dX4_line_44 : decode cX4_line 44 = .ok (.iload 4, 2) := by decide +kernel
theorem dX4_line_46 : decode cX4_line 46 = .ok (.iastore, 1) := by decide +kernel
theorem dX4_line_47 : decode cX4_line 47 = .ok (.aload_n 0, 1) := by decide +kernel
theorem dX4_line_48 : decode cX4_line 48 = .ok (.getfield 24, 3) := by decide +kernel
theorem dX4_line_51 : decode cX4_line 51 = .ok (.iload 6, 2) := by decide +kernel
theorem dX4_line_53 : decode cX4_line 53 = .ok (.iload 5, 2) := by decide +kernel
theorem dX4_line_55 : decode cX4_line 55 = .ok (.iastore, 1) := by decide +kernel
theorem dX4_line_56 : decode cX4_line 56 = .ok (.aload_n 0, 1) := by decide +kernel
theorem dX4_line_57 : decode cX4_line 57 = .ok (.dup, 1) := by decide +kernel
theorem dX4_line_58 : decode cX4_line 58 = .ok (.getfield 69, 3) := by decide +kernel
theorem dX4_line_61 : decode cX4_line 61 = .ok (.iconst 1, 1) := by decide +kernel
theorem dX4_line_62 : decode cX4_line 62 = .ok (.iadd, 1) := by decide +kernel
theorem dX4_line_63 : decode cX4_line 63 = .ok (.putfield 69, 3) := by decide +kernel
theorem dX4_line_66 : decode cX4_line 66 = .ok (.iload 6, 2) := by decide +kernel
theorem dX4_line_68 : decode cX4_line 68 = .ok (.ireturn, 1) := by decide +kernel
theorem dX4_takeFirst_0 : decode cX4_takeFirst 0 = .ok (.aload_n 0, 1) := by decide +kernel
theorem dX4_takeFirst_1 : decode cX4_takeFirst 1 = .ok (.getfield 93, 3) := by decide +kernel
theorem dX4_takeFirst_4 : decode cX4_takeFirst 4 = .ok (.istore 4, 2) := by decide +kernel
theorem dX4_takeFirst_6 : decode cX4_takeFirst 6 = .ok (.aload_n 0, 1) := by decide +kernel
theorem dX4_takeFirst_7 : decode cX4_takeFirst 7 = .ok (.aload_n 0, 1) := by decide +kernel
theorem dX4_takeFirst_8 : decode cX4_takeFirst 8 = .ok (.getfield 93, 3) := by decide +kernel
theorem dX4_takeFirst_11 : decode cX4_takeFirst 11 = .ok (.iconst 1, 1) := by decide +kernel
theorem dX4_takeFirst_12 : decode cX4_takeFirst 12 = .ok (.iadd, 1) := by decide +kernel
theorem dX4_takeFirst_13 : decode cX4_takeFirst 13 = .ok (.bipush 127, 2) := by decide +kernel
theorem dX4_takeFirst_15 : decode cX4_takeFirst 15 = .ok (.iand, 1) := by decide +kernel
theorem dX4_takeFirst_16 : decode cX4_takeFirst 16 = .ok (.putfield 93, 3) := by decide +kernel
theorem dX4_takeFirst_19 : decode cX4_takeFirst 19 = .ok (.aload_n 0, 1) := by decide +kernel
theorem dX4_takeFirst_20 : decode cX4_takeFirst 20 = .ok (.dup, 1) := by decide +kernel
theorem dX4_takeFirst_21 : decode cX4_takeFirst 21 = .ok (.getfield 69, 3) := by decide +kernel
theorem dX4_takeFirst_24 : decode cX4_takeFirst 24 = .ok (.iconst 1, 1) := by decide +kernel
theorem dX4_takeFirst_25 : decode cX4_takeFirst 25 = .ok (.isub, 1) := by decide +kernel
theorem dX4_takeFirst_26 : decode cX4_takeFirst 26 = .ok (.putfield 69, 3) := by decide +kernel
theorem dX4_takeFirst_29 : decode cX4_takeFirst 29 = .ok (.aload_n 0, 1) := by decide +kernel
theorem dX4_takeFirst_30 : decode cX4_takeFirst 30 = .ok (.getfield 15, 3) := by decide +kernel
theorem dX4_takeFirst_33 : decode cX4_takeFirst 33 = .ok (.iload 4, 2) := by decide +kernel
theorem dX4_takeFirst_35 : decode cX4_takeFirst 35 = .ok (.iaload, 1) := by decide +kernel
theorem dX4_takeFirst_36 : decode cX4_takeFirst 36 = .ok (.istore 5, 2) := by decide +kernel
theorem dX4_takeFirst_38 : decode cX4_takeFirst 38 = .ok (.iload 5, 2) := by decide +kernel
theorem dX4_takeFirst_40 : decode cX4_takeFirst 40 = .ok (.aload_n 0, 1) := by decide +kernel
theorem dX4_takeFirst_41 : decode cX4_takeFirst 41 = .ok (.getfield 11, 3) := by decide +kernel
theorem dX4_takeFirst_44 : decode cX4_takeFirst 44 = .ok (.iload 4, 2) := by decide +kernel
theorem dX4_takeFirst_46 : decode cX4_takeFirst 46 = .ok (.iaload, 1) := by decide +kernel
theorem dX4_takeFirst_47 : decode cX4_takeFirst 47 = .ok (.if_icmp .eq 66, 3) := by decide +kernel
theorem dX4_takeFirst_50 : decode cX4_takeFirst 50 = .ok (.aload_n 0, 1) := by decide +kernel
theorem dX4_takeFirst_51 : decode cX4_takeFirst 51 = .ok (.getfield 18, 3) := by decide +kernel
theorem dX4_takeFirst_54 : decode cX4_takeFirst 54 = .ok (.iload 4, 2) := by decide +kernel
theorem dX4_takeFirst_56 : decode cX4_takeFirst 56 = .ok (.iaload, 1) := by decide +kernel
theorem dX4_takeFirst_57 : decode cX4_takeFirst 57 = .ok (.aload_n 0, 1) := by decide +kernel
theorem dX4_takeFirst_58 : decode cX4_takeFirst 58 = .ok (.getfield 27, 3) := by decide +kernel
theorem dX4_takeFirst_61 : decode cX4_takeFirst 61 = .ok (.iload 5, 2) := by decide +kernel
theorem dX4_takeFirst_63 : decode cX4_takeFirst 63 = .ok (.iaload, 1) := by decide +kernel
theorem dX4_takeFirst_64 : decode cX4_takeFirst 64 = .ok (.ineg, 1) := by decide +kernel
theorem dX4_takeFirst_65 : decode cX4_takeFirst 65 = .ok (.iconst 0, 1) := by decide +kernel
theorem dX4_takeFirst_66 : decode cX4_takeFirst 66 = .ok (.invokestatic 100, 3) := by decide +kernel
theorem dX4_takeFirst_69 : decode cX4_takeFirst 69 = .ok (.invokestatic 105, 3) := by decide +kernel
theorem dX4_takeFirst_72 : decode cX4_takeFirst 72 = .ok (.istore 6, 2) := by decide +kernel
theorem dX4_takeFirst_74 : decode cX4_takeFirst 74 = .ok (.iload 6, 2) := by decide +kernel
theorem dX4_takeFirst_76 : decode cX4_takeFirst 76 = .ok (.ifCond .le 37, 3) := by decide +kernel
theorem dX4_takeFirst_79 : decode cX4_takeFirst 79 = .ok (.aload_n 0, 1) := by decide +kernel
theorem dX4_takeFirst_80 : decode cX4_takeFirst 80 = .ok (.getfield 27, 3) := by decide +kernel
theorem dX4_takeFirst_83 : decode cX4_takeFirst 83 = .ok (.iload 5, 2) := by decide +kernel
theorem dX4_takeFirst_85 : decode cX4_takeFirst 85 = .ok (.dup2, 1) := by decide +kernel
theorem dX4_takeFirst_86 : decode cX4_takeFirst 86 = .ok (.iaload, 1) := by decide +kernel
theorem dX4_takeFirst_87 : decode cX4_takeFirst 87 = .ok (.iload 6, 2) := by decide +kernel
theorem dX4_takeFirst_89 : decode cX4_takeFirst 89 = .ok (.iadd, 1) := by decide +kernel
theorem dX4_takeFirst_90 : decode cX4_takeFirst 90 = .ok (.iastore, 1) := by decide +kernel
theorem dX4_takeFirst_91 : decode cX4_takeFirst 91 = .ok (.aload_n 0, 1) := by decide +kernel
theorem dX4_takeFirst_92 : decode cX4_takeFirst 92 = .ok (.getfield 18, 3) := by decide +kernel
theorem dX4_takeFirst_95 : decode cX4_takeFirst 95 = .ok (.iload 4, 2) := by decide +kernel
theorem dX4_takeFirst_97 : decode cX4_takeFirst 97 = .ok (.dup2, 1) := by decide +kernel
theorem dX4_takeFirst_98 : decode cX4_takeFirst 98 = .ok (.iaload, 1) := by decide +kernel
theorem dX4_takeFirst_99 : decode cX4_takeFirst 99 = .ok (.iload 6, 2) := by decide +kernel
theorem dX4_takeFirst_101 : decode cX4_takeFirst 101 = .ok (.isub, 1) := by decide +kernel
theorem dX4_takeFirst_102 : decode cX4_takeFirst 102 = .ok (.iastore, 1) := by decide +kernel
theorem dX4_takeFirst_103 : decode cX4_takeFirst 103 = .ok (.aload_n 0, 1) := by decide +kernel
theorem dX4_takeFirst_104 : decode cX4_takeFirst 104 = .ok (.aload_n 1, 1) := by decide +kernel
theorem dX4_takeFirst_105 : decode cX4_takeFirst 105 = .ok (.iload_n 2, 1) := by decide +kernel
theorem dX4_takeFirst_106 : decode cX4_takeFirst 106 = .ok (.iload 4, 2) := by decide +kernel
theorem dX4_takeFirst_108 : decode cX4_takeFirst 108 = .ok (.iload 6, 2) := by decide +kernel
theorem dX4_takeFirst_110 : decode cX4_takeFirst 110 = .ok (.invokevirtual 108, 3) := by decide +kernel
theorem dX4_takeFirst_113 : decode cX4_takeFirst 113 = .ok (.aload_n 0, 1) := by decide +kernel
theorem dX4_takeFirst_114 : decode cX4_takeFirst 114 = .ok (.aload_n 1, 1) := by decide +kernel
theorem dX4_takeFirst_115 : decode cX4_takeFirst 115 = .ok (.iload_n 2, 1) := by decide +kernel
theorem dX4_takeFirst_116 : decode cX4_takeFirst 116 = .ok (.iload_n 3, 1) := by decide +kernel
theorem dX4_takeFirst_117 : decode cX4_takeFirst 117 = .ok (.iload 4, 2) := by decide +kernel
theorem dX4_takeFirst_119 : decode cX4_takeFirst 119 = .ok (.invokevirtual 112, 3) := by decide +kernel
theorem dX4_takeFirst_122 : decode cX4_takeFirst 122 = .ok (.return_, 1) := by decide +kernel
theorem dX4_noteDelivery_0 : decode cX4_noteDelivery 0 = .ok (.aload_n 1, 1) := by decide +kernel
theorem dX4_noteDelivery_1 : decode cX4_noteDelivery 1 = .ok (.getfield 49, 3) := by decide +kernel
theorem dX4_noteDelivery_4 : decode cX4_noteDelivery 4 = .ok (.astore 5, 2) := by decide +kernel
theorem dX4_noteDelivery_6 : decode cX4_noteDelivery 6 = .ok (.aload 5, 2) := by decide +kernel
theorem dX4_noteDelivery_8 : decode cX4_noteDelivery 8 = .ok (.getfield 43, 3) := by decide +kernel
theorem dX4_noteDelivery_11 : decode cX4_noteDelivery 11 = .ok (.istore 6, 2) := by decide +kernel
theorem dX4_noteDelivery_13 : decode cX4_noteDelivery 13 = .ok (.aload 5, 2) := by decide +kernel
theorem dX4_noteDelivery_15 : decode cX4_noteDelivery 15 = .ok (.dup, 1) := by decide +kernel
theorem dX4_noteDelivery_16 : decode cX4_noteDelivery 16 = .ok (.getfield 43, 3) := by decide +kernel
theorem dX4_noteDelivery_19 : decode cX4_noteDelivery 19 = .ok (.iconst 1, 1) := by decide +kernel
theorem dX4_noteDelivery_20 : decode cX4_noteDelivery 20 = .ok (.iadd, 1) := by decide +kernel
theorem dX4_noteDelivery_21 : decode cX4_noteDelivery 21 = .ok (.putfield 43, 3) := by decide +kernel
theorem dX4_noteDelivery_24 : decode cX4_noteDelivery 24 = .ok (.aload 5, 2) := by decide +kernel
theorem dX4_noteDelivery_26 : decode cX4_noteDelivery 26 = .ok (.iload 6, 2) := by decide +kernel
theorem dX4_noteDelivery_28 : decode cX4_noteDelivery 28 = .ok (.iconst 0, 1) := by decide +kernel
theorem dX4_noteDelivery_29 : decode cX4_noteDelivery 29 = .ok (.iload_n 2, 1) := by decide +kernel
theorem dX4_noteDelivery_30 : decode cX4_noteDelivery 30 = .ok (.invokevirtual 115, 3) := by decide +kernel
theorem dX4_noteDelivery_33 : decode cX4_noteDelivery 33 = .ok (.aload 5, 2) := by decide +kernel
theorem dX4_noteDelivery_35 : decode cX4_noteDelivery 35 = .ok (.iload 6, 2) := by decide +kernel
theorem dX4_noteDelivery_37 : decode cX4_noteDelivery 37 = .ok (.iconst 1, 1) := by decide +kernel
theorem dX4_noteDelivery_38 : decode cX4_noteDelivery 38 = .ok (.aload_n 0, 1) := by decide +kernel
theorem dX4_noteDelivery_39 : decode cX4_noteDelivery 39 = .ok (.getfield 15, 3) := by decide +kernel
theorem dX4_noteDelivery_42 : decode cX4_noteDelivery 42 = .ok (.iload_n 3, 1) := by decide +kernel
theorem dX4_noteDelivery_43 : decode cX4_noteDelivery 43 = .ok (.iaload, 1) := by decide +kernel
theorem dX4_noteDelivery_44 : decode cX4_noteDelivery 44 = .ok (.invokevirtual 115, 3) := by decide +kernel
theorem dX4_noteDelivery_47 : decode cX4_noteDelivery 47 = .ok (.aload 5, 2) := by decide +kernel
theorem dX4_noteDelivery_49 : decode cX4_noteDelivery 49 = .ok (.iload 6, 2) := by decide +kernel
theorem dX4_noteDelivery_51 : decode cX4_noteDelivery 51 = .ok (.iconst 2, 1) := by decide +kernel
theorem dX4_noteDelivery_52 : decode cX4_noteDelivery 52 = .ok (.aload_n 0, 1) := by decide +kernel
theorem dX4_noteDelivery_53 : decode cX4_noteDelivery 53 = .ok (.getfield 11, 3) := by decide +kernel
theorem dX4_noteDelivery_56 : decode cX4_noteDelivery 56 = .ok (.iload_n 3, 1) := by decide +kernel
theorem dX4_noteDelivery_57 : decode cX4_noteDelivery 57 = .ok (.iaload, 1) := by decide +kernel
theorem dX4_noteDelivery_58 : decode cX4_noteDelivery 58 = .ok (.invokevirtual 115, 3) := by decide +kernel
theorem dX4_noteDelivery_61 : decode cX4_noteDelivery 61 = .ok (.aload 5, 2) := by decide +kernel
theorem dX4_noteDelivery_63 : decode cX4_noteDelivery 63 = .ok (.iload 6, 2) := by decide +kernel
theorem dX4_noteDelivery_65 : decode cX4_noteDelivery 65 = .ok (.iconst 3, 1) := by decide +kernel
theorem dX4_noteDelivery_66 : decode cX4_noteDelivery 66 = .ok (.iload 4, 2) := by decide +kernel
theorem dX4_noteDelivery_68 : decode cX4_noteDelivery 68 = .ok (.invokevirtual 115, 3) := by decide +kernel
theorem dX4_noteDelivery_71 : decode cX4_noteDelivery 71 = .ok (.aload 5, 2) := by decide +kernel
theorem dX4_noteDelivery_73 : decode cX4_noteDelivery 73 = .ok (.iload 6, 2) := by decide +kernel
theorem dX4_noteDelivery_75 : decode cX4_noteDelivery 75 = .ok (.iconst 4, 1) := by decide +kernel
theorem dX4_noteDelivery_76 : decode cX4_noteDelivery 76 = .ok (.aload_n 0, 1) := by decide +kernel
theorem dX4_noteDelivery_77 : decode cX4_noteDelivery 77 = .ok (.getfield 21, 3) := by decide +kernel
theorem dX4_noteDelivery_80 : decode cX4_noteDelivery 80 = .ok (.iload_n 3, 1) := by decide +kernel
theorem dX4_noteDelivery_81 : decode cX4_noteDelivery 81 = .ok (.iaload, 1) := by decide +kernel
theorem dX4_noteDelivery_82 : decode cX4_noteDelivery 82 = .ok (.invokevirtual 115, 3) := by decide +kernel
theorem dX4_noteDelivery_85 : decode cX4_noteDelivery 85 = .ok (.aload 5, 2) := by decide +kernel
theorem dX4_noteDelivery_87 : decode cX4_noteDelivery 87 = .ok (.iload 6, 2) := by decide +kernel
theorem dX4_noteDelivery_89 : decode cX4_noteDelivery 89 = .ok (.iconst 5, 1) := by decide +kernel
theorem dX4_noteDelivery_90 : decode cX4_noteDelivery 90 = .ok (.aload_n 0, 1) := by decide +kernel
theorem dX4_noteDelivery_91 : decode cX4_noteDelivery 91 = .ok (.getfield 24, 3) := by decide +kernel
theorem dX4_noteDelivery_94 : decode cX4_noteDelivery 94 = .ok (.iload_n 3, 1) := by decide +kernel
theorem dX4_noteDelivery_95 : decode cX4_noteDelivery 95 = .ok (.iaload, 1) := by decide +kernel
theorem dX4_noteDelivery_96 : decode cX4_noteDelivery 96 = .ok (.invokevirtual 115, 3) := by decide +kernel
theorem dX4_noteDelivery_99 : decode cX4_noteDelivery 99 = .ok (.return_, 1) := by decide +kernel
theorem dX4_passOn_0 : decode cX4_passOn 0 = .ok (.aload_n 0, 1) := by decide +kernel
theorem dX4_passOn_1 : decode cX4_passOn 1 = .ok (.getfield 15, 3) := by decide +kernel
theorem dX4_passOn_4 : decode cX4_passOn 4 = .ok (.iload 4, 2) := by decide +kernel
theorem dX4_passOn_6 : decode cX4_passOn 6 = .ok (.iaload, 1) := by decide +kernel
theorem dX4_passOn_7 : decode cX4_passOn 7 = .ok (.istore 5, 2) := by decide +kernel
theorem dX4_passOn_9 : decode cX4_passOn 9 = .ok (.aload_n 0, 1) := by decide +kernel
theorem dX4_passOn_10 : decode cX4_passOn 10 = .ok (.getfield 21, 3) := by decide +kernel
theorem dX4_passOn_13 : decode cX4_passOn 13 = .ok (.iload 4, 2) := by decide +kernel
theorem dX4_passOn_15 : decode cX4_passOn 15 = .ok (.iaload, 1) := by decide +kernel
theorem dX4_passOn_16 : decode cX4_passOn 16 = .ok (.aload_n 1, 1) := by decide +kernel
theorem dX4_passOn_17 : decode cX4_passOn 17 = .ok (.getfield 119, 3) := by decide +kernel
theorem dX4_passOn_20 : decode cX4_passOn 20 = .ok (.getfield 123, 3) := by decide +kernel
theorem dX4_passOn_23 : decode cX4_passOn 23 = .ok (.iload 5, 2) := by decide +kernel
theorem dX4_passOn_25 : decode cX4_passOn 25 = .ok (.iaload, 1) := by decide +kernel
theorem dX4_passOn_26 : decode cX4_passOn 26 = .ok (.iadd, 1) := by decide +kernel
theorem dX4_passOn_27 : decode cX4_passOn 27 = .ok (.istore 6, 2) := by decide +kernel
theorem dX4_passOn_29 : decode cX4_passOn 29 = .ok (.aload_n 0, 1) := by decide +kernel
theorem dX4_passOn_30 : decode cX4_passOn 30 = .ok (.getfield 21, 3) := by decide +kernel
theorem dX4_passOn_33 : decode cX4_passOn 33 = .ok (.iload 4, 2) := by decide +kernel
theorem dX4_passOn_35 : decode cX4_passOn 35 = .ok (.iaload, 1) := by decide +kernel
theorem dX4_passOn_36 : decode cX4_passOn 36 = .ok (.iload_n 3, 1) := by decide +kernel
theorem dX4_passOn_37 : decode cX4_passOn 37 = .ok (.if_icmp .gt 13, 3) := by decide +kernel
theorem dX4_passOn_40 : decode cX4_passOn 40 = .ok (.iload 6, 2) := by decide +kernel
theorem dX4_passOn_42 : decode cX4_passOn 42 = .ok (.iload_n 3, 1) := by decide +kernel
theorem dX4_passOn_43 : decode cX4_passOn 43 = .ok (.if_icmp .le 7, 3) := by decide +kernel
theorem dX4_passOn_46 : decode cX4_passOn 46 = .ok (.iconst 1, 1) := by decide +kernel
theorem dX4_passOn_47 : decode cX4_passOn 47 = .ok (.goto 4, 3) := by decide +kernel
theorem dX4_passOn_50 : decode cX4_passOn 50 = .ok (.iconst 0, 1) := by decide +kernel
theorem dX4_passOn_51 : decode cX4_passOn 51 = .ok (.istore 7, 2) := by decide +kernel
theorem dX4_passOn_53 : decode cX4_passOn 53 = .ok (.iload 7, 2) := by decide +kernel
theorem dX4_passOn_55 : decode cX4_passOn 55 = .ok (.ifCond .eq 19, 3) := by decide +kernel
theorem dX4_passOn_58 : decode cX4_passOn 58 = .ok (.aload_n 0, 1) := by decide +kernel
theorem dX4_passOn_59 : decode cX4_passOn 59 = .ok (.getfield 24, 3) := by decide +kernel
theorem dX4_passOn_62 : decode cX4_passOn 62 = .ok (.iload 4, 2) := by decide +kernel
theorem dX4_passOn_64 : decode cX4_passOn 64 = .ok (.iaload, 1) := by decide +kernel
theorem dX4_passOn_65 : decode cX4_passOn 65 = .ok (.iconst (-1), 1) := by decide +kernel
theorem dX4_passOn_66 : decode cX4_passOn 66 = .ok (.if_icmp .ne 8, 3) := by decide +kernel
theorem dX4_passOn_69 : decode cX4_passOn 69 = .ok (.iload 5, 2) := by decide +kernel
theorem dX4_passOn_71 : decode cX4_passOn 71 = .ok (.goto 10, 3) := by decide +kernel
theorem dX4_passOn_74 : decode cX4_passOn 74 = .ok (.aload_n 0, 1) := by decide +kernel
theorem dX4_passOn_75 : decode cX4_passOn 75 = .ok (.getfield 24, 3) := by decide +kernel
theorem dX4_passOn_78 : decode cX4_passOn 78 = .ok (.iload 4, 2) := by decide +kernel
theorem dX4_passOn_80 : decode cX4_passOn 80 = .ok (.iaload, 1) := by decide +kernel
theorem dX4_passOn_81 : decode cX4_passOn 81 = .ok (.istore 8, 2) := by decide +kernel
theorem dX4_passOn_83 : decode cX4_passOn 83 = .ok (.aload_n 0, 1) := by decide +kernel
theorem dX4_passOn_84 : decode cX4_passOn 84 = .ok (.getfield 18, 3) := by decide +kernel
theorem dX4_passOn_87 : decode cX4_passOn 87 = .ok (.iload 4, 2) := by decide +kernel
theorem dX4_passOn_89 : decode cX4_passOn 89 = .ok (.iaload, 1) := by decide +kernel
theorem dX4_passOn_90 : decode cX4_passOn 90 = .ok (.istore 9, 2) := by decide +kernel
theorem dX4_passOn_92 : decode cX4_passOn 92 = .ok (.iconst 0, 1) := by decide +kernel
theorem dX4_passOn_93 : decode cX4_passOn 93 = .ok (.istore 10, 2) := by decide +kernel
theorem dX4_passOn_95 : decode cX4_passOn 95 = .ok (.iload 10, 2) := by decide +kernel
theorem dX4_passOn_97 : decode cX4_passOn 97 = .ok (.bipush 60, 2) := by decide +kernel
theorem dX4_passOn_99 : decode cX4_passOn 99 = .ok (.if_icmp .ge 109, 3) := by decide +kernel
theorem dX4_passOn_102 : decode cX4_passOn 102 = .ok (.iload 9, 2) := by decide +kernel
theorem dX4_passOn_104 : decode cX4_passOn 104 = .ok (.ifCond .le 104, 3) := by decide +kernel
theorem dX4_passOn_107 : decode cX4_passOn 107 = .ok (.aload_n 0, 1) := by decide +kernel
theorem dX4_passOn_108 : decode cX4_passOn 108 = .ok (.getfield 30, 3) := by decide +kernel
theorem dX4_passOn_111 : decode cX4_passOn 111 = .ok (.iload 10, 2) := by decide +kernel
theorem dX4_passOn_113 : decode cX4_passOn 113 = .ok (.iaload, 1) := by decide +kernel
theorem dX4_passOn_114 : decode cX4_passOn 114 = .ok (.iload 9, 2) := by decide +kernel
theorem dX4_passOn_116 : decode cX4_passOn 116 = .ok (.invokestatic 105, 3) := by decide +kernel
theorem dX4_passOn_119 : decode cX4_passOn 119 = .ok (.istore 11, 2) := by decide +kernel
theorem dX4_passOn_121 : decode cX4_passOn 121 = .ok (.iload 11, 2) := by decide +kernel
theorem dX4_passOn_123 : decode cX4_passOn 123 = .ok (.ifCond .le 79, 3) := by decide +kernel
theorem dX4_passOn_126 : decode cX4_passOn 126 = .ok (.aload_n 1, 1) := by decide +kernel
theorem dX4_passOn_127 : decode cX4_passOn 127 = .ok (.getfield 75, 3) := by decide +kernel
theorem dX4_passOn_130 : decode cX4_passOn 130 = .ok (.iload 10, 2) := by decide +kernel
theorem dX4_passOn_132 : decode cX4_passOn 132 = .ok (.iconst 1, 1) := by decide +kernel
theorem dX4_passOn_133 : decode cX4_passOn 133 = .ok (.invokevirtual 89, 3) := by decide +kernel
theorem dX4_passOn_136 : decode cX4_passOn 136 = .ok (.iload 5, 2) := by decide +kernel
theorem dX4_passOn_138 : decode cX4_passOn 138 = .ok (.if_icmp .ne 64, 3) := by decide +kernel
theorem dX4_passOn_141 : decode cX4_passOn 141 = .ok (.aload_n 0, 1) := by decide +kernel
theorem dX4_passOn_142 : decode cX4_passOn 142 = .ok (.getfield 30, 3) := by decide +kernel
theorem dX4_passOn_145 : decode cX4_passOn 145 = .ok (.iload 10, 2) := by decide +kernel
theorem dX4_passOn_147 : decode cX4_passOn 147 = .ok (.dup2, 1) := by decide +kernel
theorem dX4_passOn_148 : decode cX4_passOn 148 = .ok (.iaload, 1) := by decide +kernel
theorem dX4_passOn_149 : decode cX4_passOn 149 = .ok (.iload 11, 2) := by decide +kernel
theorem dX4_passOn_151 : decode cX4_passOn 151 = .ok (.isub, 1) := by decide +kernel
theorem dX4_passOn_152 : decode cX4_passOn 152 = .ok (.iastore, 1) := by decide +kernel
theorem dX4_passOn_153 : decode cX4_passOn 153 = .ok (.iload 9, 2) := by decide +kernel
theorem dX4_passOn_155 : decode cX4_passOn 155 = .ok (.iload 11, 2) := by decide +kernel
theorem dX4_passOn_157 : decode cX4_passOn 157 = .ok (.isub, 1) := by decide +kernel
theorem dX4_passOn_158 : decode cX4_passOn 158 = .ok (.istore 9, 2) := by decide +kernel
theorem dX4_passOn_160 : decode cX4_passOn 160 = .ok (.aload_n 0, 1) := by decide +kernel
theorem dX4_passOn_161 : decode cX4_passOn 161 = .ok (.aload_n 0, 1) := by decide +kernel
theorem dX4_passOn_162 : decode cX4_passOn 162 = .ok (.getfield 11, 3) := by decide +kernel
theorem dX4_passOn_165 : decode cX4_passOn 165 = .ok (.iload 4, 2) := by decide +kernel
theorem dX4_passOn_167 : decode cX4_passOn 167 = .ok (.iaload, 1) := by decide +kernel
theorem dX4_passOn_168 : decode cX4_passOn 168 = .ok (.aload_n 1, 1) := by decide +kernel
theorem dX4_passOn_169 : decode cX4_passOn 169 = .ok (.getfield 75, 3) := by decide +kernel
theorem dX4_passOn_172 : decode cX4_passOn 172 = .ok (.iload 10, 2) := by decide +kernel
theorem dX4_passOn_174 : decode cX4_passOn 174 = .ok (.iconst 0, 1) := by decide +kernel
theorem dX4_passOn_175 : decode cX4_passOn 175 = .ok (.invokevirtual 89, 3) := by decide +kernel
theorem dX4_passOn_178 : decode cX4_passOn 178 = .ok (.iload 11, 2) := by decide +kernel
theorem dX4_passOn_180 : decode cX4_passOn 180 = .ok (.iload 6, 2) := by decide +kernel
theorem dX4_passOn_182 : decode cX4_passOn 182 = .ok (.iload 8, 2) := by decide +kernel
theorem dX4_passOn_184 : decode cX4_passOn 184 = .ok (.invokevirtual 96, 3) := by decide +kernel
theorem dX4_passOn_187 : decode cX4_passOn 187 = .ok (.istore 12, 2) := by decide +kernel
theorem dX4_passOn_189 : decode cX4_passOn 189 = .ok (.aload_n 0, 1) := by decide +kernel
theorem dX4_passOn_190 : decode cX4_passOn 190 = .ok (.aload_n 1, 1) := by decide +kernel
theorem dX4_passOn_191 : decode cX4_passOn 191 = .ok (.getfield 39, 3) := by decide +kernel
theorem dX4_passOn_194 : decode cX4_passOn 194 = .ok (.iload_n 2, 1) := by decide +kernel
theorem dX4_passOn_195 : decode cX4_passOn 195 = .ok (.iload 5, 2) := by decide +kernel
theorem dX4_passOn_197 : decode cX4_passOn 197 = .ok (.iload 12, 2) := by decide +kernel
theorem dX4_passOn_199 : decode cX4_passOn 199 = .ok (.invokevirtual 128, 3) := by decide +kernel
theorem dX4_passOn_202 : decode cX4_passOn 202 = .ok (.iinc 10 1, 3) := by decide +kernel
theorem dX4_passOn_205 : decode cX4_passOn 205 = .ok (.goto (-110), 3) := by decide +kernel
theorem dX4_passOn_208 : decode cX4_passOn 208 = .ok (.return_, 1) := by decide +kernel
theorem dX4_notePass_0 : decode cX4_notePass 0 = .ok (.aload_n 1, 1) := by decide +kernel
theorem dX4_notePass_1 : decode cX4_notePass 1 = .ok (.getfield 43, 3) := by decide +kernel
theorem dX4_notePass_4 : decode cX4_notePass 4 = .ok (.istore 5, 2) := by decide +kernel
theorem dX4_notePass_6 : decode cX4_notePass 6 = .ok (.aload_n 1, 1) := by decide +kernel
theorem dX4_notePass_7 : decode cX4_notePass 7 = .ok (.dup, 1) := by decide +kernel
theorem dX4_notePass_8 : decode cX4_notePass 8 = .ok (.getfield 43, 3) := by decide +kernel
theorem dX4_notePass_11 : decode cX4_notePass 11 = .ok (.iconst 1, 1) := by decide +kernel
theorem dX4_notePass_12 : decode cX4_notePass 12 = .ok (.iadd, 1) := by decide +kernel
theorem dX4_notePass_13 : decode cX4_notePass 13 = .ok (.putfield 43, 3) := by decide +kernel
theorem dX4_notePass_16 : decode cX4_notePass 16 = .ok (.aload_n 1, 1) := by decide +kernel
theorem dX4_notePass_17 : decode cX4_notePass 17 = .ok (.iload 5, 2) := by decide +kernel
theorem dX4_notePass_19 : decode cX4_notePass 19 = .ok (.iconst 0, 1) := by decide +kernel
theorem dX4_notePass_20 : decode cX4_notePass 20 = .ok (.iload_n 2, 1) := by decide +kernel
theorem dX4_notePass_21 : decode cX4_notePass 21 = .ok (.invokevirtual 115, 3) := by decide +kernel
theorem dX4_notePass_24 : decode cX4_notePass 24 = .ok (.aload_n 1, 1) := by decide +kernel
theorem dX4_notePass_25 : decode cX4_notePass 25 = .ok (.iload 5, 2) := by decide +kernel
theorem dX4_notePass_27 : decode cX4_notePass 27 = .ok (.iconst 1, 1) := by decide +kernel
theorem dX4_notePass_28 : decode cX4_notePass 28 = .ok (.iload_n 3, 1) := by decide +kernel
theorem dX4_notePass_29 : decode cX4_notePass 29 = .ok (.invokevirtual 115, 3) := by decide +kernel
theorem dX4_notePass_32 : decode cX4_notePass 32 = .ok (.aload_n 1, 1) := by decide +kernel
theorem dX4_notePass_33 : decode cX4_notePass 33 = .ok (.iload 5, 2) := by decide +kernel
theorem dX4_notePass_35 : decode cX4_notePass 35 = .ok (.iconst 2, 1) := by decide +kernel
theorem dX4_notePass_36 : decode cX4_notePass 36 = .ok (.aload_n 0, 1) := by decide +kernel
theorem dX4_notePass_37 : decode cX4_notePass 37 = .ok (.getfield 15, 3) := by decide +kernel
theorem dX4_notePass_40 : decode cX4_notePass 40 = .ok (.iload 4, 2) := by decide +kernel
theorem dX4_notePass_42 : decode cX4_notePass 42 = .ok (.iaload, 1) := by decide +kernel
theorem dX4_notePass_43 : decode cX4_notePass 43 = .ok (.invokevirtual 115, 3) := by decide +kernel
theorem dX4_notePass_46 : decode cX4_notePass 46 = .ok (.aload_n 1, 1) := by decide +kernel
theorem dX4_notePass_47 : decode cX4_notePass 47 = .ok (.iload 5, 2) := by decide +kernel
theorem dX4_notePass_49 : decode cX4_notePass 49 = .ok (.iconst 3, 1) := by decide +kernel
theorem dX4_notePass_50 : decode cX4_notePass 50 = .ok (.aload_n 0, 1) := by decide +kernel
theorem dX4_notePass_51 : decode cX4_notePass 51 = .ok (.getfield 11, 3) := by decide +kernel
theorem dX4_notePass_54 : decode cX4_notePass 54 = .ok (.iload 4, 2) := by decide +kernel
theorem dX4_notePass_56 : decode cX4_notePass 56 = .ok (.iaload, 1) := by decide +kernel
theorem dX4_notePass_57 : decode cX4_notePass 57 = .ok (.invokevirtual 115, 3) := by decide +kernel
theorem dX4_notePass_60 : decode cX4_notePass 60 = .ok (.aload_n 1, 1) := by decide +kernel
theorem dX4_notePass_61 : decode cX4_notePass 61 = .ok (.iload 5, 2) := by decide +kernel
theorem dX4_notePass_63 : decode cX4_notePass 63 = .ok (.iconst 4, 1) := by decide +kernel
theorem dX4_notePass_64 : decode cX4_notePass 64 = .ok (.aload_n 0, 1) := by decide +kernel
theorem dX4_notePass_65 : decode cX4_notePass 65 = .ok (.getfield 18, 3) := by decide +kernel
theorem dX4_notePass_68 : decode cX4_notePass 68 = .ok (.iload 4, 2) := by decide +kernel
theorem dX4_notePass_70 : decode cX4_notePass 70 = .ok (.iaload, 1) := by decide +kernel
theorem dX4_notePass_71 : decode cX4_notePass 71 = .ok (.invokevirtual 115, 3) := by decide +kernel
theorem dX4_notePass_74 : decode cX4_notePass 74 = .ok (.aload_n 1, 1) := by decide +kernel
theorem dX4_notePass_75 : decode cX4_notePass 75 = .ok (.iload 5, 2) := by decide +kernel
theorem dX4_notePass_77 : decode cX4_notePass 77 = .ok (.iconst 5, 1) := by decide +kernel
theorem dX4_notePass_78 : decode cX4_notePass 78 = .ok (.aload_n 0, 1) := by decide +kernel
theorem dX4_notePass_79 : decode cX4_notePass 79 = .ok (.getfield 21, 3) := by decide +kernel
theorem dX4_notePass_82 : decode cX4_notePass 82 = .ok (.iload 4, 2) := by decide +kernel
theorem dX4_notePass_84 : decode cX4_notePass 84 = .ok (.iaload, 1) := by decide +kernel
theorem dX4_notePass_85 : decode cX4_notePass 85 = .ok (.invokevirtual 115, 3) := by decide +kernel
theorem dX4_notePass_88 : decode cX4_notePass 88 = .ok (.aload_n 1, 1) := by decide +kernel
theorem dX4_notePass_89 : decode cX4_notePass 89 = .ok (.iload 5, 2) := by decide +kernel
theorem dX4_notePass_91 : decode cX4_notePass 91 = .ok (.bipush 6, 2) := by decide +kernel
theorem dX4_notePass_93 : decode cX4_notePass 93 = .ok (.aload_n 0, 1) := by decide +kernel
theorem dX4_notePass_94 : decode cX4_notePass 94 = .ok (.getfield 24, 3) := by decide +kernel
theorem dX4_notePass_97 : decode cX4_notePass 97 = .ok (.iload 4, 2) := by decide +kernel
theorem dX4_notePass_99 : decode cX4_notePass 99 = .ok (.iaload, 1) := by decide +kernel
theorem dX4_notePass_100 : decode cX4_notePass 100 = .ok (.invokevirtual 115, 3) := by decide +kernel
theorem dX4_notePass_103 : decode cX4_notePass 103 = .ok (.return_, 1) := by decide +kernel
theorem dX5_init_0 : decode cX5_init 0 = .ok (.aload_n 0, 1) := by decide +kernel
theorem dX5_init_1 : decode cX5_init 1 = .ok (.invokespecial 3, 3) := by decide +kernel
theorem dX5_init_4 : decode cX5_init 4 = .ok (.aload_n 0, 1) := by decide +kernel
theorem dX5_init_5 : decode cX5_init 5 = .ok (.new 9, 3) := by decide +kernel
theorem dX5_init_8 : decode cX5_init 8 = .ok (.dup, 1) := by decide +kernel
theorem dX5_init_9 : decode cX5_init 9 = .ok (.bipush 12, 2) := by decide +kernel
theorem dX5_init_11 : decode cX5_init 11 = .ok (.iconst 5, 1) := by decide +kernel
theorem dX5_init_12 : decode cX5_init 12 = .ok (.invokespecial 13, 3) := by decide +kernel
theorem dX5_init_15 : decode cX5_init 15 = .ok (.putfield 16, 3) := by decide +kernel
theorem dX5_init_18 : decode cX5_init 18 = .ok (.aload_n 0, 1) := by decide +kernel
theorem dX5_init_19 : decode cX5_init 19 = .ok (.sipush 1440, 3) := by decide +kernel
theorem dX5_init_22 : decode cX5_init 22 = .ok (.newarray .int, 2) := by decide +kernel
theorem dX5_init_24 : decode cX5_init 24 = .ok (.putfield 20, 3) := by decide +kernel
theorem dX5_init_27 : decode cX5_init 27 = .ok (.aload_n 0, 1) := by decide +kernel
theorem dX5_init_28 : decode cX5_init 28 = .ok (.bipush 10, 2) := by decide +kernel
theorem dX5_init_30 : decode cX5_init 30 = .ok (.newarray .int, 2) := by decide +kernel
theorem dX5_init_32 : decode cX5_init 32 = .ok (.putfield 24, 3) := by decide +kernel
theorem dX5_init_35 : decode cX5_init 35 = .ok (.aload_n 0, 1) := by decide +kernel
theorem dX5_init_36 : decode cX5_init 36 = .ok (.bipush 120, 2) := by decide +kernel
theorem dX5_init_38 : decode cX5_init 38 = .ok (.newarray .int, 2) := by decide +kernel
theorem dX5_init_40 : decode cX5_init 40 = .ok (.putfield 27, 3) := by decide +kernel
